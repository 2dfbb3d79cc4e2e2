/-! ===== the shape of the memory; its tables; the plain state of a memory (wip/tools/q/genst.py) ===== -/
def QF0 : Nat → zm_C := (fS 0 (fun _ => 0) (fun _ => 0)).1
def kd (v : Value) : Nat ⊕ Nat := match v with
  | .int _ => .inl 0
  | .long _ => .inl 1
  | .ref b => .inr b
  | _ => .inl 2
def sc (c : zm_C) : (Nat × List (Nat ⊕ Nat)) ⊕ (Nat × Nat × (Nat ⊕ (Nat → Option Nat))) := match c with
  | .inl p => .inl (p.1, p.2.map kd)
  | .inr p => .inr (p.1, p.2.1, match p.2.2 with
    | .inl _ => .inl 0
    | .inr (.inl _) => .inl 1
    | .inr (.inr f) => .inr f)
def qt (a : Nat) : Option (Nat × Nat × Nat) := if a = 8 then some (9, 20, 4) else if a = 30 then some (31, 20, 18) else if a = 52 then some (53, 2, 625) else if a = 62 then some (63, 220, 3) else if a = 283 then some (284, 440, 6) else if a = 740 then some (741, 12, 7) else if a = 761 then some (762, 40, 8) else if a = 803 then some (804, 20, 6) else if a = 828 then some (829, 60, 3) else if a = 889 then some (890, 16, 6) else if a = 910 then some (911, 20, 14) else if a = 931 then some (932, 20, 5) else if a = 952 then some (953, 50, 3) else if a = 1008 then some (1009, 40, 3) else if a = 1050 then some (1051, 40, 2) else if a = 1091 then some (1092, 40, 8) else if a = 1140 then some (1141, 8, 10) else if a = 1149 then some (1150, 8, 42) else if a = 1158 then some (1159, 8, 22) else if a = 1176 then some (1177, 20, 14) else if a = 1197 then some (1198, 20, 5) else if a = 1218 then some (1219, 50, 3) else if a = 1276 then some (1277, 60, 3) else if a = 1338 then some (1339, 4, 6) else if a = 1343 then some (1344, 400, 3) else if a = 1745 then some (1746, 400, 4) else if a = 2147 then some (2148, 4, 64) else none
def qown (a : Nat) : Nat := if Nat.ble 9 a && Nat.blt a 29 then 8 else if Nat.ble 31 a && Nat.blt a 51 then 30 else if Nat.ble 53 a && Nat.blt a 55 then 52 else if Nat.ble 63 a && Nat.blt a 283 then 62 else if Nat.ble 284 a && Nat.blt a 724 then 283 else if Nat.ble 741 a && Nat.blt a 753 then 740 else if Nat.ble 762 a && Nat.blt a 802 then 761 else if Nat.ble 804 a && Nat.blt a 824 then 803 else if Nat.ble 829 a && Nat.blt a 889 then 828 else if Nat.ble 890 a && Nat.blt a 906 then 889 else if Nat.ble 911 a && Nat.blt a 931 then 910 else if Nat.ble 932 a && Nat.blt a 952 then 931 else if Nat.ble 953 a && Nat.blt a 1003 then 952 else if Nat.ble 1009 a && Nat.blt a 1049 then 1008 else if Nat.ble 1051 a && Nat.blt a 1091 then 1050 else if Nat.ble 1092 a && Nat.blt a 1132 then 1091 else if Nat.ble 1141 a && Nat.blt a 1149 then 1140 else if Nat.ble 1150 a && Nat.blt a 1158 then 1149 else if Nat.ble 1159 a && Nat.blt a 1167 then 1158 else if Nat.ble 1177 a && Nat.blt a 1197 then 1176 else if Nat.ble 1198 a && Nat.blt a 1218 then 1197 else if Nat.ble 1219 a && Nat.blt a 1269 then 1218 else if Nat.ble 1277 a && Nat.blt a 1337 then 1276 else if Nat.ble 1339 a && Nat.blt a 1343 then 1338 else if Nat.ble 1344 a && Nat.blt a 1744 then 1343 else if Nat.ble 1746 a && Nat.blt a 2146 then 1745 else if Nat.ble 2148 a && Nat.blt a 2152 then 2147 else 0
def qD (a : Nat) : Bool := Nat.beq a 56 || Nat.beq a 57 || Nat.beq a 58 || Nat.beq a 59 || Nat.beq a 825 || Nat.beq a 826 || Nat.beq a 827 || Nat.beq a 2166 || Nat.beq a 2167 || Nat.beq a 2168 || Nat.beq a 2169 || Nat.beq a 2170 || Nat.beq a 2171 || Nat.beq a 2172 || Nat.beq a 2173
def TS (P : Nat → Nat) (a : Nat) : (Nat × List (Nat ⊕ Nat)) ⊕ (Nat × Nat × (Nat ⊕ (Nat → Option Nat))) := if a = 51 then .inl (2, [.inr 7, .inl 0, .inl 0, .inl 0, .inr 52, .inr 55, .inr (P 56), .inr (P 57), .inr (P 58), .inr (P 59), .inr 60, .inr 61, .inl 0, .inr 62, .inl 0, .inr 283, .inr 724, .inr 725, .inr 726]) else if a = 824 then .inl (0, [.inr 7, .inr 51, .inr 756, .inl 0, .inr (P 825), .inr (P 826), .inr (P 827), .inl 0, .inl 0, .inr 828, .inl 0, .inr 889, .inl 0, .inl 0, .inr 906, .inl 0, .inr 907, .inl 0, .inl 0]) else if a = 2157 then .inl (16, [.inl 0, .inr 2158, .inr 2159, .inr 2160, .inr 2161, .inr 2162, .inr 2163, .inr 2164, .inr 2165, .inl 0, .inl 0, .inl 0, .inl 0, .inl 0, .inr (P 2166), .inr (P 2167), .inr (P 2168), .inl 0, .inl 0, .inl 0, .inl 0, .inr (P 2169), .inr (P 2170), .inr (P 2171), .inl 0, .inr (P 2172), .inr (P 2173), .inl 0, .inr 2174, .inr 2175, .inl 0, .inr 2176, .inr 2177, .inr 2178, .inr 2179, .inl 0, .inr 2180, .inr 2181, .inr 2182, .inr 2183]) else sc (QF0 a)
def rdv (c : zm_C) (i : Int) : Int := match c with
  | .inl p => if 0 ≤ i then (match p.2[i.toNat]? with
    | some (.int v) => v.toInt
    | some (.long v) => v.toInt
    | _ => 0) else 0
  | .inr p => match p.2.2 with
    | .inl f => if 0 ≤ i ∧ i < p.2.1 then (f i.toNat).toInt else if i = -1 then p.2.1 else 0
    | .inr (.inl f) => if 0 ≤ i ∧ i < p.2.1 then (f i.toNat).toInt else if i = -1 then p.2.1 else 0
    | .inr (.inr _) => 0
def qM (P : Nat → Nat) (S : zm_S) (a : Nat) (i j : Int) : Int := match qt a with
  | some (b, n, _) => if 0 ≤ i ∧ i < n then rdv (S.1 (b + i.toNat)) j else 0
  | none => if qown a = 0 ∧ a < 2333 ∧ j = 0 then rdv (S.1 (P a)) i else 0
def Sh (L : Nat) (xs : Nat → Int32) (P : Nat → Nat) (S : zm_S) : Prop := 2333 ≤ S.2 ∧ S.1 0 = .inr (0, L, .inl xs) ∧ (∀ a, 1 ≤ a → a < 6 → S.1 a = QF0 a) ∧ (∀ a, 6 ≤ a → a < 2333 → sc (S.1 a) = TS P a) ∧ (∀ a, qD a = false → P a = a) ∧ (∀ d, qD d = true → 6 ≤ P d ∧ P d < S.2 ∧ (qD (P d) = true ∨ 2333 ≤ P d) ∧ (if d = 825 ∨ d = 826 then ∃ n, sc (S.1 (P d)) = .inr (0, n, .inl 0) else if d = 827 then ∃ n, sc (S.1 (P d)) = .inr (1, n, .inl 1) else sc (S.1 (P d)) = sc (QF0 d))) ∧ (∀ d e, qD d = true → qD e = true → P d = P e → d = e)
set_option maxRecDepth 100000 in
theorem qown_of {a b n w x : Nat} (h : qt a = some (b, n, w)) (hx : x < n) : qown (b + x) = a ∧ a ≠ 0 := by
  unfold qt at h
  by_cases h8 : a = 8
  · rw [if_pos h8] at h
    simp only [Option.some.injEq, Prod.mk.injEq] at h
    obtain ⟨rfl, rfl, rfl⟩ := h
    refine ⟨?_, by omega⟩
    subst h8
    unfold qown
    rw [if_pos (by rw [Bool.and_eq_true]; exact ⟨Nat.ble_eq_true_of_le (by omega), Nat.ble_eq_true_of_le (by omega)⟩)]
  rw [if_neg h8] at h
  by_cases h30 : a = 30
  · rw [if_pos h30] at h
    simp only [Option.some.injEq, Prod.mk.injEq] at h
    obtain ⟨rfl, rfl, rfl⟩ := h
    refine ⟨?_, by omega⟩
    subst h30
    unfold qown
    rw [if_neg (by rw [Bool.and_eq_true]; rintro ⟨-, q⟩; have q2 := Nat.le_of_ble_eq_true q; omega)]
    rw [if_pos (by rw [Bool.and_eq_true]; exact ⟨Nat.ble_eq_true_of_le (by omega), Nat.ble_eq_true_of_le (by omega)⟩)]
  rw [if_neg h30] at h
  by_cases h52 : a = 52
  · rw [if_pos h52] at h
    simp only [Option.some.injEq, Prod.mk.injEq] at h
    obtain ⟨rfl, rfl, rfl⟩ := h
    refine ⟨?_, by omega⟩
    subst h52
    unfold qown
    rw [if_neg (by rw [Bool.and_eq_true]; rintro ⟨-, q⟩; have q2 := Nat.le_of_ble_eq_true q; omega)]
    rw [if_neg (by rw [Bool.and_eq_true]; rintro ⟨-, q⟩; have q2 := Nat.le_of_ble_eq_true q; omega)]
    rw [if_pos (by rw [Bool.and_eq_true]; exact ⟨Nat.ble_eq_true_of_le (by omega), Nat.ble_eq_true_of_le (by omega)⟩)]
  rw [if_neg h52] at h
  by_cases h62 : a = 62
  · rw [if_pos h62] at h
    simp only [Option.some.injEq, Prod.mk.injEq] at h
    obtain ⟨rfl, rfl, rfl⟩ := h
    refine ⟨?_, by omega⟩
    subst h62
    unfold qown
    rw [if_neg (by rw [Bool.and_eq_true]; rintro ⟨-, q⟩; have q2 := Nat.le_of_ble_eq_true q; omega)]
    rw [if_neg (by rw [Bool.and_eq_true]; rintro ⟨-, q⟩; have q2 := Nat.le_of_ble_eq_true q; omega)]
    rw [if_neg (by rw [Bool.and_eq_true]; rintro ⟨-, q⟩; have q2 := Nat.le_of_ble_eq_true q; omega)]
    rw [if_pos (by rw [Bool.and_eq_true]; exact ⟨Nat.ble_eq_true_of_le (by omega), Nat.ble_eq_true_of_le (by omega)⟩)]
  rw [if_neg h62] at h
  by_cases h283 : a = 283
  · rw [if_pos h283] at h
    simp only [Option.some.injEq, Prod.mk.injEq] at h
    obtain ⟨rfl, rfl, rfl⟩ := h
    refine ⟨?_, by omega⟩
    subst h283
    unfold qown
    rw [if_neg (by rw [Bool.and_eq_true]; rintro ⟨-, q⟩; have q2 := Nat.le_of_ble_eq_true q; omega)]
    rw [if_neg (by rw [Bool.and_eq_true]; rintro ⟨-, q⟩; have q2 := Nat.le_of_ble_eq_true q; omega)]
    rw [if_neg (by rw [Bool.and_eq_true]; rintro ⟨-, q⟩; have q2 := Nat.le_of_ble_eq_true q; omega)]
    rw [if_neg (by rw [Bool.and_eq_true]; rintro ⟨-, q⟩; have q2 := Nat.le_of_ble_eq_true q; omega)]
    rw [if_pos (by rw [Bool.and_eq_true]; exact ⟨Nat.ble_eq_true_of_le (by omega), Nat.ble_eq_true_of_le (by omega)⟩)]
  rw [if_neg h283] at h
  by_cases h740 : a = 740
  · rw [if_pos h740] at h
    simp only [Option.some.injEq, Prod.mk.injEq] at h
    obtain ⟨rfl, rfl, rfl⟩ := h
    refine ⟨?_, by omega⟩
    subst h740
    unfold qown
    rw [if_neg (by rw [Bool.and_eq_true]; rintro ⟨-, q⟩; have q2 := Nat.le_of_ble_eq_true q; omega)]
    rw [if_neg (by rw [Bool.and_eq_true]; rintro ⟨-, q⟩; have q2 := Nat.le_of_ble_eq_true q; omega)]
    rw [if_neg (by rw [Bool.and_eq_true]; rintro ⟨-, q⟩; have q2 := Nat.le_of_ble_eq_true q; omega)]
    rw [if_neg (by rw [Bool.and_eq_true]; rintro ⟨-, q⟩; have q2 := Nat.le_of_ble_eq_true q; omega)]
    rw [if_neg (by rw [Bool.and_eq_true]; rintro ⟨-, q⟩; have q2 := Nat.le_of_ble_eq_true q; omega)]
    rw [if_pos (by rw [Bool.and_eq_true]; exact ⟨Nat.ble_eq_true_of_le (by omega), Nat.ble_eq_true_of_le (by omega)⟩)]
  rw [if_neg h740] at h
  by_cases h761 : a = 761
  · rw [if_pos h761] at h
    simp only [Option.some.injEq, Prod.mk.injEq] at h
    obtain ⟨rfl, rfl, rfl⟩ := h
    refine ⟨?_, by omega⟩
    subst h761
    unfold qown
    rw [if_neg (by rw [Bool.and_eq_true]; rintro ⟨-, q⟩; have q2 := Nat.le_of_ble_eq_true q; omega)]
    rw [if_neg (by rw [Bool.and_eq_true]; rintro ⟨-, q⟩; have q2 := Nat.le_of_ble_eq_true q; omega)]
    rw [if_neg (by rw [Bool.and_eq_true]; rintro ⟨-, q⟩; have q2 := Nat.le_of_ble_eq_true q; omega)]
    rw [if_neg (by rw [Bool.and_eq_true]; rintro ⟨-, q⟩; have q2 := Nat.le_of_ble_eq_true q; omega)]
    rw [if_neg (by rw [Bool.and_eq_true]; rintro ⟨-, q⟩; have q2 := Nat.le_of_ble_eq_true q; omega)]
    rw [if_neg (by rw [Bool.and_eq_true]; rintro ⟨-, q⟩; have q2 := Nat.le_of_ble_eq_true q; omega)]
    rw [if_pos (by rw [Bool.and_eq_true]; exact ⟨Nat.ble_eq_true_of_le (by omega), Nat.ble_eq_true_of_le (by omega)⟩)]
  rw [if_neg h761] at h
  by_cases h803 : a = 803
  · rw [if_pos h803] at h
    simp only [Option.some.injEq, Prod.mk.injEq] at h
    obtain ⟨rfl, rfl, rfl⟩ := h
    refine ⟨?_, by omega⟩
    subst h803
    unfold qown
    rw [if_neg (by rw [Bool.and_eq_true]; rintro ⟨-, q⟩; have q2 := Nat.le_of_ble_eq_true q; omega)]
    rw [if_neg (by rw [Bool.and_eq_true]; rintro ⟨-, q⟩; have q2 := Nat.le_of_ble_eq_true q; omega)]
    rw [if_neg (by rw [Bool.and_eq_true]; rintro ⟨-, q⟩; have q2 := Nat.le_of_ble_eq_true q; omega)]
    rw [if_neg (by rw [Bool.and_eq_true]; rintro ⟨-, q⟩; have q2 := Nat.le_of_ble_eq_true q; omega)]
    rw [if_neg (by rw [Bool.and_eq_true]; rintro ⟨-, q⟩; have q2 := Nat.le_of_ble_eq_true q; omega)]
    rw [if_neg (by rw [Bool.and_eq_true]; rintro ⟨-, q⟩; have q2 := Nat.le_of_ble_eq_true q; omega)]
    rw [if_neg (by rw [Bool.and_eq_true]; rintro ⟨-, q⟩; have q2 := Nat.le_of_ble_eq_true q; omega)]
    rw [if_pos (by rw [Bool.and_eq_true]; exact ⟨Nat.ble_eq_true_of_le (by omega), Nat.ble_eq_true_of_le (by omega)⟩)]
  rw [if_neg h803] at h
  by_cases h828 : a = 828
  · rw [if_pos h828] at h
    simp only [Option.some.injEq, Prod.mk.injEq] at h
    obtain ⟨rfl, rfl, rfl⟩ := h
    refine ⟨?_, by omega⟩
    subst h828
    unfold qown
    rw [if_neg (by rw [Bool.and_eq_true]; rintro ⟨-, q⟩; have q2 := Nat.le_of_ble_eq_true q; omega)]
    rw [if_neg (by rw [Bool.and_eq_true]; rintro ⟨-, q⟩; have q2 := Nat.le_of_ble_eq_true q; omega)]
    rw [if_neg (by rw [Bool.and_eq_true]; rintro ⟨-, q⟩; have q2 := Nat.le_of_ble_eq_true q; omega)]
    rw [if_neg (by rw [Bool.and_eq_true]; rintro ⟨-, q⟩; have q2 := Nat.le_of_ble_eq_true q; omega)]
    rw [if_neg (by rw [Bool.and_eq_true]; rintro ⟨-, q⟩; have q2 := Nat.le_of_ble_eq_true q; omega)]
    rw [if_neg (by rw [Bool.and_eq_true]; rintro ⟨-, q⟩; have q2 := Nat.le_of_ble_eq_true q; omega)]
    rw [if_neg (by rw [Bool.and_eq_true]; rintro ⟨-, q⟩; have q2 := Nat.le_of_ble_eq_true q; omega)]
    rw [if_neg (by rw [Bool.and_eq_true]; rintro ⟨-, q⟩; have q2 := Nat.le_of_ble_eq_true q; omega)]
    rw [if_pos (by rw [Bool.and_eq_true]; exact ⟨Nat.ble_eq_true_of_le (by omega), Nat.ble_eq_true_of_le (by omega)⟩)]
  rw [if_neg h828] at h
  by_cases h889 : a = 889
  · rw [if_pos h889] at h
    simp only [Option.some.injEq, Prod.mk.injEq] at h
    obtain ⟨rfl, rfl, rfl⟩ := h
    refine ⟨?_, by omega⟩
    subst h889
    unfold qown
    rw [if_neg (by rw [Bool.and_eq_true]; rintro ⟨-, q⟩; have q2 := Nat.le_of_ble_eq_true q; omega)]
    rw [if_neg (by rw [Bool.and_eq_true]; rintro ⟨-, q⟩; have q2 := Nat.le_of_ble_eq_true q; omega)]
    rw [if_neg (by rw [Bool.and_eq_true]; rintro ⟨-, q⟩; have q2 := Nat.le_of_ble_eq_true q; omega)]
    rw [if_neg (by rw [Bool.and_eq_true]; rintro ⟨-, q⟩; have q2 := Nat.le_of_ble_eq_true q; omega)]
    rw [if_neg (by rw [Bool.and_eq_true]; rintro ⟨-, q⟩; have q2 := Nat.le_of_ble_eq_true q; omega)]
    rw [if_neg (by rw [Bool.and_eq_true]; rintro ⟨-, q⟩; have q2 := Nat.le_of_ble_eq_true q; omega)]
    rw [if_neg (by rw [Bool.and_eq_true]; rintro ⟨-, q⟩; have q2 := Nat.le_of_ble_eq_true q; omega)]
    rw [if_neg (by rw [Bool.and_eq_true]; rintro ⟨-, q⟩; have q2 := Nat.le_of_ble_eq_true q; omega)]
    rw [if_neg (by rw [Bool.and_eq_true]; rintro ⟨-, q⟩; have q2 := Nat.le_of_ble_eq_true q; omega)]
    rw [if_pos (by rw [Bool.and_eq_true]; exact ⟨Nat.ble_eq_true_of_le (by omega), Nat.ble_eq_true_of_le (by omega)⟩)]
  rw [if_neg h889] at h
  by_cases h910 : a = 910
  · rw [if_pos h910] at h
    simp only [Option.some.injEq, Prod.mk.injEq] at h
    obtain ⟨rfl, rfl, rfl⟩ := h
    refine ⟨?_, by omega⟩
    subst h910
    unfold qown
    rw [if_neg (by rw [Bool.and_eq_true]; rintro ⟨-, q⟩; have q2 := Nat.le_of_ble_eq_true q; omega)]
    rw [if_neg (by rw [Bool.and_eq_true]; rintro ⟨-, q⟩; have q2 := Nat.le_of_ble_eq_true q; omega)]
    rw [if_neg (by rw [Bool.and_eq_true]; rintro ⟨-, q⟩; have q2 := Nat.le_of_ble_eq_true q; omega)]
    rw [if_neg (by rw [Bool.and_eq_true]; rintro ⟨-, q⟩; have q2 := Nat.le_of_ble_eq_true q; omega)]
    rw [if_neg (by rw [Bool.and_eq_true]; rintro ⟨-, q⟩; have q2 := Nat.le_of_ble_eq_true q; omega)]
    rw [if_neg (by rw [Bool.and_eq_true]; rintro ⟨-, q⟩; have q2 := Nat.le_of_ble_eq_true q; omega)]
    rw [if_neg (by rw [Bool.and_eq_true]; rintro ⟨-, q⟩; have q2 := Nat.le_of_ble_eq_true q; omega)]
    rw [if_neg (by rw [Bool.and_eq_true]; rintro ⟨-, q⟩; have q2 := Nat.le_of_ble_eq_true q; omega)]
    rw [if_neg (by rw [Bool.and_eq_true]; rintro ⟨-, q⟩; have q2 := Nat.le_of_ble_eq_true q; omega)]
    rw [if_neg (by rw [Bool.and_eq_true]; rintro ⟨-, q⟩; have q2 := Nat.le_of_ble_eq_true q; omega)]
    rw [if_pos (by rw [Bool.and_eq_true]; exact ⟨Nat.ble_eq_true_of_le (by omega), Nat.ble_eq_true_of_le (by omega)⟩)]
  rw [if_neg h910] at h
  by_cases h931 : a = 931
  · rw [if_pos h931] at h
    simp only [Option.some.injEq, Prod.mk.injEq] at h
    obtain ⟨rfl, rfl, rfl⟩ := h
    refine ⟨?_, by omega⟩
    subst h931
    unfold qown
    rw [if_neg (by rw [Bool.and_eq_true]; rintro ⟨-, q⟩; have q2 := Nat.le_of_ble_eq_true q; omega)]
    rw [if_neg (by rw [Bool.and_eq_true]; rintro ⟨-, q⟩; have q2 := Nat.le_of_ble_eq_true q; omega)]
    rw [if_neg (by rw [Bool.and_eq_true]; rintro ⟨-, q⟩; have q2 := Nat.le_of_ble_eq_true q; omega)]
    rw [if_neg (by rw [Bool.and_eq_true]; rintro ⟨-, q⟩; have q2 := Nat.le_of_ble_eq_true q; omega)]
    rw [if_neg (by rw [Bool.and_eq_true]; rintro ⟨-, q⟩; have q2 := Nat.le_of_ble_eq_true q; omega)]
    rw [if_neg (by rw [Bool.and_eq_true]; rintro ⟨-, q⟩; have q2 := Nat.le_of_ble_eq_true q; omega)]
    rw [if_neg (by rw [Bool.and_eq_true]; rintro ⟨-, q⟩; have q2 := Nat.le_of_ble_eq_true q; omega)]
    rw [if_neg (by rw [Bool.and_eq_true]; rintro ⟨-, q⟩; have q2 := Nat.le_of_ble_eq_true q; omega)]
    rw [if_neg (by rw [Bool.and_eq_true]; rintro ⟨-, q⟩; have q2 := Nat.le_of_ble_eq_true q; omega)]
    rw [if_neg (by rw [Bool.and_eq_true]; rintro ⟨-, q⟩; have q2 := Nat.le_of_ble_eq_true q; omega)]
    rw [if_neg (by rw [Bool.and_eq_true]; rintro ⟨-, q⟩; have q2 := Nat.le_of_ble_eq_true q; omega)]
    rw [if_pos (by rw [Bool.and_eq_true]; exact ⟨Nat.ble_eq_true_of_le (by omega), Nat.ble_eq_true_of_le (by omega)⟩)]
  rw [if_neg h931] at h
  by_cases h952 : a = 952
  · rw [if_pos h952] at h
    simp only [Option.some.injEq, Prod.mk.injEq] at h
    obtain ⟨rfl, rfl, rfl⟩ := h
    refine ⟨?_, by omega⟩
    subst h952
    unfold qown
    rw [if_neg (by rw [Bool.and_eq_true]; rintro ⟨-, q⟩; have q2 := Nat.le_of_ble_eq_true q; omega)]
    rw [if_neg (by rw [Bool.and_eq_true]; rintro ⟨-, q⟩; have q2 := Nat.le_of_ble_eq_true q; omega)]
    rw [if_neg (by rw [Bool.and_eq_true]; rintro ⟨-, q⟩; have q2 := Nat.le_of_ble_eq_true q; omega)]
    rw [if_neg (by rw [Bool.and_eq_true]; rintro ⟨-, q⟩; have q2 := Nat.le_of_ble_eq_true q; omega)]
    rw [if_neg (by rw [Bool.and_eq_true]; rintro ⟨-, q⟩; have q2 := Nat.le_of_ble_eq_true q; omega)]
    rw [if_neg (by rw [Bool.and_eq_true]; rintro ⟨-, q⟩; have q2 := Nat.le_of_ble_eq_true q; omega)]
    rw [if_neg (by rw [Bool.and_eq_true]; rintro ⟨-, q⟩; have q2 := Nat.le_of_ble_eq_true q; omega)]
    rw [if_neg (by rw [Bool.and_eq_true]; rintro ⟨-, q⟩; have q2 := Nat.le_of_ble_eq_true q; omega)]
    rw [if_neg (by rw [Bool.and_eq_true]; rintro ⟨-, q⟩; have q2 := Nat.le_of_ble_eq_true q; omega)]
    rw [if_neg (by rw [Bool.and_eq_true]; rintro ⟨-, q⟩; have q2 := Nat.le_of_ble_eq_true q; omega)]
    rw [if_neg (by rw [Bool.and_eq_true]; rintro ⟨-, q⟩; have q2 := Nat.le_of_ble_eq_true q; omega)]
    rw [if_neg (by rw [Bool.and_eq_true]; rintro ⟨-, q⟩; have q2 := Nat.le_of_ble_eq_true q; omega)]
    rw [if_pos (by rw [Bool.and_eq_true]; exact ⟨Nat.ble_eq_true_of_le (by omega), Nat.ble_eq_true_of_le (by omega)⟩)]
  rw [if_neg h952] at h
  by_cases h1008 : a = 1008
  · rw [if_pos h1008] at h
    simp only [Option.some.injEq, Prod.mk.injEq] at h
    obtain ⟨rfl, rfl, rfl⟩ := h
    refine ⟨?_, by omega⟩
    subst h1008
    unfold qown
    rw [if_neg (by rw [Bool.and_eq_true]; rintro ⟨-, q⟩; have q2 := Nat.le_of_ble_eq_true q; omega)]
    rw [if_neg (by rw [Bool.and_eq_true]; rintro ⟨-, q⟩; have q2 := Nat.le_of_ble_eq_true q; omega)]
    rw [if_neg (by rw [Bool.and_eq_true]; rintro ⟨-, q⟩; have q2 := Nat.le_of_ble_eq_true q; omega)]
    rw [if_neg (by rw [Bool.and_eq_true]; rintro ⟨-, q⟩; have q2 := Nat.le_of_ble_eq_true q; omega)]
    rw [if_neg (by rw [Bool.and_eq_true]; rintro ⟨-, q⟩; have q2 := Nat.le_of_ble_eq_true q; omega)]
    rw [if_neg (by rw [Bool.and_eq_true]; rintro ⟨-, q⟩; have q2 := Nat.le_of_ble_eq_true q; omega)]
    rw [if_neg (by rw [Bool.and_eq_true]; rintro ⟨-, q⟩; have q2 := Nat.le_of_ble_eq_true q; omega)]
    rw [if_neg (by rw [Bool.and_eq_true]; rintro ⟨-, q⟩; have q2 := Nat.le_of_ble_eq_true q; omega)]
    rw [if_neg (by rw [Bool.and_eq_true]; rintro ⟨-, q⟩; have q2 := Nat.le_of_ble_eq_true q; omega)]
    rw [if_neg (by rw [Bool.and_eq_true]; rintro ⟨-, q⟩; have q2 := Nat.le_of_ble_eq_true q; omega)]
    rw [if_neg (by rw [Bool.and_eq_true]; rintro ⟨-, q⟩; have q2 := Nat.le_of_ble_eq_true q; omega)]
    rw [if_neg (by rw [Bool.and_eq_true]; rintro ⟨-, q⟩; have q2 := Nat.le_of_ble_eq_true q; omega)]
    rw [if_neg (by rw [Bool.and_eq_true]; rintro ⟨-, q⟩; have q2 := Nat.le_of_ble_eq_true q; omega)]
    rw [if_pos (by rw [Bool.and_eq_true]; exact ⟨Nat.ble_eq_true_of_le (by omega), Nat.ble_eq_true_of_le (by omega)⟩)]
  rw [if_neg h1008] at h
  by_cases h1050 : a = 1050
  · rw [if_pos h1050] at h
    simp only [Option.some.injEq, Prod.mk.injEq] at h
    obtain ⟨rfl, rfl, rfl⟩ := h
    refine ⟨?_, by omega⟩
    subst h1050
    unfold qown
    rw [if_neg (by rw [Bool.and_eq_true]; rintro ⟨-, q⟩; have q2 := Nat.le_of_ble_eq_true q; omega)]
    rw [if_neg (by rw [Bool.and_eq_true]; rintro ⟨-, q⟩; have q2 := Nat.le_of_ble_eq_true q; omega)]
    rw [if_neg (by rw [Bool.and_eq_true]; rintro ⟨-, q⟩; have q2 := Nat.le_of_ble_eq_true q; omega)]
    rw [if_neg (by rw [Bool.and_eq_true]; rintro ⟨-, q⟩; have q2 := Nat.le_of_ble_eq_true q; omega)]
    rw [if_neg (by rw [Bool.and_eq_true]; rintro ⟨-, q⟩; have q2 := Nat.le_of_ble_eq_true q; omega)]
    rw [if_neg (by rw [Bool.and_eq_true]; rintro ⟨-, q⟩; have q2 := Nat.le_of_ble_eq_true q; omega)]
    rw [if_neg (by rw [Bool.and_eq_true]; rintro ⟨-, q⟩; have q2 := Nat.le_of_ble_eq_true q; omega)]
    rw [if_neg (by rw [Bool.and_eq_true]; rintro ⟨-, q⟩; have q2 := Nat.le_of_ble_eq_true q; omega)]
    rw [if_neg (by rw [Bool.and_eq_true]; rintro ⟨-, q⟩; have q2 := Nat.le_of_ble_eq_true q; omega)]
    rw [if_neg (by rw [Bool.and_eq_true]; rintro ⟨-, q⟩; have q2 := Nat.le_of_ble_eq_true q; omega)]
    rw [if_neg (by rw [Bool.and_eq_true]; rintro ⟨-, q⟩; have q2 := Nat.le_of_ble_eq_true q; omega)]
    rw [if_neg (by rw [Bool.and_eq_true]; rintro ⟨-, q⟩; have q2 := Nat.le_of_ble_eq_true q; omega)]
    rw [if_neg (by rw [Bool.and_eq_true]; rintro ⟨-, q⟩; have q2 := Nat.le_of_ble_eq_true q; omega)]
    rw [if_neg (by rw [Bool.and_eq_true]; rintro ⟨-, q⟩; have q2 := Nat.le_of_ble_eq_true q; omega)]
    rw [if_pos (by rw [Bool.and_eq_true]; exact ⟨Nat.ble_eq_true_of_le (by omega), Nat.ble_eq_true_of_le (by omega)⟩)]
  rw [if_neg h1050] at h
  by_cases h1091 : a = 1091
  · rw [if_pos h1091] at h
    simp only [Option.some.injEq, Prod.mk.injEq] at h
    obtain ⟨rfl, rfl, rfl⟩ := h
    refine ⟨?_, by omega⟩
    subst h1091
    unfold qown
    rw [if_neg (by rw [Bool.and_eq_true]; rintro ⟨-, q⟩; have q2 := Nat.le_of_ble_eq_true q; omega)]
    rw [if_neg (by rw [Bool.and_eq_true]; rintro ⟨-, q⟩; have q2 := Nat.le_of_ble_eq_true q; omega)]
    rw [if_neg (by rw [Bool.and_eq_true]; rintro ⟨-, q⟩; have q2 := Nat.le_of_ble_eq_true q; omega)]
    rw [if_neg (by rw [Bool.and_eq_true]; rintro ⟨-, q⟩; have q2 := Nat.le_of_ble_eq_true q; omega)]
    rw [if_neg (by rw [Bool.and_eq_true]; rintro ⟨-, q⟩; have q2 := Nat.le_of_ble_eq_true q; omega)]
    rw [if_neg (by rw [Bool.and_eq_true]; rintro ⟨-, q⟩; have q2 := Nat.le_of_ble_eq_true q; omega)]
    rw [if_neg (by rw [Bool.and_eq_true]; rintro ⟨-, q⟩; have q2 := Nat.le_of_ble_eq_true q; omega)]
    rw [if_neg (by rw [Bool.and_eq_true]; rintro ⟨-, q⟩; have q2 := Nat.le_of_ble_eq_true q; omega)]
    rw [if_neg (by rw [Bool.and_eq_true]; rintro ⟨-, q⟩; have q2 := Nat.le_of_ble_eq_true q; omega)]
    rw [if_neg (by rw [Bool.and_eq_true]; rintro ⟨-, q⟩; have q2 := Nat.le_of_ble_eq_true q; omega)]
    rw [if_neg (by rw [Bool.and_eq_true]; rintro ⟨-, q⟩; have q2 := Nat.le_of_ble_eq_true q; omega)]
    rw [if_neg (by rw [Bool.and_eq_true]; rintro ⟨-, q⟩; have q2 := Nat.le_of_ble_eq_true q; omega)]
    rw [if_neg (by rw [Bool.and_eq_true]; rintro ⟨-, q⟩; have q2 := Nat.le_of_ble_eq_true q; omega)]
    rw [if_neg (by rw [Bool.and_eq_true]; rintro ⟨-, q⟩; have q2 := Nat.le_of_ble_eq_true q; omega)]
    rw [if_neg (by rw [Bool.and_eq_true]; rintro ⟨-, q⟩; have q2 := Nat.le_of_ble_eq_true q; omega)]
    rw [if_pos (by rw [Bool.and_eq_true]; exact ⟨Nat.ble_eq_true_of_le (by omega), Nat.ble_eq_true_of_le (by omega)⟩)]
  rw [if_neg h1091] at h
  by_cases h1140 : a = 1140
  · rw [if_pos h1140] at h
    simp only [Option.some.injEq, Prod.mk.injEq] at h
    obtain ⟨rfl, rfl, rfl⟩ := h
    refine ⟨?_, by omega⟩
    subst h1140
    unfold qown
    rw [if_neg (by rw [Bool.and_eq_true]; rintro ⟨-, q⟩; have q2 := Nat.le_of_ble_eq_true q; omega)]
    rw [if_neg (by rw [Bool.and_eq_true]; rintro ⟨-, q⟩; have q2 := Nat.le_of_ble_eq_true q; omega)]
    rw [if_neg (by rw [Bool.and_eq_true]; rintro ⟨-, q⟩; have q2 := Nat.le_of_ble_eq_true q; omega)]
    rw [if_neg (by rw [Bool.and_eq_true]; rintro ⟨-, q⟩; have q2 := Nat.le_of_ble_eq_true q; omega)]
    rw [if_neg (by rw [Bool.and_eq_true]; rintro ⟨-, q⟩; have q2 := Nat.le_of_ble_eq_true q; omega)]
    rw [if_neg (by rw [Bool.and_eq_true]; rintro ⟨-, q⟩; have q2 := Nat.le_of_ble_eq_true q; omega)]
    rw [if_neg (by rw [Bool.and_eq_true]; rintro ⟨-, q⟩; have q2 := Nat.le_of_ble_eq_true q; omega)]
    rw [if_neg (by rw [Bool.and_eq_true]; rintro ⟨-, q⟩; have q2 := Nat.le_of_ble_eq_true q; omega)]
    rw [if_neg (by rw [Bool.and_eq_true]; rintro ⟨-, q⟩; have q2 := Nat.le_of_ble_eq_true q; omega)]
    rw [if_neg (by rw [Bool.and_eq_true]; rintro ⟨-, q⟩; have q2 := Nat.le_of_ble_eq_true q; omega)]
    rw [if_neg (by rw [Bool.and_eq_true]; rintro ⟨-, q⟩; have q2 := Nat.le_of_ble_eq_true q; omega)]
    rw [if_neg (by rw [Bool.and_eq_true]; rintro ⟨-, q⟩; have q2 := Nat.le_of_ble_eq_true q; omega)]
    rw [if_neg (by rw [Bool.and_eq_true]; rintro ⟨-, q⟩; have q2 := Nat.le_of_ble_eq_true q; omega)]
    rw [if_neg (by rw [Bool.and_eq_true]; rintro ⟨-, q⟩; have q2 := Nat.le_of_ble_eq_true q; omega)]
    rw [if_neg (by rw [Bool.and_eq_true]; rintro ⟨-, q⟩; have q2 := Nat.le_of_ble_eq_true q; omega)]
    rw [if_neg (by rw [Bool.and_eq_true]; rintro ⟨-, q⟩; have q2 := Nat.le_of_ble_eq_true q; omega)]
    rw [if_pos (by rw [Bool.and_eq_true]; exact ⟨Nat.ble_eq_true_of_le (by omega), Nat.ble_eq_true_of_le (by omega)⟩)]
  rw [if_neg h1140] at h
  by_cases h1149 : a = 1149
  · rw [if_pos h1149] at h
    simp only [Option.some.injEq, Prod.mk.injEq] at h
    obtain ⟨rfl, rfl, rfl⟩ := h
    refine ⟨?_, by omega⟩
    subst h1149
    unfold qown
    rw [if_neg (by rw [Bool.and_eq_true]; rintro ⟨-, q⟩; have q2 := Nat.le_of_ble_eq_true q; omega)]
    rw [if_neg (by rw [Bool.and_eq_true]; rintro ⟨-, q⟩; have q2 := Nat.le_of_ble_eq_true q; omega)]
    rw [if_neg (by rw [Bool.and_eq_true]; rintro ⟨-, q⟩; have q2 := Nat.le_of_ble_eq_true q; omega)]
    rw [if_neg (by rw [Bool.and_eq_true]; rintro ⟨-, q⟩; have q2 := Nat.le_of_ble_eq_true q; omega)]
    rw [if_neg (by rw [Bool.and_eq_true]; rintro ⟨-, q⟩; have q2 := Nat.le_of_ble_eq_true q; omega)]
    rw [if_neg (by rw [Bool.and_eq_true]; rintro ⟨-, q⟩; have q2 := Nat.le_of_ble_eq_true q; omega)]
    rw [if_neg (by rw [Bool.and_eq_true]; rintro ⟨-, q⟩; have q2 := Nat.le_of_ble_eq_true q; omega)]
    rw [if_neg (by rw [Bool.and_eq_true]; rintro ⟨-, q⟩; have q2 := Nat.le_of_ble_eq_true q; omega)]
    rw [if_neg (by rw [Bool.and_eq_true]; rintro ⟨-, q⟩; have q2 := Nat.le_of_ble_eq_true q; omega)]
    rw [if_neg (by rw [Bool.and_eq_true]; rintro ⟨-, q⟩; have q2 := Nat.le_of_ble_eq_true q; omega)]
    rw [if_neg (by rw [Bool.and_eq_true]; rintro ⟨-, q⟩; have q2 := Nat.le_of_ble_eq_true q; omega)]
    rw [if_neg (by rw [Bool.and_eq_true]; rintro ⟨-, q⟩; have q2 := Nat.le_of_ble_eq_true q; omega)]
    rw [if_neg (by rw [Bool.and_eq_true]; rintro ⟨-, q⟩; have q2 := Nat.le_of_ble_eq_true q; omega)]
    rw [if_neg (by rw [Bool.and_eq_true]; rintro ⟨-, q⟩; have q2 := Nat.le_of_ble_eq_true q; omega)]
    rw [if_neg (by rw [Bool.and_eq_true]; rintro ⟨-, q⟩; have q2 := Nat.le_of_ble_eq_true q; omega)]
    rw [if_neg (by rw [Bool.and_eq_true]; rintro ⟨-, q⟩; have q2 := Nat.le_of_ble_eq_true q; omega)]
    rw [if_neg (by rw [Bool.and_eq_true]; rintro ⟨-, q⟩; have q2 := Nat.le_of_ble_eq_true q; omega)]
    rw [if_pos (by rw [Bool.and_eq_true]; exact ⟨Nat.ble_eq_true_of_le (by omega), Nat.ble_eq_true_of_le (by omega)⟩)]
  rw [if_neg h1149] at h
  by_cases h1158 : a = 1158
  · rw [if_pos h1158] at h
    simp only [Option.some.injEq, Prod.mk.injEq] at h
    obtain ⟨rfl, rfl, rfl⟩ := h
    refine ⟨?_, by omega⟩
    subst h1158
    unfold qown
    rw [if_neg (by rw [Bool.and_eq_true]; rintro ⟨-, q⟩; have q2 := Nat.le_of_ble_eq_true q; omega)]
    rw [if_neg (by rw [Bool.and_eq_true]; rintro ⟨-, q⟩; have q2 := Nat.le_of_ble_eq_true q; omega)]
    rw [if_neg (by rw [Bool.and_eq_true]; rintro ⟨-, q⟩; have q2 := Nat.le_of_ble_eq_true q; omega)]
    rw [if_neg (by rw [Bool.and_eq_true]; rintro ⟨-, q⟩; have q2 := Nat.le_of_ble_eq_true q; omega)]
    rw [if_neg (by rw [Bool.and_eq_true]; rintro ⟨-, q⟩; have q2 := Nat.le_of_ble_eq_true q; omega)]
    rw [if_neg (by rw [Bool.and_eq_true]; rintro ⟨-, q⟩; have q2 := Nat.le_of_ble_eq_true q; omega)]
    rw [if_neg (by rw [Bool.and_eq_true]; rintro ⟨-, q⟩; have q2 := Nat.le_of_ble_eq_true q; omega)]
    rw [if_neg (by rw [Bool.and_eq_true]; rintro ⟨-, q⟩; have q2 := Nat.le_of_ble_eq_true q; omega)]
    rw [if_neg (by rw [Bool.and_eq_true]; rintro ⟨-, q⟩; have q2 := Nat.le_of_ble_eq_true q; omega)]
    rw [if_neg (by rw [Bool.and_eq_true]; rintro ⟨-, q⟩; have q2 := Nat.le_of_ble_eq_true q; omega)]
    rw [if_neg (by rw [Bool.and_eq_true]; rintro ⟨-, q⟩; have q2 := Nat.le_of_ble_eq_true q; omega)]
    rw [if_neg (by rw [Bool.and_eq_true]; rintro ⟨-, q⟩; have q2 := Nat.le_of_ble_eq_true q; omega)]
    rw [if_neg (by rw [Bool.and_eq_true]; rintro ⟨-, q⟩; have q2 := Nat.le_of_ble_eq_true q; omega)]
    rw [if_neg (by rw [Bool.and_eq_true]; rintro ⟨-, q⟩; have q2 := Nat.le_of_ble_eq_true q; omega)]
    rw [if_neg (by rw [Bool.and_eq_true]; rintro ⟨-, q⟩; have q2 := Nat.le_of_ble_eq_true q; omega)]
    rw [if_neg (by rw [Bool.and_eq_true]; rintro ⟨-, q⟩; have q2 := Nat.le_of_ble_eq_true q; omega)]
    rw [if_neg (by rw [Bool.and_eq_true]; rintro ⟨-, q⟩; have q2 := Nat.le_of_ble_eq_true q; omega)]
    rw [if_neg (by rw [Bool.and_eq_true]; rintro ⟨-, q⟩; have q2 := Nat.le_of_ble_eq_true q; omega)]
    rw [if_pos (by rw [Bool.and_eq_true]; exact ⟨Nat.ble_eq_true_of_le (by omega), Nat.ble_eq_true_of_le (by omega)⟩)]
  rw [if_neg h1158] at h
  by_cases h1176 : a = 1176
  · rw [if_pos h1176] at h
    simp only [Option.some.injEq, Prod.mk.injEq] at h
    obtain ⟨rfl, rfl, rfl⟩ := h
    refine ⟨?_, by omega⟩
    subst h1176
    unfold qown
    rw [if_neg (by rw [Bool.and_eq_true]; rintro ⟨-, q⟩; have q2 := Nat.le_of_ble_eq_true q; omega)]
    rw [if_neg (by rw [Bool.and_eq_true]; rintro ⟨-, q⟩; have q2 := Nat.le_of_ble_eq_true q; omega)]
    rw [if_neg (by rw [Bool.and_eq_true]; rintro ⟨-, q⟩; have q2 := Nat.le_of_ble_eq_true q; omega)]
    rw [if_neg (by rw [Bool.and_eq_true]; rintro ⟨-, q⟩; have q2 := Nat.le_of_ble_eq_true q; omega)]
    rw [if_neg (by rw [Bool.and_eq_true]; rintro ⟨-, q⟩; have q2 := Nat.le_of_ble_eq_true q; omega)]
    rw [if_neg (by rw [Bool.and_eq_true]; rintro ⟨-, q⟩; have q2 := Nat.le_of_ble_eq_true q; omega)]
    rw [if_neg (by rw [Bool.and_eq_true]; rintro ⟨-, q⟩; have q2 := Nat.le_of_ble_eq_true q; omega)]
    rw [if_neg (by rw [Bool.and_eq_true]; rintro ⟨-, q⟩; have q2 := Nat.le_of_ble_eq_true q; omega)]
    rw [if_neg (by rw [Bool.and_eq_true]; rintro ⟨-, q⟩; have q2 := Nat.le_of_ble_eq_true q; omega)]
    rw [if_neg (by rw [Bool.and_eq_true]; rintro ⟨-, q⟩; have q2 := Nat.le_of_ble_eq_true q; omega)]
    rw [if_neg (by rw [Bool.and_eq_true]; rintro ⟨-, q⟩; have q2 := Nat.le_of_ble_eq_true q; omega)]
    rw [if_neg (by rw [Bool.and_eq_true]; rintro ⟨-, q⟩; have q2 := Nat.le_of_ble_eq_true q; omega)]
    rw [if_neg (by rw [Bool.and_eq_true]; rintro ⟨-, q⟩; have q2 := Nat.le_of_ble_eq_true q; omega)]
    rw [if_neg (by rw [Bool.and_eq_true]; rintro ⟨-, q⟩; have q2 := Nat.le_of_ble_eq_true q; omega)]
    rw [if_neg (by rw [Bool.and_eq_true]; rintro ⟨-, q⟩; have q2 := Nat.le_of_ble_eq_true q; omega)]
    rw [if_neg (by rw [Bool.and_eq_true]; rintro ⟨-, q⟩; have q2 := Nat.le_of_ble_eq_true q; omega)]
    rw [if_neg (by rw [Bool.and_eq_true]; rintro ⟨-, q⟩; have q2 := Nat.le_of_ble_eq_true q; omega)]
    rw [if_neg (by rw [Bool.and_eq_true]; rintro ⟨-, q⟩; have q2 := Nat.le_of_ble_eq_true q; omega)]
    rw [if_neg (by rw [Bool.and_eq_true]; rintro ⟨-, q⟩; have q2 := Nat.le_of_ble_eq_true q; omega)]
    rw [if_pos (by rw [Bool.and_eq_true]; exact ⟨Nat.ble_eq_true_of_le (by omega), Nat.ble_eq_true_of_le (by omega)⟩)]
  rw [if_neg h1176] at h
  by_cases h1197 : a = 1197
  · rw [if_pos h1197] at h
    simp only [Option.some.injEq, Prod.mk.injEq] at h
    obtain ⟨rfl, rfl, rfl⟩ := h
    refine ⟨?_, by omega⟩
    subst h1197
    unfold qown
    rw [if_neg (by rw [Bool.and_eq_true]; rintro ⟨-, q⟩; have q2 := Nat.le_of_ble_eq_true q; omega)]
    rw [if_neg (by rw [Bool.and_eq_true]; rintro ⟨-, q⟩; have q2 := Nat.le_of_ble_eq_true q; omega)]
    rw [if_neg (by rw [Bool.and_eq_true]; rintro ⟨-, q⟩; have q2 := Nat.le_of_ble_eq_true q; omega)]
    rw [if_neg (by rw [Bool.and_eq_true]; rintro ⟨-, q⟩; have q2 := Nat.le_of_ble_eq_true q; omega)]
    rw [if_neg (by rw [Bool.and_eq_true]; rintro ⟨-, q⟩; have q2 := Nat.le_of_ble_eq_true q; omega)]
    rw [if_neg (by rw [Bool.and_eq_true]; rintro ⟨-, q⟩; have q2 := Nat.le_of_ble_eq_true q; omega)]
    rw [if_neg (by rw [Bool.and_eq_true]; rintro ⟨-, q⟩; have q2 := Nat.le_of_ble_eq_true q; omega)]
    rw [if_neg (by rw [Bool.and_eq_true]; rintro ⟨-, q⟩; have q2 := Nat.le_of_ble_eq_true q; omega)]
    rw [if_neg (by rw [Bool.and_eq_true]; rintro ⟨-, q⟩; have q2 := Nat.le_of_ble_eq_true q; omega)]
    rw [if_neg (by rw [Bool.and_eq_true]; rintro ⟨-, q⟩; have q2 := Nat.le_of_ble_eq_true q; omega)]
    rw [if_neg (by rw [Bool.and_eq_true]; rintro ⟨-, q⟩; have q2 := Nat.le_of_ble_eq_true q; omega)]
    rw [if_neg (by rw [Bool.and_eq_true]; rintro ⟨-, q⟩; have q2 := Nat.le_of_ble_eq_true q; omega)]
    rw [if_neg (by rw [Bool.and_eq_true]; rintro ⟨-, q⟩; have q2 := Nat.le_of_ble_eq_true q; omega)]
    rw [if_neg (by rw [Bool.and_eq_true]; rintro ⟨-, q⟩; have q2 := Nat.le_of_ble_eq_true q; omega)]
    rw [if_neg (by rw [Bool.and_eq_true]; rintro ⟨-, q⟩; have q2 := Nat.le_of_ble_eq_true q; omega)]
    rw [if_neg (by rw [Bool.and_eq_true]; rintro ⟨-, q⟩; have q2 := Nat.le_of_ble_eq_true q; omega)]
    rw [if_neg (by rw [Bool.and_eq_true]; rintro ⟨-, q⟩; have q2 := Nat.le_of_ble_eq_true q; omega)]
    rw [if_neg (by rw [Bool.and_eq_true]; rintro ⟨-, q⟩; have q2 := Nat.le_of_ble_eq_true q; omega)]
    rw [if_neg (by rw [Bool.and_eq_true]; rintro ⟨-, q⟩; have q2 := Nat.le_of_ble_eq_true q; omega)]
    rw [if_neg (by rw [Bool.and_eq_true]; rintro ⟨-, q⟩; have q2 := Nat.le_of_ble_eq_true q; omega)]
    rw [if_pos (by rw [Bool.and_eq_true]; exact ⟨Nat.ble_eq_true_of_le (by omega), Nat.ble_eq_true_of_le (by omega)⟩)]
  rw [if_neg h1197] at h
  by_cases h1218 : a = 1218
  · rw [if_pos h1218] at h
    simp only [Option.some.injEq, Prod.mk.injEq] at h
    obtain ⟨rfl, rfl, rfl⟩ := h
    refine ⟨?_, by omega⟩
    subst h1218
    unfold qown
    rw [if_neg (by rw [Bool.and_eq_true]; rintro ⟨-, q⟩; have q2 := Nat.le_of_ble_eq_true q; omega)]
    rw [if_neg (by rw [Bool.and_eq_true]; rintro ⟨-, q⟩; have q2 := Nat.le_of_ble_eq_true q; omega)]
    rw [if_neg (by rw [Bool.and_eq_true]; rintro ⟨-, q⟩; have q2 := Nat.le_of_ble_eq_true q; omega)]
    rw [if_neg (by rw [Bool.and_eq_true]; rintro ⟨-, q⟩; have q2 := Nat.le_of_ble_eq_true q; omega)]
    rw [if_neg (by rw [Bool.and_eq_true]; rintro ⟨-, q⟩; have q2 := Nat.le_of_ble_eq_true q; omega)]
    rw [if_neg (by rw [Bool.and_eq_true]; rintro ⟨-, q⟩; have q2 := Nat.le_of_ble_eq_true q; omega)]
    rw [if_neg (by rw [Bool.and_eq_true]; rintro ⟨-, q⟩; have q2 := Nat.le_of_ble_eq_true q; omega)]
    rw [if_neg (by rw [Bool.and_eq_true]; rintro ⟨-, q⟩; have q2 := Nat.le_of_ble_eq_true q; omega)]
    rw [if_neg (by rw [Bool.and_eq_true]; rintro ⟨-, q⟩; have q2 := Nat.le_of_ble_eq_true q; omega)]
    rw [if_neg (by rw [Bool.and_eq_true]; rintro ⟨-, q⟩; have q2 := Nat.le_of_ble_eq_true q; omega)]
    rw [if_neg (by rw [Bool.and_eq_true]; rintro ⟨-, q⟩; have q2 := Nat.le_of_ble_eq_true q; omega)]
    rw [if_neg (by rw [Bool.and_eq_true]; rintro ⟨-, q⟩; have q2 := Nat.le_of_ble_eq_true q; omega)]
    rw [if_neg (by rw [Bool.and_eq_true]; rintro ⟨-, q⟩; have q2 := Nat.le_of_ble_eq_true q; omega)]
    rw [if_neg (by rw [Bool.and_eq_true]; rintro ⟨-, q⟩; have q2 := Nat.le_of_ble_eq_true q; omega)]
    rw [if_neg (by rw [Bool.and_eq_true]; rintro ⟨-, q⟩; have q2 := Nat.le_of_ble_eq_true q; omega)]
    rw [if_neg (by rw [Bool.and_eq_true]; rintro ⟨-, q⟩; have q2 := Nat.le_of_ble_eq_true q; omega)]
    rw [if_neg (by rw [Bool.and_eq_true]; rintro ⟨-, q⟩; have q2 := Nat.le_of_ble_eq_true q; omega)]
    rw [if_neg (by rw [Bool.and_eq_true]; rintro ⟨-, q⟩; have q2 := Nat.le_of_ble_eq_true q; omega)]
    rw [if_neg (by rw [Bool.and_eq_true]; rintro ⟨-, q⟩; have q2 := Nat.le_of_ble_eq_true q; omega)]
    rw [if_neg (by rw [Bool.and_eq_true]; rintro ⟨-, q⟩; have q2 := Nat.le_of_ble_eq_true q; omega)]
    rw [if_neg (by rw [Bool.and_eq_true]; rintro ⟨-, q⟩; have q2 := Nat.le_of_ble_eq_true q; omega)]
    rw [if_pos (by rw [Bool.and_eq_true]; exact ⟨Nat.ble_eq_true_of_le (by omega), Nat.ble_eq_true_of_le (by omega)⟩)]
  rw [if_neg h1218] at h
  by_cases h1276 : a = 1276
  · rw [if_pos h1276] at h
    simp only [Option.some.injEq, Prod.mk.injEq] at h
    obtain ⟨rfl, rfl, rfl⟩ := h
    refine ⟨?_, by omega⟩
    subst h1276
    unfold qown
    rw [if_neg (by rw [Bool.and_eq_true]; rintro ⟨-, q⟩; have q2 := Nat.le_of_ble_eq_true q; omega)]
    rw [if_neg (by rw [Bool.and_eq_true]; rintro ⟨-, q⟩; have q2 := Nat.le_of_ble_eq_true q; omega)]
    rw [if_neg (by rw [Bool.and_eq_true]; rintro ⟨-, q⟩; have q2 := Nat.le_of_ble_eq_true q; omega)]
    rw [if_neg (by rw [Bool.and_eq_true]; rintro ⟨-, q⟩; have q2 := Nat.le_of_ble_eq_true q; omega)]
    rw [if_neg (by rw [Bool.and_eq_true]; rintro ⟨-, q⟩; have q2 := Nat.le_of_ble_eq_true q; omega)]
    rw [if_neg (by rw [Bool.and_eq_true]; rintro ⟨-, q⟩; have q2 := Nat.le_of_ble_eq_true q; omega)]
    rw [if_neg (by rw [Bool.and_eq_true]; rintro ⟨-, q⟩; have q2 := Nat.le_of_ble_eq_true q; omega)]
    rw [if_neg (by rw [Bool.and_eq_true]; rintro ⟨-, q⟩; have q2 := Nat.le_of_ble_eq_true q; omega)]
    rw [if_neg (by rw [Bool.and_eq_true]; rintro ⟨-, q⟩; have q2 := Nat.le_of_ble_eq_true q; omega)]
    rw [if_neg (by rw [Bool.and_eq_true]; rintro ⟨-, q⟩; have q2 := Nat.le_of_ble_eq_true q; omega)]
    rw [if_neg (by rw [Bool.and_eq_true]; rintro ⟨-, q⟩; have q2 := Nat.le_of_ble_eq_true q; omega)]
    rw [if_neg (by rw [Bool.and_eq_true]; rintro ⟨-, q⟩; have q2 := Nat.le_of_ble_eq_true q; omega)]
    rw [if_neg (by rw [Bool.and_eq_true]; rintro ⟨-, q⟩; have q2 := Nat.le_of_ble_eq_true q; omega)]
    rw [if_neg (by rw [Bool.and_eq_true]; rintro ⟨-, q⟩; have q2 := Nat.le_of_ble_eq_true q; omega)]
    rw [if_neg (by rw [Bool.and_eq_true]; rintro ⟨-, q⟩; have q2 := Nat.le_of_ble_eq_true q; omega)]
    rw [if_neg (by rw [Bool.and_eq_true]; rintro ⟨-, q⟩; have q2 := Nat.le_of_ble_eq_true q; omega)]
    rw [if_neg (by rw [Bool.and_eq_true]; rintro ⟨-, q⟩; have q2 := Nat.le_of_ble_eq_true q; omega)]
    rw [if_neg (by rw [Bool.and_eq_true]; rintro ⟨-, q⟩; have q2 := Nat.le_of_ble_eq_true q; omega)]
    rw [if_neg (by rw [Bool.and_eq_true]; rintro ⟨-, q⟩; have q2 := Nat.le_of_ble_eq_true q; omega)]
    rw [if_neg (by rw [Bool.and_eq_true]; rintro ⟨-, q⟩; have q2 := Nat.le_of_ble_eq_true q; omega)]
    rw [if_neg (by rw [Bool.and_eq_true]; rintro ⟨-, q⟩; have q2 := Nat.le_of_ble_eq_true q; omega)]
    rw [if_neg (by rw [Bool.and_eq_true]; rintro ⟨-, q⟩; have q2 := Nat.le_of_ble_eq_true q; omega)]
    rw [if_pos (by rw [Bool.and_eq_true]; exact ⟨Nat.ble_eq_true_of_le (by omega), Nat.ble_eq_true_of_le (by omega)⟩)]
  rw [if_neg h1276] at h
  by_cases h1338 : a = 1338
  · rw [if_pos h1338] at h
    simp only [Option.some.injEq, Prod.mk.injEq] at h
    obtain ⟨rfl, rfl, rfl⟩ := h
    refine ⟨?_, by omega⟩
    subst h1338
    unfold qown
    rw [if_neg (by rw [Bool.and_eq_true]; rintro ⟨-, q⟩; have q2 := Nat.le_of_ble_eq_true q; omega)]
    rw [if_neg (by rw [Bool.and_eq_true]; rintro ⟨-, q⟩; have q2 := Nat.le_of_ble_eq_true q; omega)]
    rw [if_neg (by rw [Bool.and_eq_true]; rintro ⟨-, q⟩; have q2 := Nat.le_of_ble_eq_true q; omega)]
    rw [if_neg (by rw [Bool.and_eq_true]; rintro ⟨-, q⟩; have q2 := Nat.le_of_ble_eq_true q; omega)]
    rw [if_neg (by rw [Bool.and_eq_true]; rintro ⟨-, q⟩; have q2 := Nat.le_of_ble_eq_true q; omega)]
    rw [if_neg (by rw [Bool.and_eq_true]; rintro ⟨-, q⟩; have q2 := Nat.le_of_ble_eq_true q; omega)]
    rw [if_neg (by rw [Bool.and_eq_true]; rintro ⟨-, q⟩; have q2 := Nat.le_of_ble_eq_true q; omega)]
    rw [if_neg (by rw [Bool.and_eq_true]; rintro ⟨-, q⟩; have q2 := Nat.le_of_ble_eq_true q; omega)]
    rw [if_neg (by rw [Bool.and_eq_true]; rintro ⟨-, q⟩; have q2 := Nat.le_of_ble_eq_true q; omega)]
    rw [if_neg (by rw [Bool.and_eq_true]; rintro ⟨-, q⟩; have q2 := Nat.le_of_ble_eq_true q; omega)]
    rw [if_neg (by rw [Bool.and_eq_true]; rintro ⟨-, q⟩; have q2 := Nat.le_of_ble_eq_true q; omega)]
    rw [if_neg (by rw [Bool.and_eq_true]; rintro ⟨-, q⟩; have q2 := Nat.le_of_ble_eq_true q; omega)]
    rw [if_neg (by rw [Bool.and_eq_true]; rintro ⟨-, q⟩; have q2 := Nat.le_of_ble_eq_true q; omega)]
    rw [if_neg (by rw [Bool.and_eq_true]; rintro ⟨-, q⟩; have q2 := Nat.le_of_ble_eq_true q; omega)]
    rw [if_neg (by rw [Bool.and_eq_true]; rintro ⟨-, q⟩; have q2 := Nat.le_of_ble_eq_true q; omega)]
    rw [if_neg (by rw [Bool.and_eq_true]; rintro ⟨-, q⟩; have q2 := Nat.le_of_ble_eq_true q; omega)]
    rw [if_neg (by rw [Bool.and_eq_true]; rintro ⟨-, q⟩; have q2 := Nat.le_of_ble_eq_true q; omega)]
    rw [if_neg (by rw [Bool.and_eq_true]; rintro ⟨-, q⟩; have q2 := Nat.le_of_ble_eq_true q; omega)]
    rw [if_neg (by rw [Bool.and_eq_true]; rintro ⟨-, q⟩; have q2 := Nat.le_of_ble_eq_true q; omega)]
    rw [if_neg (by rw [Bool.and_eq_true]; rintro ⟨-, q⟩; have q2 := Nat.le_of_ble_eq_true q; omega)]
    rw [if_neg (by rw [Bool.and_eq_true]; rintro ⟨-, q⟩; have q2 := Nat.le_of_ble_eq_true q; omega)]
    rw [if_neg (by rw [Bool.and_eq_true]; rintro ⟨-, q⟩; have q2 := Nat.le_of_ble_eq_true q; omega)]
    rw [if_neg (by rw [Bool.and_eq_true]; rintro ⟨-, q⟩; have q2 := Nat.le_of_ble_eq_true q; omega)]
    rw [if_pos (by rw [Bool.and_eq_true]; exact ⟨Nat.ble_eq_true_of_le (by omega), Nat.ble_eq_true_of_le (by omega)⟩)]
  rw [if_neg h1338] at h
  by_cases h1343 : a = 1343
  · rw [if_pos h1343] at h
    simp only [Option.some.injEq, Prod.mk.injEq] at h
    obtain ⟨rfl, rfl, rfl⟩ := h
    refine ⟨?_, by omega⟩
    subst h1343
    unfold qown
    rw [if_neg (by rw [Bool.and_eq_true]; rintro ⟨-, q⟩; have q2 := Nat.le_of_ble_eq_true q; omega)]
    rw [if_neg (by rw [Bool.and_eq_true]; rintro ⟨-, q⟩; have q2 := Nat.le_of_ble_eq_true q; omega)]
    rw [if_neg (by rw [Bool.and_eq_true]; rintro ⟨-, q⟩; have q2 := Nat.le_of_ble_eq_true q; omega)]
    rw [if_neg (by rw [Bool.and_eq_true]; rintro ⟨-, q⟩; have q2 := Nat.le_of_ble_eq_true q; omega)]
    rw [if_neg (by rw [Bool.and_eq_true]; rintro ⟨-, q⟩; have q2 := Nat.le_of_ble_eq_true q; omega)]
    rw [if_neg (by rw [Bool.and_eq_true]; rintro ⟨-, q⟩; have q2 := Nat.le_of_ble_eq_true q; omega)]
    rw [if_neg (by rw [Bool.and_eq_true]; rintro ⟨-, q⟩; have q2 := Nat.le_of_ble_eq_true q; omega)]
    rw [if_neg (by rw [Bool.and_eq_true]; rintro ⟨-, q⟩; have q2 := Nat.le_of_ble_eq_true q; omega)]
    rw [if_neg (by rw [Bool.and_eq_true]; rintro ⟨-, q⟩; have q2 := Nat.le_of_ble_eq_true q; omega)]
    rw [if_neg (by rw [Bool.and_eq_true]; rintro ⟨-, q⟩; have q2 := Nat.le_of_ble_eq_true q; omega)]
    rw [if_neg (by rw [Bool.and_eq_true]; rintro ⟨-, q⟩; have q2 := Nat.le_of_ble_eq_true q; omega)]
    rw [if_neg (by rw [Bool.and_eq_true]; rintro ⟨-, q⟩; have q2 := Nat.le_of_ble_eq_true q; omega)]
    rw [if_neg (by rw [Bool.and_eq_true]; rintro ⟨-, q⟩; have q2 := Nat.le_of_ble_eq_true q; omega)]
    rw [if_neg (by rw [Bool.and_eq_true]; rintro ⟨-, q⟩; have q2 := Nat.le_of_ble_eq_true q; omega)]
    rw [if_neg (by rw [Bool.and_eq_true]; rintro ⟨-, q⟩; have q2 := Nat.le_of_ble_eq_true q; omega)]
    rw [if_neg (by rw [Bool.and_eq_true]; rintro ⟨-, q⟩; have q2 := Nat.le_of_ble_eq_true q; omega)]
    rw [if_neg (by rw [Bool.and_eq_true]; rintro ⟨-, q⟩; have q2 := Nat.le_of_ble_eq_true q; omega)]
    rw [if_neg (by rw [Bool.and_eq_true]; rintro ⟨-, q⟩; have q2 := Nat.le_of_ble_eq_true q; omega)]
    rw [if_neg (by rw [Bool.and_eq_true]; rintro ⟨-, q⟩; have q2 := Nat.le_of_ble_eq_true q; omega)]
    rw [if_neg (by rw [Bool.and_eq_true]; rintro ⟨-, q⟩; have q2 := Nat.le_of_ble_eq_true q; omega)]
    rw [if_neg (by rw [Bool.and_eq_true]; rintro ⟨-, q⟩; have q2 := Nat.le_of_ble_eq_true q; omega)]
    rw [if_neg (by rw [Bool.and_eq_true]; rintro ⟨-, q⟩; have q2 := Nat.le_of_ble_eq_true q; omega)]
    rw [if_neg (by rw [Bool.and_eq_true]; rintro ⟨-, q⟩; have q2 := Nat.le_of_ble_eq_true q; omega)]
    rw [if_neg (by rw [Bool.and_eq_true]; rintro ⟨-, q⟩; have q2 := Nat.le_of_ble_eq_true q; omega)]
    rw [if_pos (by rw [Bool.and_eq_true]; exact ⟨Nat.ble_eq_true_of_le (by omega), Nat.ble_eq_true_of_le (by omega)⟩)]
  rw [if_neg h1343] at h
  by_cases h1745 : a = 1745
  · rw [if_pos h1745] at h
    simp only [Option.some.injEq, Prod.mk.injEq] at h
    obtain ⟨rfl, rfl, rfl⟩ := h
    refine ⟨?_, by omega⟩
    subst h1745
    unfold qown
    rw [if_neg (by rw [Bool.and_eq_true]; rintro ⟨-, q⟩; have q2 := Nat.le_of_ble_eq_true q; omega)]
    rw [if_neg (by rw [Bool.and_eq_true]; rintro ⟨-, q⟩; have q2 := Nat.le_of_ble_eq_true q; omega)]
    rw [if_neg (by rw [Bool.and_eq_true]; rintro ⟨-, q⟩; have q2 := Nat.le_of_ble_eq_true q; omega)]
    rw [if_neg (by rw [Bool.and_eq_true]; rintro ⟨-, q⟩; have q2 := Nat.le_of_ble_eq_true q; omega)]
    rw [if_neg (by rw [Bool.and_eq_true]; rintro ⟨-, q⟩; have q2 := Nat.le_of_ble_eq_true q; omega)]
    rw [if_neg (by rw [Bool.and_eq_true]; rintro ⟨-, q⟩; have q2 := Nat.le_of_ble_eq_true q; omega)]
    rw [if_neg (by rw [Bool.and_eq_true]; rintro ⟨-, q⟩; have q2 := Nat.le_of_ble_eq_true q; omega)]
    rw [if_neg (by rw [Bool.and_eq_true]; rintro ⟨-, q⟩; have q2 := Nat.le_of_ble_eq_true q; omega)]
    rw [if_neg (by rw [Bool.and_eq_true]; rintro ⟨-, q⟩; have q2 := Nat.le_of_ble_eq_true q; omega)]
    rw [if_neg (by rw [Bool.and_eq_true]; rintro ⟨-, q⟩; have q2 := Nat.le_of_ble_eq_true q; omega)]
    rw [if_neg (by rw [Bool.and_eq_true]; rintro ⟨-, q⟩; have q2 := Nat.le_of_ble_eq_true q; omega)]
    rw [if_neg (by rw [Bool.and_eq_true]; rintro ⟨-, q⟩; have q2 := Nat.le_of_ble_eq_true q; omega)]
    rw [if_neg (by rw [Bool.and_eq_true]; rintro ⟨-, q⟩; have q2 := Nat.le_of_ble_eq_true q; omega)]
    rw [if_neg (by rw [Bool.and_eq_true]; rintro ⟨-, q⟩; have q2 := Nat.le_of_ble_eq_true q; omega)]
    rw [if_neg (by rw [Bool.and_eq_true]; rintro ⟨-, q⟩; have q2 := Nat.le_of_ble_eq_true q; omega)]
    rw [if_neg (by rw [Bool.and_eq_true]; rintro ⟨-, q⟩; have q2 := Nat.le_of_ble_eq_true q; omega)]
    rw [if_neg (by rw [Bool.and_eq_true]; rintro ⟨-, q⟩; have q2 := Nat.le_of_ble_eq_true q; omega)]
    rw [if_neg (by rw [Bool.and_eq_true]; rintro ⟨-, q⟩; have q2 := Nat.le_of_ble_eq_true q; omega)]
    rw [if_neg (by rw [Bool.and_eq_true]; rintro ⟨-, q⟩; have q2 := Nat.le_of_ble_eq_true q; omega)]
    rw [if_neg (by rw [Bool.and_eq_true]; rintro ⟨-, q⟩; have q2 := Nat.le_of_ble_eq_true q; omega)]
    rw [if_neg (by rw [Bool.and_eq_true]; rintro ⟨-, q⟩; have q2 := Nat.le_of_ble_eq_true q; omega)]
    rw [if_neg (by rw [Bool.and_eq_true]; rintro ⟨-, q⟩; have q2 := Nat.le_of_ble_eq_true q; omega)]
    rw [if_neg (by rw [Bool.and_eq_true]; rintro ⟨-, q⟩; have q2 := Nat.le_of_ble_eq_true q; omega)]
    rw [if_neg (by rw [Bool.and_eq_true]; rintro ⟨-, q⟩; have q2 := Nat.le_of_ble_eq_true q; omega)]
    rw [if_neg (by rw [Bool.and_eq_true]; rintro ⟨-, q⟩; have q2 := Nat.le_of_ble_eq_true q; omega)]
    rw [if_pos (by rw [Bool.and_eq_true]; exact ⟨Nat.ble_eq_true_of_le (by omega), Nat.ble_eq_true_of_le (by omega)⟩)]
  rw [if_neg h1745] at h
  by_cases h2147 : a = 2147
  · rw [if_pos h2147] at h
    simp only [Option.some.injEq, Prod.mk.injEq] at h
    obtain ⟨rfl, rfl, rfl⟩ := h
    refine ⟨?_, by omega⟩
    subst h2147
    unfold qown
    rw [if_neg (by rw [Bool.and_eq_true]; rintro ⟨-, q⟩; have q2 := Nat.le_of_ble_eq_true q; omega)]
    rw [if_neg (by rw [Bool.and_eq_true]; rintro ⟨-, q⟩; have q2 := Nat.le_of_ble_eq_true q; omega)]
    rw [if_neg (by rw [Bool.and_eq_true]; rintro ⟨-, q⟩; have q2 := Nat.le_of_ble_eq_true q; omega)]
    rw [if_neg (by rw [Bool.and_eq_true]; rintro ⟨-, q⟩; have q2 := Nat.le_of_ble_eq_true q; omega)]
    rw [if_neg (by rw [Bool.and_eq_true]; rintro ⟨-, q⟩; have q2 := Nat.le_of_ble_eq_true q; omega)]
    rw [if_neg (by rw [Bool.and_eq_true]; rintro ⟨-, q⟩; have q2 := Nat.le_of_ble_eq_true q; omega)]
    rw [if_neg (by rw [Bool.and_eq_true]; rintro ⟨-, q⟩; have q2 := Nat.le_of_ble_eq_true q; omega)]
    rw [if_neg (by rw [Bool.and_eq_true]; rintro ⟨-, q⟩; have q2 := Nat.le_of_ble_eq_true q; omega)]
    rw [if_neg (by rw [Bool.and_eq_true]; rintro ⟨-, q⟩; have q2 := Nat.le_of_ble_eq_true q; omega)]
    rw [if_neg (by rw [Bool.and_eq_true]; rintro ⟨-, q⟩; have q2 := Nat.le_of_ble_eq_true q; omega)]
    rw [if_neg (by rw [Bool.and_eq_true]; rintro ⟨-, q⟩; have q2 := Nat.le_of_ble_eq_true q; omega)]
    rw [if_neg (by rw [Bool.and_eq_true]; rintro ⟨-, q⟩; have q2 := Nat.le_of_ble_eq_true q; omega)]
    rw [if_neg (by rw [Bool.and_eq_true]; rintro ⟨-, q⟩; have q2 := Nat.le_of_ble_eq_true q; omega)]
    rw [if_neg (by rw [Bool.and_eq_true]; rintro ⟨-, q⟩; have q2 := Nat.le_of_ble_eq_true q; omega)]
    rw [if_neg (by rw [Bool.and_eq_true]; rintro ⟨-, q⟩; have q2 := Nat.le_of_ble_eq_true q; omega)]
    rw [if_neg (by rw [Bool.and_eq_true]; rintro ⟨-, q⟩; have q2 := Nat.le_of_ble_eq_true q; omega)]
    rw [if_neg (by rw [Bool.and_eq_true]; rintro ⟨-, q⟩; have q2 := Nat.le_of_ble_eq_true q; omega)]
    rw [if_neg (by rw [Bool.and_eq_true]; rintro ⟨-, q⟩; have q2 := Nat.le_of_ble_eq_true q; omega)]
    rw [if_neg (by rw [Bool.and_eq_true]; rintro ⟨-, q⟩; have q2 := Nat.le_of_ble_eq_true q; omega)]
    rw [if_neg (by rw [Bool.and_eq_true]; rintro ⟨-, q⟩; have q2 := Nat.le_of_ble_eq_true q; omega)]
    rw [if_neg (by rw [Bool.and_eq_true]; rintro ⟨-, q⟩; have q2 := Nat.le_of_ble_eq_true q; omega)]
    rw [if_neg (by rw [Bool.and_eq_true]; rintro ⟨-, q⟩; have q2 := Nat.le_of_ble_eq_true q; omega)]
    rw [if_neg (by rw [Bool.and_eq_true]; rintro ⟨-, q⟩; have q2 := Nat.le_of_ble_eq_true q; omega)]
    rw [if_neg (by rw [Bool.and_eq_true]; rintro ⟨-, q⟩; have q2 := Nat.le_of_ble_eq_true q; omega)]
    rw [if_neg (by rw [Bool.and_eq_true]; rintro ⟨-, q⟩; have q2 := Nat.le_of_ble_eq_true q; omega)]
    rw [if_neg (by rw [Bool.and_eq_true]; rintro ⟨-, q⟩; have q2 := Nat.le_of_ble_eq_true q; omega)]
    rw [if_pos (by rw [Bool.and_eq_true]; exact ⟨Nat.ble_eq_true_of_le (by omega), Nat.ble_eq_true_of_le (by omega)⟩)]
  rw [if_neg h2147] at h
  cases h
theorem qown_lt {a : Nat} (h : qown a ≠ 0) : 6 ≤ a ∧ a < 2333 := by
  apply Classical.byContradiction
  intro q
  apply h
  unfold qown
  rw [if_neg (by rw [Bool.and_eq_true]; rintro ⟨q1, q2⟩; have q3 := Nat.le_of_ble_eq_true q1; have q4 := Nat.le_of_ble_eq_true q2; omega)]
  rw [if_neg (by rw [Bool.and_eq_true]; rintro ⟨q1, q2⟩; have q3 := Nat.le_of_ble_eq_true q1; have q4 := Nat.le_of_ble_eq_true q2; omega)]
  rw [if_neg (by rw [Bool.and_eq_true]; rintro ⟨q1, q2⟩; have q3 := Nat.le_of_ble_eq_true q1; have q4 := Nat.le_of_ble_eq_true q2; omega)]
  rw [if_neg (by rw [Bool.and_eq_true]; rintro ⟨q1, q2⟩; have q3 := Nat.le_of_ble_eq_true q1; have q4 := Nat.le_of_ble_eq_true q2; omega)]
  rw [if_neg (by rw [Bool.and_eq_true]; rintro ⟨q1, q2⟩; have q3 := Nat.le_of_ble_eq_true q1; have q4 := Nat.le_of_ble_eq_true q2; omega)]
  rw [if_neg (by rw [Bool.and_eq_true]; rintro ⟨q1, q2⟩; have q3 := Nat.le_of_ble_eq_true q1; have q4 := Nat.le_of_ble_eq_true q2; omega)]
  rw [if_neg (by rw [Bool.and_eq_true]; rintro ⟨q1, q2⟩; have q3 := Nat.le_of_ble_eq_true q1; have q4 := Nat.le_of_ble_eq_true q2; omega)]
  rw [if_neg (by rw [Bool.and_eq_true]; rintro ⟨q1, q2⟩; have q3 := Nat.le_of_ble_eq_true q1; have q4 := Nat.le_of_ble_eq_true q2; omega)]
  rw [if_neg (by rw [Bool.and_eq_true]; rintro ⟨q1, q2⟩; have q3 := Nat.le_of_ble_eq_true q1; have q4 := Nat.le_of_ble_eq_true q2; omega)]
  rw [if_neg (by rw [Bool.and_eq_true]; rintro ⟨q1, q2⟩; have q3 := Nat.le_of_ble_eq_true q1; have q4 := Nat.le_of_ble_eq_true q2; omega)]
  rw [if_neg (by rw [Bool.and_eq_true]; rintro ⟨q1, q2⟩; have q3 := Nat.le_of_ble_eq_true q1; have q4 := Nat.le_of_ble_eq_true q2; omega)]
  rw [if_neg (by rw [Bool.and_eq_true]; rintro ⟨q1, q2⟩; have q3 := Nat.le_of_ble_eq_true q1; have q4 := Nat.le_of_ble_eq_true q2; omega)]
  rw [if_neg (by rw [Bool.and_eq_true]; rintro ⟨q1, q2⟩; have q3 := Nat.le_of_ble_eq_true q1; have q4 := Nat.le_of_ble_eq_true q2; omega)]
  rw [if_neg (by rw [Bool.and_eq_true]; rintro ⟨q1, q2⟩; have q3 := Nat.le_of_ble_eq_true q1; have q4 := Nat.le_of_ble_eq_true q2; omega)]
  rw [if_neg (by rw [Bool.and_eq_true]; rintro ⟨q1, q2⟩; have q3 := Nat.le_of_ble_eq_true q1; have q4 := Nat.le_of_ble_eq_true q2; omega)]
  rw [if_neg (by rw [Bool.and_eq_true]; rintro ⟨q1, q2⟩; have q3 := Nat.le_of_ble_eq_true q1; have q4 := Nat.le_of_ble_eq_true q2; omega)]
  rw [if_neg (by rw [Bool.and_eq_true]; rintro ⟨q1, q2⟩; have q3 := Nat.le_of_ble_eq_true q1; have q4 := Nat.le_of_ble_eq_true q2; omega)]
  rw [if_neg (by rw [Bool.and_eq_true]; rintro ⟨q1, q2⟩; have q3 := Nat.le_of_ble_eq_true q1; have q4 := Nat.le_of_ble_eq_true q2; omega)]
  rw [if_neg (by rw [Bool.and_eq_true]; rintro ⟨q1, q2⟩; have q3 := Nat.le_of_ble_eq_true q1; have q4 := Nat.le_of_ble_eq_true q2; omega)]
  rw [if_neg (by rw [Bool.and_eq_true]; rintro ⟨q1, q2⟩; have q3 := Nat.le_of_ble_eq_true q1; have q4 := Nat.le_of_ble_eq_true q2; omega)]
  rw [if_neg (by rw [Bool.and_eq_true]; rintro ⟨q1, q2⟩; have q3 := Nat.le_of_ble_eq_true q1; have q4 := Nat.le_of_ble_eq_true q2; omega)]
  rw [if_neg (by rw [Bool.and_eq_true]; rintro ⟨q1, q2⟩; have q3 := Nat.le_of_ble_eq_true q1; have q4 := Nat.le_of_ble_eq_true q2; omega)]
  rw [if_neg (by rw [Bool.and_eq_true]; rintro ⟨q1, q2⟩; have q3 := Nat.le_of_ble_eq_true q1; have q4 := Nat.le_of_ble_eq_true q2; omega)]
  rw [if_neg (by rw [Bool.and_eq_true]; rintro ⟨q1, q2⟩; have q3 := Nat.le_of_ble_eq_true q1; have q4 := Nat.le_of_ble_eq_true q2; omega)]
  rw [if_neg (by rw [Bool.and_eq_true]; rintro ⟨q1, q2⟩; have q3 := Nat.le_of_ble_eq_true q1; have q4 := Nat.le_of_ble_eq_true q2; omega)]
  rw [if_neg (by rw [Bool.and_eq_true]; rintro ⟨q1, q2⟩; have q3 := Nat.le_of_ble_eq_true q1; have q4 := Nat.le_of_ble_eq_true q2; omega)]
  rw [if_neg (by rw [Bool.and_eq_true]; rintro ⟨q1, q2⟩; have q3 := Nat.le_of_ble_eq_true q1; have q4 := Nat.le_of_ble_eq_true q2; omega)]
theorem qD_own {a : Nat} (h : qD a = true) : qown a = 0 ∧ qt a = none ∧ 6 ≤ a ∧ a < 2333 := by
  unfold qD at h
  simp only [Bool.or_eq_true] at h
  rcases h with (((((((((((((h | h) | h) | h) | h) | h) | h) | h) | h) | h) | h) | h) | h) | h) | h <;> (have e := Nat.eq_of_beq_eq_true h; subst e; decide)
def rowB (w : Nat) (c : zm_C) : Bool := match c with
  | .inr (t, n, .inl _) => Nat.beq t 0 && Nat.beq n w
  | _ => false
def rowL (w : Nat) (c : zm_C) : Bool := match c with
  | .inr (t, n, .inr (.inl _)) => Nat.beq t 1 && Nat.beq n w
  | _ => false
theorem row_i {w : Nat} {c : zm_C} (h : rowB w c = true) : sc c = .inr (0, w, .inl 0) := by
  rcases c with p | ⟨t, n, f | f | f⟩
  · cases h
  · have h2 : (Nat.beq t 0 && Nat.beq n w) = true := h
    rw [Bool.and_eq_true] at h2
    rw [Nat.eq_of_beq_eq_true h2.1, Nat.eq_of_beq_eq_true h2.2]
    rfl
  · cases h
  · cases h
theorem row_l {w : Nat} {c : zm_C} (h : rowL w c = true) : sc c = .inr (1, w, .inl 1) := by
  rcases c with p | ⟨t, n, f | f | f⟩
  · cases h
  · cases h
  · have h2 : (Nat.beq t 1 && Nat.beq n w) = true := h
    rw [Bool.and_eq_true] at h2
    rw [Nat.eq_of_beq_eq_true h2.1, Nat.eq_of_beq_eq_true h2.2]
    rfl
  · cases h
section TSF
variable {P : Nat → Nat}
set_option maxRecDepth 100000 in
theorem ts_6 : TS P 6 = .inl (11, [.inr 7, .inr 51, .inr 727, .inr 735, .inr 756, .inr 824, .inr 908, .inr 1172, .inr 1003, .inr 1139, .inr 1337, .inl 0, .inl 0]) := rfl
set_option maxRecDepth 100000 in
theorem ts_7 : TS P 7 = .inl (8, [.inl 0, .inr 8, .inr 29, .inr 30]) := rfl
set_option maxRecDepth 100000 in
theorem ts_8 : TS P 8 = .inr (4, 20, .inr (fun i => if i < 20 then some (9 + i) else none)) := rfl
set_option maxRecDepth 100000 in
theorem ts_29 : TS P 29 = .inr (0, 20, .inl 0) := rfl
set_option maxRecDepth 100000 in
theorem ts_30 : TS P 30 = .inr (4, 20, .inr (fun i => if i < 20 then some (31 + i) else none)) := rfl
set_option maxRecDepth 100000 in
theorem ts_51 : TS P 51 = .inl (2, [.inr 7, .inl 0, .inl 0, .inl 0, .inr 52, .inr 55, .inr (P 56), .inr (P 57), .inr (P 58), .inr (P 59), .inr 60, .inr 61, .inl 0, .inr 62, .inl 0, .inr 283, .inr 724, .inr 725, .inr 726]) := rfl
set_option maxRecDepth 100000 in
theorem ts_52 : TS P 52 = .inr (4, 2, .inr (fun i => if i < 2 then some (53 + i) else none)) := rfl
set_option maxRecDepth 100000 in
theorem ts_55 : TS P 55 = .inr (2, 625, .inl 0) := rfl
set_option maxRecDepth 100000 in
theorem ts_56 : TS P 56 = .inr (0, 576, .inl 0) := rfl
set_option maxRecDepth 100000 in
theorem ts_57 : TS P 57 = .inr (0, 576, .inl 0) := rfl
set_option maxRecDepth 100000 in
theorem ts_58 : TS P 58 = .inr (0, 100, .inl 0) := rfl
set_option maxRecDepth 100000 in
theorem ts_59 : TS P 59 = .inr (0, 100, .inl 0) := rfl
set_option maxRecDepth 100000 in
theorem ts_60 : TS P 60 = .inr (0, 100, .inl 0) := rfl
set_option maxRecDepth 100000 in
theorem ts_61 : TS P 61 = .inr (0, 100, .inl 0) := rfl
set_option maxRecDepth 100000 in
theorem ts_62 : TS P 62 = .inr (4, 220, .inr (fun i => if i < 220 then some (63 + i) else none)) := rfl
set_option maxRecDepth 100000 in
theorem ts_283 : TS P 283 = .inr (4, 440, .inr (fun i => if i < 440 then some (284 + i) else none)) := rfl
set_option maxRecDepth 100000 in
theorem ts_724 : TS P 724 = .inr (2, 2500, .inl 0) := rfl
set_option maxRecDepth 100000 in
theorem ts_725 : TS P 725 = .inr (0, 576, .inl 0) := rfl
set_option maxRecDepth 100000 in
theorem ts_726 : TS P 726 = .inr (0, 100, .inl 0) := rfl
set_option maxRecDepth 100000 in
theorem ts_727 : TS P 727 = .inl (6, [.inr 728, .inl 0, .inr 729, .inr 730, .inr 731, .inl 0, .inl 0, .inr 732, .inr 733, .inr 734]) := rfl
set_option maxRecDepth 100000 in
theorem ts_728 : TS P 728 = .inr (3, 800, .inl 0) := rfl
set_option maxRecDepth 100000 in
theorem ts_729 : TS P 729 = .inr (0, 121, .inl 0) := rfl
set_option maxRecDepth 100000 in
theorem ts_730 : TS P 730 = .inr (1, 121, .inl 1) := rfl
set_option maxRecDepth 100000 in
theorem ts_731 : TS P 731 = .inr (0, 121, .inl 0) := rfl
set_option maxRecDepth 100000 in
theorem ts_732 : TS P 732 = .inr (1, 12, .inl 1) := rfl
set_option maxRecDepth 100000 in
theorem ts_733 : TS P 733 = .inr (0, 12, .inl 0) := rfl
set_option maxRecDepth 100000 in
theorem ts_734 : TS P 734 = .inr (0, 12, .inl 0) := rfl
set_option maxRecDepth 100000 in
theorem ts_735 : TS P 735 = .inl (7, [.inl 0, .inl 0, .inr 736, .inr 737, .inr 738, .inr 739, .inr 740, .inr 753, .inl 0, .inr 754, .inr 755, .inl 0, .inl 0, .inl 1, .inl 1, .inl 1]) := rfl
set_option maxRecDepth 100000 in
theorem ts_736 : TS P 736 = .inr (0, 121, .inl 0) := rfl
set_option maxRecDepth 100000 in
theorem ts_737 : TS P 737 = .inr (1, 121, .inl 1) := rfl
set_option maxRecDepth 100000 in
theorem ts_738 : TS P 738 = .inr (0, 12, .inl 0) := rfl
set_option maxRecDepth 100000 in
theorem ts_739 : TS P 739 = .inr (0, 12, .inl 0) := rfl
set_option maxRecDepth 100000 in
theorem ts_740 : TS P 740 = .inr (5, 12, .inr (fun i => if i < 12 then some (741 + i) else none)) := rfl
set_option maxRecDepth 100000 in
theorem ts_753 : TS P 753 = .inr (1, 7, .inl 1) := rfl
set_option maxRecDepth 100000 in
theorem ts_754 : TS P 754 = .inr (1, 40, .inl 1) := rfl
set_option maxRecDepth 100000 in
theorem ts_755 : TS P 755 = .inr (0, 40, .inl 0) := rfl
set_option maxRecDepth 100000 in
theorem ts_756 : TS P 756 = .inl (10, [.inr 7, .inr 51, .inr 757, .inr 758, .inl 0, .inr 759, .inr 760, .inl 0, .inr 761, .inr 802, .inr 803]) := rfl
set_option maxRecDepth 100000 in
theorem ts_757 : TS P 757 = .inr (2, 576, .inl 0) := rfl
set_option maxRecDepth 100000 in
theorem ts_758 : TS P 758 = .inr (0, 40, .inl 0) := rfl
set_option maxRecDepth 100000 in
theorem ts_759 : TS P 759 = .inr (0, 576, .inl 0) := rfl
set_option maxRecDepth 100000 in
theorem ts_760 : TS P 760 = .inr (0, 576, .inl 0) := rfl
set_option maxRecDepth 100000 in
theorem ts_761 : TS P 761 = .inr (4, 40, .inr (fun i => if i < 40 then some (762 + i) else none)) := rfl
set_option maxRecDepth 100000 in
theorem ts_802 : TS P 802 = .inr (0, 40, .inl 0) := rfl
set_option maxRecDepth 100000 in
theorem ts_803 : TS P 803 = .inr (4, 20, .inr (fun i => if i < 20 then some (804 + i) else none)) := rfl
set_option maxRecDepth 100000 in
theorem ts_824 : TS P 824 = .inl (0, [.inr 7, .inr 51, .inr 756, .inl 0, .inr (P 825), .inr (P 826), .inr (P 827), .inl 0, .inl 0, .inr 828, .inl 0, .inr 889, .inl 0, .inl 0, .inr 906, .inl 0, .inr 907, .inl 0, .inl 0]) := rfl
set_option maxRecDepth 100000 in
theorem ts_825 : TS P 825 = .inr (0, 0, .inl 0) := rfl
set_option maxRecDepth 100000 in
theorem ts_826 : TS P 826 = .inr (0, 0, .inl 0) := rfl
set_option maxRecDepth 100000 in
theorem ts_827 : TS P 827 = .inr (1, 0, .inl 1) := rfl
set_option maxRecDepth 100000 in
theorem ts_828 : TS P 828 = .inr (4, 60, .inr (fun i => if i < 60 then some (829 + i) else none)) := rfl
set_option maxRecDepth 100000 in
theorem ts_889 : TS P 889 = .inr (4, 16, .inr (fun i => if i < 16 then some (890 + i) else none)) := rfl
set_option maxRecDepth 100000 in
theorem ts_906 : TS P 906 = .inr (0, 1536, .inl 0) := rfl
set_option maxRecDepth 100000 in
theorem ts_907 : TS P 907 = .inr (0, 400, .inl 0) := rfl
set_option maxRecDepth 100000 in
theorem ts_908 : TS P 908 = .inl (5, [.inr 909, .inl 0, .inl 0, .inl 0, .inl 0, .inl 0, .inl 0, .inl 0, .inl 1, .inr 910, .inr 931, .inr 952, .inl 0]) := rfl
set_option maxRecDepth 100000 in
theorem ts_909 : TS P 909 = .inr (3, 2200, .inl 0) := rfl
set_option maxRecDepth 100000 in
theorem ts_910 : TS P 910 = .inr (4, 20, .inr (fun i => if i < 20 then some (911 + i) else none)) := rfl
set_option maxRecDepth 100000 in
theorem ts_931 : TS P 931 = .inr (4, 20, .inr (fun i => if i < 20 then some (932 + i) else none)) := rfl
set_option maxRecDepth 100000 in
theorem ts_952 : TS P 952 = .inr (4, 50, .inr (fun i => if i < 50 then some (953 + i) else none)) := rfl
set_option maxRecDepth 100000 in
theorem ts_1003 : TS P 1003 = .inl (9, [.inl 0, .inr 1004, .inr 1005, .inr 1006, .inr 1007, .inr 1008, .inr 1049, .inr 1050, .inr 1091, .inr 1132, .inr 1133, .inr 1134, .inr 1135, .inl 0, .inl 0, .inr 1136, .inr 1137, .inr 1138, .inl 0, .inl 0]) := rfl
set_option maxRecDepth 100000 in
theorem ts_1004 : TS P 1004 = .inr (0, 40, .inl 0) := rfl
set_option maxRecDepth 100000 in
theorem ts_1005 : TS P 1005 = .inr (0, 40, .inl 0) := rfl
set_option maxRecDepth 100000 in
theorem ts_1006 : TS P 1006 = .inr (0, 40, .inl 0) := rfl
set_option maxRecDepth 100000 in
theorem ts_1007 : TS P 1007 = .inr (0, 40, .inl 0) := rfl
set_option maxRecDepth 100000 in
theorem ts_1008 : TS P 1008 = .inr (4, 40, .inr (fun i => if i < 40 then some (1009 + i) else none)) := rfl
set_option maxRecDepth 100000 in
theorem ts_1049 : TS P 1049 = .inr (0, 40, .inl 0) := rfl
set_option maxRecDepth 100000 in
theorem ts_1050 : TS P 1050 = .inr (4, 40, .inr (fun i => if i < 40 then some (1051 + i) else none)) := rfl
set_option maxRecDepth 100000 in
theorem ts_1091 : TS P 1091 = .inr (4, 40, .inr (fun i => if i < 40 then some (1092 + i) else none)) := rfl
set_option maxRecDepth 100000 in
theorem ts_1132 : TS P 1132 = .inr (2, 40, .inl 0) := rfl
set_option maxRecDepth 100000 in
theorem ts_1133 : TS P 1133 = .inr (0, 40, .inl 0) := rfl
set_option maxRecDepth 100000 in
theorem ts_1134 : TS P 1134 = .inr (0, 40, .inl 0) := rfl
set_option maxRecDepth 100000 in
theorem ts_1135 : TS P 1135 = .inr (0, 10, .inl 0) := rfl
set_option maxRecDepth 100000 in
theorem ts_1136 : TS P 1136 = .inr (0, 40, .inl 0) := rfl
set_option maxRecDepth 100000 in
theorem ts_1137 : TS P 1137 = .inr (0, 40, .inl 0) := rfl
set_option maxRecDepth 100000 in
theorem ts_1138 : TS P 1138 = .inr (0, 4, .inl 0) := rfl
set_option maxRecDepth 100000 in
theorem ts_1139 : TS P 1139 = .inl (1, [.inr 1003, .inr 1140, .inr 1149, .inr 1158, .inr 1167, .inl 0, .inl 0, .inr 1168, .inl 0, .inl 0, .inl 0, .inl 0, .inr 1169, .inl 0, .inr 1170, .inl 0, .inl 0, .inl 0, .inl 0, .inr 1171]) := rfl
set_option maxRecDepth 100000 in
theorem ts_1140 : TS P 1140 = .inr (4, 8, .inr (fun i => if i < 8 then some (1141 + i) else none)) := rfl
set_option maxRecDepth 100000 in
theorem ts_1149 : TS P 1149 = .inr (4, 8, .inr (fun i => if i < 8 then some (1150 + i) else none)) := rfl
set_option maxRecDepth 100000 in
theorem ts_1158 : TS P 1158 = .inr (4, 8, .inr (fun i => if i < 8 then some (1159 + i) else none)) := rfl
set_option maxRecDepth 100000 in
theorem ts_1167 : TS P 1167 = .inr (2, 2048, .inl 0) := rfl
set_option maxRecDepth 100000 in
theorem ts_1168 : TS P 1168 = .inr (2, 2001, .inl 0) := rfl
set_option maxRecDepth 100000 in
theorem ts_1169 : TS P 1169 = .inr (0, 600, .inl 0) := rfl
set_option maxRecDepth 100000 in
theorem ts_1170 : TS P 1170 = .inr (0, 600, .inl 0) := rfl
set_option maxRecDepth 100000 in
theorem ts_1171 : TS P 1171 = .inr (0, 5, .inl 0) := rfl
set_option maxRecDepth 100000 in
theorem ts_1172 : TS P 1172 = .inl (4, [.inr 1003, .inr 1139, .inl 0, .inr 1173, .inr 1174, .inr 1175, .inr 1176, .inr 1197, .inr 1218, .inl 0, .inr 1269, .inr 1270, .inr 1271, .inr 1272, .inr 1273, .inr 1274, .inr 1275, .inl 0, .inr 1276]) := rfl
set_option maxRecDepth 100000 in
theorem ts_1173 : TS P 1173 = .inr (0, 50, .inl 0) := rfl
set_option maxRecDepth 100000 in
theorem ts_1174 : TS P 1174 = .inr (2, 50, .inl 0) := rfl
set_option maxRecDepth 100000 in
theorem ts_1175 : TS P 1175 = .inr (0, 50, .inl 0) := rfl
set_option maxRecDepth 100000 in
theorem ts_1176 : TS P 1176 = .inr (4, 20, .inr (fun i => if i < 20 then some (1177 + i) else none)) := rfl
set_option maxRecDepth 100000 in
theorem ts_1197 : TS P 1197 = .inr (4, 20, .inr (fun i => if i < 20 then some (1198 + i) else none)) := rfl
set_option maxRecDepth 100000 in
theorem ts_1218 : TS P 1218 = .inr (4, 50, .inr (fun i => if i < 50 then some (1219 + i) else none)) := rfl
set_option maxRecDepth 100000 in
theorem ts_1269 : TS P 1269 = .inr (0, 20, .inl 0) := rfl
set_option maxRecDepth 100000 in
theorem ts_1270 : TS P 1270 = .inr (0, 20, .inl 0) := rfl
set_option maxRecDepth 100000 in
theorem ts_1271 : TS P 1271 = .inr (0, 20, .inl 0) := rfl
set_option maxRecDepth 100000 in
theorem ts_1272 : TS P 1272 = .inr (2, 20, .inl 0) := rfl
set_option maxRecDepth 100000 in
theorem ts_1273 : TS P 1273 = .inr (2, 20, .inl 0) := rfl
set_option maxRecDepth 100000 in
theorem ts_1274 : TS P 1274 = .inr (2, 20, .inl 0) := rfl
set_option maxRecDepth 100000 in
theorem ts_1275 : TS P 1275 = .inr (2, 20, .inl 0) := rfl
set_option maxRecDepth 100000 in
theorem ts_1276 : TS P 1276 = .inr (4, 60, .inr (fun i => if i < 60 then some (1277 + i) else none)) := rfl
set_option maxRecDepth 100000 in
theorem ts_1337 : TS P 1337 = .inl (3, [.inl 0, .inr 1338, .inl 0, .inr 1343, .inl 0, .inr 1744, .inr 1745, .inl 0, .inr 2146, .inr 2147, .inr 2152, .inr 2153, .inl 1, .inr 2154, .inr 2155, .inl 1]) := rfl
set_option maxRecDepth 100000 in
theorem ts_1338 : TS P 1338 = .inr (4, 4, .inr (fun i => if i < 4 then some (1339 + i) else none)) := rfl
set_option maxRecDepth 100000 in
theorem ts_1343 : TS P 1343 = .inr (4, 400, .inr (fun i => if i < 400 then some (1344 + i) else none)) := rfl
set_option maxRecDepth 100000 in
theorem ts_1744 : TS P 1744 = .inr (0, 6, .inl 0) := rfl
set_option maxRecDepth 100000 in
theorem ts_1745 : TS P 1745 = .inr (4, 400, .inr (fun i => if i < 400 then some (1746 + i) else none)) := rfl
set_option maxRecDepth 100000 in
theorem ts_2146 : TS P 2146 = .inr (0, 6, .inl 0) := rfl
set_option maxRecDepth 100000 in
theorem ts_2147 : TS P 2147 = .inr (5, 4, .inr (fun i => if i < 4 then some (2148 + i) else none)) := rfl
set_option maxRecDepth 100000 in
theorem ts_2152 : TS P 2152 = .inr (0, 6, .inl 0) := rfl
set_option maxRecDepth 100000 in
theorem ts_2153 : TS P 2153 = .inr (0, 6, .inl 0) := rfl
set_option maxRecDepth 100000 in
theorem ts_2154 : TS P 2154 = .inr (0, 4, .inl 0) := rfl
set_option maxRecDepth 100000 in
theorem ts_2155 : TS P 2155 = .inr (0, 4, .inl 0) := rfl
set_option maxRecDepth 100000 in
theorem ts_2156 : TS P 2156 = .inl (18, [.inl 0, .inl 0, .inl 0, .inr 2157, .inr 2184, .inr 2208, .inr 2235, .inr 2252, .inr 2270, .inl 0, .inl 0, .inr 2289, .inr 2290, .inr 2291, .inr 2292, .inr 2293, .inr 2294, .inr 2295, .inr 2296, .inr 2297, .inr 2298, .inr 2299, .inr 2300, .inr 2301, .inl 0, .inr 2302, .inr 2303, .inl 0, .inr 2304, .inr 2305, .inr 2306, .inr 2307, .inr 2308, .inr 2309, .inr 2310, .inr 2311, .inl 0, .inr 2312, .inr 2313, .inl 0, .inr 2314, .inr 2315, .inr 2316, .inr 2317, .inr 2318, .inl 0, .inr 2319, .inr 2320, .inr 2321, .inl 0, .inr 2322, .inr 2323, .inr 2324, .inr 2325, .inr 2326, .inr 2327, .inr 2328, .inr 2329, .inr 2330, .inr 2331]) := rfl
set_option maxRecDepth 100000 in
theorem ts_2157 : TS P 2157 = .inl (16, [.inl 0, .inr 2158, .inr 2159, .inr 2160, .inr 2161, .inr 2162, .inr 2163, .inr 2164, .inr 2165, .inl 0, .inl 0, .inl 0, .inl 0, .inl 0, .inr (P 2166), .inr (P 2167), .inr (P 2168), .inl 0, .inl 0, .inl 0, .inl 0, .inr (P 2169), .inr (P 2170), .inr (P 2171), .inl 0, .inr (P 2172), .inr (P 2173), .inl 0, .inr 2174, .inr 2175, .inl 0, .inr 2176, .inr 2177, .inr 2178, .inr 2179, .inl 0, .inr 2180, .inr 2181, .inr 2182, .inr 2183]) := rfl
set_option maxRecDepth 100000 in
theorem ts_2158 : TS P 2158 = .inr (0, 20, .inl 0) := rfl
set_option maxRecDepth 100000 in
theorem ts_2159 : TS P 2159 = .inr (0, 20, .inl 0) := rfl
set_option maxRecDepth 100000 in
theorem ts_2160 : TS P 2160 = .inr (2, 20, .inl 0) := rfl
set_option maxRecDepth 100000 in
theorem ts_2161 : TS P 2161 = .inr (0, 20, .inl 0) := rfl
set_option maxRecDepth 100000 in
theorem ts_2162 : TS P 2162 = .inr (0, 20, .inl 0) := rfl
set_option maxRecDepth 100000 in
theorem ts_2163 : TS P 2163 = .inr (0, 120, .inl 0) := rfl
set_option maxRecDepth 100000 in
theorem ts_2164 : TS P 2164 = .inr (0, 120, .inl 0) := rfl
set_option maxRecDepth 100000 in
theorem ts_2165 : TS P 2165 = .inr (0, 120, .inl 0) := rfl
set_option maxRecDepth 100000 in
theorem ts_2166 : TS P 2166 = .inr (0, 40, .inl 0) := rfl
set_option maxRecDepth 100000 in
theorem ts_2167 : TS P 2167 = .inr (0, 40, .inl 0) := rfl
set_option maxRecDepth 100000 in
theorem ts_2168 : TS P 2168 = .inr (0, 1764, .inl 0) := rfl
set_option maxRecDepth 100000 in
theorem ts_2169 : TS P 2169 = .inr (0, 40, .inl 0) := rfl
set_option maxRecDepth 100000 in
theorem ts_2170 : TS P 2170 = .inr (0, 40, .inl 0) := rfl
set_option maxRecDepth 100000 in
theorem ts_2171 : TS P 2171 = .inr (0, 1764, .inl 0) := rfl
set_option maxRecDepth 100000 in
theorem ts_2172 : TS P 2172 = .inr (0, 400, .inl 0) := rfl
set_option maxRecDepth 100000 in
theorem ts_2173 : TS P 2173 = .inr (0, 400, .inl 0) := rfl
set_option maxRecDepth 100000 in
theorem ts_2174 : TS P 2174 = .inr (0, 460, .inl 0) := rfl
set_option maxRecDepth 100000 in
theorem ts_2175 : TS P 2175 = .inr (0, 460, .inl 0) := rfl
set_option maxRecDepth 100000 in
theorem ts_2176 : TS P 2176 = .inr (0, 460, .inl 0) := rfl
set_option maxRecDepth 100000 in
theorem ts_2177 : TS P 2177 = .inr (0, 460, .inl 0) := rfl
set_option maxRecDepth 100000 in
theorem ts_2178 : TS P 2178 = .inr (0, 460, .inl 0) := rfl
set_option maxRecDepth 100000 in
theorem ts_2179 : TS P 2179 = .inr (2, 920, .inl 0) := rfl
set_option maxRecDepth 100000 in
theorem ts_2180 : TS P 2180 = .inr (0, 460, .inl 0) := rfl
set_option maxRecDepth 100000 in
theorem ts_2181 : TS P 2181 = .inr (0, 460, .inl 0) := rfl
set_option maxRecDepth 100000 in
theorem ts_2182 : TS P 2182 = .inr (0, 1764, .inl 0) := rfl
set_option maxRecDepth 100000 in
theorem ts_2183 : TS P 2183 = .inr (0, 401, .inl 0) := rfl
set_option maxRecDepth 100000 in
theorem ts_2184 : TS P 2184 = .inl (15, [.inr 2185, .inl 0, .inl 0, .inr 2186, .inr 2187, .inl 0, .inr 2188, .inr 2189, .inr 2190, .inr 2191, .inl 0, .inr 2192, .inr 2193, .inr 2194, .inr 2195, .inl 0, .inr 2196, .inr 2197, .inl 0, .inr 2198, .inr 2199, .inr 2200, .inr 2201, .inr 2202, .inr 2203, .inr 2204, .inl 0, .inl 0, .inl 0, .inl 1, .inl 0, .inl 0, .inl 0, .inl 0, .inl 0, .inr 2205, .inl 0, .inr 2206, .inr 2207, .inl 0, .inl 0, .inl 1, .inl 1, .inl 1]) := rfl
set_option maxRecDepth 100000 in
theorem ts_2185 : TS P 2185 = .inr (0, 800, .inl 0) := rfl
set_option maxRecDepth 100000 in
theorem ts_2186 : TS P 2186 = .inr (1, 40, .inl 1) := rfl
set_option maxRecDepth 100000 in
theorem ts_2187 : TS P 2187 = .inr (0, 40, .inl 0) := rfl
set_option maxRecDepth 100000 in
theorem ts_2188 : TS P 2188 = .inr (1, 24, .inl 1) := rfl
set_option maxRecDepth 100000 in
theorem ts_2189 : TS P 2189 = .inr (0, 24, .inl 0) := rfl
set_option maxRecDepth 100000 in
theorem ts_2190 : TS P 2190 = .inr (0, 24, .inl 0) := rfl
set_option maxRecDepth 100000 in
theorem ts_2191 : TS P 2191 = .inr (0, 24, .inl 0) := rfl
set_option maxRecDepth 100000 in
theorem ts_2192 : TS P 2192 = .inr (0, 120, .inl 0) := rfl
set_option maxRecDepth 100000 in
theorem ts_2193 : TS P 2193 = .inr (0, 120, .inl 0) := rfl
set_option maxRecDepth 100000 in
theorem ts_2194 : TS P 2194 = .inr (0, 120, .inl 0) := rfl
set_option maxRecDepth 100000 in
theorem ts_2195 : TS P 2195 = .inr (0, 120, .inl 0) := rfl
set_option maxRecDepth 100000 in
theorem ts_2196 : TS P 2196 = .inr (0, 800, .inl 0) := rfl
set_option maxRecDepth 100000 in
theorem ts_2197 : TS P 2197 = .inr (1, 800, .inl 1) := rfl
set_option maxRecDepth 100000 in
theorem ts_2198 : TS P 2198 = .inr (0, 12, .inl 0) := rfl
set_option maxRecDepth 100000 in
theorem ts_2199 : TS P 2199 = .inr (1, 12, .inl 1) := rfl
set_option maxRecDepth 100000 in
theorem ts_2200 : TS P 2200 = .inr (1, 12, .inl 1) := rfl
set_option maxRecDepth 100000 in
theorem ts_2201 : TS P 2201 = .inr (1, 12, .inl 1) := rfl
set_option maxRecDepth 100000 in
theorem ts_2202 : TS P 2202 = .inr (1, 12, .inl 1) := rfl
set_option maxRecDepth 100000 in
theorem ts_2203 : TS P 2203 = .inr (0, 12, .inl 0) := rfl
set_option maxRecDepth 100000 in
theorem ts_2204 : TS P 2204 = .inr (1, 12, .inl 1) := rfl
set_option maxRecDepth 100000 in
theorem ts_2205 : TS P 2205 = .inr (0, 200, .inl 0) := rfl
set_option maxRecDepth 100000 in
theorem ts_2206 : TS P 2206 = .inr (1, 130, .inl 1) := rfl
set_option maxRecDepth 100000 in
theorem ts_2207 : TS P 2207 = .inr (1, 130, .inl 1) := rfl
set_option maxRecDepth 100000 in
theorem ts_2208 : TS P 2208 = .inl (14, [.inl 0, .inl 0, .inr 2209, .inr 2210, .inr 2211, .inr 2212, .inl 0, .inl 0, .inr 2213, .inr 2214, .inl 0, .inl 0, .inr 2215, .inr 2216, .inr 2217, .inr 2218, .inr 2219, .inr 2220, .inr 2221, .inr 2222, .inr 2223, .inl 0, .inl 0, .inr 2224, .inr 2225, .inr 2226, .inr 2227, .inr 2228, .inr 2229, .inr 2230, .inl 0, .inr 2231, .inr 2232, .inr 2233, .inr 2234, .inl 0]) := rfl
set_option maxRecDepth 100000 in
theorem ts_2209 : TS P 2209 = .inr (0, 50, .inl 0) := rfl
set_option maxRecDepth 100000 in
theorem ts_2210 : TS P 2210 = .inr (2, 50, .inl 0) := rfl
set_option maxRecDepth 100000 in
theorem ts_2211 : TS P 2211 = .inr (0, 50, .inl 0) := rfl
set_option maxRecDepth 100000 in
theorem ts_2212 : TS P 2212 = .inr (0, 2000, .inl 0) := rfl
set_option maxRecDepth 100000 in
theorem ts_2213 : TS P 2213 = .inr (0, 2000, .inl 0) := rfl
set_option maxRecDepth 100000 in
theorem ts_2214 : TS P 2214 = .inr (0, 2000, .inl 0) := rfl
set_option maxRecDepth 100000 in
theorem ts_2215 : TS P 2215 = .inr (2, 40, .inl 0) := rfl
set_option maxRecDepth 100000 in
theorem ts_2216 : TS P 2216 = .inr (0, 40, .inl 0) := rfl
set_option maxRecDepth 100000 in
theorem ts_2217 : TS P 2217 = .inr (0, 40, .inl 0) := rfl
set_option maxRecDepth 100000 in
theorem ts_2218 : TS P 2218 = .inr (0, 480, .inl 0) := rfl
set_option maxRecDepth 100000 in
theorem ts_2219 : TS P 2219 = .inr (2, 40, .inl 0) := rfl
set_option maxRecDepth 100000 in
theorem ts_2220 : TS P 2220 = .inr (0, 40, .inl 0) := rfl
set_option maxRecDepth 100000 in
theorem ts_2221 : TS P 2221 = .inr (0, 40, .inl 0) := rfl
set_option maxRecDepth 100000 in
theorem ts_2222 : TS P 2222 = .inr (0, 40, .inl 0) := rfl
set_option maxRecDepth 100000 in
theorem ts_2223 : TS P 2223 = .inr (2, 40, .inl 0) := rfl
set_option maxRecDepth 100000 in
theorem ts_2224 : TS P 2224 = .inr (0, 100, .inl 0) := rfl
set_option maxRecDepth 100000 in
theorem ts_2225 : TS P 2225 = .inr (0, 100, .inl 0) := rfl
set_option maxRecDepth 100000 in
theorem ts_2226 : TS P 2226 = .inr (0, 100, .inl 0) := rfl
set_option maxRecDepth 100000 in
theorem ts_2227 : TS P 2227 = .inr (0, 20, .inl 0) := rfl
set_option maxRecDepth 100000 in
theorem ts_2228 : TS P 2228 = .inr (0, 20, .inl 0) := rfl
set_option maxRecDepth 100000 in
theorem ts_2229 : TS P 2229 = .inr (2, 20, .inl 0) := rfl
set_option maxRecDepth 100000 in
theorem ts_2230 : TS P 2230 = .inr (2, 20, .inl 0) := rfl
set_option maxRecDepth 100000 in
theorem ts_2231 : TS P 2231 = .inr (0, 60, .inl 0) := rfl
set_option maxRecDepth 100000 in
theorem ts_2232 : TS P 2232 = .inr (0, 60, .inl 0) := rfl
set_option maxRecDepth 100000 in
theorem ts_2233 : TS P 2233 = .inr (0, 60, .inl 0) := rfl
set_option maxRecDepth 100000 in
theorem ts_2234 : TS P 2234 = .inr (0, 200, .inl 0) := rfl
set_option maxRecDepth 100000 in
theorem ts_2235 : TS P 2235 = .inl (17, [.inl 0, .inr 2236, .inr 2237, .inr 2238, .inr 2239, .inr 2240, .inr 2241, .inr 2242, .inr 2243, .inr 2244, .inr 2245, .inr 2246, .inr 2247, .inr 2248, .inl 0, .inr 2249, .inr 2250, .inr 2251, .inl 0]) := rfl
set_option maxRecDepth 100000 in
theorem ts_2236 : TS P 2236 = .inr (0, 40, .inl 0) := rfl
set_option maxRecDepth 100000 in
theorem ts_2237 : TS P 2237 = .inr (0, 40, .inl 0) := rfl
set_option maxRecDepth 100000 in
theorem ts_2238 : TS P 2238 = .inr (0, 40, .inl 0) := rfl
set_option maxRecDepth 100000 in
theorem ts_2239 : TS P 2239 = .inr (0, 40, .inl 0) := rfl
set_option maxRecDepth 100000 in
theorem ts_2240 : TS P 2240 = .inr (0, 120, .inl 0) := rfl
set_option maxRecDepth 100000 in
theorem ts_2241 : TS P 2241 = .inr (0, 320, .inl 0) := rfl
set_option maxRecDepth 100000 in
theorem ts_2242 : TS P 2242 = .inr (0, 40, .inl 0) := rfl
set_option maxRecDepth 100000 in
theorem ts_2243 : TS P 2243 = .inr (0, 40, .inl 0) := rfl
set_option maxRecDepth 100000 in
theorem ts_2244 : TS P 2244 = .inr (0, 40, .inl 0) := rfl
set_option maxRecDepth 100000 in
theorem ts_2245 : TS P 2245 = .inr (2, 40, .inl 0) := rfl
set_option maxRecDepth 100000 in
theorem ts_2246 : TS P 2246 = .inr (0, 40, .inl 0) := rfl
set_option maxRecDepth 100000 in
theorem ts_2247 : TS P 2247 = .inr (0, 10, .inl 0) := rfl
set_option maxRecDepth 100000 in
theorem ts_2248 : TS P 2248 = .inr (0, 40, .inl 0) := rfl
set_option maxRecDepth 100000 in
theorem ts_2249 : TS P 2249 = .inr (0, 40, .inl 0) := rfl
set_option maxRecDepth 100000 in
theorem ts_2250 : TS P 2250 = .inr (2, 40, .inl 0) := rfl
set_option maxRecDepth 100000 in
theorem ts_2251 : TS P 2251 = .inr (0, 4, .inl 0) := rfl
set_option maxRecDepth 100000 in
theorem ts_2252 : TS P 2252 = .inl (12, [.inl 0, .inr 2253, .inr 2254, .inl 0, .inr 2255, .inr 2256, .inr 2257, .inr 2258, .inr 2259, .inr 2260, .inr 2261, .inr 2262, .inr 2263, .inr 2264, .inr 2265, .inr 2266, .inl 0, .inl 0, .inr 2267, .inl 0, .inl 0, .inl 0, .inr 2268, .inl 0, .inl 0, .inl 0, .inl 0, .inr 2269, .inl 0]) := rfl
set_option maxRecDepth 100000 in
theorem ts_2253 : TS P 2253 = .inr (2, 180001, .inl 0) := rfl
set_option maxRecDepth 100000 in
theorem ts_2254 : TS P 2254 = .inr (2, 182001, .inl 0) := rfl
set_option maxRecDepth 100000 in
theorem ts_2255 : TS P 2255 = .inr (0, 8, .inl 0) := rfl
set_option maxRecDepth 100000 in
theorem ts_2256 : TS P 2256 = .inr (2, 2048, .inl 0) := rfl
set_option maxRecDepth 100000 in
theorem ts_2257 : TS P 2257 = .inr (2, 8, .inl 0) := rfl
set_option maxRecDepth 100000 in
theorem ts_2258 : TS P 2258 = .inr (0, 8, .inl 0) := rfl
set_option maxRecDepth 100000 in
theorem ts_2259 : TS P 2259 = .inr (0, 1152, .inl 0) := rfl
set_option maxRecDepth 100000 in
theorem ts_2260 : TS P 2260 = .inr (0, 8, .inl 0) := rfl
set_option maxRecDepth 100000 in
theorem ts_2261 : TS P 2261 = .inr (0, 8, .inl 0) := rfl
set_option maxRecDepth 100000 in
theorem ts_2262 : TS P 2262 = .inr (0, 8, .inl 0) := rfl
set_option maxRecDepth 100000 in
theorem ts_2263 : TS P 2263 = .inr (0, 8, .inl 0) := rfl
set_option maxRecDepth 100000 in
theorem ts_2264 : TS P 2264 = .inr (0, 8, .inl 0) := rfl
set_option maxRecDepth 100000 in
theorem ts_2265 : TS P 2265 = .inr (0, 8, .inl 0) := rfl
set_option maxRecDepth 100000 in
theorem ts_2266 : TS P 2266 = .inr (0, 8, .inl 0) := rfl
set_option maxRecDepth 100000 in
theorem ts_2267 : TS P 2267 = .inr (0, 14000, .inl 0) := rfl
set_option maxRecDepth 100000 in
theorem ts_2268 : TS P 2268 = .inr (0, 14000, .inl 0) := rfl
set_option maxRecDepth 100000 in
theorem ts_2269 : TS P 2269 = .inr (0, 5, .inl 0) := rfl
set_option maxRecDepth 100000 in
theorem ts_2270 : TS P 2270 = .inl (13, [.inl 0, .inr 2271, .inr 2272, .inr 2273, .inr 2274, .inr 2275, .inl 0, .inr 2276, .inr 2277, .inr 2278, .inr 2279, .inr 2280, .inl 0, .inl 0, .inl 0, .inr 2281, .inl 0, .inr 2282, .inr 2283, .inr 2284, .inr 2285, .inr 2286, .inr 2287, .inr 2288]) := rfl
set_option maxRecDepth 100000 in
theorem ts_2271 : TS P 2271 = .inr (0, 4, .inl 0) := rfl
set_option maxRecDepth 100000 in
theorem ts_2272 : TS P 2272 = .inr (0, 4, .inl 0) := rfl
set_option maxRecDepth 100000 in
theorem ts_2273 : TS P 2273 = .inr (0, 4, .inl 0) := rfl
set_option maxRecDepth 100000 in
theorem ts_2274 : TS P 2274 = .inr (0, 4, .inl 0) := rfl
set_option maxRecDepth 100000 in
theorem ts_2275 : TS P 2275 = .inr (0, 4, .inl 0) := rfl
set_option maxRecDepth 100000 in
theorem ts_2276 : TS P 2276 = .inr (0, 400, .inl 0) := rfl
set_option maxRecDepth 100000 in
theorem ts_2277 : TS P 2277 = .inr (0, 400, .inl 0) := rfl
set_option maxRecDepth 100000 in
theorem ts_2278 : TS P 2278 = .inr (0, 400, .inl 0) := rfl
set_option maxRecDepth 100000 in
theorem ts_2279 : TS P 2279 = .inr (2, 400, .inl 0) := rfl
set_option maxRecDepth 100000 in
theorem ts_2280 : TS P 2280 = .inr (0, 400, .inl 0) := rfl
set_option maxRecDepth 100000 in
theorem ts_2281 : TS P 2281 = .inr (0, 6, .inl 0) := rfl
set_option maxRecDepth 100000 in
theorem ts_2282 : TS P 2282 = .inr (0, 6, .inl 0) := rfl
set_option maxRecDepth 100000 in
theorem ts_2283 : TS P 2283 = .inr (1, 256, .inl 1) := rfl
set_option maxRecDepth 100000 in
theorem ts_2284 : TS P 2284 = .inr (0, 1536, .inl 0) := rfl
set_option maxRecDepth 100000 in
theorem ts_2285 : TS P 2285 = .inr (0, 400, .inl 0) := rfl
set_option maxRecDepth 100000 in
theorem ts_2286 : TS P 2286 = .inr (0, 400, .inl 0) := rfl
set_option maxRecDepth 100000 in
theorem ts_2287 : TS P 2287 = .inr (0, 400, .inl 0) := rfl
set_option maxRecDepth 100000 in
theorem ts_2288 : TS P 2288 = .inr (0, 400, .inl 0) := rfl
set_option maxRecDepth 100000 in
theorem ts_2289 : TS P 2289 = .inr (0, 1400, .inl 0) := rfl
set_option maxRecDepth 100000 in
theorem ts_2290 : TS P 2290 = .inr (0, 1400, .inl 0) := rfl
set_option maxRecDepth 100000 in
theorem ts_2291 : TS P 2291 = .inr (0, 1400, .inl 0) := rfl
set_option maxRecDepth 100000 in
theorem ts_2292 : TS P 2292 = .inr (0, 1400, .inl 0) := rfl
set_option maxRecDepth 100000 in
theorem ts_2293 : TS P 2293 = .inr (0, 1400, .inl 0) := rfl
set_option maxRecDepth 100000 in
theorem ts_2294 : TS P 2294 = .inr (2, 1400, .inl 0) := rfl
set_option maxRecDepth 100000 in
theorem ts_2295 : TS P 2295 = .inr (2, 1400, .inl 0) := rfl
set_option maxRecDepth 100000 in
theorem ts_2296 : TS P 2296 = .inr (0, 1400, .inl 0) := rfl
set_option maxRecDepth 100000 in
theorem ts_2297 : TS P 2297 = .inr (0, 1400, .inl 0) := rfl
set_option maxRecDepth 100000 in
theorem ts_2298 : TS P 2298 = .inr (0, 1400, .inl 0) := rfl
set_option maxRecDepth 100000 in
theorem ts_2299 : TS P 2299 = .inr (0, 28000, .inl 0) := rfl
set_option maxRecDepth 100000 in
theorem ts_2300 : TS P 2300 = .inr (0, 28000, .inl 0) := rfl
set_option maxRecDepth 100000 in
theorem ts_2301 : TS P 2301 = .inr (0, 28000, .inl 0) := rfl
set_option maxRecDepth 100000 in
theorem ts_2302 : TS P 2302 = .inr (0, 4100, .inl 0) := rfl
set_option maxRecDepth 100000 in
theorem ts_2303 : TS P 2303 = .inr (0, 4100, .inl 0) := rfl
set_option maxRecDepth 100000 in
theorem ts_2304 : TS P 2304 = .inr (0, 40, .inl 0) := rfl
set_option maxRecDepth 100000 in
theorem ts_2305 : TS P 2305 = .inr (0, 40, .inl 0) := rfl
set_option maxRecDepth 100000 in
theorem ts_2306 : TS P 2306 = .inr (0, 40, .inl 0) := rfl
set_option maxRecDepth 100000 in
theorem ts_2307 : TS P 2307 = .inr (0, 40, .inl 0) := rfl
set_option maxRecDepth 100000 in
theorem ts_2308 : TS P 2308 = .inr (0, 40, .inl 0) := rfl
set_option maxRecDepth 100000 in
theorem ts_2309 : TS P 2309 = .inr (0, 40, .inl 0) := rfl
set_option maxRecDepth 100000 in
theorem ts_2310 : TS P 2310 = .inr (0, 40, .inl 0) := rfl
set_option maxRecDepth 100000 in
theorem ts_2311 : TS P 2311 = .inr (0, 40, .inl 0) := rfl
set_option maxRecDepth 100000 in
theorem ts_2312 : TS P 2312 = .inr (0, 60, .inl 0) := rfl
set_option maxRecDepth 100000 in
theorem ts_2313 : TS P 2313 = .inr (0, 60, .inl 0) := rfl
set_option maxRecDepth 100000 in
theorem ts_2314 : TS P 2314 = .inr (0, 16, .inl 0) := rfl
set_option maxRecDepth 100000 in
theorem ts_2315 : TS P 2315 = .inr (0, 16, .inl 0) := rfl
set_option maxRecDepth 100000 in
theorem ts_2316 : TS P 2316 = .inr (0, 16, .inl 0) := rfl
set_option maxRecDepth 100000 in
theorem ts_2317 : TS P 2317 = .inr (0, 16, .inl 0) := rfl
set_option maxRecDepth 100000 in
theorem ts_2318 : TS P 2318 = .inr (0, 16, .inl 0) := rfl
set_option maxRecDepth 100000 in
theorem ts_2319 : TS P 2319 = .inr (0, 4100, .inl 0) := rfl
set_option maxRecDepth 100000 in
theorem ts_2320 : TS P 2320 = .inr (0, 4100, .inl 0) := rfl
set_option maxRecDepth 100000 in
theorem ts_2321 : TS P 2321 = .inr (0, 4100, .inl 0) := rfl
set_option maxRecDepth 100000 in
theorem ts_2322 : TS P 2322 = .inr (0, 100, .inl 0) := rfl
set_option maxRecDepth 100000 in
theorem ts_2323 : TS P 2323 = .inr (0, 100, .inl 0) := rfl
set_option maxRecDepth 100000 in
theorem ts_2324 : TS P 2324 = .inr (0, 100, .inl 0) := rfl
set_option maxRecDepth 100000 in
theorem ts_2325 : TS P 2325 = .inr (0, 100, .inl 0) := rfl
set_option maxRecDepth 100000 in
theorem ts_2326 : TS P 2326 = .inr (2, 576, .inl 0) := rfl
set_option maxRecDepth 100000 in
theorem ts_2327 : TS P 2327 = .inr (2, 576, .inl 0) := rfl
set_option maxRecDepth 100000 in
theorem ts_2328 : TS P 2328 = .inr (0, 576, .inl 0) := rfl
set_option maxRecDepth 100000 in
theorem ts_2329 : TS P 2329 = .inr (0, 576, .inl 0) := rfl
set_option maxRecDepth 100000 in
theorem ts_2330 : TS P 2330 = .inr (0, 120, .inl 0) := rfl
set_option maxRecDepth 100000 in
theorem ts_2331 : TS P 2331 = .inr (2, 40, .inl 0) := rfl
set_option maxRecDepth 100000 in
theorem ts_2332 : TS P 2332 = .inr (1, 1, .inl 1) := rfl
theorem tr_8 : ∀ i, i < 20 → rowB 4 (QF0 (9 + i)) = true := by decide +kernel
theorem tq_8 : ∀ i, i < 20 → TS P (9 + i) = .inr (0, 4, .inl 0) := by
  intro i hi
  unfold TS
  rw [if_neg (by omega), if_neg (by omega), if_neg (by omega)]
  exact row_i (tr_8 i hi)
theorem qt_8 : qt 8 = some (9, 20, 4) := rfl
theorem tr_30 : ∀ i, i < 20 → rowB 18 (QF0 (31 + i)) = true := by decide +kernel
theorem tq_30 : ∀ i, i < 20 → TS P (31 + i) = .inr (0, 18, .inl 0) := by
  intro i hi
  unfold TS
  rw [if_neg (by omega), if_neg (by omega), if_neg (by omega)]
  exact row_i (tr_30 i hi)
theorem qt_30 : qt 30 = some (31, 20, 18) := rfl
theorem tr_52 : ∀ i, i < 2 → rowB 625 (QF0 (53 + i)) = true := by decide +kernel
theorem tq_52 : ∀ i, i < 2 → TS P (53 + i) = .inr (0, 625, .inl 0) := by
  intro i hi
  unfold TS
  rw [if_neg (by omega), if_neg (by omega), if_neg (by omega)]
  exact row_i (tr_52 i hi)
theorem qt_52 : qt 52 = some (53, 2, 625) := rfl
theorem tr_62 : ∀ i, i < 220 → rowB 3 (QF0 (63 + i)) = true := by decide +kernel
theorem tq_62 : ∀ i, i < 220 → TS P (63 + i) = .inr (0, 3, .inl 0) := by
  intro i hi
  unfold TS
  rw [if_neg (by omega), if_neg (by omega), if_neg (by omega)]
  exact row_i (tr_62 i hi)
theorem qt_62 : qt 62 = some (63, 220, 3) := rfl
theorem tr_283 : ∀ i, i < 440 → rowB 6 (QF0 (284 + i)) = true := by decide +kernel
theorem tq_283 : ∀ i, i < 440 → TS P (284 + i) = .inr (0, 6, .inl 0) := by
  intro i hi
  unfold TS
  rw [if_neg (by omega), if_neg (by omega), if_neg (by omega)]
  exact row_i (tr_283 i hi)
theorem qt_283 : qt 283 = some (284, 440, 6) := rfl
theorem tr_740 : ∀ i, i < 12 → rowL 7 (QF0 (741 + i)) = true := by decide +kernel
theorem tq_740 : ∀ i, i < 12 → TS P (741 + i) = .inr (1, 7, .inl 1) := by
  intro i hi
  unfold TS
  rw [if_neg (by omega), if_neg (by omega), if_neg (by omega)]
  exact row_l (tr_740 i hi)
theorem qt_740 : qt 740 = some (741, 12, 7) := rfl
theorem tr_761 : ∀ i, i < 40 → rowB 8 (QF0 (762 + i)) = true := by decide +kernel
theorem tq_761 : ∀ i, i < 40 → TS P (762 + i) = .inr (0, 8, .inl 0) := by
  intro i hi
  unfold TS
  rw [if_neg (by omega), if_neg (by omega), if_neg (by omega)]
  exact row_i (tr_761 i hi)
theorem qt_761 : qt 761 = some (762, 40, 8) := rfl
theorem tr_803 : ∀ i, i < 20 → rowB 6 (QF0 (804 + i)) = true := by decide +kernel
theorem tq_803 : ∀ i, i < 20 → TS P (804 + i) = .inr (0, 6, .inl 0) := by
  intro i hi
  unfold TS
  rw [if_neg (by omega), if_neg (by omega), if_neg (by omega)]
  exact row_i (tr_803 i hi)
theorem qt_803 : qt 803 = some (804, 20, 6) := rfl
theorem tr_828 : ∀ i, i < 60 → rowB 3 (QF0 (829 + i)) = true := by decide +kernel
theorem tq_828 : ∀ i, i < 60 → TS P (829 + i) = .inr (0, 3, .inl 0) := by
  intro i hi
  unfold TS
  rw [if_neg (by omega), if_neg (by omega), if_neg (by omega)]
  exact row_i (tr_828 i hi)
theorem qt_828 : qt 828 = some (829, 60, 3) := rfl
theorem tr_889 : ∀ i, i < 16 → rowB 6 (QF0 (890 + i)) = true := by decide +kernel
theorem tq_889 : ∀ i, i < 16 → TS P (890 + i) = .inr (0, 6, .inl 0) := by
  intro i hi
  unfold TS
  rw [if_neg (by omega), if_neg (by omega), if_neg (by omega)]
  exact row_i (tr_889 i hi)
theorem qt_889 : qt 889 = some (890, 16, 6) := rfl
theorem tr_910 : ∀ i, i < 20 → rowB 14 (QF0 (911 + i)) = true := by decide +kernel
theorem tq_910 : ∀ i, i < 20 → TS P (911 + i) = .inr (0, 14, .inl 0) := by
  intro i hi
  unfold TS
  rw [if_neg (by omega), if_neg (by omega), if_neg (by omega)]
  exact row_i (tr_910 i hi)
theorem qt_910 : qt 910 = some (911, 20, 14) := rfl
theorem tr_931 : ∀ i, i < 20 → rowB 5 (QF0 (932 + i)) = true := by decide +kernel
theorem tq_931 : ∀ i, i < 20 → TS P (932 + i) = .inr (0, 5, .inl 0) := by
  intro i hi
  unfold TS
  rw [if_neg (by omega), if_neg (by omega), if_neg (by omega)]
  exact row_i (tr_931 i hi)
theorem qt_931 : qt 931 = some (932, 20, 5) := rfl
theorem tr_952 : ∀ i, i < 50 → rowB 3 (QF0 (953 + i)) = true := by decide +kernel
theorem tq_952 : ∀ i, i < 50 → TS P (953 + i) = .inr (0, 3, .inl 0) := by
  intro i hi
  unfold TS
  rw [if_neg (by omega), if_neg (by omega), if_neg (by omega)]
  exact row_i (tr_952 i hi)
theorem qt_952 : qt 952 = some (953, 50, 3) := rfl
theorem tr_1008 : ∀ i, i < 40 → rowB 3 (QF0 (1009 + i)) = true := by decide +kernel
theorem tq_1008 : ∀ i, i < 40 → TS P (1009 + i) = .inr (0, 3, .inl 0) := by
  intro i hi
  unfold TS
  rw [if_neg (by omega), if_neg (by omega), if_neg (by omega)]
  exact row_i (tr_1008 i hi)
theorem qt_1008 : qt 1008 = some (1009, 40, 3) := rfl
theorem tr_1050 : ∀ i, i < 40 → rowB 2 (QF0 (1051 + i)) = true := by decide +kernel
theorem tq_1050 : ∀ i, i < 40 → TS P (1051 + i) = .inr (0, 2, .inl 0) := by
  intro i hi
  unfold TS
  rw [if_neg (by omega), if_neg (by omega), if_neg (by omega)]
  exact row_i (tr_1050 i hi)
theorem qt_1050 : qt 1050 = some (1051, 40, 2) := rfl
theorem tr_1091 : ∀ i, i < 40 → rowB 8 (QF0 (1092 + i)) = true := by decide +kernel
theorem tq_1091 : ∀ i, i < 40 → TS P (1092 + i) = .inr (0, 8, .inl 0) := by
  intro i hi
  unfold TS
  rw [if_neg (by omega), if_neg (by omega), if_neg (by omega)]
  exact row_i (tr_1091 i hi)
theorem qt_1091 : qt 1091 = some (1092, 40, 8) := rfl
theorem tr_1140 : ∀ i, i < 8 → rowB 10 (QF0 (1141 + i)) = true := by decide +kernel
theorem tq_1140 : ∀ i, i < 8 → TS P (1141 + i) = .inr (0, 10, .inl 0) := by
  intro i hi
  unfold TS
  rw [if_neg (by omega), if_neg (by omega), if_neg (by omega)]
  exact row_i (tr_1140 i hi)
theorem qt_1140 : qt 1140 = some (1141, 8, 10) := rfl
theorem tr_1149 : ∀ i, i < 8 → rowB 42 (QF0 (1150 + i)) = true := by decide +kernel
theorem tq_1149 : ∀ i, i < 8 → TS P (1150 + i) = .inr (0, 42, .inl 0) := by
  intro i hi
  unfold TS
  rw [if_neg (by omega), if_neg (by omega), if_neg (by omega)]
  exact row_i (tr_1149 i hi)
theorem qt_1149 : qt 1149 = some (1150, 8, 42) := rfl
theorem tr_1158 : ∀ i, i < 8 → rowB 22 (QF0 (1159 + i)) = true := by decide +kernel
theorem tq_1158 : ∀ i, i < 8 → TS P (1159 + i) = .inr (0, 22, .inl 0) := by
  intro i hi
  unfold TS
  rw [if_neg (by omega), if_neg (by omega), if_neg (by omega)]
  exact row_i (tr_1158 i hi)
theorem qt_1158 : qt 1158 = some (1159, 8, 22) := rfl
theorem tr_1176 : ∀ i, i < 20 → rowB 14 (QF0 (1177 + i)) = true := by decide +kernel
theorem tq_1176 : ∀ i, i < 20 → TS P (1177 + i) = .inr (0, 14, .inl 0) := by
  intro i hi
  unfold TS
  rw [if_neg (by omega), if_neg (by omega), if_neg (by omega)]
  exact row_i (tr_1176 i hi)
theorem qt_1176 : qt 1176 = some (1177, 20, 14) := rfl
theorem tr_1197 : ∀ i, i < 20 → rowB 5 (QF0 (1198 + i)) = true := by decide +kernel
theorem tq_1197 : ∀ i, i < 20 → TS P (1198 + i) = .inr (0, 5, .inl 0) := by
  intro i hi
  unfold TS
  rw [if_neg (by omega), if_neg (by omega), if_neg (by omega)]
  exact row_i (tr_1197 i hi)
theorem qt_1197 : qt 1197 = some (1198, 20, 5) := rfl
theorem tr_1218 : ∀ i, i < 50 → rowB 3 (QF0 (1219 + i)) = true := by decide +kernel
theorem tq_1218 : ∀ i, i < 50 → TS P (1219 + i) = .inr (0, 3, .inl 0) := by
  intro i hi
  unfold TS
  rw [if_neg (by omega), if_neg (by omega), if_neg (by omega)]
  exact row_i (tr_1218 i hi)
theorem qt_1218 : qt 1218 = some (1219, 50, 3) := rfl
theorem tr_1276 : ∀ i, i < 60 → rowB 3 (QF0 (1277 + i)) = true := by decide +kernel
theorem tq_1276 : ∀ i, i < 60 → TS P (1277 + i) = .inr (0, 3, .inl 0) := by
  intro i hi
  unfold TS
  rw [if_neg (by omega), if_neg (by omega), if_neg (by omega)]
  exact row_i (tr_1276 i hi)
theorem qt_1276 : qt 1276 = some (1277, 60, 3) := rfl
theorem tr_1338 : ∀ i, i < 4 → rowB 6 (QF0 (1339 + i)) = true := by decide +kernel
theorem tq_1338 : ∀ i, i < 4 → TS P (1339 + i) = .inr (0, 6, .inl 0) := by
  intro i hi
  unfold TS
  rw [if_neg (by omega), if_neg (by omega), if_neg (by omega)]
  exact row_i (tr_1338 i hi)
theorem qt_1338 : qt 1338 = some (1339, 4, 6) := rfl
theorem tr_1343 : ∀ i, i < 400 → rowB 3 (QF0 (1344 + i)) = true := by decide +kernel
theorem tq_1343 : ∀ i, i < 400 → TS P (1344 + i) = .inr (0, 3, .inl 0) := by
  intro i hi
  unfold TS
  rw [if_neg (by omega), if_neg (by omega), if_neg (by omega)]
  exact row_i (tr_1343 i hi)
theorem qt_1343 : qt 1343 = some (1344, 400, 3) := rfl
theorem tr_1745 : ∀ i, i < 400 → rowB 4 (QF0 (1746 + i)) = true := by decide +kernel
theorem tq_1745 : ∀ i, i < 400 → TS P (1746 + i) = .inr (0, 4, .inl 0) := by
  intro i hi
  unfold TS
  rw [if_neg (by omega), if_neg (by omega), if_neg (by omega)]
  exact row_i (tr_1745 i hi)
theorem qt_1745 : qt 1745 = some (1746, 400, 4) := rfl
theorem tr_2147 : ∀ i, i < 4 → rowL 64 (QF0 (2148 + i)) = true := by decide +kernel
theorem tq_2147 : ∀ i, i < 4 → TS P (2148 + i) = .inr (1, 64, .inl 1) := by
  intro i hi
  unfold TS
  rw [if_neg (by omega), if_neg (by omega), if_neg (by omega)]
  exact row_l (tr_2147 i hi)
theorem qt_2147 : qt 2147 = some (2148, 4, 64) := rfl
end TSF
