/-! ===== the values behind the constructors (wip/tools/q/genm0.py) ===== -/
section M0V
variable {L : Nat} {xs w : Nat → Int32} {a b n wd t ci : Nat} {i j : Int} {S : zm_S}
theorem qM_id (h : qt a = none) : qM id S a i j = if qown a = 0 ∧ a < 2333 ∧ j = 0 then rdv (S.1 a) i else 0 := by
  unfold qM
  rw [h]
  rfl
theorem m0_o {fs : List Value} (h : qt a = none) (hc : S.1 a = .inl (ci, fs)) (hz : (fs.all (fun v => vv v == 0)) = true) : qM id S a i j = 0 := by
  rw [qM_id h, hc, rdv_o]
  by_cases h1 : qown a = 0 ∧ a < 2333 ∧ j = 0
  · rw [if_pos h1]
    by_cases h2 : 0 ≤ i
    · rw [if_pos h2]
      cases e : fs[i.toNat]? with
      | none => rfl
      | some v =>
        have q := List.all_eq_true.mp hz v (List.mem_of_getElem? e)
        exact of_decide_eq_true q
    · rw [if_neg h2]
  · rw [if_neg h1]
theorem m0_a (h : qt a = none) (hc : S.1 a = .inr (t, n, .inl (fun _ => 0))) (hi : i ≠ -1) : qM id S a i j = 0 := by
  rw [qM_id h, hc]
  have e : rdv (.inr (t, n, .inl (fun _ => 0))) i = 0 := by
    show (if 0 ≤ i ∧ i < (n : Int) then (0 : Int32).toInt else if i = -1 then (n : Int) else 0) = 0
    rw [if_neg hi]
    split <;> rfl
  rw [e]
  split <;> rfl
theorem m0_l (h : qt a = none) (hc : S.1 a = .inr (t, n, .inr (.inl (fun _ => 0)))) (hi : i ≠ -1) : qM id S a i j = 0 := by
  rw [qM_id h, hc]
  have e : rdv (.inr (t, n, .inr (.inl (fun _ => 0)))) i = 0 := by
    show (if 0 ≤ i ∧ i < (n : Int) then (0 : Int64).toInt else if i = -1 then (n : Int) else 0) = 0
    rw [if_neg hi]
    split <;> rfl
  rw [e]
  split <;> rfl
def rowZ (w : Nat) (c : zm_C) : Bool := match c with
  | .inr (_, n, .inl f) => Nat.beq n w && (List.range w).all (fun j => f j == 0)
  | .inr (_, n, .inr (.inl f)) => Nat.beq n w && (List.range w).all (fun j => f j == 0)
  | _ => false
theorem rowZ_v {c : zm_C} (h : rowZ wd c = true) (hj : j ≠ -1) : rdv c j = 0 := by
  rcases c with p | ⟨t, n, f | f | f⟩
  · cases h
  · have h2 : (Nat.beq n wd && (List.range wd).all (fun j => f j == 0)) = true := h
    rw [Bool.and_eq_true] at h2
    have e := Nat.eq_of_beq_eq_true h2.1
    show (if 0 ≤ j ∧ j < (n : Int) then (f j.toNat).toInt else if j = -1 then (n : Int) else 0) = 0
    rw [if_neg hj]
    by_cases g : 0 ≤ j ∧ j < (n : Int)
    · rw [if_pos g]
      have q := List.all_eq_true.mp h2.2 j.toNat (List.mem_range.mpr (by omega))
      rw [show f j.toNat = 0 from of_decide_eq_true q]
      rfl
    · rw [if_neg g]
  · have h2 : (Nat.beq n wd && (List.range wd).all (fun j => f j == 0)) = true := h
    rw [Bool.and_eq_true] at h2
    have e := Nat.eq_of_beq_eq_true h2.1
    show (if 0 ≤ j ∧ j < (n : Int) then (f j.toNat).toInt else if j = -1 then (n : Int) else 0) = 0
    rw [if_neg hj]
    by_cases g : 0 ≤ j ∧ j < (n : Int)
    · rw [if_pos g]
      have q := List.all_eq_true.mp h2.2 j.toNat (List.mem_range.mpr (by omega))
      rw [show f j.toNat = 0 from of_decide_eq_true q]
      rfl
    · rw [if_neg g]
  · cases h
theorem m0_t (h : qt a = some (b, n, wd)) (h1 : 1 ≤ b) (h2 : ¬ (b ≤ 2285 ∧ 2285 < b + n)) (hz : ∀ k, k < n → rowZ wd (QF0 (b + k)) = true) (hj : j ≠ -1) : qM id (fS L xs w) a i j = 0 := by
  unfold qM
  rw [h]
  show (if 0 ≤ i ∧ i < (n : Int) then rdv ((fS L xs w).1 (b + i.toNat)) j else 0) = 0
  by_cases g : 0 ≤ i ∧ i < (n : Int)
  · rw [if_pos g, fe_S (b + i.toNat) (by omega) (by omega)]
    exact rowZ_v (hz _ (by omega)) hj
  · rw [if_neg g]
theorem m0_6 : qM id (fS L xs w) 6 i j = 0 := m0_o rfl fc_6 (by decide +kernel)
theorem m0_7 : qM id (fS L xs w) 7 i j = 0 := m0_o rfl fc_7 (by decide +kernel)
theorem m0_8 (hj : j ≠ -1) : qM id (fS L xs w) 8 i j = 0 := m0_t rfl (by decide) (by decide) (by decide +kernel) hj
theorem m0_29 (hi : i ≠ -1) : qM id (fS L xs w) 29 i j = 0 := m0_a rfl fc_29 hi
theorem m0_30 (hj : j ≠ -1) : qM id (fS L xs w) 30 i j = 0 := m0_t rfl (by decide) (by decide) (by decide +kernel) hj
theorem m0_51 : qM id (fS L xs w) 51 i j = 0 := m0_o rfl fc_51 (by decide +kernel)
theorem m0_52 (hj : j ≠ -1) : qM id (fS L xs w) 52 i j = 0 := m0_t rfl (by decide) (by decide) (by decide +kernel) hj
theorem m0_55 (hi : i ≠ -1) : qM id (fS L xs w) 55 i j = 0 := m0_a rfl fc_55 hi
theorem m0_56 (hi : i ≠ -1) : qM id (fS L xs w) 56 i j = 0 := m0_a rfl fc_56 hi
theorem m0_57 (hi : i ≠ -1) : qM id (fS L xs w) 57 i j = 0 := m0_a rfl fc_57 hi
theorem m0_58 (hi : i ≠ -1) : qM id (fS L xs w) 58 i j = 0 := m0_a rfl fc_58 hi
theorem m0_59 (hi : i ≠ -1) : qM id (fS L xs w) 59 i j = 0 := m0_a rfl fc_59 hi
theorem m0_60 (hi : i ≠ -1) : qM id (fS L xs w) 60 i j = 0 := m0_a rfl fc_60 hi
theorem m0_61 (hi : i ≠ -1) : qM id (fS L xs w) 61 i j = 0 := m0_a rfl fc_61 hi
theorem m0_62 (hj : j ≠ -1) : qM id (fS L xs w) 62 i j = 0 := m0_t rfl (by decide) (by decide) (by decide +kernel) hj
theorem m0_283 (hj : j ≠ -1) : qM id (fS L xs w) 283 i j = 0 := m0_t rfl (by decide) (by decide) (by decide +kernel) hj
theorem m0_724 (hi : i ≠ -1) : qM id (fS L xs w) 724 i j = 0 := m0_a rfl fc_724 hi
theorem m0_725 (hi : i ≠ -1) : qM id (fS L xs w) 725 i j = 0 := m0_a rfl fc_725 hi
theorem m0_726 (hi : i ≠ -1) : qM id (fS L xs w) 726 i j = 0 := m0_a rfl fc_726 hi
theorem m0_727 : qM id (fS L xs w) 727 i j = 0 := m0_o rfl fc_727 (by decide +kernel)
theorem m0_728 (hi : i ≠ -1) : qM id (fS L xs w) 728 i j = 0 := m0_a rfl fc_728 hi
theorem m0_729 (hi : i ≠ -1) : qM id (fS L xs w) 729 i j = 0 := m0_a rfl fc_729 hi
theorem m0_730 (hi : i ≠ -1) : qM id (fS L xs w) 730 i j = 0 := m0_l rfl fc_730 hi
theorem m0_731 (hi : i ≠ -1) : qM id (fS L xs w) 731 i j = 0 := m0_a rfl fc_731 hi
theorem m0_732 (hi : i ≠ -1) : qM id (fS L xs w) 732 i j = 0 := m0_l rfl fc_732 hi
theorem m0_733 (hi : i ≠ -1) : qM id (fS L xs w) 733 i j = 0 := m0_a rfl fc_733 hi
theorem m0_734 (hi : i ≠ -1) : qM id (fS L xs w) 734 i j = 0 := m0_a rfl fc_734 hi
theorem m0_735 : qM id (fS L xs w) 735 i j = 0 := m0_o rfl fc_735 (by decide +kernel)
theorem m0_736 (hi : i ≠ -1) : qM id (fS L xs w) 736 i j = 0 := m0_a rfl fc_736 hi
theorem m0_737 (hi : i ≠ -1) : qM id (fS L xs w) 737 i j = 0 := m0_l rfl fc_737 hi
theorem m0_738 (hi : i ≠ -1) : qM id (fS L xs w) 738 i j = 0 := m0_a rfl fc_738 hi
theorem m0_739 (hi : i ≠ -1) : qM id (fS L xs w) 739 i j = 0 := m0_a rfl fc_739 hi
theorem m0_740 (hj : j ≠ -1) : qM id (fS L xs w) 740 i j = 0 := m0_t rfl (by decide) (by decide) (by decide +kernel) hj
theorem m0_753 (hi : i ≠ -1) : qM id (fS L xs w) 753 i j = 0 := m0_l rfl fc_753 hi
theorem m0_754 (hi : i ≠ -1) : qM id (fS L xs w) 754 i j = 0 := m0_l rfl fc_754 hi
theorem m0_755 (hi : i ≠ -1) : qM id (fS L xs w) 755 i j = 0 := m0_a rfl fc_755 hi
theorem m0_756 : qM id (fS L xs w) 756 i j = 0 := m0_o rfl fc_756 (by decide +kernel)
theorem m0_757 (hi : i ≠ -1) : qM id (fS L xs w) 757 i j = 0 := m0_a rfl fc_757 hi
theorem m0_758 (hi : i ≠ -1) : qM id (fS L xs w) 758 i j = 0 := m0_a rfl fc_758 hi
theorem m0_759 (hi : i ≠ -1) : qM id (fS L xs w) 759 i j = 0 := m0_a rfl fc_759 hi
theorem m0_760 (hi : i ≠ -1) : qM id (fS L xs w) 760 i j = 0 := m0_a rfl fc_760 hi
theorem m0_761 (hj : j ≠ -1) : qM id (fS L xs w) 761 i j = 0 := m0_t rfl (by decide) (by decide) (by decide +kernel) hj
theorem m0_802 (hi : i ≠ -1) : qM id (fS L xs w) 802 i j = 0 := m0_a rfl fc_802 hi
theorem m0_803 (hj : j ≠ -1) : qM id (fS L xs w) 803 i j = 0 := m0_t rfl (by decide) (by decide) (by decide +kernel) hj
theorem m0_824 : qM id (fS L xs w) 824 i j = 0 := m0_o rfl fc_824 (by decide +kernel)
theorem m0_825 (hi : i ≠ -1) : qM id (fS L xs w) 825 i j = 0 := m0_a rfl fc_825 hi
theorem m0_826 (hi : i ≠ -1) : qM id (fS L xs w) 826 i j = 0 := m0_a rfl fc_826 hi
theorem m0_827 (hi : i ≠ -1) : qM id (fS L xs w) 827 i j = 0 := m0_l rfl fc_827 hi
theorem m0_828 (hj : j ≠ -1) : qM id (fS L xs w) 828 i j = 0 := m0_t rfl (by decide) (by decide) (by decide +kernel) hj
theorem m0_889 (hj : j ≠ -1) : qM id (fS L xs w) 889 i j = 0 := m0_t rfl (by decide) (by decide) (by decide +kernel) hj
theorem m0_906 (hi : i ≠ -1) : qM id (fS L xs w) 906 i j = 0 := m0_a rfl fc_906 hi
theorem m0_907 (hi : i ≠ -1) : qM id (fS L xs w) 907 i j = 0 := m0_a rfl fc_907 hi
theorem m0_908 : qM id (fS L xs w) 908 i j = 0 := m0_o rfl fc_908 (by decide +kernel)
theorem m0_909 (hi : i ≠ -1) : qM id (fS L xs w) 909 i j = 0 := m0_a rfl fc_909 hi
theorem m0_910 (hj : j ≠ -1) : qM id (fS L xs w) 910 i j = 0 := m0_t rfl (by decide) (by decide) (by decide +kernel) hj
theorem m0_931 (hj : j ≠ -1) : qM id (fS L xs w) 931 i j = 0 := m0_t rfl (by decide) (by decide) (by decide +kernel) hj
theorem m0_952 (hj : j ≠ -1) : qM id (fS L xs w) 952 i j = 0 := m0_t rfl (by decide) (by decide) (by decide +kernel) hj
theorem m0_1003 : qM id (fS L xs w) 1003 i j = 0 := m0_o rfl fc_1003 (by decide +kernel)
theorem m0_1004 (hi : i ≠ -1) : qM id (fS L xs w) 1004 i j = 0 := m0_a rfl fc_1004 hi
theorem m0_1005 (hi : i ≠ -1) : qM id (fS L xs w) 1005 i j = 0 := m0_a rfl fc_1005 hi
theorem m0_1006 (hi : i ≠ -1) : qM id (fS L xs w) 1006 i j = 0 := m0_a rfl fc_1006 hi
theorem m0_1007 (hi : i ≠ -1) : qM id (fS L xs w) 1007 i j = 0 := m0_a rfl fc_1007 hi
theorem m0_1008 (hj : j ≠ -1) : qM id (fS L xs w) 1008 i j = 0 := m0_t rfl (by decide) (by decide) (by decide +kernel) hj
theorem m0_1049 (hi : i ≠ -1) : qM id (fS L xs w) 1049 i j = 0 := m0_a rfl fc_1049 hi
theorem m0_1050 (hj : j ≠ -1) : qM id (fS L xs w) 1050 i j = 0 := m0_t rfl (by decide) (by decide) (by decide +kernel) hj
theorem m0_1091 (hj : j ≠ -1) : qM id (fS L xs w) 1091 i j = 0 := m0_t rfl (by decide) (by decide) (by decide +kernel) hj
theorem m0_1132 (hi : i ≠ -1) : qM id (fS L xs w) 1132 i j = 0 := m0_a rfl fc_1132 hi
theorem m0_1133 (hi : i ≠ -1) : qM id (fS L xs w) 1133 i j = 0 := m0_a rfl fc_1133 hi
theorem m0_1134 (hi : i ≠ -1) : qM id (fS L xs w) 1134 i j = 0 := m0_a rfl fc_1134 hi
theorem m0_1135 (hi : i ≠ -1) : qM id (fS L xs w) 1135 i j = 0 := m0_a rfl fc_1135 hi
theorem m0_1136 (hi : i ≠ -1) : qM id (fS L xs w) 1136 i j = 0 := m0_a rfl fc_1136 hi
theorem m0_1137 (hi : i ≠ -1) : qM id (fS L xs w) 1137 i j = 0 := m0_a rfl fc_1137 hi
theorem m0_1138 (hi : i ≠ -1) : qM id (fS L xs w) 1138 i j = 0 := m0_a rfl fc_1138 hi
theorem m0_1149 (hj : j ≠ -1) : qM id (fS L xs w) 1149 i j = 0 := m0_t rfl (by decide) (by decide) (by decide +kernel) hj
theorem m0_1158 (hj : j ≠ -1) : qM id (fS L xs w) 1158 i j = 0 := m0_t rfl (by decide) (by decide) (by decide +kernel) hj
theorem m0_1167 (hi : i ≠ -1) : qM id (fS L xs w) 1167 i j = 0 := m0_a rfl fc_1167 hi
theorem m0_1168 (hi : i ≠ -1) : qM id (fS L xs w) 1168 i j = 0 := m0_a rfl fc_1168 hi
theorem m0_1169 (hi : i ≠ -1) : qM id (fS L xs w) 1169 i j = 0 := m0_a rfl fc_1169 hi
theorem m0_1170 (hi : i ≠ -1) : qM id (fS L xs w) 1170 i j = 0 := m0_a rfl fc_1170 hi
theorem m0_1171 (hi : i ≠ -1) : qM id (fS L xs w) 1171 i j = 0 := m0_a rfl fc_1171 hi
theorem m0_1172 : qM id (fS L xs w) 1172 i j = 0 := m0_o rfl fc_1172 (by decide +kernel)
theorem m0_1173 (hi : i ≠ -1) : qM id (fS L xs w) 1173 i j = 0 := m0_a rfl fc_1173 hi
theorem m0_1174 (hi : i ≠ -1) : qM id (fS L xs w) 1174 i j = 0 := m0_a rfl fc_1174 hi
theorem m0_1175 (hi : i ≠ -1) : qM id (fS L xs w) 1175 i j = 0 := m0_a rfl fc_1175 hi
theorem m0_1176 (hj : j ≠ -1) : qM id (fS L xs w) 1176 i j = 0 := m0_t rfl (by decide) (by decide) (by decide +kernel) hj
theorem m0_1197 (hj : j ≠ -1) : qM id (fS L xs w) 1197 i j = 0 := m0_t rfl (by decide) (by decide) (by decide +kernel) hj
theorem m0_1218 (hj : j ≠ -1) : qM id (fS L xs w) 1218 i j = 0 := m0_t rfl (by decide) (by decide) (by decide +kernel) hj
theorem m0_1269 (hi : i ≠ -1) : qM id (fS L xs w) 1269 i j = 0 := m0_a rfl fc_1269 hi
theorem m0_1270 (hi : i ≠ -1) : qM id (fS L xs w) 1270 i j = 0 := m0_a rfl fc_1270 hi
theorem m0_1271 (hi : i ≠ -1) : qM id (fS L xs w) 1271 i j = 0 := m0_a rfl fc_1271 hi
theorem m0_1272 (hi : i ≠ -1) : qM id (fS L xs w) 1272 i j = 0 := m0_a rfl fc_1272 hi
theorem m0_1273 (hi : i ≠ -1) : qM id (fS L xs w) 1273 i j = 0 := m0_a rfl fc_1273 hi
theorem m0_1274 (hi : i ≠ -1) : qM id (fS L xs w) 1274 i j = 0 := m0_a rfl fc_1274 hi
theorem m0_1275 (hi : i ≠ -1) : qM id (fS L xs w) 1275 i j = 0 := m0_a rfl fc_1275 hi
theorem m0_1276 (hj : j ≠ -1) : qM id (fS L xs w) 1276 i j = 0 := m0_t rfl (by decide) (by decide) (by decide +kernel) hj
theorem m0_1337 : qM id (fS L xs w) 1337 i j = 0 := m0_o rfl fc_1337 (by decide +kernel)
theorem m0_1338 (hj : j ≠ -1) : qM id (fS L xs w) 1338 i j = 0 := m0_t rfl (by decide) (by decide) (by decide +kernel) hj
theorem m0_1343 (hj : j ≠ -1) : qM id (fS L xs w) 1343 i j = 0 := m0_t rfl (by decide) (by decide) (by decide +kernel) hj
theorem m0_1744 (hi : i ≠ -1) : qM id (fS L xs w) 1744 i j = 0 := m0_a rfl fc_1744 hi
theorem m0_1745 (hj : j ≠ -1) : qM id (fS L xs w) 1745 i j = 0 := m0_t rfl (by decide) (by decide) (by decide +kernel) hj
theorem m0_2146 (hi : i ≠ -1) : qM id (fS L xs w) 2146 i j = 0 := m0_a rfl fc_2146 hi
theorem m0_2147 (hj : j ≠ -1) : qM id (fS L xs w) 2147 i j = 0 := m0_t rfl (by decide) (by decide) (by decide +kernel) hj
theorem m0_2152 (hi : i ≠ -1) : qM id (fS L xs w) 2152 i j = 0 := m0_a rfl fc_2152 hi
theorem m0_2153 (hi : i ≠ -1) : qM id (fS L xs w) 2153 i j = 0 := m0_a rfl fc_2153 hi
theorem m0_2154 (hi : i ≠ -1) : qM id (fS L xs w) 2154 i j = 0 := m0_a rfl fc_2154 hi
theorem m0_2155 (hi : i ≠ -1) : qM id (fS L xs w) 2155 i j = 0 := m0_a rfl fc_2155 hi
theorem m0_2156 : qM id (fS L xs w) 2156 i j = 0 := m0_o rfl fc_2156 (by decide +kernel)
theorem m0_2157 : qM id (fS L xs w) 2157 i j = 0 := m0_o rfl fc_2157 (by decide +kernel)
theorem m0_2158 (hi : i ≠ -1) : qM id (fS L xs w) 2158 i j = 0 := m0_a rfl fc_2158 hi
theorem m0_2159 (hi : i ≠ -1) : qM id (fS L xs w) 2159 i j = 0 := m0_a rfl fc_2159 hi
theorem m0_2160 (hi : i ≠ -1) : qM id (fS L xs w) 2160 i j = 0 := m0_a rfl fc_2160 hi
theorem m0_2161 (hi : i ≠ -1) : qM id (fS L xs w) 2161 i j = 0 := m0_a rfl fc_2161 hi
theorem m0_2162 (hi : i ≠ -1) : qM id (fS L xs w) 2162 i j = 0 := m0_a rfl fc_2162 hi
theorem m0_2163 (hi : i ≠ -1) : qM id (fS L xs w) 2163 i j = 0 := m0_a rfl fc_2163 hi
theorem m0_2164 (hi : i ≠ -1) : qM id (fS L xs w) 2164 i j = 0 := m0_a rfl fc_2164 hi
theorem m0_2165 (hi : i ≠ -1) : qM id (fS L xs w) 2165 i j = 0 := m0_a rfl fc_2165 hi
theorem m0_2166 (hi : i ≠ -1) : qM id (fS L xs w) 2166 i j = 0 := m0_a rfl fc_2166 hi
theorem m0_2167 (hi : i ≠ -1) : qM id (fS L xs w) 2167 i j = 0 := m0_a rfl fc_2167 hi
theorem m0_2168 (hi : i ≠ -1) : qM id (fS L xs w) 2168 i j = 0 := m0_a rfl fc_2168 hi
theorem m0_2169 (hi : i ≠ -1) : qM id (fS L xs w) 2169 i j = 0 := m0_a rfl fc_2169 hi
theorem m0_2170 (hi : i ≠ -1) : qM id (fS L xs w) 2170 i j = 0 := m0_a rfl fc_2170 hi
theorem m0_2171 (hi : i ≠ -1) : qM id (fS L xs w) 2171 i j = 0 := m0_a rfl fc_2171 hi
theorem m0_2172 (hi : i ≠ -1) : qM id (fS L xs w) 2172 i j = 0 := m0_a rfl fc_2172 hi
theorem m0_2173 (hi : i ≠ -1) : qM id (fS L xs w) 2173 i j = 0 := m0_a rfl fc_2173 hi
theorem m0_2174 (hi : i ≠ -1) : qM id (fS L xs w) 2174 i j = 0 := m0_a rfl fc_2174 hi
theorem m0_2175 (hi : i ≠ -1) : qM id (fS L xs w) 2175 i j = 0 := m0_a rfl fc_2175 hi
theorem m0_2176 (hi : i ≠ -1) : qM id (fS L xs w) 2176 i j = 0 := m0_a rfl fc_2176 hi
theorem m0_2177 (hi : i ≠ -1) : qM id (fS L xs w) 2177 i j = 0 := m0_a rfl fc_2177 hi
theorem m0_2178 (hi : i ≠ -1) : qM id (fS L xs w) 2178 i j = 0 := m0_a rfl fc_2178 hi
theorem m0_2179 (hi : i ≠ -1) : qM id (fS L xs w) 2179 i j = 0 := m0_a rfl fc_2179 hi
theorem m0_2180 (hi : i ≠ -1) : qM id (fS L xs w) 2180 i j = 0 := m0_a rfl fc_2180 hi
theorem m0_2181 (hi : i ≠ -1) : qM id (fS L xs w) 2181 i j = 0 := m0_a rfl fc_2181 hi
theorem m0_2182 (hi : i ≠ -1) : qM id (fS L xs w) 2182 i j = 0 := m0_a rfl fc_2182 hi
theorem m0_2183 (hi : i ≠ -1) : qM id (fS L xs w) 2183 i j = 0 := m0_a rfl fc_2183 hi
theorem m0_2185 (hi : i ≠ -1) : qM id (fS L xs w) 2185 i j = 0 := m0_a rfl fc_2185 hi
theorem m0_2186 (hi : i ≠ -1) : qM id (fS L xs w) 2186 i j = 0 := m0_l rfl fc_2186 hi
theorem m0_2187 (hi : i ≠ -1) : qM id (fS L xs w) 2187 i j = 0 := m0_a rfl fc_2187 hi
theorem m0_2188 (hi : i ≠ -1) : qM id (fS L xs w) 2188 i j = 0 := m0_l rfl fc_2188 hi
theorem m0_2189 (hi : i ≠ -1) : qM id (fS L xs w) 2189 i j = 0 := m0_a rfl fc_2189 hi
theorem m0_2190 (hi : i ≠ -1) : qM id (fS L xs w) 2190 i j = 0 := m0_a rfl fc_2190 hi
theorem m0_2191 (hi : i ≠ -1) : qM id (fS L xs w) 2191 i j = 0 := m0_a rfl fc_2191 hi
theorem m0_2192 (hi : i ≠ -1) : qM id (fS L xs w) 2192 i j = 0 := m0_a rfl fc_2192 hi
theorem m0_2193 (hi : i ≠ -1) : qM id (fS L xs w) 2193 i j = 0 := m0_a rfl fc_2193 hi
theorem m0_2194 (hi : i ≠ -1) : qM id (fS L xs w) 2194 i j = 0 := m0_a rfl fc_2194 hi
theorem m0_2195 (hi : i ≠ -1) : qM id (fS L xs w) 2195 i j = 0 := m0_a rfl fc_2195 hi
theorem m0_2196 (hi : i ≠ -1) : qM id (fS L xs w) 2196 i j = 0 := m0_a rfl fc_2196 hi
theorem m0_2197 (hi : i ≠ -1) : qM id (fS L xs w) 2197 i j = 0 := m0_l rfl fc_2197 hi
theorem m0_2198 (hi : i ≠ -1) : qM id (fS L xs w) 2198 i j = 0 := m0_a rfl fc_2198 hi
theorem m0_2199 (hi : i ≠ -1) : qM id (fS L xs w) 2199 i j = 0 := m0_l rfl fc_2199 hi
theorem m0_2200 (hi : i ≠ -1) : qM id (fS L xs w) 2200 i j = 0 := m0_l rfl fc_2200 hi
theorem m0_2201 (hi : i ≠ -1) : qM id (fS L xs w) 2201 i j = 0 := m0_l rfl fc_2201 hi
theorem m0_2202 (hi : i ≠ -1) : qM id (fS L xs w) 2202 i j = 0 := m0_l rfl fc_2202 hi
theorem m0_2203 (hi : i ≠ -1) : qM id (fS L xs w) 2203 i j = 0 := m0_a rfl fc_2203 hi
theorem m0_2204 (hi : i ≠ -1) : qM id (fS L xs w) 2204 i j = 0 := m0_l rfl fc_2204 hi
theorem m0_2205 (hi : i ≠ -1) : qM id (fS L xs w) 2205 i j = 0 := m0_a rfl fc_2205 hi
theorem m0_2206 (hi : i ≠ -1) : qM id (fS L xs w) 2206 i j = 0 := m0_l rfl fc_2206 hi
theorem m0_2207 (hi : i ≠ -1) : qM id (fS L xs w) 2207 i j = 0 := m0_l rfl fc_2207 hi
theorem m0_2208 : qM id (fS L xs w) 2208 i j = 0 := m0_o rfl fc_2208 (by decide +kernel)
theorem m0_2209 (hi : i ≠ -1) : qM id (fS L xs w) 2209 i j = 0 := m0_a rfl fc_2209 hi
theorem m0_2210 (hi : i ≠ -1) : qM id (fS L xs w) 2210 i j = 0 := m0_a rfl fc_2210 hi
theorem m0_2211 (hi : i ≠ -1) : qM id (fS L xs w) 2211 i j = 0 := m0_a rfl fc_2211 hi
theorem m0_2212 (hi : i ≠ -1) : qM id (fS L xs w) 2212 i j = 0 := m0_a rfl fc_2212 hi
theorem m0_2213 (hi : i ≠ -1) : qM id (fS L xs w) 2213 i j = 0 := m0_a rfl fc_2213 hi
theorem m0_2214 (hi : i ≠ -1) : qM id (fS L xs w) 2214 i j = 0 := m0_a rfl fc_2214 hi
theorem m0_2215 (hi : i ≠ -1) : qM id (fS L xs w) 2215 i j = 0 := m0_a rfl fc_2215 hi
theorem m0_2216 (hi : i ≠ -1) : qM id (fS L xs w) 2216 i j = 0 := m0_a rfl fc_2216 hi
theorem m0_2217 (hi : i ≠ -1) : qM id (fS L xs w) 2217 i j = 0 := m0_a rfl fc_2217 hi
theorem m0_2218 (hi : i ≠ -1) : qM id (fS L xs w) 2218 i j = 0 := m0_a rfl fc_2218 hi
theorem m0_2219 (hi : i ≠ -1) : qM id (fS L xs w) 2219 i j = 0 := m0_a rfl fc_2219 hi
theorem m0_2220 (hi : i ≠ -1) : qM id (fS L xs w) 2220 i j = 0 := m0_a rfl fc_2220 hi
theorem m0_2221 (hi : i ≠ -1) : qM id (fS L xs w) 2221 i j = 0 := m0_a rfl fc_2221 hi
theorem m0_2222 (hi : i ≠ -1) : qM id (fS L xs w) 2222 i j = 0 := m0_a rfl fc_2222 hi
theorem m0_2223 (hi : i ≠ -1) : qM id (fS L xs w) 2223 i j = 0 := m0_a rfl fc_2223 hi
theorem m0_2224 (hi : i ≠ -1) : qM id (fS L xs w) 2224 i j = 0 := m0_a rfl fc_2224 hi
theorem m0_2225 (hi : i ≠ -1) : qM id (fS L xs w) 2225 i j = 0 := m0_a rfl fc_2225 hi
theorem m0_2226 (hi : i ≠ -1) : qM id (fS L xs w) 2226 i j = 0 := m0_a rfl fc_2226 hi
theorem m0_2227 (hi : i ≠ -1) : qM id (fS L xs w) 2227 i j = 0 := m0_a rfl fc_2227 hi
theorem m0_2228 (hi : i ≠ -1) : qM id (fS L xs w) 2228 i j = 0 := m0_a rfl fc_2228 hi
theorem m0_2229 (hi : i ≠ -1) : qM id (fS L xs w) 2229 i j = 0 := m0_a rfl fc_2229 hi
theorem m0_2230 (hi : i ≠ -1) : qM id (fS L xs w) 2230 i j = 0 := m0_a rfl fc_2230 hi
theorem m0_2231 (hi : i ≠ -1) : qM id (fS L xs w) 2231 i j = 0 := m0_a rfl fc_2231 hi
theorem m0_2232 (hi : i ≠ -1) : qM id (fS L xs w) 2232 i j = 0 := m0_a rfl fc_2232 hi
theorem m0_2233 (hi : i ≠ -1) : qM id (fS L xs w) 2233 i j = 0 := m0_a rfl fc_2233 hi
theorem m0_2234 (hi : i ≠ -1) : qM id (fS L xs w) 2234 i j = 0 := m0_a rfl fc_2234 hi
theorem m0_2235 : qM id (fS L xs w) 2235 i j = 0 := m0_o rfl fc_2235 (by decide +kernel)
theorem m0_2236 (hi : i ≠ -1) : qM id (fS L xs w) 2236 i j = 0 := m0_a rfl fc_2236 hi
theorem m0_2237 (hi : i ≠ -1) : qM id (fS L xs w) 2237 i j = 0 := m0_a rfl fc_2237 hi
theorem m0_2238 (hi : i ≠ -1) : qM id (fS L xs w) 2238 i j = 0 := m0_a rfl fc_2238 hi
theorem m0_2239 (hi : i ≠ -1) : qM id (fS L xs w) 2239 i j = 0 := m0_a rfl fc_2239 hi
theorem m0_2240 (hi : i ≠ -1) : qM id (fS L xs w) 2240 i j = 0 := m0_a rfl fc_2240 hi
theorem m0_2241 (hi : i ≠ -1) : qM id (fS L xs w) 2241 i j = 0 := m0_a rfl fc_2241 hi
theorem m0_2242 (hi : i ≠ -1) : qM id (fS L xs w) 2242 i j = 0 := m0_a rfl fc_2242 hi
theorem m0_2243 (hi : i ≠ -1) : qM id (fS L xs w) 2243 i j = 0 := m0_a rfl fc_2243 hi
theorem m0_2244 (hi : i ≠ -1) : qM id (fS L xs w) 2244 i j = 0 := m0_a rfl fc_2244 hi
theorem m0_2245 (hi : i ≠ -1) : qM id (fS L xs w) 2245 i j = 0 := m0_a rfl fc_2245 hi
theorem m0_2246 (hi : i ≠ -1) : qM id (fS L xs w) 2246 i j = 0 := m0_a rfl fc_2246 hi
theorem m0_2247 (hi : i ≠ -1) : qM id (fS L xs w) 2247 i j = 0 := m0_a rfl fc_2247 hi
theorem m0_2248 (hi : i ≠ -1) : qM id (fS L xs w) 2248 i j = 0 := m0_a rfl fc_2248 hi
theorem m0_2249 (hi : i ≠ -1) : qM id (fS L xs w) 2249 i j = 0 := m0_a rfl fc_2249 hi
theorem m0_2250 (hi : i ≠ -1) : qM id (fS L xs w) 2250 i j = 0 := m0_a rfl fc_2250 hi
theorem m0_2251 (hi : i ≠ -1) : qM id (fS L xs w) 2251 i j = 0 := m0_a rfl fc_2251 hi
theorem m0_2253 (hi : i ≠ -1) : qM id (fS L xs w) 2253 i j = 0 := m0_a rfl fc_2253 hi
theorem m0_2254 (hi : i ≠ -1) : qM id (fS L xs w) 2254 i j = 0 := m0_a rfl fc_2254 hi
theorem m0_2256 (hi : i ≠ -1) : qM id (fS L xs w) 2256 i j = 0 := m0_a rfl fc_2256 hi
theorem m0_2257 (hi : i ≠ -1) : qM id (fS L xs w) 2257 i j = 0 := m0_a rfl fc_2257 hi
theorem m0_2258 (hi : i ≠ -1) : qM id (fS L xs w) 2258 i j = 0 := m0_a rfl fc_2258 hi
theorem m0_2259 (hi : i ≠ -1) : qM id (fS L xs w) 2259 i j = 0 := m0_a rfl fc_2259 hi
theorem m0_2263 (hi : i ≠ -1) : qM id (fS L xs w) 2263 i j = 0 := m0_a rfl fc_2263 hi
theorem m0_2264 (hi : i ≠ -1) : qM id (fS L xs w) 2264 i j = 0 := m0_a rfl fc_2264 hi
theorem m0_2265 (hi : i ≠ -1) : qM id (fS L xs w) 2265 i j = 0 := m0_a rfl fc_2265 hi
theorem m0_2266 (hi : i ≠ -1) : qM id (fS L xs w) 2266 i j = 0 := m0_a rfl fc_2266 hi
theorem m0_2267 (hi : i ≠ -1) : qM id (fS L xs w) 2267 i j = 0 := m0_a rfl fc_2267 hi
theorem m0_2268 (hi : i ≠ -1) : qM id (fS L xs w) 2268 i j = 0 := m0_a rfl fc_2268 hi
theorem m0_2269 (hi : i ≠ -1) : qM id (fS L xs w) 2269 i j = 0 := m0_a rfl fc_2269 hi
theorem m0_2270 : qM id (fS L xs w) 2270 i j = 0 := m0_o rfl fc_2270 (by decide +kernel)
theorem m0_2271 (hi : i ≠ -1) : qM id (fS L xs w) 2271 i j = 0 := m0_a rfl fc_2271 hi
theorem m0_2272 (hi : i ≠ -1) : qM id (fS L xs w) 2272 i j = 0 := m0_a rfl fc_2272 hi
theorem m0_2273 (hi : i ≠ -1) : qM id (fS L xs w) 2273 i j = 0 := m0_a rfl fc_2273 hi
theorem m0_2274 (hi : i ≠ -1) : qM id (fS L xs w) 2274 i j = 0 := m0_a rfl fc_2274 hi
theorem m0_2275 (hi : i ≠ -1) : qM id (fS L xs w) 2275 i j = 0 := m0_a rfl fc_2275 hi
theorem m0_2276 (hi : i ≠ -1) : qM id (fS L xs w) 2276 i j = 0 := m0_a rfl fc_2276 hi
theorem m0_2277 (hi : i ≠ -1) : qM id (fS L xs w) 2277 i j = 0 := m0_a rfl fc_2277 hi
theorem m0_2278 (hi : i ≠ -1) : qM id (fS L xs w) 2278 i j = 0 := m0_a rfl fc_2278 hi
theorem m0_2279 (hi : i ≠ -1) : qM id (fS L xs w) 2279 i j = 0 := m0_a rfl fc_2279 hi
theorem m0_2280 (hi : i ≠ -1) : qM id (fS L xs w) 2280 i j = 0 := m0_a rfl fc_2280 hi
theorem m0_2281 (hi : i ≠ -1) : qM id (fS L xs w) 2281 i j = 0 := m0_a rfl fc_2281 hi
theorem m0_2282 (hi : i ≠ -1) : qM id (fS L xs w) 2282 i j = 0 := m0_a rfl fc_2282 hi
theorem m0_2283 (hi : i ≠ -1) : qM id (fS L xs w) 2283 i j = 0 := m0_l rfl fc_2283 hi
theorem m0_2284 (hi : i ≠ -1) : qM id (fS L xs w) 2284 i j = 0 := m0_a rfl fc_2284 hi
theorem m0_2286 (hi : i ≠ -1) : qM id (fS L xs w) 2286 i j = 0 := m0_a rfl fc_2286 hi
theorem m0_2287 (hi : i ≠ -1) : qM id (fS L xs w) 2287 i j = 0 := m0_a rfl fc_2287 hi
theorem m0_2288 (hi : i ≠ -1) : qM id (fS L xs w) 2288 i j = 0 := m0_a rfl fc_2288 hi
theorem m0_2289 (hi : i ≠ -1) : qM id (fS L xs w) 2289 i j = 0 := m0_a rfl fc_2289 hi
theorem m0_2290 (hi : i ≠ -1) : qM id (fS L xs w) 2290 i j = 0 := m0_a rfl fc_2290 hi
theorem m0_2291 (hi : i ≠ -1) : qM id (fS L xs w) 2291 i j = 0 := m0_a rfl fc_2291 hi
theorem m0_2292 (hi : i ≠ -1) : qM id (fS L xs w) 2292 i j = 0 := m0_a rfl fc_2292 hi
theorem m0_2293 (hi : i ≠ -1) : qM id (fS L xs w) 2293 i j = 0 := m0_a rfl fc_2293 hi
theorem m0_2294 (hi : i ≠ -1) : qM id (fS L xs w) 2294 i j = 0 := m0_a rfl fc_2294 hi
theorem m0_2295 (hi : i ≠ -1) : qM id (fS L xs w) 2295 i j = 0 := m0_a rfl fc_2295 hi
theorem m0_2296 (hi : i ≠ -1) : qM id (fS L xs w) 2296 i j = 0 := m0_a rfl fc_2296 hi
theorem m0_2297 (hi : i ≠ -1) : qM id (fS L xs w) 2297 i j = 0 := m0_a rfl fc_2297 hi
theorem m0_2298 (hi : i ≠ -1) : qM id (fS L xs w) 2298 i j = 0 := m0_a rfl fc_2298 hi
theorem m0_2299 (hi : i ≠ -1) : qM id (fS L xs w) 2299 i j = 0 := m0_a rfl fc_2299 hi
theorem m0_2300 (hi : i ≠ -1) : qM id (fS L xs w) 2300 i j = 0 := m0_a rfl fc_2300 hi
theorem m0_2301 (hi : i ≠ -1) : qM id (fS L xs w) 2301 i j = 0 := m0_a rfl fc_2301 hi
theorem m0_2302 (hi : i ≠ -1) : qM id (fS L xs w) 2302 i j = 0 := m0_a rfl fc_2302 hi
theorem m0_2303 (hi : i ≠ -1) : qM id (fS L xs w) 2303 i j = 0 := m0_a rfl fc_2303 hi
theorem m0_2304 (hi : i ≠ -1) : qM id (fS L xs w) 2304 i j = 0 := m0_a rfl fc_2304 hi
theorem m0_2305 (hi : i ≠ -1) : qM id (fS L xs w) 2305 i j = 0 := m0_a rfl fc_2305 hi
theorem m0_2306 (hi : i ≠ -1) : qM id (fS L xs w) 2306 i j = 0 := m0_a rfl fc_2306 hi
theorem m0_2307 (hi : i ≠ -1) : qM id (fS L xs w) 2307 i j = 0 := m0_a rfl fc_2307 hi
theorem m0_2308 (hi : i ≠ -1) : qM id (fS L xs w) 2308 i j = 0 := m0_a rfl fc_2308 hi
theorem m0_2309 (hi : i ≠ -1) : qM id (fS L xs w) 2309 i j = 0 := m0_a rfl fc_2309 hi
theorem m0_2310 (hi : i ≠ -1) : qM id (fS L xs w) 2310 i j = 0 := m0_a rfl fc_2310 hi
theorem m0_2311 (hi : i ≠ -1) : qM id (fS L xs w) 2311 i j = 0 := m0_a rfl fc_2311 hi
theorem m0_2312 (hi : i ≠ -1) : qM id (fS L xs w) 2312 i j = 0 := m0_a rfl fc_2312 hi
theorem m0_2313 (hi : i ≠ -1) : qM id (fS L xs w) 2313 i j = 0 := m0_a rfl fc_2313 hi
theorem m0_2314 (hi : i ≠ -1) : qM id (fS L xs w) 2314 i j = 0 := m0_a rfl fc_2314 hi
theorem m0_2315 (hi : i ≠ -1) : qM id (fS L xs w) 2315 i j = 0 := m0_a rfl fc_2315 hi
theorem m0_2316 (hi : i ≠ -1) : qM id (fS L xs w) 2316 i j = 0 := m0_a rfl fc_2316 hi
theorem m0_2317 (hi : i ≠ -1) : qM id (fS L xs w) 2317 i j = 0 := m0_a rfl fc_2317 hi
theorem m0_2318 (hi : i ≠ -1) : qM id (fS L xs w) 2318 i j = 0 := m0_a rfl fc_2318 hi
theorem m0_2319 (hi : i ≠ -1) : qM id (fS L xs w) 2319 i j = 0 := m0_a rfl fc_2319 hi
theorem m0_2320 (hi : i ≠ -1) : qM id (fS L xs w) 2320 i j = 0 := m0_a rfl fc_2320 hi
theorem m0_2321 (hi : i ≠ -1) : qM id (fS L xs w) 2321 i j = 0 := m0_a rfl fc_2321 hi
theorem m0_2322 (hi : i ≠ -1) : qM id (fS L xs w) 2322 i j = 0 := m0_a rfl fc_2322 hi
theorem m0_2323 (hi : i ≠ -1) : qM id (fS L xs w) 2323 i j = 0 := m0_a rfl fc_2323 hi
theorem m0_2324 (hi : i ≠ -1) : qM id (fS L xs w) 2324 i j = 0 := m0_a rfl fc_2324 hi
theorem m0_2325 (hi : i ≠ -1) : qM id (fS L xs w) 2325 i j = 0 := m0_a rfl fc_2325 hi
theorem m0_2326 (hi : i ≠ -1) : qM id (fS L xs w) 2326 i j = 0 := m0_a rfl fc_2326 hi
theorem m0_2327 (hi : i ≠ -1) : qM id (fS L xs w) 2327 i j = 0 := m0_a rfl fc_2327 hi
theorem m0_2328 (hi : i ≠ -1) : qM id (fS L xs w) 2328 i j = 0 := m0_a rfl fc_2328 hi
theorem m0_2329 (hi : i ≠ -1) : qM id (fS L xs w) 2329 i j = 0 := m0_a rfl fc_2329 hi
theorem m0_2330 (hi : i ≠ -1) : qM id (fS L xs w) 2330 i j = 0 := m0_a rfl fc_2330 hi
theorem m0_2331 (hi : i ≠ -1) : qM id (fS L xs w) 2331 i j = 0 := m0_a rfl fc_2331 hi
theorem m0_2332 (hi : i ≠ -1) : qM id (fS L xs w) 2332 i j = 0 := m0_l rfl fc_2332 hi
end M0V
