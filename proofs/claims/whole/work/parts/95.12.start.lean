/-! ===== the start: what the Statement gives of it, as the small machine has it ===== -/
theorem zy_arr {args : Array Value} {s : State} {ty : FieldType} (h : (Cond.arrayClass ty).before args s = true) (hty : ∀ C : String, ty ≠ .object C) : ∃ cA : ClassId, ArrOfT s cA ty ∧ va_RA s cA ty := by
  obtain ⟨cA, kA, comp, h1, h2, h3⟩ := Cond.arrayClass_spec h
  refine ⟨cA, fun N z => ⟨(fun k h => by cases h), kA, h2, comp, h3⟩, ?_⟩
  cases ty <;> first | exact h1 | exact absurd rfl (hty _)
theorem zy_over {args : Array Value} {s : State} {ty : FieldType} (h : (Cond.arrayOver (.array ty)).before args s = true) : ∃ cA : ClassId, ArrOfT s cA (.array ty) ∧ va_RA s cA (.array ty) := by
  simp only [Cond.before, Cond.holds, Cond.value, beq_iff_eq, Option.bind_eq_some_iff, Option.map_eq_some_iff] at h
  obtain ⟨comp, hc, c, hi, k, hk, hb⟩ := h
  cases hkind : k.kind with
  | array component t2 =>
    rw [hkind] at hb
    simp at hb
    refine ⟨c, fun N z => ⟨(fun k h => by cases h), k, hk, component, by rw [hkind, hb.1]⟩, hb.2⟩
  | _ => rw [hkind] at hb; simp at hb
theorem zy_any {w : Cond} (h : w ∈ tables_1) : w ∈ lw_tbl := List.mem_append_right _ h
theorem zy_cls {args : Array Value} {s : State} (hts : ∀ w ∈ zk_E.2.2.1, w.before args s = true) : ∃ (dC : Nat → ClassId) (dI : Nat → Nat → Nat), ∀ (k : Nat) (q : vw_C), zk_cl[k]? = some q → u_Kn s q.1 q.2.1 q.2.2 (dC k) (dI k) := by
  have h : ∀ k : Nat, ∃ r : ClassId × (Nat → Nat), ∀ q : vw_C, zk_cl[k]? = some q → u_Kn s q.1 q.2.1 q.2.2 r.1 r.2 := by
    intro k
    match k with
    | 0 =>
      obtain ⟨c, i, hk⟩ := u_known (C := RX0) (T := TX0) (N := 19) (n := 19) hts zk_i0 (hts _ (zk_b2 58 (by decide +kernel) rfl))
      exact ⟨(c, i), fun q hq => by cases hq; exact hk⟩
    | 1 =>
      obtain ⟨c, i, hk⟩ := u_known (C := RX1) (T := TX1) (N := 20) (n := 20) hts zk_i1 (hts _ (zk_b3 23 (by decide +kernel) rfl))
      exact ⟨(c, i), fun q hq => by cases hq; exact hk⟩
    | 2 =>
      obtain ⟨c, i, hk⟩ := u_known (C := RX2) (T := TX2) (N := 19) (n := 19) hts zk_i2 (hts _ (zk_b1 77 (by decide +kernel) rfl))
      exact ⟨(c, i), fun q hq => by cases hq; exact hk⟩
    | 3 =>
      obtain ⟨c, i, hk⟩ := u_known (C := RX3) (T := TX3) (N := 16) (n := 16) hts zk_i3 (hts _ (zk_b3 166 (by decide +kernel) rfl))
      exact ⟨(c, i), fun q hq => by cases hq; exact hk⟩
    | 4 =>
      obtain ⟨c, i, hk⟩ := u_known (C := RX4) (T := TX4) (N := 19) (n := 19) hts zk_i4 (hts _ (zk_b3 96 (by decide +kernel) rfl))
      exact ⟨(c, i), fun q hq => by cases hq; exact hk⟩
    | 5 =>
      obtain ⟨c, i, hk⟩ := u_known (C := RX5) (T := TX5) (N := 13) (n := 13) hts zk_i5 (hts _ (zk_b2 127 (by decide +kernel) rfl))
      exact ⟨(c, i), fun q hq => by cases hq; exact hk⟩
    | 6 =>
      obtain ⟨c, i, hk⟩ := u_known (C := RX6) (T := TX6) (N := 10) (n := 10) hts zk_i6 (hts _ (zk_b1 150 (by decide +kernel) rfl))
      exact ⟨(c, i), fun q hq => by cases hq; exact hk⟩
    | 7 =>
      obtain ⟨c, i, hk⟩ := u_known (C := RX7) (T := TX7) (N := 16) (n := 16) hts zk_i7 (hts _ (zk_b1 195 (by decide +kernel) rfl))
      exact ⟨(c, i), fun q hq => by cases hq; exact hk⟩
    | 8 =>
      obtain ⟨c, i, hk⟩ := u_known (C := RX8) (T := TX8) (N := 4) (n := 4) hts zk_i8 (hts _ (zk_b1 46 (by decide +kernel) rfl))
      exact ⟨(c, i), fun q hq => by cases hq; exact hk⟩
    | 9 =>
      obtain ⟨c, i, hk⟩ := u_known (C := RX9) (T := TX9) (N := 20) (n := 20) hts zk_i9 (hts _ (zk_b2 180 (by decide +kernel) rfl))
      exact ⟨(c, i), fun q hq => by cases hq; exact hk⟩
    | 10 =>
      obtain ⟨c, i, hk⟩ := u_known (C := RX10) (T := TX10) (N := 11) (n := 11) hts zk_i10 (hts _ (zk_b2 14 (by decide +kernel) rfl))
      exact ⟨(c, i), fun q hq => by cases hq; exact hk⟩
    | 11 =>
      obtain ⟨c, i, hk⟩ := u_known (C := RX11) (T := TX11) (N := 13) (n := 13) hts zk_i11 (hts _ (zk_b1 38 (by decide +kernel) rfl))
      exact ⟨(c, i), fun q hq => by cases hq; exact hk⟩
    | 12 =>
      obtain ⟨c, i, hk⟩ := u_known (C := RX12) (T := TX12) (N := 29) (n := 29) hts zk_i12 (hts _ (zk_b15 76 (by decide +kernel) rfl))
      exact ⟨(c, i), fun q hq => by cases hq; exact hk⟩
    | 13 =>
      obtain ⟨c, i, hk⟩ := u_known (C := RX13) (T := TX13) (N := 24) (n := 24) hts zk_i13 (hts _ (zk_b15 180 (by decide +kernel) rfl))
      exact ⟨(c, i), fun q hq => by cases hq; exact hk⟩
    | 14 =>
      obtain ⟨c, i, hk⟩ := u_known (C := RX14) (T := TX14) (N := 36) (n := 36) hts zk_i14 (hts _ (zk_b14 109 (by decide +kernel) rfl))
      exact ⟨(c, i), fun q hq => by cases hq; exact hk⟩
    | 15 =>
      obtain ⟨c, i, hk⟩ := u_known (C := RX15) (T := TX15) (N := 44) (n := 44) hts zk_i15 (hts _ (zk_b13 205 (by decide +kernel) rfl))
      exact ⟨(c, i), fun q hq => by cases hq; exact hk⟩
    | 16 =>
      obtain ⟨c, i, hk⟩ := u_known (C := RX16) (T := TX16) (N := 40) (n := 40) hts zk_i16 (hts _ (zk_b13 69 (by decide +kernel) rfl))
      exact ⟨(c, i), fun q hq => by cases hq; exact hk⟩
    | 17 =>
      obtain ⟨c, i, hk⟩ := u_known (C := RX17) (T := TX17) (N := 19) (n := 19) hts zk_i17 (hts _ (zk_b14 236 (by decide +kernel) rfl))
      exact ⟨(c, i), fun q hq => by cases hq; exact hk⟩
    | 18 =>
      obtain ⟨c, i, hk⟩ := u_known (C := RX18) (T := TX18) (N := 60) (n := 60) hts zk_i18 (hts _ (zk_b13 63 (by decide +kernel) rfl))
      exact ⟨(c, i), fun q hq => by cases hq; exact hk⟩
    | k + 19 => exact ⟨(0, fun _ => 0), fun q hq => by simp [zk_cl] at hq⟩
  obtain ⟨f, hf⟩ := Classical.axiomOfChoice h
  exact ⟨fun k => (f k).1, fun k => (f k).2, hf⟩
theorem zy_t1 {args : Array Value} {s : State} (hq : ∀ w ∈ flatC (Jvm.Cond.and given_1 narrow_1), w.before args s = true) {A : Nat → Prop} (hA : ∀ a : Nat, a < s.heap.size → ¬ A a) : ∃ t : Nat, (Term.static "TowerHouse$PermitText" "SIGNS" "[C").eval args s none [] s = some (.ref t) ∧ va_T .char t 13 (fun j => .int (([43, 45, 42, 47, 40, 41, 60, 61, 62, 58, 59, 33, 64] : List Int32).getD j 0)) A s s.heap := by
  refine va_Tof (Nat.le_of_ble_eq_true rfl) (hq _ (by decide +kernel)) (va_eqt (hq _ (by decide +kernel))) (fun j hj => ?_) hA
  match j, hj with
  | 0, _ => exact va_eqt (hq (.eq (.elem (.static "TowerHouse$PermitText" "SIGNS" "[C") (.int 0)) (.int 43)) (by decide +kernel))
  | 1, _ => exact va_eqt (hq (.eq (.elem (.static "TowerHouse$PermitText" "SIGNS" "[C") (.int 1)) (.int 45)) (by decide +kernel))
  | 2, _ => exact va_eqt (hq (.eq (.elem (.static "TowerHouse$PermitText" "SIGNS" "[C") (.int 2)) (.int 42)) (by decide +kernel))
  | 3, _ => exact va_eqt (hq (.eq (.elem (.static "TowerHouse$PermitText" "SIGNS" "[C") (.int 3)) (.int 47)) (by decide +kernel))
  | 4, _ => exact va_eqt (hq (.eq (.elem (.static "TowerHouse$PermitText" "SIGNS" "[C") (.int 4)) (.int 40)) (by decide +kernel))
  | 5, _ => exact va_eqt (hq (.eq (.elem (.static "TowerHouse$PermitText" "SIGNS" "[C") (.int 5)) (.int 41)) (by decide +kernel))
  | 6, _ => exact va_eqt (hq (.eq (.elem (.static "TowerHouse$PermitText" "SIGNS" "[C") (.int 6)) (.int 60)) (by decide +kernel))
  | 7, _ => exact va_eqt (hq (.eq (.elem (.static "TowerHouse$PermitText" "SIGNS" "[C") (.int 7)) (.int 61)) (by decide +kernel))
  | 8, _ => exact va_eqt (hq (.eq (.elem (.static "TowerHouse$PermitText" "SIGNS" "[C") (.int 8)) (.int 62)) (by decide +kernel))
  | 9, _ => exact va_eqt (hq (.eq (.elem (.static "TowerHouse$PermitText" "SIGNS" "[C") (.int 9)) (.int 58)) (by decide +kernel))
  | 10, _ => exact va_eqt (hq (.eq (.elem (.static "TowerHouse$PermitText" "SIGNS" "[C") (.int 10)) (.int 59)) (by decide +kernel))
  | 11, _ => exact va_eqt (hq (.eq (.elem (.static "TowerHouse$PermitText" "SIGNS" "[C") (.int 11)) (.int 33)) (by decide +kernel))
  | 12, _ => exact va_eqt (hq (.eq (.elem (.static "TowerHouse$PermitText" "SIGNS" "[C") (.int 12)) (.int 64)) (by decide +kernel))
  | k + 13, hj => exact absurd hj (by omega)
theorem zy_t2 {args : Array Value} {s : State} (hq : ∀ w ∈ flatC (Jvm.Cond.and given_1 narrow_1), w.before args s = true) {A : Nat → Prop} (hA : ∀ a : Nat, a < s.heap.size → ¬ A a) : ∃ t : Nat, (Term.static "TowerHouse$Finding" "SIDE_X" "[I").eval args s none [] s = some (.ref t) ∧ va_T .int t 4 (fun j => .int (([1, 0, -1, 0] : List Int32).getD j 0)) A s s.heap := by
  refine va_Tof (Nat.le_of_ble_eq_true rfl) (hq _ (by decide +kernel)) (va_eqt (hq _ (by decide +kernel))) (fun j hj => ?_) hA
  match j, hj with
  | 0, _ => exact va_eqt (hq (.eq (.elem (.static "TowerHouse$Finding" "SIDE_X" "[I") (.int 0)) (.int 1)) (by decide +kernel))
  | 1, _ => exact va_eqt (hq (.eq (.elem (.static "TowerHouse$Finding" "SIDE_X" "[I") (.int 1)) (.int 0)) (by decide +kernel))
  | 2, _ => exact va_eqt (hq (.eq (.elem (.static "TowerHouse$Finding" "SIDE_X" "[I") (.int 2)) (.int (-1))) (by decide +kernel))
  | 3, _ => exact va_eqt (hq (.eq (.elem (.static "TowerHouse$Finding" "SIDE_X" "[I") (.int 3)) (.int 0)) (by decide +kernel))
  | k + 4, hj => exact absurd hj (by omega)
theorem zy_t3 {args : Array Value} {s : State} (hq : ∀ w ∈ flatC (Jvm.Cond.and given_1 narrow_1), w.before args s = true) {A : Nat → Prop} (hA : ∀ a : Nat, a < s.heap.size → ¬ A a) : ∃ t : Nat, (Term.static "TowerHouse$Finding" "SIDE_Y" "[I").eval args s none [] s = some (.ref t) ∧ va_T .int t 4 (fun j => .int (([0, 1, 0, -1] : List Int32).getD j 0)) A s s.heap := by
  refine va_Tof (Nat.le_of_ble_eq_true rfl) (hq _ (by decide +kernel)) (va_eqt (hq _ (by decide +kernel))) (fun j hj => ?_) hA
  match j, hj with
  | 0, _ => exact va_eqt (hq (.eq (.elem (.static "TowerHouse$Finding" "SIDE_Y" "[I") (.int 0)) (.int 0)) (by decide +kernel))
  | 1, _ => exact va_eqt (hq (.eq (.elem (.static "TowerHouse$Finding" "SIDE_Y" "[I") (.int 1)) (.int 1)) (by decide +kernel))
  | 2, _ => exact va_eqt (hq (.eq (.elem (.static "TowerHouse$Finding" "SIDE_Y" "[I") (.int 2)) (.int 0)) (by decide +kernel))
  | 3, _ => exact va_eqt (hq (.eq (.elem (.static "TowerHouse$Finding" "SIDE_Y" "[I") (.int 3)) (.int (-1))) (by decide +kernel))
  | k + 4, hj => exact absurd hj (by omega)
theorem zy_t4 {args : Array Value} {s : State} (hq : ∀ w ∈ flatC (Jvm.Cond.and given_1 narrow_1), w.before args s = true) {A : Nat → Prop} (hA : ∀ a : Nat, a < s.heap.size → ¬ A a) : ∃ t : Nat, (Term.static "TowerHouse$Finding" "TURNS" "[I").eval args s none [] s = some (.ref t) ∧ va_T .int t 4 (fun j => .int (([1, 0, 3, 2] : List Int32).getD j 0)) A s s.heap := by
  refine va_Tof (Nat.le_of_ble_eq_true rfl) (hq _ (by decide +kernel)) (va_eqt (hq _ (by decide +kernel))) (fun j hj => ?_) hA
  match j, hj with
  | 0, _ => exact va_eqt (hq (.eq (.elem (.static "TowerHouse$Finding" "TURNS" "[I") (.int 0)) (.int 1)) (by decide +kernel))
  | 1, _ => exact va_eqt (hq (.eq (.elem (.static "TowerHouse$Finding" "TURNS" "[I") (.int 1)) (.int 0)) (by decide +kernel))
  | 2, _ => exact va_eqt (hq (.eq (.elem (.static "TowerHouse$Finding" "TURNS" "[I") (.int 2)) (.int 3)) (by decide +kernel))
  | 3, _ => exact va_eqt (hq (.eq (.elem (.static "TowerHouse$Finding" "TURNS" "[I") (.int 3)) (.int 2)) (by decide +kernel))
  | k + 4, hj => exact absurd hj (by omega)
theorem zy_t5 {args : Array Value} {s : State} (hq : ∀ w ∈ flatC (Jvm.Cond.and given_1 narrow_1), w.before args s = true) {A : Nat → Prop} (hA : ∀ a : Nat, a < s.heap.size → ¬ A a) : ∃ t : Nat, (Term.static "TowerHouse$Program" "INPUTS" "[I").eval args s none [] s = some (.ref t) ∧ va_T .int t 26 (fun j => .int (([0, 0, 2, 2, 2, 2, 2, 2, 2, 2, 2, 2, 2, 1, 3, 1, 1, 1, 2, 2, 0, 1, 1, 2, 2, 1] : List Int32).getD j 0)) A s s.heap := by
  refine va_Tof (Nat.le_of_ble_eq_true rfl) (hq _ (by decide +kernel)) (va_eqt (hq _ (by decide +kernel))) (fun j hj => ?_) hA
  match j, hj with
  | 0, _ => exact va_eqt (hq (.eq (.elem (.static "TowerHouse$Program" "INPUTS" "[I") (.int 0)) (.int 0)) (by decide +kernel))
  | 1, _ => exact va_eqt (hq (.eq (.elem (.static "TowerHouse$Program" "INPUTS" "[I") (.int 1)) (.int 0)) (by decide +kernel))
  | 2, _ => exact va_eqt (hq (.eq (.elem (.static "TowerHouse$Program" "INPUTS" "[I") (.int 2)) (.int 2)) (by decide +kernel))
  | 3, _ => exact va_eqt (hq (.eq (.elem (.static "TowerHouse$Program" "INPUTS" "[I") (.int 3)) (.int 2)) (by decide +kernel))
  | 4, _ => exact va_eqt (hq (.eq (.elem (.static "TowerHouse$Program" "INPUTS" "[I") (.int 4)) (.int 2)) (by decide +kernel))
  | 5, _ => exact va_eqt (hq (.eq (.elem (.static "TowerHouse$Program" "INPUTS" "[I") (.int 5)) (.int 2)) (by decide +kernel))
  | 6, _ => exact va_eqt (hq (.eq (.elem (.static "TowerHouse$Program" "INPUTS" "[I") (.int 6)) (.int 2)) (by decide +kernel))
  | 7, _ => exact va_eqt (hq (.eq (.elem (.static "TowerHouse$Program" "INPUTS" "[I") (.int 7)) (.int 2)) (by decide +kernel))
  | 8, _ => exact va_eqt (hq (.eq (.elem (.static "TowerHouse$Program" "INPUTS" "[I") (.int 8)) (.int 2)) (by decide +kernel))
  | 9, _ => exact va_eqt (hq (.eq (.elem (.static "TowerHouse$Program" "INPUTS" "[I") (.int 9)) (.int 2)) (by decide +kernel))
  | 10, _ => exact va_eqt (hq (.eq (.elem (.static "TowerHouse$Program" "INPUTS" "[I") (.int 10)) (.int 2)) (by decide +kernel))
  | 11, _ => exact va_eqt (hq (.eq (.elem (.static "TowerHouse$Program" "INPUTS" "[I") (.int 11)) (.int 2)) (by decide +kernel))
  | 12, _ => exact va_eqt (hq (.eq (.elem (.static "TowerHouse$Program" "INPUTS" "[I") (.int 12)) (.int 2)) (by decide +kernel))
  | 13, _ => exact va_eqt (hq (.eq (.elem (.static "TowerHouse$Program" "INPUTS" "[I") (.int 13)) (.int 1)) (by decide +kernel))
  | 14, _ => exact va_eqt (hq (.eq (.elem (.static "TowerHouse$Program" "INPUTS" "[I") (.int 14)) (.int 3)) (by decide +kernel))
  | 15, _ => exact va_eqt (hq (.eq (.elem (.static "TowerHouse$Program" "INPUTS" "[I") (.int 15)) (.int 1)) (by decide +kernel))
  | 16, _ => exact va_eqt (hq (.eq (.elem (.static "TowerHouse$Program" "INPUTS" "[I") (.int 16)) (.int 1)) (by decide +kernel))
  | 17, _ => exact va_eqt (hq (.eq (.elem (.static "TowerHouse$Program" "INPUTS" "[I") (.int 17)) (.int 1)) (by decide +kernel))
  | 18, _ => exact va_eqt (hq (.eq (.elem (.static "TowerHouse$Program" "INPUTS" "[I") (.int 18)) (.int 2)) (by decide +kernel))
  | 19, _ => exact va_eqt (hq (.eq (.elem (.static "TowerHouse$Program" "INPUTS" "[I") (.int 19)) (.int 2)) (by decide +kernel))
  | 20, _ => exact va_eqt (hq (.eq (.elem (.static "TowerHouse$Program" "INPUTS" "[I") (.int 20)) (.int 0)) (by decide +kernel))
  | 21, _ => exact va_eqt (hq (.eq (.elem (.static "TowerHouse$Program" "INPUTS" "[I") (.int 21)) (.int 1)) (by decide +kernel))
  | 22, _ => exact va_eqt (hq (.eq (.elem (.static "TowerHouse$Program" "INPUTS" "[I") (.int 22)) (.int 1)) (by decide +kernel))
  | 23, _ => exact va_eqt (hq (.eq (.elem (.static "TowerHouse$Program" "INPUTS" "[I") (.int 23)) (.int 2)) (by decide +kernel))
  | 24, _ => exact va_eqt (hq (.eq (.elem (.static "TowerHouse$Program" "INPUTS" "[I") (.int 24)) (.int 2)) (by decide +kernel))
  | 25, _ => exact va_eqt (hq (.eq (.elem (.static "TowerHouse$Program" "INPUTS" "[I") (.int 25)) (.int 1)) (by decide +kernel))
  | k + 26, hj => exact absurd hj (by omega)
theorem zy_start {s : State} {b L : Nat} {xs : Nat → Int32} (hts : ∀ w ∈ lw_tbl, w.before #[Value.ref b] s = true) (hXs : va_X b L xs s s.heap) (hbl : b < s.heap.size) (hL : L ≤ 3584) (hgv : (Jvm.Cond.and given_1 narrow_1).before #[Value.ref b] s = true) :
    ∃ V : zm_V, V.2.2.2.1 = s.heap.size ∧ V.2.2.1 0 = b ∧ zm_G zk_E V s ∧ zm_R zk_E V (zy_S L xs) s.heap := by
  have hq := flat_of_before _ hgv
  have hB : ∀ w ∈ zk_E.2.2.1, w.before #[Value.ref b] s = true := fun w hw => by
    have h2 : w ∈ List.filter goodWord lw_tbl := hw
    exact hts w (List.mem_filter.mp h2).1
  obtain ⟨dC, dI, hCl⟩ := zy_cls hB
  have hA : ∀ a : Nat, a < s.heap.size → ¬ (fun q : Nat => s.heap.size ≤ q) a := fun a h => Nat.not_le.mpr h
  obtain ⟨t1, e1, T1⟩ := zy_t1 hq hA
  have Z1 := va_Zof (hts _ (zy_any (zk_c4 (List.mem_of_getElem? (i := 61) (by decide +kernel))))) (hts _ (zy_any (zk_c1 (List.mem_of_getElem? (i := 4) (by decide +kernel))))) e1 hA
  obtain ⟨t2, e2, T2⟩ := zy_t2 hq hA
  have Z2 := va_Zof (hts _ (zy_any (zk_c5 (List.mem_of_getElem? (i := 105) (by decide +kernel))))) (hts _ (zy_any (zk_c1 (List.mem_of_getElem? (i := 3) (by decide +kernel))))) e2 hA
  obtain ⟨t3, e3, T3⟩ := zy_t3 hq hA
  have Z3 := va_Zof (hts _ (zy_any (zk_c5 (List.mem_of_getElem? (i := 107) (by decide +kernel))))) (hts _ (zy_any (zk_c1 (List.mem_of_getElem? (i := 3) (by decide +kernel))))) e3 hA
  obtain ⟨t4, e4, T4⟩ := zy_t4 hq hA
  have Z4 := va_Zof (hts _ (zy_any (zk_c5 (List.mem_of_getElem? (i := 121) (by decide +kernel))))) (hts _ (zy_any (zk_c1 (List.mem_of_getElem? (i := 3) (by decide +kernel))))) e4 hA
  obtain ⟨t5, e5, T5⟩ := zy_t5 hq hA
  have Z5 := va_Zof (hts _ (zy_any (zk_c10 (List.mem_of_getElem? (i := 232) (by decide +kernel))))) (hts _ (zy_any (zk_c1 (List.mem_of_getElem? (i := 9) (by decide +kernel))))) e5 hA
  obtain ⟨a0, A0⟩ := zy_arr (ty := .int) (hts _ (zy_any (zk_c1 (List.mem_of_getElem? (i := 75) (by decide +kernel))))) (fun C h => by cases h)
  obtain ⟨a1, A1⟩ := zy_arr (ty := .long) (hts _ (zy_any (zk_c1 (List.mem_of_getElem? (i := 193) (by decide +kernel))))) (fun C h => by cases h)
  obtain ⟨a2, A2⟩ := zy_arr (ty := .boolean) (hts _ (zy_any (zk_c1 (List.mem_of_getElem? (i := 148) (by decide +kernel))))) (fun C h => by cases h)
  obtain ⟨a3, A3⟩ := zy_arr (ty := .char) (hts _ (zy_any (zk_c1 (List.mem_of_getElem? (i := 192) (by decide +kernel))))) (fun C h => by cases h)
  obtain ⟨a4, A4⟩ := zy_over (ty := .int) (hts _ (zy_any (zk_c1 (List.mem_of_getElem? (i := 52) (by decide +kernel)))))
  obtain ⟨a5, A5⟩ := zy_over (ty := .long) (hts _ (zy_any (zk_c1 (List.mem_of_getElem? (i := 201) (by decide +kernel)))))
  let V : zm_V := ((dC, dI), (fun k => match k with | 0 => a0 | 1 => a1 | 2 => a2 | 3 => a3 | 4 => a4 | _ => a5), (fun k => match k with | 0 => b | 1 => t1 | 2 => t2 | 3 => t3 | 4 => t4 | _ => t5), s.heap.size, zy_W L xs)
  have hlt : ∀ {ty : FieldType} {t N : Nat} {f : Nat → Value} {A : Nat → Prop}, va_T ty t N f A s s.heap → t < s.heap.size := fun h => by
    obtain ⟨cell, h1, -⟩ := h
    exact (Array.getElem?_eq_some_iff.mp h1).1
  have hU : vx_Zq Bundle.tN "UNASSIGNED_STACK" Bundle.steD (fun q : Nat => s.heap.size ≤ q) s s.heap := vx_Zqof (hts _ (zy_any (zk_c4 (List.mem_of_getElem? (i := 150) (by decide +kernel))))) (hts _ (zy_any (zk_c1 (List.mem_of_getElem? (i := 20) (by decide +kernel))))) (hq _ (by decide +kernel)) hA
  have hN : vx_Zq Bundle.tN "SUPPRESSED_SENTINEL" Bundle.listD (fun q : Nat => s.heap.size ≤ q) s s.heap := vx_Zqof (hts _ (zy_any (zk_c4 (List.mem_of_getElem? (i := 152) (by decide +kernel))))) (hts _ (zy_any (zk_c1 (List.mem_of_getElem? (i := 20) (by decide +kernel))))) (hq _ (by decide +kernel)) hA
  have hs0 := hts (.stringRef "TowerHouse" 625 "a number is out of its bounds, or there is no such thing") (zy_any (zk_c4 (List.mem_of_getElem? (i := 163) (by decide +kernel))))
  have hs1 := hts (.stringRef "TowerHouse" 632 "the house is not as it must be") (zy_any (zk_c4 (List.mem_of_getElem? (i := 202) (by decide +kernel))))
  refine ⟨V, rfl, rfl, ⟨⟨hCl, ?_⟩, ?_, Nat.le_refl _, ?_, hU, hN, ?_, ?_, ?_⟩, ?_⟩
  · intro k q hk
    match k, hk with
    | 0, hk => cases hk; exact A0
    | 1, hk => cases hk; exact A1
    | 2, hk => cases hk; exact A2
    | 3, hk => cases hk; exact A3
    | 4, hk => cases hk; exact A4
    | 5, hk => cases hk; exact A5
    | k + 6, hk => simp [zm_tys, zk_E, zk_ty] at hk
  · intro w hw
    have h2 : w ∈ List.filter zm_isN lw_tbl := by rw [zk_EN] at hw; exact hw
    exact va_Nw.of (zm_isN_on (List.mem_filter.mp h2).2) (hts w (List.mem_filter.mp h2).1)
  · intro z hz
    have hz : z ∈ zk_Z := hz
    simp only [zk_Z, List.mem_cons, List.not_mem_nil, or_false] at hz
    rcases hz with rfl | rfl | rfl | rfl | rfl
    · exact Z1
    · exact Z2
    · exact Z3
    · exact Z4
    · exact Z5
  · intro z hz
    have hz : z ∈ zk_S := hz
    simp only [zk_S, List.mem_cons, List.not_mem_nil, or_false] at hz
    obtain ⟨c, -, hfc, -⟩ : ∃ (c : ClassId) (kC : Nat), s.vm.findClass "TowerHouse" = some c ∧ True := by
      obtain ⟨cC, kC, h1, -⟩ := Cond.instantiable_spec (hts (.instantiable "TowerHouse" 13) (zy_any (zk_c1 (List.mem_of_getElem? (i := 38) (by decide +kernel)))))
      exact ⟨cC, 0, h1, trivial⟩
    rcases hz with rfl | rfl
    · obtain ⟨-, -, -, sa, -, -, -, -, -, hev⟩ := Cond.stringRef_spec hfc hs0
      exact ⟨sa, vk_R.of hs0 hev⟩
    · obtain ⟨-, -, -, sa, -, -, -, -, -, hev⟩ := Cond.stringRef_spec hfc hs1
      exact ⟨sa, vk_R.of hs1 hev⟩
  · intro k hk
    have hk : k < 6 := by rw [zk_k0] at hk; exact hk
    match k, hk with
    | 0, _ =>
      obtain ⟨scr, x1, x2, x3, x4, x5⟩ := hXs
      exact ⟨.int, rfl, scr, x1, x2, x3, by rw [x4]; exact Nat.le_refl _, by rw [x4]; rfl, x5, Nat.not_le.mpr hbl⟩
    | 1, _ => exact ⟨.char, rfl, T1⟩
    | 2, _ => exact ⟨.int, rfl, T2⟩
    | 3, _ => exact ⟨.int, rfl, T3⟩
    | 4, _ => exact ⟨.int, rfl, T4⟩
    | 5, _ => exact ⟨.int, rfl, T5⟩
    | k + 6, h => exact absurd h (by omega)
  · exact ⟨va_Nc.of (hq (.not (.castable "java/lang/IllegalStateException" "java/lang/IllegalArgumentException")) (by decide +kernel)), over_moved (Vm.Alike.refl _) (hts _ (zy_any (zk_c1 (List.mem_of_getElem? (i := 52) (by decide +kernel))))), over_moved (Vm.Alike.refl _) (hts _ (zy_any (zk_c1 (List.mem_of_getElem? (i := 201) (by decide +kernel)))))⟩
  · refine ⟨by rw [zk_k0]; exact Nat.le_refl _, by rw [zk_k0]; rfl, fun k hk => ?_, fun k hk => rfl, fun k h1 h2 => ?_⟩
    · have hk : k < 6 := by rw [zk_k0] at hk; exact hk
      match k, hk with
      | 0, _ => exact hbl
      | 1, _ => exact hlt T1
      | 2, _ => exact hlt T2
      | 3, _ => exact hlt T3
      | 4, _ => exact hlt T4
      | 5, _ => exact hlt T5
      | k + 6, h => exact absurd h (by omega)
    · rw [zk_k0] at h1
      exact absurd h2 (Nat.not_lt.mpr h1)
/-- the law from its entry, once its function has an end -/
theorem zy_law {p : Program} {e : Env} {s : State} {m : MethodId} {below : List Frame} {meth : Method} {c : Code} (l : Launch) {b L : Nat} {xs : Nat → Int32} (hL : L ≤ 3584) (C0 : lw_At p s m meth c b L xs)
    (hlaw : ∀ V : zm_V, V.2.2.2.1 = s.heap.size → zm_X p room_1 s m #[Value.ref b] meth c RL meth.name cL_law 8 zk_E V 601024 7293034 → zw p l e room_1 s m #[Value.ref b] below meth c (lw_Z below #[Value.ref b] s) 8 zk_E V 601024 7293034 0 [(0, .ref 0)] [] (zy_S L xs) 601024 7293034) : W p l e room_1 s m #[Value.ref b] below meth c s.heap [] 0 0 (lw_Z below #[Value.ref b] s) (entryFrame m ([Value.ref b] : List Value).toArray 8) := by
  obtain ⟨hx, hb, hr, hml, hown, hts, hX, hbl, hlocks, hgv⟩ := id C0
  obtain ⟨V, hV, hV0, hG, hR⟩ := zy_start hts hX hbl hL hgv
  have hB : ∀ w ∈ zk_E.2.2.1, w.before #[Value.ref b] s = true := fun w hw => by
    have h2 : w ∈ List.filter goodWord lw_tbl := hw
    exact hts w (List.mem_filter.mp h2).1
  have hl := lv_entry ([.ref b]) (n := 8) (Nat.le_of_ble_eq_true rfl)
  rw [lg_entry_eq]
  generalize (lg_sl ([.ref b]) ++ List.replicate (8 - (lg_sl ([.ref b])).length) Slot.unset).toArray = ls at hl ⊢
  have hl : lv_has ls 8 [(0, .ref b)] := hl
  have hz := hlaw V hV ⟨hx, hb, hml, hown, hB, hlocks, rfl, hG, Nat.le_refl _, Nat.le_refl _⟩ ls s.heap [] 0 0 hR (by
    show lv_has ls 8 [(0, .ref (zm_io zk_E V 0))]
    rw [zm_io, zm_i_old (by rw [zk_k0]; exact Nat.le_of_ble_eq_true rfl), hV0]
    exact hl) va_S.rf (Nat.zero_add _) (Nat.zero_add _)
  exact hz

