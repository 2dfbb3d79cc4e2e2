/-! ===== rows for evaluating a function at its head (wip/p1/tools/gen15.py) ===== -/
def fQ (k : Nat → Nat → Nat → Nat → Int32 → Nat → Nat → zm_S → Option ((Int32 × zm_S) ⊕ (Unit × zm_S))) (xs : Nat → Int32) (x : Option ((Int32 × zm_S) ⊕ (Unit × zm_S))) : Prop := ∃ (rc rs : Nat) (S : zm_S), x = k 0 6 2156 2332 7 rc rs S ∧ S.1 0 = .inr (0, 7, .inl xs) ∧ 0 < S.2
section HB
variable {k : Nat → Nat → Nat → Nat → Int32 → Nat → Nat → zm_S → Option ((Int32 × zm_S) ⊕ (Unit × zm_S))} {xs : Nat → Int32} {x y : Option ((Int32 × zm_S) ⊕ (Unit × zm_S))}
theorem hq_end {i : Int32} {rc rs : Nat} {S : zm_S} (h1 : i = 7) (h2 : S.1 0 = .inr (0, 7, .inl xs)) (h3 : Nat.blt 0 S.2 = true) : fQ k xs (k 0 6 2156 2332 i rc rs S) := by
  subst h1
  exact ⟨rc, rs, S, rfl, h2, Nat.le_of_ble_eq_true h3⟩
theorem hq_eq (e : x = y) (h : fQ k xs y) : fQ k xs x := by
  rw [e]
  exact h
theorem hq_pos {c : Prop} {d : Decidable c} (hc : c) (h : fQ k xs x) : fQ k xs (@ite _ c d x y) := by
  rw [if_pos hc]
  exact h
theorem hq_neg {c : Prop} {d : Decidable c} (hc : ¬ c) (h : fQ k xs y) : fQ k xs (@ite _ c d x y) := by
  rw [if_neg hc]
  exact h
theorem hq_ite {c : Prop} {d : Decidable c} (h1 : c → fQ k xs x) (h2 : ¬ c → fQ k xs y) : fQ k xs (@ite _ c d x y) := by
  by_cases hc : c
  · exact hq_pos hc (h1 hc)
  · exact hq_neg hc (h2 hc)
variable {α γ : Type} {u z : Option α} {v : α} {f : α → Option ((Int32 × zm_S) ⊕ (Unit × zm_S))}
theorem hb_some (h : fQ k xs (f v)) : fQ k xs ((some v).bind f) := h
theorem hb_of (e : u = some v) (h : fQ k xs (f v)) : fQ k xs (u.bind f) := by
  rw [e]
  exact h
theorem hb_eq (e : u = z) (h : fQ k xs (z.bind f)) : fQ k xs (u.bind f) := by
  rw [e]
  exact h
theorem hb_assoc {t : Option γ} {g : γ → Option α} (h : fQ k xs (t.bind (fun a => (g a).bind f))) : fQ k xs ((t.bind g).bind f) := by
  cases t <;> exact h
theorem hb_pos {c : Prop} {d : Decidable c} (hc : c) (h : fQ k xs (u.bind f)) : fQ k xs ((@ite _ c d u z).bind f) := by
  rw [if_pos hc]
  exact h
theorem hb_neg {c : Prop} {d : Decidable c} (hc : ¬ c) (h : fQ k xs (z.bind f)) : fQ k xs ((@ite _ c d u z).bind f) := by
  rw [if_neg hc]
  exact h
theorem hb_ite {c : Prop} {d : Decidable c} (h1 : c → fQ k xs (u.bind f)) (h2 : ¬ c → fQ k xs (z.bind f)) : fQ k xs ((@ite _ c d u z).bind f) := by
  by_cases hc : c
  · exact hb_pos hc (h1 hc)
  · exact hb_neg hc (h2 hc)
variable {S : zm_S} {a ci j n t2 : Nat} {fs : List Value} {val : Value} {b : Bool}
theorem lg_self (x : Int64) : lg_cmp x x = 0 := by
  unfold lg_cmp
  simp
theorem e_in (h : (Nat.ble 6 a && Nat.blt a S.2) = true) : 6 ≤ a ∧ a < S.2 := by
  rw [Bool.and_eq_true] at h
  exact ⟨Nat.le_of_ble_eq_true h.1, Nat.le_of_ble_eq_true h.2⟩
theorem e_g (h : S.1 a = .inl (ci, fs)) (h2 : (Nat.ble 6 a && Nat.blt a S.2) = true) (hk : fs[j]? = some val) : zg S a ci j = some val := by
  unfold zg
  rw [if_pos (e_in h2), h]
  exact (if_pos rfl).trans hk
theorem e_gi {w : Int32} (h : S.1 a = .inl (ci, fs)) (h2 : (Nat.ble 6 a && Nat.blt a S.2) = true) (hk : fs[j]? = some (.int w)) : zg_i S a ci j = some w := by
  unfold zg_i
  rw [e_g h h2 hk]
theorem e_gl {w : Int64} (h : S.1 a = .inl (ci, fs)) (h2 : (Nat.ble 6 a && Nat.blt a S.2) = true) (hk : fs[j]? = some (.long w)) : zg_l S a ci j = some w := by
  unfold zg_l
  rw [e_g h h2 hk]
theorem e_gr {w : Nat} (h : S.1 a = .inl (ci, fs)) (h2 : (Nat.ble 6 a && Nat.blt a S.2) = true) (hk : fs[j]? = some (.ref w)) : zg_r S a ci j = some w := by
  unfold zg_r
  rw [e_g h h2 hk]
theorem e_i (h : S.1 a = .inl (ci, fs)) (h2 : (Nat.ble 6 a && Nat.blt a S.2) = true) : zi S a ci = some () := by
  unfold zi
  rw [if_pos (e_in h2), h]
  exact if_pos rfl
theorem e_p (h : S.1 a = .inl (ci, fs)) (h2 : (Nat.ble 6 a && Nat.blt a S.2) = true) (hk : Nat.blt j fs.length = true) : zp S a ci j val = some (zm_up S.1 a (.inl (ci, fs.set j val)), S.2) := by
  unfold zp
  rw [if_pos (e_in h2), h]
  exact if_pos ⟨rfl, Nat.le_of_ble_eq_true hk⟩
theorem e_pz {x : Int32} (hx : x = 0 ∨ x = 1) (h : S.1 a = .inl (ci, fs)) (h2 : (Nat.ble 6 a && Nat.blt a S.2) = true) (hk : Nat.blt j fs.length = true) : zp_z S a ci j x = some (zm_up S.1 a (.inl (ci, fs.set j (.int x))), S.2) := by
  unfold zp_z
  rw [if_pos hx]
  exact e_p h h2 hk
theorem e_n {m : zm_Z} {w : Int32} (h : S.1 a = .inr (t2, n, m)) (h2 : Nat.blt a S.2 = true) (h3 : Nat.blt t2 6 = true) (hw : Int32.ofNat n = w) : za_n S a = some w := by
  unfold za_n
  rw [if_pos (show a < S.2 from Nat.le_of_ble_eq_true h2), h]
  subst hw
  exact if_pos (Nat.le_of_ble_eq_true h3)
theorem e_or {i : Int32} {q : Nat} (h0 : decide (i < 0) = false) (hq : i.toNatClampNeg = q) (h1 : Nat.ble n q = false) : ¬ (i < 0 ∨ n ≤ i.toNatClampNeg) := by
  rintro (h | h)
  · exact absurd h (of_decide_eq_false h0)
  · rw [hq] at h
    rw [Nat.ble_eq_true_of_le h] at h1
    cases h1
theorem e_xi {i w : Int32} {q : Nat} {g : Nat → Int32} (h : S.1 a = .inr (t2, n, .inl g)) (h2 : Nat.blt a S.2 = true) (h0 : decide (i < 0) = false) (hq : i.toNatClampNeg = q) (h1 : Nat.ble n q = false) (hw : g q = w) : za_x S t2 a i = some w := by
  unfold za_x
  rw [if_pos (show a < S.2 from Nat.le_of_ble_eq_true h2), h]
  show (if t2 = t2 then (if i < 0 ∨ n ≤ i.toNatClampNeg then none else some (g i.toNatClampNeg)) else none) = _
  rw [if_pos rfl, if_neg (e_or h0 hq h1), hq, hw]
theorem e_xl {i : Int32} {w : Int64} {q : Nat} {g : Nat → Int64} (h : S.1 a = .inr (1, n, .inr (.inl g))) (h2 : Nat.blt a S.2 = true) (h0 : decide (i < 0) = false) (hq : i.toNatClampNeg = q) (h1 : Nat.ble n q = false) (hw : g q = w) : za_l S a i = some w := by
  unfold za_l
  rw [if_pos (show a < S.2 from Nat.le_of_ble_eq_true h2), h]
  show (if 1 = 1 then (if i < 0 ∨ n ≤ i.toNatClampNeg then none else some (g i.toNatClampNeg)) else none) = _
  rw [if_pos rfl, if_neg (e_or h0 hq h1), hq, hw]
theorem e_xr {i : Int32} {w : Nat} {q : Nat} {g : Nat → Option Nat} (h : S.1 a = .inr (t2, n, .inr (.inr g))) (ht : (Nat.beq t2 4 || Nat.beq t2 5) = true) (h2 : Nat.blt a S.2 = true) (h0 : decide (i < 0) = false) (hq : i.toNatClampNeg = q) (h1 : Nat.ble n q = false) (hw : g q = some w) : za_r S a i = some w := by
  unfold za_r
  rw [if_pos (show a < S.2 from Nat.le_of_ble_eq_true h2), h]
  show (if t2 = 4 ∨ t2 = 5 then (if i < 0 ∨ n ≤ i.toNatClampNeg then none else g i.toNatClampNeg) else none) = _
  rw [if_pos (by
    rw [Bool.or_eq_true] at ht
    exact ht.imp Nat.eq_of_beq_eq_true Nat.eq_of_beq_eq_true), if_neg (e_or h0 hq h1), hq, hw]
theorem e_si {i x : Int32} {q : Nat} {g : Nat → Int32} (h : S.1 a = .inr (0, n, .inl g)) (h2 : (Nat.ble 6 a && Nat.blt a S.2) = true) (h0 : decide (i < 0) = false) (hq : i.toNatClampNeg = q) (h1 : Nat.ble n q = false) : zs_i S a i x = some (zm_up S.1 a (.inr (0, n, .inl (upd g q x))), S.2) := by
  unfold zs_i
  rw [if_pos (e_in h2), h]
  show (if 0 = 0 then (if i < 0 ∨ n ≤ i.toNatClampNeg then none else some (zm_up S.1 a (.inr (0, n, .inl (upd g i.toNatClampNeg x))), S.2)) else none) = _
  rw [if_pos rfl, if_neg (e_or h0 hq h1), hq]
theorem e_sz {i x : Int32} {q : Nat} {g : Nat → Int32} (hx : x = 0 ∨ x = 1) (h : S.1 a = .inr (2, n, .inl g)) (h2 : (Nat.ble 6 a && Nat.blt a S.2) = true) (h0 : decide (i < 0) = false) (hq : i.toNatClampNeg = q) (h1 : Nat.ble n q = false) : zs_z S a i x = some (zm_up S.1 a (.inr (2, n, .inl (upd g q x))), S.2) := by
  unfold zs_z
  rw [if_pos (e_in h2), h]
  show (if 2 = 2 ∧ (x = 0 ∨ x = 1) then (if i < 0 ∨ n ≤ i.toNatClampNeg then none else some (zm_up S.1 a (.inr (2, n, .inl (upd g i.toNatClampNeg x))), S.2)) else none) = _
  rw [if_pos ⟨rfl, hx⟩, if_neg (e_or h0 hq h1), hq]
theorem e_sc {i x : Int32} {q : Nat} {g : Nat → Int32} (h : S.1 a = .inr (3, n, .inl g)) (h2 : (Nat.ble 6 a && Nat.blt a S.2) = true) (h0 : decide (i < 0) = false) (hq : i.toNatClampNeg = q) (h1 : Nat.ble n q = false) : zs_c S a i x = some (zm_up S.1 a (.inr (3, n, .inl (upd g q (vp_nar .char x)))), S.2) := by
  unfold zs_c
  rw [if_pos (e_in h2), h]
  show (if 3 = 3 then (if i < 0 ∨ n ≤ i.toNatClampNeg then none else some (zm_up S.1 a (.inr (3, n, .inl (upd g i.toNatClampNeg (vp_nar .char x)))), S.2)) else none) = _
  rw [if_pos rfl, if_neg (e_or h0 hq h1), hq]
theorem e_sl {i : Int32} {x : Int64} {q : Nat} {g : Nat → Int64} (h : S.1 a = .inr (1, n, .inr (.inl g))) (h2 : (Nat.ble 6 a && Nat.blt a S.2) = true) (h0 : decide (i < 0) = false) (hq : i.toNatClampNeg = q) (h1 : Nat.ble n q = false) : zs_l S a i x = some (zm_up S.1 a (.inr (1, n, .inr (.inl (vp_updL g q x)))), S.2) := by
  unfold zs_l
  rw [if_pos (e_in h2), h]
  show (if 1 = 1 then (if i < 0 ∨ n ≤ i.toNatClampNeg then none else some (zm_up S.1 a (.inr (1, n, .inr (.inl (vp_updL g i.toNatClampNeg x)))), S.2)) else none) = _
  rw [if_pos rfl, if_neg (e_or h0 hq h1), hq]
theorem cell_op {c : zm_C} (h1 : Nat.beq a S.2 = false) (h : S.1 a = c) : (zm_op S).1 a = c := (zm_up_n (Nat.ne_of_beq_eq_false h1)).trans h
theorem cell_n {c d : zm_C} {H : Nat → zm_C} {m b : Nat} (h1 : Nat.beq a b = false) (h : H a = c) : ((zm_up H b d, m) : zm_S).1 a = c := (zm_up_n (Nat.ne_of_beq_eq_false h1)).trans h
theorem cell_s {d : zm_C} {H : Nat → zm_C} {m : Nat} : ((zm_up H a d, m) : zm_S).1 a = d := zm_up_s
theorem cell_u {c d : zm_C} {b : Nat} (h1 : Nat.beq a b = false) (h : S.1 a = c) : (sU S b d).1 a = c := (sU_n (Nat.ne_of_beq_eq_false h1)).trans h
theorem cell_f {c d : zm_C} {H : Nat → zm_C} {b : Nat} (h1 : Nat.beq a b = false) (h : H a = c) : zm_up H b d a = c := (zm_up_n (Nat.ne_of_beq_eq_false h1)).trans h
theorem cell_fs {d : zm_C} {H : Nat → zm_C} : zm_up H a d a = d := zm_up_s
theorem cell_us {d : zm_C} : (sU S a d).1 a = d := sU_s
theorem hx_gi {w : Int32} (h : S.1 a = .inl (ci, fs)) (h2 : (Nat.ble 6 a && Nat.blt a S.2) = true) (hk : fs[j]? = some (.int w)) {ff : Int32 → Option ((Int32 × zm_S) ⊕ (Unit × zm_S))} (kk : fQ k xs (ff w)) : fQ k xs ((zg_i S a ci j).bind ff) := hb_of (e_gi h h2 hk) kk
theorem hx_gl {w : Int64} (h : S.1 a = .inl (ci, fs)) (h2 : (Nat.ble 6 a && Nat.blt a S.2) = true) (hk : fs[j]? = some (.long w)) {ff : Int64 → Option ((Int32 × zm_S) ⊕ (Unit × zm_S))} (kk : fQ k xs (ff w)) : fQ k xs ((zg_l S a ci j).bind ff) := hb_of (e_gl h h2 hk) kk
theorem hx_gr {w : Nat} (h : S.1 a = .inl (ci, fs)) (h2 : (Nat.ble 6 a && Nat.blt a S.2) = true) (hk : fs[j]? = some (.ref w)) {ff : Nat → Option ((Int32 × zm_S) ⊕ (Unit × zm_S))} (kk : fQ k xs (ff w)) : fQ k xs ((zg_r S a ci j).bind ff) := hb_of (e_gr h h2 hk) kk
theorem hx_i (h : S.1 a = .inl (ci, fs)) (h2 : (Nat.ble 6 a && Nat.blt a S.2) = true) {ff : Unit → Option ((Int32 × zm_S) ⊕ (Unit × zm_S))} (kk : fQ k xs (ff ())) : fQ k xs ((zi S a ci).bind ff) := hb_of (e_i h h2) kk
theorem hx_p (h : S.1 a = .inl (ci, fs)) (h2 : (Nat.ble 6 a && Nat.blt a S.2) = true) (hk : Nat.blt j fs.length = true) {ff : zm_S → Option ((Int32 × zm_S) ⊕ (Unit × zm_S))} (kk : fQ k xs (ff (zm_up S.1 a (.inl (ci, fs.set j val)), S.2))) : fQ k xs ((zp S a ci j val).bind ff) := hb_of (e_p h h2 hk) kk
theorem hx_pz {x : Int32} (hx : x = 0 ∨ x = 1) (h : S.1 a = .inl (ci, fs)) (h2 : (Nat.ble 6 a && Nat.blt a S.2) = true) (hk : Nat.blt j fs.length = true) {ff : zm_S → Option ((Int32 × zm_S) ⊕ (Unit × zm_S))} (kk : fQ k xs (ff (zm_up S.1 a (.inl (ci, fs.set j (.int x))), S.2))) : fQ k xs ((zp_z S a ci j x).bind ff) := hb_of (e_pz hx h h2 hk) kk
theorem hx_n {m : zm_Z} {w : Int32} (h : S.1 a = .inr (t2, n, m)) (h2 : Nat.blt a S.2 = true) (h3 : Nat.blt t2 6 = true) (hw : Int32.ofNat n = w) {ff : Int32 → Option ((Int32 × zm_S) ⊕ (Unit × zm_S))} (kk : fQ k xs (ff w)) : fQ k xs ((za_n S a).bind ff) := hb_of (e_n h h2 h3 hw) kk
theorem hx_xi {i w : Int32} {q : Nat} {g9 : Nat → Int32} (h : S.1 a = .inr (t2, n, .inl g9)) (h2 : Nat.blt a S.2 = true) (h0 : decide (i < 0) = false) (hq : i.toNatClampNeg = q) (h1 : Nat.ble n q = false) (hw : g9 q = w) {ff : Int32 → Option ((Int32 × zm_S) ⊕ (Unit × zm_S))} (kk : fQ k xs (ff w)) : fQ k xs ((za_x S t2 a i).bind ff) := hb_of (e_xi h h2 h0 hq h1 hw) kk
theorem hx_xl {i : Int32} {w : Int64} {q : Nat} {g9 : Nat → Int64} (h : S.1 a = .inr (1, n, .inr (.inl g9))) (h2 : Nat.blt a S.2 = true) (h0 : decide (i < 0) = false) (hq : i.toNatClampNeg = q) (h1 : Nat.ble n q = false) (hw : g9 q = w) {ff : Int64 → Option ((Int32 × zm_S) ⊕ (Unit × zm_S))} (kk : fQ k xs (ff w)) : fQ k xs ((za_l S a i).bind ff) := hb_of (e_xl h h2 h0 hq h1 hw) kk
theorem hx_xr {i : Int32} {w : Nat} {q : Nat} {g9 : Nat → Option Nat} (h : S.1 a = .inr (t2, n, .inr (.inr g9))) (ht : (Nat.beq t2 4 || Nat.beq t2 5) = true) (h2 : Nat.blt a S.2 = true) (h0 : decide (i < 0) = false) (hq : i.toNatClampNeg = q) (h1 : Nat.ble n q = false) (hw : g9 q = some w) {ff : Nat → Option ((Int32 × zm_S) ⊕ (Unit × zm_S))} (kk : fQ k xs (ff w)) : fQ k xs ((za_r S a i).bind ff) := hb_of (e_xr h ht h2 h0 hq h1 hw) kk
theorem hx_si {i x : Int32} {q : Nat} {g9 : Nat → Int32} (h : S.1 a = .inr (0, n, .inl g9)) (h2 : (Nat.ble 6 a && Nat.blt a S.2) = true) (h0 : decide (i < 0) = false) (hq : i.toNatClampNeg = q) (h1 : Nat.ble n q = false) {ff : zm_S → Option ((Int32 × zm_S) ⊕ (Unit × zm_S))} (kk : fQ k xs (ff (zm_up S.1 a (.inr (0, n, .inl (upd g9 q x))), S.2))) : fQ k xs ((zs_i S a i x).bind ff) := hb_of (e_si h h2 h0 hq h1) kk
theorem hx_sz {i x : Int32} {q : Nat} {g9 : Nat → Int32} (hx : x = 0 ∨ x = 1) (h : S.1 a = .inr (2, n, .inl g9)) (h2 : (Nat.ble 6 a && Nat.blt a S.2) = true) (h0 : decide (i < 0) = false) (hq : i.toNatClampNeg = q) (h1 : Nat.ble n q = false) {ff : zm_S → Option ((Int32 × zm_S) ⊕ (Unit × zm_S))} (kk : fQ k xs (ff (zm_up S.1 a (.inr (2, n, .inl (upd g9 q x))), S.2))) : fQ k xs ((zs_z S a i x).bind ff) := hb_of (e_sz hx h h2 h0 hq h1) kk
theorem hx_sc {i x : Int32} {q : Nat} {g9 : Nat → Int32} (h : S.1 a = .inr (3, n, .inl g9)) (h2 : (Nat.ble 6 a && Nat.blt a S.2) = true) (h0 : decide (i < 0) = false) (hq : i.toNatClampNeg = q) (h1 : Nat.ble n q = false) {ff : zm_S → Option ((Int32 × zm_S) ⊕ (Unit × zm_S))} (kk : fQ k xs (ff (zm_up S.1 a (.inr (3, n, .inl (upd g9 q (vp_nar .char x)))), S.2))) : fQ k xs ((zs_c S a i x).bind ff) := hb_of (e_sc h h2 h0 hq h1) kk
theorem hx_sl {i : Int32} {x : Int64} {q : Nat} {g9 : Nat → Int64} (h : S.1 a = .inr (1, n, .inr (.inl g9))) (h2 : (Nat.ble 6 a && Nat.blt a S.2) = true) (h0 : decide (i < 0) = false) (hq : i.toNatClampNeg = q) (h1 : Nat.ble n q = false) {ff : zm_S → Option ((Int32 × zm_S) ⊕ (Unit × zm_S))} (kk : fQ k xs (ff (zm_up S.1 a (.inr (1, n, .inr (.inl (vp_updL g9 q x)))), S.2))) : fQ k xs ((zs_l S a i x).bind ff) := hb_of (e_sl h h2 h0 hq h1) kk
end HB
