/-! ===== reading and writing a memory by its plain state; rows for walking both sides at once ===== -/
section SHR
variable {L : Nat} {xs : Nat → Int32} {P : Nat → Nat} {S : zm_S} {a b b0 d n w t k ci : Nat} {i j x : Int} {c : zm_C} {ks : List (Nat ⊕ Nat)}
theorem sh_c (h : Sh L xs P S) (h6 : 6 ≤ a) (ha : a < 2333) : sc (S.1 a) = TS P a := h.2.2.2.1 a h6 ha
theorem sh_P (h : Sh L xs P S) (hd : qD a = false) : P a = a := h.2.2.2.2.1 a hd
theorem kd_i {v : Value} (h : kd v = .inl 0) : ∃ x, v = .int x := by
  cases v <;> first | exact ⟨_, rfl⟩ | (simp [kd] at h)
theorem kd_l {v : Value} (h : kd v = .inl 1) : ∃ x, v = .long x := by
  cases v <;> first | exact ⟨_, rfl⟩ | (simp [kd] at h)
theorem kd_r {v : Value} (h : kd v = .inr b) : v = .ref b := by
  cases v <;> first | (simp [kd] at h; done) | (simp only [kd, Sum.inr.injEq] at h; rw [h])
theorem sc_o (h : sc c = .inl (ci, ks)) : ∃ fs, c = .inl (ci, fs) ∧ fs.map kd = ks := by
  cases c with
  | inl p =>
    obtain ⟨c1, fs⟩ := p
    simp only [sc, Sum.inl.injEq, Prod.mk.injEq] at h
    obtain ⟨rfl, h2⟩ := h
    exact ⟨fs, rfl, h2⟩
  | inr p => simp [sc] at h
theorem sc_i (h : sc c = .inr (t, n, .inl 0)) : ∃ f, c = .inr (t, n, .inl f) := by
  cases c with
  | inl p => simp [sc] at h
  | inr p =>
    obtain ⟨t1, n1, z⟩ := p
    rcases z with f | f | f
    · simp only [sc, Sum.inr.injEq, Prod.mk.injEq] at h
      obtain ⟨rfl, rfl, -⟩ := h
      exact ⟨f, rfl⟩
    · simp [sc] at h
    · simp [sc] at h
theorem sc_l (h : sc c = .inr (t, n, .inl 1)) : ∃ f, c = .inr (t, n, .inr (.inl f)) := by
  cases c with
  | inl p => simp [sc] at h
  | inr p =>
    obtain ⟨t1, n1, z⟩ := p
    rcases z with f | f | f
    · simp [sc] at h
    · simp only [sc, Sum.inr.injEq, Prod.mk.injEq] at h
      obtain ⟨rfl, rfl, -⟩ := h
      exact ⟨f, rfl⟩
    · simp [sc] at h
theorem sc_r {g : Nat → Option Nat} (h : sc c = .inr (t, n, .inr g)) : c = .inr (t, n, .inr (.inr g)) := by
  cases c with
  | inl p => simp [sc] at h
  | inr p =>
    obtain ⟨t1, n1, z⟩ := p
    rcases z with f | f | f
    · simp [sc] at h
    · simp [sc] at h
    · simp only [sc, Sum.inr.injEq, Prod.mk.injEq] at h
      obtain ⟨rfl, rfl, rfl⟩ := h
      rfl
/-- a cell is changed into one of the same shape -/
theorem sh_up (h : Sh L xs P S) (h6 : 6 ≤ a) (hc : sc c = sc (S.1 a)) : Sh L xs P (zm_up S.1 a c, S.2) := by
  obtain ⟨q1, q2, q3, q4, q5, q6, q7⟩ := h
  have e : ∀ b, sc (zm_up S.1 a c b) = sc (S.1 b) := by
    intro b
    by_cases e : b = a
    · subst e
      rw [zm_up_s]
      exact hc
    · rw [zm_up_n e]
  refine ⟨q1, ?_, ?_, ?_, q5, ?_, q7⟩
  · show zm_up S.1 a c 0 = _
    rw [zm_up_n (by omega)]
    exact q2
  · intro b h1 h2
    show zm_up S.1 a c b = _
    rw [zm_up_n (by omega)]
    exact q3 b h1 h2
  · intro b h1 h2
    exact (e b).trans (q4 b h1 h2)
  · intro d hd
    obtain ⟨r1, r2, r3, r4⟩ := q6 d hd
    refine ⟨r1, r2, r3, ?_⟩
    show (if d = 825 ∨ d = 826 then ∃ n, sc (zm_up S.1 a c (P d)) = .inr (0, n, .inl 0) else if d = 827 then ∃ n, sc (zm_up S.1 a c (P d)) = .inr (1, n, .inl 1) else sc (zm_up S.1 a c (P d)) = sc (QF0 d))
    simp only [e]
    exact r4
def pl (a : Nat) : Bool := Nat.ble 6 a && (Nat.blt a 2333 && (!(qD a) && (Nat.beq (qown a) 0 && (qt a).isNone)))
theorem pl_of (h : pl a = true) : 6 ≤ a ∧ a < 2333 ∧ qD a = false ∧ qown a = 0 ∧ qt a = none := by
  unfold pl at h
  simp only [Bool.and_eq_true] at h
  obtain ⟨h1, h2, h3, h4, h5⟩ := h
  refine ⟨Nat.le_of_ble_eq_true h1, Nat.le_of_ble_eq_true h2, by simpa using h3, Nat.eq_of_beq_eq_true h4, by simpa using h5⟩
theorem pl_ne (h : Sh L xs P S) (hp : pl a = true) (e : b ≠ a) : P b ≠ a := by
  obtain ⟨-, p2, p3, -, -⟩ := pl_of hp
  intro q
  cases hD : qD b with
  | false =>
    rw [sh_P h hD] at q
    exact e q
  | true =>
    rcases (h.2.2.2.2.2.1 b hD).2.2.1 with r | r
    · rw [q, p3] at r
      cases r
    · omega
theorem qM_pl (h : Sh L xs P S) (hp : pl a = true) : qM P (zm_up S.1 a c, S.2) = fun b i j => if b = a ∧ j = 0 then rdv c i else if b = a then 0 else qM P S b i j := by
  obtain ⟨p1, p2, p3, p4, p5⟩ := pl_of hp
  funext b i j
  have hP : P a = a := sh_P h p3
  by_cases e : b = a
  · subst e
    unfold qM
    rw [p5]
    by_cases e2 : j = 0
    · rw [if_pos (show b = b ∧ j = 0 from ⟨rfl, e2⟩)]
      show (if qown b = 0 ∧ b < 2333 ∧ j = 0 then rdv (zm_up S.1 b c (P b)) i else 0) = _
      rw [if_pos ⟨p4, p2, e2⟩, hP, zm_up_s]
    · rw [if_neg (show ¬(b = b ∧ j = 0) from fun q => e2 q.2), if_pos (show b = b from rfl)]
      exact if_neg (fun q : qown b = 0 ∧ b < 2333 ∧ j = 0 => e2 q.2.2)
  · rw [if_neg (fun q => e q.1), if_neg e]
    unfold qM
    cases hb : qt b with
    | some p =>
      obtain ⟨x0, n, w⟩ := p
      show (if 0 ≤ i ∧ i < n then rdv (zm_up S.1 a c (x0 + i.toNat)) j else 0) = (if 0 ≤ i ∧ i < n then rdv (S.1 (x0 + i.toNat)) j else 0)
      by_cases hi : 0 ≤ i ∧ i < n
      · rw [if_pos hi, if_pos hi, zm_up_n]
        intro q
        have q2 := qown_of hb (show i.toNat < n by omega)
        rw [q, p4] at q2
        exact q2.2 q2.1.symm
      · rw [if_neg hi, if_neg hi]
    | none =>
      show (if qown b = 0 ∧ b < 2333 ∧ j = 0 then rdv (zm_up S.1 a c (P b)) i else 0) = (if qown b = 0 ∧ b < 2333 ∧ j = 0 then rdv (S.1 (P b)) i else 0)
      by_cases hb2 : qown b = 0 ∧ b < 2333 ∧ j = 0
      · rw [if_pos hb2, if_pos hb2, zm_up_n (pl_ne h hp e)]
      · rw [if_neg hb2, if_neg hb2]
theorem qM_rw (h : Sh L xs P S) (ht : qt b = some (b0, n, w)) (hk : k < n) : qM P (zm_up S.1 (b0 + k) c, S.2) = fun x i j => if x = b ∧ i = (k : Int) then rdv c j else qM P S x i j := by
  have ho := qown_of ht hk
  have hl := qown_lt (a := b0 + k) (by rw [ho.1]; exact ho.2)
  funext x i j
  unfold qM
  cases hx : qt x with
  | some p =>
    obtain ⟨x0, m, w2⟩ := p
    show (if 0 ≤ i ∧ i < m then rdv (zm_up S.1 (b0 + k) c (x0 + i.toNat)) j else 0) = (if x = b ∧ i = (k : Int) then rdv c j else (if 0 ≤ i ∧ i < m then rdv (S.1 (x0 + i.toNat)) j else 0))
    by_cases e : x = b ∧ i = (k : Int)
    · rw [if_pos e]
      obtain ⟨e1, e2⟩ := e
      rw [e1, ht] at hx
      simp only [Option.some.injEq, Prod.mk.injEq] at hx
      obtain ⟨r1, r2, -⟩ := hx
      subst r1
      subst r2
      subst e2
      rw [if_pos ⟨by omega, by omega⟩, Int.toNat_natCast, zm_up_s]
    · rw [if_neg e]
      by_cases hi : 0 ≤ i ∧ i < m
      · rw [if_pos hi, if_pos hi, zm_up_n]
        intro q
        have q2 := qown_of hx (show i.toNat < m by omega)
        rw [q, ho.1] at q2
        have q3 : b = x := q2.1
        rw [← q3, ht] at hx
        simp only [Option.some.injEq, Prod.mk.injEq] at hx
        obtain ⟨r1, r2, -⟩ := hx
        exact e ⟨q3.symm, by omega⟩
      · rw [if_neg hi, if_neg hi]
  | none =>
    have e : ¬ (x = b ∧ i = (k : Int)) := by
      rintro ⟨e1, -⟩
      rw [e1, ht] at hx
      cases hx
    rw [if_neg e]
    show (if qown x = 0 ∧ x < 2333 ∧ j = 0 then rdv (zm_up S.1 (b0 + k) c (P x)) i else 0) = (if qown x = 0 ∧ x < 2333 ∧ j = 0 then rdv (S.1 (P x)) i else 0)
    by_cases hb2 : qown x = 0 ∧ x < 2333 ∧ j = 0
    · rw [if_pos hb2, if_pos hb2, zm_up_n]
      intro q
      cases hD : qD x with
      | false =>
        rw [sh_P h hD] at q
        rw [q, ho.1] at hb2
        exact ho.2 hb2.1
      | true =>
        rcases (h.2.2.2.2.2.1 x hD).2.2.1 with r | r
        · have r2 := (qD_own r).1
          rw [q, ho.1] at r2
          exact ho.2 r2
        · omega
    · rw [if_neg hb2, if_neg hb2]
theorem qM_dy (h : Sh L xs P S) (hd : qD d = true) : qM P (zm_up S.1 (P d) c, S.2) = fun b i j => if b = d ∧ j = 0 then rdv c i else if b = d then 0 else qM P S b i j := by
  obtain ⟨p4, p5, p1, p2⟩ := qD_own hd
  funext b i j
  by_cases e : b = d
  · subst e
    unfold qM
    rw [p5]
    by_cases e2 : j = 0
    · rw [if_pos (show b = b ∧ j = 0 from ⟨rfl, e2⟩)]
      show (if qown b = 0 ∧ b < 2333 ∧ j = 0 then rdv (zm_up S.1 (P b) c (P b)) i else 0) = _
      rw [if_pos ⟨p4, p2, e2⟩, zm_up_s]
    · rw [if_neg (show ¬(b = b ∧ j = 0) from fun q => e2 q.2), if_pos (show b = b from rfl)]
      exact if_neg (fun q : qown b = 0 ∧ b < 2333 ∧ j = 0 => e2 q.2.2)
  · rw [if_neg (fun q => e q.1), if_neg e]
    have hq := (h.2.2.2.2.2.1 d hd).2.2.1
    unfold qM
    cases hb : qt b with
    | some p =>
      obtain ⟨x0, n, w⟩ := p
      show (if 0 ≤ i ∧ i < n then rdv (zm_up S.1 (P d) c (x0 + i.toNat)) j else 0) = (if 0 ≤ i ∧ i < n then rdv (S.1 (x0 + i.toNat)) j else 0)
      by_cases hi : 0 ≤ i ∧ i < n
      · rw [if_pos hi, if_pos hi, zm_up_n]
        intro q
        have q2 := qown_of hb (show i.toNat < n by omega)
        rcases hq with r | r
        · have r2 := (qD_own r).1
          rw [← q, q2.1] at r2
          exact q2.2 r2
        · have r3 := qown_lt (a := x0 + i.toNat) (by rw [q2.1]; exact q2.2)
          omega
      · rw [if_neg hi, if_neg hi]
    | none =>
      show (if qown b = 0 ∧ b < 2333 ∧ j = 0 then rdv (zm_up S.1 (P d) c (P b)) i else 0) = (if qown b = 0 ∧ b < 2333 ∧ j = 0 then rdv (S.1 (P b)) i else 0)
      by_cases hb2 : qown b = 0 ∧ b < 2333 ∧ j = 0
      · rw [if_pos hb2, if_pos hb2, zm_up_n]
        intro q
        cases hD : qD b with
        | false =>
          rw [sh_P h hD] at q
          rcases hq with r | r
          · rw [← q, hD] at r
            cases r
          · omega
        | true => exact e (h.2.2.2.2.2.2 b d hD hd q)
      · rw [if_neg hb2, if_neg hb2]
def vv (v : Value) : Int := match v with
  | .int y => y.toInt
  | .long y => y.toInt
  | _ => 0
theorem rdv_o {fs : List Value} : rdv (.inl (ci, fs)) i = if 0 ≤ i then (match fs[i.toNat]? with
    | some v => vv v
    | none => 0) else 0 := by
  have m : ∀ o : Option Value, (match o with
    | some (.int v) => v.toInt
    | some (.long v) => v.toInt
    | _ => 0) = (match o with
    | some v => vv v
    | none => 0) := by
    intro o
    cases o with
    | none => rfl
    | some v => cases v <;> rfl
  by_cases h : 0 ≤ i
  · exact (if_pos h).trans ((m _).trans (if_pos h).symm)
  · exact (if_neg h).trans (if_neg h).symm
theorem rdv_set {fs : List Value} {v : Value} (hk : k < fs.length) : rdv (.inl (ci, fs.set k v)) i = if i = (k : Int) then vv v else rdv (.inl (ci, fs)) i := by
  rw [rdv_o, rdv_o]
  by_cases e : i = (k : Int)
  · rw [if_pos e, e, if_pos (by omega), Int.toNat_natCast, List.getElem?_set_self hk]
  · rw [if_neg e]
    by_cases h : 0 ≤ i
    · rw [if_pos h, if_pos h, List.getElem?_set_ne (by omega)]
    · rw [if_neg h, if_neg h]
theorem rdv_upd {f : Nat → Int32} {q : Nat} {y : Int32} (hq : q < n) : rdv (.inr (t, n, .inl (upd f q y))) i = if i = (q : Int) then y.toInt else rdv (.inr (t, n, .inl f)) i := by
  show (if 0 ≤ i ∧ i < n then (upd f q y i.toNat).toInt else if i = -1 then (n : Int) else 0) = if i = (q : Int) then y.toInt else (if 0 ≤ i ∧ i < n then (f i.toNat).toInt else if i = -1 then (n : Int) else 0)
  unfold upd
  by_cases e : i = (q : Int)
  · rw [if_pos e, if_pos ⟨by omega, by omega⟩, if_pos (by omega)]
  · rw [if_neg e]
    by_cases hi : 0 ≤ i ∧ i < n
    · rw [if_pos hi, if_pos hi, if_neg (by omega)]
    · rw [if_neg hi, if_neg hi]
theorem rdv_updL {f : Nat → Int64} {q : Nat} {y : Int64} (hq : q < n) : rdv (.inr (t, n, .inr (.inl (vp_updL f q y)))) i = if i = (q : Int) then y.toInt else rdv (.inr (t, n, .inr (.inl f))) i := by
  show (if 0 ≤ i ∧ i < n then (vp_updL f q y i.toNat).toInt else if i = -1 then (n : Int) else 0) = if i = (q : Int) then y.toInt else (if 0 ≤ i ∧ i < n then (f i.toNat).toInt else if i = -1 then (n : Int) else 0)
  unfold vp_updL
  by_cases e : i = (q : Int)
  · rw [if_pos e, if_pos ⟨by omega, by omega⟩, if_pos (by omega)]
  · rw [if_neg e]
    by_cases hi : 0 ≤ i ∧ i < n
    · rw [if_pos hi, if_pos hi, if_neg (by omega)]
    · rw [if_neg hi, if_neg hi]
theorem rdv_i {f : Nat → Int32} (h : 0 ≤ i ∧ i < n) : rdv (.inr (t, n, .inl f)) i = (f i.toNat).toInt := if_pos h
theorem rdv_l {f : Nat → Int64} (h : 0 ≤ i ∧ i < n) : rdv (.inr (t, n, .inr (.inl f))) i = (f i.toNat).toInt := if_pos h
/-- an index of the machine and its number -/
theorem ix_of {q : Int32} (hq : q.toInt = i) (h : 0 ≤ i ∧ i < n) : ¬ (q < 0 ∨ n ≤ q.toNatClampNeg) ∧ q.toNatClampNeg = i.toNat ∧ i.toNat < n := by
  have e : q.toNatClampNeg = i.toNat := by
    rw [← hq]
    rfl
  refine ⟨?_, e, by omega⟩
  rintro (r | r)
  · rw [Int32.lt_iff_toInt_lt, hq] at r
    have z : (0 : Int32).toInt = 0 := by decide
    omega
  · omega
theorem qM_p0 (h : Sh L xs P S) (hp : pl a = true) : qM P S a i 0 = rdv (S.1 a) i := by
  obtain ⟨p1, p2, p3, p4, p5⟩ := pl_of hp
  unfold qM
  rw [p5]
  show (if qown a = 0 ∧ a < 2333 ∧ (0 : Int) = 0 then rdv (S.1 (P a)) i else 0) = _
  rw [if_pos ⟨p4, p2, rfl⟩, sh_P h p3]
theorem qM_d0 (hd : qD d = true) : qM P S d i 0 = rdv (S.1 (P d)) i := by
  obtain ⟨p4, p5, p1, p2⟩ := qD_own hd
  unfold qM
  rw [p5]
  exact if_pos ⟨p4, p2, rfl⟩
theorem qM_r0 (ht : qt b = some (b0, n, w)) (h : 0 ≤ i ∧ i < n) : qM P S b i j = rdv (S.1 (b0 + i.toNat)) j := by
  unfold qM
  rw [ht]
  exact if_pos h
end SHR
