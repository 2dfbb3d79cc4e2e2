/-! ===== rows for walking a function over memories and its plain one at once ===== -/
def vi (a : Int32) (b : Int) : Prop := a.toInt = b
def vl (a : Int64) (b : Int) : Prop := a.toInt = b
def vu (_ _ : Unit) : Prop := True
def ve (a b : String) : Prop := a = b
def vs {α β γ δ : Type} (R : α → γ → Prop) (R' : β → δ → Prop) (x : α ⊕ β) (y : γ ⊕ δ) : Prop := match x, y with
  | .inl a, .inl c => R a c
  | .inr b, .inr d => R' b d
  | _, _ => False
def vp {α β γ δ : Type} (R : α → γ → Prop) (R' : β → δ → Prop) (x : α × β) (y : γ × δ) : Prop := R x.1 y.1 ∧ R' x.2 y.2
def rr {α β : Type} (L : Nat) (xs : Nat → Int32) (P : Nat → Nat) (ρ : α → β → Prop) (x : α × zm_S) (y : β × qm) : Prop := ρ x.1 y.1 ∧ Sh L xs P x.2 ∧ qM P x.2 = y.2
def rp {α β : Type} (L : Nat) (xs : Nat → Int32) (P : Nat → Nat) (M : qm) (ρ : α → β → Prop) (x : α × zm_S) (y : β) : Prop := ρ x.1 y ∧ Sh L xs P x.2 ∧ qM P x.2 = M
def re {α β : Type} (L : Nat) (xs : Nat → Int32) (ρ : α → β → Prop) (x : α × zm_S) (y : β × qm) : Prop := ∃ P, rr L xs P ρ x y
def qs {X β : Type} (x : X) (y : Option β) (T : X → β → Prop) : Prop := ∀ b, y = some b → T x b
def tO {α β : Type} (R : α → β → Prop) (x : Option α) (b : β) : Prop := ∃ a, x = some a ∧ R a b
section WALK
variable {L : Nat} {xs : Nat → Int32} {P : Nat → Nat} {S : zm_S} {M : qm} {a b b0 d n w t k ci : Nat} {i j x : Int} {ks : List (Nat ⊕ Nat)}
variable {α β γ δ X : Type}
theorem qs_none {z : X} {T : X → β → Prop} : qs z none T := by
  intro b h
  cases h
theorem qs_ret {R : α → β → Prop} {p : α} {q : β} (h : R p q) : qs (some p) (some q) (tO R) := by
  intro c hc
  cases hc
  exact ⟨p, rfl, h⟩
theorem qs_ite {T : X → β → Prop} {c c' : Prop} {e : Decidable c} {e' : Decidable c'} {z z' : X} {y y' : Option β} (hc : c ↔ c') (h1 : qs z y T) (h2 : qs z' y' T) : qs (@ite _ c e z z') (@ite _ c' e' y y') T := by
  by_cases q : c
  · rw [if_pos q, if_pos (hc.mp q)]
    exact h1
  · rw [if_neg q, if_neg (fun r => q (hc.mpr r))]
    exact h2
theorem qs_gd {T : X → β → Prop} {c : Prop} {e : Decidable c} {z : X} {y : Option β} (h : c → qs z y T) : qs z (@ite _ c e y none) T := by
  by_cases q : c
  · rw [if_pos q]
    exact h q
  · rw [if_neg q]
    exact qs_none
theorem qs_eq {T : X → β → Prop} {z z' : X} {y : Option β} (e : z = z') (h : qs z' y T) : qs z y T := by
  rw [e]
  exact h
theorem qs_bind {R : α → γ → Prop} {T : Option β → δ → Prop} {z : Option α} {y : Option γ} {f : α → Option β} {g : γ → Option δ} (h : qs z y (tO R)) (h2 : ∀ p q, R p q → qs (f p) (g q) T) : qs (z.bind f) (y.bind g) T := by
  intro o ho
  cases y with
  | none => cases ho
  | some q =>
    obtain ⟨p, e, hR⟩ := h q rfl
    rw [e]
    exact h2 p q hR o ho
variable {T : Option β → δ → Prop} {y : Option δ}
/-- a field that holds an int, a long, a pointer -/
theorem qs_gi0 (hS : Sh L xs P S) (hM : qM P S = M) (hp : pl a = true) (hT : TS P a = .inl (ci, ks)) (hk : ks[k]? = some (.inl 0)) {f : Int32 → Option β} (h : ∀ v : Int32, v.toInt = M a (k : Int) 0 → qs (f v) y T) : qs ((zg_i S a ci k).bind f) y T := by
  obtain ⟨p1, p2, p3, p4, p5⟩ := pl_of hp
  obtain ⟨fs, e, hm⟩ := sc_o ((sh_c hS p1 p2).trans hT)
  rw [← hm, List.getElem?_map] at hk
  cases hv : fs[k]? with
  | none => rw [hv] at hk; cases hk
  | some v =>
    rw [hv] at hk
    obtain ⟨y1, rfl⟩ := kd_i (by simpa using hk)
    have e2 : zg_i S a ci k = some y1 := by
      unfold zg_i zg
      rw [if_pos ⟨p1, Nat.lt_of_lt_of_le p2 hS.1⟩, e]
      show (match (if ci = ci then fs[k]? else none) with | some (.int v) => some v | _ => none) = _
      rw [if_pos rfl, hv]
    rw [e2]
    refine h y1 ?_
    rw [← hM, qM_p0 hS hp, e, rdv_o, if_pos (by omega), Int.toNat_natCast, hv]
    rfl
theorem qs_gi (hS : Sh L xs P S) (hM : qM P S = M) (hp : pl a = true) (hT : TS P a = .inl (ci, ks)) (hk : ks[k]? = some (.inl 0)) {z : Int} (hz : (k : Int) = z) {f : Int32 → Option β} (h : ∀ v : Int32, v.toInt = M a z 0 → qs (f v) y T) : qs ((zg_i S a ci k).bind f) y T := by
  subst hz
  exact qs_gi0 hS hM hp hT hk h
theorem qs_gl0 (hS : Sh L xs P S) (hM : qM P S = M) (hp : pl a = true) (hT : TS P a = .inl (ci, ks)) (hk : ks[k]? = some (.inl 1)) {f : Int64 → Option β} (h : ∀ v : Int64, v.toInt = M a (k : Int) 0 → qs (f v) y T) : qs ((zg_l S a ci k).bind f) y T := by
  obtain ⟨p1, p2, p3, p4, p5⟩ := pl_of hp
  obtain ⟨fs, e, hm⟩ := sc_o ((sh_c hS p1 p2).trans hT)
  rw [← hm, List.getElem?_map] at hk
  cases hv : fs[k]? with
  | none => rw [hv] at hk; cases hk
  | some v =>
    rw [hv] at hk
    obtain ⟨y1, rfl⟩ := kd_l (by simpa using hk)
    have e2 : zg_l S a ci k = some y1 := by
      unfold zg_l zg
      rw [if_pos ⟨p1, Nat.lt_of_lt_of_le p2 hS.1⟩, e]
      show (match (if ci = ci then fs[k]? else none) with | some (.long v) => some v | _ => none) = _
      rw [if_pos rfl, hv]
    rw [e2]
    refine h y1 ?_
    rw [← hM, qM_p0 hS hp, e, rdv_o, if_pos (by omega), Int.toNat_natCast, hv]
    rfl
theorem qs_gl (hS : Sh L xs P S) (hM : qM P S = M) (hp : pl a = true) (hT : TS P a = .inl (ci, ks)) (hk : ks[k]? = some (.inl 1)) {z : Int} (hz : (k : Int) = z) {f : Int64 → Option β} (h : ∀ v : Int64, v.toInt = M a z 0 → qs (f v) y T) : qs ((zg_l S a ci k).bind f) y T := by
  subst hz
  exact qs_gl0 hS hM hp hT hk h
theorem qs_gr (hS : Sh L xs P S) (hp : pl a = true) (hT : TS P a = .inl (ci, ks)) (hk : ks[k]? = some (.inr b)) {f : Nat → Option β} (h : qs (f b) y T) : qs ((zg_r S a ci k).bind f) y T := by
  obtain ⟨p1, p2, p3, p4, p5⟩ := pl_of hp
  obtain ⟨fs, e, hm⟩ := sc_o ((sh_c hS p1 p2).trans hT)
  rw [← hm, List.getElem?_map] at hk
  cases hv : fs[k]? with
  | none => rw [hv] at hk; cases hk
  | some v =>
    rw [hv] at hk
    have hv2 := kd_r (v := v) (b := b) (by simpa using hk)
    subst hv2
    have e2 : zg_r S a ci k = some b := by
      unfold zg_r zg
      rw [if_pos ⟨p1, Nat.lt_of_lt_of_le p2 hS.1⟩, e]
      show (match (if ci = ci then fs[k]? else none) with | some (.ref v) => some v | _ => none) = _
      rw [if_pos rfl, hv]
    rw [e2]
    exact h
theorem qs_zi (hS : Sh L xs P S) (hp : pl a = true) (hT : TS P a = .inl (ci, ks)) {f : Unit → Option β} (h : qs (f ()) y T) : qs ((zi S a ci).bind f) y T := by
  obtain ⟨p1, p2, p3, p4, p5⟩ := pl_of hp
  obtain ⟨fs, e, hm⟩ := sc_o ((sh_c hS p1 p2).trans hT)
  have e2 : zi S a ci = some () := by
    unfold zi
    rw [if_pos ⟨p1, Nat.lt_of_lt_of_le p2 hS.1⟩, e]
    exact if_pos rfl
  rw [e2]
  exact h
/-- a field is written -/
theorem set_same {α : Type} {l : List α} {k : Nat} {v : α} (h : l[k]? = some v) : l.set k v = l := by
  apply List.ext_getElem?
  intro i
  by_cases e : k = i
  · subst e
    rw [List.getElem?_set_self (List.getElem?_eq_some_iff.mp h).1, h]
  · rw [List.getElem?_set_ne e]
theorem qs_pv (hS : Sh L xs P S) (hM : qM P S = M) (hp : pl a = true) (hT : TS P a = .inl (ci, ks)) {v : Value} (hk : ks[k]? = some (kd v)) (hv : vv v = x) {f : zm_S → Option β} {Y : qm → Option δ} (h : ∀ S' M', Sh L xs P S' → qM P S' = M' → qs (f S') (Y M') T) : qs ((zp S a ci k v).bind f) (qbnd (qw M a (k : Int) 0 x) Y) T := by
  obtain ⟨p1, p2, p3, p4, p5⟩ := pl_of hp
  obtain ⟨fs, e, hm⟩ := sc_o ((sh_c hS p1 p2).trans hT)
  have hk1 : k < ks.length := (List.getElem?_eq_some_iff.mp hk).1
  have hk2 : k < fs.length := by
    rw [← hm, List.length_map] at hk1
    exact hk1
  have e2 : zp S a ci k v = some (zm_up S.1 a (.inl (ci, fs.set k v)), S.2) := by
    unfold zp
    rw [if_pos ⟨p1, Nat.lt_of_lt_of_le p2 hS.1⟩, e]
    exact if_pos ⟨rfl, hk2⟩
  rw [e2]
  refine h _ _ (sh_up hS p1 ?_) ?_
  · rw [e]
    show Sum.inl (ci, (fs.set k v).map kd) = Sum.inl (ci, fs.map kd)
    rw [List.map_set, hm]
    have : ks.set k (kd v) = ks := set_same hk
    rw [this]
  · rw [qM_pl hS hp]
    funext b i j
    unfold qw
    by_cases e1 : b = a ∧ j = 0
    · rw [if_pos e1, rdv_set hk2]
      obtain ⟨e3, e4⟩ := e1
      subst e3
      subst e4
      by_cases e5 : i = (k : Int)
      · rw [if_pos e5, if_pos ⟨rfl, e5, rfl⟩, hv]
      · rw [if_neg e5, if_neg (fun q => e5 q.2.1), ← hM, qM_p0 hS hp, e]
    · rw [if_neg e1, if_neg (show ¬(b = a ∧ i = (k : Int) ∧ j = 0) from fun q => e1 ⟨q.1, q.2.2⟩), ← hM]
      by_cases e3 : b = a
      · subst e3
        rw [if_pos rfl]
        unfold qM
        rw [p5]
        exact (if_neg (fun q => e1 ⟨rfl, q.2.2⟩)).symm
      · rw [if_neg e3]
theorem qs_pi0 (hS : Sh L xs P S) (hM : qM P S = M) (hp : pl a = true) (hT : TS P a = .inl (ci, ks)) (hk : ks[k]? = some (.inl 0)) {v : Int32} (hv : v.toInt = x) {f : zm_S → Option β} {Y : qm → Option δ} (h : ∀ S' M', Sh L xs P S' → qM P S' = M' → qs (f S') (Y M') T) : qs ((zp S a ci k (.int v)).bind f) (qbnd (qw M a (k : Int) 0 x) Y) T := qs_pv (v := .int v) hS hM hp hT hk hv h
theorem qs_pi (hS : Sh L xs P S) (hM : qM P S = M) (hp : pl a = true) (hT : TS P a = .inl (ci, ks)) (hk : ks[k]? = some (.inl 0)) {z : Int} (hz : (k : Int) = z) {v : Int32} (hv : v.toInt = x) {f : zm_S → Option β} {Y : qm → Option δ} (h : ∀ S' M', Sh L xs P S' → qM P S' = M' → qs (f S') (Y M') T) : qs ((zp S a ci k (.int v)).bind f) (qbnd (qw M a z 0 x) Y) T := by
  subst hz
  exact qs_pi0 hS hM hp hT hk hv h
theorem qs_pl0 (hS : Sh L xs P S) (hM : qM P S = M) (hp : pl a = true) (hT : TS P a = .inl (ci, ks)) (hk : ks[k]? = some (.inl 1)) {v : Int64} (hv : v.toInt = x) {f : zm_S → Option β} {Y : qm → Option δ} (h : ∀ S' M', Sh L xs P S' → qM P S' = M' → qs (f S') (Y M') T) : qs ((zp S a ci k (.long v)).bind f) (qbnd (qw M a (k : Int) 0 x) Y) T := qs_pv (v := .long v) hS hM hp hT hk hv h
theorem qs_pl (hS : Sh L xs P S) (hM : qM P S = M) (hp : pl a = true) (hT : TS P a = .inl (ci, ks)) (hk : ks[k]? = some (.inl 1)) {z : Int} (hz : (k : Int) = z) {v : Int64} (hv : v.toInt = x) {f : zm_S → Option β} {Y : qm → Option δ} (h : ∀ S' M', Sh L xs P S' → qM P S' = M' → qs (f S') (Y M') T) : qs ((zp S a ci k (.long v)).bind f) (qbnd (qw M a z 0 x) Y) T := by
  subst hz
  exact qs_pl0 hS hM hp hT hk hv h
theorem z01 {v : Int32} (hv : v.toInt = x) (hb : x = 0 ∨ x = 1) : v = 0 ∨ v = 1 := by
  rcases hb with r | r
  · left
    apply Int32.toInt_inj.mp
    rw [hv, r]
    decide
  · right
    apply Int32.toInt_inj.mp
    rw [hv, r]
    decide
theorem qs_pz0 (hS : Sh L xs P S) (hM : qM P S = M) (hp : pl a = true) (hT : TS P a = .inl (ci, ks)) (hk : ks[k]? = some (.inl 0)) {v : Int32} (hv : v.toInt = x) (hb : x = 0 ∨ x = 1) {f : zm_S → Option β} {Y : qm → Option δ} (h : ∀ S' M', Sh L xs P S' → qM P S' = M' → qs (f S') (Y M') T) : qs ((zp_z S a ci k v).bind f) (qbnd (qw M a (k : Int) 0 x) Y) T := by
  unfold zp_z
  rw [if_pos (z01 hv hb)]
  exact qs_pi0 hS hM hp hT hk hv h
theorem qs_pz (hS : Sh L xs P S) (hM : qM P S = M) (hp : pl a = true) (hT : TS P a = .inl (ci, ks)) (hk : ks[k]? = some (.inl 0)) {z : Int} (hz : (k : Int) = z) {v : Int32} (hv : v.toInt = x) (hb : x = 0 ∨ x = 1) {f : zm_S → Option β} {Y : qm → Option δ} (h : ∀ S' M', Sh L xs P S' → qM P S' = M' → qs (f S') (Y M') T) : qs ((zp_z S a ci k v).bind f) (qbnd (qw M a z 0 x) Y) T := by
  subst hz
  exact qs_pz0 hS hM hp hT hk hv hb h
/-- a row of a table; its elements -/
def pr (a b0 n : Nat) (i : Int) : Prop := a = b0 + i.toNat ∧ 0 ≤ i ∧ i < n
theorem qs_xt (hS : Sh L xs P S) (hp : 6 ≤ a ∧ a < 2333) (hT : TS P a = .inr (t, n, .inr (fun q => if q < n then some (b0 + q) else none))) (ht : t = 4 ∨ t = 5) {q : Int32} (hq : q.toInt = i) (hg : 0 ≤ i ∧ i < n) {f : Nat → Option β} (h : ∀ b, pr b b0 n i → qs (f b) y T) : qs ((za_r S a q).bind f) y T := by
  obtain ⟨p1, p2⟩ := hp
  have e := sc_r ((sh_c hS p1 p2).trans hT)
  obtain ⟨r1, r2, r3⟩ := ix_of hq hg
  have e2 : za_r S a q = some (b0 + i.toNat) := by
    unfold za_r
    rw [if_pos (Nat.lt_of_lt_of_le p2 hS.1), e]
    show (if t = 4 ∨ t = 5 then (if q < 0 ∨ n ≤ q.toNatClampNeg then none else (if q.toNatClampNeg < n then some (b0 + q.toNatClampNeg) else none)) else none) = _
    rw [if_pos ht, if_neg r1, r2, if_pos r3]
  rw [e2]
  exact h _ ⟨rfl, hg⟩
/-- an array of elements with its pointer -/
def pa (P : Nat → Nat) (S : zm_S) (d p t n k : Nat) : Prop := 6 ≤ p ∧ p < S.2 ∧ sc (S.1 p) = .inr (t, n, .inl k) ∧ (∀ i, qM P S d i 0 = rdv (S.1 p) i) ∧ (∀ i j, j ≠ 0 → qM P S d i j = 0) ∧ (∀ c, qM P (zm_up S.1 p c, S.2) = fun b i j => if b = d ∧ j = 0 then rdv c i else if b = d then 0 else qM P S b i j)
theorem pa_p (hS : Sh L xs P S) (hp : pl a = true) (hT : TS P a = .inr (t, n, .inl k)) : pa P S a a t n k := by
  obtain ⟨p1, p2, p3, p4, p5⟩ := pl_of hp
  refine ⟨p1, Nat.lt_of_lt_of_le p2 hS.1, (sh_c hS p1 p2).trans hT, fun i => qM_p0 hS hp, fun i j hj => ?_, fun c => qM_pl hS hp⟩
  unfold qM
  rw [p5]
  exact if_neg (fun q => hj q.2.2)
theorem pa_D (hS : Sh L xs P S) (hd : qD d = true) (h : sc (S.1 (P d)) = .inr (t, n, .inl k)) : pa P S d (P d) t n k := by
  obtain ⟨r1, r2, r3, r4⟩ := hS.2.2.2.2.2.1 d hd
  refine ⟨r1, r2, h, fun i => qM_d0 hd, fun i j hj => ?_, fun c => qM_dy hS hd⟩
  unfold qM
  rw [(qD_own hd).2.1]
  exact if_neg (fun q => hj q.2.2)
theorem pa_s (hS : Sh L xs P S) (hd : qD d = true) (h1 : ¬ (d = 825 ∨ d = 826)) (h2 : ¬ d = 827) (h : sc (QF0 d) = .inr (t, n, .inl k)) : pa P S d (P d) t n k := by
  obtain ⟨r1, r2, r3, r4⟩ := hS.2.2.2.2.2.1 d hd
  rw [if_neg h1, if_neg h2] at r4
  exact pa_D hS hd (r4.trans h)
theorem pa_i (hS : Sh L xs P S) (hd : d = 825 ∨ d = 826) : ∃ n, pa P S d (P d) 0 n 0 ∧ qM P S d (-1) 0 = n := by
  have hd2 : qD d = true := by rcases hd with rfl | rfl <;> decide
  obtain ⟨r1, r2, r3, r4⟩ := hS.2.2.2.2.2.1 d hd2
  rw [if_pos hd] at r4
  obtain ⟨n, hn⟩ := r4
  refine ⟨n, pa_D hS hd2 hn, ?_⟩
  obtain ⟨g, e⟩ := sc_i hn
  rw [qM_d0 hd2, e]
  rfl
theorem pa_l (hS : Sh L xs P S) : ∃ n, pa P S 827 (P 827) 1 n 1 ∧ qM P S 827 (-1) 0 = n := by
  have hd2 : qD 827 = true := by decide
  obtain ⟨r1, r2, r3, r4⟩ := hS.2.2.2.2.2.1 827 hd2
  rw [if_neg (by decide), if_pos rfl] at r4
  obtain ⟨n, hn⟩ := r4
  refine ⟨n, pa_D hS hd2 hn, ?_⟩
  obtain ⟨g, e⟩ := sc_l hn
  rw [qM_d0 hd2, e]
  rfl
theorem qs_xi (hM : qM P S = M) (hA : pa P S d a t n 0) {q : Int32} (hq : q.toInt = i) (hg : 0 ≤ i ∧ i < n) {f : Int32 → Option β} (h : ∀ v : Int32, v.toInt = M d i 0 → qs (f v) y T) : qs ((za_x S t a q).bind f) y T := by
  obtain ⟨p1, p2, p3, p4, p5, p6⟩ := hA
  obtain ⟨g, e⟩ := sc_i p3
  obtain ⟨r1, r2, r3⟩ := ix_of hq hg
  have e2 : za_x S t a q = some (g q.toNatClampNeg) := by
    unfold za_x
    rw [if_pos p2, e]
    show (if t = t then (if q < 0 ∨ n ≤ q.toNatClampNeg then none else some (g q.toNatClampNeg)) else none) = _
    rw [if_pos rfl, if_neg r1]
  rw [e2]
  refine h _ ?_
  rw [← hM, p4, e, rdv_i hg, r2]
theorem qs_xl (hM : qM P S = M) (hA : pa P S d a 1 n 1) {q : Int32} (hq : q.toInt = i) (hg : 0 ≤ i ∧ i < n) {f : Int64 → Option β} (h : ∀ v : Int64, v.toInt = M d i 0 → qs (f v) y T) : qs ((za_l S a q).bind f) y T := by
  obtain ⟨p1, p2, p3, p4, p5, p6⟩ := hA
  obtain ⟨g, e⟩ := sc_l p3
  obtain ⟨r1, r2, r3⟩ := ix_of hq hg
  have e2 : za_l S a q = some (g q.toNatClampNeg) := by
    unfold za_l
    rw [if_pos p2, e]
    show (if 1 = 1 then (if q < 0 ∨ n ≤ q.toNatClampNeg then none else some (g q.toNatClampNeg)) else none) = _
    rw [if_pos rfl, if_neg r1]
  rw [e2]
  refine h _ ?_
  rw [← hM, p4, e, rdv_l hg, r2]
/-- an array's element is written -/
theorem pa_w (hM : qM P S = M) (hA : pa P S d a t n k) {c : zm_C} (hc : ∀ z, rdv c z = if z = i then x else rdv (S.1 a) z) : qM P (zm_up S.1 a c, S.2) = qw M d i 0 x := by
  obtain ⟨p1, p2, p3, p4, p5, p6⟩ := hA
  rw [p6]
  funext b z j
  unfold qw
  by_cases e1 : b = d ∧ j = 0
  · rw [if_pos e1, hc]
    obtain ⟨e3, e4⟩ := e1
    subst e3
    subst e4
    by_cases e5 : z = i
    · rw [if_pos e5, if_pos ⟨rfl, e5, rfl⟩]
    · rw [if_neg e5, if_neg (fun q => e5 q.2.1), ← hM, p4]
  · rw [if_neg e1, if_neg (show ¬(b = d ∧ z = i ∧ j = 0) from fun q => e1 ⟨q.1, q.2.2⟩), ← hM]
    by_cases e3 : b = d
    · rw [if_pos e3, e3]
      exact (p5 _ _ (fun q => e1 ⟨e3, q⟩)).symm
    · rw [if_neg e3]
theorem qs_si (hS : Sh L xs P S) (hM : qM P S = M) (hA : pa P S d a 0 n 0) {q v : Int32} (hq : q.toInt = i) (hg : 0 ≤ i ∧ i < n) (hv : v.toInt = x) {f : zm_S → Option β} {Y : qm → Option δ} (h : ∀ S' M', Sh L xs P S' → qM P S' = M' → qs (f S') (Y M') T) : qs ((zs_i S a q v).bind f) (qbnd (qw M d i 0 x) Y) T := by
  obtain ⟨p1, p2, p3, p4, p5, p6⟩ := id hA
  obtain ⟨g, e⟩ := sc_i p3
  obtain ⟨r1, r2, r3⟩ := ix_of hq hg
  have e2 : zs_i S a q v = some (zm_up S.1 a (.inr (0, n, .inl (upd g q.toNatClampNeg v))), S.2) := by
    unfold zs_i
    rw [if_pos ⟨p1, p2⟩, e]
    show (if 0 = 0 then (if q < 0 ∨ n ≤ q.toNatClampNeg then none else some (zm_up S.1 a (.inr (0, n, .inl (upd g q.toNatClampNeg v))), S.2)) else none) = _
    rw [if_pos rfl, if_neg r1]
  rw [e2]
  refine h _ _ (sh_up hS p1 (by rw [p3]; rfl)) (pa_w hM hA (fun z => ?_))
  rw [e, rdv_upd (by omega), r2, hv, Int.toNat_of_nonneg hg.1]
theorem qs_sz (hS : Sh L xs P S) (hM : qM P S = M) (hA : pa P S d a 2 n 0) {q v : Int32} (hq : q.toInt = i) (hg : 0 ≤ i ∧ i < n) (hv : v.toInt = x) (hb : x = 0 ∨ x = 1) {f : zm_S → Option β} {Y : qm → Option δ} (h : ∀ S' M', Sh L xs P S' → qM P S' = M' → qs (f S') (Y M') T) : qs ((zs_z S a q v).bind f) (qbnd (qw M d i 0 x) Y) T := by
  obtain ⟨p1, p2, p3, p4, p5, p6⟩ := id hA
  obtain ⟨g, e⟩ := sc_i p3
  obtain ⟨r1, r2, r3⟩ := ix_of hq hg
  have e2 : zs_z S a q v = some (zm_up S.1 a (.inr (2, n, .inl (upd g q.toNatClampNeg v))), S.2) := by
    unfold zs_z
    rw [if_pos ⟨p1, p2⟩, e]
    show (if 2 = 2 ∧ (v = 0 ∨ v = 1) then (if q < 0 ∨ n ≤ q.toNatClampNeg then none else some (zm_up S.1 a (.inr (2, n, .inl (upd g q.toNatClampNeg v))), S.2)) else none) = _
    rw [if_pos ⟨rfl, z01 hv hb⟩, if_neg r1]
  rw [e2]
  refine h _ _ (sh_up hS p1 (by rw [p3]; rfl)) (pa_w hM hA (fun z => ?_))
  rw [e, rdv_upd (by omega), r2, hv, Int.toNat_of_nonneg hg.1]
theorem qs_sc (hS : Sh L xs P S) (hM : qM P S = M) (hA : pa P S d a 3 n 0) {q v : Int32} (hq : q.toInt = i) (hg : 0 ≤ i ∧ i < n) (hv : (vp_nar .char v).toInt = x) {f : zm_S → Option β} {Y : qm → Option δ} (h : ∀ S' M', Sh L xs P S' → qM P S' = M' → qs (f S') (Y M') T) : qs ((zs_c S a q v).bind f) (qbnd (qw M d i 0 x) Y) T := by
  obtain ⟨p1, p2, p3, p4, p5, p6⟩ := id hA
  obtain ⟨g, e⟩ := sc_i p3
  obtain ⟨r1, r2, r3⟩ := ix_of hq hg
  have e2 : zs_c S a q v = some (zm_up S.1 a (.inr (3, n, .inl (upd g q.toNatClampNeg (vp_nar .char v)))), S.2) := by
    unfold zs_c
    rw [if_pos ⟨p1, p2⟩, e]
    show (if 3 = 3 then (if q < 0 ∨ n ≤ q.toNatClampNeg then none else some (zm_up S.1 a (.inr (3, n, .inl (upd g q.toNatClampNeg (vp_nar .char v)))), S.2)) else none) = _
    rw [if_pos rfl, if_neg r1]
  rw [e2]
  refine h _ _ (sh_up hS p1 (by rw [p3]; rfl)) (pa_w hM hA (fun z => ?_))
  rw [e, rdv_upd (by omega), r2, hv, Int.toNat_of_nonneg hg.1]
theorem qs_sl (hS : Sh L xs P S) (hM : qM P S = M) (hA : pa P S d a 1 n 1) {q : Int32} {v : Int64} (hq : q.toInt = i) (hg : 0 ≤ i ∧ i < n) (hv : v.toInt = x) {f : zm_S → Option β} {Y : qm → Option δ} (h : ∀ S' M', Sh L xs P S' → qM P S' = M' → qs (f S') (Y M') T) : qs ((zs_l S a q v).bind f) (qbnd (qw M d i 0 x) Y) T := by
  obtain ⟨p1, p2, p3, p4, p5, p6⟩ := id hA
  obtain ⟨g, e⟩ := sc_l p3
  obtain ⟨r1, r2, r3⟩ := ix_of hq hg
  have e2 : zs_l S a q v = some (zm_up S.1 a (.inr (1, n, .inr (.inl (vp_updL g q.toNatClampNeg v)))), S.2) := by
    unfold zs_l
    rw [if_pos ⟨p1, p2⟩, e]
    show (if 1 = 1 then (if q < 0 ∨ n ≤ q.toNatClampNeg then none else some (zm_up S.1 a (.inr (1, n, .inr (.inl (vp_updL g q.toNatClampNeg v)))), S.2)) else none) = _
    rw [if_pos rfl, if_neg r1]
  rw [e2]
  refine h _ _ (sh_up hS p1 (by rw [p3]; rfl)) (pa_w hM hA (fun z => ?_))
  rw [e, rdv_updL (by omega), r2, hv, Int.toNat_of_nonneg hg.1]
/-- rows -/
theorem pr_of (hS : Sh L xs P S) (ht : qt b = some (b0, n, w)) {s : Nat × Nat × (Nat ⊕ (Nat → Option Nat))} (hR : ∀ i, i < n → TS P (b0 + i) = .inr s) (hr : pr a b0 n i) : 6 ≤ a ∧ a < S.2 ∧ sc (S.1 a) = .inr s ∧ (∀ j, qM P S b i j = rdv (S.1 a) j) ∧ (∀ c, qM P (zm_up S.1 a c, S.2) = fun z i2 j => if z = b ∧ i2 = i then rdv c j else qM P S z i2 j) := by
  obtain ⟨rfl, hi⟩ := hr
  have hk : i.toNat < n := by omega
  have ho := qown_of ht hk
  have hl := qown_lt (a := b0 + i.toNat) (by rw [ho.1]; exact ho.2)
  refine ⟨hl.1, Nat.lt_of_lt_of_le hl.2 hS.1, (sh_c hS hl.1 hl.2).trans (hR _ hk), fun j => qM_r0 ht hi, fun c => ?_⟩
  rw [qM_rw hS ht hk]
  funext z i2 j
  rw [Int.toNat_of_nonneg hi.1]
theorem pr_w (hM : qM P S = M) {c : zm_C} (h4 : ∀ j, qM P S b i j = rdv (S.1 a) j) (h5 : ∀ c, qM P (zm_up S.1 a c, S.2) = fun z i2 j => if z = b ∧ i2 = i then rdv c j else qM P S z i2 j) (hc : ∀ z, rdv c z = if z = j then x else rdv (S.1 a) z) : qM P (zm_up S.1 a c, S.2) = qw M b i j x := by
  rw [h5]
  funext z i2 j2
  unfold qw
  by_cases e1 : z = b ∧ i2 = i
  · rw [if_pos e1, hc]
    obtain ⟨e3, e4⟩ := e1
    subst e3
    subst e4
    by_cases e5 : j2 = j
    · rw [if_pos e5, if_pos ⟨rfl, rfl, e5⟩]
    · rw [if_neg e5, if_neg (fun q => e5 q.2.2), ← hM, h4]
  · rw [if_neg e1, if_neg (fun q => e1 ⟨q.1, q.2.1⟩), ← hM]
theorem qs_yi (hS : Sh L xs P S) (hM : qM P S = M) (ht : qt b = some (b0, n, w)) (hR : ∀ i, i < n → TS P (b0 + i) = .inr (0, w, .inl 0)) (hr : pr a b0 n i) {q : Int32} (hq : q.toInt = j) (hg : 0 ≤ j ∧ j < w) {f : Int32 → Option β} (h : ∀ v : Int32, v.toInt = M b i j → qs (f v) y T) : qs ((za_x S 0 a q).bind f) y T := by
  obtain ⟨p1, p2, p3, p4, p5⟩ := pr_of hS ht hR hr
  obtain ⟨g, e⟩ := sc_i p3
  obtain ⟨r1, r2, r3⟩ := ix_of hq hg
  have e2 : za_x S 0 a q = some (g q.toNatClampNeg) := by
    unfold za_x
    rw [if_pos p2, e]
    show (if 0 = 0 then (if q < 0 ∨ w ≤ q.toNatClampNeg then none else some (g q.toNatClampNeg)) else none) = _
    rw [if_pos rfl, if_neg r1]
  rw [e2]
  refine h _ ?_
  rw [← hM, p4, e, rdv_i hg, r2]
theorem qs_yl (hS : Sh L xs P S) (hM : qM P S = M) (ht : qt b = some (b0, n, w)) (hR : ∀ i, i < n → TS P (b0 + i) = .inr (1, w, .inl 1)) (hr : pr a b0 n i) {q : Int32} (hq : q.toInt = j) (hg : 0 ≤ j ∧ j < w) {f : Int64 → Option β} (h : ∀ v : Int64, v.toInt = M b i j → qs (f v) y T) : qs ((za_l S a q).bind f) y T := by
  obtain ⟨p1, p2, p3, p4, p5⟩ := pr_of hS ht hR hr
  obtain ⟨g, e⟩ := sc_l p3
  obtain ⟨r1, r2, r3⟩ := ix_of hq hg
  have e2 : za_l S a q = some (g q.toNatClampNeg) := by
    unfold za_l
    rw [if_pos p2, e]
    show (if 1 = 1 then (if q < 0 ∨ w ≤ q.toNatClampNeg then none else some (g q.toNatClampNeg)) else none) = _
    rw [if_pos rfl, if_neg r1]
  rw [e2]
  refine h _ ?_
  rw [← hM, p4, e, rdv_l hg, r2]
theorem qs_ysi (hS : Sh L xs P S) (hM : qM P S = M) (ht : qt b = some (b0, n, w)) (hR : ∀ i, i < n → TS P (b0 + i) = .inr (0, w, .inl 0)) (hr : pr a b0 n i) {q v : Int32} (hq : q.toInt = j) (hg : 0 ≤ j ∧ j < w) (hv : v.toInt = x) {f : zm_S → Option β} {Y : qm → Option δ} (h : ∀ S' M', Sh L xs P S' → qM P S' = M' → qs (f S') (Y M') T) : qs ((zs_i S a q v).bind f) (qbnd (qw M b i j x) Y) T := by
  obtain ⟨p1, p2, p3, p4, p5⟩ := pr_of hS ht hR hr
  obtain ⟨g, e⟩ := sc_i p3
  obtain ⟨r1, r2, r3⟩ := ix_of hq hg
  have e2 : zs_i S a q v = some (zm_up S.1 a (.inr (0, w, .inl (upd g q.toNatClampNeg v))), S.2) := by
    unfold zs_i
    rw [if_pos ⟨p1, p2⟩, e]
    show (if 0 = 0 then (if q < 0 ∨ w ≤ q.toNatClampNeg then none else some (zm_up S.1 a (.inr (0, w, .inl (upd g q.toNatClampNeg v))), S.2)) else none) = _
    rw [if_pos rfl, if_neg r1]
  rw [e2]
  refine h _ _ (sh_up hS p1 (by rw [p3]; rfl)) (pr_w hM p4 p5 (fun z => ?_))
  rw [e, rdv_upd (by omega), r2, hv, Int.toNat_of_nonneg hg.1]
theorem qs_ysl (hS : Sh L xs P S) (hM : qM P S = M) (ht : qt b = some (b0, n, w)) (hR : ∀ i, i < n → TS P (b0 + i) = .inr (1, w, .inl 1)) (hr : pr a b0 n i) {q : Int32} {v : Int64} (hq : q.toInt = j) (hg : 0 ≤ j ∧ j < w) (hv : v.toInt = x) {f : zm_S → Option β} {Y : qm → Option δ} (h : ∀ S' M', Sh L xs P S' → qM P S' = M' → qs (f S') (Y M') T) : qs ((zs_l S a q v).bind f) (qbnd (qw M b i j x) Y) T := by
  obtain ⟨p1, p2, p3, p4, p5⟩ := pr_of hS ht hR hr
  obtain ⟨g, e⟩ := sc_l p3
  obtain ⟨r1, r2, r3⟩ := ix_of hq hg
  have e2 : zs_l S a q v = some (zm_up S.1 a (.inr (1, w, .inr (.inl (vp_updL g q.toNatClampNeg v)))), S.2) := by
    unfold zs_l
    rw [if_pos ⟨p1, p2⟩, e]
    show (if 1 = 1 then (if q < 0 ∨ w ≤ q.toNatClampNeg then none else some (zm_up S.1 a (.inr (1, w, .inr (.inl (vp_updL g q.toNatClampNeg v)))), S.2)) else none) = _
    rw [if_pos rfl, if_neg r1]
  rw [e2]
  refine h _ _ (sh_up hS p1 (by rw [p3]; rfl)) (pr_w hM p4 p5 (fun z => ?_))
  rw [e, rdv_updL (by omega), r2, hv, Int.toNat_of_nonneg hg.1]
/-- lengths -/
theorem qs_n (hA : pa P S d a t n k) (ht : t < 6) (hx : (Int32.ofNat n).toInt = x) {f : Int32 → Option β} (h : ∀ v : Int32, v.toInt = x → qs (f v) y T) : qs ((za_n S a).bind f) y T := by
  obtain ⟨p1, p2, p3, p4, p5, p6⟩ := hA
  have e2 : za_n S a = some (Int32.ofNat n) := by
    unfold za_n
    rw [if_pos p2]
    cases hc : S.1 a with
    | inl p => rw [hc] at p3; simp [sc] at p3
    | inr p =>
      obtain ⟨t1, n1, z⟩ := p
      rw [hc] at p3
      simp only [sc, Sum.inr.injEq, Prod.mk.injEq] at p3
      obtain ⟨rfl, rfl, -⟩ := p3
      exact if_pos ht
  rw [e2]
  exact h _ hx
theorem qs_yn (hS : Sh L xs P S) (ht : qt b = some (b0, n, w)) {kk : Nat} (hR : ∀ i, i < n → TS P (b0 + i) = .inr (t, w, .inl kk)) (ht6 : t < 6) (hr : pr a b0 n i) (hx : (Int32.ofNat w).toInt = x) {f : Int32 → Option β} (h : ∀ v : Int32, v.toInt = x → qs (f v) y T) : qs ((za_n S a).bind f) y T := by
  obtain ⟨p1, p2, p3, p4, p5⟩ := pr_of hS ht hR hr
  have e2 : za_n S a = some (Int32.ofNat w) := by
    unfold za_n
    rw [if_pos p2]
    cases hc : S.1 a with
    | inl p => rw [hc] at p3; simp [sc] at p3
    | inr p =>
      obtain ⟨t1, n1, z⟩ := p
      rw [hc] at p3
      simp only [sc, Sum.inr.injEq, Prod.mk.injEq] at p3
      obtain ⟨rfl, rfl, -⟩ := p3
      exact if_pos ht6
  rw [e2]
  exact h _ hx
/-- calls -/
theorem qs_b {ρ : α → γ → Prop} {z : Option (α × zm_S)} {u : Option (γ × qm)} {f : α × zm_S → Option β} {g : γ × qm → Option δ} (h : qs z u (tO (rr L xs P ρ))) (h2 : ∀ v S' c M', ρ v c → Sh L xs P S' → qM P S' = M' → qs (f (v, S')) (g (c, M')) T) : qs (z.bind f) (u.bind g) T := qs_bind h (fun p q r => h2 p.1 p.2 q.1 q.2 r.1 r.2.1 r.2.2)
theorem qs_bp {ρ : α → γ → Prop} {z : Option (α × zm_S)} {u : Option γ} {f : α × zm_S → Option β} {g : γ → Option δ} (h : qs z u (tO (rp L xs P M ρ))) (h2 : ∀ v S' c, ρ v c → Sh L xs P S' → qM P S' = M → qs (f (v, S')) (g c) T) : qs (z.bind f) (u.bind g) T := qs_bind h (fun p q r => h2 p.1 p.2 q r.1 r.2.1 r.2.2)
theorem qs_be {ρ : α → γ → Prop} {z : Option (α × zm_S)} {u : Option (γ × qm)} {f : α × zm_S → Option β} {g : γ × qm → Option δ} (h : qs z u (tO (re L xs ρ))) (h2 : ∀ v S' c M' P', ρ v c → Sh L xs P' S' → qM P' S' = M' → qs (f (v, S')) (g (c, M')) T) : qs (z.bind f) (u.bind g) T := qs_bind h (fun p q r => r.elim (fun P' r => h2 p.1 p.2 q.1 q.2 P' r.1 r.2.1 r.2.2))
end WALK
