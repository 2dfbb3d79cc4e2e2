/-! ===== small naturals as numbers; one cell changed ===== -/
theorem yn_le {a b : Nat} (ha : a < 2147483648) (hb : b < 2147483648) : Int32.ofNat a ≤ Int32.ofNat b ↔ a ≤ b := Int32.ofNat_le_iff_le ha hb
theorem yn_lt {a b : Nat} (ha : a < 2147483648) (hb : b < 2147483648) : Int32.ofNat a < Int32.ofNat b ↔ a < b := Int32.ofNat_lt_iff_lt ha hb
theorem yn_nn {a : Nat} (ha : a < 2147483648) : ¬ Int32.ofNat a < 0 := fun h => absurd ((yn_lt ha (b := 0) (by decide)).mp h) (Nat.not_lt_zero _)
theorem yn_to {a : Nat} (ha : a < 2147483648) : (Int32.ofNat a).toNatClampNeg = a := Int32.toNatClampNeg_ofNat_of_lt ha
theorem yn_ti {a : Nat} (ha : a < 2147483648) : (Int32.ofNat a).toInt = (a : Int) := Int32.toInt_ofNat_of_lt ha
theorem yn_eq {a b : Nat} (ha : a < 2147483648) (hb : b < 2147483648) : Int32.ofNat a = Int32.ofNat b ↔ a = b := by
  constructor
  · intro h
    have h2 := congrArg Int32.toNatClampNeg h
    rw [yn_to ha, yn_to hb] at h2
    exact h2
  · intro h
    rw [h]
theorem yn_m1 {a : Nat} (ha : a < 2147483648) : Int32.ofNat a ≠ -1 := by
  intro h
  have h2 := congrArg Int32.toInt h
  rw [yn_ti ha, show (-1 : Int32).toInt = -1 from by decide] at h2
  omega
theorem yn_s {k : Nat} : Int32.ofNat k + (1 : Int32) = Int32.ofNat (k + 1) := (Int32.ofNat_add k 1).symm
theorem yn_d24 {c : Nat} (hc : c < 576) : Int32.ofNat c / (24 : Int32) = Int32.ofNat (c / 24) := (Int32.ofNat_div (a := c) (b := 24) (by omega) (by decide)).symm
theorem yn_r24 {c : Nat} (hc : c < 576) : Int32.ofNat c - Int32.ofNat (c / 24) * (24 : Int32) = Int32.ofNat (c % 24) := by
  have h : c / 24 * 24 ≤ c := Nat.div_mul_le_self c 24
  have e : c % 24 = c - c / 24 * 24 := by omega
  rw [e, Int32.ofNat_sub c (c / 24 * 24) h, Int32.ofNat_mul]
  rfl
def sU (S : zm_S) (a : Nat) (c : zm_C) : zm_S := (zm_up S.1 a c, S.2)
theorem sU_s {S : zm_S} {a : Nat} {c : zm_C} : (sU S a c).1 a = c := zm_up_s
theorem sU_n {S : zm_S} {a b : Nat} {c : zm_C} (e : b ≠ a) : (sU S a c).1 b = S.1 b := zm_up_n e
theorem sU_id {S : zm_S} {a : Nat} {c : zm_C} (h : S.1 a = c) : sU S a c = S := by
  subst h
  have e : zm_up S.1 a (S.1 a) = S.1 := by
    funext j
    unfold zm_up
    split
    · rename_i e
      rw [e]
    · rfl
  unfold sU
  rw [e]
theorem sU_sU {S : zm_S} {a : Nat} {c d : zm_C} : sU (sU S a c) a d = sU S a d := by
  unfold sU
  rw [show zm_up (zm_up S.1 a c, S.2).1 a d = zm_up S.1 a d from zm_up_up]
theorem sU_cm {S : zm_S} {a b : Nat} {c d : zm_C} (e : a ≠ b) : sU (sU S a c) b d = sU (sU S b d) a c := by
  have h : zm_up (zm_up S.1 a c) b d = zm_up (zm_up S.1 b d) a c := by
    funext j
    unfold zm_up
    by_cases h1 : j = b
    · rw [if_pos h1, if_neg (fun q => e (q.symm.trans h1)), if_pos h1]
    · rw [if_neg h1]
      by_cases h2 : j = a
      · rw [if_pos h2, if_pos h2]
      · rw [if_neg h2, if_neg h2, if_neg h1]
  show (zm_up (zm_up S.1 a c) b d, S.2) = (zm_up (zm_up S.1 b d) a c, S.2)
  rw [h]
section YS
variable {S : zm_S} {a n q t : Nat} {f : Nat → Int32} {x : Int32}
theorem yn_in (hq : q < n) (hs : n < 2147483648) : ¬ (Int32.ofNat q < 0 ∨ n ≤ (Int32.ofNat q).toNatClampNeg) := by
  have hq2 : q < 2147483648 := by omega
  rw [yn_to hq2]
  rintro (h | h)
  · exact yn_nn hq2 h
  · omega
theorem ys_i (h : S.1 a = .inr (0, n, .inl f)) (h6 : 6 ≤ a) (hn : a < S.2) (hq : q < n) (hs : n < 2147483648) : zs_i S a (Int32.ofNat q) x = some (sU S a (.inr (0, n, .inl (upd f q x)))) := by
  have e := yn_to (a := q) (by omega)
  unfold zs_i
  rw [if_pos ⟨h6, hn⟩, h]
  refine (if_pos rfl).trans ((if_neg (yn_in hq hs)).trans ?_)
  rw [e]
  rfl
theorem ys_z (hx : x = 0 ∨ x = 1) (h : S.1 a = .inr (2, n, .inl f)) (h6 : 6 ≤ a) (hn : a < S.2) (hq : q < n) (hs : n < 2147483648) : zs_z S a (Int32.ofNat q) x = some (sU S a (.inr (2, n, .inl (upd f q x)))) := by
  have e := yn_to (a := q) (by omega)
  unfold zs_z
  rw [if_pos ⟨h6, hn⟩, h]
  refine (if_pos ⟨rfl, hx⟩).trans ((if_neg (yn_in hq hs)).trans ?_)
  rw [e]
  rfl
theorem yx_i (h : S.1 a = .inr (t, n, .inl f)) (hn : a < S.2) (hq : q < n) (hs : n < 2147483648) : za_x S t a (Int32.ofNat q) = some (f q) := by
  have e := yn_to (a := q) (by omega)
  unfold za_x
  rw [if_pos hn, h]
  refine (if_pos rfl).trans ((if_neg (yn_in hq hs)).trans ?_)
  rw [e]
theorem yx_r {g : Nat → Option Nat} {b : Nat} (h : S.1 a = .inr (t, n, .inr (.inr g))) (ht : t = 4 ∨ t = 5) (hn : a < S.2) (hq : q < n) (hs : n < 2147483648) (hg : g q = some b) : za_r S a (Int32.ofNat q) = some b := by
  have e := yn_to (a := q) (by omega)
  unfold za_r
  rw [if_pos hn, h]
  refine (if_pos ht).trans ((if_neg (yn_in hq hs)).trans ?_)
  rw [e, hg]
theorem yx_n {m : zm_Z} (h : S.1 a = .inr (t, n, m)) (hn : a < S.2) (ht : t < 6) : za_n S a = some (Int32.ofNat n) := by
  unfold za_n
  rw [if_pos hn, h]
  exact if_pos ht
theorem yg_r {ci k b : Nat} {fs : List Value} (h : S.1 a = .inl (ci, fs)) (h6 : 6 ≤ a) (hn : a < S.2) (hk : fs[k]? = some (.ref b)) : zg_r S a ci k = some b := by
  have e : zg S a ci k = some (.ref b) := by
    unfold zg
    rw [if_pos ⟨h6, hn⟩, h]
    exact (if_pos rfl).trans hk
  unfold zg_r
  rw [e]
theorem yg_i {ci k : Nat} {v : Int32} {fs : List Value} (h : S.1 a = .inl (ci, fs)) (h6 : 6 ≤ a) (hn : a < S.2) (hk : fs[k]? = some (.int v)) : zg_i S a ci k = some v := by
  have e : zg S a ci k = some (.int v) := by
    unfold zg
    rw [if_pos ⟨h6, hn⟩, h]
    exact (if_pos rfl).trans hk
  unfold zg_i
  rw [e]
theorem yi {ci : Nat} {fs : List Value} (h : S.1 a = .inl (ci, fs)) (h6 : 6 ≤ a) (hn : a < S.2) : zi S a ci = some () := by
  unfold zi
  rw [if_pos ⟨h6, hn⟩, h]
  exact if_pos rfl
end YS
/-- Arrays.fill, of ints -/
theorem j_fill_L {N a n : Nat} {v : Int32} (h6 : 6 ≤ a) (hs : n < 2147483648) : ∀ (m k : Nat) (S : zm_S) (f : Nat → Int32), S.1 a = .inr (0, n, .inl f) → a < S.2 → k ≤ n → n < k + m →
    zf_J7_fill_53178_L5 N m a v (Int32.ofNat k) (Int32.ofNat n) S = some (.inr ((), sU S a (.inr (0, n, .inl (fun j => if k ≤ j ∧ j < n then v else f j))))) := by
  intro m
  induction m with
  | zero => intro k S f _ _ h1 h2; omega
  | succ m ih =>
    intro k S f hS hn h1 h2
    rw [zf_J7_fill_53178_L5]
    by_cases hk : k = n
    · subst hk
      rw [if_pos ((yn_le hs hs).mpr (Nat.le_refl _))]
      rw [sU_id]
      rw [hS]
      congr 4
      funext j
      rw [if_neg (by omega)]
    · rw [if_neg (fun q => by have := (yn_le hs (by omega)).mp q; omega)]
      refine zb_to (ys_i (q := k) hS h6 hn (by omega) hs) ?_
      rw [yn_s, ih (k + 1) (sU S a (.inr (0, n, .inl (upd f k v)))) (upd f k v) sU_s hn (by omega) (by omega), sU_sU]
      refine congrArg (fun q => some (Sum.inr ((), sU S a (.inr (0, n, .inl q))))) (funext fun j => ?_)
      unfold upd
      by_cases e : j = k
      · subst e
        rw [if_neg (by omega), if_pos rfl, if_pos (by omega)]
      · rw [if_neg e]
        by_cases e2 : k ≤ j ∧ j < n
        · rw [if_pos e2, if_pos (by omega)]
        · rw [if_neg e2, if_neg (by omega)]
theorem j_fill {N a n : Nat} {v : Int32} {S : zm_S} {f : Nat → Int32} (h : S.1 a = .inr (0, n, .inl f)) (h6 : 6 ≤ a) (hn : a < S.2) (hs : n < 2147483648) (hN : n < N) :
    zf_J7_fill_53178 N a v S = some ((), sU S a (.inr (0, n, .inl (fun j => if j < n then v else f j)))) := by
  unfold zf_J7_fill_53178
  refine zb_to (yx_n h hn (by decide)) ?_
  refine zb_to (j_fill_L h6 hs N 0 S f h hn (Nat.zero_le _) (by omega)) ?_
  simp only [Nat.zero_le, true_and]
