/-! ===== the bus: telegrams in queues ===== -/
theorem td_e {a b : Int} (h : 0 ≤ a) : Int.tdiv a b = a / b := Int.tdiv_eq_ediv_of_nonneg h
theorem tm_e {a b : Int} (h : 0 ≤ a) : Int.tmod a b = a % b := Int.tmod_eq_emod_of_nonneg h
def xrF (f : Int → Int) : Nat → Int
  | 0 => 255
  | n + 1 => bX (xrF f n) (f n)
theorem xrF_c {f g : Int → Int} : ∀ (n : Nat), (∀ k : Int, 0 ≤ k → k < n → f k = g k) → xrF f n = xrF g n := by
  intro n
  induction n with
  | zero => intro _; rfl
  | succ n ih =>
    intro h
    unfold xrF
    rw [ih (fun k a b => h k a (by omega)), h n (by omega) (by omega)]
/-- byte j of a telegram, by what the class keeps of it; the last one is the check -/
def tgB (q : Int → Int) (j : Int) : Int := if j = 0 then 176 + 4 * q 0 - (if 0 < q 6 then 32 else 0) else if j = 1 then q 1 / 256 else if j = 2 then q 1 % 256 else if j = 3 then q 2 / 256 else if j = 4 then q 2 % 256 else if j = 5 then q 4 - 1 + (if q 3 = 0 then 0 else 128) else (q 5 + (j - 6)) % 256
def tgA (q : Int → Int) (j : Int) : Int := if j < q 4 + 6 then tgB q j else xrF (tgB q) (q 4 + 6).toNat
def qOK (q : Int → Int) : Prop := 0 ≤ q 0 ∧ q 0 ≤ 3 ∧ 0 ≤ q 1 ∧ q 1 < 65536 ∧ 0 ≤ q 2 ∧ q 2 < 65536 ∧ (q 3 = 0 ∨ (q 3 = 1 ∧ q 2 < 256)) ∧ 1 ≤ q 4 ∧ q 4 ≤ 14 ∧ 0 ≤ q 5 ∧ q 5 < 256 ∧ 0 ≤ q 6 ∧ q 6 ≤ 4
/-- a telegram lies in the reference's row at a place -/
def tgIn (K : qm) (q : Int → Int) (a : Int) : Prop := (∀ j, 0 ≤ j → j < q 4 + 7 → (K 2259 (a + j) 0) = tgA q j) ∧ (K 2259 (a + 21) 0) = q 4 + 7 ∧ (K 2259 (a + 22) 0) = q 0 ∧ (K 2259 (a + 23) 0) = q 6
def qC (M : qm) (s k : Int) : Int → Int := fun i => (M 1149 s (7 * k + i))
theorem check_r {K : qm} {a m : Int} (a0 : 0 ≤ a) (a1 : a ≤ 1128) (m0 : 1 ≤ m) (m1 : m ≤ 22) (hm : (K 2259 (a + 21) 0) = m) : qW (qf_X12_check 20000 a K) (fun r => r.2 = qw K 2259 (a + m - 1) 0 (xrF (fun j => (K 2259 (a + j) 0)) (m - 1).toNat)) := by
  unfold qf_X12_check qf_X12_check_L17
  rw [w32_id (x := a + 21) (by omega) (by omega), if_pos (by omega), hm]
  refine qW_call (Q := fun o => o = .inr (xrF (fun j => (K 2259 (a + j) 0)) (m - 1).toNat)) ?_ ?_
  · refine qW_for (m - 1) (fun i s => s = (a, m, xrF (fun j => (K 2259 (a + j) 0)) i.toNat, i)) ?_ ?_ rfl (by omega) (by omega)
    · rintro i _ i0 i1 rfl
      (try dsimp only)
      unfold qf_X12_check_L17_b
      rw [w32_id (x := m - 1) (by omega) (by omega), if_neg (by omega), w32_id (x := a + i) (by omega) (by omega), if_pos (by omega), w32_id (x := i + 1) (by omega) (by omega)]
      refine qW_some ?_
      rw [show (i + 1).toNat = i.toNat + 1 by omega]
      show (a, m, _, _) = (a, m, bX (xrF (fun j => (K 2259 (a + j) 0)) i.toNat) (K 2259 (a + ((i.toNat : Nat) : Int)) 0), i + 1)
      rw [show ((i.toNat : Nat) : Int) = i by omega]
    · rintro _ rfl
      (try dsimp only)
      unfold qf_X12_check_L17_b
      rw [w32_id (x := m - 1) (by omega) (by omega), if_pos (Int.le_refl _)]
      exact qW_some rfl
  · rintro _ rfl
    (try dsimp only)
    rw [w32_id (x := a + m) (by omega) (by omega), w32_id (x := a + m - 1) (by omega) (by omega), if_pos (by omega)]
    exact qW_bnd (qW_some rfl)
theorem sendL_r {K : qm} {s p n b a : Int} (a0 : 0 ≤ a) (a1 : a ≤ 1128) (n0 : 1 ≤ n) (n1 : n ≤ 14) (b0 : 0 ≤ b) (b1 : b < 256) : qW (qf_X12_send_L125 20000 20000 s p n b a 0 K) (fun o => match o with | .inl _ => False | .inr r => ∀ c i j, r.2 c i j = if c = 2259 ∧ j = 0 ∧ a + 6 ≤ i ∧ i < a + 6 + n then (b + (i - a - 6)) % 256 else K c i j) := by
  unfold qf_X12_send_L125
  refine qW_for n (fun i t => t.1 = s ∧ t.2.1 = p ∧ t.2.2.1 = n ∧ t.2.2.2.1 = b ∧ t.2.2.2.2.1 = a ∧ t.2.2.2.2.2.1 = i ∧ ∀ c x j, t.2.2.2.2.2.2 c x j = if c = 2259 ∧ j = 0 ∧ a + 6 ≤ x ∧ x < a + 6 + i then (b + (x - a - 6)) % 256 else K c x j) ?_ ?_ ⟨rfl, rfl, rfl, rfl, rfl, rfl, fun c x j => by rw [if_neg (by omega)]⟩ (by omega) (by omega)
  · rintro i ⟨s', p', n', b', a', i', S⟩ i0 i1 ⟨rfl, rfl, rfl, rfl, rfl, rfl, hS⟩
    (try dsimp only at *)
    unfold qf_X12_send_L125_b
    rw [if_neg (by omega), w32_id (x := a' + 6) (by omega) (by omega), w32_id (x := a' + 6 + i') (by omega) (by omega), if_pos (by omega), w32_id (x := b' + i') (by omega) (by omega), tm_e (by omega), w32_id (x := i' + 1) (by omega) (by omega)]
    refine qW_bnd (qW_some ⟨rfl, rfl, rfl, rfl, rfl, rfl, fun c x j => ?_⟩)
    (try dsimp only)
    rw [qw_ap, hS]
    by_cases e : c = 2259 ∧ x = a' + 6 + i' ∧ j = 0
    · rw [if_pos e, if_pos (by omega), e.2.1]
      congr 2
      omega
    · rw [if_neg e]
      by_cases e2 : c = 2259 ∧ j = 0 ∧ a' + 6 ≤ x ∧ x < a' + 6 + i'
      · rw [if_pos e2, if_pos (by omega)]
      · rw [if_neg e2, if_neg (by omega)]
  · rintro ⟨s', p', n', b', a', i', S⟩ ⟨e1, e2, e3, e4, e5, e6, hS⟩
    (try dsimp only at *)
    unfold qf_X12_send_L125_b
    rw [if_pos (by omega)]
    exact qW_some hS
/-- the reference: a telegram comes into a queue -/
theorem send_r {K : qm} {s p m n b g k : Int} {q : Int → Int} (q0 : q 0 = p) (q1 : q 1 = (K 2255 s 0)) (q2 : q 2 = m) (q3 : q 3 = if g = 0 then 0 else 1) (q4 : q 4 = n) (q5 : q 5 = b) (q6 : q 6 = 0) (s0 : 0 ≤ s) (s1 : s < 8) (hk : (K 2258 s 0) = k) (k0 : 0 ≤ k) (k1 : k < 6) (p0 : 0 ≤ p) (p1 : p ≤ 3) (d0 : 0 ≤ (K 2255 s 0)) (d1 : (K 2255 s 0) < 65536) (m0 : 0 ≤ m) (m1 : m < 65536) (n0 : 1 ≤ n) (n1 : n ≤ 14) (b0 : 0 ≤ b) (b1 : b < 256) : qW (qf_X12_send 20000 s p m g n b K) (fun r => r.1 = k + 1 ∧ tgIn r.2 q (144 * s + 24 * k) ∧ r.2 2258 s 0 = k + 1 ∧ (∀ i, i ≠ s → r.2 2258 i 0 = K 2258 i 0) ∧ (∀ i, i < 144 * s + 24 * k ∨ 144 * s + 24 * k + 24 ≤ i → r.2 2259 i 0 = K 2259 i 0)) := by
  have ea : w32 (24 * w32 (w32 (6 * s) + (K 2258 s 0))) = 144 * s + 24 * k := by
    rw [w32_id (x := 6 * s) (by omega) (by omega), hk, w32_id (x := 6 * s + k) (by omega) (by omega), w32_id (by omega) (by omega)]
    omega
  generalize ha : 144 * s + 24 * k = a at ea ⊢
  have w : ∀ j : Int, 0 ≤ j → j ≤ 23 → w32 (a + j) = a + j := fun j _ _ => w32_id (by omega) (by omega)
  unfold qf_X12_send
  simp only [ea, w 1 (by decide) (by decide), w 2 (by decide) (by decide), w 3 (by decide) (by decide), w 4 (by decide) (by decide), w 5 (by decide) (by decide)]
  have i8 : 0 ≤ s ∧ s < 8 := ⟨s0, s1⟩
  have fin : ∀ (S : qm) (v : Int), (g = 0 → v = 0) → (g ≠ 0 → v = 128) → S 2259 a 0 = 176 + 4 * p → S 2259 (a + 1) 0 = (K 2255 s 0) / 256 → S 2259 (a + 2) 0 = (K 2255 s 0) % 256 → S 2259 (a + 3) 0 = m / 256 → S 2259 (a + 4) 0 = m % 256 → (∀ c x j, c ≠ 2259 ∨ x < a ∨ a + 24 ≤ x → S c x j = K c x j) → qW (qf_X12_send_J120 20000 s p n b a (a + 5) (n - 1) v S) (fun r => r.1 = k + 1 ∧ tgIn r.2 q a ∧ r.2 2258 s 0 = k + 1 ∧ (∀ i, i ≠ s → r.2 2258 i 0 = K 2258 i 0) ∧ (∀ i, i < a ∨ a + 24 ≤ i → r.2 2259 i 0 = K 2259 i 0)) := by
    intro S v v0 v1 t0 t1 t2 t3 t4 hS
    unfold qf_X12_send_J120
    rw [if_pos (by omega)]
    refine qW_bnd ?_
    refine qW_call (sendL_r (a := a) (b := b) (n := n) (by omega) (by omega) n0 n1 b0 b1) ?_
    rintro (o | ⟨u, S2⟩) h2
    · exact h2.elim
    · (try dsimp only at h2 ⊢)
      rw [w 21 (by decide) (by decide), w 22 (by decide) (by decide), w 23 (by decide) (by decide), if_pos (by omega)]
      refine qW_bnd ?_
      rw [if_pos (by omega)]
      refine qW_bnd ?_
      rw [if_pos (by omega)]
      refine qW_bnd ?_
      have ev : w32 (n - 1 + v) = n - 1 + v := w32_id (by omega) (by omega)
      have e7 : w32 (n + 7) = n + 7 := w32_id (by omega) (by omega)
      rw [ev] at h2
      rw [e7]
      generalize hT : (qw (qw (qw S2 2259 (a + 21) 0 (n + 7)) 2259 (a + 22) 0 p) 2259 (a + 23) 0 0) = T
      have T21 : T 2259 (a + 21) 0 = n + 7 := by rw [← hT, qw_i (by omega), qw_i (by omega), qw_s]
      have T22 : T 2259 (a + 22) 0 = p := by rw [← hT, qw_i (by omega), qw_s]
      have T23 : T 2259 (a + 23) 0 = 0 := by rw [← hT, qw_s]
      have Tl : ∀ x, x < a + 21 ∨ a + 24 ≤ x → T 2259 x 0 = S2 2259 x 0 := fun x hx => by rw [← hT, qw_i (by omega), qw_i (by omega), qw_i (by omega)]
      have Tc : ∀ c x j, c ≠ 2259 → T c x j = S2 c x j := fun c x j hc => by rw [← hT, qw_a hc, qw_a hc, qw_a hc]
      refine qW_call (check_r (K := T) (a := a) (m := n + 7) (by omega) (by omega) (by omega) (by omega) T21) (fun r hr => ?_)
      obtain ⟨u2, U⟩ := r
      (try dsimp only at hr ⊢)
      rw [if_pos i8, if_pos i8]
      refine qW_bnd ?_
      rw [if_pos i8]
      have Uq : ∀ x, U 2258 x 0 = K 2258 x 0 := fun x => by
        rw [hr, qw_a (by decide), Tc _ _ _ (by decide), h2, if_neg (by omega), qw_a (by decide), hS _ _ _ (Or.inl (by decide))]
      have eq : w32 (U 2258 s 0 + 1) = k + 1 := by
        rw [Uq, hk]
        exact w32_id (by omega) (by omega)
      rw [eq]
      have Ul : ∀ x, x ≠ a + (n + 7) - 1 → U 2259 x 0 = T 2259 x 0 := fun x hx => by rw [hr, qw_i hx]
      have Sl : ∀ x, x < a + 6 ∨ a + 6 + n ≤ x → x ≠ a + 5 → S2 2259 x 0 = S 2259 x 0 := fun x hx h5 => by rw [h2, if_neg (by omega), qw_i h5]
      have S5 : S2 2259 (a + 5) 0 = n - 1 + v := by rw [h2, if_neg (by omega), qw_s]
      have hv : v = if q 3 = 0 then 0 else 128 := by
        rw [q3]
        by_cases e : g = 0
        · rw [if_pos e, if_pos rfl, v0 e]
        · rw [if_neg e, if_neg (by decide), v1 e]
      have hB : ∀ j, 0 ≤ j → j < n + 6 → T 2259 (a + j) 0 = tgB q j := by
        intro j j0 j1
        rw [Tl _ (by omega)]
        unfold tgB
        by_cases c6 : 6 ≤ j
        · rw [if_neg (by omega), if_neg (by omega), if_neg (by omega), if_neg (by omega), if_neg (by omega), if_neg (by omega), h2, if_pos (by omega), q5]
          congr 2
          omega
        · by_cases c0 : j = 0
          · rw [if_pos c0, c0, Sl _ (by omega) (by omega), Int.add_zero, t0, q0, q6, if_neg (by decide)]
            omega
          · rw [if_neg c0]
            by_cases c1 : j = 1
            · rw [if_pos c1, c1, Sl _ (by omega) (by omega), t1, q1]
            · rw [if_neg c1]
              by_cases c2 : j = 2
              · rw [if_pos c2, c2, Sl _ (by omega) (by omega), t2, q1]
              · rw [if_neg c2]
                by_cases c3 : j = 3
                · rw [if_pos c3, c3, Sl _ (by omega) (by omega), t3, q2]
                · rw [if_neg c3]
                  by_cases c4 : j = 4
                  · rw [if_pos c4, c4, Sl _ (by omega) (by omega), t4, q2]
                  · rw [if_neg c4, if_pos (by omega), show j = 5 by omega, S5, hv, q4]
      refine qW_some ⟨qw_s, ⟨fun j j0 j1 => ?_, ?_, ?_, ?_⟩, qw_s, fun i hi => ?_, fun i hi => ?_⟩
      · (try dsimp only)
        rw [qw_a (by decide)]
        rw [q4] at j1
        unfold tgA
        rw [q4]
        by_cases e : j < n + 6
        · rw [if_pos e, Ul _ (by omega), hB j j0 e]
        · rw [if_neg e, hr, show a + j = a + (n + 7) - 1 by omega, qw_s, show n + 7 - 1 = n + 6 by omega]
          exact xrF_c _ (fun i i0 i1 => hB i i0 (by omega))
      · (try dsimp only)
        rw [qw_a (by decide), Ul _ (by omega), T21, q4]
      · (try dsimp only)
        rw [qw_a (by decide), Ul _ (by omega), T22, q0]
      · (try dsimp only)
        rw [qw_a (by decide), Ul _ (by omega), T23, q6]
      · (try dsimp only)
        rw [qw_i hi, Uq]
      · (try dsimp only)
        rw [qw_a (by decide), Ul _ (by omega), Tl _ (by omega), Sl _ (by omega) (by omega), hS _ _ _ (by omega)]
  have ea2 : (K 2255 s 0) / 256 = Int.tdiv (K 2255 s 0) 256 := (td_e d0).symm
  have ea3 : (K 2255 s 0) % 256 = Int.tmod (K 2255 s 0) 256 := (tm_e d0).symm
  have ea4 : m / 256 = Int.tdiv m 256 := (td_e m0).symm
  have ea5 : m % 256 = Int.tmod m 256 := (tm_e m0).symm
  rw [ea2, ea3, ea4, ea5] at fin
  rw [w32_id (x := 4 * p) (by omega) (by omega), w32_id (x := 176 + 4 * p) (by omega) (by omega), w32_id (x := n - 1) (by omega) (by omega)]
  rw [if_pos i8, if_pos (by omega)]
  refine qW_bnd ?_
  rw [if_pos i8, if_pos (by omega)]
  refine qW_bnd ?_
  rw [if_pos i8, if_pos (by omega)]
  refine qW_bnd ?_
  rw [if_pos (by omega)]
  refine qW_bnd ?_
  rw [if_pos (by omega)]
  refine qW_bnd ?_
  repeat' first
    | (refine fin _ _ (fun _ => ?_) (fun _ => ?_) ?_ ?_ ?_ ?_ ?_ ?_)
    | with_reducible refine qW_within (fun _ => ?_) (fun _ _ => ?_)
    | with_reducible refine qW_isIn (fun _ => ?_) (fun _ _ => ?_)
    | (exfalso; omega)
    | with_reducible refine qW_bind ?_
    | with_reducible refine qW_bnd ?_
    | with_reducible refine qW_some ?_
    | ((with_reducible refine qW_no ?_); omega)
    | with_reducible refine qW_pos rfl ?_
    | ((with_reducible refine qW_pos ?_ ?_); omega)
    | ((with_reducible refine qW_neg ?_ ?_); (first | omega | decide))
    | with_reducible refine qW_ite (fun _ => ?_) (fun _ => ?_)
    | dsimp only
  all_goals first
    | rfl
    | assumption
    | (exfalso; omega)
    | (rw [qw_i (by omega), qw_i (by omega), qw_i (by omega), qw_i (by omega), qw_s])
    | (rw [qw_i (by omega), qw_i (by omega), qw_i (by omega), qw_s]; rfl)
    | (rw [qw_i (by omega), qw_i (by omega), qw_s]; rfl)
    | (rw [qw_i (by omega), qw_s])
    | (rw [qw_s])
    | (intro c x j hx; rw [qw_ap, if_neg (by omega), qw_ap, if_neg (by omega), qw_ap, if_neg (by omega), qw_ap, if_neg (by omega), qw_ap, if_neg (by omega)])
