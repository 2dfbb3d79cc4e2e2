/-! ===== rows for walking, second part: numbers, returns, calls, loops, fills, copies ===== -/
theorem bm32 (x : Int) : x.bmod (2 ^ 32) = w32 x := by
  show (if x % 4294967296 < (4294967296 + 1) / 2 then x % 4294967296 else x % 4294967296 - 4294967296) = w32 x
  unfold w32
  split <;> omega
theorem bm64 (x : Int) : x.bmod (2 ^ 64) = w64 x := by
  show (if x % 18446744073709551616 < (18446744073709551616 + 1) / 2 then x % 18446744073709551616 else x % 18446744073709551616 - 18446744073709551616) = w64 x
  unfold w64
  split <;> omega
section NUM
variable {a b : Int32} {x y : Int}
theorem p_add (ha : a.toInt = x) (hb : b.toInt = y) : (a + b).toInt = w32 (x + y) := by
  rw [Int32.toInt_add, ha, hb, bm32]
theorem p_sub (ha : a.toInt = x) (hb : b.toInt = y) : (a - b).toInt = w32 (x - y) := by
  rw [Int32.toInt_sub, ha, hb, bm32]
theorem p_addm (ha : a.toInt = x) (hb : b.toInt = -y) : (a + b).toInt = w32 (x - y) := by
  rw [Int32.toInt_add, ha, hb, bm32, Int.sub_eq_add_neg]
theorem p_subm (ha : a.toInt = x) (hb : b.toInt = -y) : (a - b).toInt = w32 (x + y) := by
  rw [Int32.toInt_sub, ha, hb, bm32, Int.sub_neg]
theorem p_mul (ha : a.toInt = x) (hb : b.toInt = y) : (a * b).toInt = w32 (x * y) := by
  rw [Int32.toInt_mul, ha, hb, bm32]
theorem p_neg (ha : a.toInt = x) : (-a).toInt = w32 (-x) := by
  rw [Int32.toInt_neg, ha, bm32]
theorem td_le {x y : Int} (hy : 0 < y) : (0 ≤ x → 0 ≤ Int.tdiv x y ∧ Int.tdiv x y ≤ x) ∧ (x < 0 → x ≤ Int.tdiv x y ∧ Int.tdiv x y ≤ 0) := by
  constructor
  · intro h
    rw [Int.tdiv_eq_ediv_of_nonneg h]
    exact ⟨Int.ediv_nonneg h (by omega), Int.ediv_le_self _ h⟩
  · intro h
    obtain ⟨z, rfl⟩ : ∃ z, x = -z := ⟨-x, by omega⟩
    have hz : 0 ≤ z := by omega
    rw [Int.neg_tdiv, Int.tdiv_eq_ediv_of_nonneg hz]
    have q1 := Int.ediv_nonneg hz (b := y) (by omega)
    have q2 := Int.ediv_le_self y hz
    omega
theorem p_div (ha : a.toInt = x) (hb : b.toInt = y) (hy : 0 < y) : (a / b).toInt = Int.tdiv x y := by
  rw [Int32.toInt_div, ha, hb, bm32]
  have h1 := a.toInt_lt
  have h2 := a.le_toInt
  rw [ha] at h1 h2
  have h3 := td_le (x := x) hy
  unfold w32
  by_cases h : 0 ≤ x
  · have h4 := h3.1 h
    omega
  · have h4 := h3.2 (by omega)
    omega
theorem p_divw (ha : a.toInt = x) (hb : b.toInt = y) : (a / b).toInt = w32 (Int.tdiv x y) := by
  rw [Int32.toInt_div, ha, hb, bm32]
theorem p_mod (ha : a.toInt = x) (hb : b.toInt = y) : (a - a / b * b).toInt = Int.tmod x y := by
  rw [Int32.toInt_sub, Int32.toInt_mul, Int32.toInt_div, Int.bmod_mul_bmod, Int.sub_bmod_bmod, ← ha, ← hb]
  have e : a.toInt - a.toInt.tdiv b.toInt * b.toInt = (a % b).toInt := by
    rw [Int32.toInt_mod, Int.tmod_def, Int.mul_comm]
  rw [e, ← Int32.toInt_mod]
  exact Int32.toInt_bmod _
theorem p_64 (ha : a.toInt = x) : a.toInt64.toInt = x := by
  rw [Int32.toInt_toInt64, ha]
theorem p_and (ha : a.toInt = x) (hb : b.toInt = y) : (a &&& b).toInt = bA x y := by
  unfold bA
  rw [← ha, ← hb, Int32.ofInt_toInt, Int32.ofInt_toInt]
theorem p_or (ha : a.toInt = x) (hb : b.toInt = y) : (a ||| b).toInt = bO x y := by
  unfold bO
  rw [← ha, ← hb, Int32.ofInt_toInt, Int32.ofInt_toInt]
theorem p_xor (ha : a.toInt = x) (hb : b.toInt = y) : (a ^^^ b).toInt = bX x y := by
  unfold bX
  rw [← ha, ← hb, Int32.ofInt_toInt, Int32.ofInt_toInt]
theorem p_shl (ha : a.toInt = x) (hb : b.toInt = y) : (a <<< (b &&& 31)).toInt = bL x y := by
  unfold bL
  rw [← ha, ← hb, Int32.ofInt_toInt, Int32.ofInt_toInt]
theorem p_shr (ha : a.toInt = x) (hb : b.toInt = y) : (a >>> (b &&& 31)).toInt = bR x y := by
  unfold bR
  rw [← ha, ← hb, Int32.ofInt_toInt, Int32.ofInt_toInt]
theorem p_ushr (ha : a.toInt = x) (hb : b.toInt = y) : ((a.toUInt32 >>> (b.toUInt32 &&& Int32.toUInt32 31)).toInt32).toInt = bU x y := by
  unfold bU
  rw [← ha, ← hb, Int32.ofInt_toInt, Int32.ofInt_toInt]
theorem p_max (ha : a.toInt = x) (hb : b.toInt = y) : (zj_max a b).toInt = max x y := by
  unfold zj_max
  by_cases h : a < b
  · rw [if_pos h, hb]
    rw [Int32.lt_iff_toInt_lt, ha, hb] at h
    omega
  · rw [if_neg h, ha]
    rw [Int32.lt_iff_toInt_lt, ha, hb] at h
    omega
theorem p_min (ha : a.toInt = x) (hb : b.toInt = y) : (zj_min a b).toInt = min x y := by
  unfold zj_min
  by_cases h : b < a
  · rw [if_pos h, hb]
    rw [Int32.lt_iff_toInt_lt, ha, hb] at h
    omega
  · rw [if_neg h, ha]
    rw [Int32.lt_iff_toInt_lt, ha, hb] at h
    omega
theorem p_abs (ha : a.toInt = x) : (zj_abs a).toInt = qabs x := by
  unfold zj_abs qabs
  have z : (0 : Int32).toInt = 0 := by decide
  by_cases h : 0 ≤ a
  · rw [if_pos h]
    rw [Int32.le_iff_toInt_le, z, ha] at h
    rw [if_pos h, ha]
  · rw [if_neg h]
    rw [Int32.le_iff_toInt_le, z, ha] at h
    rw [if_neg h, Int32.toInt_sub, z, ha, bm32]
theorem p_chr (ha : a.toInt = x) : ((a.toUInt32 % 65536).toInt32).toInt = x % 65536 := by
  subst ha
  have h1 : ((a.toUInt32 % 65536).toInt32).toInt = ((a.toBitVec.toNat % 65536 : Nat) : Int).bmod (2 ^ 32) := by
    show ((a.toUInt32 % 65536).toBitVec).toInt = _
    rw [BitVec.toInt_eq_toNat_bmod]
    rfl
  have h2 : a.toInt = ((a.toBitVec.toNat : Nat) : Int).bmod (2 ^ 32) := BitVec.toInt_eq_toNat_bmod _
  rw [h1, h2, bm32, bm32]
  unfold w32
  omega
theorem c_eq (ha : a.toInt = x) (hb : b.toInt = y) : a = b ↔ x = y := by
  rw [← ha, ← hb]
  exact Int32.toInt_inj.symm
theorem c_ne (ha : a.toInt = x) (hb : b.toInt = y) : a ≠ b ↔ x ≠ y := not_congr (c_eq ha hb)
theorem c_le (ha : a.toInt = x) (hb : b.toInt = y) : a ≤ b ↔ x ≤ y := by
  rw [← ha, ← hb]
  exact Int32.le_iff_toInt_le
theorem c_lt (ha : a.toInt = x) (hb : b.toInt = y) : a < b ↔ x < y := by
  rw [← ha, ← hb]
  exact Int32.lt_iff_toInt_lt
theorem z_eq (ha : a.toInt = x) : a.toInt = y ↔ x = y := by
  rw [ha]
theorem p_nar (ha : a.toInt = x) : (vp_nar .char a).toInt = x % 65536 := by
  have e : vp_nar .char a = (a.toUInt32 % 65536).toInt32 := rfl
  rw [e, p_chr ha]
end NUM
section NUML
variable {a b : Int64} {x y : Int}
theorem pl_add (ha : a.toInt = x) (hb : b.toInt = y) : (a + b).toInt = w64 (x + y) := by
  rw [Int64.toInt_add, ha, hb, bm64]
theorem pl_sub (ha : a.toInt = x) (hb : b.toInt = y) : (a - b).toInt = w64 (x - y) := by
  rw [Int64.toInt_sub, ha, hb, bm64]
theorem pl_mul (ha : a.toInt = x) (hb : b.toInt = y) : (a * b).toInt = w64 (x * y) := by
  rw [Int64.toInt_mul, ha, hb, bm64]
theorem pl_neg (ha : a.toInt = x) : (-a).toInt = w64 (-x) := by
  rw [Int64.toInt_neg, ha, bm64]
theorem pl_divw (ha : a.toInt = x) (hb : b.toInt = y) : (a / b).toInt = w64 (Int.tdiv x y) := by
  rw [Int64.toInt_div, ha, hb, bm64]
theorem pl_mod (ha : a.toInt = x) (hb : b.toInt = y) : (a - a / b * b).toInt = Int.tmod x y := by
  rw [Int64.toInt_sub, Int64.toInt_mul, Int64.toInt_div, Int.bmod_mul_bmod, Int.sub_bmod_bmod, ← ha, ← hb]
  have e : a.toInt - a.toInt.tdiv b.toInt * b.toInt = (a % b).toInt := by
    rw [Int64.toInt_mod, Int.tmod_def, Int.mul_comm]
  rw [e, ← Int64.toInt_mod]
  exact Int64.toInt_bmod _
theorem pl_div (ha : a.toInt = x) (hb : b.toInt = y) (hy : 0 < y) : (a / b).toInt = Int.tdiv x y := by
  rw [Int64.toInt_div, ha, hb, bm64]
  have h1 := a.toInt_lt
  have h2 := a.le_toInt
  rw [ha] at h1 h2
  have h3 := td_le (x := x) hy
  unfold w64
  by_cases h : 0 ≤ x
  · have h4 := h3.1 h
    omega
  · have h4 := h3.2 (by omega)
    omega
theorem p_32 (ha : a.toInt = x) : a.toInt32.toInt = w32 x := by
  rw [Int64.toInt_toInt32, ha, bm32]
theorem pl_and (ha : a.toInt = x) (hb : b.toInt = y) : (a &&& b).toInt = lA x y := by
  unfold lA
  rw [← ha, ← hb, Int64.ofInt_toInt, Int64.ofInt_toInt]
theorem pl_or (ha : a.toInt = x) (hb : b.toInt = y) : (a ||| b).toInt = lO x y := by
  unfold lO
  rw [← ha, ← hb, Int64.ofInt_toInt, Int64.ofInt_toInt]
theorem pl_xor (ha : a.toInt = x) (hb : b.toInt = y) : (a ^^^ b).toInt = lX x y := by
  unfold lX
  rw [← ha, ← hb, Int64.ofInt_toInt, Int64.ofInt_toInt]
theorem pl_shl (ha : a.toInt = x) (hb : b.toInt = y) : (a <<< (b &&& 63)).toInt = lL x y := by
  unfold lL
  rw [← ha, ← hb, Int64.ofInt_toInt, Int64.ofInt_toInt]
theorem pl_shr (ha : a.toInt = x) (hb : b.toInt = y) : (a >>> (b &&& 63)).toInt = lR x y := by
  unfold lR
  rw [← ha, ← hb, Int64.ofInt_toInt, Int64.ofInt_toInt]
theorem p_lushr (ha : a.toInt = x) (hb : b.toInt = y) : ((a.toUInt64 >>> (b.toUInt64 &&& Int64.toUInt64 63)).toInt64).toInt = lU x y := by
  unfold lU
  rw [← ha, ← hb, Int64.ofInt_toInt, Int64.ofInt_toInt]
theorem cl_eq (ha : a.toInt = x) (hb : b.toInt = y) : a = b ↔ x = y := by
  rw [← ha, ← hb]
  exact Int64.toInt_inj.symm
theorem lgc : (lg_cmp a b = 0 ↔ a = b) ∧ (lg_cmp a b < 0 ↔ a < b) ∧ (0 < lg_cmp a b ↔ b < a) := by
  unfold lg_cmp
  have z1 : ¬ (1 : Int32) = 0 := by decide
  have z2 : ¬ (1 : Int32) < 0 := by decide
  have z3 : (0 : Int32) < 1 := by decide
  have z4 : ¬ (0 : Int32) < 0 := by decide
  have z5 : ¬ (-1 : Int32) = 0 := by decide
  have z6 : (-1 : Int32) < 0 := by decide
  have z7 : ¬ (0 : Int32) < -1 := by decide
  by_cases h : a > b
  · rw [if_pos h]
    have h2 : b < a := h
    have h3 : ¬ a = b := by
      intro q
      rw [q] at h2
      exact absurd h2 (Int64.lt_irrefl)
    have h4 : ¬ a < b := by
      rw [Int64.lt_iff_toInt_lt] at h2 ⊢
      omega
    exact ⟨⟨fun q => absurd q z1, fun q => absurd q h3⟩, ⟨fun q => absurd q z2, fun q => absurd q h4⟩, ⟨fun _ => h2, fun _ => z3⟩⟩
  · rw [if_neg h]
    have h2 : ¬ b < a := h
    by_cases e : a = b
    · rw [if_pos e]
      have h4 : ¬ a < b := by
        rw [e]
        exact Int64.lt_irrefl
      exact ⟨⟨fun _ => e, fun _ => rfl⟩, ⟨fun q => absurd q z4, fun q => absurd q h4⟩, ⟨fun q => absurd q z4, fun q => absurd q h2⟩⟩
    · rw [if_neg e]
      have h4 : a < b := by
        have e2 : ¬ a.toInt = b.toInt := fun q => e (Int64.toInt_inj.mp q)
        rw [Int64.lt_iff_toInt_lt] at h2 ⊢
        omega
      exact ⟨⟨fun q => absurd q z5, fun q => absurd q e⟩, ⟨fun _ => h4, fun _ => z6⟩, ⟨fun q => absurd q z7, fun q => absurd q h2⟩⟩
theorem g_eq (ha : a.toInt = x) (hb : b.toInt = y) : lg_cmp a b = 0 ↔ x = y := lgc.1.trans (cl_eq ha hb)
theorem g_ne (ha : a.toInt = x) (hb : b.toInt = y) : lg_cmp a b ≠ 0 ↔ x ≠ y := not_congr (g_eq ha hb)
theorem g_lt (ha : a.toInt = x) (hb : b.toInt = y) : lg_cmp a b < 0 ↔ x < y := by
  rw [← ha, ← hb]
  exact lgc.2.1.trans Int64.lt_iff_toInt_lt
theorem g0_lt (ha : a.toInt = x) (hb : b.toInt = y) : 0 < lg_cmp a b ↔ y < x := by
  rw [← ha, ← hb]
  exact lgc.2.2.trans Int64.lt_iff_toInt_lt
theorem nlt {p q : Int32} : p ≤ q ↔ ¬ q < p := by
  rw [Int32.le_iff_toInt_le, Int32.lt_iff_toInt_lt]
  omega
theorem g_le (ha : a.toInt = x) (hb : b.toInt = y) : lg_cmp a b ≤ 0 ↔ x ≤ y := by
  rw [nlt, g0_lt ha hb]
  omega
theorem g0_le (ha : a.toInt = x) (hb : b.toInt = y) : 0 ≤ lg_cmp a b ↔ y ≤ x := by
  rw [nlt, g_lt ha hb]
  omega
end NUML
def tk {α β σ : Type} (R : α → β → Prop) (C : Option α → σ → Prop) (x : Option α) (o : β ⊕ σ) : Prop := match o with
  | .inl b => ∃ a, x = some a ∧ R a b
  | .inr s => C x s
section WALK2
variable {L : Nat} {xs : Nat → Int32} {P : Nat → Nat} {S : zm_S} {M : qm} {a b b0 d n w t k ci : Nat} {i j x : Int} {ks : List (Nat ⊕ Nat)}
variable {α β γ δ σ X : Type}
/-- returns -/
theorem qs_tr {ρ : α → γ → Prop} {v : α} {c : γ} (h : ρ v c) (hS : Sh L xs P S) (hM : qM P S = M) : qs (some (v, S)) (some (c, M)) (tO (rr L xs P ρ)) := qs_ret ⟨h, hS, hM⟩
theorem qs_tp {ρ : α → γ → Prop} {v : α} {c : γ} (h : ρ v c) (hS : Sh L xs P S) (hM : qM P S = M) : qs (some (v, S)) (some c) (tO (rp L xs P M ρ)) := qs_ret ⟨h, hS, hM⟩
theorem qs_te {ρ : α → γ → Prop} {v : α} {c : γ} (h : ρ v c) (hS : Sh L xs P S) (hM : qM P S = M) : qs (some (v, S)) (some (c, M)) (tO (re L xs ρ)) := qs_ret ⟨P, h, hS, hM⟩
theorem tk_r {R : α → β → Prop} {C : Option α → σ → Prop} {p : α} {q : β} (h : R p q) : qs (some p) (some (.inl q)) (tk R C) := by
  intro o ho
  cases ho
  exact ⟨p, rfl, h⟩
theorem qs_tk {R : α → β → Prop} {C : Option α → σ → Prop} {z : Option α} {s : σ} (h : C z s) : qs z (some (.inr s)) (tk R C) := by
  intro o ho
  cases ho
  exact h
theorem qs_tr1 {ρ : α → γ → Prop} {R2 : β → δ → Prop} {C : Option ((α × zm_S) ⊕ β) → σ → Prop} {v : α} {c : γ} (h : ρ v c) (hS : Sh L xs P S) (hM : qM P S = M) : qs (some (.inl (v, S))) (some (.inl (.inl (c, M)))) (tk (vs (rr L xs P ρ) R2) C) := tk_r (R := vs (rr L xs P ρ) R2) ⟨h, hS, hM⟩
theorem qs_tr2 {ρ : α → γ → Prop} {R2 : β → δ → Prop} {C : Option (β ⊕ (α × zm_S)) → σ → Prop} {v : α} {c : γ} (h : ρ v c) (hS : Sh L xs P S) (hM : qM P S = M) : qs (some (.inr (v, S))) (some (.inl (.inr (c, M)))) (tk (vs R2 (rr L xs P ρ)) C) := tk_r (R := vs R2 (rr L xs P ρ)) ⟨h, hS, hM⟩
theorem qs_tp1 {ρ : α → γ → Prop} {R2 : β → δ → Prop} {C : Option ((α × zm_S) ⊕ β) → σ → Prop} {v : α} {c : γ} (h : ρ v c) (hS : Sh L xs P S) (hM : qM P S = M) : qs (some (.inl (v, S))) (some (.inl (.inl c))) (tk (vs (rp L xs P M ρ) R2) C) := tk_r (R := vs (rp L xs P M ρ) R2) ⟨h, hS, hM⟩
theorem qs_tp2 {ρ : α → γ → Prop} {R2 : β → δ → Prop} {C : Option (β ⊕ (α × zm_S)) → σ → Prop} {v : α} {c : γ} (h : ρ v c) (hS : Sh L xs P S) (hM : qM P S = M) : qs (some (.inr (v, S))) (some (.inl (.inr c))) (tk (vs R2 (rp L xs P M ρ)) C) := tk_r (R := vs R2 (rp L xs P M ρ)) ⟨h, hS, hM⟩
theorem qs_te1 {ρ : α → γ → Prop} {R2 : β → δ → Prop} {C : Option ((α × zm_S) ⊕ β) → σ → Prop} {v : α} {c : γ} (h : ρ v c) (hS : Sh L xs P S) (hM : qM P S = M) : qs (some (.inl (v, S))) (some (.inl (.inl (c, M)))) (tk (vs (re L xs ρ) R2) C) := tk_r (R := vs (re L xs ρ) R2) ⟨P, h, hS, hM⟩
theorem qs_te2 {ρ : α → γ → Prop} {R2 : β → δ → Prop} {C : Option (β ⊕ (α × zm_S)) → σ → Prop} {v : α} {c : γ} (h : ρ v c) (hS : Sh L xs P S) (hM : qM P S = M) : qs (some (.inr (v, S))) (some (.inl (.inr (c, M)))) (tk (vs R2 (re L xs ρ)) C) := tk_r (R := vs R2 (re L xs ρ)) ⟨P, h, hS, hM⟩
/-- loops -/
theorem qs_loop {R : α → β → Prop} {C : Option α → σ → Prop} {f : σ → Option (β ⊕ σ)} {s0 : σ} {z : Option α} {m : Nat} (hb : qs z (f s0) (tk R C)) (ih : ∀ x s, C x s → qs x (qloop f m s) (tO R)) : qs z (qloop f (m + 1) s0) (tO R) := by
  intro o ho
  unfold qloop at ho
  cases hf : f s0 with
  | none =>
    rw [hf] at ho
    cases ho
  | some r =>
    rw [hf] at ho
    cases r with
    | inl q =>
      cases ho
      exact hb _ hf
    | inr s => exact ih z s (hb _ hf) o ho
variable {T : Option β → δ → Prop} {y : Option δ}
theorem qs_lr {ε ζ η θ : Type} {ρ : ε → ζ → Prop} {ρ2 : η → θ → Prop} {z : Option ((ε × zm_S) ⊕ (η × zm_S))} {u : Option ((ζ × qm) ⊕ (θ × qm))} {f : ((ε × zm_S) ⊕ (η × zm_S)) → Option β} {g : ((ζ × qm) ⊕ (θ × qm)) → Option δ} (h : qs z u (tO (vs (rr L xs P ρ) (rr L xs P ρ2)))) (hA : ∀ v S' c M', ρ v c → Sh L xs P S' → qM P S' = M' → qs (f (.inl (v, S'))) (g (.inl (c, M'))) T) (hB : ∀ v S' c M', ρ2 v c → Sh L xs P S' → qM P S' = M' → qs (f (.inr (v, S'))) (g (.inr (c, M'))) T) : qs (z.bind f) (u.bind g) T := by
  refine qs_bind h (fun p q r => ?_)
  rcases p with ⟨v, S'⟩ | ⟨v, S'⟩ <;> rcases q with ⟨c, M'⟩ | ⟨c, M'⟩
  · exact hA v S' c M' r.1 r.2.1 r.2.2
  · exact False.elim r
  · exact False.elim r
  · exact hB v S' c M' r.1 r.2.1 r.2.2
theorem qs_lp {ε ζ η θ : Type} {ρ : ε → ζ → Prop} {ρ2 : η → θ → Prop} {z : Option ((ε × zm_S) ⊕ (η × zm_S))} {u : Option (ζ ⊕ θ)} {f : ((ε × zm_S) ⊕ (η × zm_S)) → Option β} {g : (ζ ⊕ θ) → Option δ} (h : qs z u (tO (vs (rp L xs P M ρ) (rp L xs P M ρ2)))) (hA : ∀ v S' c, ρ v c → Sh L xs P S' → qM P S' = M → qs (f (.inl (v, S'))) (g (.inl c)) T) (hB : ∀ v S' c, ρ2 v c → Sh L xs P S' → qM P S' = M → qs (f (.inr (v, S'))) (g (.inr c)) T) : qs (z.bind f) (u.bind g) T := by
  refine qs_bind h (fun p q r => ?_)
  rcases p with ⟨v, S'⟩ | ⟨v, S'⟩ <;> rcases q with c | c
  · exact hA v S' c r.1 r.2.1 r.2.2
  · exact False.elim r
  · exact False.elim r
  · exact hB v S' c r.1 r.2.1 r.2.2
theorem qs_le {ε ζ η θ : Type} {ρ : ε → ζ → Prop} {ρ2 : η → θ → Prop} {z : Option ((ε × zm_S) ⊕ (η × zm_S))} {u : Option ((ζ × qm) ⊕ (θ × qm))} {f : ((ε × zm_S) ⊕ (η × zm_S)) → Option β} {g : ((ζ × qm) ⊕ (θ × qm)) → Option δ} (h : qs z u (tO (vs (re L xs ρ) (re L xs ρ2)))) (hA : ∀ v S' c M' P', ρ v c → Sh L xs P' S' → qM P' S' = M' → qs (f (.inl (v, S'))) (g (.inl (c, M'))) T) (hB : ∀ v S' c M' P', ρ2 v c → Sh L xs P' S' → qM P' S' = M' → qs (f (.inr (v, S'))) (g (.inr (c, M'))) T) : qs (z.bind f) (u.bind g) T := by
  refine qs_bind h (fun p q r => ?_)
  rcases p with ⟨v, S'⟩ | ⟨v, S'⟩ <;> rcases q with ⟨c, M'⟩ | ⟨c, M'⟩
  · obtain ⟨P', r⟩ := r
    exact hA v S' c M' P' r.1 r.2.1 r.2.2
  · exact False.elim r
  · exact False.elim r
  · obtain ⟨P', r⟩ := r
    exact hB v S' c M' P' r.1 r.2.1 r.2.2
/-- calls that may throw -/
theorem qs_xr {ε ζ : Type} {ρ : ε → ζ → Prop} {z : Option ((ε ⊕ String) × zm_S)} {u : Option ((ζ ⊕ String) × qm)} {f : ((ε ⊕ String) × zm_S) → Option β} {g : ((ζ ⊕ String) × qm) → Option δ} (h : qs z u (tO (rr L xs P (vs ρ ve)))) (hA : ∀ v S' c M', ρ v c → Sh L xs P S' → qM P S' = M' → qs (f (.inl v, S')) (g (.inl c, M')) T) (hB : ∀ s S' M', Sh L xs P S' → qM P S' = M' → qs (f (.inr s, S')) (g (.inr s, M')) T) : qs (z.bind f) (u.bind g) T := by
  refine qs_bind h (fun p q r => ?_)
  rcases p with ⟨v | s, S'⟩ <;> rcases q with ⟨c | s2, M'⟩
  · exact hA v S' c M' r.1 r.2.1 r.2.2
  · exact False.elim r.1
  · exact False.elim r.1
  · have e : s = s2 := r.1
    subst e
    exact hB s S' M' r.2.1 r.2.2
theorem qs_xp {ε ζ : Type} {ρ : ε → ζ → Prop} {z : Option ((ε ⊕ String) × zm_S)} {u : Option (ζ ⊕ String)} {f : ((ε ⊕ String) × zm_S) → Option β} {g : (ζ ⊕ String) → Option δ} (h : qs z u (tO (rp L xs P M (vs ρ ve)))) (hA : ∀ v S' c, ρ v c → Sh L xs P S' → qM P S' = M → qs (f (.inl v, S')) (g (.inl c)) T) (hB : ∀ s S', Sh L xs P S' → qM P S' = M → qs (f (.inr s, S')) (g (.inr s)) T) : qs (z.bind f) (u.bind g) T := by
  refine qs_bind h (fun p q r => ?_)
  rcases p with ⟨v | s, S'⟩ <;> rcases q with c | s2
  · exact hA v S' c r.1 r.2.1 r.2.2
  · exact False.elim r.1
  · exact False.elim r.1
  · have e : s = s2 := r.1
    subst e
    exact hB s S' r.2.1 r.2.2
theorem qs_xe {ε ζ : Type} {ρ : ε → ζ → Prop} {z : Option ((ε ⊕ String) × zm_S)} {u : Option ((ζ ⊕ String) × qm)} {f : ((ε ⊕ String) × zm_S) → Option β} {g : ((ζ ⊕ String) × qm) → Option δ} (h : qs z u (tO (re L xs (vs ρ ve)))) (hA : ∀ v S' c M' P', ρ v c → Sh L xs P' S' → qM P' S' = M' → qs (f (.inl v, S')) (g (.inl c, M')) T) (hB : ∀ s S' M' P', Sh L xs P' S' → qM P' S' = M' → qs (f (.inr s, S')) (g (.inr s, M')) T) : qs (z.bind f) (u.bind g) T := by
  refine qs_bind h (fun p q r => ?_)
  obtain ⟨P', r⟩ := r
  rcases p with ⟨v | s, S'⟩ <;> rcases q with ⟨c | s2, M'⟩
  · exact hA v S' c M' P' r.1 r.2.1 r.2.2
  · exact False.elim r.1
  · exact False.elim r.1
  · have e : s = s2 := r.1
    subst e
    exact hB s S' M' P' r.2.1 r.2.2
/-- an exception is made -/
theorem sh_op (h : Sh L xs P S) : Sh L xs P (zm_op S) := by
  obtain ⟨q1, q2, q3, q4, q5, q6, q7⟩ := h
  have e : ∀ b, b < S.2 → (zm_op S).1 b = S.1 b := fun b hb => zm_up_n (by omega)
  refine ⟨by show 2333 ≤ S.2 + 1; omega, (e 0 (by omega)).trans q2, fun b h1 h2 => (e b (by omega)).trans (q3 b h1 h2), fun b h1 h2 => (congrArg sc (e b (by omega))).trans (q4 b h1 h2), q5, ?_, q7⟩
  intro d hd
  obtain ⟨r1, r2, r3, r4⟩ := q6 d hd
  refine ⟨r1, Nat.lt_succ_of_lt r2, r3, ?_⟩
  rw [e _ r2]
  exact r4
theorem qm_op (h : Sh L xs P S) (hM : qM P S = M) : qM P (zm_op S) = M := by
  rw [← hM]
  have e : ∀ b, b < S.2 → (zm_op S).1 b = S.1 b := fun b hb => zm_up_n (by omega)
  funext b i j
  unfold qM
  cases hb : qt b with
  | some p =>
    obtain ⟨x0, n, w⟩ := p
    show (if 0 ≤ i ∧ i < n then rdv ((zm_op S).1 (x0 + i.toNat)) j else 0) = (if 0 ≤ i ∧ i < n then rdv (S.1 (x0 + i.toNat)) j else 0)
    by_cases hi : 0 ≤ i ∧ i < n
    · have q2 := qown_of hb (show i.toNat < n by omega)
      have q3 := qown_lt (a := x0 + i.toNat) (by rw [q2.1]; exact q2.2)
      rw [if_pos hi, if_pos hi, e _ (Nat.lt_of_lt_of_le q3.2 h.1)]
    · rw [if_neg hi, if_neg hi]
  | none =>
    show (if qown b = 0 ∧ b < 2333 ∧ j = 0 then rdv ((zm_op S).1 (P b)) i else 0) = (if qown b = 0 ∧ b < 2333 ∧ j = 0 then rdv (S.1 (P b)) i else 0)
    by_cases hb2 : qown b = 0 ∧ b < 2333 ∧ j = 0
    · have q : P b < S.2 := by
        cases hD : qD b with
        | false =>
          rw [sh_P h hD]
          have := h.1
          omega
        | true => exact (h.2.2.2.2.2.1 b hD).2.1
      rw [if_pos hb2, if_pos hb2, e _ q]
    · rw [if_neg hb2, if_neg hb2]
/-- the tables that never change -/
theorem qs_cst (hS : Sh L xs P S) {m : Nat} (h1 : 1 ≤ m) (h6 : m < 6) {g : Nat → Int32} (hF : QF0 m = .inr (t, n, .inl g)) {q : Int32} (hq : q.toInt = i) (hg : 0 ≤ i ∧ i < n) {f : Int32 → Option β} (h : qs (f (g i.toNat)) y T) : qs ((za_x S t m q).bind f) y T := by
  obtain ⟨r1, r2, r3⟩ := ix_of hq hg
  have e2 : za_x S t m q = some (g q.toNatClampNeg) := by
    unfold za_x
    rw [if_pos (by have := hS.1; omega), hS.2.2.1 m h1 h6, hF]
    show (if t = t then (if q < 0 ∨ n ≤ q.toNatClampNeg then none else some (g q.toNatClampNeg)) else none) = _
    rw [if_pos rfl, if_neg r1]
  rw [e2, r2]
  exact h
theorem qs_cln (hS : Sh L xs P S) {m : Nat} (h1 : 1 ≤ m) (h6 : m < 6) {g : Nat → Int32} (hF : QF0 m = .inr (t, n, .inl g)) (ht : t < 6) {f : Int32 → Option β} (h : qs (f (Int32.ofNat n)) y T) : qs ((za_n S m).bind f) y T := by
  have e2 : za_n S m = some (Int32.ofNat n) := by
    unfold za_n
    rw [if_pos (by have := hS.1; omega), hS.2.2.1 m h1 h6, hF]
    exact if_pos ht
  rw [e2]
  exact h
theorem qs_tn (hS : Sh L xs P S) (hp : 6 ≤ a ∧ a < 2333) {g : Nat → Option Nat} (hT : TS P a = .inr (t, n, .inr g)) (ht : t < 6) (hx : (Int32.ofNat n).toInt = x) {f : Int32 → Option β} (h : ∀ v : Int32, v.toInt = x → qs (f v) y T) : qs ((za_n S a).bind f) y T := by
  obtain ⟨p1, p2⟩ := hp
  have e := sc_r ((sh_c hS p1 p2).trans hT)
  have e2 : za_n S a = some (Int32.ofNat n) := by
    unfold za_n
    rw [if_pos (Nat.lt_of_lt_of_le p2 hS.1), e]
    exact if_pos ht
  rw [e2]
  exact h _ hx
/-- the arrays that are made when it is built -/
theorem qs_xid (hS : Sh L xs P S) (hM : qM P S = M) (hd : d = 825 ∨ d = 826) {q : Int32} (hq : q.toInt = i) (hg : 0 ≤ i ∧ i < M d (-1) 0) {f : Int32 → Option β} (h : ∀ v : Int32, v.toInt = M d i 0 → qs (f v) y T) : qs ((za_x S 0 (P d) q).bind f) y T := by
  obtain ⟨n, hA, hl⟩ := pa_i hS hd
  rw [← hM, hl] at hg
  exact qs_xi hM hA hq hg h
theorem qs_xld (hS : Sh L xs P S) (hM : qM P S = M) {q : Int32} (hq : q.toInt = i) (hg : 0 ≤ i ∧ i < M 827 (-1) 0) {f : Int64 → Option β} (h : ∀ v : Int64, v.toInt = M 827 i 0 → qs (f v) y T) : qs ((za_l S (P 827) q).bind f) y T := by
  obtain ⟨n, hA, hl⟩ := pa_l hS
  rw [← hM, hl] at hg
  exact qs_xl hM hA hq hg h
theorem qs_sid (hS : Sh L xs P S) (hM : qM P S = M) (hd : d = 825 ∨ d = 826) {q v : Int32} (hq : q.toInt = i) (hg : 0 ≤ i ∧ i < M d (-1) 0) (hv : v.toInt = x) {f : zm_S → Option β} {Y : qm → Option δ} (h : ∀ S' M', Sh L xs P S' → qM P S' = M' → qs (f S') (Y M') T) : qs ((zs_i S (P d) q v).bind f) (qbnd (qw M d i 0 x) Y) T := by
  obtain ⟨n, hA, hl⟩ := pa_i hS hd
  rw [← hM, hl] at hg
  exact qs_si hS hM hA hq hg hv h
theorem qs_sld (hS : Sh L xs P S) (hM : qM P S = M) {q : Int32} {v : Int64} (hq : q.toInt = i) (hg : 0 ≤ i ∧ i < M 827 (-1) 0) (hv : v.toInt = x) {f : zm_S → Option β} {Y : qm → Option δ} (h : ∀ S' M', Sh L xs P S' → qM P S' = M' → qs (f S') (Y M') T) : qs ((zs_l S (P 827) q v).bind f) (qbnd (qw M 827 i 0 x) Y) T := by
  obtain ⟨n, hA, hl⟩ := pa_l hS
  rw [← hM, hl] at hg
  exact qs_sl hS hM hA hq hg hv h
/-- one write, as a fact -/
theorem wr_si (hS : Sh L xs P S) (hM : qM P S = M) (hA : pa P S d a 0 n 0) {q v : Int32} (hq : q.toInt = i) (hg : 0 ≤ i ∧ i < n) (hv : v.toInt = x) : ∃ S', zs_i S a q v = some S' ∧ Sh L xs P S' ∧ qM P S' = qw M d i 0 x := by
  obtain ⟨p1, p2, p3, p4, p5, p6⟩ := id hA
  obtain ⟨g, e⟩ := sc_i p3
  obtain ⟨r1, r2, r3⟩ := ix_of hq hg
  have e2 : zs_i S a q v = some (zm_up S.1 a (.inr (0, n, .inl (upd g q.toNatClampNeg v))), S.2) := by
    unfold zs_i
    rw [if_pos ⟨p1, p2⟩, e]
    show (if 0 = 0 then (if q < 0 ∨ n ≤ q.toNatClampNeg then none else some (zm_up S.1 a (.inr (0, n, .inl (upd g q.toNatClampNeg v))), S.2)) else none) = _
    rw [if_pos rfl, if_neg r1]
  refine ⟨_, e2, sh_up hS p1 (by rw [p3]; rfl), pa_w hM hA (fun z => ?_)⟩
  rw [e, rdv_upd (by omega), r2, hv, Int.toNat_of_nonneg hg.1]
theorem wr_ysi (hS : Sh L xs P S) (hM : qM P S = M) (ht : qt b = some (b0, n, w)) (hR : ∀ i, i < n → TS P (b0 + i) = .inr (0, w, .inl 0)) (hr : pr a b0 n i) {q v : Int32} (hq : q.toInt = j) (hg : 0 ≤ j ∧ j < w) (hv : v.toInt = x) : ∃ S', zs_i S a q v = some S' ∧ Sh L xs P S' ∧ qM P S' = qw M b i j x := by
  obtain ⟨p1, p2, p3, p4, p5⟩ := pr_of hS ht hR hr
  obtain ⟨g, e⟩ := sc_i p3
  obtain ⟨r1, r2, r3⟩ := ix_of hq hg
  have e2 : zs_i S a q v = some (zm_up S.1 a (.inr (0, w, .inl (upd g q.toNatClampNeg v))), S.2) := by
    unfold zs_i
    rw [if_pos ⟨p1, p2⟩, e]
    show (if 0 = 0 then (if q < 0 ∨ w ≤ q.toNatClampNeg then none else some (zm_up S.1 a (.inr (0, w, .inl (upd g q.toNatClampNeg v))), S.2)) else none) = _
    rw [if_pos rfl, if_neg r1]
  refine ⟨_, e2, sh_up hS p1 (by rw [p3]; rfl), pr_w hM p4 p5 (fun z => ?_)⟩
  rw [e, rdv_upd (by omega), r2, hv, Int.toNat_of_nonneg hg.1]
theorem wr_ysl (hS : Sh L xs P S) (hM : qM P S = M) (ht : qt b = some (b0, n, w)) (hR : ∀ i, i < n → TS P (b0 + i) = .inr (1, w, .inl 1)) (hr : pr a b0 n i) {q : Int32} {v : Int64} (hq : q.toInt = j) (hg : 0 ≤ j ∧ j < w) (hv : v.toInt = x) : ∃ S', zs_l S a q v = some S' ∧ Sh L xs P S' ∧ qM P S' = qw M b i j x := by
  obtain ⟨p1, p2, p3, p4, p5⟩ := pr_of hS ht hR hr
  obtain ⟨g, e⟩ := sc_l p3
  obtain ⟨r1, r2, r3⟩ := ix_of hq hg
  have e2 : zs_l S a q v = some (zm_up S.1 a (.inr (1, w, .inr (.inl (vp_updL g q.toNatClampNeg v)))), S.2) := by
    unfold zs_l
    rw [if_pos ⟨p1, p2⟩, e]
    show (if 1 = 1 then (if q < 0 ∨ w ≤ q.toNatClampNeg then none else some (zm_up S.1 a (.inr (1, w, .inr (.inl (vp_updL g q.toNatClampNeg v)))), S.2)) else none) = _
    rw [if_pos rfl, if_neg r1]
  refine ⟨_, e2, sh_up hS p1 (by rw [p3]; rfl), pr_w hM p4 p5 (fun z => ?_)⟩
  rw [e, rdv_updL (by omega), r2, hv, Int.toNat_of_nonneg hg.1]
/-- fills -/
theorem p_inc {q : Int32} {lo : Int} (hq : q.toInt = lo) (h0 : 0 ≤ lo) (h : lo < 100000) : (q + 1).toInt = lo + 1 := by
  rw [p_add hq (show (1 : Int32).toInt = 1 from by decide)]
  unfold w32
  omega
theorem qfl1_e {lo hi : Int} (h : hi ≤ lo) : qfl1 M d lo hi x = M := by
  funext b z j
  unfold qfl1
  rw [if_neg (by omega)]
theorem qfl1_s {lo hi : Int} (h : lo < hi) : qfl1 (qw M d lo 0 x) d (lo + 1) hi x = qfl1 M d lo hi x := by
  funext b z j
  unfold qfl1 qw
  by_cases h1 : b = d ∧ lo + 1 ≤ z ∧ z < hi ∧ j = 0
  · rw [if_pos h1, if_pos ⟨h1.1, by omega, h1.2.2⟩]
  · rw [if_neg h1]
    by_cases h2 : b = d ∧ z = lo ∧ j = 0
    · rw [if_pos h2, if_pos ⟨h2.1, by omega, by omega, h2.2.2⟩]
    · rw [if_neg h2, if_neg (fun q => h1 ⟨q.1, by
        have : z ≠ lo := fun e => h2 ⟨q.1, e, q.2.2.2⟩
        omega, q.2.2⟩)]
theorem qfl2_e {lo hi : Int} (h : hi ≤ lo) : qfl2 M d i lo hi x = M := by
  funext b z j
  unfold qfl2
  rw [if_neg (by omega)]
theorem qfl2_s {lo hi : Int} (h : lo < hi) : qfl2 (qw M d i lo x) d i (lo + 1) hi x = qfl2 M d i lo hi x := by
  funext b z j
  unfold qfl2 qw
  by_cases h1 : b = d ∧ z = i ∧ lo + 1 ≤ j ∧ j < hi
  · rw [if_pos h1, if_pos ⟨h1.1, h1.2.1, by omega, h1.2.2.2⟩]
  · rw [if_neg h1]
    by_cases h2 : b = d ∧ z = i ∧ j = lo
    · rw [if_pos h2, if_pos ⟨h2.1, h2.2.1, by omega, by omega⟩]
    · rw [if_neg h2, if_neg (fun q => h1 ⟨q.1, q.2.1, by
        have : j ≠ lo := fun e => h2 ⟨q.1, q.2.1, e⟩
        omega, q.2.2.2⟩)]
theorem fl_i (hA : ∀ S, Sh L xs P S → pa P S d a 0 n 0) (hn : n < 20000) {v : Int32} (hv : v.toInt = x) {r : Int32} {hi : Int} (hr : r.toInt = hi) (hhi : hi ≤ n) : ∀ (m : Nat) {S : zm_S} {M : qm} {q : Int32} {lo : Int} (k : Nat), Sh L xs P S → qM P S = M → q.toInt = lo → 0 ≤ lo → hi - lo ≤ m → m < k → ∃ S', zf_J7_fill_53178_L5 20000 k a v q r S = some (.inr ((), S')) ∧ Sh L xs P S' ∧ qM P S' = qfl1 M d lo hi x := by
  intro m
  induction m with
  | zero =>
    intro S M q lo k hS hM hq h0 hm hk
    obtain ⟨k, rfl⟩ : ∃ k2, k = k2 + 1 := ⟨k - 1, by omega⟩
    rw [zf_J7_fill_53178_L5.eq_2, if_pos ((c_le hr hq).mpr (by omega))]
    exact ⟨S, rfl, hS, hM.trans (qfl1_e (by omega)).symm⟩
  | succ m ih =>
    intro S M q lo k hS hM hq h0 hm hk
    obtain ⟨k, rfl⟩ : ∃ k2, k = k2 + 1 := ⟨k - 1, by omega⟩
    rw [zf_J7_fill_53178_L5.eq_2]
    by_cases h : hi ≤ lo
    · rw [if_pos ((c_le hr hq).mpr h)]
      exact ⟨S, rfl, hS, hM.trans (qfl1_e h).symm⟩
    · rw [if_neg (fun z => h ((c_le hr hq).mp z))]
      obtain ⟨S2, e, hS2, hM2⟩ := wr_si hS hM (hA S hS) hq (x := x) ⟨h0, by omega⟩ hv
      rw [e]
      obtain ⟨S3, e3, hS3, hM3⟩ := ih k hS2 hM2 (p_inc hq h0 (by omega)) (by omega) (by omega) (by omega)
      exact ⟨S3, e3, hS3, hM3.trans (qfl1_s (by omega))⟩
theorem fr_i (hA : ∀ S, Sh L xs P S → pa P S d a 0 n 0) (hn : n < 20000) {v : Int32} (hv : v.toInt = x) {r : Int32} {hi : Int} (hr : r.toInt = hi) (hhi : hi ≤ n) : ∀ (m : Nat) {S : zm_S} {M : qm} {q : Int32} {lo : Int} (k : Nat), Sh L xs P S → qM P S = M → q.toInt = lo → 0 ≤ lo → hi - lo ≤ m → m < k → ∃ S', zf_J7_fill_fda19_L10 20000 k a r v q S = some (.inr ((), S')) ∧ Sh L xs P S' ∧ qM P S' = qfl1 M d lo hi x := by
  intro m
  induction m with
  | zero =>
    intro S M q lo k hS hM hq h0 hm hk
    obtain ⟨k, rfl⟩ : ∃ k2, k = k2 + 1 := ⟨k - 1, by omega⟩
    rw [zf_J7_fill_fda19_L10.eq_2, if_pos ((c_le hr hq).mpr (by omega))]
    exact ⟨S, rfl, hS, hM.trans (qfl1_e (by omega)).symm⟩
  | succ m ih =>
    intro S M q lo k hS hM hq h0 hm hk
    obtain ⟨k, rfl⟩ : ∃ k2, k = k2 + 1 := ⟨k - 1, by omega⟩
    rw [zf_J7_fill_fda19_L10.eq_2]
    by_cases h : hi ≤ lo
    · rw [if_pos ((c_le hr hq).mpr h)]
      exact ⟨S, rfl, hS, hM.trans (qfl1_e h).symm⟩
    · rw [if_neg (fun z => h ((c_le hr hq).mp z))]
      obtain ⟨S2, e, hS2, hM2⟩ := wr_si hS hM (hA S hS) hq (x := x) ⟨h0, by omega⟩ hv
      rw [e]
      obtain ⟨S3, e3, hS3, hM3⟩ := ih k hS2 hM2 (p_inc hq h0 (by omega)) (by omega) (by omega) (by omega)
      exact ⟨S3, e3, hS3, hM3.trans (qfl1_s (by omega))⟩
theorem fy_i (ht : qt b = some (b0, n, w)) (hR : ∀ i, i < n → TS P (b0 + i) = .inr (0, w, .inl 0)) (hw : w < 20000) (hp : pr a b0 n i) {v : Int32} (hv : v.toInt = x) {r : Int32} {hi : Int} (hr : r.toInt = hi) (hhi : hi ≤ w) : ∀ (m : Nat) {S : zm_S} {M : qm} {q : Int32} {lo : Int} (k : Nat), Sh L xs P S → qM P S = M → q.toInt = lo → 0 ≤ lo → hi - lo ≤ m → m < k → ∃ S', zf_J7_fill_53178_L5 20000 k a v q r S = some (.inr ((), S')) ∧ Sh L xs P S' ∧ qM P S' = qfl2 M b i lo hi x := by
  intro m
  induction m with
  | zero =>
    intro S M q lo k hS hM hq h0 hm hk
    obtain ⟨k, rfl⟩ : ∃ k2, k = k2 + 1 := ⟨k - 1, by omega⟩
    rw [zf_J7_fill_53178_L5.eq_2, if_pos ((c_le hr hq).mpr (by omega))]
    exact ⟨S, rfl, hS, hM.trans (qfl2_e (by omega)).symm⟩
  | succ m ih =>
    intro S M q lo k hS hM hq h0 hm hk
    obtain ⟨k, rfl⟩ : ∃ k2, k = k2 + 1 := ⟨k - 1, by omega⟩
    rw [zf_J7_fill_53178_L5.eq_2]
    by_cases h : hi ≤ lo
    · rw [if_pos ((c_le hr hq).mpr h)]
      exact ⟨S, rfl, hS, hM.trans (qfl2_e h).symm⟩
    · rw [if_neg (fun z => h ((c_le hr hq).mp z))]
      obtain ⟨S2, e, hS2, hM2⟩ := wr_ysi hS hM ht hR hp hq (x := x) ⟨h0, by omega⟩ hv
      rw [e]
      obtain ⟨S3, e3, hS3, hM3⟩ := ih k hS2 hM2 (p_inc hq h0 (by omega)) (by omega) (by omega) (by omega)
      exact ⟨S3, e3, hS3, hM3.trans (qfl2_s (by omega))⟩
theorem fy_l (ht : qt b = some (b0, n, w)) (hR : ∀ i, i < n → TS P (b0 + i) = .inr (1, w, .inl 1)) (hw : w < 20000) (hp : pr a b0 n i) {v : Int64} (hv : v.toInt = x) {r : Int32} {hi : Int} (hr : r.toInt = hi) (hhi : hi ≤ w) : ∀ (m : Nat) {S : zm_S} {M : qm} {q : Int32} {lo : Int} (k : Nat), Sh L xs P S → qM P S = M → q.toInt = lo → 0 ≤ lo → hi - lo ≤ m → m < k → ∃ S', zf_J7_fill_d0a16_L6 20000 k a v q r S = some (.inr ((), S')) ∧ Sh L xs P S' ∧ qM P S' = qfl2 M b i lo hi x := by
  intro m
  induction m with
  | zero =>
    intro S M q lo k hS hM hq h0 hm hk
    obtain ⟨k, rfl⟩ : ∃ k2, k = k2 + 1 := ⟨k - 1, by omega⟩
    rw [zf_J7_fill_d0a16_L6.eq_2, if_pos ((c_le hr hq).mpr (by omega))]
    exact ⟨S, rfl, hS, hM.trans (qfl2_e (by omega)).symm⟩
  | succ m ih =>
    intro S M q lo k hS hM hq h0 hm hk
    obtain ⟨k, rfl⟩ : ∃ k2, k = k2 + 1 := ⟨k - 1, by omega⟩
    rw [zf_J7_fill_d0a16_L6.eq_2]
    by_cases h : hi ≤ lo
    · rw [if_pos ((c_le hr hq).mpr h)]
      exact ⟨S, rfl, hS, hM.trans (qfl2_e h).symm⟩
    · rw [if_neg (fun z => h ((c_le hr hq).mp z))]
      obtain ⟨S2, e, hS2, hM2⟩ := wr_ysl hS hM ht hR hp hq (x := x) ⟨h0, by omega⟩ hv
      rw [e]
      obtain ⟨S3, e3, hS3, hM3⟩ := ih k hS2 hM2 (p_inc hq h0 (by omega)) (by omega) (by omega) (by omega)
      exact ⟨S3, e3, hS3, hM3.trans (qfl2_s (by omega))⟩
theorem n_of {n : Nat} (h : n < 20000) : (Int32.ofNat n).toInt = (n : Int) := Int32.toInt_ofNat_of_lt (by omega)
theorem za_n_of (hA : pa P S d a t n k) (ht : t < 6) : za_n S a = some (Int32.ofNat n) := by
  have q : qs ((za_n S a).bind (fun v => some v)) (some ()) (fun o _ => o = some (Int32.ofNat n)) := by
    obtain ⟨p1, p2, p3, p4, p5, p6⟩ := hA
    have e2 : za_n S a = some (Int32.ofNat n) := by
      unfold za_n
      rw [if_pos p2]
      cases hc : S.1 a with
      | inl p => rw [hc] at p3; simp [sc] at p3
      | inr p =>
        obtain ⟨t1, n1, z⟩ := p
        rw [hc] at p3
        simp only [sc, Sum.inr.injEq, Prod.mk.injEq] at p3
        obtain ⟨rfl, rfl, -⟩ := p3
        exact if_pos ht
    rw [e2]
    intro b _
    rfl
  have q2 := q () rfl
  cases hz : za_n S a with
  | none => rw [hz] at q2; cases q2
  | some v => rw [hz] at q2; exact q2
theorem za_n_ofy (hS : Sh L xs P S) (ht : qt b = some (b0, n, w)) {kk : Nat} (hR : ∀ i, i < n → TS P (b0 + i) = .inr (t, w, .inl kk)) (ht6 : t < 6) (hr : pr a b0 n i) : za_n S a = some (Int32.ofNat w) := by
  obtain ⟨p1, p2, p3, p4, p5⟩ := pr_of hS ht hR hr
  unfold za_n
  rw [if_pos p2]
  cases hc : S.1 a with
  | inl p => rw [hc] at p3; simp [sc] at p3
  | inr p =>
    obtain ⟨t1, n1, z⟩ := p
    rw [hc] at p3
    simp only [sc, Sum.inr.injEq, Prod.mk.injEq] at p3
    obtain ⟨rfl, rfl, -⟩ := p3
    exact if_pos ht6
theorem qs_fii (hS : Sh L xs P S) (hM : qM P S = M) (hA : ∀ S, Sh L xs P S → pa P S d a 0 n 0) (hn : n < 20000) {v : Int32} (hv : v.toInt = x) {f : Unit × zm_S → Option β} {Y : qm → Option δ} (h : ∀ S' M', Sh L xs P S' → qM P S' = M' → qs (f ((), S')) (Y M') T) : qs ((zf_J7_fill_53178 20000 a v S).bind f) (qbnd (qfl1 M d 0 (n : Int) x) Y) T := by
  obtain ⟨S2, e, hS2, hM2⟩ := fl_i hA hn hv (n_of hn) (Int.le_refl _) n 20000 hS hM (q := 0) (lo := 0) (by decide) (by omega) (by omega) (by omega)
  have e2 : zf_J7_fill_53178 20000 a v S = some ((), S2) := by
    unfold zf_J7_fill_53178
    rw [za_n_of (hA S hS) (by omega)]
    show (zf_J7_fill_53178_L5 20000 20000 a v 0 (Int32.ofNat n) S).bind _ = _
    rw [e]
    rfl
  rw [e2]
  exact h _ _ hS2 hM2
theorem qs_fri (hS : Sh L xs P S) (hM : qM P S = M) (hA : ∀ S, Sh L xs P S → pa P S d a 0 n 0) (hn : n < 20000) {u r v : Int32} {lo hi : Int} (hu : u.toInt = lo) (hr : r.toInt = hi) (hv : v.toInt = x) (hg : lo ≤ hi ∧ 0 ≤ lo ∧ hi ≤ n) {f : Unit × zm_S → Option β} {Y : qm → Option δ} (h : ∀ S' M', Sh L xs P S' → qM P S' = M' → qs (f ((), S')) (Y M') T) : qs ((zf_J7_fill_fda19 20000 a u r v S).bind f) (qbnd (qfl1 M d lo hi x) Y) T := by
  obtain ⟨S2, e, hS2, hM2⟩ := fr_i hA hn hv hr hg.2.2 n 20000 hS hM hu hg.2.1 (by omega) (by omega)
  have z : (0 : Int32).toInt = 0 := by decide
  have e2 : zf_J7_fill_fda19 20000 a u r v S = some ((), S2) := by
    unfold zf_J7_fill_fda19 zf_J7_rangeCheck_23922
    rw [za_n_of (hA S hS) (by omega)]
    show ((if u ≤ r then if 0 ≤ u then if r ≤ Int32.ofNat n then some ((), S) else none else none else none : Option (Unit × zm_S)).bind (fun r3 => (zf_J7_fill_fda19_L10 20000 20000 a r v u r3.2).bind _)) = _
    rw [if_pos ((c_le hu hr).mpr hg.1), if_pos ((c_le z hu).mpr hg.2.1), if_pos ((c_le hr (n_of hn)).mpr hg.2.2)]
    show (zf_J7_fill_fda19_L10 20000 20000 a r v u S).bind _ = _
    rw [e]
    rfl
  rw [e2]
  exact h _ _ hS2 hM2
theorem qs_fyi (hS : Sh L xs P S) (hM : qM P S = M) (ht : qt b = some (b0, n, w)) (hR : ∀ i, i < n → TS P (b0 + i) = .inr (0, w, .inl 0)) (hp : pr a b0 n i) (hw : w < 20000) {v : Int32} (hv : v.toInt = x) {f : Unit × zm_S → Option β} {Y : qm → Option δ} (h : ∀ S' M', Sh L xs P S' → qM P S' = M' → qs (f ((), S')) (Y M') T) : qs ((zf_J7_fill_53178 20000 a v S).bind f) (qbnd (qfl2 M b i 0 (w : Int) x) Y) T := by
  obtain ⟨S2, e, hS2, hM2⟩ := fy_i ht hR hw hp hv (n_of hw) (Int.le_refl _) w 20000 hS hM (q := 0) (lo := 0) (by decide) (by omega) (by omega) (by omega)
  have e2 : zf_J7_fill_53178 20000 a v S = some ((), S2) := by
    unfold zf_J7_fill_53178
    rw [za_n_ofy hS ht hR (by omega) hp]
    show (zf_J7_fill_53178_L5 20000 20000 a v 0 (Int32.ofNat w) S).bind _ = _
    rw [e]
    rfl
  rw [e2]
  exact h _ _ hS2 hM2
theorem qs_fyl (hS : Sh L xs P S) (hM : qM P S = M) (ht : qt b = some (b0, n, w)) (hR : ∀ i, i < n → TS P (b0 + i) = .inr (1, w, .inl 1)) (hp : pr a b0 n i) (hw : w < 20000) {v : Int64} (hv : v.toInt = x) {f : Unit × zm_S → Option β} {Y : qm → Option δ} (h : ∀ S' M', Sh L xs P S' → qM P S' = M' → qs (f ((), S')) (Y M') T) : qs ((zf_J7_fill_d0a16 20000 a v S).bind f) (qbnd (qfl2 M b i 0 (w : Int) x) Y) T := by
  obtain ⟨S2, e, hS2, hM2⟩ := fy_l ht hR hw hp hv (n_of hw) (Int.le_refl _) w 20000 hS hM (q := 0) (lo := 0) (by decide) (by omega) (by omega) (by omega)
  have e2 : zf_J7_fill_d0a16 20000 a v S = some ((), S2) := by
    unfold zf_J7_fill_d0a16
    rw [za_n_ofy hS ht hR (by omega) hp]
    show (zf_J7_fill_d0a16_L6 20000 20000 a v 0 (Int32.ofNat w) S).bind _ = _
    rw [e]
    rfl
  rw [e2]
  exact h _ _ hS2 hM2
/-- copies -/
theorem rdv_cpy {n0 n1 t0 t1 sp dp k : Nat} {f g : Nat → Int32} (h1 : sp + k ≤ n0) (h2 : dp + k ≤ n1) : rdv (.inr (t1, n1, .inl (va_cpy f g sp dp k))) i = if (dp : Int) ≤ i ∧ i < dp + k then rdv (.inr (t0, n0, .inl f)) (i - dp + sp) else rdv (.inr (t1, n1, .inl g)) i := by
  show (if 0 ≤ i ∧ i < n1 then (va_cpy f g sp dp k i.toNat).toInt else if i = -1 then (n1 : Int) else 0) = if (dp : Int) ≤ i ∧ i < dp + k then (if 0 ≤ i - dp + sp ∧ i - dp + sp < n0 then (f (i - dp + sp).toNat).toInt else if i - dp + sp = -1 then (n0 : Int) else 0) else (if 0 ≤ i ∧ i < n1 then (g i.toNat).toInt else if i = -1 then (n1 : Int) else 0)
  unfold va_cpy
  by_cases h : (dp : Int) ≤ i ∧ i < dp + k
  · rw [if_pos h, if_pos ⟨by omega, by omega⟩, if_pos ⟨by omega, by omega⟩, if_pos ⟨by omega, by omega⟩]
    congr 2
    omega
  · rw [if_neg h]
    by_cases h3 : 0 ≤ i ∧ i < n1
    · rw [if_pos h3, if_pos h3, if_neg (by omega)]
    · rw [if_neg h3, if_neg h3]
theorem rdv_cpyL {n0 n1 t0 t1 sp dp k : Nat} {f g : Nat → Int64} (h1 : sp + k ≤ n0) (h2 : dp + k ≤ n1) : rdv (.inr (t1, n1, .inr (.inl (va_cpy f g sp dp k)))) i = if (dp : Int) ≤ i ∧ i < dp + k then rdv (.inr (t0, n0, .inr (.inl f))) (i - dp + sp) else rdv (.inr (t1, n1, .inr (.inl g))) i := by
  show (if 0 ≤ i ∧ i < n1 then (va_cpy f g sp dp k i.toNat).toInt else if i = -1 then (n1 : Int) else 0) = if (dp : Int) ≤ i ∧ i < dp + k then (if 0 ≤ i - dp + sp ∧ i - dp + sp < n0 then (f (i - dp + sp).toNat).toInt else if i - dp + sp = -1 then (n0 : Int) else 0) else (if 0 ≤ i ∧ i < n1 then (g i.toNat).toInt else if i = -1 then (n1 : Int) else 0)
  unfold va_cpy
  by_cases h : (dp : Int) ≤ i ∧ i < dp + k
  · rw [if_pos h, if_pos ⟨by omega, by omega⟩, if_pos ⟨by omega, by omega⟩, if_pos ⟨by omega, by omega⟩]
    congr 2
    omega
  · rw [if_neg h]
    by_cases h3 : 0 ≤ i ∧ i < n1
    · rw [if_pos h3, if_pos h3, if_neg (by omega)]
    · rw [if_neg h3, if_neg h3]
theorem nn_of {q : Int32} {z : Int} (h : q.toInt = z) (h0 : 0 ≤ z) : ¬ q < 0 ∧ q.toNatClampNeg = z.toNat := by
  refine ⟨fun r => ?_, ?_⟩
  · rw [Int32.lt_iff_toInt_lt, h, show (0 : Int32).toInt = 0 from by decide] at r
    omega
  · rw [← h]
    rfl
theorem qs_cpi (hS : Sh L xs P S) (hM : qM P S = M) {d1 d2 a1 a2 n1 n2 : Nat} (hA : pa P S d1 a1 0 n1 0) (hB : pa P S d2 a2 0 n2 0) {u v r : Int32} {sp dp m : Int} (hu : u.toInt = sp) (hv : v.toInt = dp) (hr : r.toInt = m) (hg : 0 ≤ sp ∧ 0 ≤ dp ∧ 0 ≤ m ∧ sp + m ≤ n1 ∧ dp + m ≤ n2) {f : zm_S → Option β} {Y : qm → Option δ} (h : ∀ S' M', Sh L xs P S' → qM P S' = M' → qs (f S') (Y M') T) : qs ((zs_cp S a1 u a2 v r).bind f) (qbnd (qcp1 M d1 sp d2 dp m) Y) T := by
  obtain ⟨p1, p2, p3, p4, p5, p6⟩ := hA
  obtain ⟨s1, s2, s3, s4, s5, s6⟩ := hB
  obtain ⟨g, e⟩ := sc_i p3
  obtain ⟨g2, e2⟩ := sc_i s3
  obtain ⟨u1, u2⟩ := nn_of hu hg.1
  obtain ⟨v1, v2⟩ := nn_of hv hg.2.1
  obtain ⟨r1, r2⟩ := nn_of hr hg.2.2.1
  have k1 : sp.toNat + m.toNat ≤ n1 := by omega
  have k2 : dp.toNat + m.toNat ≤ n2 := by omega
  have e3 : zs_cp S a1 u a2 v r = some (zm_up S.1 a2 (.inr (0, n2, .inl (va_cpy g g2 sp.toNat dp.toNat m.toNat))), S.2) := by
    unfold zs_cp
    rw [if_pos ⟨⟨p1, p2⟩, ⟨s1, s2⟩, u1, v1, r1⟩, e, e2]
    show (if 0 = 0 ∧ 0 = 0 ∧ u.toNatClampNeg + r.toNatClampNeg ≤ n1 ∧ v.toNatClampNeg + r.toNatClampNeg ≤ n2 then some (zm_up S.1 a2 (.inr (0, n2, .inl (va_cpy g g2 u.toNatClampNeg v.toNatClampNeg r.toNatClampNeg))), S.2) else none) = _
    rw [u2, v2, r2, if_pos ⟨rfl, rfl, k1, k2⟩]
  rw [e3]
  refine h _ _ (sh_up hS s1 (by rw [s3]; rfl)) ?_
  rw [s6]
  funext b z j
  unfold qcp1
  by_cases e1 : b = d2 ∧ j = 0
  · rw [if_pos e1, rdv_cpy (t0 := 0) k1 k2]
    obtain ⟨e4, e5⟩ := e1
    subst e5
    rw [e4]
    by_cases e6 : dp ≤ z ∧ z < dp + m
    · rw [if_pos (by omega), if_pos ⟨rfl, e6.1, e6.2, rfl⟩, ← hM, p4, e]
      congr 1
      omega
    · rw [if_neg (by omega), if_neg (fun q => e6 ⟨q.2.1, q.2.2.1⟩), ← hM, s4, e2]
  · rw [if_neg e1, if_neg (show ¬(b = d2 ∧ dp ≤ z ∧ z < dp + m ∧ j = 0) from fun q => e1 ⟨q.1, q.2.2.2⟩), ← hM]
    by_cases e4 : b = d2
    · rw [if_pos e4, e4]
      exact (s5 _ _ (fun q => e1 ⟨e4, q⟩)).symm
    · rw [if_neg e4]
theorem qs_cpl (hS : Sh L xs P S) (hM : qM P S = M) {d1 d2 a1 a2 n1 n2 : Nat} (hA : pa P S d1 a1 1 n1 1) (hB : pa P S d2 a2 1 n2 1) {u v r : Int32} {sp dp m : Int} (hu : u.toInt = sp) (hv : v.toInt = dp) (hr : r.toInt = m) (hg : 0 ≤ sp ∧ 0 ≤ dp ∧ 0 ≤ m ∧ sp + m ≤ n1 ∧ dp + m ≤ n2) {f : zm_S → Option β} {Y : qm → Option δ} (h : ∀ S' M', Sh L xs P S' → qM P S' = M' → qs (f S') (Y M') T) : qs ((zs_cp S a1 u a2 v r).bind f) (qbnd (qcp1 M d1 sp d2 dp m) Y) T := by
  obtain ⟨p1, p2, p3, p4, p5, p6⟩ := hA
  obtain ⟨s1, s2, s3, s4, s5, s6⟩ := hB
  obtain ⟨g, e⟩ := sc_l p3
  obtain ⟨g2, e2⟩ := sc_l s3
  obtain ⟨u1, u2⟩ := nn_of hu hg.1
  obtain ⟨v1, v2⟩ := nn_of hv hg.2.1
  obtain ⟨r1, r2⟩ := nn_of hr hg.2.2.1
  have k1 : sp.toNat + m.toNat ≤ n1 := by omega
  have k2 : dp.toNat + m.toNat ≤ n2 := by omega
  have e3 : zs_cp S a1 u a2 v r = some (zm_up S.1 a2 (.inr (1, n2, .inr (.inl (va_cpy g g2 sp.toNat dp.toNat m.toNat)))), S.2) := by
    unfold zs_cp
    rw [if_pos ⟨⟨p1, p2⟩, ⟨s1, s2⟩, u1, v1, r1⟩, e, e2]
    show (if 1 = 1 ∧ 1 = 1 ∧ u.toNatClampNeg + r.toNatClampNeg ≤ n1 ∧ v.toNatClampNeg + r.toNatClampNeg ≤ n2 then some (zm_up S.1 a2 (.inr (1, n2, .inr (.inl (va_cpy g g2 u.toNatClampNeg v.toNatClampNeg r.toNatClampNeg)))), S.2) else none) = _
    rw [u2, v2, r2, if_pos ⟨rfl, rfl, k1, k2⟩]
  rw [e3]
  refine h _ _ (sh_up hS s1 (by rw [s3]; rfl)) ?_
  rw [s6]
  funext b z j
  unfold qcp1
  by_cases e1 : b = d2 ∧ j = 0
  · rw [if_pos e1, rdv_cpyL (t0 := 1) k1 k2]
    obtain ⟨e4, e5⟩ := e1
    subst e5
    rw [e4]
    by_cases e6 : dp ≤ z ∧ z < dp + m
    · rw [if_pos (by omega), if_pos ⟨rfl, e6.1, e6.2, rfl⟩, ← hM, p4, e]
      congr 1
      omega
    · rw [if_neg (by omega), if_neg (fun q => e6 ⟨q.2.1, q.2.2.1⟩), ← hM, s4, e2]
  · rw [if_neg e1, if_neg (show ¬(b = d2 ∧ dp ≤ z ∧ z < dp + m ∧ j = 0) from fun q => e1 ⟨q.1, q.2.2.2⟩), ← hM]
    by_cases e4 : b = d2
    · rw [if_pos e4, e4]
      exact (s5 _ _ (fun q => e1 ⟨e4, q⟩)).symm
    · rw [if_neg e4]
theorem qs_cqi (hS : Sh L xs P S) (hM : qM P S = M) {b1 b2 x1 x2 n1 n2 w1 w2 a1 a2 : Nat} {i1 i2 : Int} (ht1 : qt b1 = some (x1, n1, w1)) (hR1 : ∀ i, i < n1 → TS P (x1 + i) = .inr (0, w1, .inl 0)) (hp1 : pr a1 x1 n1 i1) (ht2 : qt b2 = some (x2, n2, w2)) (hR2 : ∀ i, i < n2 → TS P (x2 + i) = .inr (0, w2, .inl 0)) (hp2 : pr a2 x2 n2 i2) {u v r : Int32} {sp dp m : Int} (hu : u.toInt = sp) (hv : v.toInt = dp) (hr : r.toInt = m) (hg : 0 ≤ sp ∧ 0 ≤ dp ∧ 0 ≤ m ∧ sp + m ≤ w1 ∧ dp + m ≤ w2) {f : zm_S → Option β} {Y : qm → Option δ} (h : ∀ S' M', Sh L xs P S' → qM P S' = M' → qs (f S') (Y M') T) : qs ((zs_cp S a1 u a2 v r).bind f) (qbnd (qcp2 M b1 i1 sp b2 i2 dp m) Y) T := by
  obtain ⟨p1, p2, p3, p4, p5⟩ := pr_of hS ht1 hR1 hp1
  obtain ⟨s1, s2, s3, s4, s5⟩ := pr_of hS ht2 hR2 hp2
  obtain ⟨g, e⟩ := sc_i p3
  obtain ⟨g2, e2⟩ := sc_i s3
  obtain ⟨u1, u2⟩ := nn_of hu hg.1
  obtain ⟨v1, v2⟩ := nn_of hv hg.2.1
  obtain ⟨r1, r2⟩ := nn_of hr hg.2.2.1
  have k1 : sp.toNat + m.toNat ≤ w1 := by omega
  have k2 : dp.toNat + m.toNat ≤ w2 := by omega
  have e3 : zs_cp S a1 u a2 v r = some (zm_up S.1 a2 (.inr (0, w2, .inl (va_cpy g g2 sp.toNat dp.toNat m.toNat))), S.2) := by
    unfold zs_cp
    rw [if_pos ⟨⟨p1, p2⟩, ⟨s1, s2⟩, u1, v1, r1⟩, e, e2]
    show (if 0 = 0 ∧ 0 = 0 ∧ u.toNatClampNeg + r.toNatClampNeg ≤ w1 ∧ v.toNatClampNeg + r.toNatClampNeg ≤ w2 then some (zm_up S.1 a2 (.inr (0, w2, .inl (va_cpy g g2 u.toNatClampNeg v.toNatClampNeg r.toNatClampNeg))), S.2) else none) = _
    rw [u2, v2, r2, if_pos ⟨rfl, rfl, k1, k2⟩]
  rw [e3]
  refine h _ _ (sh_up hS s1 (by rw [s3]; rfl)) ?_
  rw [s5]
  funext b z j
  unfold qcp2
  by_cases e1 : b = b2 ∧ z = i2
  · rw [if_pos e1, rdv_cpy (t0 := 0) k1 k2]
    obtain ⟨e4, e5⟩ := e1
    rw [e4, e5]
    by_cases e6 : dp ≤ j ∧ j < dp + m
    · rw [if_pos (by omega), if_pos ⟨rfl, rfl, e6.1, e6.2⟩, ← hM, p4, e]
      congr 1
      omega
    · rw [if_neg (by omega), if_neg (fun q => e6 ⟨q.2.2.1, q.2.2.2⟩), ← hM, s4, e2]
  · rw [if_neg e1, if_neg (fun q => e1 ⟨q.1, q.2.1⟩), ← hM]
end WALK2
