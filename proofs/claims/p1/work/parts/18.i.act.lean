/-! ===== acts and zones of the fresh memory: none is told ===== -/
set_option maxRecDepth 100000 in
theorem fr_act {L : Nat} {xs w : Nat → Int32} : ∀ q, q < 20 → (fS L xs w).1 (1198 + q) = .inr (0, 5, .inl (fun _ => 0))
  | 0, _ => rfl
  | 1, _ => rfl
  | 2, _ => rfl
  | 3, _ => rfl
  | 4, _ => rfl
  | 5, _ => rfl
  | 6, _ => rfl
  | 7, _ => rfl
  | 8, _ => rfl
  | 9, _ => rfl
  | 10, _ => rfl
  | 11, _ => rfl
  | 12, _ => rfl
  | 13, _ => rfl
  | 14, _ => rfl
  | 15, _ => rfl
  | 16, _ => rfl
  | 17, _ => rfl
  | 18, _ => rfl
  | 19, _ => rfl
  | q + 20, h => absurd h (by omega)
set_option maxRecDepth 100000 in
theorem fr_zone {L : Nat} {xs w : Nat → Int32} : ∀ q, q < 20 → (fS L xs w).1 (1177 + q) = .inr (0, 14, .inl (fun _ => 0))
  | 0, _ => rfl
  | 1, _ => rfl
  | 2, _ => rfl
  | 3, _ => rfl
  | 4, _ => rfl
  | 5, _ => rfl
  | 6, _ => rfl
  | 7, _ => rfl
  | 8, _ => rfl
  | 9, _ => rfl
  | 10, _ => rfl
  | 11, _ => rfl
  | 12, _ => rfl
  | 13, _ => rfl
  | 14, _ => rfl
  | 15, _ => rfl
  | 16, _ => rfl
  | 17, _ => rfl
  | 18, _ => rfl
  | 19, _ => rfl
  | q + 20, h => absurd h (by omega)
theorem yn_of {i : Int32} {n : Nat} (hn : n < 2147483648) (h0 : ¬ i < 0) (h1 : ¬ Int32.ofNat n ≤ i) : ∃ q, q < n ∧ i = Int32.ofNat q := by
  refine ⟨i.toNatClampNeg, ?_, ?_⟩
  · have h2 : i < Int32.ofNat n := Int32.not_le.mp h1
    rw [Int32.lt_iff_toInt_lt, yn_ti hn] at h2
    rw [Int32.lt_iff_toInt_lt] at h0
    have : (0 : Int32).toInt = 0 := by decide
    rw [this] at h0
    show i.toInt.toNat < n
    omega
  · rw [Int32.lt_iff_toInt_lt] at h0
    have : (0 : Int32).toInt = 0 := by decide
    rw [this] at h0
    apply Int32.toInt_inj.mp
    rw [yn_ti (by
      show i.toInt.toNat < 2147483648
      have := i.toInt_lt
      omega)]
    show i.toInt = ((i.toInt.toNat : Nat) : Int)
    omega
theorem x_is_act {N : Nat} {i : Int32} {xs w : Nat → Int32} : zf_X4_isAct N 1172 i (fS 7 xs w) = some (0, fS 7 xs w) := by
  unfold zf_X4_isAct
  by_cases h : i < 0
  · rw [if_pos h]
  · rw [if_neg h]
    refine zb_to (yg_r (b := 1197) fc_1172 (by decide) (by rw [fn]; decide) rfl) ?_
    refine zb_to (yx_n (n := 20) fc_1197 (by rw [fn]; decide) (by decide)) ?_
    by_cases h2 : Int32.ofNat 20 ≤ i
    · exact if_pos h2
    · refine (if_neg h2).trans ?_
      refine zb_to (yg_r (b := 1197) fc_1172 (by decide) (by rw [fn]; decide) rfl) ?_
      obtain ⟨q, hq, rfl⟩ := yn_of (by decide) h h2
      refine zb_to (yx_r (b := 1198 + q) fc_1197 (Or.inl rfl) (by rw [fn]; decide) hq (by decide) (if_pos hq)) ?_
      refine zb_to (yx_i (q := 0) (fr_act q hq) (by rw [fn]; omega) (by decide) (by decide)) ?_
      exact if_pos rfl
theorem hs_is_act {N : Nat} {i : Int32} {k : Nat → Nat → Nat → Nat → Int32 → Nat → Nat → zm_S → Option ((Int32 × zm_S) ⊕ (Unit × zm_S))} {xs w : Nat → Int32} {f : Int32 × zm_S → Option ((Int32 × zm_S) ⊕ (Unit × zm_S))} (kk : fQ k xs (f (0, fS 7 xs w))) : fQ k xs ((zf_X4_isAct N 1172 i (fS 7 xs w)).bind f) := hb_of x_is_act kk
theorem x_is_zone {N : Nat} {i : Int32} {xs w : Nat → Int32} : zf_X4_isZone N 1172 i (fS 7 xs w) = some (0, fS 7 xs w) := by
  unfold zf_X4_isZone
  by_cases h : i < 0
  · rw [if_pos h]
  · rw [if_neg h]
    refine zb_to (yg_r (b := 1176) fc_1172 (by decide) (by rw [fn]; decide) rfl) ?_
    refine zb_to (yx_n (n := 20) fc_1176 (by rw [fn]; decide) (by decide)) ?_
    by_cases h2 : Int32.ofNat 20 ≤ i
    · exact if_pos h2
    · refine (if_neg h2).trans ?_
      refine zb_to (yg_r (b := 1176) fc_1172 (by decide) (by rw [fn]; decide) rfl) ?_
      obtain ⟨q, hq, rfl⟩ := yn_of (by decide) h h2
      refine zb_to (yx_r (b := 1177 + q) fc_1176 (Or.inl rfl) (by rw [fn]; decide) hq (by decide) (if_pos hq)) ?_
      refine zb_to (yx_i (q := 0) (fr_zone q hq) (by rw [fn]; omega) (by decide) (by decide)) ?_
      exact if_pos rfl
theorem hs_is_zone {N : Nat} {i : Int32} {k : Nat → Nat → Nat → Nat → Int32 → Nat → Nat → zm_S → Option ((Int32 × zm_S) ⊕ (Unit × zm_S))} {xs w : Nat → Int32} {f : Int32 × zm_S → Option ((Int32 × zm_S) ⊕ (Unit × zm_S))} (kk : fQ k xs (f (0, fS 7 xs w))) : fQ k xs ((zf_X4_isZone N 1172 i (fS 7 xs w)).bind f) := hb_of x_is_zone kk
theorem hx_xs {k : Nat → Nat → Nat → Nat → Int32 → Nat → Nat → zm_S → Option ((Int32 × zm_S) ⊕ (Unit × zm_S))} {xs : Nat → Int32} {S : zm_S} {t n a : Nat} {i c : Int32} (h : S.1 a = .inr (t, n, .inl (fun _ => c))) (h2 : Nat.blt a S.2 = true) (hn : Nat.blt n 2147483648 = true) (h0 : ¬ i < 0) (h1 : ¬ Int32.ofNat n ≤ i) {f : Int32 → Option ((Int32 × zm_S) ⊕ (Unit × zm_S))} (kk : fQ k xs (f c)) : fQ k xs ((za_x S t a i).bind f) := by
  obtain ⟨q, hq, rfl⟩ := yn_of (Nat.le_of_ble_eq_true hn) h0 h1
  exact hb_of (yx_i h (Nat.le_of_ble_eq_true h2) hq (Nat.le_of_ble_eq_true hn)) kk
