/-! ===== rows at the head for what was shown by itself: finding, saying, sentences ===== -/
section HS
variable {k : Nat → Nat → Nat → Nat → Int32 → Nat → Nat → zm_S → Option ((Int32 × zm_S) ⊕ (Unit × zm_S))} {xs w : Nat → Int32} {S : zm_S} {j : Int64}
theorem hs_find {ff : Int32 × zm_S → Option ((Int32 × zm_S) ⊕ (Unit × zm_S))} (kk : ∀ f g : Nat → Int32, fQ k xs (ff ((0 : Int32), xE xs w f g))) : fQ k xs ((zf_X2_findSpaces 4000 51 (fS 7 xs w)).bind ff) := by
  obtain ⟨f, g, e⟩ := x_find (xs := xs) (w := w)
  exact hb_of e (kk f g)
theorem cell_x {a : Nat} {c : zm_C} {f g : Nat → Int32} (h1 : (Nat.ble 2156 a || Nat.beq a 0) = true) (h : (fS 7 xs w).1 a = c) : (xE xs w f g).1 a = c := by
  have ha : 2156 ≤ a ∨ a = 0 := by
    rw [Bool.or_eq_true] at h1
    exact h1.imp Nat.le_of_ble_eq_true Nat.eq_of_beq_eq_true
  unfold xE bF xA
  rw [sU_n (by omega), sU_n (by omega), sU_n (by omega), sU_n (by omega), sU_n (by omega), sU_n (by omega), sU_n (by omega), sU_n (by omega), sU_n (by omega)]
  exact h
theorem hr_fill {a b : Nat} {fs : List Value} {f : Nat → Int32} (hA : S.1 a = .inl (16, fs)) (hk : fs[16]? = some (.ref b)) (hS : S.1 b = .inr (0, 1764, .inl f)) (h1 : (Nat.ble 6 a && Nat.blt a S.2) = true) (h2 : (Nat.ble 6 b && Nat.blt b S.2) = true) (hab : Nat.beq a b = false)
    {ff : (Unit × zm_S) ⊕ (Unit × zm_S) → Option ((Int32 × zm_S) ⊕ (Unit × zm_S))} (kk : fQ k xs (ff (.inr ((), sU S b (.inr (0, 1764, .inl (fun j => if j < 1764 then Int32.ofNat j else f j))))))) : fQ k xs ((zf_X16_fill_L2 4000 4000 a (0 : Int32) S).bind ff) := hb_of (r_fill hA hk hS h1 h2 hab) kk
theorem hr_lead {a b : Nat} {x : Int32} {fs : List Value} {f : Nat → Int32} (hA : S.1 a = .inl (16, fs)) (hk : fs[38]? = some (.ref b)) (hS : S.1 b = .inr (0, 1764, .inl f)) (h1 : (Nat.ble 6 a && Nat.blt a S.2) = true) (h2 : (Nat.ble 6 b && Nat.blt b S.2) = true) (hab : Nat.beq a b = false)
    {ff : (Unit × zm_S) ⊕ (Unit × zm_S) → Option ((Int32 × zm_S) ⊕ (Unit × zm_S))} (kk : fQ k xs (ff (.inr ((), sU S b (.inr (0, 1764, .inl (fun j => if j < 1764 then -2 else f j))))))) : fQ k xs ((zf_X16_number_L14 4000 4000 a x (0 : Int32) S).bind ff) := hb_of (r_lead hA hk hS h1 h2 hab) kk
theorem hr_names {a b : Nat} {fs : List Value} {f : Nat → Int32} (hA : S.1 a = .inl (16, fs)) (hk : fs[25]? = some (.ref b)) (hS : S.1 b = .inr (0, 400, .inl f)) (h1 : (Nat.ble 6 a && Nat.blt a S.2) = true) (h2 : (Nat.ble 6 b && Nat.blt b S.2) = true) (hab : Nat.beq a b = false)
    {ff : (Int32 × zm_S) ⊕ (Unit × zm_S) → Option ((Int32 × zm_S) ⊕ (Unit × zm_S))} (kk : fQ k xs (ff (.inr ((), sU S b (.inr (0, 400, .inl (fun j => if j < 400 then 0 else f j))))))) : fQ k xs ((zf_X16_run_L140 4000 4000 a (0 : Int32) S).bind ff) := hb_of (r_names hA hk hS h1 h2 hab) kk
theorem hs_sayable {ff : Int32 × zm_S → Option ((Int32 × zm_S) ⊕ (Unit × zm_S))} (h1 : goodw j → fQ k xs (ff (1, S))) (h2 : ¬ goodw j → fQ k xs (ff (0, S))) : fQ k xs ((zf_X6_isSayable 4000 j S).bind ff) := by
  rcases s_sayable (w := j) (S := S) with ⟨g, e⟩ | ⟨g, e⟩
  · exact hb_of e (h1 g)
  · exact hb_of e (h2 g)
theorem hs_room {fs : List Value} (h : S.1 727 = .inl (6, fs)) (hn : Nat.blt 727 S.2 = true) (h0 : fs[1]? = some (.int 0)) {ff : Int32 × zm_S → Option ((Int32 × zm_S) ⊕ (Unit × zm_S))} (kk : fQ k xs (ff (1, S))) : fQ k xs ((zf_X6_hasRoomFor 4000 727 j S).bind ff) := hb_of (s_room h (Nat.le_of_ble_eq_true hn) h0) kk
theorem hs_app {ff : Int32 × zm_S → Option ((Int32 × zm_S) ⊕ (Unit × zm_S))} (kk : ∀ f : Nat → Int32, fQ k xs (ff (Int32.ofNat (cnt j 8), sU (sU (fS 7 xs w) 728 (.inr (3, 800, .inl f))) 727 (.inl (6, cT (cnt j 8)))))) : fQ k xs ((zf_X6_append 4000 727 j (fS 7 xs w)).bind ff) := by
  have e0 : cS (fS 7 xs w) (fun _ => 0) 0 = fS 7 xs w := by
    unfold cS
    rw [sU_id (c := .inr (3, 800, .inl (fun _ => 0))) fc_728]
    exact sU_id (c := .inl (6, cT 0)) fc_727
  obtain ⟨f, e⟩ := s_app (w := j) (B := fS 7 xs w) rfl (f := fun _ => 0)
  rw [e0] at e
  exact hb_of e (kk f)
theorem hs_chars {ff : Int32 × zm_S → Option ((Int32 × zm_S) ⊕ (Unit × zm_S))} (h1 : goodw j → fQ k xs (ff (Int32.ofNat (cnt j 8), S))) (h2 : ¬ goodw j → fQ k xs (ff (-1, S))) : fQ k xs ((zf_X15_characters 4000 j S).bind ff) := by
  rcases c_ch (w := j) (S := S) with ⟨g, e⟩ | ⟨g, e⟩
  · exact hb_of e (h1 g)
  · exact hb_of e (h2 g)
theorem cnt_nn : ¬ Int32.ofNat (cnt j 8) < 0 := yn_nn (by have := cnt_le (w := j) (k := 8); omega)
theorem cnt_800 : ¬ (800 : Int32) < 0 + Int32.ofNat (cnt j 8) := by
  have hc := cnt_le (w := j) (k := 8)
  rw [Int32.zero_add]
  intro q
  have := (yn_lt (a := 800) (b := cnt j 8) (by decide) (by omega)).mp q
  omega
theorem hs_sent {fs : List Value} {f : Nat → Int32} {i1 i2 i3 i4 i5 : Int32} (h1 : S.1 908 = .inl (5, fs)) (hm : fs = eT 0) (h2 : S.1 909 = .inr (3, 2200, .inl f)) (hB : S.2 = 2333) {ff : Int32 × zm_S → Option ((Int32 × zm_S) ⊕ (Unit × zm_S))}
    (kk : ∀ (x : Int32) (f : Nat → Int32) (v : Nat), fQ k xs (ff (x, sU (sU S 909 (.inr (3, 2200, .inl f))) 908 (.inl (5, eT v))))) : fQ k xs ((zf_X5_writeSentence 4000 908 i1 i2 i3 i4 i5 S).bind ff) := by
  subst hm
  obtain ⟨r, e, f', v, hv, e2⟩ := e_sent (i1 := i1) (i2 := i2) (i3 := i3) (i4 := i4) (i5 := i5) hB h1 h2
  refine hb_of e ?_
  rw [show r = (r.1, eS S f' v) from by rw [← e2]]
  exact kk r.1 f' v
theorem hs_make {fs : List Value} {f : Nat → Int32} {i1 i2 i3 i4 i5 : Int32} (h5 : i1 = 0 → i5 ≤ 12) (h1 : S.1 2208 = .inl (14, fs)) (hm : fs = mT 0) (h2 : S.1 2234 = .inr (0, 200, .inl f)) (hB : Nat.ble 2334 (S.2 + 1) = true) {ff : Unit × zm_S → Option ((Int32 × zm_S) ⊕ (Unit × zm_S))}
    (kk : ∀ (f : Nat → Int32) (v : Nat), fQ k xs (ff ((), sU (sU S 2234 (.inr (0, 200, .inl f))) 2208 (.inl (14, mT v))))) : fQ k xs ((zf_X14_make 4000 2208 i1 i2 i3 i4 i5 S).bind ff) := by
  subst hm
  obtain ⟨r, e, f', v, hv, e2⟩ := m_make (i1 := i1) (i2 := i2) (i3 := i3) (i4 := i4) (i5 := i5) (Nat.le_of_ble_eq_true hB) h5 h1 h2
  refine hb_of e ?_
  rw [show r = ((), mS S f' v) from by rw [← e2]]
  exact kk f' v
theorem hs_rsay {fs : List Value} {f : Nat → Int32} (h1 : S.1 2184 = .inl (15, fs)) (hm : fs = rT 0) (h2 : S.1 2185 = .inr (0, 800, .inl f)) (hB : Nat.ble 2334 (S.2 + 1) = true) {ff : Int32 × zm_S → Option ((Int32 × zm_S) ⊕ (Unit × zm_S))}
    (kk : ∀ f : Nat → Int32, fQ k xs (ff (Int32.ofNat (cnt j 8), sU (sU S 2185 (.inr (0, 800, .inl f))) 2184 (.inl (15, rT (cnt j 8)))))) : fQ k xs ((zf_X15_say 4000 2184 j S).bind ff) := by
  subst hm
  obtain ⟨f', e⟩ := r_say (w := j) (Nat.le_of_ble_eq_true hB) h1 h2
  exact hb_of e (kk f')
end HS
