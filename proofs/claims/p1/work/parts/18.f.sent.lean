/-! ===== sentences on the fresh memory: what is written stays in its rows ===== -/
section SENT
variable {N : Nat} {B : zm_S}
def eT (v : Nat) : List Value := [.ref 909, .int 0, .int (Int32.ofNat v), .int 0, .int 0, .int 0, .int 0, .int 0, .long 0, .ref 910, .ref 931, .ref 952, .int 0]
def eS (B : zm_S) (f : Nat → Int32) (v : Nat) : zm_S := sU (sU B 909 (.inr (3, 2200, .inl f))) 908 (.inl (5, eT v))
def eP (B S : zm_S) : Prop := ∃ (f : Nat → Int32) (v : Nat), v ≤ 2200 ∧ S = eS B f v
theorem e_zi (hB : B.2 = 2333) {S : zm_S} (h : eP B S) : zi S 908 5 = some () := by
  obtain ⟨f, v, hv, rfl⟩ := h
  exact yi (fs := eT v) sU_s (by decide) (by show 908 < B.2; rw [hB]; decide)
theorem e_write (hB : B.2 = 2333) {S : zm_S} {c : Int32} (h : eP B S) : yw (zf_X5_write N 908 c S) (fun r => eP B r.2) := by
  obtain ⟨f, v, hv, rfl⟩ := h
  have h2 : (eS B f v).2 = 2333 := hB
  unfold zf_X5_write
  refine yw_o (yg_i (fs := eT v) (v := Int32.ofNat v) sU_s (by decide) (by rw [h2]; decide) rfl) ?_
  refine yw_o (yg_r (fs := eT v) (b := 909) sU_s (by decide) (by rw [h2]; decide) rfl) ?_
  refine yw_o (yx_n (t := 3) (n := 2200) (m := .inl f) ((sU_n (by decide)).trans sU_s) (by rw [h2]; decide) (by decide)) ?_
  refine yw_i (fun _ => yw_s ⟨f, v, hv, rfl⟩) (fun hc => ?_)
  have hv2 : v < 2200 := by
    rcases Nat.lt_or_ge v 2200 with q | q
    · exact q
    · exact absurd ((yn_le (a := 2200) (b := v) (by decide) (by omega)).mpr q) hc
  refine yw_o (yg_r (fs := eT v) (b := 909) sU_s (by decide) (by rw [h2]; decide) rfl) ?_
  refine yw_o (yg_i (fs := eT v) (v := Int32.ofNat v) sU_s (by decide) (by rw [h2]; decide) rfl) ?_
  refine yw_o (ys_c (n := 2200) (f := f) ((sU_n (by decide)).trans sU_s) (by decide) (by show 909 < (eS B f v).2; rw [h2]; decide) hv2 (by decide)) ?_
  refine yw_o (yg_i (fs := eT v) (v := Int32.ofNat v) ((sU_n (by decide)).trans sU_s) (by decide) (by show 908 < (eS B f v).2; rw [h2]; decide) rfl) ?_
  refine yw_o (yp (fs := eT v) ((sU_n (by decide)).trans sU_s) (by decide) (by show 908 < (eS B f v).2; rw [h2]; decide) (Nat.le_of_ble_eq_true rfl)) ?_
  refine yw_s ⟨upd f v (vp_nar .char c), v + 1, by omega, ?_⟩
  show sU (sU (sU (sU B 909 _) 908 _) 909 _) 908 (.inl (5, (eT v).set 2 (.int (Int32.ofNat v + 1)))) = _
  rw [sU_cm (a := 908) (b := 909) (by decide), sU_sU, sU_sU, yn_s]
  rfl
def eL {α : Type} (B : zm_S) (r : α ⊕ (Unit × zm_S)) : Prop := ∃ S', r = .inr ((), S') ∧ eP B S'
theorem e_num_L (hB : B.2 = 2333) {i1 : Int32} : ∀ (m p : Nat) (i2 : Int32) (S : zm_S), p < 2 ^ m → p < 2147483648 → eP B S → yw (zf_X5_writeNumber_L6 N (m + 1) 908 i1 i2 (Int32.ofNat p) S) (eL B) := by
  intro m
  induction m with
  | zero =>
    intro p i2 S hp hp2 h
    have : p = 0 := by omega
    subst this
    rw [zf_X5_writeNumber_L6]
    exact yw_i (fun _ => yw_s ⟨S, rfl, h⟩) (fun q => absurd (by decide) q)
  | succ m ih =>
    intro p i2 S hp hp2 h
    rw [zf_X5_writeNumber_L6]
    refine yw_i (fun _ => yw_s ⟨S, rfl, h⟩) (fun q => ?_)
    have hp0 : p ≠ 0 := fun e => q (by rw [e]; decide)
    have hd : Int32.ofNat p / (10 : Int32) = Int32.ofNat (p / 10) := (Int32.ofNat_div (a := p) (b := 10) hp2 (by decide)).symm
    have hlt : p / 10 < 2 ^ m := by
      have : 2 ^ (m + 1) = 2 * 2 ^ m := by rw [Nat.pow_succ]; omega
      omega
    have go : ∀ (i2 : Int32) (S : zm_S), eP B S → yw (zf_X5_writeNumber_J44 N (zf_X5_writeNumber_L6 N (m + 1)) 908 i1 i2 (Int32.ofNat p) S) (eL B) := by
      intro i2 S h
      unfold zf_X5_writeNumber_J44
      rw [hd]
      exact ih (p / 10) i2 S hlt (by omega) h
    have go2 : ∀ (i4 : Int32) (S : zm_S), eP B S → yw (zf_X5_writeNumber_J32 N (zf_X5_writeNumber_L6 N (m + 1)) 908 i1 (Int32.ofNat p) i4 S) (eL B) := by
      intro i4 S h
      unfold zf_X5_writeNumber_J32
      refine yw_o (e_zi hB h) ?_
      exact yw_t (e_write hB h) (fun r hr => go _ _ hr)
    refine yw_i (fun e => absurd ((yn_eq hp2 (b := 0) (by decide)).mp e) hp0) (fun _ => ?_)
    refine yw_i (fun _ => ?_) (fun _ => go2 _ _ h)
    refine yw_i (fun _ => ?_) (fun _ => go2 _ _ h)
    exact yw_i (fun _ => go2 _ _ h) (fun _ => go _ _ h)
theorem e_num (hB : B.2 = 2333) {S : zm_S} {i1 : Int32} (h : eP B S) : yw (zf_X5_writeNumber 4000 908 i1 S) (fun r => eP B r.2) := by
  unfold zf_X5_writeNumber
  refine yw_t (e_num_L (N := 4000) hB 3999 10000 0 S (by
    refine Nat.lt_of_lt_of_le (show 10000 < 2 ^ 14 by decide) (Nat.pow_le_pow_right (by decide) (by decide))) (by decide) h) (fun r hr => ?_)
  obtain ⟨S', rfl, h'⟩ := hr
  refine yw_o (e_zi hB h') ?_
  exact yw_t (e_write hB h') (fun r hr => yw_s hr)
theorem e_part_L (hB : B.2 = 2333) {j : Int64} {i3 : Int32} : ∀ (m k : Nat) (S : zm_S), k ≤ 8 → k < m → eP B S → yw (zf_X5_writePart_L4 N m 908 j i3 (sI k) S) (eL B) := by
  intro m
  induction m with
  | zero => intro k S h1 h2; omega
  | succ m ih =>
    intro k S h1 h2 h
    rw [zf_X5_writePart_L4]
    cases k with
    | zero => exact yw_i (fun _ => yw_s ⟨S, rfl, h⟩) (fun q => absurd (by decide) q)
    | succ k =>
      obtain ⟨a1, a2, a3⟩ := sI_s (k := k) (by omega)
      refine yw_i (fun q => absurd q a1) (fun _ => ?_)
      rw [a3]
      refine yw_i (fun _ => ih k S (by omega) (by omega) h) (fun _ => ?_)
      refine yw_o (e_zi hB h) ?_
      exact yw_t (e_write hB h) (fun r hr => ih k r.2 (by omega) (by omega) hr)
theorem e_part (hB : B.2 = 2333) {S : zm_S} {j : Int64} {i3 : Int32} (h : eP B S) : yw (zf_X5_writePart 4000 908 j i3 S) (fun r => eP B r.2) := by
  unfold zf_X5_writePart
  refine yw_t (e_part_L (N := 4000) hB 4000 8 S (by decide) (by decide) h) (fun r hr => ?_)
  obtain ⟨S', rfl, h'⟩ := hr
  refine yw_o (e_zi hB h') ?_
  refine yw_t (e_write hB h') (fun r hr => ?_)
  refine yw_o (e_zi hB hr) ?_
  exact yw_t (e_num hB hr) (fun r hr => yw_s hr)
theorem e_end (hB : B.2 = 2333) {S : zm_S} (h : eP B S) : yw (zf_X5_writeSentence_J192 4000 908 S) (fun r => eP B r.2) := by
  unfold zf_X5_writeSentence_J192
  refine yw_o (e_zi hB h) ?_
  refine yw_t (e_write hB h) (fun r hr => ?_)
  refine yw_o (e_zi hB hr) ?_
  refine yw_t (e_write hB hr) (fun r hr => ?_)
  obtain ⟨f, v, hv, e⟩ := hr
  refine yw_o (v := Int32.ofNat v) ?_ (yw_s ⟨f, v, hv, e⟩)
  rw [e]
  exact yg_i (fs := eT v) sU_s (by decide) (by show 908 < B.2; rw [hB]; decide) rfl
theorem e_zone_L (hB : B.2 = 2333) {i4 i5 : Int32} : ∀ (m k : Nat) (S : zm_S), k ≤ 12 → 12 < k + m → eP B S → yw (zf_X5_writeSentence_L68 4000 m 908 i4 i5 (Int32.ofNat k) S) (eL B) := by
  intro m
  induction m with
  | zero => intro k S h1 h2; omega
  | succ m ih =>
    intro k S h1 h2 h
    rw [zf_X5_writeSentence_L68]
    refine yw_i (fun _ => yw_s ⟨S, rfl, h⟩) (fun _ => ?_)
    refine yw_i (fun _ => yw_s ⟨S, rfl, h⟩) (fun q => ?_)
    have hk : k < 12 := by
      rcases Nat.lt_or_ge k 12 with q2 | q2
      · exact q2
      · exact absurd ((yn_le (a := 12) (b := k) (by decide) (by omega)).mpr q2) q
    refine yw_o (e_zi hB h) ?_
    refine yw_t (e_num hB h) (fun r hr => ?_)
    rw [yn_s]
    exact ih (k + 1) r.2 (by omega) (by omega) hr
theorem e_sent (hB : B.2 = 2333) {i1 i2 i3 i4 i5 : Int32} {f : Nat → Int32} (h51 : B.1 908 = .inl (5, eT 0)) (h9 : B.1 909 = .inr (3, 2200, .inl f)) : yw (zf_X5_writeSentence 4000 908 i1 i2 i3 i4 i5 B) (fun r => eP B r.2) := by
  have h0 : eP B B := by
    refine ⟨f, 0, by decide, ?_⟩
    unfold eS
    rw [sU_id h9, sU_id h51]
  unfold zf_X5_writeSentence
  refine yw_o (yg_i (fs := eT 0) (v := 0) h51 (by decide) (by rw [hB]; decide) rfl) ?_
  refine yw_o (v := B) ((yp (fs := eT 0) h51 (by decide) (by rw [hB]; decide) (by decide)).trans (congrArg some (sU_id (c := .inl (5, (eT 0).set 2 (.int 0))) h51))) ?_
  refine yw_i (fun _ => ?_) (fun _ => ?_)
  · refine yw_o (e_zi hB h0) ?_
    refine yw_t (e_part hB h0) (fun r hr => ?_)
    refine yw_o (e_zi hB hr) ?_
    refine yw_t (e_part hB hr) (fun r hr => ?_)
    refine yw_o (e_zi hB hr) ?_
    refine yw_t (e_part hB hr) (fun r hr => ?_)
    refine yw_t (e_zone_L hB 4000 1 r.2 (by decide) (by decide) hr) (fun r hr => ?_)
    obtain ⟨S', rfl, h'⟩ := hr
    exact e_end hB h'
  refine yw_i (fun _ => ?_) (fun _ => ?_)
  · refine yw_o (e_zi hB h0) ?_
    refine yw_t (e_part hB h0) (fun r hr => ?_)
    refine yw_o (e_zi hB hr) ?_
    refine yw_t (e_part hB hr) (fun r hr => ?_)
    refine yw_o (e_zi hB hr) ?_
    refine yw_t (e_part hB hr) (fun r hr => ?_)
    refine yw_o (e_zi hB hr) ?_
    exact yw_t (e_part hB hr) (fun r hr => e_end hB hr)
  refine yw_i (fun _ => ?_) (fun _ => ?_)
  · refine yw_o (e_zi hB h0) ?_
    refine yw_t (e_part hB h0) (fun r hr => ?_)
    refine yw_o (e_zi hB hr) ?_
    exact yw_t (e_part hB hr) (fun r hr => e_end hB hr)
  refine yw_i (fun _ => ?_) (fun _ => ?_)
  · refine yw_o (e_zi hB h0) ?_
    refine yw_t (e_part hB h0) (fun r hr => ?_)
    refine yw_o (e_zi hB hr) ?_
    refine yw_t (e_part hB hr) (fun r hr => ?_)
    refine yw_o (e_zi hB hr) ?_
    exact yw_t (e_part hB hr) (fun r hr => e_end hB hr)
  refine yw_o (e_zi hB h0) ?_
  exact yw_t (e_part hB h0) (fun r hr => e_end hB hr)
end SENT
