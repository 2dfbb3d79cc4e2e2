/-! ===== the reference's sentence: at most 104 of its 200 letters ===== -/
section MAKE
variable {N : Nat} {B : zm_S}
def mT (v : Nat) : List Value := [.int 0, .int 0, .ref 2209, .ref 2210, .ref 2211, .ref 2212, .int 0, .int 0, .ref 2213, .ref 2214, .int 0, .int 0, .ref 2215, .ref 2216, .ref 2217, .ref 2218, .ref 2219, .ref 2220, .ref 2221, .ref 2222, .ref 2223, .int 0, .int 0, .ref 2224, .ref 2225, .ref 2226, .ref 2227, .ref 2228, .ref 2229, .ref 2230, .int 0, .ref 2231, .ref 2232, .ref 2233, .ref 2234, .int (Int32.ofNat v)]
def mS (B : zm_S) (f : Nat → Int32) (v : Nat) : zm_S := sU (sU B 2234 (.inr (0, 200, .inl f))) 2208 (.inl (14, mT v))
def mP (B : zm_S) (n : Nat) (S : zm_S) : Prop := ∃ (f : Nat → Int32) (v : Nat), v ≤ n ∧ S = mS B f v
theorem mP.up {n m : Nat} {S : zm_S} (h : mP B n S) (hm : n ≤ m) : mP B m S := by
  obtain ⟨f, v, hv, e⟩ := h
  exact ⟨f, v, by omega, e⟩
theorem m_zi (hB : 2334 ≤ B.2 + 1) {n : Nat} {S : zm_S} (h : mP B n S) : zi S 2208 14 = some () := by
  obtain ⟨f, v, hv, rfl⟩ := h
  exact yi (fs := mT v) sU_s (by decide) (by show 2208 < B.2; omega)
theorem m_let (hB : 2334 ≤ B.2 + 1) {n : Nat} {S : zm_S} {c : Int32} (h : mP B n S) (hn : n < 200) : yw (zf_X14_letter N 2208 c S) (fun r => mP B (n + 1) r.2) := by
  obtain ⟨f, v, hv, rfl⟩ := h
  have h2 : 2333 ≤ (mS B f v).2 := by show 2333 ≤ B.2; omega
  unfold zf_X14_letter
  refine yw_o (yg_r (fs := mT v) (b := 2234) sU_s (by decide) (by omega) rfl) ?_
  refine yw_o (yg_i (fs := mT v) (v := Int32.ofNat v) sU_s (by decide) (by omega) rfl) ?_
  refine yw_o (ys_i (n := 200) (f := f) ((sU_n (by decide)).trans sU_s) (by decide) (by omega) (by omega) (by decide)) ?_
  refine yw_o (yg_i (fs := mT v) (v := Int32.ofNat v) ((sU_n (by decide)).trans sU_s) (by decide) (by show 2208 < (mS B f v).2; omega) rfl) ?_
  refine yw_o (yp (fs := mT v) ((sU_n (by decide)).trans sU_s) (by decide) (by show 2208 < (mS B f v).2; omega) (Nat.le_of_ble_eq_true rfl)) ?_
  refine yw_s ⟨upd f v c, v + 1, by omega, ?_⟩
  show sU (sU (sU (sU B 2234 _) 2208 _) 2234 _) 2208 (.inl (14, (mT v).set 35 (.int (Int32.ofNat v + 1)))) = _
  rw [sU_cm (a := 2208) (b := 2234) (by decide), sU_sU, sU_sU, yn_s]
  rfl
theorem m_n5 (hB : 2334 ≤ B.2 + 1) {n : Nat} {S : zm_S} {i : Int32} (h : mP B n S) (hn : n + 2 ≤ 200) : yw (zf_X14_number_J81 N 2208 i S) (fun r => mP B (n + 2) r.2) := by
  unfold zf_X14_number_J81
  refine yw_o (m_zi hB h) ?_
  refine yw_t (m_let hB h (by omega)) (fun r hr => ?_)
  refine yw_o (m_zi hB hr) ?_
  exact yw_t (m_let hB hr (by omega)) (fun r hr => yw_s hr)
theorem m_n4 (hB : 2334 ≤ B.2 + 1) {n : Nat} {S : zm_S} {i : Int32} (h : mP B n S) (hn : n + 3 ≤ 200) : yw (zf_X14_number_J61 N 2208 i S) (fun r => mP B (n + 3) r.2) := by
  unfold zf_X14_number_J61
  refine yw_i (fun _ => yw_m (m_n5 hB h (by omega)) (fun r hr => hr.up (by omega))) (fun _ => ?_)
  refine yw_o (m_zi hB h) ?_
  exact yw_t (m_let hB h (by omega)) (fun r hr => m_n5 hB hr (by omega))
theorem m_n3 (hB : 2334 ≤ B.2 + 1) {n : Nat} {S : zm_S} {i : Int32} (h : mP B n S) (hn : n + 4 ≤ 200) : yw (zf_X14_number_J41 N 2208 i S) (fun r => mP B (n + 4) r.2) := by
  unfold zf_X14_number_J41
  refine yw_i (fun _ => yw_m (m_n4 hB h (by omega)) (fun r hr => hr.up (by omega))) (fun _ => ?_)
  refine yw_o (m_zi hB h) ?_
  exact yw_t (m_let hB h (by omega)) (fun r hr => m_n4 hB hr (by omega))
theorem m_n2 (hB : 2334 ≤ B.2 + 1) {n : Nat} {S : zm_S} {i : Int32} (h : mP B n S) (hn : n + 5 ≤ 200) : yw (zf_X14_number_J19 N 2208 i S) (fun r => mP B (n + 5) r.2) := by
  unfold zf_X14_number_J19
  refine yw_i (fun _ => yw_m (m_n3 hB h (by omega)) (fun r hr => hr.up (by omega))) (fun _ => ?_)
  refine yw_o (m_zi hB h) ?_
  exact yw_t (m_let hB h (by omega)) (fun r hr => m_n3 hB hr (by omega))
theorem m_num (hB : 2334 ≤ B.2 + 1) {n : Nat} {S : zm_S} {i : Int32} (h : mP B n S) (hn : n + 6 ≤ 200) : yw (zf_X14_number N 2208 i S) (fun r => mP B (n + 6) r.2) := by
  unfold zf_X14_number
  refine yw_i (fun _ => yw_m (m_n2 hB h (by omega)) (fun r hr => hr.up (by omega))) (fun _ => ?_)
  refine yw_o (m_zi hB h) ?_
  exact yw_t (m_let hB h (by omega)) (fun r hr => m_n2 hB hr (by omega))
theorem m_word_L (hB : 2334 ≤ B.2 + 1) : ∀ (m p n q : Nat) (S : zm_S), p < 32 ^ m → p < 2147483648 → m < q → mP B n S → n + m ≤ 200 → yw (zf_X14_word_L2 N q 2208 (Int32.ofNat p) S) (fun r => ∃ S', r = .inr ((), S') ∧ mP B (n + m) S') := by
  intro m
  induction m with
  | zero =>
    intro p n q S hp hp2 hq h hn
    have : p = 0 := by omega
    subst this
    cases q with
    | zero => omega
    | succ q =>
      rw [zf_X14_word_L2]
      exact yw_i (fun _ => yw_s ⟨S, rfl, h⟩) (fun q => absurd (by decide) q)
  | succ m ih =>
    intro p n q S hp hp2 hq h hn
    cases q with
    | zero => omega
    | succ q =>
      rw [zf_X14_word_L2]
      refine yw_i (fun _ => yw_s ⟨S, rfl, h.up (by omega)⟩) (fun _ => ?_)
      have hd : Int32.ofNat p / (32 : Int32) = Int32.ofNat (p / 32) := (Int32.ofNat_div (a := p) (b := 32) hp2 (by decide)).symm
      have hlt : p / 32 < 32 ^ m := by
        have : 32 ^ (m + 1) = 32 * 32 ^ m := by rw [Nat.pow_succ]; omega
        omega
      refine yw_o (m_zi hB h) ?_
      refine yw_t (m_let hB h (by omega)) (fun r hr => ?_)
      rw [hd]
      refine yw_m (ih (p / 32) (n + 1) q r.2 hlt (by omega) (by omega) hr (by omega)) (fun r hr => ?_)
      obtain ⟨S', e, h'⟩ := hr
      exact ⟨S', e, h'.up (by omega)⟩
theorem m_word (hB : 2334 ≤ B.2 + 1) {n p : Nat} {S : zm_S} (hp : p < 32 ^ 5) (h : mP B n S) (hn : n + 6 ≤ 200) : yw (zf_X14_word 4000 2208 (Int32.ofNat p) S) (fun r => mP B (n + 6) r.2) := by
  unfold zf_X14_word
  refine yw_t (m_word_L (N := 4000) hB 5 p n 4000 S hp (by omega) (by decide) h (by omega)) (fun r hr => ?_)
  obtain ⟨S', rfl, h'⟩ := hr
  refine yw_o (m_zi hB h') ?_
  exact yw_t (m_let hB h' (by omega)) (fun r hr => yw_s hr)
theorem m_stop (hB : 2334 ≤ B.2 + 1) {n : Nat} {S : zm_S} (h : mP B n S) (hn : n + 2 ≤ 200) : yw (zf_X14_stop N 2208 S) (fun r => mP B (n + 2) r.2) := by
  unfold zf_X14_stop
  refine yw_o (m_zi hB h) ?_
  refine yw_t (m_let hB h (by omega)) (fun r hr => ?_)
  refine yw_o (m_zi hB hr) ?_
  exact yw_t (m_let hB hr (by omega)) (fun r hr => yw_s hr)
theorem m_zone_L (hB : 2334 ≤ B.2 + 1) {i4 i5 : Int32} (h5 : i5 ≤ 12) : ∀ (m k n : Nat) (S : zm_S), k ≤ 12 → 12 < k + m → mP B n S → n + 6 * (12 - k) ≤ 200 → yw (zf_X14_sentence_L66 4000 m 2208 i4 i5 (Int32.ofNat k) S) (fun r => ∃ S', r = .inr ((), S') ∧ mP B (n + 6 * (12 - k)) S') := by
  intro m
  induction m with
  | zero => intro k n S h1 h2; omega
  | succ m ih =>
    intro k n S h1 h2 h hn
    rw [zf_X14_sentence_L66]
    refine yw_i (fun _ => yw_s ⟨S, rfl, h.up (by omega)⟩) (fun q => ?_)
    have hk : k < 12 := by
      rcases Nat.lt_or_ge k 12 with q2 | q2
      · exact q2
      · have : k = 12 := by omega
        subst this
        exact absurd h5 q
    refine yw_o (m_zi hB h) ?_
    refine yw_t (m_num hB h (by omega)) (fun r hr => ?_)
    rw [yn_s]
    refine yw_m (ih (k + 1) (n + 6) r.2 (by omega) (by omega) hr (by omega)) (fun r hr => ?_)
    obtain ⟨S', e, h'⟩ := hr
    exact ⟨S', e, h'.up (by omega)⟩
theorem m_184 (hB : 2334 ≤ B.2 + 1) {n : Nat} {S : zm_S} {i : Int32} (h : mP B n S) (hn : n + 8 ≤ 200) : yw (zf_X14_sentence_J184 N 2208 2208 i S) (fun r => mP B 200 r.2) := by
  unfold zf_X14_sentence_J184
  refine yw_o (m_zi hB h) ?_
  refine yw_t (m_num hB h (by omega)) (fun r hr => ?_)
  refine yw_o (m_zi hB hr) ?_
  exact yw_t (m_stop hB hr (by omega)) (fun r hr => yw_s (hr.up (by omega)))
theorem m_166 (hB : 2334 ≤ B.2 + 1) {n : Nat} {S : zm_S} {i1 i3 i4 : Int32} (h : mP B n S) (hn : n + 14 ≤ 200) : yw (zf_X14_sentence_J166 4000 2208 i1 i3 i4 S) (fun r => mP B 200 r.2) := by
  unfold zf_X14_sentence_J166
  refine yw_o (m_zi hB h) ?_
  refine yw_t (m_word hB (p := 628196) (by decide) h (by omega)) (fun r hr => ?_)
  exact yw_i (fun _ => m_184 hB hr (by omega)) (fun _ => m_184 hB hr (by omega))
theorem m_144 (hB : 2334 ≤ B.2 + 1) {n : Nat} {S : zm_S} {i1 i3 i4 : Int32} (h : mP B n S) (hn : n + 22 ≤ 200) : yw (zf_X14_sentence_J144 4000 2208 i1 i3 i4 S) (fun r => mP B 200 r.2) := by
  unfold zf_X14_sentence_J144
  refine yw_i (fun _ => ?_) (fun _ => m_166 hB h (by omega))
  refine yw_o (m_zi hB h) ?_
  refine yw_t (m_let hB h (by omega)) (fun r hr => ?_)
  refine yw_o (m_zi hB hr) ?_
  refine yw_t (m_let hB hr (by omega)) (fun r hr => ?_)
  refine yw_o (m_zi hB hr) ?_
  exact yw_t (m_num hB hr (by omega)) (fun r hr => m_166 hB hr (by omega))
theorem m_33 (hB : 2334 ≤ B.2 + 1) {S : zm_S} {i1 i2 i3 i4 i5 : Int32} {p : Nat} (hp : p < 32 ^ 5) (h5 : i1 = 0 → i5 ≤ 12) (h : mP B 0 S) : yw (zf_X14_sentence_J33 4000 2208 i1 i2 i3 i4 i5 2208 (Int32.ofNat p) S) (fun r => mP B 200 r.2) := by
  unfold zf_X14_sentence_J33
  refine yw_o (m_zi hB h) ?_
  refine yw_t (m_word hB hp h (by omega)) (fun r hr => ?_)
  refine yw_o (m_zi hB hr) ?_
  refine yw_t (m_num hB hr (by omega)) (fun r hr => ?_)
  refine yw_i (fun hz => ?_) (fun _ => ?_)
  · refine yw_o (m_zi hB hr) ?_
    refine yw_t (m_word hB (p := 20059310) (by decide) hr (by omega)) (fun r hr => ?_)
    refine yw_o (m_zi hB hr) ?_
    refine yw_t (m_num hB hr (by omega)) (fun r hr => ?_)
    refine yw_o (m_zi hB hr) ?_
    refine yw_t (m_word hB (p := 207) (by decide) hr (by omega)) (fun r hr => ?_)
    refine yw_t (m_zone_L hB (h5 hz) 4000 0 _ r.2 (by decide) (by decide) hr (by omega)) (fun r hr => ?_)
    obtain ⟨S', rfl, h'⟩ := hr
    refine yw_o (m_zi hB h') ?_
    exact yw_t (m_stop hB h' (by omega)) (fun r hr => yw_s (hr.up (by omega)))
  refine yw_i (fun _ => ?_) (fun _ => ?_)
  · refine yw_o (m_zi hB hr) ?_
    refine yw_t (m_word hB (p := 145707) (by decide) hr (by omega)) (fun r hr => ?_)
    refine yw_o (m_zi hB hr) ?_
    refine yw_t (m_num hB hr (by omega)) (fun r hr => ?_)
    refine yw_o (m_zi hB hr) ?_
    refine yw_t (m_word hB (p := 374834) (by decide) hr (by omega)) (fun r hr => ?_)
    refine yw_o (m_zi hB hr) ?_
    refine yw_t (m_num hB hr (by omega)) (fun r hr => ?_)
    refine yw_o (m_zi hB hr) ?_
    refine yw_t (m_word hB (p := 26259620) (by decide) hr (by omega)) (fun r hr => ?_)
    refine yw_o (m_zi hB hr) ?_
    refine yw_t (m_num hB hr (by omega)) (fun r hr => ?_)
    refine yw_o (m_zi hB hr) ?_
    exact yw_t (m_stop hB hr (by omega)) (fun r hr => yw_s (hr.up (by omega)))
  refine yw_i (fun _ => m_144 hB hr (by omega)) (fun _ => ?_)
  refine yw_i (fun _ => m_144 hB hr (by omega)) (fun _ => ?_)
  refine yw_o (m_zi hB hr) ?_
  exact yw_t (m_stop hB hr (by omega)) (fun r hr => yw_s (hr.up (by omega)))
theorem m_make (hB : 2334 ≤ B.2 + 1) {i1 i2 i3 i4 i5 : Int32} {f : Nat → Int32} (h5 : i1 = 0 → i5 ≤ 12) (h1 : B.1 2208 = .inl (14, mT 0)) (h2 : B.1 2234 = .inr (0, 200, .inl f)) : yw (zf_X14_make 4000 2208 i1 i2 i3 i4 i5 B) (fun r => mP B 200 r.2) := by
  have h0 : mP B 0 B := by
    refine ⟨f, 0, by decide, ?_⟩
    unfold mS
    rw [sU_id h2, sU_id h1]
  unfold zf_X14_make
  refine yw_o (v := B) ((yp (fs := mT 0) h1 (by decide) (by omega) (by decide)).trans (congrArg some (sU_id (c := .inl (14, (mT 0).set 35 (.int 0))) h1))) ?_
  refine yw_o (m_zi hB h0) ?_
  refine yw_t (Q := fun r => mP B 200 r.2) ?_ (fun r hr => yw_s hr)
  unfold zf_X14_sentence
  refine yw_i (fun _ => m_33 hB (p := 178682) (by decide) h5 h0) (fun _ => ?_)
  refine yw_i (fun _ => m_33 hB (p := 20577) (by decide) h5 h0) (fun _ => ?_)
  exact yw_i (fun _ => m_33 hB (p := 143848) (by decide) h5 h0) (fun _ => m_33 hB (p := 464151) (by decide) h5 h0)
end MAKE
