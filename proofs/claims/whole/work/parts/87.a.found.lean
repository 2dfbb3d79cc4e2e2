/-! ===== a finding, on both sides ===== -/
section FO
variable {M K A B C D D0 E F G H T V K0 M0 : qm} {a b c d k n m p r q' s t x y h i R S : Int} {ow ob : Int → Int → Int} {q stt cnt stt' cnt' : Int → Int}
theorem RIN_c {R' : Int} (h : RIN A G H p R stt cnt) (hR : R = R') (he : ∀ r, 0 ≤ r → r < R → stt r = stt' r ∧ cnt r = cnt' r) : RIN A G H p R' stt' cnt' := by
  obtain ⟨h1, h2, h3, h4, h5, h6⟩ := h
  subst hR
  refine ⟨h1, fun r r0 r1 => rng_c (h2 r r0 r1) r0 (fun i i0 i1 => he i i0 (by omega)), fun s s0 s1 => ?_, fun r r0 r1 => ?_, h5, h6⟩
  · rw [h3 s s0 s1]
    exact b01_c (cov_c he)
  · rw [← (he r r0 r1).1, ← (he r r0 r1).2]
    exact h4 r r0 r1
/-- all that a finding holds, both sides -/
def FNS (M0 K0 A D0 D E F G H C : qm) (q : Int → Int) (m p R : Int) (stt cnt : Int → Int) : Prop := R_lines M0 K0 ∧ R_ends M0 K0 ∧ R_alone M0 K0 ∧ WAL M0 A (M0 7 0 0) ∧ ofr 55 A D0 ∧ PLS K0 E ∧ RCH M0 A E F G H (M0 7 0 0) m p R stt cnt ∧ FSP A D0 D q ∧ CBS M0 A D (M0 7 0 0) ∧ CRI A D G C p R stt cnt
/-- the class's state, as it was found -/
def MAG (M C : qm) : Prop := ∀ b i j, (b = 52 ∨ b = 55 ∨ b = 56 ∨ b = 60 ∨ b = 61 ∨ b = 62 ∨ b = 283 ∨ (b = 51 ∧ (i = 3 ∨ i = 12 ∨ i = 14))) → M b i j = C b i j
/-- the reference's -/
def KAG (K H : qm) (n : Int) : Prop := (∀ b i, ((2166 ≤ b ∧ b ≤ 2167) ∨ (2174 ≤ b ∧ b ≤ 2181) ∨ (b = 2157 ∧ (i = 12 ∨ i = 13 ∨ i = 27 ∨ i = 30 ∨ i = 35))) → K b i 0 = H b i 0) ∧ ∀ l, 0 ≤ l → l < n → (K 2160 l 0) = (H 2160 l 0)
def RCU (K D E : qm) : Prop := ∀ x y, -1 ≤ x → x ≤ 24 → -1 ≤ y → y ≤ 24 → (K 2168 (kuf E x y) 0) = own D x y
/-- the finding that class and reference hold: the latest one -/
def FNW (M K M0 K0 A D0 D E F G H C : qm) (q : Int → Int) (m p R : Int) (stt cnt : Int → Int) : Prop := FNS M0 K0 A D0 D E F G H C q m p R stt cnt ∧ MAG M C ∧ KAG K H (M0 7 0 0) ∧ RCU K D E ∧ (M0 7 0 0) ≤ (M 7 0 0) ∧ ((M 51 2 0) = 1 → (M 7 0 0) = (M0 7 0 0) ∧ ∀ l j, 0 ≤ l → l < (M0 7 0 0) → (M 8 l j) = M0 8 l j)
def FND (M K : qm) : Prop := ((M 51 1 0) = 0 ∧ (M 51 2 0) = 0) ∨ ((M 51 1 0) ≠ 0 ∧ ∃ M0 K0 A D0 D E F G H C q m p R stt cnt, FNW M K M0 K0 A D0 D E F G H C q m p R stt cnt)
theorem own_o (h : ∀ i, (D 56 i 0) = (C 56 i 0)) : own D x y = own C x y := by
  unfold own ext
  split
  · exact h _
  · rfl
theorem fnw_own (h : FNW M K M0 K0 A D0 D E F G H C q m p R stt cnt) : own M x y = own D x y := by
  obtain ⟨⟨_, _, _, _, _, _, _, _, _, hC⟩, hM, _⟩ := h
  refine own_o (fun i => ?_)
  rw [hM _ i 0 (Or.inr (Or.inr (Or.inl rfl)))]
  exact hC.1 _ i 0 (by decide) (by decide) (by decide) (by decide) (by omega)
theorem fnw_axe (h : FNW M K M0 K0 A D0 D E F G H C q m p R stt cnt) : AXE E K := by
  obtain ⟨⟨_, _, _, _, _, _, hR, _⟩, _, hK, _⟩ := h
  have ax := rch_axe hR
  exact ⟨fun i => (hK.1 _ i (Or.inl (by decide))).trans (ax.1 i), fun i => (hK.1 _ i (Or.inl (by decide))).trans (ax.2.1 i), (hK.1 _ _ (Or.inr (Or.inr ⟨rfl, Or.inl rfl⟩))).trans ax.2.2.1, (hK.1 _ _ (Or.inr (Or.inr ⟨rfl, Or.inr (Or.inl rfl)⟩))).trans ax.2.2.2⟩
theorem fnw_rcx (h : FNW M K M0 K0 A D0 D E F G H C q m p R stt cnt) : RCX K (own M) := by
  have ax := fnw_axe h
  have hX := AXS_o h.1.2.2.2.2.2.2.1.1 ax
  refine ⟨hX.1, hX.2.1, fun x y x0 x1 y0 y1 => ?_, fun x y z => ext_out z⟩
  rw [kuf_o ax, fnw_own h]
  exact h.2.2.2.1 x y x0 x1 y0 y1
theorem fnd_rcx (h : FND M K) (hf : (M 51 1 0) ≠ 0) : RCX K (own M) := by
  rcases h with ⟨z, _⟩ | ⟨_, M0, K0, A, D0, D, E, F, G, H, C, q, m, p, R, stt, cnt, w⟩
  · exact absurd z hf
  · exact fnw_rcx w
/-- the turn -/
theorem turn_e (hr : (K 2157 9 0) = 0 ∨ (K 2157 9 0) = 1) : ∃ T, qf_X16_turn 20000 K = some ((), T) ∧ (∀ i, (T 2169 i 0) = (K 2166 i 0)) ∧ (∀ i, (T 2170 i 0) = (K 2167 i 0)) ∧ (∀ i, (T 2171 i 0) = (K 2168 i 0)) ∧ (∀ i, (T 2173 i 0) = (K 2172 i 0)) ∧ (T 2157 19 0) = (K 2157 12 0) ∧ (T 2157 20 0) = (K 2157 13 0) ∧ (T 2157 24 0) = (K 2157 17 0) ∧ (T 2157 18 0) = (K 2157 9 0) ∧ ∀ b i j, (b < 2166 ∨ 2173 < b) → ¬ (b = 2157 ∧ (i = 18 ∨ i = 19 ∨ i = 20 ∨ i = 24)) → T b i j = K b i j := by
  refine ⟨qw (qw (qw (qw (qsw (qsw (qsw (qsw K 2169 2166) 2170 2167) 2171 2168) 2173 2172) 2157 19 0 (K 2157 12 0)) 2157 20 0 (K 2157 13 0)) 2157 24 0 (K 2157 17 0)) 2157 18 0 (K 2157 9 0), ?_, fun i => rfl, fun i => rfl, fun i => rfl, fun i => rfl, rfl, rfl, rfl, rfl, fun b i j hb hn => ?_⟩
  · unfold qf_X16_turn
    refine qW_e (qW_bnd (qW_bnd (qW_bnd (qW_bnd ?_))))
    refine qW_pos ?_ ?_
    · exact hr
    · exact qW_bnd (qW_some rfl)
  · rw [qw_ap, if_neg (by omega), qw_ap, if_neg (by omega), qw_ap, if_neg (by omega), qw_ap, if_neg (by omega)]
    unfold qsw
    rw [if_neg (by omega), if_neg (by omega), if_neg (by omega), if_neg (by omega), if_neg (by omega), if_neg (by omega), if_neg (by omega), if_neg (by omega)]
end FO
