/-! ===== doors in pieces ===== -/
section WQ
variable {M K N A B C D D0 E F G H T V K0 M0 : qm} {a b c d k n m p r q' s t u v x y h i j R S w l : Int} {q stt cnt o f : Int → Int} {P : Int → Prop}
def loA (M G : qm) (s : Int) : Int := (G 2174 (G 2177 (s / 2) 0) 0) - (M 8 (sL G s) 0) + (G 2175 (G 2177 (s / 2) 0) 0) - (M 8 (sL G s) 1)
def OVD (M : qm) (l a n e : Int) : Prop := ∃ t, (M 30 l (3 * e)) ≤ t ∧ t < (M 30 l (3 * e + 1)) ∧ a ≤ t ∧ t < a + n
/-- a door is in a side -/
def HDP (M G : qm) (s : Int) : Prop := ∃ d, 0 ≤ d ∧ d < (M 29 (sL G s) 0) ∧ OVD M (sL G s) (loA M G s) (sN G s) d
def CUR (M M0 : qm) : Prop := (M 7 0 0) = (M0 7 0 0) ∧ ∀ l j, 0 ≤ l → l < (M0 7 0 0) → (M 8 l j) = M0 8 l j
theorem FNW_k (h : FNW M K M0 K0 A D0 D E F G H C q m p R stt cnt) (hN : ∀ b i j, b ≠ 2183 → N b i j = K b i j) : FNW M N M0 K0 A D0 D E F G H C q m p R stt cnt :=
  ⟨h.1, h.2.1, ⟨fun b i hb => (hN b i 0 (by omega)).trans (h.2.2.1.1 b i hb), fun l l0 l1 => (hN _ _ _ (by decide)).trans (h.2.2.1.2 l l0 l1)⟩, fun x y a b c d => (hN _ _ _ (by decide)).trans (by
    rw [show kuf E x y = kuf E x y from rfl]
    exact h.2.2.2.1 x y a b c d), h.2.2.2.2⟩
theorem shrd_e (a0 : -1000 ≤ a) (a1 : a ≤ 1000) (b0 : -1000 ≤ b) (b1 : b ≤ 1000) (c0 : -1000 ≤ c) (c1 : c ≤ 1000) (d0 : -1000 ≤ d) (d1 : d ≤ 1000) : ∃ z, qf_X16_shared 20000 a b c d K = some z ∧ ((z ≤ 0 ∧ (b ≤ a ∨ b ≤ c ∨ d ≤ a ∨ d ≤ c)) ∨ (0 < z ∧ a < b ∧ c < b ∧ a < d ∧ c < d)) := by
  have j22 : ∀ x y : Int, -1000 ≤ x → x ≤ 1000 → -1000 ≤ y → y ≤ 1000 → ∃ z, qf_X16_shared_J22 20000 x y K = some z ∧ ((z ≤ 0 ∧ y ≤ x) ∨ (0 < z ∧ x < y)) := fun x y x0 x1 y0 y1 => by
    unfold qf_X16_shared_J22
    by_cases g : y ≤ x
    · rw [if_pos g]
      exact ⟨0, rfl, Or.inl ⟨by decide, g⟩⟩
    · rw [if_neg g, w32_id (by omega) (by omega)]
      exact ⟨_, rfl, Or.inr ⟨by omega, by omega⟩⟩
  unfold qf_X16_shared qf_X16_shared_J10
  by_cases g1 : a ≤ c
  · rw [if_pos g1]
    by_cases g2 : d ≤ b
    · rw [if_pos g2]
      obtain ⟨z, e, y⟩ := j22 c d c0 c1 d0 d1
      exact ⟨z, e, by omega⟩
    · rw [if_neg g2]
      obtain ⟨z, e, y⟩ := j22 c b c0 c1 b0 b1
      exact ⟨z, e, by omega⟩
  · rw [if_neg g1]
    by_cases g2 : d ≤ b
    · rw [if_pos g2]
      obtain ⟨z, e, y⟩ := j22 a d a0 a1 d0 d1
      exact ⟨z, e, by omega⟩
    · rw [if_neg g2]
      obtain ⟨z, e, y⟩ := j22 a b a0 a1 b0 b1
      exact ⟨z, e, by omega⟩
/-- where a piece lies along its line -/
theorem loA_b (h : FNW M K M0 K0 A D0 D E F G H C q m p R stt cnt) (hc : CUR M M0) (s0 : 0 ≤ s) (s1 : s < 2 * p) : 0 ≤ loA M G s ∧ loA M G s ≤ 48 ∧ 1 ≤ sN G s ∧ sN G s ≤ 24 ∧ 0 ≤ sL G s ∧ sL G s < (M 7 0 0) ∧ sL G s < 20 := by
  have fp := fnw_fpi h
  have ok := (fnw_ok h s0 s1).1
  have o := fp.2.1.2.2.2.2.2.2.2.2.1 (s / 2) (by omega) (by omega)
  have s_lines := h.1.1
  unfold R_lines at s_lines
  obtain ⟨o0, o1, a0, ab, bm, oa, ob, _⟩ := o
  have pt := fp.2.1.2.1.2.1 _ a0 (by omega)
  unfold onp onL at oa
  have e0 := hc.2 (sL G s) 0 o0 o1
  have e1 := hc.2 (sL G s) 1 o0 o1
  have n1 := ok.1.1
  have n2 := ok.1.2.1
  unfold loA
  have c := hc.1
  unfold sL at e0 e1 ⊢
  have el := ends_b h.1.2.1 o0 o1
  refine ⟨by omega, by omega, by omega, by omega, by omega, by omega, by omega⟩
theorem hasDoor_e (h_ends : R_ends M K) (h_doorn : R_doorn M K) (h_doors : R_doors M K) (h : FNW M K M0 K0 A D0 D E F G H C q m p R stt cnt) (hc : CUR M M0) (s0 : 0 ≤ s) (s1 : s < 2 * p) : ∃ z, qf_X16_hasDoor 20000 s K = some z ∧ ((z = 0 ∧ ¬ HDP M G s) ∨ (z = 1 ∧ HDP M G s)) := by
  have fp := fnw_fpi h
  have so := fnw_sid h
  have kg := fnw_kag h
  have lo := loA_b h hc s0 s1
  have p5 := fp.1.2.2.2.2.2.2.2.1
  have o := fp.1.2.2.2.2.2.2.2.2.1 (s / 2) (by omega) (by omega)
  have m5 := fp.1.2.2.2.1
  obtain ⟨o0, o1, a0, ab, bm, oa, ob, _⟩ := o
  have pt := fp.1.2.1.2.1 _ a0 (by omega)
  have kl : (K 2176 (s / 2) 0) = sL G s := so.2.2.1 s
  have kf : (K 2177 (s / 2) 0) = (G 2177 (s / 2) 0) := kg.1 _ _ (by omega)
  have kx : ∀ i, (K 2174 i 0) = (G 2174 i 0) := fun i => kg.1 _ _ (by omega)
  have ky : ∀ i, (K 2175 i 0) = (G 2175 i 0) := fun i => kg.1 _ _ (by omega)
  have elo : loA M G s = (K 2174 (K 2177 (s / 2) 0) 0) - (M 8 (sL G s) 0) + (K 2175 (K 2177 (s / 2) 0) 0) - (M 8 (sL G s) 1) := by
    unfold loA
    rw [kf, kx, ky]
  obtain ⟨l, hl⟩ : ∃ l, sL G s = l := ⟨_, rfl⟩
  obtain ⟨a, ha⟩ : ∃ a, loA M G s = a := ⟨_, rfl⟩
  obtain ⟨n, hn⟩ : ∃ n, sN G s = n := ⟨_, rfl⟩
  unfold HDP
  rw [hl] at kl elo ⊢
  rw [hl, ha, hn] at lo
  rw [ha] at elo
  rw [ha, hn]
  have re := h_ends l (by omega) (by omega)
  have rn := h_doorn l (by omega) (by omega)
  have td : Int.tdiv s 2 = s / 2 := Int.tdiv_eq_ediv_of_nonneg s0
  show qW _ (fun z => ((z = 0 ∧ ¬ ∃ d, 0 ≤ d ∧ d < (M 29 l 0) ∧ OVD M l a n d) ∨ (z = 1 ∧ ∃ d, 0 ≤ d ∧ d < (M 29 l 0) ∧ OVD M l a n d)))
  unfold qf_X16_hasDoor
  rw [td, kl, if_pos (by omega), if_pos (by omega), if_pos (by omega), if_pos (by omega), if_pos (by omega), if_pos (by omega)]
  obtain ⟨X, hX⟩ : ∃ X, (K 2174 (K 2177 (s / 2) 0) 0) = X := ⟨_, rfl⟩
  obtain ⟨Y, hY⟩ : ∃ Y, (K 2175 (K 2177 (s / 2) 0) 0) = Y := ⟨_, rfl⟩
  rw [hX, hY] at pt elo ⊢
  have ex : (K 2158 l 0) = (M 8 l 0) := re.2.2.1.symm
  have ey : (K 2159 l 0) = (M 8 l 1) := re.2.2.2.1.symm
  have eb := ends_b h_ends (l := l) (by omega) (by omega)
  rw [ex, ey, w32_id (x := X - (M 8 l 0)) (by omega) (by omega), w32_id (x := X - (M 8 l 0) + Y) (by omega) (by omega), w32_id (x := X - (M 8 l 0) + Y - (M 8 l 1)) (by omega) (by omega), w32_id (x := 6 * l) (by omega) (by omega), ← elo]
  refine qW_call (Q := fun o => ∃ z, o = .inr z ∧ ((z = 0 ∧ ¬ ∃ d, 0 ≤ d ∧ d < (M 29 l 0) ∧ OVD M l a n d) ∨ (z = 1 ∧ ∃ d, 0 ≤ d ∧ d < (M 29 l 0) ∧ OVD M l a n d))) ?_ ?_
  · unfold qf_X16_hasDoor_L56
    refine qW_for (M 29 l 0) (fun d u => ∃ z, u = (s, l, a, z, 6 * l + d) ∧ ((z = 0 ∧ ¬ ∃ e, 0 ≤ e ∧ e < d ∧ OVD M l a n e) ∨ (z = 1 ∧ ∃ e, 0 ≤ e ∧ e < d ∧ OVD M l a n e))) ?_ ?_ ⟨0, by rw [Int.add_zero], Or.inl ⟨rfl, fun ⟨e, e0, e1, _⟩ => by omega⟩⟩ (by omega) (by omega)
    · rintro d _ d0 d1 ⟨z, rfl, hz⟩
      have rd := h_doors l d (by omega) (by omega) d0 d1
      obtain ⟨f, hf⟩ : ∃ f, (M 30 l (3 * d)) = f := ⟨_, rfl⟩
      obtain ⟨g, hg⟩ : ∃ g, (M 30 l (3 * d + 1)) = g := ⟨_, rfl⟩
      have len : (K 2161 l 0) ≤ 24 := by
        rcases re.1 with z | z
        · rw [z, if_pos rfl, if_pos rfl] at re
          omega
        · rw [z, if_neg (by decide), if_neg (by decide)] at re
          omega
      unfold qf_X16_hasDoor_L56_b qf_X16_hasDoor_J107
      (try dsimp only)
      rw [rn.1, if_pos (by omega), w32_id (x := 6 * l) (by omega) (by omega), w32_id (x := 6 * l + (M 29 l 0)) (by omega) (by omega), if_neg (by omega), w32_id (x := 6 * l + d + 1) (by omega) (by omega), show 6 * l + d + 1 = 6 * l + (d + 1) by omega]
      have keep : (∃ e, 0 ≤ e ∧ e < d ∧ OVD M l a n e) → ∃ e, 0 ≤ e ∧ e < d + 1 ∧ OVD M l a n e := fun ⟨e, e0, e1, e2⟩ => ⟨e, e0, by omega, e2⟩
      rcases hz with ⟨rfl, hz⟩ | ⟨rfl, hz⟩
      · rw [if_pos rfl]
        refine qW_eq (use_len h s0 s1) ?_
        rw [hn, if_pos (by omega), if_pos (by omega), w32_id (x := a + n) (by omega) (by omega), rd.1, rd.2.1, hf, hg]
        obtain ⟨w, ew, hw⟩ := shrd_e (K := K) (a := a) (b := a + n) (c := f) (d := g) (by omega) (by omega) (by omega) (by omega) (by omega) (by omega) (by omega) (by omega)
        refine qW_eq ew ?_
        rcases hw with ⟨w0, hw⟩ | ⟨w0, hw⟩
        · rw [if_pos w0]
          refine qW_some ⟨0, rfl, Or.inl ⟨rfl, ?_⟩⟩
          rintro ⟨e, e0, e1, t, t0, t1, t2, t3⟩
          by_cases ed : e = d
          · rw [ed, hf] at t0
            rw [ed, hg] at t1
            omega
          · exact hz ⟨e, e0, by omega, t, t0, t1, t2, t3⟩
        · rw [if_neg (by omega)]
          refine qW_some ⟨1, rfl, Or.inr ⟨rfl, d, d0, by omega, ?_⟩⟩
          by_cases ga : a ≤ f
          · exact ⟨f, by omega, by omega, by omega, by omega⟩
          · exact ⟨a, by omega, by omega, by omega, by omega⟩
      · rw [if_neg (by decide)]
        exact qW_some ⟨1, rfl, Or.inr ⟨rfl, keep hz⟩⟩
    · rintro _ ⟨z, rfl, hz⟩
      unfold qf_X16_hasDoor_L56_b
      (try dsimp only)
      rw [rn.1, if_pos (by omega), w32_id (x := 6 * l) (by omega) (by omega), w32_id (x := 6 * l + (M 29 l 0)) (by omega) (by omega), if_pos (by omega)]
      exact qW_some ⟨z, rfl, hz⟩
  · rintro _ ⟨z, rfl, hz⟩
    (try dsimp only)
    rw [if_pos (by omega)]
    exact qW_some hz
end WQ
