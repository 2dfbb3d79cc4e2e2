/-! ===== edges are sides with doors ===== -/
section WR
variable {M K N A B C D D0 E F G H T V K0 M0 : qm} {a b c d k n m p r q' s t u v x y h i j R S w l : Int} {q stt cnt o f : Int → Int} {P : Int → Prop}
theorem ux_one (h : uxx M l t = uxx M l i) (h2 : uyy M l t = uyy M l i) : t = i := by
  unfold uxx at h
  unfold uyy at h2
  by_cases g : (M 8 l 1) = (M 8 l 3)
  · rw [if_pos g, if_pos g] at h
    omega
  · rw [if_neg g, if_neg g] at h2
    omega
theorem side_unit (h : FNW M K M0 K0 A D0 D E F G H C q m p R stt cnt) (hc : CUR M M0) (s0 : 0 ≤ s) (s1 : s < p) (i0 : 0 ≤ i) (i1 : i < sN G (2 * s)) : dll M (sL G (2 * s)) = sW G (2 * s) ∧ uxx M (sL G (2 * s)) (loA M G (2 * s) + i) = gx (sW G (2 * s)) (sX G (2 * s)) i ∧ uyy M (sL G (2 * s)) (loA M G (2 * s) + i) = gy (sW G (2 * s)) (sY G (2 * s)) i := by
  have ok := (fnw_ok h (by omega : 0 ≤ 2 * s) (by omega)).1
  obtain ⟨w, u, n0, n24⟩ := memU_w h s0 s1
  have rr := u i i0 i1
  have eq : wf A (sW G (2 * s)) (gx (sW G (2 * s)) (sX G (2 * s)) i) (gy (sW G (2 * s)) (sY G (2 * s)) i) = sL G (2 * s) := (ok.1.2.2.2.1 i i0 i1).trans ok.2.1
  have ww := wall_wf h.1.2.1 h.1.2.2.2.1 rr.1 rr.2.1 rr.2.2.1 rr.2.2.2.1 (d := sW G (2 * s)) (by omega) (by omega)
  have on := h.1.2.2.2.1.2 (sW G (2 * s)) _ _ (by omega) (by omega) rr.1 rr.2.1 rr.2.2.1 rr.2.2.2.1
  rw [ww, eq] at on
  have s0L := ok.2.2.1
  rcases on with ⟨z, _⟩ | ⟨_, l1, on⟩
  · omega
  have e := fun j => hc.2 (sL G (2 * s)) j s0L l1
  have lx : loA M G (2 * s) = sX G (2 * s) - (M 8 (sL G (2 * s)) 0) + sY G (2 * s) - (M 8 (sL G (2 * s)) 1) := by
    unfold loA sX sY sF
    rw [if_pos (show 2 * s % 2 = 0 by omega)]
  unfold onU at on
  rw [← e 0, ← e 1, ← e 2, ← e 3] at on
  rw [lx]
  unfold dll uxx uyy
  rcases on with ⟨w0, g, y1, x0, x1⟩ | ⟨w0, g, x1, y0, y1⟩
  · rw [w0] at x0 x1 y1 ⊢
    have gx0 : gx 0 (sX G (2 * s)) i = sX G (2 * s) + i := rfl
    have gy0 : gy 0 (sY G (2 * s)) i = sY G (2 * s) := rfl
    rw [gx0] at x0 x1 ⊢
    rw [gy0] at y1 ⊢
    rw [if_pos g, if_pos g, if_pos g]
    exact ⟨rfl, by omega, by omega⟩
  · rw [w0] at y0 y1 x1 ⊢
    have gx0 : gx 1 (sX G (2 * s)) i = sX G (2 * s) := rfl
    have gy0 : gy 1 (sY G (2 * s)) i = sY G (2 * s) + i := rfl
    rw [gy0] at y0 y1 ⊢
    rw [gx0] at x1 ⊢
    rw [if_neg g, if_neg g, if_neg g]
    exact ⟨rfl, by omega, by omega⟩
theorem fnw_oF (h : FNW M K M0 K0 A D0 D E F G H C q m p R stt cnt) : oF M = oF D := by
  funext v
  show M 56 v 0 = D 56 v 0
  rw [h.2.1 _ v 0 (by omega)]
  exact h.1.2.2.2.2.2.2.2.2.2.1 _ v 0 (by decide) (by decide) (by decide) (by decide) (by omega)
theorem side_lr (h : FNW M K M0 K0 A D0 D E F G H C q m p R stt cnt) (hc : CUR M M0) (s0 : 0 ≤ s) (s1 : s < p) (i0 : 0 ≤ i) (i1 : i < sN G (2 * s)) : lef M (sL G (2 * s)) (loA M G (2 * s) + i) = lfs D G (2 * s) ∧ rit M (sL G (2 * s)) (loA M G (2 * s) + i) = lfs D G (2 * s + 1) := by
  have u := side_unit h hc s0 s1 i0 i1
  have lr := unit_lr h s0 s1 i0 i1
  unfold lef rit
  rw [u.1, u.2.1, u.2.2, fnw_oF h]
  exact lr
/-- the two sides of a piece lie alike -/
theorem two_e : sL G (2 * s + 1) = sL G (2 * s) ∧ loA M G (2 * s + 1) = loA M G (2 * s) ∧ sN G (2 * s + 1) = sN G (2 * s) := by
  unfold sL loA sN sL
  rw [show (2 * s + 1) / 2 = s by omega, show 2 * s / 2 = s by omega]
  exact ⟨rfl, rfl, rfl⟩
theorem HDP_two : HDP M G (2 * s + 1) ↔ HDP M G (2 * s) := by
  unfold HDP
  have w := two_e (M := M) (G := G) (s := s)
  rw [w.1, w.2.1, w.2.2]
theorem edg_side (h_doorn : R_doorn M K) (h_doors : R_doors M K) (h : FNW M K M0 K0 A D0 D E F G H C q m p R stt cnt) (h_ends : R_ends M K) (hc : CUR M M0) : EDG M u v ↔ ∃ s, 0 ≤ s ∧ s < 2 * p ∧ HDP M G s ∧ lfs D G s = u ∧ lfs D G (flp s) = v := by
  have f0 : ∀ s, flp (2 * s) = 2 * s + 1 := fun s => by
    unfold flp
    rw [if_pos (by omega)]
  have f1 : ∀ s, flp (2 * s + 1) = 2 * s := fun s => by
    unfold flp
    rw [if_neg (by omega)]
    omega
  constructor
  · rintro ⟨l, d, t, l0, l1, d0, d1, t0, t1, z⟩
    have s_lines := h.1.1
    unfold R_lines at s_lines
    have cl := hc.1
    have rd := h_doors l d l0 (by omega) d0 d1
    have re := h_ends l l0 l1
    have len : (K 2161 l 0) = (M 8 l 2) - (M 8 l 0) + (M 8 l 3) - (M 8 l 1) := by
      rcases re.1 with z | z
      · rw [z, if_pos rfl, if_pos rfl] at re
        omega
      · rw [z, if_neg (by decide), if_neg (by decide)] at re
        omega
    have eb := ends_b h_ends l0 l1
    have e := fun j => hc.2 l j l0 (by omega)
    have on : onU M0 l (dll M l) (uxx M l t) (uyy M l t) ∧ 0 ≤ uxx M l t ∧ uxx M l t ≤ 24 ∧ 0 ≤ uyy M l t ∧ uyy M l t ≤ 24 ∧ (dll M l = 0 ∨ dll M l = 1) := by
      unfold onU dll uxx uyy
      rw [← e 0, ← e 1, ← e 2, ← e 3]
      by_cases g : (M 8 l 1) = (M 8 l 3)
      · rw [if_pos g, if_pos g, if_pos g]
        exact ⟨Or.inl ⟨rfl, g, rfl, by omega, by omega⟩, by omega, by omega, by omega, by omega, Or.inl rfl⟩
      · rw [if_neg g, if_neg g, if_neg g]
        exact ⟨Or.inr ⟨rfl, g, rfl, by omega, by omega⟩, by omega, by omega, by omega, by omega, Or.inr rfl⟩
    obtain ⟨on, x0, x1, y0, y1, dl⟩ := on
    have ww := wall_wf h.1.2.1 h.1.2.2.2.1 x0 x1 y0 y1 (d := dll M l) (by omega) (by omega)
    have wl : wf A (dll M l) (uxx M l t) (uyy M l t) = l := by
      rw [← ww]
      rcases h.1.2.2.2.1.2 (dll M l) _ _ (by omega) (by omega) x0 x1 y0 y1 with ⟨_, no⟩ | ⟨k0, k1, ok⟩
      · exact absurd on (no l l0 (by omega))
      · exact onU_one h.1.2.1 h.1.2.2.1 k0 k1 l0 (by omega) ok on
    obtain ⟨s, j, s0, s1, s2, j0, j1, jx, jy⟩ := unit_piece h x0 x1 y0 y1 (d := dll M l) (by omega) (by omega) (by omega)
    have ok := (fnw_ok h (by omega : 0 ≤ 2 * s) (by omega)).1
    have sl : sL G (2 * s) = l := by
      have w1 := ok.1.2.2.2.1 j j0 j1
      have w2 := ok.2.1
      rw [s2] at w1 w2
      rw [jx, jy] at w1
      omega
    have su := side_unit h hc s0 s1 j0 j1
    rw [s2, jx, jy, sl] at su
    have tj := ux_one su.2.1 su.2.2
    have hd : HDP M G (2 * s) := by
      unfold HDP OVD
      rw [sl]
      exact ⟨d, d0, d1, t, t0, t1, by omega, by omega⟩
    have lr := side_lr h hc s0 s1 j0 j1
    rw [sl, tj] at lr
    rw [lr.1, lr.2] at z
    rcases z with z | z
    · exact ⟨2 * s, by omega, by omega, hd, z.1, by rw [f0]; exact z.2⟩
    · exact ⟨2 * s + 1, by omega, by omega, HDP_two.mpr hd, z.2, by rw [f1]; exact z.1⟩
  · rintro ⟨s', s0', s1', hd, eu, ev⟩
    have lo := loA_b h hc s0' s1'
    have main : ∀ s, 0 ≤ s → s < p → HDP M G (2 * s) → ∃ l d t, 0 ≤ l ∧ l < (M 7 0 0) ∧ 0 ≤ d ∧ d < (M 29 l 0) ∧ (M 30 l (3 * d)) ≤ t ∧ t < (M 30 l (3 * d + 1)) ∧ lef M l t = lfs D G (2 * s) ∧ rit M l t = lfs D G (2 * s + 1) := by
      rintro s s0 s1 ⟨d, d0, d1, t, t0, t1, t2, t3⟩
      have lo := loA_b h hc (by omega : 0 ≤ 2 * s) (by omega)
      have lr := side_lr h hc s0 s1 (i := t - loA M G (2 * s)) (by omega) (by omega)
      rw [show loA M G (2 * s) + (t - loA M G (2 * s)) = t by omega] at lr
      exact ⟨_, d, t, lo.2.2.2.2.1, lo.2.2.2.2.2.1, d0, d1, t0, t1, lr⟩
    rcases (by omega : s' = 2 * (s' / 2) ∨ s' = 2 * (s' / 2) + 1) with es | es
    · rw [es] at hd eu ev
      obtain ⟨l, d, t, a, b, c, e, f, g, x, y⟩ := main (s' / 2) (by omega) (by omega) hd
      rw [f0] at ev
      exact ⟨l, d, t, a, b, c, e, f, g, Or.inl ⟨x.trans eu, y.trans ev⟩⟩
    · rw [es] at hd eu ev
      obtain ⟨l, d, t, a, b, c, e, f, g, x, y⟩ := main (s' / 2) (by omega) (by omega) (HDP_two.mp hd)
      rw [f1] at ev
      exact ⟨l, d, t, a, b, c, e, f, g, Or.inr ⟨x.trans ev, y.trans eu⟩⟩
end WR
