/-! ===== passing: a person moves, both sides ===== -/
section PSl
variable {M K N V A B C D D0 E F G H K0 M0 N2 K2 : qm} {c d e k m p q' r s t u v x y l z τ R : Int} {q stt cnt : Int → Int}
/-- both sides have put the person somewhere -/
def MVD (M N K : qm) (p τ : Int) (N2 K2 : qm) : Prop := ∃ N' K' r x y, N2 = enT N' p r x y τ ∧ K2 = enS K' p r x y τ ∧ WNT (M 7 0 0) N' K' ∧ (∀ e x y, e ≠ 803 → N' e x y = N e x y) ∧ (∀ e x y, e ≠ 2330 → K' e x y = K e x y) ∧ (0 ≤ r ∧ r ≤ K 2156 9 0) ∧ ((r = K 2156 9 0 ∧ x = -1 ∧ y = -1) ∨ (r ≠ K 2156 9 0 ∧ 0 ≤ x ∧ x < 24 ∧ 0 ≤ y ∧ y < 24 ∧ M 56 (24 * x + y) 0 = r))
def MVQ (M N K : qm) (p τ : Int) (o o' : (Unit × qm) ⊕ (Unit × qm)) : Prop := (o = .inr ((), N) ∧ o' = .inr ((), K)) ∨ ∃ N2 K2, o = .inl ((), N2) ∧ o' = .inl ((), K2) ∧ MVD M N K p τ N2 K2
theorem move_one (h_lines : R_lines M K) (h_ends : R_ends M K) (h_doorn : R_doorn M K) (h_doors : R_doors M K) (h_spaceof : R_spaceof M K) (h_smoke : R_smoke M K) (h_walk : R_walk M K) (h_rooms : R_rooms M K) (hb : M 6 11 0 ≠ 0) (h : FNW M V M0 K0 A D0 D E F G H C q m q' R stt cnt) (hc : CUR M M0) (hN : SAN M N) (hS : SLV M N) (hz : N 51 3 0 = M 51 3 0) (hw : WNT (M 7 0 0) N K) (p0 : 0 ≤ p) (p1 : p < 40) (x0 : 0 ≤ x) (x1 : x < 24) (y0 : 0 ≤ y) (y1 : y < 24) (d0 : 0 ≤ d) (d1 : d < 4) (ex : K 2307 p 0 = x) (ey : K 2308 p 0 = y) (hv : K 2328 (24 * y + x) 0 = v) (v0 : 0 < v) (et : K 2156 2 0 = τ) : (qf_X10_moveOne_L9_b 20000 p τ (24 * x + y) d N = some (.inr (p, τ, 24 * x + y, d + 1, N)) ∧ qf_X18_step_L24_b 20000 p v d K = some (.inr (p, v, d + 1, K))) ∨ ∃ r r', qf_X10_moveOne_L9_b 20000 p τ (24 * x + y) d N = some (.inl r) ∧ qf_X18_step_L24_b 20000 p v d K = some (.inl r') ∧ MVQ M N K p τ r r' := by
  obtain ⟨X, Y, hn, X0, X1, Y0, Y1, hk⟩ := bet_K h_spaceof h_smoke h_walk hb p0 p1 x0 x1 y0 y1 d0 d1 ex ey hv v0
  have hB := bet_C (M := M) (c := 24 * x + y) hS (by omega) (by omega) d0 (show d ≤ 3 by omega)
  have w1 : w32 (d + 1) = d + 1 := w32_id (by omega) (by omega)
  have n4 : ¬ 4 ≤ d := by omega
  have hr := h_rooms hb
  rcases hk with ⟨g, ek⟩ | ⟨g, ek⟩
  · obtain ⟨a, N', K', t1, t2, t3, t4, t5, t6⟩ := thr_both h_lines h_ends h_doorn h_doors h hc hN hw x0 x1 y0 y1 d0 (show d ≤ 3 by omega)
    rcases t3 with ⟨rfl, rfl, rfl⟩ | rfl
    · refine Or.inl ⟨?_, ek.trans (mv_K0 p0 p1 d0 d1 ex ey t2)⟩
      refine qW_e ?_
      unfold qf_X10_moveOne_L9_b
      rw [if_neg n4]
      refine qW_eq hB ?_
      rw [b01_t g, if_neg (by decide)]
      refine qW_eq t1 ?_
      rw [if_pos rfl, w1]
      exact qW_some rfl
    · have S' : SLV M N' := fun b i j hh => (t5 b i j (by omega)).trans (hS b i j hh)
      have z' : N' 51 3 0 = M 51 3 0 := (t5 _ _ _ (by decide)).trans hz
      have k2 : K' 2156 2 0 = τ := (t6 _ _ _ (by decide)).trans et
      have k9 : K' 2156 9 0 = M 51 3 0 := (t6 _ _ _ (by decide)).trans hr.1
      have key : ∀ W, qf_X10_step 20000 p (cb (24 * x + y) d) τ N' = some ((), W) → qf_X10_moveOne_L9_b 20000 p τ (24 * x + y) d N = some (.inl (.inl ((), W))) := by
        intro W hW
        refine qW_e ?_
        unfold qf_X10_moveOne_L9_b
        rw [if_neg n4]
        refine qW_eq hB ?_
        rw [b01_t g, if_neg (by decide)]
        refine qW_eq t1 ?_
        rw [if_neg (show ¬ (1 : Int) = 0 by decide)]
        refine qW_eq (cb_e (by omega) (by omega) d0 (by omega)) ?_
        refine qW_eq hW ?_
        exact qW_some rfl
      refine Or.inr ?_
      by_cases gi : ISP M (cb (24 * x + y) d)
      · rcases hn with ⟨a0, a1, b0, b1, ec⟩ | ⟨n, ec⟩
        · have hs := h_spaceof hb X Y a0 a1 b0 b1
          have k29 : K' 2329 (24 * Y + X) 0 = M 56 (24 * X + Y) 0 := (t6 _ _ _ (by decide)).trans hs.1
          have m3 : M 56 (cb (24 * x + y) d) 0 ≠ M 51 3 0 := by
            rw [ec]
            omega
          have cs := mv_C1 (τ := τ) S' p0 p1 z' gi m3
          have i3 := gi.2.2
          rw [b01_f (fun w => w gi), mv_K1 p0 p1 ex ey t2 a0 a1 b0 b1, k2, k29] at ek
          rw [ec] at m3 i3
          have kc := key _ cs
          rw [ec, show (24 * X + Y) / 24 = X by omega, show (24 * X + Y) % 24 = Y by omega] at kc
          exact ⟨_, _, kc, ek, Or.inr ⟨_, _, rfl, rfl, N', K', _, _, _, rfl, rfl, t4, t5, t6, by omega, Or.inr ⟨by omega, a0, a1, b0, b1, rfl⟩⟩⟩
        · exact absurd gi.1 (by omega)
      · have cs := mv_C2 (τ := τ) S' p0 p1 z' gi
        rw [b01_t gi, mv_K2 p0 p1 ex ey t2, k2, k9] at ek
        exact ⟨_, _, key _ cs, ek, Or.inr ⟨_, _, rfl, rfl, N', K', _, _, _, rfl, rfl, t4, t5, t6, by omega, Or.inl ⟨hr.1.symm, rfl, rfl⟩⟩⟩
  · refine Or.inl ⟨?_, ek⟩
    refine qW_e ?_
    unfold qf_X10_moveOne_L9_b
    rw [if_neg n4]
    refine qW_eq hB ?_
    rw [b01_f g, if_pos rfl, w1]
    exact qW_some rfl
theorem move_both (h_lines : R_lines M K) (h_ends : R_ends M K) (h_doorn : R_doorn M K) (h_doors : R_doors M K) (h_spaceof : R_spaceof M K) (h_smoke : R_smoke M K) (h_walk : R_walk M K) (h_rooms : R_rooms M K) (hb : M 6 11 0 ≠ 0) (h : FNW M V M0 K0 A D0 D E F G H C q m q' R stt cnt) (hc : CUR M M0) (hN : SAN M N) (hS : SLV M N) (hz : N 51 3 0 = M 51 3 0) (hw : WNT (M 7 0 0) N K) (p0 : 0 ≤ p) (p1 : p < 40) (x0 : 0 ≤ x) (x1 : x < 24) (y0 : 0 ≤ y) (y1 : y < 24) (nx : N 761 p 1 = x) (ny : N 761 p 2 = y) (ex : K 2307 p 0 = x) (ey : K 2308 p 0 = y) (v0 : 0 < K 2328 (24 * y + x) 0) (et : K 2156 2 0 = τ) : ∃ N2 K2, qf_X10_moveOne 20000 p τ N = some ((), N2) ∧ qf_X18_step 20000 p K = some ((), K2) ∧ ((N2 = N ∧ K2 = K) ∨ MVD M N K p τ N2 K2) := by
  have c40 : 0 ≤ p ∧ p < 40 := ⟨p0, p1⟩
  obtain ⟨v, hv⟩ : ∃ v, K 2328 (24 * y + x) 0 = v := ⟨_, rfl⟩
  rw [hv] at v0
  have ec : qf_X10_cellOf 20000 p N = some (24 * x + y) := by
    unfold qf_X10_cellOf qf_X2_cellNumber
    rw [if_pos c40, nx, ny, if_neg (show ¬ x = -1 by omega), w32_id (x := x * 24) (by omega) (by omega), w32_id (x := x * 24 + y) (by omega) (by omega), Option.bind_some, show x * 24 + y = 24 * x + y by omega]
  obtain ⟨o, o', e1, e2, hq⟩ : ∃ o o', qf_X10_moveOne_L9 20000 20000 p τ (24 * x + y) 0 N = some o ∧ qf_X18_step_L24 20000 20000 p v 0 K = some o' ∧ MVQ M N K p τ o o' := by
    unfold qf_X10_moveOne_L9 qf_X18_step_L24
    refine two_loopE (Q := MVQ M N K p τ) 4 (fun i a b => ∃ e : Int, e = i ∧ a = (p, τ, 24 * x + y, e, N) ∧ b = (p, v, e, K)) (fun i a b i1 hI => ?_) (fun a b hI => ?_) 4 0 20000 20000 _ _ (by omega) (by omega) (by omega) ⟨0, rfl, rfl, rfl⟩
    · obtain ⟨e, he, rfl, rfl⟩ := hI
      rcases move_one h_lines h_ends h_doorn h_doors h_spaceof h_smoke h_walk h_rooms hb h hc hN hS hz hw p0 p1 x0 x1 y0 y1 (show 0 ≤ e by omega) (show e < 4 by omega) ex ey hv v0 et with ⟨q1, q2⟩ | ⟨r, r', q1, q2, q3⟩
      · exact Or.inl ⟨_, _, q1, q2, e + 1, by omega, rfl, rfl⟩
      · exact Or.inr ⟨r, r', q1, q2, q3⟩
    · obtain ⟨e, he, rfl, rfl⟩ := hI
      refine ⟨.inr ((), N), .inr ((), K), ?_, ?_, Or.inl ⟨rfl, rfl⟩⟩
      · show qf_X10_moveOne_L9_b 20000 p τ (24 * x + y) e N = _
        unfold qf_X10_moveOne_L9_b
        rw [if_pos (show 4 ≤ e by omega)]
      · show qf_X18_step_L24_b 20000 p v e K = _
        unfold qf_X18_step_L24_b
        rw [if_pos (show 4 ≤ e by omega)]
  unfold qf_X10_moveOne qf_X18_step
  rw [ec, Option.bind_some, e1, Option.bind_some, if_pos c40, if_pos c40, ex, ey, w32_id (x := 24 * y) (by omega) (by omega), w32_id (x := 24 * y + x) (by omega) (by omega), if_pos (show 0 ≤ 24 * y + x ∧ 24 * y + x < 576 by omega), hv, e2, Option.bind_some]
  rcases hq with ⟨rfl, rfl⟩ | ⟨N2, K2, rfl, rfl, hq⟩
  · exact ⟨N, K, rfl, rfl, Or.inl ⟨rfl, rfl⟩⟩
  · exact ⟨N2, K2, rfl, rfl, Or.inr hq⟩
end PSl
