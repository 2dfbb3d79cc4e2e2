/-! ===== passing: a second, both sides ===== -/
section PTf
variable {M K N W : qm} {t u u' E s v d : Int}
theorem second_both (h : SE M K t u E) (t1 : t + 1 ≤ 6000) (u1 : u + 30 ≤ 180000) (E0 : 0 ≤ E) (E1 : E + 20 < 2147483647) : ∃ M' K', qf_X11_passSecond 20000 M = some ((), M') ∧ qf_X18_second 20000 K = some ((), K') ∧ SE M' K' (t + 1) (u + 30) (E + 20) := by
  have tm := h.2.1
  have h1 := se_time h t1
  have wM : w32 (M 6 12 0 + 1) = t + 1 := by
    rw [tm.1]
    exact w32_id (by omega) (by omega)
  have wK : w32 (K 2156 2 0 + 1) = t + 1 := by
    rw [tm.2.1]
    exact w32_id (by omega) (by omega)
  obtain ⟨M1, hM1⟩ : ∃ X, qw M 6 12 0 (t + 1) = X := ⟨_, rfl⟩
  obtain ⟨K1, hK1⟩ : ∃ X, qw (qw (qw K 2156 2 0 (t + 1)) 2208 1 0 (t + 1)) 2270 12 0 (t + 1) = X := ⟨_, rfl⟩
  rw [hM1, hK1] at h1
  obtain ⟨M2, K2, c2, k2, h2⟩ := se_spread h1
  obtain ⟨M3, M4, K4, c3, c4, k4, h4⟩ := se_detect h2
  obtain ⟨M5, a, K5, c5, k5, k6, h5⟩ := se_acts h4 E0 E1
  obtain ⟨v, d, c6, k7, c7, k8, k9, k10, h6⟩ := se_points h5
  obtain ⟨M6, hM6⟩ : ∃ X, ptA M5 v d = X := ⟨_, rfl⟩
  obtain ⟨K6, hK6⟩ : ∃ X, qw (ptB M5 K5 v d) 2235 14 0 (Int.tdiv (t + 1) 60) = X := ⟨_, rfl⟩
  rw [hM6, hK6] at h6
  obtain ⟨M7, K7, c8, k11, h7⟩ := se_tick h6 (by rw [← hK6]; exact qw_s)
  obtain ⟨M8, K8, c9, k12, h8⟩ := se_line h7 u1
  obtain ⟨M9, K9, c10, k13, h9⟩ := se_catch h8
  obtain ⟨M10, K10, b, w, c11, k14, hl, h10⟩ := se_leave h9
  refine ⟨M10, K10, ?_, ?_, h10⟩
  · refine qW_e ?_
    unfold qf_X11_passSecond
    refine qW_bnd ?_
    rw [wM, hM1, h1.2.1.1]
    refine qW_eq c2 ?_
    (try dsimp only)
    refine qW_eq c3 ?_
    (try dsimp only)
    unfold qf_X11_passSecond_J72
    refine qW_eq c4 ?_
    (try dsimp only)
    rw [h4.2.1.1]
    refine qW_eq c5 ?_
    (try dsimp only)
    refine qW_eq c6 ?_
    refine qW_bnd ?_
    refine qW_eq c7 ?_
    refine qW_bnd ?_
    rw [show (qw (qw M5 1135 0 0 v) 1135 1 0 d) 756 4 0 = M5 756 4 0 by rw [qw_a (by decide), qw_a (by decide)]]
    refine qW_bnd ?_
    rw [show (qw (qw (qw M5 1135 0 0 v) 1135 1 0 d) 1135 2 0 (M5 756 4 0)) 1337 4 0 = M5 1337 4 0 by rw [qw_a (by decide), qw_a (by decide), qw_a (by decide)]]
    refine qW_bnd ?_
    rw [show qw (qw (qw (qw M5 1135 0 0 v) 1135 1 0 d) 1135 2 0 (M5 756 4 0)) 1135 3 0 (M5 1337 4 0) = M6 from hM6, h6.2.1.1]
    refine qW_eq c8 ?_
    (try dsimp only)
    refine qW_eq c9 ?_
    (try dsimp only)
    rw [h8.2.1.1]
    refine qW_eq c10 ?_
    (try dsimp only)
    refine qW_eq c11 ?_
    rcases hl with ⟨rfl, _, rfl, rfl⟩ | ⟨rfl, _, hl, _⟩
    · rw [if_pos rfl]
      exact qW_some rfl
    · rw [if_neg (by decide), h9.2.1.1]
      refine qW_eq hl ?_
      exact qW_some rfl
  · have eJ : qf_X18_second_J46 20000 K2 = some ((), K10) := by
      refine qW_e ?_
      unfold qf_X18_second_J46
      refine qW_eq k4 ?_
      (try dsimp only)
      refine qW_eq k5 ?_
      refine qW_eq k6 ?_
      (try dsimp only)
      refine qW_eq k7 ?_
      refine qW_bnd ?_
      refine qW_eq k8 ?_
      refine qW_bnd ?_
      refine qW_eq k9 ?_
      refine qW_bnd ?_
      refine qW_eq k10 ?_
      refine qW_bnd ?_
      rw [show qw (qw (qw (qw K5 2247 0 0 v) 2247 1 0 d) 2247 2 0 (M5 756 4 0)) 2247 3 0 (M5 1337 4 0) = ptB M5 K5 v d from rfl, show ptB M5 K5 v d 2156 2 0 = t + 1 from (ptB_o (by decide)).trans h5.2.1.2.1]
      refine qW_bnd ?_
      rw [hK6]
      refine qW_eq k11 ?_
      (try dsimp only)
      refine qW_eq k12 ?_
      (try dsimp only)
      refine qW_eq k13 ?_
      (try dsimp only)
      refine qW_eq k14 ?_
      rcases hl with ⟨_, w0, rfl, rfl⟩ | ⟨_, w0, _, hl⟩
      · rw [if_pos w0]
        exact qW_some rfl
      · rw [if_neg (by omega)]
        refine qW_eq hl ?_
        exact qW_some rfl
    refine qW_e ?_
    unfold qf_X18_second
    refine qW_bnd ?_
    rw [wK, show (qw K 2156 2 0 (t + 1)) 2156 2 0 = t + 1 from qw_s]
    refine qW_bnd ?_
    rw [show (qw (qw K 2156 2 0 (t + 1)) 2208 1 0 (t + 1)) 2156 2 0 = t + 1 from (qw_a (by decide)).trans qw_s]
    refine qW_bnd ?_
    rw [hK1, h1.2.1.2.1]
    rcases k2 with ⟨g, k2⟩ | ⟨g, rfl⟩
    · rw [if_pos g]
      refine qW_eq k2 ?_
      (try dsimp only)
      rw [eJ]
      exact qW_some rfl
    · rw [if_neg g, eJ]
      exact qW_some rfl
theorem seconds_both : ∀ (d : Nat) (i : Int) (f f2 : Nat) (M K : qm) (t u E : Int), v - i = d → SE M K t u E → t + d ≤ 6000 → u + 30 * d ≤ 180000 → 0 ≤ E → E + 20 * d < 2147483647 → 0 ≤ i → v ≤ 60 → d < f → d < f2 → ∃ M' K', qf_X11_pass_L39 20000 f v i M = some (.inr ((), M')) ∧ qf_X18_pass_L51 20000 f2 v i K = some (.inr ((), K')) ∧ SE M' K' (t + d) (u + 30 * d) (E + 20 * d) ∧ Fg 22128727145120783221488305490411252646674434 M M' ∧ Fg 131694898927831736381312881657692929566851318366731015927044283881285592837645214222536593055079764553052742978619786133504 K K' := by
  intro d
  induction d with
  | zero =>
    intro i f f2 M K t u E hd h t1 u1 E0 E1 i0 v1 f1 f3
    obtain ⟨f', rfl⟩ : ∃ f', f = f' + 1 := ⟨f - 1, by omega⟩
    obtain ⟨g', rfl⟩ : ∃ f', f2 = f' + 1 := ⟨f2 - 1, by omega⟩
    refine ⟨M, K, ?_, ?_, ?_, Fg_refl, Fg_refl⟩
    · unfold qf_X11_pass_L39
      rw [qloop.eq_2]
      (try dsimp only)
      unfold qf_X11_pass_L39_b
      rw [if_pos (show v ≤ i by omega)]
    · unfold qf_X18_pass_L51
      rw [qloop.eq_2]
      (try dsimp only)
      unfold qf_X18_pass_L51_b
      rw [if_pos (show v ≤ i by omega)]
    · rw [show t + ((0 : Nat) : Int) = t by omega, show u + 30 * ((0 : Nat) : Int) = u by omega, show E + 20 * ((0 : Nat) : Int) = E by omega]
      exact h
  | succ d ih =>
    intro i f f2 M K t u E hd h t1 u1 E0 E1 i0 v1 f1 f3
    obtain ⟨f', rfl⟩ : ∃ f', f = f' + 1 := ⟨f - 1, by omega⟩
    obtain ⟨g', rfl⟩ : ∃ f', f2 = f' + 1 := ⟨f2 - 1, by omega⟩
    obtain ⟨M', K', c1, k1, h1⟩ := second_both h (by omega) (by omega) E0 (by omega)
    have p1 : Fg 22128727145120783221488305490411252646674434 M M' := fr_X11_passSecond (M0 := M) Fg_refl _ c1
    have p2 : Fg 131694898927831736381312881657692929566851318366731015927044283881285592837645214222536593055079764553052742978619786133504 K K' := fr_X18_second (M0 := K) Fg_refl _ k1
    obtain ⟨M2, K2, c2, k2, h2, g1, g2⟩ := ih (i + 1) f' g' M' K' (t + 1) (u + 30) (E + 20) (by omega) h1 (by omega) (by omega) (by omega) (by omega) (by omega) v1 (by omega) (by omega)
    refine ⟨M2, K2, ?_, ?_, ?_, Fg_tr p1 g1, Fg_tr p2 g2⟩
    · have b : qf_X11_pass_L39_b 20000 v i M = some (.inr (v, i + 1, M')) := by
        unfold qf_X11_pass_L39_b
        rw [if_neg (show ¬ v ≤ i by omega), c1, Option.bind_some, w32_id (x := i + 1) (by omega) (by omega)]
      unfold qf_X11_pass_L39 at c2 ⊢
      rw [qloop.eq_2]
      (try dsimp only)
      rw [b]
      exact c2
    · have b : qf_X18_pass_L51_b 20000 v i K = some (.inr (v, i + 1, K')) := by
        unfold qf_X18_pass_L51_b
        rw [if_neg (show ¬ v ≤ i by omega), k1, Option.bind_some, w32_id (x := i + 1) (by omega) (by omega)]
      unfold qf_X18_pass_L51 at k2 ⊢
      rw [qloop.eq_2]
      (try dsimp only)
      rw [b]
      exact k2
    · rw [show t + ((d + 1 : Nat) : Int) = t + 1 + (d : Int) by omega, show u + 30 * ((d + 1 : Nat) : Int) = u + 30 + 30 * (d : Int) by omega, show E + 20 * ((d + 1 : Nat) : Int) = E + 20 + 20 * (d : Int) by omega]
      exact h2
end PTf
