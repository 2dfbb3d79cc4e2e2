/-! ===== passing: through a door, both sides ===== -/
section PSh
variable {M K N A B C D D0 E F G H T V W Y Z K0 M0 Kv : qm} {a b c d e k m p r s t u v x y h i j R S w l z : Int} {q stt cnt o f : Int → Int} {P : Int → Int → Prop}
theorem two_loopE {σ τ ρ ω : Type} {f : σ → Option (ρ ⊕ σ)} {g : τ → Option (ω ⊕ τ)} {Q : ρ → ω → Prop} (n : Nat) (I : Nat → σ → τ → Prop) (step : ∀ i a b, i < n → I i a b → (∃ a' b', f a = some (.inr a') ∧ g b = some (.inr b') ∧ I (i + 1) a' b') ∨ ∃ r r', f a = some (.inl r) ∧ g b = some (.inl r') ∧ Q r r') (fin : ∀ a b, I n a b → ∃ r r', f a = some (.inl r) ∧ g b = some (.inl r') ∧ Q r r') : ∀ (m i N N2 : Nat) (a : σ) (b : τ), i + m = n → m < N → m < N2 → I i a b → ∃ r r', qloop f N a = some r ∧ qloop g N2 b = some r' ∧ Q r r' := by
  intro m
  induction m with
  | zero =>
    intro i N N2 a b im h1 h2 hI
    obtain ⟨N', rfl⟩ : ∃ N', N = N' + 1 := ⟨N - 1, by omega⟩
    obtain ⟨N2', rfl⟩ : ∃ N', N2 = N' + 1 := ⟨N2 - 1, by omega⟩
    rw [show i = n by omega] at hI
    obtain ⟨r, r', e1, e2, hQ⟩ := fin a b hI
    refine ⟨r, r', ?_, ?_, hQ⟩
    · rw [qloop.eq_2, e1]
    · rw [qloop.eq_2, e2]
  | succ m ih =>
    intro i N N2 a b im h1 h2 hI
    obtain ⟨N', rfl⟩ : ∃ N', N = N' + 1 := ⟨N - 1, by omega⟩
    obtain ⟨N2', rfl⟩ : ∃ N', N2 = N' + 1 := ⟨N2 - 1, by omega⟩
    rcases step i a b (by omega) hI with ⟨a', b', e1, e2, hI'⟩ | ⟨r, r', e1, e2, hQ⟩
    · obtain ⟨r, r', e3, e4, hQ⟩ := ih (i + 1) N' N2' a' b' (by omega) (by omega) (by omega) hI'
      refine ⟨r, r', ?_, ?_, hQ⟩
      · rw [qloop.eq_2, e1]
        exact e3
      · rw [qloop.eq_2, e2]
        exact e4
    · refine ⟨r, r', ?_, ?_, hQ⟩
      · rw [qloop.eq_2, e1]
      · rw [qloop.eq_2, e2]
theorem door_n (h_lines : R_lines M K) (h_doorn : R_doorn M K) (h_doors : R_doors M K) (l0 : 0 ≤ l) (l1 : l < 20) (e0 : 0 ≤ e) (e1 : e < (M 29 l 0)) (hN : SAN M N) : qf_X8_isDoorAt 20000 l e t N = some (b01 ((M 30 l (3 * e)) ≤ t ∧ t < (M 30 l (3 * e + 1)))) ∧ qf_X8_rateOf 20000 l e N = some (M 30 l (3 * e + 2)) := by
  have rn := h_doorn l l0 l1
  have rd := h_doors l e l0 l1 e0 e1
  have c20 : 0 ≤ l ∧ l < 20 := ⟨l0, l1⟩
  have eT : qf_X8_toOf 20000 l e N = some (M 30 l (3 * e + 1)) := by
    unfold qf_X8_toOf
    rw [if_pos c20, w32_id (x := 3 * e) (by omega) (by omega), w32_id (x := 3 * e + 1) (by omega) (by omega), if_pos (by omega), hN _ _ _ (by decide)]
  have eF : qf_X8_fromOf 20000 l e N = some (M 30 l (3 * e)) := by
    unfold qf_X8_fromOf
    rw [if_pos c20, w32_id (x := 3 * e) (by omega) (by omega), if_pos (by omega), hN _ _ _ (by decide)]
  refine ⟨?_, ?_⟩
  · refine qW_e ?_
    unfold qf_X8_isDoorAt
    refine qW_eq eF ?_
    by_cases g : t < (M 30 l (3 * e))
    · rw [if_pos g, b01_f (by omega)]
      exact qW_some rfl
    · rw [if_neg g]
      refine qW_eq eT ?_
      by_cases g2 : (M 30 l (3 * e + 1)) ≤ t
      · rw [if_pos g2, b01_f (by omega)]
        exact qW_some rfl
      · rw [if_neg g2, b01_t (by omega)]
        exact qW_some rfl
  · unfold qf_X8_rateOf
    rw [if_pos c20, w32_id (x := 3 * e) (by omega) (by omega), w32_id (x := 3 * e + 2) (by omega) (by omega), if_pos (by omega), hN _ _ _ (by decide)]
theorem there_k (h_ends : R_ends M K) (h_doorn : R_doorn M K) (h_doors : R_doors M K) (l0 : 0 ≤ l) (l1 : l < 20) (l2 : l < (M 7 0 0)) (e0 : 0 ≤ e) (e1 : e < (M 29 l 0)) (x0 : 0 ≤ x) (x1 : x < 25) (y0 : 0 ≤ y) (y1 : y < 25) (tt : ((K 2160 l 0) = 0 ∧ t = y - (M 8 l 1)) ∨ ((K 2160 l 0) = 1 ∧ t = x - (M 8 l 0))) : qf_X16_isThere 20000 l e x y K = some (b01 ((M 30 l (3 * e)) ≤ t ∧ t < (M 30 l (3 * e + 1)))) := by
  have rn := h_doorn l l0 l1
  have re := h_ends l l0 l2
  have ee := ends_b h_ends l0 l2
  have rd := h_doors l e l0 l1 e0 e1
  have c20 : 0 ≤ l ∧ l < 20 := ⟨l0, l1⟩
  have lx : (K 2158 l 0) = (M 8 l 0) := re.2.2.1.symm
  have ly : (K 2159 l 0) = (M 8 l 1) := re.2.2.2.1.symm
  have j29 : qf_X16_isThere_J29 20000 l e t K = some (b01 ((M 30 l (3 * e)) ≤ t ∧ t < (M 30 l (3 * e + 1)))) := by
    refine qW_e ?_
    unfold qf_X16_isThere_J29
    rw [w32_id (x := 6 * l) (by omega) (by omega), w32_id (x := 6 * l + e) (by omega) (by omega), if_pos (by omega), rd.1, rd.2.1]
    by_cases g : t < (M 30 l (3 * e))
    · rw [if_pos g, b01_f (by omega)]
      exact qW_some rfl
    · rw [if_neg g, if_pos (by omega)]
      by_cases g2 : (M 30 l (3 * e + 1)) ≤ t
      · rw [if_pos g2, b01_f (by omega)]
        exact qW_some rfl
      · rw [if_neg g2, b01_t (by omega)]
        exact qW_some rfl
  unfold qf_X16_isThere
  rw [if_pos c20]
  rcases tt with ⟨f, et⟩ | ⟨f, et⟩
  · rw [if_pos f, if_pos c20, ly, w32_id (x := y - (M 8 l 1)) (by omega) (by omega), ← et]
    exact j29
  · rw [if_neg (by omega), if_pos c20, lx, w32_id (x := x - (M 8 l 0)) (by omega) (by omega), ← et]
    exact j29
theorem dis_n (h_lines : R_lines M K) (h_ends : R_ends M K) (hN : SAN M N) (c0 : 0 ≤ c) (c1 : c < 576) (d0 : 0 ≤ d) (d1 : d ≤ 3) (l0 : 0 ≤ l) (l1 : l < (M 7 0 0)) : qf_X2_distanceBeside 20000 c d l N = some (UTL M l c d) := by
  have ub := uq_b c0 c1 d0 d1
  have uv := uq_v (c := c) (d := d)
  have s_lines := h_lines
  unfold R_lines at s_lines
  have eb := ends_b h_ends l0 l1
  have pb : qf_X2_placeBeside 20000 c d N = some (25 * uqx c d + uqy c d) := by
    refine qW_e ?_
    unfold qf_X2_placeBeside
    rw [Int.tdiv_eq_ediv_of_nonneg c0, Int.tmod_eq_emod_of_nonneg c0, w32_id (x := c / 24 * 25) (by omega) (by omega), w32_id (x := c / 24 * 25 + c % 24) (by omega) (by omega), w32_id (x := c / 24 * 25 + c % 24 + 25) (by omega) (by omega), w32_id (x := c / 24 * 25 + c % 24 + 1) (by omega) (by omega)]
    by_cases g0 : d = 0
    · rw [if_pos g0]
      exact qW_some (by omega)
    · rw [if_neg g0]
      by_cases g2 : d = 2
      · rw [if_pos g2]
        exact qW_some (by omega)
      · rw [if_neg g2]
        exact qW_some (by omega)
  refine qW_e ?_
  unfold qf_X2_distanceBeside
  refine qW_eq pb ?_
  have q0 : (0 : Int) ≤ 25 * uqx c d + uqy c d := by omega
  rw [Int.tdiv_eq_ediv_of_nonneg q0, Int.tmod_eq_emod_of_nonneg q0, show (25 * uqx c d + uqy c d) / 25 = uqx c d by omega, show (25 * uqx c d + uqy c d) % 25 = uqy c d by omega]
  have dt : qf_X8_distanceTo 20000 l (uqx c d) (uqy c d) N = some (UTL M l c d) := by
    unfold qf_X8_distanceTo UTL
    rw [if_pos (by omega), if_pos (by omega), hN _ _ _ (by decide), hN _ _ _ (by decide), w32_id (x := uqx c d - (M 8 l 0)) (by omega) (by omega), w32_id (x := uqx c d - (M 8 l 0) + uqy c d) (by omega) (by omega), w32_id (by omega) (by omega)]
  exact qW_eq dt (qW_some rfl)
/-- how many went through each door: both sides -/
def WNT (n : Int) (N K : qm) : Prop := ∀ l e, 0 ≤ l → l < n → 0 ≤ e → e < 6 → N 803 l e = K 2330 (6 * l + e) 0 ∧ 0 ≤ N 803 l e
def THQ (N K : qm) (l : Int) (o : (Int × qm) ⊕ (Unit × qm)) (p : (Int × qm) ⊕ (Unit × qm)) : Prop := (o = .inr ((), N) ∧ p = .inr ((), K)) ∨ ∃ e, 0 ≤ e ∧ e < 6 ∧ N 803 l e < 5 ∧ o = .inl (1, qw N 803 l e (N 803 l e + 1)) ∧ p = .inl (1, qw K 2330 (6 * l + e) 0 (K 2330 (6 * l + e) 0 + 1))
theorem thr_loop (h_lines : R_lines M K) (h_ends : R_ends M K) (h_doorn : R_doorn M K) (h_doors : R_doors M K) (l0 : 0 ≤ l) (l1 : l < 20) (l2 : l < (M 7 0 0)) (hN : SAN M N) (hw : WNT (M 7 0 0) N K) (x0 : 0 ≤ x) (x1 : x < 25) (y0 : 0 ≤ y) (y1 : y < 25) (tt : ((K 2160 l 0) = 0 ∧ t = y - (M 8 l 1)) ∨ ((K 2160 l 0) = 1 ∧ t = x - (M 8 l 0))) : ∃ o p, qf_X10_goesThrough_L32 20000 20000 l t 0 N = some o ∧ qf_X18_goesThrough_L15 20000 20000 x y l 0 K = some p ∧ THQ N K l o p := by
  have rn := h_doorn l l0 l1
  have c20 : 0 ≤ l ∧ l < 20 := ⟨l0, l1⟩
  have nd : (N 29 l 0) = (M 29 l 0) := hN _ _ _ (by decide)
  have kd : (K 2162 l 0) = (M 29 l 0) := rn.1
  obtain ⟨n, hn⟩ : ∃ n : Nat, (n : Int) = (M 29 l 0) := ⟨((M 29 l 0)).toNat, Int.toNat_of_nonneg rn.2.1⟩
  unfold qf_X10_goesThrough_L32 qf_X18_goesThrough_L15
  refine two_loopE (Q := THQ N K l) n (fun i a b => ∃ e : Int, e = i ∧ a = (l, t, e, N) ∧ b = (x, y, l, e, K)) (fun i a b i1 hI => ?_) (fun a b hI => ?_) n 0 20000 20000 _ _ (by omega) (by omega) (by omega) ⟨0, rfl, rfl, rfl⟩
  · obtain ⟨e, he, rfl, rfl⟩ := hI
    have e0 : 0 ≤ e := by omega
    have e1 : e < (M 29 l 0) := by omega
    have e6 : 0 ≤ e ∧ e < 6 := ⟨e0, by omega⟩
    have dn := door_n (t := t) h_lines h_doorn h_doors l0 l1 e0 e1 hN
    have tk := there_k h_ends h_doorn h_doors l0 l1 l2 e0 e1 x0 x1 y0 y1 tt
    have rd := h_doors l e l0 l1 e0 e1
    have hc := hw l e l0 l2 e0 e6.2
    have c6 : 0 ≤ 6 * l + e ∧ 6 * l + e < 120 := ⟨by omega, by omega⟩
    have w1 : w32 (e + 1) = e + 1 := w32_id (by omega) (by omega)
    have w6 : w32 (6 * l) = 6 * l := w32_id (by omega) (by omega)
    have w7 : w32 (6 * l + e) = 6 * l + e := w32_id (by omega) (by omega)
    have nx : (∃ a' b', qf_X10_goesThrough_L32_b 20000 l t e N = some (.inr a') ∧ qf_X18_goesThrough_L15_b 20000 x y l e K = some (.inr b') ∧ a' = (l, t, e + 1, N) ∧ b' = (x, y, l, e + 1, K)) ∨ ∃ r r', qf_X10_goesThrough_L32_b 20000 l t e N = some (.inl r) ∧ qf_X18_goesThrough_L15_b 20000 x y l e K = some (.inl r') ∧ THQ N K l r r' := by
      clear he i1 hn
      unfold qf_X10_goesThrough_L32_b qf_X18_goesThrough_L15_b qbnd
      rw [if_pos c20, nd, if_neg (show ¬ (M 29 l 0) ≤ e by omega), dn.1, Option.bind_some, if_neg (show ¬ l < 0 by omega), if_pos c20, kd, if_neg (show ¬ (M 29 l 0) ≤ e by omega), tk, Option.bind_some]
      by_cases g : (M 30 l (3 * e)) ≤ t ∧ t < (M 30 l (3 * e + 1))
      · rw [b01_t g, if_neg (show ¬ (1 : Int) = 0 by decide), if_neg (show ¬ (1 : Int) = 0 by decide), if_pos c20, if_pos e6, dn.2, Option.bind_some, w6, w7, if_pos c6, if_pos c6, rd.2.2.1, ← hc.1]
        by_cases k : (M 30 l (3 * e + 2)) ≤ N 803 l e
        · rw [if_pos k, if_pos k, w1, if_pos c20]
          exact Or.inl ⟨_, _, rfl, rfl, rfl, rfl⟩
        · rw [if_neg k, if_neg k, if_pos c20, if_pos e6, if_pos e6, if_pos c6, if_pos c6, w32_id (x := N 803 l e + 1) (by omega) (by omega)]
          exact Or.inr ⟨_, _, rfl, rfl, Or.inr ⟨e, e0, e6.2, by omega, rfl, by rw [hc.1]⟩⟩
      · rw [b01_f g, if_pos rfl, if_pos rfl, w1, if_pos c20]
        exact Or.inl ⟨_, _, rfl, rfl, rfl, rfl⟩
    rcases nx with ⟨a', b', q1, q2, q3, q4⟩ | ⟨r, r', q1, q2, q3⟩
    · exact Or.inl ⟨a', b', q1, q2, e + 1, by omega, q3, q4⟩
    · exact Or.inr ⟨r, r', q1, q2, q3⟩
  · obtain ⟨e, he, rfl, rfl⟩ := hI
    refine ⟨.inr ((), N), .inr ((), K), ?_, ?_, Or.inl ⟨rfl, rfl⟩⟩
    · show qf_X10_goesThrough_L32_b 20000 l t e N = _
      unfold qf_X10_goesThrough_L32_b
      rw [if_pos c20, nd, if_pos (show (M 29 l 0) ≤ e by omega)]
    · show qf_X18_goesThrough_L15_b 20000 x y l e K = _
      unfold qf_X18_goesThrough_L15_b
      rw [if_neg (show ¬ l < 0 by omega), if_pos c20, kd, if_pos (show (M 29 l 0) ≤ e by omega)]
/-- through a wall's place: both sides -/
theorem thr_both (h_lines : R_lines M K) (h_ends : R_ends M K) (h_doorn : R_doorn M K) (h_doors : R_doors M K) (h : FNW M V M0 K0 A D0 D E F G H C q m p R stt cnt) (hc : CUR M M0) (hN : SAN M N) (hw : WNT (M 7 0 0) N K) (x0 : 0 ≤ x) (x1 : x < 24) (y0 : 0 ≤ y) (y1 : y < 24) (d0 : 0 ≤ d) (d1 : d ≤ 3) : ∃ g N' K', qf_X10_goesThrough 20000 (24 * x + y) d N = some (g, N') ∧ qf_X18_goesThrough 20000 x y d K = some (g, K') ∧ ((g = 0 ∧ N' = N ∧ K' = K) ∨ g = 1) ∧ WNT (M 7 0 0) N' K' ∧ (∀ e x y, e ≠ 803 → N' e x y = N e x y) ∧ (∀ e x y, e ≠ 2330 → K' e x y = K e x y) := by
  obtain ⟨c, hcc⟩ : ∃ c, 24 * x + y = c := ⟨_, rfl⟩
  have cx : c / 24 = x := by omega
  have cy : c % 24 = y := by omega
  have ub := uq_b (c := c) (by omega) (by omega) d0 d1
  have uv := uq_v (c := c) (d := d)
  have nw : ∀ i j, N 52 i j = M 52 i j := fun i j => hN _ i j (by decide)
  have cw := cur_wall h hc ub.2.2.2.2.1 ub.2.2.2.2.2 ub.1 ub.2.1 ub.2.2.1 ub.2.2.2.1
  rw [← wb_u (A := M) (c := c) d0 d1] at cw
  obtain ⟨l, hl⟩ : ∃ l, wb M c d = l := ⟨_, rfl⟩
  rw [hl] at cw
  have ew : wb N c d = l := (wb_o nw).trans hl
  have e1 : qf_X2_wallBeside 20000 c d N = some l := by
    rw [wb_e (by omega) (by omega) d0 d1, ew]
  obtain ⟨r, er, hr⟩ := line_e h_lines h_ends x0 x1 y0 y1 d0 d1
  rw [hcc] at hr
  have s_lines := h_lines
  unfold R_lines at s_lines
  have erl : r = l := by
    rcases cw with ⟨e, no⟩ | ⟨l0, l1, on, one⟩
    · rcases hr with ⟨e', no'⟩ | ⟨r0, r1, on'⟩
      · omega
      · exact absurd on' (no r r0 r1)
    · rcases hr with ⟨e', no'⟩ | ⟨r0, r1, on'⟩
      · exact absurd on (no' l l0 l1)
      · exact one r r0 r1 on'
  rw [erl] at er
  unfold qf_X10_goesThrough qf_X18_goesThrough
  rw [hcc, e1, er, Option.bind_some, Option.bind_some]
  rcases cw with ⟨e, no⟩ | ⟨l0, l1, on, one⟩
  · have kk : qf_X18_goesThrough_L15 20000 20000 x y l 0 K = some (.inr ((), K)) := by
      refine qW_e ?_
      unfold qf_X18_goesThrough_L15
      refine qW_for 0 (fun _ u => u = (x, y, l, 0, K)) (fun i u a b _ => by omega) ?_ rfl (by decide) (by decide)
      rintro _ rfl
      unfold qf_X18_goesThrough_L15_b
      (try dsimp only)
      rw [if_pos (by omega)]
      exact qW_some rfl
    refine ⟨1, N, K, by rw [if_pos e], ?_, Or.inr rfl, hw, fun _ _ _ _ => rfl, fun _ _ _ _ => rfl⟩
    rw [kk, Option.bind_some]
    (try dsimp only)
    unfold qf_X18_goesThrough_J108
    rw [if_neg (by omega)]
  · have ee := h_ends l l0 l1
    have tt : ((K 2160 l 0) = 0 ∧ UTL M l c d = y - (M 8 l 1)) ∨ ((K 2160 l 0) = 1 ∧ UTL M l c d = x - (M 8 l 0)) := by
      unfold UTL
      unfold onU at on
      rcases ee.1 with z | z
      · rw [z, if_pos rfl, if_pos rfl] at ee
        exact Or.inl ⟨z, by omega⟩
      · rw [z, if_neg (by decide), if_neg (by decide)] at ee
        exact Or.inr ⟨z, by omega⟩
    obtain ⟨o, p, q1, q2, hq⟩ := thr_loop h_lines h_ends h_doorn h_doors l0 (by omega) l1 hN hw x0 (by omega) y0 (by omega) tt
    rw [if_neg (show ¬ l = -1 by omega), dis_n h_lines h_ends hN (by omega) (by omega) d0 d1 l0 l1, Option.bind_some, q1, q2, Option.bind_some, Option.bind_some]
    rcases hq with ⟨rfl, rfl⟩ | ⟨e, e0, e6, e5, rfl, rfl⟩
    · refine ⟨0, N, K, rfl, ?_, Or.inl ⟨rfl, rfl, rfl⟩, hw, fun _ _ _ _ => rfl, fun _ _ _ _ => rfl⟩
      (try dsimp only)
      unfold qf_X18_goesThrough_J108
      rw [if_pos l0]
    · refine ⟨1, _, _, rfl, rfl, Or.inr rfl, fun k i k0 k1 i0 i1 => ?_, fun e x y z => qw_a z, fun e x y z => qw_a z⟩
      have hk := hw k i k0 k1 i0 i1
      by_cases z : k = l ∧ i = e
      · rw [z.1, z.2]
        have hl := hw l e l0 l1 e0 e6
        rw [qw_s, qw_s]
        omega
      · rw [qw_ap, if_neg (by omega), qw_ap, if_neg (by omega)]
        exact hk
end PSh
