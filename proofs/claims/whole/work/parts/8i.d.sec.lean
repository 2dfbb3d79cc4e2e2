/-! ===== passing: a second, its steps up to the acts ===== -/
section PTd
variable {M K N W : qm} {t u u' E s : Int}
theorem se_new (h : SE M K t u E) (o : ∀ (e : Nat) (x y : Int), (¬ (e = 756 ∧ x = 4) ∧ e ≠ 757 ∧ e ≠ 758 ∧ e ≠ 760 ∧ e ≠ 761 ∧ e ≠ 802 ∧ e ≠ 803 ∧ e ≠ 1135 ∧ e ≠ 1139 ∧ e ≠ 1140 ∧ e ≠ 1149 ∧ e ≠ 1158 ∧ ¬ (1168 ≤ e ∧ e ≤ 1171) ∧ e ≠ 1173 ∧ e ≠ 2332) → N e x y = M e x y) (p : ∀ (e : Nat) (x y : Int), (¬ (e = 2156 ∧ x = 0) ∧ e ≠ 2209 ∧ ¬ (e = 2235 ∧ x = 14) ∧ e ≠ 2247 ∧ e ≠ 2252 ∧ e ≠ 2253 ∧ ¬ (2258 ≤ e ∧ e ≤ 2269) ∧ ¬ (2306 ≤ e ∧ e ≤ 2311) ∧ e ≠ 2326 ∧ e ≠ 2327 ∧ e ≠ 2330 ∧ e ≠ 2331) → W e x y = K e x y) (hv : R_mvalue N W) (hP : R_points N W) (hb : BUS N W u') (hs : SMK N W) (hp : R_persons N W ∧ R_personb N W ∧ R_personz N W) : SE N W t u' E := by
  obtain ⟨hx, ⟨e1, e2, e3, e4, e5⟩, hm, _, _, hq, hg⟩ := h
  have n12 : N 6 12 0 = M 6 12 0 := o _ _ _ (by omega)
  have k2 : W 2156 2 0 = K 2156 2 0 := p _ _ _ (by omega)
  have k12 : W 2270 12 0 = K 2270 12 0 := p _ _ _ (by omega)
  have k1 : W 2208 1 0 = K 2208 1 0 := p _ _ _ (by omega)
  have mn := (mx_bq hm).2.2.2
  unfold R_mnow at mn
  exact ⟨sx_o hx (fun e x y g => o e x y (by omega)) (fun e x y g => p e x y (by omega)), ⟨by omega, by omega, by omega, e4, e5⟩, mx_keep hm (fun e x y g => o e x y (by omega)) (fun e x y g => p e x y (by omega)) (by unfold R_mnow; omega) hv (by omega) (stn_bq hb.2.1) hP, hb, hs, ⟨hp.1, hp.2.1, (R_calls_x (M := M) (K := K) (o 6 12 0 (by omega)) (o 1337 2 0 (by omega)) (fun i j => o 1343 i j (by omega)) (fun i j => p 2276 i j (by omega)) (fun i j => p 2277 i j (by omega)) (fun i j => p 2278 i j (by omega)) (fun i j => p 2279 i j (by omega)) hq.2.2.1), hp.2.2⟩, pga_o hg (fun e x y g => o e x y (by omega)) (fun e x y g => p e x y (by omega)) hP⟩
theorem se_spread (h : SE M K t u E) : ∃ M' K', qf_X10_spreadSmoke 20000 t M = some ((), M') ∧ ((Int.tmod t 10 = 0 ∧ qf_X18_spread 20000 K = some ((), K')) ∨ (Int.tmod t 10 ≠ 0 ∧ K' = K)) ∧ SE M' K' t u E := by
  have h' := h
  obtain ⟨hx, ⟨e1, e2, e3, e4, e5⟩, hm, hb, hs, hq, hg⟩ := h
  by_cases g : Int.tmod t 10 = 0
  · obtain ⟨x0, ⟨h1, h2, h3, h4⟩, ⟨h5, h6, h7, h8, h9, h10, h11, h12, h13⟩, hw, M0, K0, A, D0, D, EE, F, G, H, C, q, m, p', R, stt, cnt, hf, hc⟩ := hx
    have cl := hc.1
    have g' : t % 10 = 0 := by
      rw [Int.tmod_eq_emod_of_nonneg e4] at g
      exact g
    obtain ⟨M', K', q1, q2, q3, q4, q5⟩ := spread_both (τ := t) h1 h2 h3 h4 h5 x0 hf hc hs e4 g' (fun l k l0 l1 k0 k1 d x y hl hk => onU_one hf.1.2.1 hf.1.2.2.1 l0 (by omega) k0 (by omega) ((cur_on hc l0 (by omega)).mp hl) ((cur_on hc k0 (by omega)).mp hk))
    have o : ∀ (e : Nat) (x y : Int), (¬ (e = 756 ∧ x = 4) ∧ e ≠ 757 ∧ e ≠ 758 ∧ e ≠ 760) → M' e x y = M e x y := fun e x y z => q4 e x y z.1 z.2.1 z.2.2.1 z.2.2.2
    have p : ∀ (e : Nat) (x y : Int), (e ≠ 2326 ∧ e ≠ 2327) → K' e x y = K e x y := fun e x y z => q5 e x y z.1 z.2
    obtain ⟨b1, b2, b3, b4⟩ := mx_bq hm
    exact ⟨M', K', q1, Or.inl ⟨g, q2⟩, se_new h' (fun e x y z => o e x y (by omega)) (fun e x y z => p e x y (by omega)) (R_mvalue_x (M := M) (K := K) (fun i j => o 1173 i j (by omega)) (fun i j => p 2209 i j (by omega)) b3) (R_points_x (M := M) (K := K) (fun i j => o 1135 i j (by omega)) (fun i j => p 2247 i j (by omega)) b2) (bus_o hb (fun e x y z => o e x y (by omega)) (fun e x y z1 z2 => p e x y (by omega))) q3 ⟨(R_persons_x (M := M) (K := K) (o 756 7 0 (by omega)) (fun i j => o 761 i j (by omega)) (fun i j => p 2304 i j (by omega)) (fun i j => p 2305 i j (by omega)) (fun i j => p 2306 i j (by omega)) (fun i j => p 2307 i j (by omega)) (fun i j => p 2308 i j (by omega)) (fun i j => p 2309 i j (by omega)) (fun i j => p 2310 i j (by omega)) (fun i j => p 2311 i j (by omega)) hq.1), (R_personb_x (M := M) (K := K) (o 6 12 0 (by omega)) (fun i j => o 56 i j (by omega)) (o 756 7 0 (by omega)) (p 2156 9 0 (by omega)) (fun i j => p 2306 i j (by omega)) (fun i j => p 2307 i j (by omega)) (fun i j => p 2308 i j (by omega)) (fun i j => p 2309 i j (by omega)) (fun i j => p 2311 i j (by omega)) hq.2.1), (R_personz_x (M := M) (K := K) (o 756 7 0 (by omega)) (fun i j => o 761 i j (by omega)) (fun i j => p 2310 i j (by omega)) (fun i j => p 2311 i j (by omega)) hq.2.2.2)⟩⟩
  · refine ⟨M, K, ?_, Or.inr ⟨g, rfl⟩, h'⟩
    unfold qf_X10_spreadSmoke
    rw [if_neg g]
theorem se_detect (h : SE M K t u E) : ∃ M' M2 K2, qf_X11_passSecond_L23 20000 20000 0 M = some (.inr ((), M')) ∧ qf_X11_passSecond_L74 20000 20000 0 M' = some (.inr ((), M2)) ∧ qf_X18_detect 20000 K = some ((), K2) ∧ SE M2 K2 t u E := by
  have h' := h
  obtain ⟨hx, ⟨e1, e2, e3, e4, e5⟩, hm, hb, hs, hq, hg⟩ := h
  obtain ⟨b1, b2, b3, b4⟩ := mx_bq hm
  obtain ⟨x0, x1, ⟨h5, h6, h7, h8, h9, h10, h11, h12, h13⟩, x2⟩ := id hx
  obtain ⟨M', K', q1, q2, q3, q4, q5⟩ := rooms_both x0 h7 hs.2.2 b3
  have o : ∀ (e : Nat) (x y : Int), (e ≠ 1173) → M' e x y = M e x y := q4
  have p : ∀ (e : Nat) (x y : Int), (e ≠ 2209) → K' e x y = K e x y := q5
  have x0' : M' 6 11 0 ≠ 0 := by
    rw [o _ _ _ (by omega)]
    exact x0
  have ho := hg.1.2.2.2.2.1
  obtain ⟨M2, K2, s1, s2, s3, s4, s5⟩ := switch_both x0' (R_rooms_x (M := M) (K := K) (o 6 11 0 (by omega)) (o 51 3 0 (by omega)) (p 2156 9 0 (by omega)) h7) (R_mpoints_x (M := M) (K := K) (o 6 11 0 (by omega)) (o 1172 2 0 (by omega)) (p 2156 9 0 (by omega)) (p 2208 0 0 (by omega)) h11) q3 (R_outs_x (M := M) (K := K) (fun i j => o 1049 i j (by omega)) (fun i j => o 1050 i j (by omega)) (fun i j => p 2242 i j (by omega)) (fun i j => p 2243 i j (by omega)) (fun i j => p 2244 i j (by omega)) ho) (R_bound_x (M := M) (K := K) (o 1003 0 0 (by omega)) (fun i j => o 1134 i j (by omega)) (fun i j => p 2248 i j (by omega)) h12) (R_blocks_x (M := M) (K := K) (o 1003 0 0 (by omega)) (p 2235 0 0 (by omega)) h13)
  have o2 : ∀ (e : Nat) (x y : Int), (e ≠ 1173) → M2 e x y = M e x y := fun e x y z => (s4 e x y z).trans (q4 e x y z)
  have p2 : ∀ (e : Nat) (x y : Int), (e ≠ 2209) → K2 e x y = K e x y := fun e x y z => (s5 e x y z).trans (q5 e x y z)
  refine ⟨M', M2, K2, q1, s1, ?_, ?_⟩
  · unfold qf_X18_detect
    rw [q2, Option.bind_some]
    (try dsimp only)
    rw [s2, Option.bind_some]
  · clear o p
    have o := o2
    have p := p2
    exact se_new h' (fun e x y z => o e x y (by omega)) (fun e x y z => p e x y (by omega)) s3 (R_points_x (M := M) (K := K) (fun i j => o 1135 i j (by omega)) (fun i j => p 2247 i j (by omega)) b2) (bus_o hb (fun e x y z => o e x y (by omega)) (fun e x y z1 z2 => p e x y (by omega))) (smk_o hs (fun e x y z => o e x y (by omega)) (fun e x y z => p e x y (by omega))) ⟨(R_persons_x (M := M) (K := K) (o 756 7 0 (by omega)) (fun i j => o 761 i j (by omega)) (fun i j => p 2304 i j (by omega)) (fun i j => p 2305 i j (by omega)) (fun i j => p 2306 i j (by omega)) (fun i j => p 2307 i j (by omega)) (fun i j => p 2308 i j (by omega)) (fun i j => p 2309 i j (by omega)) (fun i j => p 2310 i j (by omega)) (fun i j => p 2311 i j (by omega)) hq.1), (R_personb_x (M := M) (K := K) (o 6 12 0 (by omega)) (fun i j => o 56 i j (by omega)) (o 756 7 0 (by omega)) (p 2156 9 0 (by omega)) (fun i j => p 2306 i j (by omega)) (fun i j => p 2307 i j (by omega)) (fun i j => p 2308 i j (by omega)) (fun i j => p 2309 i j (by omega)) (fun i j => p 2311 i j (by omega)) hq.2.1), (R_personz_x (M := M) (K := K) (o 756 7 0 (by omega)) (fun i j => o 761 i j (by omega)) (fun i j => p 2310 i j (by omega)) (fun i j => p 2311 i j (by omega)) hq.2.2.2)⟩
theorem bus_k (x : Int) : Nat.testBit 22127203185263220612146858248992697389940736 (ky 1139 x) = false := by
  have e : ky 1139 x = (if x = 5 then 108 else if x = 6 then 109 else if x = 8 then 110 else if x = 9 then 111 else if x = 10 then 112 else if x = 11 then 113 else if x = 13 then 114 else if x = 15 then 115 else if x = 16 then 116 else if x = 17 then 117 else 118) := rfl
  rw [e]
  (repeat' split) <;> rfl
theorem bus_l (x : Int) : Nat.testBit (1973751609322728158430646311549781290260737553695531790793833605345297506781372428058624 ||| 820219086978780714343243095759370041107539690231943260969623997760226754039967563635592039252361216) (ky 2252 x) = false := by
  have e : ky 2252 x = (if x = 0 then 310 else if x = 3 then 311 else if x = 16 then 312 else if x = 17 then 313 else if x = 19 then 314 else if x = 20 then 315 else if x = 21 then 316 else if x = 23 then 317 else if x = 24 then 318 else if x = 25 then 319 else if x = 26 then 320 else 321) := rfl
  rw [e]
  (repeat' split) <;> rfl
theorem se_acts (h : SE M K t u E) (E0 : 0 ≤ E) (E1 : E + 20 < 2147483647) : ∃ M' a K', qf_X4_runActs 20000 t M = some ((), M') ∧ qf_X14_rankedOne 20000 0 K = some a ∧ qf_X18_second_L61 20000 20000 a 1 K = some (.inr ((), K')) ∧ SE M' K' t u (E + 20) := by
  obtain ⟨hx, ⟨e1, e2, e3, e4, e5⟩, hm, hb, hs, hq, hg⟩ := h
  obtain ⟨M', a, K', q1, q2, q3, q4, q5, q6⟩ := acts_both hm e1 E0 E1 e4 e5
  obtain ⟨b1, b2, b3, b4⟩ := mx_bq q4
  have f : Fg 22128727145120783221488305490411252646674434 M M' := Fg_mono q5 rfl
  have g : Fg 131694898927831736381312881657692929566851318366731015927044283881285592837645214222536593055079764553052742978619786133504 K K' := Fg_mono q6 rfl
  refine ⟨M', a, K', q1, q2, q3, sx_F hx f g, ⟨(q5 6 12 0 rfl).trans e1, (q6 2156 2 0 rfl).trans e2, (q6 2270 12 0 rfl).trans e3, e4, e5⟩, q4, bus_q hb b1 (fun e x y z => ?_) (fun e x y z1 z2 z3 z4 => ?_), ⟨(R_smoke_x (fun i j => Fg_v (a := 757) (j := i) q5 rfl rfl) (fun i j => Fg_v (a := 2326) (j := i) q6 rfl rfl) hs.1), (R_smoky_x (q5 756 4 0 rfl) (fun i j => Fg_v (a := 2326) (j := i) q6 rfl rfl) hs.2.1), (R_sroom_x (fun i j => Fg_v (a := 758) (j := i) q5 rfl rfl) (fun i j => Fg_v (a := 2326) (j := i) q6 rfl rfl) (fun i j => Fg_v (a := 2329) (j := i) q6 rfl rfl) hs.2.2)⟩, ⟨(R_persons_x (q5 756 7 0 rfl) (fun i j => Fg_v (a := 761) (j := i) q5 rfl rfl) (fun i j => Fg_v (a := 2304) (j := i) q6 rfl rfl) (fun i j => Fg_v (a := 2305) (j := i) q6 rfl rfl) (fun i j => Fg_v (a := 2306) (j := i) q6 rfl rfl) (fun i j => Fg_v (a := 2307) (j := i) q6 rfl rfl) (fun i j => Fg_v (a := 2308) (j := i) q6 rfl rfl) (fun i j => Fg_v (a := 2309) (j := i) q6 rfl rfl) (fun i j => Fg_v (a := 2310) (j := i) q6 rfl rfl) (fun i j => Fg_v (a := 2311) (j := i) q6 rfl rfl) hq.1), (R_personb_x (q5 6 12 0 rfl) (fun i j => Fg_v (a := 56) (j := i) q5 rfl rfl) (q5 756 7 0 rfl) (q6 2156 9 0 rfl) (fun i j => Fg_v (a := 2306) (j := i) q6 rfl rfl) (fun i j => Fg_v (a := 2307) (j := i) q6 rfl rfl) (fun i j => Fg_v (a := 2308) (j := i) q6 rfl rfl) (fun i j => Fg_v (a := 2309) (j := i) q6 rfl rfl) (fun i j => Fg_v (a := 2311) (j := i) q6 rfl rfl) hq.2.1), (R_calls_x (q5 6 12 0 rfl) (q5 1337 2 0 rfl) (fun i j => Fg_v (a := 1343) (j := i) q5 rfl rfl) (fun i j => Fg_v (a := 2276) (j := i) q6 rfl rfl) (fun i j => Fg_v (a := 2277) (j := i) q6 rfl rfl) (fun i j => Fg_v (a := 2278) (j := i) q6 rfl rfl) (fun i j => Fg_v (a := 2279) (j := i) q6 rfl rfl) hq.2.2.1), (R_personz_x (q5 756 7 0 rfl) (fun i j => Fg_v (a := 761) (j := i) q5 rfl rfl) (fun i j => Fg_v (a := 2310) (j := i) q6 rfl rfl) (fun i j => Fg_v (a := 2311) (j := i) q6 rfl rfl) hq.2.2.2)⟩, ?_⟩
  · rcases (show e = 1139 ∨ e = 1167 ∨ e = 1168 ∨ e = 1169 ∨ e = 1170 ∨ e = 1171 from by omega) with rfl | rfl | rfl | rfl | rfl | rfl
    · exact q5 1139 x y (by exact bus_k x)
    all_goals exact Fg_v q5 rfl rfl
  · rcases (show e = 2252 ∨ e = 2253 ∨ e = 2254 ∨ e = 2255 ∨ e = 2256 ∨ e = 2257 ∨ e = 2260 ∨ e = 2261 ∨ e = 2262 ∨ e = 2263 ∨ e = 2264 ∨ e = 2265 ∨ e = 2266 ∨ e = 2267 ∨ e = 2268 ∨ e = 2269 from by omega) with rfl | rfl | rfl | rfl | rfl | rfl | rfl | rfl | rfl | rfl | rfl | rfl | rfl | rfl | rfl | rfl
    · exact q6 2252 x y (by exact bus_l x)
    all_goals exact Fg_v q6 rfl rfl
  · obtain ⟨⟨g1, g2, g3, g4, g5, g6, g7, g8, g9, g10⟩, g11, g12⟩ := hg
    exact ⟨⟨(R_blocks_x (q5 1003 0 0 rfl) (q6 2235 0 0 rfl) g1), (R_kinds_x (fun i j => Fg_v (a := 1004) (j := i) q5 rfl rfl) (fun i j => Fg_v (a := 2236) (j := i) q6 rfl rfl) g2), (R_pq_x (fun i j => Fg_v (a := 1005) (j := i) q5 rfl rfl) (fun i j => Fg_v (a := 1006) (j := i) q5 rfl rfl) (fun i j => Fg_v (a := 2237) (j := i) q6 rfl rfl) (fun i j => Fg_v (a := 2238) (j := i) q6 rfl rfl) g3), (R_safe_x (fun i j => Fg_v (a := 1007) (j := i) q5 rfl rfl) (fun i j => Fg_v (a := 2239) (j := i) q6 rfl rfl) g4), (R_outs_x (fun i j => Fg_v (a := 1049) (j := i) q5 rfl rfl) (fun i j => Fg_v (a := 1050) (j := i) q5 rfl rfl) (fun i j => Fg_v (a := 2242) (j := i) q6 rfl rfl) (fun i j => Fg_v (a := 2243) (j := i) q6 rfl rfl) (fun i j => Fg_v (a := 2244) (j := i) q6 rfl rfl) g5), (R_hand_x (fun i j => Fg_v (a := 1132) (j := i) q5 rfl rfl) (fun i j => Fg_v (a := 1133) (j := i) q5 rfl rfl) (fun i j => Fg_v (a := 2245) (j := i) q6 rfl rfl) (fun i j => Fg_v (a := 2246) (j := i) q6 rfl rfl) g6), (R_wire_x (q5 1003 0 0 rfl) (fun i j => Fg_v (a := 1008) (j := i) q5 rfl rfl) (fun i j => Fg_v (a := 2240) (j := i) q6 rfl rfl) g7), (R_row_x (fun i j => Fg_v (a := 1091) (j := i) q5 rfl rfl) (fun i j => Fg_v (a := 2241) (j := i) q6 rfl rfl) g8), b2, (R_failed_x (fun i j => Fg_v (a := 1138) (j := i) q5 rfl rfl) (fun i j => Fg_v (a := 2251) (j := i) q6 rfl rfl) g10)⟩, (R_rests_x (q5 1003 18 0 rfl) (q6 2235 18 0 rfl) g11), (R_sorted_x (q5 1003 0 0 rfl) (q5 1003 13 0 rfl) (q5 1003 14 0 rfl) (fun i j => Fg_v (a := 1004) (j := i) q5 rfl rfl) (fun i j => Fg_v (a := 1008) (j := i) q5 rfl rfl) (fun i j => Fg_v (a := 1136) (j := i) q5 rfl rfl) (fun i j => Fg_v (a := 1137) (j := i) q5 rfl rfl) g12)⟩
end PTd
