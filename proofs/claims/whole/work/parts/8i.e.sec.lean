/-! ===== passing: a second, its steps behind the acts ===== -/
section PTe
variable {M K N W : qm} {t u u' E s v d : Int}
theorem se_points (h : SE M K t u E) : ∃ v d, qf_X10_countFreeInside 20000 M = some v ∧ qf_X18_inSpaces 20000 K = some v ∧ qf_X4_countDone 20000 (qw M 1135 0 0 v) = some d ∧ qf_X14_done 20000 (-1) (qw K 2247 0 0 v) = some d ∧ qf_X18_smokes 20000 (-1) (qw (qw K 2247 0 0 v) 2247 1 0 d) = some (M 756 4 0) ∧ qf_X13_many 20000 (qw (qw (qw K 2247 0 0 v) 2247 1 0 d) 2247 2 0 (M 756 4 0)) = some (M 1337 4 0) ∧ SE (ptA M v d) (qw (ptB M K v d) 2235 14 0 (Int.tdiv t 60)) t u E := by
  have h' := h
  obtain ⟨hx, ⟨e1, e2, e3, e4, e5⟩, hm, hb, hs, hq, hg⟩ := h
  obtain ⟨b1, b2, b3, b4⟩ := mx_bq hm
  obtain ⟨a1, a2, a3⟩ := mx_acts hm
  obtain ⟨x0, x1, ⟨h5, h6, h7, h8, h9, h10, h11, h12, h13⟩, x2⟩ := id hx
  obtain ⟨v, d, q1, q2, q3, q4, q5, q6, q7⟩ := fpts_both a1 a2 h8 hq.1 hq.2.1 hs.2.1 h9 hq.2.2.1 h10 b2
  refine ⟨v, d, q1, q2, q3, q4, q5, q6, ?_⟩
  obtain ⟨N, hN⟩ : ∃ N, ptA M v d = N := ⟨_, rfl⟩
  obtain ⟨Z, hZ⟩ : ∃ Z, ptB M K v d = Z := ⟨_, rfl⟩
  obtain ⟨W, hW⟩ : ∃ W, qw Z 2235 14 0 (Int.tdiv t 60) = W := ⟨_, rfl⟩
  rw [hN, hZ] at q7
  rw [hN, hZ, hW]
  have o : ∀ (e : Nat) (x y : Int), (e ≠ 1135) → N e x y = M e x y := fun e x y g => by
    rw [← hN]
    exact ptA_o g
  have z : ∀ (e : Nat) (x y : Int), (¬ (e = 2235 ∧ x = 14)) → W e x y = Z e x y := fun e x y g => by
    rw [← hW, qw_ap, if_neg (fun z => g ⟨z.1, z.2.1⟩)]
  have p : ∀ (e : Nat) (x y : Int), (e ≠ 2247 ∧ ¬ (e = 2235 ∧ x = 14)) → W e x y = K e x y := fun e x y g => (z e x y g.2).trans (by
    rw [← hZ]
    exact ptB_o g.1)
  have pt : R_points N W := R_points_x (M := N) (K := Z) (fun _ _ => rfl) (fun i j => z _ _ _ (by omega)) q7
  exact se_new h' (fun e x y z => o e x y (by omega)) (fun e x y z => p e x y (by omega)) (R_mvalue_x (M := M) (K := K) (fun i j => o 1173 i j (by omega)) (fun i j => p 2209 i j (by omega)) b3) pt (bus_o hb (fun e x y z => o e x y (by omega)) (fun e x y z1 z2 => p e x y (by omega))) (smk_o hs (fun e x y z => o e x y (by omega)) (fun e x y z => p e x y (by omega))) ⟨(R_persons_x (M := M) (K := K) (o 756 7 0 (by omega)) (fun i j => o 761 i j (by omega)) (fun i j => p 2304 i j (by omega)) (fun i j => p 2305 i j (by omega)) (fun i j => p 2306 i j (by omega)) (fun i j => p 2307 i j (by omega)) (fun i j => p 2308 i j (by omega)) (fun i j => p 2309 i j (by omega)) (fun i j => p 2310 i j (by omega)) (fun i j => p 2311 i j (by omega)) hq.1), (R_personb_x (M := M) (K := K) (o 6 12 0 (by omega)) (fun i j => o 56 i j (by omega)) (o 756 7 0 (by omega)) (p 2156 9 0 (by omega)) (fun i j => p 2306 i j (by omega)) (fun i j => p 2307 i j (by omega)) (fun i j => p 2308 i j (by omega)) (fun i j => p 2309 i j (by omega)) (fun i j => p 2311 i j (by omega)) hq.2.1), (R_personz_x (M := M) (K := K) (o 756 7 0 (by omega)) (fun i j => o 761 i j (by omega)) (fun i j => p 2310 i j (by omega)) (fun i j => p 2311 i j (by omega)) hq.2.2.2)⟩
theorem bus_k2 (x : Int) : Nat.testBit 284913756951589198338445788839936 (ky 1139 x) = false := by
  have e : ky 1139 x = (if x = 5 then 108 else if x = 6 then 109 else if x = 8 then 110 else if x = 9 then 111 else if x = 10 then 112 else if x = 11 then 113 else if x = 13 then 114 else if x = 15 then 115 else if x = 16 then 116 else if x = 17 then 117 else 118) := rfl
  rw [e]
  (repeat' split) <;> rfl
theorem bus_l2 (x : Int) : Nat.testBit 1839459400973606049072955428865609177696359174077165949451392920614266894790197446751624888320 (ky 2252 x) = false := by
  have e : ky 2252 x = (if x = 0 then 310 else if x = 3 then 311 else if x = 16 then 312 else if x = 17 then 313 else if x = 19 then 314 else if x = 20 then 315 else if x = 21 then 316 else if x = 23 then 317 else if x = 24 then 318 else if x = 25 then 319 else if x = 26 then 320 else 321) := rfl
  rw [e]
  (repeat' split) <;> rfl
theorem se_tick (h : SE M K t u E) (hd : K 2235 14 0 = Int.tdiv t 60) : ∃ M' K', qf_X9_reckonBlocks 20000 (Int.tmod (Int.tdiv t 60) 1440) M = some ((), M') ∧ qf_X17_tick 20000 K = some ((), K') ∧ SE M' K' t u E := by
  obtain ⟨hx, ⟨e1, e2, e3, e4, e5⟩, hm, hb, hs, hq, hg⟩ := h
  obtain ⟨b1, b2, b3, b4⟩ := mx_bq hm
  obtain ⟨⟨_, M'⟩, q1, ⟨_, K'⟩, q2, q3, q4, q7⟩ := tick_r hg.1 hg.2.1 hg.2.2 (m := Int.tmod (Int.tdiv t 60) 1440) (by rw [hd])
  (try dsimp only at q3 q4 q7)
  have q5 : Fg 284913756951589198338445788839936 M M' := fr_X9_reckonBlocks (M0 := M) Fg_refl _ q1
  have q6 : Fg 1839459400973606049072955428865609177696359174077165949451392920614266894790197446751624888320 K K' := fr_X17_tick (M0 := K) Fg_refl _ q2
  have f : Fg 22128727145120783221488305490411252646674434 M M' := Fg_mono q5 rfl
  have g : Fg 131694898927831736381312881657692929566851318366731015927044283881285592837645214222536593055079764553052742978619786133504 K K' := Fg_mono q6 rfl
  have oB : ∀ (e : Nat) (x y : Int), e = 1140 ∨ e = 1149 ∨ e = 1158 ∨ e = 1139 ∨ (1167 ≤ e ∧ e ≤ 1171) → M' e x y = M e x y := fun e x y z => by
    rcases (show e = 1139 ∨ e = 1140 ∨ e = 1149 ∨ e = 1158 ∨ e = 1167 ∨ e = 1168 ∨ e = 1169 ∨ e = 1170 ∨ e = 1171 from by omega) with rfl | rfl | rfl | rfl | rfl | rfl | rfl | rfl | rfl
    · exact q5 1139 x y (bus_k2 x)
    all_goals exact Fg_v q5 rfl rfl
  have pB : ∀ (e : Nat) (x y : Int), 2252 ≤ e → e ≤ 2269 → K' e x y = K e x y := fun e x y z1 z2 => by
    rcases (show e = 2252 ∨ e = 2253 ∨ e = 2254 ∨ e = 2255 ∨ e = 2256 ∨ e = 2257 ∨ e = 2258 ∨ e = 2259 ∨ e = 2260 ∨ e = 2261 ∨ e = 2262 ∨ e = 2263 ∨ e = 2264 ∨ e = 2265 ∨ e = 2266 ∨ e = 2267 ∨ e = 2268 ∨ e = 2269 from by omega) with rfl | rfl | rfl | rfl | rfl | rfl | rfl | rfl | rfl | rfl | rfl | rfl | rfl | rfl | rfl | rfl | rfl | rfl
    · exact q6 2252 x y (bus_l2 x)
    all_goals exact Fg_v q6 rfl rfl
  have bus : BUS M' K' u := bus_o hb oB pB
  refine ⟨M', K', q1, q2, sx_F hx f g, ⟨(q5 6 12 0 rfl).trans e1, (q6 2156 2 0 rfl).trans e2, (q6 2270 12 0 rfl).trans e3, e4, e5⟩, mx_keep hm (fun e x y z => ?_) (fun e x y z => ?_) (R_mnow_x (q5 6 12 0 rfl) (q6 2208 1 0 rfl) b4) (R_mvalue_x (fun i j => Fg_v (a := 1173) (j := i) q5 rfl rfl) (fun i j => Fg_v (a := 2209) (j := i) q6 rfl rfl) b3) (by rw [q5 6 12 0 rfl]; exact Int.le_refl _) (stn_bq bus.2.1) q3.2.2.2.2.2.2.2.2.1, bus, ⟨(R_smoke_x (fun i j => Fg_v (a := 757) (j := i) q5 rfl rfl) (fun i j => Fg_v (a := 2326) (j := i) q6 rfl rfl) hs.1), (R_smoky_x (q5 756 4 0 rfl) (fun i j => Fg_v (a := 2326) (j := i) q6 rfl rfl) hs.2.1), (R_sroom_x (fun i j => Fg_v (a := 758) (j := i) q5 rfl rfl) (fun i j => Fg_v (a := 2326) (j := i) q6 rfl rfl) (fun i j => Fg_v (a := 2329) (j := i) q6 rfl rfl) hs.2.2)⟩, ⟨(R_persons_x (q5 756 7 0 rfl) (fun i j => Fg_v (a := 761) (j := i) q5 rfl rfl) (fun i j => Fg_v (a := 2304) (j := i) q6 rfl rfl) (fun i j => Fg_v (a := 2305) (j := i) q6 rfl rfl) (fun i j => Fg_v (a := 2306) (j := i) q6 rfl rfl) (fun i j => Fg_v (a := 2307) (j := i) q6 rfl rfl) (fun i j => Fg_v (a := 2308) (j := i) q6 rfl rfl) (fun i j => Fg_v (a := 2309) (j := i) q6 rfl rfl) (fun i j => Fg_v (a := 2310) (j := i) q6 rfl rfl) (fun i j => Fg_v (a := 2311) (j := i) q6 rfl rfl) hq.1), (R_personb_x (q5 6 12 0 rfl) (fun i j => Fg_v (a := 56) (j := i) q5 rfl rfl) (q5 756 7 0 rfl) (q6 2156 9 0 rfl) (fun i j => Fg_v (a := 2306) (j := i) q6 rfl rfl) (fun i j => Fg_v (a := 2307) (j := i) q6 rfl rfl) (fun i j => Fg_v (a := 2308) (j := i) q6 rfl rfl) (fun i j => Fg_v (a := 2309) (j := i) q6 rfl rfl) (fun i j => Fg_v (a := 2311) (j := i) q6 rfl rfl) hq.2.1), (R_calls_x (q5 6 12 0 rfl) (q5 1337 2 0 rfl) (fun i j => Fg_v (a := 1343) (j := i) q5 rfl rfl) (fun i j => Fg_v (a := 2276) (j := i) q6 rfl rfl) (fun i j => Fg_v (a := 2277) (j := i) q6 rfl rfl) (fun i j => Fg_v (a := 2278) (j := i) q6 rfl rfl) (fun i j => Fg_v (a := 2279) (j := i) q6 rfl rfl) hq.2.2.1), (R_personz_x (q5 756 7 0 rfl) (fun i j => Fg_v (a := 761) (j := i) q5 rfl rfl) (fun i j => Fg_v (a := 2310) (j := i) q6 rfl rfl) (fun i j => Fg_v (a := 2311) (j := i) q6 rfl rfl) hq.2.2.2)⟩, ⟨q3, q4, q7⟩⟩
  · rcases (show (e = 1172 ∧ x = 2) ∨ (e = 1172 ∧ x = 9) ∨ (e = 1172 ∧ x = 17) ∨ e = 1174 ∨ e = 1175 ∨ e = 1176 ∨ e = 1197 ∨ e = 1218 ∨ e = 1269 ∨ e = 1270 ∨ e = 1271 ∨ e = 1272 ∨ e = 1273 ∨ e = 1276 from by omega) with ⟨rfl, rfl⟩ | ⟨rfl, rfl⟩ | ⟨rfl, rfl⟩ | rfl | rfl | rfl | rfl | rfl | rfl | rfl | rfl | rfl | rfl | rfl
    · exact q5 1172 2 y rfl
    · exact q5 1172 9 y rfl
    · exact q5 1172 17 y rfl
    all_goals exact Fg_v q5 rfl rfl
  · rcases (show (e = 2208 ∧ x = 21) ∨ (e = 2208 ∧ x = 30) ∨ e = 2210 ∨ e = 2211 ∨ e = 2215 ∨ e = 2216 ∨ e = 2217 ∨ e = 2218 ∨ e = 2219 ∨ e = 2220 ∨ e = 2221 ∨ e = 2222 ∨ e = 2223 ∨ e = 2224 ∨ e = 2225 ∨ e = 2226 ∨ e = 2227 ∨ e = 2228 ∨ e = 2229 ∨ e = 2230 ∨ e = 2231 ∨ e = 2232 ∨ e = 2233 from by omega) with ⟨rfl, rfl⟩ | ⟨rfl, rfl⟩ | rfl | rfl | rfl | rfl | rfl | rfl | rfl | rfl | rfl | rfl | rfl | rfl | rfl | rfl | rfl | rfl | rfl | rfl | rfl | rfl | rfl
    · exact q6 2208 21 y rfl
    · exact q6 2208 30 y rfl
    all_goals exact Fg_v q6 rfl rfl
theorem se_line (h : SE M K t u E) (hu : u + 30 ≤ 180000) : ∃ M' K', qf_X11_passSecond_L211 20000 20000 0 M = some (.inr ((), M')) ∧ qf_X18_line_ 20000 K = some ((), K') ∧ SE M' K' t (u + 30) E := by
  have h' := h
  obtain ⟨hx, ⟨e1, e2, e3, e4, e5⟩, hm, hb, hs, hq, hg⟩ := h
  obtain ⟨b1, b2, b3, b4⟩ := mx_bq hm
  obtain ⟨M', K', q1, q2, q3, q4, q5, q6⟩ := line30 hb hu b2
  have o : ∀ (e : Nat) (x y : Int), (e ≠ 1140 ∧ e ≠ 1149 ∧ e ≠ 1158 ∧ e ≠ 1139 ∧ ¬ (1168 ≤ e ∧ e ≤ 1171) ∧ e ≠ 1135) → M' e x y = M e x y := fun e x y z => q5 e x y z.1 z.2.1 z.2.2.1 z.2.2.2.1 z.2.2.2.2.1 z.2.2.2.2.2
  have p : ∀ (e : Nat) (x y : Int), (e ≠ 2247 ∧ e ≠ 2252 ∧ e ≠ 2253 ∧ ¬ (2258 ≤ e ∧ e ≤ 2269)) → K' e x y = K e x y := fun e x y z => q6 e x y z.1 z.2.1 z.2.2.1 z.2.2.2
  exact ⟨M', K', q1, q2, se_new h' (fun e x y z => o e x y (by omega)) (fun e x y z => p e x y (by omega)) (R_mvalue_x (M := M) (K := K) (fun i j => o 1173 i j (by omega)) (fun i j => p 2209 i j (by omega)) b3) q4 q3 (smk_o hs (fun e x y z => o e x y (by omega)) (fun e x y z => p e x y (by omega))) ⟨(R_persons_x (M := M) (K := K) (o 756 7 0 (by omega)) (fun i j => o 761 i j (by omega)) (fun i j => p 2304 i j (by omega)) (fun i j => p 2305 i j (by omega)) (fun i j => p 2306 i j (by omega)) (fun i j => p 2307 i j (by omega)) (fun i j => p 2308 i j (by omega)) (fun i j => p 2309 i j (by omega)) (fun i j => p 2310 i j (by omega)) (fun i j => p 2311 i j (by omega)) hq.1), (R_personb_x (M := M) (K := K) (o 6 12 0 (by omega)) (fun i j => o 56 i j (by omega)) (o 756 7 0 (by omega)) (p 2156 9 0 (by omega)) (fun i j => p 2306 i j (by omega)) (fun i j => p 2307 i j (by omega)) (fun i j => p 2308 i j (by omega)) (fun i j => p 2309 i j (by omega)) (fun i j => p 2311 i j (by omega)) hq.2.1), (R_personz_x (M := M) (K := K) (o 756 7 0 (by omega)) (fun i j => o 761 i j (by omega)) (fun i j => p 2310 i j (by omega)) (fun i j => p 2311 i j (by omega)) hq.2.2.2)⟩⟩
theorem se_catch (h : SE M K t u E) : ∃ M' K', qf_X10_catchPersons 20000 t M = some ((), M') ∧ qf_X18_second_L186 20000 20000 0 K = some (.inr ((), K')) ∧ SE M' K' t u E := by
  have h' := h
  obtain ⟨hx, ⟨e1, e2, e3, e4, e5⟩, hm, hb, hs, hq, hg⟩ := h
  obtain ⟨b1, b2, b3, b4⟩ := mx_bq hm
  obtain ⟨x0, x1, ⟨h5, h6, h7, h8, h9, h10, h11, h12, h13⟩, x2⟩ := id hx
  obtain ⟨M', K', q1, q2, q3, q4, q5, q6⟩ := catch_both x0 e2 e4 h8 hq.1 hq.2.1 hs.1
  have o : ∀ (e : Nat) (x y : Int), (e ≠ 761) → M' e x y = M e x y := fun e x y z => q5 e x y (fun w => z w.1)
  have p : ∀ (e : Nat) (x y : Int), (e ≠ 2309) → K' e x y = K e x y := q6
  have n7 : M' 756 7 0 = M 756 7 0 := o _ _ _ (by omega)
  refine ⟨M', K', q1, q2, se_new h' (fun e x y z => o e x y (by omega)) (fun e x y z => p e x y (by omega)) (R_mvalue_x (M := M) (K := K) (fun i j => o 1173 i j (by omega)) (fun i j => p 2209 i j (by omega)) b3) (R_points_x (M := M) (K := K) (fun i j => o 1135 i j (by omega)) (fun i j => p 2247 i j (by omega)) b2) (bus_o hb (fun e x y z => o e x y (by omega)) (fun e x y z1 z2 => p e x y (by omega))) (smk_o hs (fun e x y z => o e x y (by omega)) (fun e x y z => p e x y (by omega))) ⟨q3, q4, fun k k0 k1 => ?_⟩⟩
  rw [n7] at k0
  rw [p 2310 _ _ (by omega), p 2311 _ _ (by omega), q5 761 k 4 (by omega), q5 761 k 5 (by omega)]
  exact hq.2.2.2 k k0 k1
theorem se_leave (h : SE M K t u E) : ∃ M' K' b w, qf_X11_doPersonsLeave 20000 M = some b ∧ qf_X14_done 20000 4 K = some w ∧ ((b = 0 ∧ w ≤ 0 ∧ M' = M ∧ K' = K) ∨ (b = 1 ∧ 0 < w ∧ qf_X10_movePersons 20000 t M = some ((), M') ∧ qf_X18_leave 20000 K = some ((), K'))) ∧ SE M' K' t u E := by
  have h' := h
  obtain ⟨hx, ⟨e1, e2, e3, e4, e5⟩, hm, hb, hs, hq, hg⟩ := h
  obtain ⟨b1, b2, b3, b4⟩ := mx_bq hm
  obtain ⟨a1, a2, a3⟩ := mx_acts hm
  obtain ⟨x0, ⟨h1, h2, h3, h4⟩, ⟨h5, h6, h7, h8, h9, h10, h11, h12, h13⟩, hw, M0, K0, A, D0, D, EE, F, G, H, C, q, m, p', R, stt, cnt, hf, hc⟩ := hx
  obtain ⟨b, f1, f2⟩ := isKindDone_r (M := M) (k := 4)
  obtain ⟨w, g1, g2⟩ := done2_r a1 a2 (k := 4) (by decide)
  have eb : qf_X11_doPersonsLeave 20000 M = some b := by
    unfold qf_X11_doPersonsLeave
    rw [f1, Option.bind_some, if_pos (by omega)]
  rcases f2 with ⟨rfl, f2⟩ | ⟨rfl, f2⟩
  · have w0 : 0 < w := by
      rcases g2 with ⟨g2, _⟩ | ⟨_, g2⟩
      · exact g2
      · exact absurd f2 g2
    obtain ⟨M', K', q1, q2, q3, q4, q5, q6, q7⟩ := leave_both h1 h2 h3 h4 h5 hs.1 h6 h7 hq.1 hq.2.1 h8 x0 hw hf hc e2 e4 e1 hq.2.2.2
    have o : ∀ (e : Nat) (x y : Int), (e ≠ 761 ∧ e ≠ 802 ∧ e ≠ 803) → M' e x y = M e x y := fun e x y z => q6 e x y z.1 z.2.1 z.2.2
    have p : ∀ (e : Nat) (x y : Int), (¬ (2306 ≤ e ∧ e ≤ 2308) ∧ e ≠ 2310 ∧ e ≠ 2311 ∧ e ≠ 2330 ∧ e ≠ 2331) → K' e x y = K e x y := fun e x y z => q7 e x y z.1 z.2.1 z.2.2.1 z.2.2.2.1 z.2.2.2.2
    exact ⟨M', K', 1, w, eb, g1, Or.inr ⟨rfl, w0, q1, q2⟩, se_new h' (fun e x y z => o e x y (by omega)) (fun e x y z => p e x y (by omega)) (R_mvalue_x (M := M) (K := K) (fun i j => o 1173 i j (by omega)) (fun i j => p 2209 i j (by omega)) b3) (R_points_x (M := M) (K := K) (fun i j => o 1135 i j (by omega)) (fun i j => p 2247 i j (by omega)) b2) (bus_o hb (fun e x y z => o e x y (by omega)) (fun e x y z1 z2 => p e x y (by omega))) (smk_o hs (fun e x y z => o e x y (by omega)) (fun e x y z => p e x y (by omega))) ⟨q3, q4, q5⟩⟩
  · have w0 : w ≤ 0 := by
      rcases g2 with ⟨_, g2⟩ | ⟨g2, _⟩
      · exact absurd g2 f2
      · omega
    exact ⟨M, K, 0, w, eb, g1, Or.inl ⟨rfl, w0, rfl, rfl⟩, h'⟩
end PTe
