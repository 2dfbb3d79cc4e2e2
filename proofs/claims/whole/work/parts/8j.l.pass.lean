/-! ===== the law between two calls (wip/tools/q/genli.py) ===== -/
section LIc8j_l_pass
variable {M K N W : qm} {n x v y z i1 i2 i3 i4 i5 x1 x2 x3 x4 x5 x6 day : Int}
theorem bus_k6 {x : Int} (hx : x ≠ 8) : Nat.testBit 330527984395124299475957654016385519914202341482140609642324397637202895618155672912435099482956220811180783081058140684285 (ky 1139 x) = false := by
  have e : ky 1139 x = (if x = 5 then 108 else if x = 6 then 109 else if x = 8 then 110 else if x = 9 then 111 else if x = 10 then 112 else if x = 11 then 113 else if x = 13 then 114 else if x = 15 then 115 else if x = 16 then 116 else if x = 17 then 117 else 118) := rfl
  rw [e]
  (repeat' split) <;> first | rfl | (exfalso; omega)
theorem bus_l6 {x : Int} (hx : x ≠ 3) : Nat.testBit 330527984395124299474837798739450679695503820759046702014474101420971860609269594100399795322442027549102537810967967825919 (ky 2252 x) = false := by
  have e : ky 2252 x = (if x = 0 then 310 else if x = 3 then 311 else if x = 16 then 312 else if x = 17 then 313 else if x = 19 then 314 else if x = 20 then 315 else if x = 21 then 316 else if x = 23 then 317 else if x = 24 then 318 else if x = 25 then 319 else if x = 26 then 320 else 321) := rfl
  rw [e]
  (repeat' split) <;> first | rfl | (exfalso; omega)
theorem FP_BUSD (f : Fg 330527984395124299475957654016385519914202341482140609642324397637202895618155672912435099482956220811180783081058140684285 M N) (g : Fg 330527984395124299474837798739450679695503820759046702014474101420971860609269594100399795322442027549102537810967967825919 K W) (h : BUS M K (30 * M 6 12 0)) (hs : R_bspoilt N W) (hn : R_bspn N W) (hx : M 1139 8 0 ≤ N 1139 8 0) (hy : DBK K W) (hu : sI (fun u => W 2254 u 0) 182001 ≤ 512) : BUS N W (30 * N 6 12 0) := by
  refine bus_db h hs hn hx hy hu (fun e x y z => ?_) (fun e x y z => ?_) (f 6 12 0 rfl)
  · rcases (show (e = 1139 ∧ x ≠ 8) ∨ e = 1140 ∨ e = 1149 ∨ e = 1158 ∨ e = 1167 ∨ e = 1169 ∨ e = 1170 ∨ e = 1171 from by omega) with ⟨rfl, w⟩ | rfl | rfl | rfl | rfl | rfl | rfl | rfl
    · exact f 1139 x y (bus_k6 w)
    all_goals exact Fg_v f rfl rfl
  · rcases (show (e = 2252 ∧ x ≠ 3) ∨ e = 2253 ∨ e = 2255 ∨ e = 2256 ∨ e = 2257 ∨ e = 2258 ∨ e = 2259 ∨ e = 2260 ∨ e = 2261 ∨ e = 2262 ∨ e = 2263 ∨ e = 2264 ∨ e = 2265 ∨ e = 2266 ∨ e = 2267 ∨ e = 2268 ∨ e = 2269 from by omega) with ⟨rfl, w⟩ | rfl | rfl | rfl | rfl | rfl | rfl | rfl | rfl | rfl | rfl | rfl | rfl | rfl | rfl | rfl | rfl
    · exact g 2252 x y (bus_l6 w)
    all_goals exact Fg_v g rfl rfl
theorem li_disturb  (h : LIQ n M K) (hn : n < 512) : oK2 cB (qf_L_disturb 20000 x1 M) (qf_X18_disturb 20000 x1 K) (fun M' K' => LIQ (n + 1) M' K') := by
  obtain ⟨g0, gA, gB, gC, gD, gE, gF, gG, gH, gI, gJ, gK⟩ := h
  obtain ⟨h_built, h_time, h_ltime, h_BND⟩ := id g0
  obtain ⟨h_BUS, h_blisten⟩ := id gJ
  have nn : n ≤ n + 1 := by omega
  obtain ⟨n_0, n_1, n_2, n_3, n_4⟩ := id h_BND
  obtain ⟨h_bnow, h_bspn, h_bspoilt, h_bheard, h_blatest⟩ := bus_rls h_time h_BUS
  obtain ⟨q1, q2, q3, q4, q5, q6, q7, q8, q9, q10, q11, q12, q13, q14, q15, q16, q17, hu1, hu2⟩ := id h_BUS
  have y1 := h_bnow
  unfold R_bnow at y1
  have y2 := h_time
  unfold R_time at y2
  have y3 := h_bspn
  unfold R_bspn at y3
  refine li_mk (op_disturb (h_built := h_built) (h_time := h_time) (h_bnow := h_bnow) (h_bspn := h_bspn) (h_bspoilt := h_bspoilt)) (fr_L_disturb Fg_refl) (fr_X18_disturb Fg_refl) (dc_L y3.2.2 y3.2.1) (db_K (by omega) (by omega)) (fun M' K' hT f g hX hY => ?_)
  obtain ⟨t_bspn, t_bspoilt⟩ := hT
  have n5 : n + 1 ≤ 512 := by omega
  obtain ⟨r, hx, er⟩ := hX
  rw [er] at hx
  obtain ⟨s, hy, es⟩ := hY
  rw [es] at hy
  have hs := sum_db hu1 (by omega) hy
  have hu : sI (fun u => K' 2254 u 0) 182001 ≤ 512 := Int.le_trans hs (Int.le_trans (Int.add_le_add_right n_4 1) n5)
  clear n_4
  exact ⟨⟨(R_built_x (M := M) (K := K) (f 6 11 0 rfl) (g 2156 1 0 rfl) h_built), (R_time_x (M := M) (K := K) (f 6 12 0 rfl) (g 2156 2 0 rfl) h_time), (R_ltime_x (M := M) (K := K) (f 6 12 0 rfl) (g 2270 12 0 rfl) h_ltime), bnd_n h_BND (Int.le_trans (Int.le_of_eq (f 824 12 0 rfl)) (Int.le_add_one (Int.le_refl _))) (Int.le_trans (Int.le_of_eq (g 2156 24 0 rfl)) (Int.le_add_one (Int.le_refl _))) (Int.le_trans (Int.le_of_eq (f 824 15 0 rfl)) (Int.le_add_of_nonneg_right (by decide))) hs⟩, LIA_F nn (Fg_mono f rfl) (Fg_mono g rfl) gA, LIB_F nn (Fg_mono f rfl) (Fg_mono g rfl) gB, LIC_F nn (Fg_mono f rfl) (Fg_mono g rfl) gC, LID_F nn (Fg_mono f rfl) (Fg_mono g rfl) gD, LIE_F nn (Fg_mono f rfl) (Fg_mono g rfl) gE, LIF_F nn (Fg_mono f rfl) (Fg_mono g rfl) gF, LIG_F nn (Fg_mono f rfl) (Fg_mono g rfl) gG, LIH_F nn (Fg_mono f rfl) (Fg_mono g rfl) gH, LII_F nn (Fg_mono f rfl) (Fg_mono g rfl) gI, ⟨(FP_BUSD (Fg_mono f rfl) (Fg_mono g rfl) h_BUS t_bspoilt t_bspn hx hy hu), (R_blisten_x (M := M) (K := K) (fun i j => Fg_v (a := 1167) (j := i) f rfl rfl) (fun i j => Fg_v (a := 2256) (j := i) g rfl rfl) h_blisten)⟩, LIK_F nn (Fg_mono f rfl) (Fg_mono g rfl) gK⟩
theorem fnx_of (h : FND M K) (hc : M 51 1 0 ≠ 0 ∧ M 51 2 0 = 1) : FNX M K := by
  rcases h with ⟨h1, _⟩ | ⟨_, M0, K0, A, D0, D, E, F, G, H, C, q, m, p, R, stt, cnt, w⟩
  · exact absurd h1 hc.1
  · exact ⟨M0, K0, A, D0, D, E, F, G, H, C, q, m, p, R, stt, cnt, w, w.2.2.2.2.2 hc.2⟩
theorem porto_t (e : ∀ p, K 2295 p 0 = K 2295 p 0) (h : R_porto M K) (h1 : N 824 3 0 = M 824 3 0) (h2 : ∀ i j, N 825 i j = M 825 i j) (g1 : ∀ i j, W 2294 i j = K 2294 i j) (g2 : ∀ i j, W 2295 i j = K 2295 i j) (g3 : ∀ i j, W 2296 i j = K 2296 i j) (ht : M 6 12 0 ≤ N 6 12 0) : R_porto N W := by
  intro p p0 p1
  rw [h1] at p1
  have z := h p p0 p1
  rw [g1, g2, g3, h2, h2, h2]
  omega
theorem fg_C (s : ∀ b i j, b ≠ 2332 → N b i j = M b i j) : Fg 330527984395124299475957654016385519914202341482140609642324397637202895618134094154021877025645555751419849396157541335040 M N := fun a i j q => s a i j (by
  rintro rfl
  have w : Nat.testBit 330527984395124299475957654016385519914202341482140609642324397637202895618134094154021877025645555751419849396157541335040 406 = false := q
  exact absurd w (by decide))
theorem fg_K (s : ∀ b i j, ¬ (b = 2156 ∧ i = 0) → W b i j = K b i j) : Fg 294376486101908680162823313624429676524604646145730625665087955067239896524715995437494174412803831209120851070010947272703 K W := fun a i j q => s a i j (by
  rintro ⟨rfl, rfl⟩
  have w : Nat.testBit 294376486101908680162823313624429676524604646145730625665087955067239896524715995437494174412803831209120851070010947272703 160 = false := q
  exact absurd w (by decide))
theorem li_pass (h : LIQ n M K) (hn : n < 512) : oK2 cI (qf_L_pass 20000 x1 M) (qf_X18_pass 20000 x1 K) (fun M' K' => LIQ (n + 1) M' K') := by
  have h' := h
  obtain ⟨g0, gA, gB, gC, gD, gE, gF, gG, gH, gI, gJ, gK⟩ := h
  obtain ⟨h_built, h_time, h_ltime, h_BND⟩ := id g0
  obtain ⟨h_lines, h_ends, h_doorn, h_doors, h_find0, h_spaces, h_names, h_alone, h_FND⟩ := id gA
  obtain ⟨h_textn, h_textc, h_factn, h_facts, h_factd, h_rulen, h_answers, h_RLS⟩ := id gB
  obtain ⟨h_portn, h_portw, h_portc, h_porto, h_portk, h_portr, h_portq, h_zport, h_znum⟩ := id gC
  obtain ⟨h_cardn, h_cards, h_rightn, h_rights, h_telln, h_tellt, h_tellc, h_tellr, h_notek, h_noteo, h_notex, h_lockb, h_locku, h_lockr, h_againstn, h_against⟩ := id gD
  obtain ⟨h_personn, h_persons, h_personb, h_personz, h_zpers⟩ := id gE
  obtain ⟨h_smoke, h_smoky, h_sroom, h_smoke0, h_walk, h_spaceof, h_rooms, h_WLX, h_CUX⟩ := id gF
  obtain ⟨h_mtextn, h_mtext, h_mpoints, h_zzone, h_LAT⟩ := id gG
  have h_MXI := gH
  unfold LIH at h_MXI
  obtain ⟨h_blocks, h_kinds, h_pq, h_safe, h_outs, h_hand, h_wire, h_row, h_bound, h_boundz, h_failed, h_rests, h_sorted⟩ := id gI
  obtain ⟨h_BUS, h_blisten⟩ := id gJ
  obtain ⟨h_carn, h_cars, h_carz, h_calln, h_calls, h_given, h_givenz, h_opens, h_openl, h_openi, h_opena, h_begun, h_begunz, h_begunr⟩ := id gK
  have nn : n ≤ n + 1 := by omega
  obtain ⟨n_0, n_1, n_2, n_3, n_4⟩ := id h_BND
  have s_time := h_time
  unfold R_time at s_time
  have s_ltime := h_ltime
  unfold R_ltime at s_ltime
  obtain ⟨b1, b2, b3, b4⟩ := mx_bq h_MXI
  have hS : M 6 11 0 ≠ 0 → SE M K (M 6 12 0) (30 * M 6 12 0) (1200 * n) := fun hb => ⟨⟨hb, ⟨h_lines, h_ends, h_doorn, h_doors⟩, ⟨h_spaceof, h_walk, h_rooms, h_personn, h_calln, h_opens, h_mpoints, h_bound, h_blocks⟩, h_WLX hb, fnx_of h_FND (h_CUX hb)⟩, ⟨rfl, s_time.2.2, s_ltime, s_time.1, s_time.2.1⟩, h_MXI, h_BUS, ⟨h_smoke, h_smoky, h_sroom⟩, ⟨h_persons, h_personb, h_calls, h_personz⟩, ⟨⟨h_blocks, h_kinds, h_pq, h_safe, h_outs, h_hand, h_wire, h_row, b2, h_failed⟩, h_rests, h_sorted⟩⟩
  refine li_mk (op_pass (E := 1200 * n) h_built h_time (by omega) (by omega) hS) (fr_L_pass Fg_refl) (fr_X18_pass Fg_refl) qP_tt qP_tt (fun M' K' hT f g hX hY => ?_)
  rcases hT with ⟨s1, s2⟩ | ⟨hb, a1, a2, a3, hse⟩
  · exact LIQ_F nn (fg_C s1) (fg_K s2) h'
  · obtain ⟨hx, ⟨e1, e2, e3, e4, e5⟩, hm, hbu, hs, hq, hg⟩ := hse
    exact ⟨⟨(R_built_x (M := M) (K := K) (f 6 11 0 rfl) (g 2156 1 0 rfl) h_built), ⟨by omega, by omega, by omega⟩, (e3.trans e1.symm), (FP_BND nn (Fg_mono f rfl) (Fg_mono g rfl) h_BND)⟩, LIA_F nn (Fg_mono f rfl) (Fg_mono g rfl) gA, LIB_F nn (Fg_mono f rfl) (Fg_mono g rfl) gB, ⟨(R_portn_x (M := M) (K := K) (f 6 11 0 rfl) (f 824 3 0 rfl) (f 824 7 0 rfl) (fun i j => Fg_v (a := 825) (j := i) f rfl rfl) (fun i j => Fg_v (a := 826) (j := i) f rfl rfl) (fun i j => Fg_v (a := 827) (j := i) f rfl rfl) (g 2156 10 0 rfl) h_portn), (R_portw_x (M := M) (K := K) (f 7 0 0 rfl) (f 824 3 0 rfl) (fun i j => Fg_v (a := 825) (j := i) f rfl rfl) (g 2156 9 0 rfl) (fun i j => Fg_v (a := 2289) (j := i) g rfl rfl) (fun i j => Fg_v (a := 2290) (j := i) g rfl rfl) (fun i j => Fg_v (a := 2291) (j := i) g rfl rfl) (fun i j => Fg_v (a := 2292) (j := i) g rfl rfl) h_portw), (R_portc_x (M := M) (K := K) (f 824 3 0 rfl) (fun i j => Fg_v (a := 825) (j := i) f rfl rfl) (fun i j => Fg_v (a := 2158) (j := i) g rfl rfl) (fun i j => Fg_v (a := 2159) (j := i) g rfl rfl) (fun i j => Fg_v (a := 2160) (j := i) g rfl rfl) (fun i j => Fg_v (a := 2161) (j := i) g rfl rfl) (fun i j => Fg_v (a := 2291) (j := i) g rfl rfl) (fun i j => Fg_v (a := 2293) (j := i) g rfl rfl) h_portc), (porto_t (fun _ => rfl) h_porto (f 824 3 0 rfl) (fun i j => Fg_v f rfl rfl) (fun i j => Fg_v g rfl rfl) (fun i j => Fg_v g rfl rfl) (fun i j => Fg_v g rfl rfl) (by omega)), (R_portk_x (M := M) (K := K) (f 824 3 0 rfl) (f 824 12 0 rfl) (fun i j => Fg_v (a := 825) (j := i) f rfl rfl) (fun i j => Fg_v (a := 2297) (j := i) g rfl rfl) (fun i j => Fg_v (a := 2298) (j := i) g rfl rfl) h_portk), (R_portr_x (M := M) (K := K) (f 824 3 0 rfl) (f 824 8 0 rfl) (fun i j => Fg_v (a := 826) (j := i) f rfl rfl) (fun i j => Fg_v (a := 2289) (j := i) g rfl rfl) (fun i j => Fg_v (a := 2290) (j := i) g rfl rfl) (fun i j => Fg_v (a := 2298) (j := i) g rfl rfl) (fun i j => Fg_v (a := 2299) (j := i) g rfl rfl) (fun i j => Fg_v (a := 2300) (j := i) g rfl rfl) (fun i j => Fg_v (a := 2301) (j := i) g rfl rfl) h_portr), (R_portq_x (M := M) (K := K) (fun i j => Fg_v (a := 56) (j := i) f rfl rfl) (f 824 3 0 rfl) (fun i j => Fg_v (a := 825) (j := i) f rfl rfl) (g 2156 9 0 rfl) h_portq), (R_zport_x (M := M) (K := K) (f 6 11 0 rfl) (fun i j => Fg_v (a := 2294) (j := i) g rfl rfl) (fun i j => Fg_v (a := 2295) (j := i) g rfl rfl) (fun i j => Fg_v (a := 2296) (j := i) g rfl rfl) (fun i j => Fg_v (a := 2298) (j := i) g rfl rfl) h_zport), (R_znum_x (M := M) (K := K) (f 6 11 0 rfl) (fun i j => Fg_v (a := 2328) (j := i) g rfl rfl) h_znum)⟩, LID_F nn (Fg_mono f rfl) (Fg_mono g rfl) gD, ⟨(R_personn_x (M := M) (K := K) (f 756 7 0 rfl) (g 2156 27 0 rfl) h_personn), hq.1, hq.2.1, hq.2.2.2, (R_zpers_x (M := M) (K := K) (f 6 11 0 rfl) (f 756 7 0 rfl) h_zpers)⟩, ⟨hs.1, hs.2.1, hs.2.2, (fun z => absurd ((f 6 11 0 rfl).symm.trans z) hb), (R_walk_x (M := M) (K := K) (f 6 11 0 rfl) (fun i j => Fg_v (a := 759) (j := i) f rfl rfl) (fun i j => Fg_v (a := 2328) (j := i) g rfl rfl) h_walk), (R_spaceof_x (M := M) (K := K) (f 6 11 0 rfl) (f 51 3 0 rfl) (fun i j => Fg_v (a := 56) (j := i) f rfl rfl) (fun i j => Fg_v (a := 2329) (j := i) g rfl rfl) h_spaceof), (R_rooms_x (M := M) (K := K) (f 6 11 0 rfl) (f 51 3 0 rfl) (g 2156 9 0 rfl) h_rooms), (FP_WLX (Fg_mono f rfl) h_WLX), (FP_CUX (Fg_mono f rfl) h_CUX)⟩, LIG_F nn (Fg_mono f rfl) (Fg_mono g rfl) gG, (mx_le hm (by omega)), ⟨(R_blocks_x (M := M) (K := K) (f 1003 0 0 rfl) (g 2235 0 0 rfl) h_blocks), (R_kinds_x (M := M) (K := K) (fun i j => Fg_v (a := 1004) (j := i) f rfl rfl) (fun i j => Fg_v (a := 2236) (j := i) g rfl rfl) h_kinds), (R_pq_x (M := M) (K := K) (fun i j => Fg_v (a := 1005) (j := i) f rfl rfl) (fun i j => Fg_v (a := 1006) (j := i) f rfl rfl) (fun i j => Fg_v (a := 2237) (j := i) g rfl rfl) (fun i j => Fg_v (a := 2238) (j := i) g rfl rfl) h_pq), (R_safe_x (M := M) (K := K) (fun i j => Fg_v (a := 1007) (j := i) f rfl rfl) (fun i j => Fg_v (a := 2239) (j := i) g rfl rfl) h_safe), hg.1.2.2.2.2.1, (R_hand_x (M := M) (K := K) (fun i j => Fg_v (a := 1132) (j := i) f rfl rfl) (fun i j => Fg_v (a := 1133) (j := i) f rfl rfl) (fun i j => Fg_v (a := 2245) (j := i) g rfl rfl) (fun i j => Fg_v (a := 2246) (j := i) g rfl rfl) h_hand), (R_wire_x (M := M) (K := K) (f 1003 0 0 rfl) (fun i j => Fg_v (a := 1008) (j := i) f rfl rfl) (fun i j => Fg_v (a := 2240) (j := i) g rfl rfl) h_wire), (R_row_x (M := M) (K := K) (fun i j => Fg_v (a := 1091) (j := i) f rfl rfl) (fun i j => Fg_v (a := 2241) (j := i) g rfl rfl) h_row), (R_bound_x (M := M) (K := K) (f 1003 0 0 rfl) (fun i j => Fg_v (a := 1134) (j := i) f rfl rfl) (fun i j => Fg_v (a := 2248) (j := i) g rfl rfl) h_bound), (R_boundz_x (M := M) (K := K) (f 1003 0 0 rfl) (fun i j => Fg_v (a := 2248) (j := i) g rfl rfl) h_boundz), hg.1.2.2.2.2.2.2.2.2.2, hg.2.1, hg.2.2⟩, ⟨(by rw [e1]; exact hbu), (R_blisten_x (M := M) (K := K) (fun i j => Fg_v (a := 1167) (j := i) f rfl rfl) (fun i j => Fg_v (a := 2256) (j := i) g rfl rfl) h_blisten)⟩, ⟨(R_carn_x (M := M) (K := K) (f 1337 0 0 rfl) (g 2270 0 0 rfl) h_carn), (R_cars_x (M := M) (K := K) (f 1337 0 0 rfl) (fun i j => Fg_v (a := 1338) (j := i) f rfl rfl) (fun i j => Fg_v (a := 2271) (j := i) g rfl rfl) (fun i j => Fg_v (a := 2272) (j := i) g rfl rfl) (fun i j => Fg_v (a := 2273) (j := i) g rfl rfl) (fun i j => Fg_v (a := 2274) (j := i) g rfl rfl) (fun i j => Fg_v (a := 2275) (j := i) g rfl rfl) h_cars), (R_carz_x (M := M) (K := K) (f 1337 0 0 rfl) (fun i j => Fg_v (a := 1338) (j := i) f rfl rfl) h_carz), (R_calln_x (M := M) (K := K) (f 1337 2 0 rfl) (g 2270 6 0 rfl) h_calln), hq.2.2.1, (R_given_x (M := M) (K := K) (f 1337 2 0 rfl) (fun i j => Fg_v (a := 1745) (j := i) f rfl rfl) (fun i j => Fg_v (a := 2285) (j := i) g rfl rfl) (fun i j => Fg_v (a := 2286) (j := i) g rfl rfl) (fun i j => Fg_v (a := 2287) (j := i) g rfl rfl) (fun i j => Fg_v (a := 2288) (j := i) g rfl rfl) h_given), (R_givenz_x (M := M) (K := K) (f 1337 2 0 rfl) (fun i j => Fg_v (a := 2285) (j := i) g rfl rfl) h_givenz), (R_opens_x (M := M) (K := K) (f 1337 2 0 rfl) (f 1337 4 0 rfl) (fun i j => Fg_v (a := 2279) (j := i) g rfl rfl) h_opens), (R_openl_x (M := M) (K := K) (f 1337 2 0 rfl) (f 1337 4 0 rfl) (fun i j => Fg_v (a := 1744) (j := i) f rfl rfl) (fun i j => Fg_v (a := 2279) (j := i) g rfl rfl) h_openl), (R_openi_x (M := M) (K := K) (f 1337 4 0 rfl) (fun i j => Fg_v (a := 1744) (j := i) f rfl rfl) h_openi), (R_opena_x (M := M) (K := K) (f 1337 2 0 rfl) (f 1337 4 0 rfl) (fun i j => Fg_v (a := 1744) (j := i) f rfl rfl) (fun i j => Fg_v (a := 2279) (j := i) g rfl rfl) h_opena), (R_begun_x (M := M) (K := K) (f 1337 0 0 rfl) (f 1337 2 0 rfl) (fun i j => Fg_v (a := 1338) (j := i) f rfl rfl) (fun i j => Fg_v (a := 2279) (j := i) g rfl rfl) (fun i j => Fg_v (a := 2280) (j := i) g rfl rfl) h_begun), (R_begunz_x (M := M) (K := K) (f 1337 0 0 rfl) (f 1337 2 0 rfl) (fun i j => Fg_v (a := 1338) (j := i) f rfl rfl) (fun i j => Fg_v (a := 2279) (j := i) g rfl rfl) h_begunz), (R_begunr_x (M := M) (K := K) (f 1337 0 0 rfl) (f 1337 2 0 rfl) (fun i j => Fg_v (a := 2280) (j := i) g rfl rfl) h_begunr)⟩⟩
end LIc8j_l_pass
