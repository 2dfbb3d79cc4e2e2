/-! ===== the law between two calls (wip/tools/q/genli.py) ===== -/
section LIc8j_k1_ops
variable {M K N W : qm} {n x v y z i1 i2 i3 i4 i5 x1 x2 x3 x4 x5 x6 day : Int}
theorem li_stands (b2 : x2 = 0 ∨ x2 = 1) (h : LIQ n M K) (hn : n < 512) : oK2 cI (qf_L_stands 20000 x1 x2 M) (qf_X18_stands 20000 x1 x2 K) (fun M' K' => LIQ (n + 1) M' K') := by
  obtain ⟨g0, gA, gB, gC, gD, gE, gF, gG, gH, gI, gJ, gK⟩ := h
  obtain ⟨h_built, h_time, h_ltime, h_BND⟩ := id g0
  obtain ⟨h_portn, h_portw, h_portc, h_porto, h_portk, h_portr, h_portq, h_zport, h_znum⟩ := id gC
  have nn : n ≤ n + 1 := by omega
  obtain ⟨n_0, n_1, n_2, n_3, n_4⟩ := id h_BND
  refine li_mk (op_stands (b2 := b2) (h_built := h_built) (h_time := h_time) (h_porto := h_porto) (h_portk := h_portk) (hP := ⟨h_portn, h_portw, h_portc, h_portq⟩)) (fr_L_stands Fg_refl) (fr_X18_stands Fg_refl) qP_tt (qP_im (fun hb => z0_stands hb)) (fun M' K' hT f g hX hY => ?_)
  obtain ⟨⟨t_portn, t_portw, t_portc, t_portq⟩, t_porto, t_portk⟩ := hT
  obtain ⟨s, hy, es⟩ := hY
  rw [es] at hy
  exact ⟨LI0_F nn (Fg_mono f rfl) (Fg_mono g rfl) g0, LIA_F nn (Fg_mono f rfl) (Fg_mono g rfl) gA, LIB_F nn (Fg_mono f rfl) (Fg_mono g rfl) gB, ⟨t_portn, t_portw, t_portc, t_porto, t_portk, (R_portr_x (M := M) (K := K) (f 824 3 0 rfl) (f 824 8 0 rfl) (fun i j => Fg_v (a := 826) (j := i) f rfl rfl) (fun i j => Fg_v (a := 2289) (j := i) g rfl rfl) (fun i j => Fg_v (a := 2290) (j := i) g rfl rfl) (fun i j => Fg_v (a := 2298) (j := i) g rfl rfl) (fun i j => Fg_v (a := 2299) (j := i) g rfl rfl) (fun i j => Fg_v (a := 2300) (j := i) g rfl rfl) (fun i j => Fg_v (a := 2301) (j := i) g rfl rfl) h_portr), t_portq, (zport_y (f 6 11 0 rfl) h_built h_zport hy), (R_znum_x (M := M) (K := K) (f 6 11 0 rfl) (fun i j => Fg_v (a := 2328) (j := i) g rfl rfl) h_znum)⟩, LID_F nn (Fg_mono f rfl) (Fg_mono g rfl) gD, LIE_F nn (Fg_mono f rfl) (Fg_mono g rfl) gE, LIF_F nn (Fg_mono f rfl) (Fg_mono g rfl) gF, LIG_F nn (Fg_mono f rfl) (Fg_mono g rfl) gG, LIH_F nn (Fg_mono f rfl) (Fg_mono g rfl) gH, LII_F nn (Fg_mono f rfl) (Fg_mono g rfl) gI, LIJ_F nn (Fg_mono f rfl) (Fg_mono g rfl) gJ, LIK_F nn (Fg_mono f rfl) (Fg_mono g rfl) gK⟩
theorem li_off (b2 : x2 = 0 ∨ x2 = 1) (h : LIQ n M K) (hn : n < 512) : oK2 cI (qf_L_off 20000 x1 x2 M) (qf_X18_off 20000 x1 x2 K) (fun M' K' => LIQ (n + 1) M' K') := by
  obtain ⟨g0, gA, gB, gC, gD, gE, gF, gG, gH, gI, gJ, gK⟩ := h
  obtain ⟨h_built, h_time, h_ltime, h_BND⟩ := id g0
  obtain ⟨h_lines, h_ends, h_doorn, h_doors, h_find0, h_spaces, h_names, h_alone, h_FND⟩ := id gA
  obtain ⟨h_portn, h_portw, h_portc, h_porto, h_portk, h_portr, h_portq, h_zport, h_znum⟩ := id gC
  obtain ⟨h_cardn, h_cards, h_rightn, h_rights, h_telln, h_tellt, h_tellc, h_tellr, h_notek, h_noteo, h_notex, h_lockb, h_locku, h_lockr, h_againstn, h_against⟩ := id gD
  obtain ⟨h_personn, h_persons, h_personb, h_personz, h_zpers⟩ := id gE
  obtain ⟨h_smoke, h_smoky, h_sroom, h_smoke0, h_walk, h_spaceof, h_rooms, h_WLX, h_CUX⟩ := id gF
  have nn : n ≤ n + 1 := by omega
  obtain ⟨n_0, n_1, n_2, n_3, n_4⟩ := id h_BND
  refine li_mk (op_off (b2 := b2) (h_built := h_built) (h_portk := h_portk) (h := ⟨h_portn, h_portw, h_portc, h_porto, h_portr, h_portq, h_persons, h_personb, h_personz, h_time, h_lines, h_ends, h_cardn, h_cards, h_personn, h_rightn, h_rights, h_names, h_spaces, h_rooms, ⟨h_telln, h_tellt, h_tellc, h_tellr, h_notek, h_noteo, h_notex⟩, h_againstn, h_against⟩) (t5 := (by omega)) (hA := (by omega))) (fr_L_off Fg_refl) (fr_X18_off Fg_refl) qP_tt (qP_im (fun hb => z0_off hb)) (fun M' K' hT f g hX hY => ?_)
  obtain ⟨⟨t_portn, t_portw, t_portc, t_porto, t_portk, t_portr, t_portq, t_persons, t_personb, t_personz⟩, t_againstn, t_against, t_b⟩ := hT
  obtain ⟨s, hy, es⟩ := hY
  rw [es] at hy
  exact ⟨⟨(R_built_x (M := M) (K := K) (f 6 11 0 rfl) (g 2156 1 0 rfl) h_built), (R_time_x (M := M) (K := K) (f 6 12 0 rfl) (g 2156 2 0 rfl) h_time), (R_ltime_x (M := M) (K := K) (f 6 12 0 rfl) (g 2270 12 0 rfl) h_ltime), bnd_n h_BND (by rw [f 824 12 0 rfl]; omega) (by rw [g 2156 24 0 rfl]; omega) t_b (sum_same (fun u => Fg_v g rfl rfl))⟩, LIA_F nn (Fg_mono f rfl) (Fg_mono g rfl) gA, LIB_F nn (Fg_mono f rfl) (Fg_mono g rfl) gB, ⟨t_portn, t_portw, t_portc, t_porto, t_portk, t_portr, t_portq, (zport_y (f 6 11 0 rfl) h_built h_zport hy), (R_znum_x (M := M) (K := K) (f 6 11 0 rfl) (fun i j => Fg_v (a := 2328) (j := i) g rfl rfl) h_znum)⟩, ⟨(R_cardn_x (M := M) (K := K) (f 824 8 0 rfl) (g 2156 36 0 rfl) h_cardn), (R_cards_x (M := M) (K := K) (f 756 7 0 rfl) (f 824 8 0 rfl) (fun i j => Fg_v (a := 828) (j := i) f rfl rfl) (fun i j => Fg_v (a := 2312) (j := i) g rfl rfl) (fun i j => Fg_v (a := 2313) (j := i) g rfl rfl) h_cards), (R_rightn_x (M := M) (K := K) (f 824 10 0 rfl) (g 2156 39 0 rfl) h_rightn), (R_rights_x (M := M) (K := K) (f 824 10 0 rfl) (fun i j => Fg_v (a := 889) (j := i) f rfl rfl) (fun i j => Fg_v (a := 2314) (j := i) g rfl rfl) (fun i j => Fg_v (a := 2315) (j := i) g rfl rfl) (fun i j => Fg_v (a := 2316) (j := i) g rfl rfl) (fun i j => Fg_v (a := 2317) (j := i) g rfl rfl) (fun i j => Fg_v (a := 2318) (j := i) g rfl rfl) h_rights), (R_telln_x (M := M) (K := K) (f 824 12 0 rfl) (f 824 13 0 rfl) (g 2156 45 0 rfl) h_telln), (R_tellt_x (M := M) (K := K) (f 824 8 0 rfl) (f 824 10 0 rfl) (f 824 12 0 rfl) (fun i j => Fg_v (a := 828) (j := i) f rfl rfl) (fun i j => Fg_v (a := 889) (j := i) f rfl rfl) (fun i j => Fg_v (a := 2319) (j := i) g rfl rfl) (fun i j => Fg_v (a := 2320) (j := i) g rfl rfl) (fun i j => Fg_v (a := 2321) (j := i) g rfl rfl) h_tellt), (R_tellc_x (M := M) (K := K) (f 824 8 0 rfl) (f 824 12 0 rfl) (fun i j => Fg_v (a := 828) (j := i) f rfl rfl) (fun i j => Fg_v (a := 2319) (j := i) g rfl rfl) (fun i j => Fg_v (a := 2320) (j := i) g rfl rfl) h_tellc), (R_tellr_x (M := M) (K := K) (f 824 10 0 rfl) (f 824 12 0 rfl) (fun i j => Fg_v (a := 889) (j := i) f rfl rfl) (fun i j => Fg_v (a := 2319) (j := i) g rfl rfl) (fun i j => Fg_v (a := 2320) (j := i) g rfl rfl) h_tellr), (R_notek_x (M := M) (K := K) (f 824 12 0 rfl) (f 824 13 0 rfl) (fun i j => Fg_v (a := 906) (j := i) f rfl rfl) (fun i j => Fg_v (a := 2319) (j := i) g rfl rfl) (fun i j => Fg_v (a := 2320) (j := i) g rfl rfl) (fun i j => Fg_v (a := 2321) (j := i) g rfl rfl) h_notek), (R_noteo_x (M := M) (K := K) (f 824 13 0 rfl) (fun i j => Fg_v (a := 906) (j := i) f rfl rfl) h_noteo), (R_notex_x (M := M) (K := K) (f 824 12 0 rfl) (f 824 13 0 rfl) (fun i j => Fg_v (a := 906) (j := i) f rfl rfl) (fun i j => Fg_v (a := 2319) (j := i) g rfl rfl) h_notex), (R_lockb_x (f 824 3 0 rfl) (f 824 7 0 rfl) (fun i j => Fg_v f rfl rfl) (g 2156 24 0 rfl) (fun i j => Fg_v g rfl rfl) (fun i j => Fg_v g rfl rfl) h_lockb), (R_locku_x (M := M) (K := K) (g 2156 24 0 rfl) (fun i j => Fg_v (a := 2302) (j := i) g rfl rfl) (fun i j => Fg_v (a := 2303) (j := i) g rfl rfl) h_locku), (R_lockr_x (M := M) (K := K) (f 824 3 0 rfl) (g 2156 24 0 rfl) (fun i j => Fg_v (a := 2302) (j := i) g rfl rfl) (fun i j => Fg_v (a := 2303) (j := i) g rfl rfl) h_lockr), t_againstn, t_against⟩, ⟨(R_personn_x (M := M) (K := K) (f 756 7 0 rfl) (g 2156 27 0 rfl) h_personn), t_persons, t_personb, t_personz, (R_zpers_x (M := M) (K := K) (f 6 11 0 rfl) (f 756 7 0 rfl) h_zpers)⟩, LIF_F nn (Fg_mono f rfl) (Fg_mono g rfl) gF, LIG_F nn (Fg_mono f rfl) (Fg_mono g rfl) gG, LIH_F nn (Fg_mono f rfl) (Fg_mono g rfl) gH, LII_F nn (Fg_mono f rfl) (Fg_mono g rfl) gI, LIJ_F nn (Fg_mono f rfl) (Fg_mono g rfl) gJ, LIK_F nn (Fg_mono f rfl) (Fg_mono g rfl) gK⟩
theorem li_ask  (h : LIQ n M K) (hn : n < 512) : oK2 cI (qf_L_ask 20000 x1 x2 x3 M) (qf_X18_ask 20000 x1 x2 x3 K) (fun M' K' => LIQ (n + 1) M' K') := by
  obtain ⟨g0, gA, gB, gC, gD, gE, gF, gG, gH, gI, gJ, gK⟩ := h
  obtain ⟨h_built, h_time, h_ltime, h_BND⟩ := id g0
  obtain ⟨h_lines, h_ends, h_doorn, h_doors, h_find0, h_spaces, h_names, h_alone, h_FND⟩ := id gA
  obtain ⟨h_portn, h_portw, h_portc, h_porto, h_portk, h_portr, h_portq, h_zport, h_znum⟩ := id gC
  obtain ⟨h_cardn, h_cards, h_rightn, h_rights, h_telln, h_tellt, h_tellc, h_tellr, h_notek, h_noteo, h_notex, h_lockb, h_locku, h_lockr, h_againstn, h_against⟩ := id gD
  obtain ⟨h_personn, h_persons, h_personb, h_personz, h_zpers⟩ := id gE
  obtain ⟨h_smoke, h_smoky, h_sroom, h_smoke0, h_walk, h_spaceof, h_rooms, h_WLX, h_CUX⟩ := id gF
  have h_MXI := gH
  unfold LIH at h_MXI
  have nn : n ≤ n + 1 := by omega
  obtain ⟨n_0, n_1, n_2, n_3, n_4⟩ := id h_BND
  obtain ⟨h_macts, h_mstate, h_msince⟩ := mx_acts h_MXI
  refine li_mk (op_ask (h := ⟨⟨h_portn, h_portw, h_portc, h_porto, h_portk, h_portr, h_portq, h_persons, h_personb, h_personz⟩, h_built, h_time, h_lines, h_ends, h_cardn, h_cards, h_personn, h_rightn, h_rights, h_names, h_spaces, h_rooms, ⟨h_telln, h_tellt, h_tellc, h_tellr, h_notek, h_noteo, h_notex⟩, h_lockb, h_lockr, h_locku, h_macts, h_mstate⟩) (t5 := (by omega)) (l5 := (by omega))) (fr_L_ask Fg_refl) (fr_X18_ask Fg_refl) qP_tt (qP_im (fun hb => z0_ask hb)) (fun M' K' hT f g hX hY => ?_)
  obtain ⟨⟨t_portn, t_portw, t_portc, t_porto, t_portk, t_portr, t_portq, t_persons, t_personb, t_personz⟩, t_built, t_time, t_lines, t_ends, t_cardn, t_cards, t_personn, t_rightn, t_rights, t_names, t_spaces, t_rooms, ⟨t_telln, t_tellt, t_tellc, t_tellr, t_notek, t_noteo, t_notex⟩, t_lockb, t_lockr, t_locku, t_macts, t_mstate⟩ := hT
  obtain ⟨s, hy, es⟩ := hY
  rw [es] at hy
  exact ⟨LI0_F nn (Fg_mono f rfl) (Fg_mono g rfl) g0, LIA_F nn (Fg_mono f rfl) (Fg_mono g rfl) gA, LIB_F nn (Fg_mono f rfl) (Fg_mono g rfl) gB, ⟨t_portn, t_portw, t_portc, t_porto, t_portk, t_portr, t_portq, (zport_y (f 6 11 0 rfl) h_built h_zport hy), (R_znum_x (M := M) (K := K) (f 6 11 0 rfl) (fun i j => Fg_v (a := 2328) (j := i) g rfl rfl) h_znum)⟩, LID_F nn (Fg_mono f rfl) (Fg_mono g rfl) gD, ⟨(R_personn_x (M := M) (K := K) (f 756 7 0 rfl) (g 2156 27 0 rfl) h_personn), t_persons, t_personb, t_personz, (R_zpers_x (M := M) (K := K) (f 6 11 0 rfl) (f 756 7 0 rfl) h_zpers)⟩, LIF_F nn (Fg_mono f rfl) (Fg_mono g rfl) gF, LIG_F nn (Fg_mono f rfl) (Fg_mono g rfl) gG, LIH_F nn (Fg_mono f rfl) (Fg_mono g rfl) gH, LII_F nn (Fg_mono f rfl) (Fg_mono g rfl) gI, LIJ_F nn (Fg_mono f rfl) (Fg_mono g rfl) gJ, LIK_F nn (Fg_mono f rfl) (Fg_mono g rfl) gK⟩
theorem li_both  (h : LIQ n M K) (hn : n < 512) : oK2 cI (qf_L_both 20000 x1 x2 x3 x4 M) (qf_X18_both 20000 x1 x2 x3 x4 K) (fun M' K' => LIQ (n + 1) M' K') := by
  obtain ⟨g0, gA, gB, gC, gD, gE, gF, gG, gH, gI, gJ, gK⟩ := h
  obtain ⟨h_built, h_time, h_ltime, h_BND⟩ := id g0
  obtain ⟨h_lines, h_ends, h_doorn, h_doors, h_find0, h_spaces, h_names, h_alone, h_FND⟩ := id gA
  obtain ⟨h_portn, h_portw, h_portc, h_porto, h_portk, h_portr, h_portq, h_zport, h_znum⟩ := id gC
  obtain ⟨h_cardn, h_cards, h_rightn, h_rights, h_telln, h_tellt, h_tellc, h_tellr, h_notek, h_noteo, h_notex, h_lockb, h_locku, h_lockr, h_againstn, h_against⟩ := id gD
  obtain ⟨h_personn, h_persons, h_personb, h_personz, h_zpers⟩ := id gE
  obtain ⟨h_smoke, h_smoky, h_sroom, h_smoke0, h_walk, h_spaceof, h_rooms, h_WLX, h_CUX⟩ := id gF
  have h_MXI := gH
  unfold LIH at h_MXI
  have nn : n ≤ n + 1 := by omega
  obtain ⟨n_0, n_1, n_2, n_3, n_4⟩ := id h_BND
  obtain ⟨h_macts, h_mstate, h_msince⟩ := mx_acts h_MXI
  refine li_mk (op_both (h := ⟨⟨h_portn, h_portw, h_portc, h_porto, h_portk, h_portr, h_portq, h_persons, h_personb, h_personz⟩, h_built, h_time, h_lines, h_ends, h_cardn, h_cards, h_personn, h_rightn, h_rights, h_names, h_spaces, h_rooms, ⟨h_telln, h_tellt, h_tellc, h_tellr, h_notek, h_noteo, h_notex⟩, h_lockb, h_lockr, h_locku, h_macts, h_mstate⟩) (t5 := (by omega)) (l5 := (by omega))) (fr_L_both Fg_refl) (fr_X18_both Fg_refl) qP_tt (qP_im (fun hb => z0_both hb)) (fun M' K' hT f g hX hY => ?_)
  obtain ⟨⟨t_portn, t_portw, t_portc, t_porto, t_portk, t_portr, t_portq, t_persons, t_personb, t_personz⟩, t_built, t_time, t_lines, t_ends, t_cardn, t_cards, t_personn, t_rightn, t_rights, t_names, t_spaces, t_rooms, ⟨t_telln, t_tellt, t_tellc, t_tellr, t_notek, t_noteo, t_notex⟩, t_lockb, t_lockr, t_locku, t_macts, t_mstate⟩ := hT
  obtain ⟨s, hy, es⟩ := hY
  rw [es] at hy
  exact ⟨LI0_F nn (Fg_mono f rfl) (Fg_mono g rfl) g0, LIA_F nn (Fg_mono f rfl) (Fg_mono g rfl) gA, LIB_F nn (Fg_mono f rfl) (Fg_mono g rfl) gB, ⟨t_portn, t_portw, t_portc, t_porto, t_portk, t_portr, t_portq, (zport_y (f 6 11 0 rfl) h_built h_zport hy), (R_znum_x (M := M) (K := K) (f 6 11 0 rfl) (fun i j => Fg_v (a := 2328) (j := i) g rfl rfl) h_znum)⟩, LID_F nn (Fg_mono f rfl) (Fg_mono g rfl) gD, ⟨(R_personn_x (M := M) (K := K) (f 756 7 0 rfl) (g 2156 27 0 rfl) h_personn), t_persons, t_personb, t_personz, (R_zpers_x (M := M) (K := K) (f 6 11 0 rfl) (f 756 7 0 rfl) h_zpers)⟩, LIF_F nn (Fg_mono f rfl) (Fg_mono g rfl) gF, LIG_F nn (Fg_mono f rfl) (Fg_mono g rfl) gG, LIH_F nn (Fg_mono f rfl) (Fg_mono g rfl) gH, LII_F nn (Fg_mono f rfl) (Fg_mono g rfl) gI, LIJ_F nn (Fg_mono f rfl) (Fg_mono g rfl) gJ, LIK_F nn (Fg_mono f rfl) (Fg_mono g rfl) gK⟩
theorem li_matrix  (h : LIQ n M K) (hn : n < 512) : oK2 cI (qf_L_matrix 20000 M) (qf_X18_matrix 20000 K) (fun M' K' => LIQ (n + 1) M' K') := by
  obtain ⟨g0, gA, gB, gC, gD, gE, gF, gG, gH, gI, gJ, gK⟩ := h
  obtain ⟨h_built, h_time, h_ltime, h_BND⟩ := id g0
  obtain ⟨h_mtextn, h_mtext, h_mpoints, h_zzone, h_LAT⟩ := id gG
  have h_MXI := gH
  unfold LIH at h_MXI
  have nn : n ≤ n + 1 := by omega
  obtain ⟨n_0, n_1, n_2, n_3, n_4⟩ := id h_BND
  refine li_mk (op_matrix (h_built := h_built) (h_mtextn := h_mtextn) (h_mtext := h_mtext) (h_mpoints := h_mpoints) (hL := h_LAT)) (fr_L_matrix Fg_refl) (fr_X18_matrix Fg_refl) qP_tt qP_tt (fun M' K' hT f g hX hY => ?_)
  obtain ⟨t_x0, t_x1⟩ := hT
  exact ⟨LI0_F nn (Fg_mono f rfl) (Fg_mono g rfl) g0, LIA_F nn (Fg_mono f rfl) (Fg_mono g rfl) gA, LIB_F nn (Fg_mono f rfl) (Fg_mono g rfl) gB, LIC_F nn (Fg_mono f rfl) (Fg_mono g rfl) gC, LID_F nn (Fg_mono f rfl) (Fg_mono g rfl) gD, LIE_F nn (Fg_mono f rfl) (Fg_mono g rfl) gE, LIF_F nn (Fg_mono f rfl) (Fg_mono g rfl) gF, ⟨(R_mtextn_x (M := M) (K := K) (f 6 11 0 rfl) (f 908 1 0 rfl) (g 2208 6 0 rfl) h_mtextn), (R_mtext_x (M := M) (K := K) (f 908 1 0 rfl) (fun i j => Fg_v (a := 909) (j := i) f rfl rfl) (fun i j => Fg_v (a := 2212) (j := i) g rfl rfl) h_mtext), (R_mpoints_x (M := M) (K := K) (f 6 11 0 rfl) (f 1172 2 0 rfl) (g 2156 9 0 rfl) (g 2208 0 0 rfl) h_mpoints), (zzone_y h_zzone (f 6 11 0 rfl) t_x1), t_x0⟩, (mx_le (mx_mat h_MXI t_x1) (by omega)), LII_F nn (Fg_mono f rfl) (Fg_mono g rfl) gI, LIJ_F nn (Fg_mono f rfl) (Fg_mono g rfl) gJ, LIK_F nn (Fg_mono f rfl) (Fg_mono g rfl) gK⟩
theorem li_signal (c1 : -2147483648 ≤ x1 ∧ x1 ≤ 2147483647) (c2 : -2147483648 ≤ x2 ∧ x2 ≤ 2147483647) (h : LIQ n M K) (hn : n < 512) : oK2 cI (qf_L_signal 20000 x1 x2 M) (qf_X18_signal 20000 x1 x2 K) (fun M' K' => LIQ (n + 1) M' K') := by
  obtain ⟨g0, gA, gB, gC, gD, gE, gF, gG, gH, gI, gJ, gK⟩ := h
  obtain ⟨h_built, h_time, h_ltime, h_BND⟩ := id g0
  obtain ⟨h_mtextn, h_mtext, h_mpoints, h_zzone, h_LAT⟩ := id gG
  have h_MXI := gH
  unfold LIH at h_MXI
  have nn : n ≤ n + 1 := by omega
  obtain ⟨n_0, n_1, n_2, n_3, n_4⟩ := id h_BND
  obtain ⟨z_1, z_2, z_3, h_mfault, h_muntil, h_mnow, h_mvalue, h_mzones, h_mzonep, h_mrows, h_mrow, z_4, ⟨h_mst, h_evn, h_mevent, ⟨h_bqueued, h_baddr, h_bbusy, h_bsaying, h_bcounts, h_banswer, h_bqueue, h_bext⟩, h_points⟩, z_5⟩ := id h_MXI
  refine li_mk (op_signal (c1 := c1) (c2 := c2) (h_built := h_built) (h_mpoints := h_mpoints) (h_mvalue := h_mvalue)) (fr_L_signal Fg_refl) (fr_X18_signal Fg_refl) qP_tt qP_tt (fun M' K' hT f g hX hY => ?_)
  have t_mvalue := hT
  exact ⟨LI0_F nn (Fg_mono f rfl) (Fg_mono g rfl) g0, LIA_F nn (Fg_mono f rfl) (Fg_mono g rfl) gA, LIB_F nn (Fg_mono f rfl) (Fg_mono g rfl) gB, LIC_F nn (Fg_mono f rfl) (Fg_mono g rfl) gC, LID_F nn (Fg_mono f rfl) (Fg_mono g rfl) gD, LIE_F nn (Fg_mono f rfl) (Fg_mono g rfl) gE, LIF_F nn (Fg_mono f rfl) (Fg_mono g rfl) gF, LIG_F nn (Fg_mono f rfl) (Fg_mono g rfl) gG, (FP_MX2 nn (Fg_mono f rfl) (Fg_mono g rfl) h_MXI (R_mfault_x (M := M) (K := K) (fun i j => Fg_v (a := 1174) (j := i) f rfl rfl) (fun i j => Fg_v (a := 2210) (j := i) g rfl rfl) h_mfault) (R_muntil_x (M := M) (K := K) (fun i j => Fg_v (a := 1175) (j := i) f rfl rfl) (fun i j => Fg_v (a := 2211) (j := i) g rfl rfl) h_muntil) t_mvalue (R_points_x (M := M) (K := K) (fun i j => Fg_v (a := 1135) (j := i) f rfl rfl) (fun i j => Fg_v (a := 2247) (j := i) g rfl rfl) h_points)), LII_F nn (Fg_mono f rfl) (Fg_mono g rfl) gI, LIJ_F nn (Fg_mono f rfl) (Fg_mono g rfl) gJ, LIK_F nn (Fg_mono f rfl) (Fg_mono g rfl) gK⟩
theorem li_fault (b2 : x2 = 0 ∨ x2 = 1) (c1 : -2147483648 ≤ x1 ∧ x1 ≤ 2147483647) (c2 : -2147483648 ≤ x2 ∧ x2 ≤ 2147483647) (h : LIQ n M K) (hn : n < 512) : oK2 cB (qf_L_fault 20000 x1 x2 M) (qf_X18_fault 20000 x1 x2 K) (fun M' K' => LIQ (n + 1) M' K') := by
  obtain ⟨g0, gA, gB, gC, gD, gE, gF, gG, gH, gI, gJ, gK⟩ := h
  obtain ⟨h_built, h_time, h_ltime, h_BND⟩ := id g0
  obtain ⟨h_mtextn, h_mtext, h_mpoints, h_zzone, h_LAT⟩ := id gG
  have h_MXI := gH
  unfold LIH at h_MXI
  have nn : n ≤ n + 1 := by omega
  obtain ⟨n_0, n_1, n_2, n_3, n_4⟩ := id h_BND
  obtain ⟨z_1, z_2, z_3, h_mfault, h_muntil, h_mnow, h_mvalue, h_mzones, h_mzonep, h_mrows, h_mrow, z_4, ⟨h_mst, h_evn, h_mevent, ⟨h_bqueued, h_baddr, h_bbusy, h_bsaying, h_bcounts, h_banswer, h_bqueue, h_bext⟩, h_points⟩, z_5⟩ := id h_MXI
  refine li_mk (op_fault (b2 := b2) (c1 := c1) (c2 := c2) (h_built := h_built) (h_mpoints := h_mpoints) (h_mfault := h_mfault)) (fr_L_fault Fg_refl) (fr_X18_fault Fg_refl) qP_tt qP_tt (fun M' K' hT f g hX hY => ?_)
  have t_mfault := hT
  exact ⟨LI0_F nn (Fg_mono f rfl) (Fg_mono g rfl) g0, LIA_F nn (Fg_mono f rfl) (Fg_mono g rfl) gA, LIB_F nn (Fg_mono f rfl) (Fg_mono g rfl) gB, LIC_F nn (Fg_mono f rfl) (Fg_mono g rfl) gC, LID_F nn (Fg_mono f rfl) (Fg_mono g rfl) gD, LIE_F nn (Fg_mono f rfl) (Fg_mono g rfl) gE, LIF_F nn (Fg_mono f rfl) (Fg_mono g rfl) gF, LIG_F nn (Fg_mono f rfl) (Fg_mono g rfl) gG, (FP_MX2 nn (Fg_mono f rfl) (Fg_mono g rfl) h_MXI t_mfault (R_muntil_x (M := M) (K := K) (fun i j => Fg_v (a := 1175) (j := i) f rfl rfl) (fun i j => Fg_v (a := 2211) (j := i) g rfl rfl) h_muntil) (R_mvalue_x (M := M) (K := K) (fun i j => Fg_v (a := 1173) (j := i) f rfl rfl) (fun i j => Fg_v (a := 2209) (j := i) g rfl rfl) h_mvalue) (R_points_x (M := M) (K := K) (fun i j => Fg_v (a := 1135) (j := i) f rfl rfl) (fun i j => Fg_v (a := 2247) (j := i) g rfl rfl) h_points)), LII_F nn (Fg_mono f rfl) (Fg_mono g rfl) gI, LIJ_F nn (Fg_mono f rfl) (Fg_mono g rfl) gJ, LIK_F nn (Fg_mono f rfl) (Fg_mono g rfl) gK⟩
theorem li_disable (c1 : -2147483648 ≤ x1 ∧ x1 ≤ 2147483647) (c2 : -2147483648 ≤ x2 ∧ x2 ≤ 2147483647) (h : LIQ n M K) (hn : n < 512) : oK2 cI (qf_L_disable 20000 x1 x2 M) (qf_X18_disable 20000 x1 x2 K) (fun M' K' => LIQ (n + 1) M' K') := by
  obtain ⟨g0, gA, gB, gC, gD, gE, gF, gG, gH, gI, gJ, gK⟩ := h
  obtain ⟨h_built, h_time, h_ltime, h_BND⟩ := id g0
  obtain ⟨h_mtextn, h_mtext, h_mpoints, h_zzone, h_LAT⟩ := id gG
  have h_MXI := gH
  unfold LIH at h_MXI
  have nn : n ≤ n + 1 := by omega
  obtain ⟨n_0, n_1, n_2, n_3, n_4⟩ := id h_BND
  obtain ⟨z_1, z_2, z_3, h_mfault, h_muntil, h_mnow, h_mvalue, h_mzones, h_mzonep, h_mrows, h_mrow, z_4, ⟨h_mst, h_evn, h_mevent, ⟨h_bqueued, h_baddr, h_bbusy, h_bsaying, h_bcounts, h_banswer, h_bqueue, h_bext⟩, h_points⟩, z_5⟩ := id h_MXI
  refine li_mk (op_disable (c1 := c1) (c2 := c2) (h_built := h_built) (h_mpoints := h_mpoints) (h_muntil := h_muntil)) (fr_L_disable Fg_refl) (fr_X18_disable Fg_refl) qP_tt qP_tt (fun M' K' hT f g hX hY => ?_)
  have t_muntil := hT
  exact ⟨LI0_F nn (Fg_mono f rfl) (Fg_mono g rfl) g0, LIA_F nn (Fg_mono f rfl) (Fg_mono g rfl) gA, LIB_F nn (Fg_mono f rfl) (Fg_mono g rfl) gB, LIC_F nn (Fg_mono f rfl) (Fg_mono g rfl) gC, LID_F nn (Fg_mono f rfl) (Fg_mono g rfl) gD, LIE_F nn (Fg_mono f rfl) (Fg_mono g rfl) gE, LIF_F nn (Fg_mono f rfl) (Fg_mono g rfl) gF, LIG_F nn (Fg_mono f rfl) (Fg_mono g rfl) gG, (FP_MX2 nn (Fg_mono f rfl) (Fg_mono g rfl) h_MXI (R_mfault_x (M := M) (K := K) (fun i j => Fg_v (a := 1174) (j := i) f rfl rfl) (fun i j => Fg_v (a := 2210) (j := i) g rfl rfl) h_mfault) t_muntil (R_mvalue_x (M := M) (K := K) (fun i j => Fg_v (a := 1173) (j := i) f rfl rfl) (fun i j => Fg_v (a := 2209) (j := i) g rfl rfl) h_mvalue) (R_points_x (M := M) (K := K) (fun i j => Fg_v (a := 1135) (j := i) f rfl rfl) (fun i j => Fg_v (a := 2247) (j := i) g rfl rfl) h_points)), LII_F nn (Fg_mono f rfl) (Fg_mono g rfl) gI, LIJ_F nn (Fg_mono f rfl) (Fg_mono g rfl) gJ, LIK_F nn (Fg_mono f rfl) (Fg_mono g rfl) gK⟩
theorem li_attend  (h : LIQ n M K) (hn : n < 512) : oK2 cI (qf_L_attend 20000 x1 M) (qf_X18_attend 20000 x1 K) (fun M' K' => LIQ (n + 1) M' K') := by
  obtain ⟨g0, gA, gB, gC, gD, gE, gF, gG, gH, gI, gJ, gK⟩ := h
  obtain ⟨h_built, h_time, h_ltime, h_BND⟩ := id g0
  have h_MXI := gH
  unfold LIH at h_MXI
  have nn : n ≤ n + 1 := by omega
  obtain ⟨n_0, n_1, n_2, n_3, n_4⟩ := id h_BND
  refine li_mk (op_attend (h_built := h_built) (h_time := h_time) (h := h_MXI)) (fr_L_attend Fg_refl) (fr_X18_attend Fg_refl) qP_tt qP_tt (fun M' K' hT f g hX hY => ?_)
  have t_x0 := hT
  exact ⟨LI0_F nn (Fg_mono f rfl) (Fg_mono g rfl) g0, LIA_F nn (Fg_mono f rfl) (Fg_mono g rfl) gA, LIB_F nn (Fg_mono f rfl) (Fg_mono g rfl) gB, LIC_F nn (Fg_mono f rfl) (Fg_mono g rfl) gC, LID_F nn (Fg_mono f rfl) (Fg_mono g rfl) gD, LIE_F nn (Fg_mono f rfl) (Fg_mono g rfl) gE, LIF_F nn (Fg_mono f rfl) (Fg_mono g rfl) gF, LIG_F nn (Fg_mono f rfl) (Fg_mono g rfl) gG, (mx_le t_x0 (by omega)), LII_F nn (Fg_mono f rfl) (Fg_mono g rfl) gI, LIJ_F nn (Fg_mono f rfl) (Fg_mono g rfl) gJ, LIK_F nn (Fg_mono f rfl) (Fg_mono g rfl) gK⟩
theorem li_reset  (h : LIQ n M K) (hn : n < 512) : oK2 cI (qf_L_reset 20000 M) (qf_X18_reset 20000 K) (fun M' K' => LIQ (n + 1) M' K') := by
  obtain ⟨g0, gA, gB, gC, gD, gE, gF, gG, gH, gI, gJ, gK⟩ := h
  obtain ⟨h_built, h_time, h_ltime, h_BND⟩ := id g0
  have h_MXI := gH
  unfold LIH at h_MXI
  obtain ⟨h_BUS, h_blisten⟩ := id gJ
  have nn : n ≤ n + 1 := by omega
  obtain ⟨n_0, n_1, n_2, n_3, n_4⟩ := id h_BND
  refine li_mk (op_reset (h_built := h_built) (h_time := h_time) (h := h_MXI) (hE0 := (by omega)) (hE := (by omega))) (fr_L_reset Fg_refl) (fr_X18_reset Fg_refl) qP_tt qP_tt (fun M' K' hT f g hX hY => ?_)
  have t_x0 := hT
  exact ⟨LI0_F nn (Fg_mono f rfl) (Fg_mono g rfl) g0, LIA_F nn (Fg_mono f rfl) (Fg_mono g rfl) gA, LIB_F nn (Fg_mono f rfl) (Fg_mono g rfl) gB, LIC_F nn (Fg_mono f rfl) (Fg_mono g rfl) gC, LID_F nn (Fg_mono f rfl) (Fg_mono g rfl) gD, LIE_F nn (Fg_mono f rfl) (Fg_mono g rfl) gE, LIF_F nn (Fg_mono f rfl) (Fg_mono g rfl) gF, LIG_F nn (Fg_mono f rfl) (Fg_mono g rfl) gG, (mx_le t_x0 (by omega)), LII_F nn (Fg_mono f rfl) (Fg_mono g rfl) gI, ⟨(FP_BUSQ (Fg_mono f rfl) (Fg_mono g rfl) h_BUS (mx_bq t_x0).1), (R_blisten_x (M := M) (K := K) (fun i j => Fg_v (a := 1167) (j := i) f rfl rfl) (fun i j => Fg_v (a := 2256) (j := i) g rfl rfl) h_blisten)⟩, LIK_F nn (Fg_mono f rfl) (Fg_mono g rfl) gK⟩
end LIc8j_k1_ops
