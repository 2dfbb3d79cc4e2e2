/-! ===== the law between two calls (wip/tools/q/genli.py) ===== -/
section LIc8j_d1_ops
variable {M K N W : qm} {n x v y z i1 i2 i3 i4 i5 x1 x2 x3 x4 x5 x6 day : Int}
theorem li_measure (hx : i64r x) (h : LIQ n M K) (hn : n < 512) : oK2 cI (qf_L_measure 20000 x1 x2 x M) (qf_X18_measure 20000 x1 x2 x K) (fun M' K' => LIQ (n + 1) M' K') := by
  obtain ⟨g0, gA, gB, gC, gD, gE, gF, gG, gH, gI, gJ, gK⟩ := h
  obtain ⟨h_built, h_time, h_ltime, h_BND⟩ := id g0
  obtain ⟨h_lines, h_ends, h_doorn, h_doors, h_find0, h_spaces, h_names, h_alone, h_FND⟩ := id gA
  obtain ⟨h_textn, h_textc, h_factn, h_facts, h_factd, h_rulen, h_answers, h_RLS⟩ := id gB
  have nn : n ≤ n + 1 := by omega
  obtain ⟨n_0, n_1, n_2, n_3, n_4⟩ := id h_BND
  refine li_mk (op_measure (h_find0 := h_find0) (h_spaces := h_spaces) (h_factn := h_factn) (h_facts := h_facts) (h_factd := h_factd) (h := h_FND) (hx := hx)) (fr_L_measure Fg_refl) (fr_X18_measure Fg_refl) qP_tt qP_tt (fun M' K' hT f g hX hY => ?_)
  obtain ⟨t_factn, t_facts, t_factd⟩ := hT
  exact ⟨LI0_F nn (Fg_mono f rfl) (Fg_mono g rfl) g0, LIA_F nn (Fg_mono f rfl) (Fg_mono g rfl) gA, ⟨(R_textn_x (M := M) (K := K) (f 727 1 0 rfl) (g 2184 1 0 rfl) h_textn), (R_textc_x (M := M) (K := K) (f 727 1 0 rfl) (fun i j => Fg_v (a := 728) (j := i) f rfl rfl) (fun i j => Fg_v (a := 2185) (j := i) g rfl rfl) h_textc), t_factn, t_facts, t_factd, (R_rulen_x (M := M) (K := K) (f 735 0 0 rfl) (f 735 1 0 rfl) (g 2184 5 0 rfl) (g 2184 18 0 rfl) h_rulen), (R_answers_x (M := M) (K := K) (f 735 0 0 rfl) (f 735 1 0 rfl) (fun i j => Fg_v (a := 740) (j := i) f rfl rfl) (fun i j => Fg_v (a := 2198) (j := i) g rfl rfl) (fun i j => Fg_v (a := 2199) (j := i) g rfl rfl) (fun i j => Fg_v (a := 2200) (j := i) g rfl rfl) (fun i j => Fg_v (a := 2201) (j := i) g rfl rfl) (fun i j => Fg_v (a := 2202) (j := i) g rfl rfl) (fun i j => Fg_v (a := 2203) (j := i) g rfl rfl) (fun i j => Fg_v (a := 2204) (j := i) g rfl rfl) h_answers), (FP_RLS (Fg_mono f rfl) (Fg_mono g rfl) h_rulen h_RLS)⟩, LIC_F nn (Fg_mono f rfl) (Fg_mono g rfl) gC, LID_F nn (Fg_mono f rfl) (Fg_mono g rfl) gD, LIE_F nn (Fg_mono f rfl) (Fg_mono g rfl) gE, LIF_F nn (Fg_mono f rfl) (Fg_mono g rfl) gF, LIG_F nn (Fg_mono f rfl) (Fg_mono g rfl) gG, LIH_F nn (Fg_mono f rfl) (Fg_mono g rfl) gH, LII_F nn (Fg_mono f rfl) (Fg_mono g rfl) gI, LIJ_F nn (Fg_mono f rfl) (Fg_mono g rfl) gJ, LIK_F nn (Fg_mono f rfl) (Fg_mono g rfl) gK⟩
theorem li_check  (h : LIQ n M K) (hn : n < 512) : oK2 cI (qf_L_check 20000 day M) (qf_X18_check 20000 day K) (fun M' K' => LIQ (n + 1) M' K') := by
  obtain ⟨g0, gA, gB, gC, gD, gE, gF, gG, gH, gI, gJ, gK⟩ := h
  obtain ⟨h_built, h_time, h_ltime, h_BND⟩ := id g0
  obtain ⟨h_textn, h_textc, h_factn, h_facts, h_factd, h_rulen, h_answers, h_RLS⟩ := id gB
  have nn : n ≤ n + 1 := by omega
  obtain ⟨n_0, n_1, n_2, n_3, n_4⟩ := id h_BND
  refine li_mk (op_check (h_rulen := h_rulen) (h_answers := h_answers) (fc := ⟨h_factn, h_facts, h_factd⟩) (hR := h_RLS)) (fr_L_check Fg_refl) (fr_X18_check Fg_refl) qP_tt qP_tt (fun M' K' hT f g hX hY => ?_)
  obtain ⟨t_rulen, t_answers, t_RLS⟩ := hT
  exact ⟨LI0_F nn (Fg_mono f rfl) (Fg_mono g rfl) g0, LIA_F nn (Fg_mono f rfl) (Fg_mono g rfl) gA, ⟨(R_textn_x (M := M) (K := K) (f 727 1 0 rfl) (g 2184 1 0 rfl) h_textn), (R_textc_x (M := M) (K := K) (f 727 1 0 rfl) (fun i j => Fg_v (a := 728) (j := i) f rfl rfl) (fun i j => Fg_v (a := 2185) (j := i) g rfl rfl) h_textc), (R_factn_x (M := M) (K := K) (f 735 8 0 rfl) (g 2184 2 0 rfl) h_factn), (R_facts_x (M := M) (K := K) (f 735 8 0 rfl) (fun i j => Fg_v (a := 754) (j := i) f rfl rfl) (fun i j => Fg_v (a := 755) (j := i) f rfl rfl) (fun i j => Fg_v (a := 2186) (j := i) g rfl rfl) (fun i j => Fg_v (a := 2187) (j := i) g rfl rfl) h_facts), (R_factd_x (M := M) (K := K) (f 735 8 0 rfl) (fun i j => Fg_v (a := 754) (j := i) f rfl rfl) h_factd), t_rulen, t_answers, (FP_RLS (Fg_mono f rfl) (Fg_mono g rfl) h_rulen h_RLS)⟩, LIC_F nn (Fg_mono f rfl) (Fg_mono g rfl) gC, LID_F nn (Fg_mono f rfl) (Fg_mono g rfl) gD, LIE_F nn (Fg_mono f rfl) (Fg_mono g rfl) gE, LIF_F nn (Fg_mono f rfl) (Fg_mono g rfl) gF, LIG_F nn (Fg_mono f rfl) (Fg_mono g rfl) gG, LIH_F nn (Fg_mono f rfl) (Fg_mono g rfl) gH, LII_F nn (Fg_mono f rfl) (Fg_mono g rfl) gI, LIJ_F nn (Fg_mono f rfl) (Fg_mono g rfl) gJ, LIK_F nn (Fg_mono f rfl) (Fg_mono g rfl) gK⟩
theorem li_rule (c1 : -2147483648 ≤ x1 ∧ x1 ≤ 2147483647) (c2 : -2147483648 ≤ x2 ∧ x2 ≤ 2147483647) (h : LIQ n M K) (hn : n < 512) : oK2 cI (qf_L_rule 20000 x1 x2 M) (qf_X18_rule 20000 x1 x2 K) (fun M' K' => LIQ (n + 1) M' K') := by
  obtain ⟨g0, gA, gB, gC, gD, gE, gF, gG, gH, gI, gJ, gK⟩ := h
  obtain ⟨h_built, h_time, h_ltime, h_BND⟩ := id g0
  obtain ⟨h_textn, h_textc, h_factn, h_facts, h_factd, h_rulen, h_answers, h_RLS⟩ := id gB
  have nn : n ≤ n + 1 := by omega
  obtain ⟨n_0, n_1, n_2, n_3, n_4⟩ := id h_BND
  refine li_mk (op_rule (c1 := c1) (c2 := c2) (h_built := h_built) (h_rulen := h_rulen) (h_answers := h_answers)) (fr_L_rule Fg_refl) (fr_X18_rule Fg_refl) qP_tt qP_tt (fun M' K' hT f g hX hY => ?_)
  exact ⟨LI0_F nn (Fg_mono f rfl) (Fg_mono g rfl) g0, LIA_F nn (Fg_mono f rfl) (Fg_mono g rfl) gA, LIB_F nn (Fg_mono f rfl) (Fg_mono g rfl) gB, LIC_F nn (Fg_mono f rfl) (Fg_mono g rfl) gC, LID_F nn (Fg_mono f rfl) (Fg_mono g rfl) gD, LIE_F nn (Fg_mono f rfl) (Fg_mono g rfl) gE, LIF_F nn (Fg_mono f rfl) (Fg_mono g rfl) gF, LIG_F nn (Fg_mono f rfl) (Fg_mono g rfl) gG, LIH_F nn (Fg_mono f rfl) (Fg_mono g rfl) gH, LII_F nn (Fg_mono f rfl) (Fg_mono g rfl) gI, LIJ_F nn (Fg_mono f rfl) (Fg_mono g rfl) gJ, LIK_F nn (Fg_mono f rfl) (Fg_mono g rfl) gK⟩
theorem li_portal  (h : LIQ n M K) (hn : n < 512) : oK2 cI (qf_L_portal 20000 x1 x2 M) (qf_X18_portal_ 20000 x1 x2 K) (fun M' K' => LIQ (n + 1) M' K') := by
  obtain ⟨g0, gA, gB, gC, gD, gE, gF, gG, gH, gI, gJ, gK⟩ := h
  obtain ⟨h_built, h_time, h_ltime, h_BND⟩ := id g0
  obtain ⟨h_lines, h_ends, h_doorn, h_doors, h_find0, h_spaces, h_names, h_alone, h_FND⟩ := id gA
  obtain ⟨h_portn, h_portw, h_portc, h_porto, h_portk, h_portr, h_portq, h_zport, h_znum⟩ := id gC
  have nn : n ≤ n + 1 := by omega
  obtain ⟨n_0, n_1, n_2, n_3, n_4⟩ := id h_BND
  refine li_mk (op_portal (h_built := h_built) (h_portn := h_portn) (h_lines := h_lines) (h_ends := h_ends) (h_portw := h_portw) (h_portc := h_portc)) (fr_L_portal Fg_refl) (fr_X18_portal_ Fg_refl) qP_tt qP_tt (fun M' K' hT f g hX hY => ?_)
  exact ⟨LI0_F nn (Fg_mono f rfl) (Fg_mono g rfl) g0, LIA_F nn (Fg_mono f rfl) (Fg_mono g rfl) gA, LIB_F nn (Fg_mono f rfl) (Fg_mono g rfl) gB, LIC_F nn (Fg_mono f rfl) (Fg_mono g rfl) gC, LID_F nn (Fg_mono f rfl) (Fg_mono g rfl) gD, LIE_F nn (Fg_mono f rfl) (Fg_mono g rfl) gE, LIF_F nn (Fg_mono f rfl) (Fg_mono g rfl) gF, LIG_F nn (Fg_mono f rfl) (Fg_mono g rfl) gG, LIH_F nn (Fg_mono f rfl) (Fg_mono g rfl) gH, LII_F nn (Fg_mono f rfl) (Fg_mono g rfl) gI, LIJ_F nn (Fg_mono f rfl) (Fg_mono g rfl) gJ, LIK_F nn (Fg_mono f rfl) (Fg_mono g rfl) gK⟩
theorem li_where (c1 : -2147483648 ≤ x1 ∧ x1 ≤ 2147483647) (c2 : -2147483648 ≤ x2 ∧ x2 ≤ 2147483647) (h : LIQ n M K) (hn : n < 512) : oK2 cI (qf_L_where 20000 x1 x2 M) (qf_X18_where 20000 x1 x2 K) (fun M' K' => LIQ (n + 1) M' K') := by
  obtain ⟨g0, gA, gB, gC, gD, gE, gF, gG, gH, gI, gJ, gK⟩ := h
  obtain ⟨h_built, h_time, h_ltime, h_BND⟩ := id g0
  obtain ⟨h_personn, h_persons, h_personb, h_personz, h_zpers⟩ := id gE
  have nn : n ≤ n + 1 := by omega
  obtain ⟨n_0, n_1, n_2, n_3, n_4⟩ := id h_BND
  refine li_mk (op_where (c1 := c1) (c2 := c2) (h_built := h_built) (h_personn := h_personn) (h_persons := h_persons)) (fr_L_where Fg_refl) (fr_X18_where Fg_refl) qP_tt qP_tt (fun M' K' hT f g hX hY => ?_)
  exact ⟨LI0_F nn (Fg_mono f rfl) (Fg_mono g rfl) g0, LIA_F nn (Fg_mono f rfl) (Fg_mono g rfl) gA, LIB_F nn (Fg_mono f rfl) (Fg_mono g rfl) gB, LIC_F nn (Fg_mono f rfl) (Fg_mono g rfl) gC, LID_F nn (Fg_mono f rfl) (Fg_mono g rfl) gD, LIE_F nn (Fg_mono f rfl) (Fg_mono g rfl) gE, LIF_F nn (Fg_mono f rfl) (Fg_mono g rfl) gF, LIG_F nn (Fg_mono f rfl) (Fg_mono g rfl) gG, LIH_F nn (Fg_mono f rfl) (Fg_mono g rfl) gH, LII_F nn (Fg_mono f rfl) (Fg_mono g rfl) gI, LIJ_F nn (Fg_mono f rfl) (Fg_mono g rfl) gJ, LIK_F nn (Fg_mono f rfl) (Fg_mono g rfl) gK⟩
theorem li_inside  (h : LIQ n M K) (hn : n < 512) : oK2 cI (qf_L_inside 20000 x1 M) (qf_X18_inside 20000 x1 K) (fun M' K' => LIQ (n + 1) M' K') := by
  obtain ⟨g0, gA, gB, gC, gD, gE, gF, gG, gH, gI, gJ, gK⟩ := h
  obtain ⟨h_built, h_time, h_ltime, h_BND⟩ := id g0
  obtain ⟨h_lines, h_ends, h_doorn, h_doors, h_find0, h_spaces, h_names, h_alone, h_FND⟩ := id gA
  obtain ⟨h_personn, h_persons, h_personb, h_personz, h_zpers⟩ := id gE
  obtain ⟨h_smoke, h_smoky, h_sroom, h_smoke0, h_walk, h_spaceof, h_rooms, h_WLX, h_CUX⟩ := id gF
  have nn : n ≤ n + 1 := by omega
  obtain ⟨n_0, n_1, n_2, n_3, n_4⟩ := id h_BND
  refine li_mk (op_inside (h_built := h_built) (h_personn := h_personn) (h_persons := h_persons) (h_personb := h_personb) (h_names := h_names) (h_spaces := h_spaces) (h_rooms := h_rooms)) (fr_L_inside Fg_refl) (fr_X18_inside Fg_refl) qP_tt qP_tt (fun M' K' hT f g hX hY => ?_)
  exact ⟨LI0_F nn (Fg_mono f rfl) (Fg_mono g rfl) g0, LIA_F nn (Fg_mono f rfl) (Fg_mono g rfl) gA, LIB_F nn (Fg_mono f rfl) (Fg_mono g rfl) gB, LIC_F nn (Fg_mono f rfl) (Fg_mono g rfl) gC, LID_F nn (Fg_mono f rfl) (Fg_mono g rfl) gD, LIE_F nn (Fg_mono f rfl) (Fg_mono g rfl) gE, LIF_F nn (Fg_mono f rfl) (Fg_mono g rfl) gF, LIG_F nn (Fg_mono f rfl) (Fg_mono g rfl) gG, LIH_F nn (Fg_mono f rfl) (Fg_mono g rfl) gH, LII_F nn (Fg_mono f rfl) (Fg_mono g rfl) gI, LIJ_F nn (Fg_mono f rfl) (Fg_mono g rfl) gJ, LIK_F nn (Fg_mono f rfl) (Fg_mono g rfl) gK⟩
theorem li_against (c1 : -2147483648 ≤ x1 ∧ x1 ≤ 2147483647) (c2 : -2147483648 ≤ x2 ∧ x2 ≤ 2147483647) (h : LIQ n M K) (hn : n < 512) : oK2 cI (qf_L_against 20000 x1 x2 M) (qf_X18_against 20000 x1 x2 K) (fun M' K' => LIQ (n + 1) M' K') := by
  obtain ⟨g0, gA, gB, gC, gD, gE, gF, gG, gH, gI, gJ, gK⟩ := h
  obtain ⟨h_built, h_time, h_ltime, h_BND⟩ := id g0
  obtain ⟨h_cardn, h_cards, h_rightn, h_rights, h_telln, h_tellt, h_tellc, h_tellr, h_notek, h_noteo, h_notex, h_lockb, h_locku, h_lockr, h_againstn, h_against⟩ := id gD
  have nn : n ≤ n + 1 := by omega
  obtain ⟨n_0, n_1, n_2, n_3, n_4⟩ := id h_BND
  refine li_mk (op_against (c1 := c1) (c2 := c2) (h_built := h_built) (h_againstn := h_againstn) (h_against := h_against)) (fr_L_against Fg_refl) (fr_X18_against Fg_refl) qP_tt qP_tt (fun M' K' hT f g hX hY => ?_)
  exact ⟨LI0_F nn (Fg_mono f rfl) (Fg_mono g rfl) g0, LIA_F nn (Fg_mono f rfl) (Fg_mono g rfl) gA, LIB_F nn (Fg_mono f rfl) (Fg_mono g rfl) gB, LIC_F nn (Fg_mono f rfl) (Fg_mono g rfl) gC, LID_F nn (Fg_mono f rfl) (Fg_mono g rfl) gD, LIE_F nn (Fg_mono f rfl) (Fg_mono g rfl) gE, LIF_F nn (Fg_mono f rfl) (Fg_mono g rfl) gF, LIG_F nn (Fg_mono f rfl) (Fg_mono g rfl) gG, LIH_F nn (Fg_mono f rfl) (Fg_mono g rfl) gH, LII_F nn (Fg_mono f rfl) (Fg_mono g rfl) gI, LIJ_F nn (Fg_mono f rfl) (Fg_mono g rfl) gJ, LIK_F nn (Fg_mono f rfl) (Fg_mono g rfl) gK⟩
theorem li_unit (c1 : -2147483648 ≤ x1 ∧ x1 ≤ 2147483647) (h : LIQ n M K) (hn : n < 512) : oK2 cI (qf_L_unit 20000 x1 M) (qf_X18_unit 20000 x1 K) (fun M' K' => LIQ (n + 1) M' K') := by
  obtain ⟨g0, gA, gB, gC, gD, gE, gF, gG, gH, gI, gJ, gK⟩ := h
  obtain ⟨h_built, h_time, h_ltime, h_BND⟩ := id g0
  obtain ⟨h_mtextn, h_mtext, h_mpoints, h_zzone, h_LAT⟩ := id gG
  have nn : n ≤ n + 1 := by omega
  obtain ⟨n_0, n_1, n_2, n_3, n_4⟩ := id h_BND
  refine li_mk (op_unit (c1 := c1) (h_built := h_built) (h_mtextn := h_mtextn) (h_mtext := h_mtext)) (fr_L_unit Fg_refl) (fr_X18_unit Fg_refl) qP_tt qP_tt (fun M' K' hT f g hX hY => ?_)
  obtain ⟨t_mtextn, t_mtext⟩ := hT
  exact ⟨LI0_F nn (Fg_mono f rfl) (Fg_mono g rfl) g0, LIA_F nn (Fg_mono f rfl) (Fg_mono g rfl) gA, LIB_F nn (Fg_mono f rfl) (Fg_mono g rfl) gB, LIC_F nn (Fg_mono f rfl) (Fg_mono g rfl) gC, LID_F nn (Fg_mono f rfl) (Fg_mono g rfl) gD, LIE_F nn (Fg_mono f rfl) (Fg_mono g rfl) gE, LIF_F nn (Fg_mono f rfl) (Fg_mono g rfl) gF, ⟨t_mtextn, t_mtext, (R_mpoints_x (M := M) (K := K) (f 6 11 0 rfl) (f 1172 2 0 rfl) (g 2156 9 0 rfl) (g 2208 0 0 rfl) h_mpoints), (R_zzone_x (M := M) (K := K) (f 6 11 0 rfl) (fun i j => Fg_v (a := 2215) (j := i) g rfl rfl) h_zzone), (FP_LAT (Fg_mono g rfl) h_LAT)⟩, LIH_F nn (Fg_mono f rfl) (Fg_mono g rfl) gH, LII_F nn (Fg_mono f rfl) (Fg_mono g rfl) gI, LIJ_F nn (Fg_mono f rfl) (Fg_mono g rfl) gJ, LIK_F nn (Fg_mono f rfl) (Fg_mono g rfl) gK⟩
theorem li_sentence  (h : LIQ n M K) (hn : n < 512) : oK2 cI (qf_L_sentence 20000 i1 i2 i3 i4 i5 M) (qf_X18_sentence 20000 i1 i2 i3 i4 i5 K) (fun M' K' => LIQ (n + 1) M' K') := by
  obtain ⟨g0, gA, gB, gC, gD, gE, gF, gG, gH, gI, gJ, gK⟩ := h
  obtain ⟨h_built, h_time, h_ltime, h_BND⟩ := id g0
  obtain ⟨h_mtextn, h_mtext, h_mpoints, h_zzone, h_LAT⟩ := id gG
  have nn : n ≤ n + 1 := by omega
  obtain ⟨n_0, n_1, n_2, n_3, n_4⟩ := id h_BND
  refine li_mk (op_sentence (h_built := h_built) (h_mtextn := h_mtextn) (h_mtext := h_mtext)) (fr_L_sentence Fg_refl) (fr_X18_sentence Fg_refl) qP_tt qP_tt (fun M' K' hT f g hX hY => ?_)
  obtain ⟨t_mtextn, t_mtext⟩ := hT
  exact ⟨LI0_F nn (Fg_mono f rfl) (Fg_mono g rfl) g0, LIA_F nn (Fg_mono f rfl) (Fg_mono g rfl) gA, LIB_F nn (Fg_mono f rfl) (Fg_mono g rfl) gB, LIC_F nn (Fg_mono f rfl) (Fg_mono g rfl) gC, LID_F nn (Fg_mono f rfl) (Fg_mono g rfl) gD, LIE_F nn (Fg_mono f rfl) (Fg_mono g rfl) gE, LIF_F nn (Fg_mono f rfl) (Fg_mono g rfl) gF, ⟨t_mtextn, t_mtext, (R_mpoints_x (M := M) (K := K) (f 6 11 0 rfl) (f 1172 2 0 rfl) (g 2156 9 0 rfl) (g 2208 0 0 rfl) h_mpoints), (R_zzone_x (M := M) (K := K) (f 6 11 0 rfl) (fun i j => Fg_v (a := 2215) (j := i) g rfl rfl) h_zzone), (FP_LAT (Fg_mono g rfl) h_LAT)⟩, LIH_F nn (Fg_mono f rfl) (Fg_mono g rfl) gH, LII_F nn (Fg_mono f rfl) (Fg_mono g rfl) gI, LIJ_F nn (Fg_mono f rfl) (Fg_mono g rfl) gJ, LIK_F nn (Fg_mono f rfl) (Fg_mono g rfl) gK⟩
theorem li_cutText (c1 : -2147483648 ≤ x1 ∧ x1 ≤ 2147483647) (h : LIQ n M K) (hn : n < 512) : oK2 cI (qf_L_cutText 20000 x1 M) (qf_X18_cutText 20000 x1 K) (fun M' K' => LIQ (n + 1) M' K') := by
  obtain ⟨g0, gA, gB, gC, gD, gE, gF, gG, gH, gI, gJ, gK⟩ := h
  obtain ⟨h_built, h_time, h_ltime, h_BND⟩ := id g0
  obtain ⟨h_mtextn, h_mtext, h_mpoints, h_zzone, h_LAT⟩ := id gG
  have nn : n ≤ n + 1 := by omega
  obtain ⟨n_0, n_1, n_2, n_3, n_4⟩ := id h_BND
  refine li_mk (op_cutText (c1 := c1) (h_built := h_built) (h_mtextn := h_mtextn) (h_mtext := h_mtext)) (fr_L_cutText Fg_refl) (fr_X18_cutText Fg_refl) qP_tt qP_tt (fun M' K' hT f g hX hY => ?_)
  obtain ⟨t_mtextn, t_mtext⟩ := hT
  exact ⟨LI0_F nn (Fg_mono f rfl) (Fg_mono g rfl) g0, LIA_F nn (Fg_mono f rfl) (Fg_mono g rfl) gA, LIB_F nn (Fg_mono f rfl) (Fg_mono g rfl) gB, LIC_F nn (Fg_mono f rfl) (Fg_mono g rfl) gC, LID_F nn (Fg_mono f rfl) (Fg_mono g rfl) gD, LIE_F nn (Fg_mono f rfl) (Fg_mono g rfl) gE, LIF_F nn (Fg_mono f rfl) (Fg_mono g rfl) gF, ⟨t_mtextn, t_mtext, (R_mpoints_x (M := M) (K := K) (f 6 11 0 rfl) (f 1172 2 0 rfl) (g 2156 9 0 rfl) (g 2208 0 0 rfl) h_mpoints), (R_zzone_x (M := M) (K := K) (f 6 11 0 rfl) (fun i j => Fg_v (a := 2215) (j := i) g rfl rfl) h_zzone), (FP_LAT (Fg_mono g rfl) h_LAT)⟩, LIH_F nn (Fg_mono f rfl) (Fg_mono g rfl) gH, LII_F nn (Fg_mono f rfl) (Fg_mono g rfl) gI, LIJ_F nn (Fg_mono f rfl) (Fg_mono g rfl) gJ, LIK_F nn (Fg_mono f rfl) (Fg_mono g rfl) gK⟩
theorem li_act (c1 : -2147483648 ≤ x1 ∧ x1 ≤ 2147483647) (c2 : -2147483648 ≤ x2 ∧ x2 ≤ 2147483647) (h : LIQ n M K) (hn : n < 512) : oK2 cI (qf_L_act 20000 x1 x2 M) (qf_X18_act 20000 x1 x2 K) (fun M' K' => LIQ (n + 1) M' K') := by
  obtain ⟨g0, gA, gB, gC, gD, gE, gF, gG, gH, gI, gJ, gK⟩ := h
  obtain ⟨h_built, h_time, h_ltime, h_BND⟩ := id g0
  have h_MXI := gH
  unfold LIH at h_MXI
  have nn : n ≤ n + 1 := by omega
  obtain ⟨n_0, n_1, n_2, n_3, n_4⟩ := id h_BND
  obtain ⟨h_macts, h_mstate, h_msince⟩ := mx_acts h_MXI
  refine li_mk (op_act (c1 := c1) (c2 := c2) (h_built := h_built) (h_macts := h_macts) (h_mstate := h_mstate) (h_msince := h_msince)) (fr_L_act Fg_refl) (fr_X18_act Fg_refl) qP_tt qP_tt (fun M' K' hT f g hX hY => ?_)
  exact ⟨LI0_F nn (Fg_mono f rfl) (Fg_mono g rfl) g0, LIA_F nn (Fg_mono f rfl) (Fg_mono g rfl) gA, LIB_F nn (Fg_mono f rfl) (Fg_mono g rfl) gB, LIC_F nn (Fg_mono f rfl) (Fg_mono g rfl) gC, LID_F nn (Fg_mono f rfl) (Fg_mono g rfl) gD, LIE_F nn (Fg_mono f rfl) (Fg_mono g rfl) gE, LIF_F nn (Fg_mono f rfl) (Fg_mono g rfl) gF, LIG_F nn (Fg_mono f rfl) (Fg_mono g rfl) gG, LIH_F nn (Fg_mono f rfl) (Fg_mono g rfl) gH, LII_F nn (Fg_mono f rfl) (Fg_mono g rfl) gI, LIJ_F nn (Fg_mono f rfl) (Fg_mono g rfl) gJ, LIK_F nn (Fg_mono f rfl) (Fg_mono g rfl) gK⟩
theorem li_zone  (h : LIQ n M K) (hn : n < 512) : oK2 cI (qf_L_zone 20000 x1 x2 M) (qf_X18_zone 20000 x1 x2 K) (fun M' K' => LIQ (n + 1) M' K') := by
  obtain ⟨g0, gA, gB, gC, gD, gE, gF, gG, gH, gI, gJ, gK⟩ := h
  obtain ⟨h_built, h_time, h_ltime, h_BND⟩ := id g0
  have h_MXI := gH
  unfold LIH at h_MXI
  have nn : n ≤ n + 1 := by omega
  obtain ⟨n_0, n_1, n_2, n_3, n_4⟩ := id h_BND
  refine li_mk (op_zone (h_built := h_built) (h := h_MXI)) (fr_L_zone Fg_refl) (fr_X18_zone Fg_refl) qP_tt qP_tt (fun M' K' hT f g hX hY => ?_)
  exact ⟨LI0_F nn (Fg_mono f rfl) (Fg_mono g rfl) g0, LIA_F nn (Fg_mono f rfl) (Fg_mono g rfl) gA, LIB_F nn (Fg_mono f rfl) (Fg_mono g rfl) gB, LIC_F nn (Fg_mono f rfl) (Fg_mono g rfl) gC, LID_F nn (Fg_mono f rfl) (Fg_mono g rfl) gD, LIE_F nn (Fg_mono f rfl) (Fg_mono g rfl) gE, LIF_F nn (Fg_mono f rfl) (Fg_mono g rfl) gF, LIG_F nn (Fg_mono f rfl) (Fg_mono g rfl) gG, LIH_F nn (Fg_mono f rfl) (Fg_mono g rfl) gH, LII_F nn (Fg_mono f rfl) (Fg_mono g rfl) gI, LIJ_F nn (Fg_mono f rfl) (Fg_mono g rfl) gJ, LIK_F nn (Fg_mono f rfl) (Fg_mono g rfl) gK⟩
theorem li_event  (h : LIQ n M K) (hn : n < 512) : oK2 cI (qf_L_event 20000 x1 x2 M) (qf_X18_event 20000 x1 x2 K) (fun M' K' => LIQ (n + 1) M' K') := by
  obtain ⟨g0, gA, gB, gC, gD, gE, gF, gG, gH, gI, gJ, gK⟩ := h
  obtain ⟨h_built, h_time, h_ltime, h_BND⟩ := id g0
  have h_MXI := gH
  unfold LIH at h_MXI
  have nn : n ≤ n + 1 := by omega
  obtain ⟨n_0, n_1, n_2, n_3, n_4⟩ := id h_BND
  obtain ⟨z_1, z_2, z_3, h_mfault, h_muntil, h_mnow, h_mvalue, h_mzones, h_mzonep, h_mrows, h_mrow, z_4, ⟨h_mst, h_evn, h_mevent, ⟨h_bqueued, h_baddr, h_bbusy, h_bsaying, h_bcounts, h_banswer, h_bqueue, h_bext⟩, h_points⟩, z_5⟩ := id h_MXI
  refine li_mk (op_event (h_built := h_built) (h_mevent := h_mevent) (he := h_evn) (hE := (by omega))) (fr_L_event Fg_refl) (fr_X18_event Fg_refl) qP_tt qP_tt (fun M' K' hT f g hX hY => ?_)
  exact ⟨LI0_F nn (Fg_mono f rfl) (Fg_mono g rfl) g0, LIA_F nn (Fg_mono f rfl) (Fg_mono g rfl) gA, LIB_F nn (Fg_mono f rfl) (Fg_mono g rfl) gB, LIC_F nn (Fg_mono f rfl) (Fg_mono g rfl) gC, LID_F nn (Fg_mono f rfl) (Fg_mono g rfl) gD, LIE_F nn (Fg_mono f rfl) (Fg_mono g rfl) gE, LIF_F nn (Fg_mono f rfl) (Fg_mono g rfl) gF, LIG_F nn (Fg_mono f rfl) (Fg_mono g rfl) gG, LIH_F nn (Fg_mono f rfl) (Fg_mono g rfl) gH, LII_F nn (Fg_mono f rfl) (Fg_mono g rfl) gI, LIJ_F nn (Fg_mono f rfl) (Fg_mono g rfl) gJ, LIK_F nn (Fg_mono f rfl) (Fg_mono g rfl) gK⟩
end LIc8j_d1_ops
