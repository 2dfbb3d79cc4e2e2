/-! ===== the law between two calls (wip/tools/q/genli.py) ===== -/
section LIc8j_d0_ops
variable {M K N W : qm} {n x v y z i1 i2 i3 i4 i5 x1 x2 x3 x4 x5 x6 day : Int}
theorem li_door  (h : LIQ n M K) (hn : n < 512) : oK2 cI (qf_L_door 20000 x1 x2 x3 x4 M) (qf_X18_door 20000 x1 x2 x3 x4 K) (fun M' K' => LIQ (n + 1) M' K') := by
  obtain ⟨g0, gA, gB, gC, gD, gE, gF, gG, gH, gI, gJ, gK⟩ := h
  obtain ⟨h_built, h_time, h_ltime, h_BND⟩ := id g0
  obtain ⟨h_lines, h_ends, h_doorn, h_doors, h_find0, h_spaces, h_names, h_alone, h_FND⟩ := id gA
  have nn : n ≤ n + 1 := by omega
  obtain ⟨n_0, n_1, n_2, n_3, n_4⟩ := id h_BND
  refine li_mk (op_door (h_built := h_built) (h_lines := h_lines) (h_ends := h_ends) (h_doorn := h_doorn) (h_doors := h_doors)) (fr_L_door Fg_refl) (fr_X18_door Fg_refl) qP_tt qP_tt (fun M' K' hT f g hX hY => ?_)
  obtain ⟨t_doorn, t_doors⟩ := hT
  exact ⟨LI0_F nn (Fg_mono f rfl) (Fg_mono g rfl) g0, ⟨(R_lines_x (M := M) (K := K) (f 7 0 0 rfl) (g 2157 0 0 rfl) h_lines), (R_ends_x (M := M) (K := K) (f 7 0 0 rfl) (fun i j => Fg_v (a := 8) (j := i) f rfl rfl) (fun i j => Fg_v (a := 2158) (j := i) g rfl rfl) (fun i j => Fg_v (a := 2159) (j := i) g rfl rfl) (fun i j => Fg_v (a := 2160) (j := i) g rfl rfl) (fun i j => Fg_v (a := 2161) (j := i) g rfl rfl) h_ends), t_doorn, t_doors, (R_find0_x (M := M) (K := K) (f 51 1 0 rfl) (f 51 2 0 rfl) (g 2157 9 0 rfl) (g 2157 10 0 rfl) (g 2157 11 0 rfl) h_find0), (R_spaces_x (M := M) (K := K) (f 51 1 0 rfl) (f 51 3 0 rfl) (g 2157 17 0 rfl) h_spaces), (R_names_x (M := M) (K := K) (f 51 3 0 rfl) (fun i j => Fg_v (a := 58) (j := i) f rfl rfl) (fun i j => Fg_v (a := 2172) (j := i) g rfl rfl) h_names), (FP_alone (Fg_mono f rfl) (Fg_mono g rfl) h_alone), (FP_FND (Fg_mono f rfl) (Fg_mono g rfl) h_FND)⟩, LIB_F nn (Fg_mono f rfl) (Fg_mono g rfl) gB, LIC_F nn (Fg_mono f rfl) (Fg_mono g rfl) gC, LID_F nn (Fg_mono f rfl) (Fg_mono g rfl) gD, LIE_F nn (Fg_mono f rfl) (Fg_mono g rfl) gE, LIF_F nn (Fg_mono f rfl) (Fg_mono g rfl) gF, LIG_F nn (Fg_mono f rfl) (Fg_mono g rfl) gG, LIH_F nn (Fg_mono f rfl) (Fg_mono g rfl) gH, LII_F nn (Fg_mono f rfl) (Fg_mono g rfl) gI, LIJ_F nn (Fg_mono f rfl) (Fg_mono g rfl) gJ, LIK_F nn (Fg_mono f rfl) (Fg_mono g rfl) gK⟩
theorem li_count  (h : LIQ n M K) (hn : n < 512) : oK2 cI (qf_L_count 20000 x1 M) (qf_X18_count 20000 x1 K) (fun M' K' => LIQ (n + 1) M' K') := by
  obtain ⟨g0, gA, gB, gC, gD, gE, gF, gG, gH, gI, gJ, gK⟩ := h
  obtain ⟨h_built, h_time, h_ltime, h_BND⟩ := id g0
  obtain ⟨h_lines, h_ends, h_doorn, h_doors, h_find0, h_spaces, h_names, h_alone, h_FND⟩ := id gA
  have nn : n ≤ n + 1 := by omega
  obtain ⟨n_0, n_1, n_2, n_3, n_4⟩ := id h_BND
  refine li_mk (op_count (h_find0 := h_find0) (h_spaces := h_spaces) (h := h_FND)) (fr_L_count Fg_refl) (fr_X18_count Fg_refl) qP_tt qP_tt (fun M' K' hT f g hX hY => ?_)
  exact ⟨LI0_F nn (Fg_mono f rfl) (Fg_mono g rfl) g0, LIA_F nn (Fg_mono f rfl) (Fg_mono g rfl) gA, LIB_F nn (Fg_mono f rfl) (Fg_mono g rfl) gB, LIC_F nn (Fg_mono f rfl) (Fg_mono g rfl) gC, LID_F nn (Fg_mono f rfl) (Fg_mono g rfl) gD, LIE_F nn (Fg_mono f rfl) (Fg_mono g rfl) gE, LIF_F nn (Fg_mono f rfl) (Fg_mono g rfl) gF, LIG_F nn (Fg_mono f rfl) (Fg_mono g rfl) gG, LIH_F nn (Fg_mono f rfl) (Fg_mono g rfl) gH, LII_F nn (Fg_mono f rfl) (Fg_mono g rfl) gI, LIJ_F nn (Fg_mono f rfl) (Fg_mono g rfl) gJ, LIK_F nn (Fg_mono f rfl) (Fg_mono g rfl) gK⟩
theorem li_sides (c2 : x2 ≤ 2147483647) (h : LIQ n M K) (hn : n < 512) : oK2 cI (qf_L_sides 20000 x1 x2 M) (qf_X18_sides 20000 x1 x2 K) (fun M' K' => LIQ (n + 1) M' K') := by
  obtain ⟨g0, gA, gB, gC, gD, gE, gF, gG, gH, gI, gJ, gK⟩ := h
  obtain ⟨h_built, h_time, h_ltime, h_BND⟩ := id g0
  obtain ⟨h_lines, h_ends, h_doorn, h_doors, h_find0, h_spaces, h_names, h_alone, h_FND⟩ := id gA
  have nn : n ≤ n + 1 := by omega
  obtain ⟨n_0, n_1, n_2, n_3, n_4⟩ := id h_BND
  refine li_mk (op_sides (h_find0 := h_find0) (h_spaces := h_spaces) (h := h_FND) (c2 := c2)) (fr_L_sides Fg_refl) (fr_X18_sides Fg_refl) qP_tt qP_tt (fun M' K' hT f g hX hY => ?_)
  exact ⟨LI0_F nn (Fg_mono f rfl) (Fg_mono g rfl) g0, LIA_F nn (Fg_mono f rfl) (Fg_mono g rfl) gA, LIB_F nn (Fg_mono f rfl) (Fg_mono g rfl) gB, LIC_F nn (Fg_mono f rfl) (Fg_mono g rfl) gC, LID_F nn (Fg_mono f rfl) (Fg_mono g rfl) gD, LIE_F nn (Fg_mono f rfl) (Fg_mono g rfl) gE, LIF_F nn (Fg_mono f rfl) (Fg_mono g rfl) gF, LIG_F nn (Fg_mono f rfl) (Fg_mono g rfl) gG, LIH_F nn (Fg_mono f rfl) (Fg_mono g rfl) gH, LII_F nn (Fg_mono f rfl) (Fg_mono g rfl) gI, LIJ_F nn (Fg_mono f rfl) (Fg_mono g rfl) gJ, LIK_F nn (Fg_mono f rfl) (Fg_mono g rfl) gK⟩
theorem li_side (c2 : x2 ≤ 2147483647) (h : LIQ n M K) (hn : n < 512) : oK2 cI (qf_L_side 20000 x1 x2 x3 x4 M) (qf_X18_side 20000 x1 x2 x3 x4 K) (fun M' K' => LIQ (n + 1) M' K') := by
  obtain ⟨g0, gA, gB, gC, gD, gE, gF, gG, gH, gI, gJ, gK⟩ := h
  obtain ⟨h_built, h_time, h_ltime, h_BND⟩ := id g0
  obtain ⟨h_lines, h_ends, h_doorn, h_doors, h_find0, h_spaces, h_names, h_alone, h_FND⟩ := id gA
  have nn : n ≤ n + 1 := by omega
  obtain ⟨n_0, n_1, n_2, n_3, n_4⟩ := id h_BND
  refine li_mk (op_side (h_find0 := h_find0) (h_spaces := h_spaces) (h := h_FND) (c2 := c2)) (fr_L_side Fg_refl) (fr_X18_side Fg_refl) qP_tt qP_tt (fun M' K' hT f g hX hY => ?_)
  exact ⟨LI0_F nn (Fg_mono f rfl) (Fg_mono g rfl) g0, LIA_F nn (Fg_mono f rfl) (Fg_mono g rfl) gA, LIB_F nn (Fg_mono f rfl) (Fg_mono g rfl) gB, LIC_F nn (Fg_mono f rfl) (Fg_mono g rfl) gC, LID_F nn (Fg_mono f rfl) (Fg_mono g rfl) gD, LIE_F nn (Fg_mono f rfl) (Fg_mono g rfl) gE, LIF_F nn (Fg_mono f rfl) (Fg_mono g rfl) gF, LIG_F nn (Fg_mono f rfl) (Fg_mono g rfl) gG, LIH_F nn (Fg_mono f rfl) (Fg_mono g rfl) gH, LII_F nn (Fg_mono f rfl) (Fg_mono g rfl) gI, LIJ_F nn (Fg_mono f rfl) (Fg_mono g rfl) gJ, LIK_F nn (Fg_mono f rfl) (Fg_mono g rfl) gK⟩
theorem li_size  (h : LIQ n M K) (hn : n < 512) : oK2 cI (qf_L_size 20000 x1 x2 M) (qf_X18_size 20000 x1 x2 K) (fun M' K' => LIQ (n + 1) M' K') := by
  obtain ⟨g0, gA, gB, gC, gD, gE, gF, gG, gH, gI, gJ, gK⟩ := h
  obtain ⟨h_built, h_time, h_ltime, h_BND⟩ := id g0
  obtain ⟨h_lines, h_ends, h_doorn, h_doors, h_find0, h_spaces, h_names, h_alone, h_FND⟩ := id gA
  have nn : n ≤ n + 1 := by omega
  obtain ⟨n_0, n_1, n_2, n_3, n_4⟩ := id h_BND
  refine li_mk (op_size (h_find0 := h_find0) (h_spaces := h_spaces) (h := h_FND)) (fr_L_size Fg_refl) (fr_X18_size Fg_refl) qP_tt qP_tt (fun M' K' hT f g hX hY => ?_)
  exact ⟨LI0_F nn (Fg_mono f rfl) (Fg_mono g rfl) g0, LIA_F nn (Fg_mono f rfl) (Fg_mono g rfl) gA, LIB_F nn (Fg_mono f rfl) (Fg_mono g rfl) gB, LIC_F nn (Fg_mono f rfl) (Fg_mono g rfl) gC, LID_F nn (Fg_mono f rfl) (Fg_mono g rfl) gD, LIE_F nn (Fg_mono f rfl) (Fg_mono g rfl) gE, LIF_F nn (Fg_mono f rfl) (Fg_mono g rfl) gF, LIG_F nn (Fg_mono f rfl) (Fg_mono g rfl) gG, LIH_F nn (Fg_mono f rfl) (Fg_mono g rfl) gH, LII_F nn (Fg_mono f rfl) (Fg_mono g rfl) gI, LIJ_F nn (Fg_mono f rfl) (Fg_mono g rfl) gJ, LIK_F nn (Fg_mono f rfl) (Fg_mono g rfl) gK⟩
theorem li_at  (h : LIQ n M K) (hn : n < 512) : oK2 cI (qf_L_at 20000 x1 x2 M) (qf_X18_at 20000 x1 x2 K) (fun M' K' => LIQ (n + 1) M' K') := by
  obtain ⟨g0, gA, gB, gC, gD, gE, gF, gG, gH, gI, gJ, gK⟩ := h
  obtain ⟨h_built, h_time, h_ltime, h_BND⟩ := id g0
  obtain ⟨h_lines, h_ends, h_doorn, h_doors, h_find0, h_spaces, h_names, h_alone, h_FND⟩ := id gA
  have nn : n ≤ n + 1 := by omega
  obtain ⟨n_0, n_1, n_2, n_3, n_4⟩ := id h_BND
  refine li_mk (op_at (h_find0 := h_find0) (h_spaces := h_spaces) (h := h_FND)) (fr_L_at Fg_refl) (fr_X18_at Fg_refl) qP_tt qP_tt (fun M' K' hT f g hX hY => ?_)
  exact ⟨LI0_F nn (Fg_mono f rfl) (Fg_mono g rfl) g0, LIA_F nn (Fg_mono f rfl) (Fg_mono g rfl) gA, LIB_F nn (Fg_mono f rfl) (Fg_mono g rfl) gB, LIC_F nn (Fg_mono f rfl) (Fg_mono g rfl) gC, LID_F nn (Fg_mono f rfl) (Fg_mono g rfl) gD, LIE_F nn (Fg_mono f rfl) (Fg_mono g rfl) gE, LIF_F nn (Fg_mono f rfl) (Fg_mono g rfl) gF, LIG_F nn (Fg_mono f rfl) (Fg_mono g rfl) gG, LIH_F nn (Fg_mono f rfl) (Fg_mono g rfl) gH, LII_F nn (Fg_mono f rfl) (Fg_mono g rfl) gI, LIJ_F nn (Fg_mono f rfl) (Fg_mono g rfl) gJ, LIK_F nn (Fg_mono f rfl) (Fg_mono g rfl) gK⟩
theorem li_between  (h : LIQ n M K) (hn : n < 512) : oK2 cI (qf_L_between 20000 x1 x2 M) (qf_X18_between 20000 x1 x2 K) (fun M' K' => LIQ (n + 1) M' K') := by
  obtain ⟨g0, gA, gB, gC, gD, gE, gF, gG, gH, gI, gJ, gK⟩ := h
  obtain ⟨h_built, h_time, h_ltime, h_BND⟩ := id g0
  obtain ⟨h_lines, h_ends, h_doorn, h_doors, h_find0, h_spaces, h_names, h_alone, h_FND⟩ := id gA
  have nn : n ≤ n + 1 := by omega
  obtain ⟨n_0, n_1, n_2, n_3, n_4⟩ := id h_BND
  refine li_mk (op_between (h_find0 := h_find0) (h_spaces := h_spaces) (h := h_FND)) (fr_L_between Fg_refl) (fr_X18_between Fg_refl) qP_tt qP_tt (fun M' K' hT f g hX hY => ?_)
  exact ⟨LI0_F nn (Fg_mono f rfl) (Fg_mono g rfl) g0, LIA_F nn (Fg_mono f rfl) (Fg_mono g rfl) gA, LIB_F nn (Fg_mono f rfl) (Fg_mono g rfl) gB, LIC_F nn (Fg_mono f rfl) (Fg_mono g rfl) gC, LID_F nn (Fg_mono f rfl) (Fg_mono g rfl) gD, LIE_F nn (Fg_mono f rfl) (Fg_mono g rfl) gE, LIF_F nn (Fg_mono f rfl) (Fg_mono g rfl) gF, LIG_F nn (Fg_mono f rfl) (Fg_mono g rfl) gG, LIH_F nn (Fg_mono f rfl) (Fg_mono g rfl) gH, LII_F nn (Fg_mono f rfl) (Fg_mono g rfl) gI, LIJ_F nn (Fg_mono f rfl) (Fg_mono g rfl) gJ, LIK_F nn (Fg_mono f rfl) (Fg_mono g rfl) gK⟩
theorem li_way  (h : LIQ n M K) (hn : n < 512) : oK2 cI (qf_L_way 20000 x1 x2 M) (qf_X18_way 20000 x1 x2 K) (fun M' K' => LIQ (n + 1) M' K') := by
  obtain ⟨g0, gA, gB, gC, gD, gE, gF, gG, gH, gI, gJ, gK⟩ := h
  obtain ⟨h_built, h_time, h_ltime, h_BND⟩ := id g0
  obtain ⟨h_lines, h_ends, h_doorn, h_doors, h_find0, h_spaces, h_names, h_alone, h_FND⟩ := id gA
  have nn : n ≤ n + 1 := by omega
  obtain ⟨n_0, n_1, n_2, n_3, n_4⟩ := id h_BND
  refine li_mk (op_way (h_lines := h_lines) (h_ends := h_ends) (h_doorn := h_doorn) (h_doors := h_doors) (h_find0 := h_find0) (h_spaces := h_spaces) (h := h_FND)) (fr_L_way Fg_refl) (fr_X18_way Fg_refl) qP_tt qP_tt (fun M' K' hT f g hX hY => ?_)
  exact ⟨LI0_F nn (Fg_mono f rfl) (Fg_mono g rfl) g0, LIA_F nn (Fg_mono f rfl) (Fg_mono g rfl) gA, LIB_F nn (Fg_mono f rfl) (Fg_mono g rfl) gB, LIC_F nn (Fg_mono f rfl) (Fg_mono g rfl) gC, LID_F nn (Fg_mono f rfl) (Fg_mono g rfl) gD, LIE_F nn (Fg_mono f rfl) (Fg_mono g rfl) gE, LIF_F nn (Fg_mono f rfl) (Fg_mono g rfl) gF, LIG_F nn (Fg_mono f rfl) (Fg_mono g rfl) gG, LIH_F nn (Fg_mono f rfl) (Fg_mono g rfl) gH, LII_F nn (Fg_mono f rfl) (Fg_mono g rfl) gI, LIJ_F nn (Fg_mono f rfl) (Fg_mono g rfl) gJ, LIK_F nn (Fg_mono f rfl) (Fg_mono g rfl) gK⟩
theorem li_name (c1 : -2147483648 ≤ x1 ∧ x1 ≤ 2147483647) (c2 : -2147483648 ≤ x2 ∧ x2 ≤ 2147483647) (h : LIQ n M K) (hn : n < 512) : oK2 cI (qf_L_name 20000 x1 x2 M) (qf_X18_name 20000 x1 x2 K) (fun M' K' => LIQ (n + 1) M' K') := by
  obtain ⟨g0, gA, gB, gC, gD, gE, gF, gG, gH, gI, gJ, gK⟩ := h
  obtain ⟨h_built, h_time, h_ltime, h_BND⟩ := id g0
  obtain ⟨h_lines, h_ends, h_doorn, h_doors, h_find0, h_spaces, h_names, h_alone, h_FND⟩ := id gA
  have nn : n ≤ n + 1 := by omega
  obtain ⟨n_0, n_1, n_2, n_3, n_4⟩ := id h_BND
  refine li_mk (op_name (c1 := c1) (c2 := c2) (h_built := h_built) (h_spaces := h_spaces) (h_find0 := h_find0) (h_names := h_names)) (fr_L_name Fg_refl) (fr_X18_name Fg_refl) qP_tt qP_tt (fun M' K' hT f g hX hY => ?_)
  have t_names := hT
  exact ⟨LI0_F nn (Fg_mono f rfl) (Fg_mono g rfl) g0, ⟨(R_lines_x (M := M) (K := K) (f 7 0 0 rfl) (g 2157 0 0 rfl) h_lines), (R_ends_x (M := M) (K := K) (f 7 0 0 rfl) (fun i j => Fg_v (a := 8) (j := i) f rfl rfl) (fun i j => Fg_v (a := 2158) (j := i) g rfl rfl) (fun i j => Fg_v (a := 2159) (j := i) g rfl rfl) (fun i j => Fg_v (a := 2160) (j := i) g rfl rfl) (fun i j => Fg_v (a := 2161) (j := i) g rfl rfl) h_ends), (R_doorn_x (M := M) (K := K) (f 7 0 0 rfl) (fun i j => Fg_v (a := 29) (j := i) f rfl rfl) (fun i j => Fg_v (a := 2162) (j := i) g rfl rfl) h_doorn), (R_doors_x (M := M) (K := K) (fun i j => Fg_v (a := 29) (j := i) f rfl rfl) (fun i j => Fg_v (a := 30) (j := i) f rfl rfl) (fun i j => Fg_v (a := 2161) (j := i) g rfl rfl) (fun i j => Fg_v (a := 2163) (j := i) g rfl rfl) (fun i j => Fg_v (a := 2164) (j := i) g rfl rfl) (fun i j => Fg_v (a := 2165) (j := i) g rfl rfl) h_doors), (R_find0_x (M := M) (K := K) (f 51 1 0 rfl) (f 51 2 0 rfl) (g 2157 9 0 rfl) (g 2157 10 0 rfl) (g 2157 11 0 rfl) h_find0), (R_spaces_x (M := M) (K := K) (f 51 1 0 rfl) (f 51 3 0 rfl) (g 2157 17 0 rfl) h_spaces), t_names, (FP_alone (Fg_mono f rfl) (Fg_mono g rfl) h_alone), (FP_FND (Fg_mono f rfl) (Fg_mono g rfl) h_FND)⟩, LIB_F nn (Fg_mono f rfl) (Fg_mono g rfl) gB, LIC_F nn (Fg_mono f rfl) (Fg_mono g rfl) gC, LID_F nn (Fg_mono f rfl) (Fg_mono g rfl) gD, LIE_F nn (Fg_mono f rfl) (Fg_mono g rfl) gE, LIF_F nn (Fg_mono f rfl) (Fg_mono g rfl) gF, LIG_F nn (Fg_mono f rfl) (Fg_mono g rfl) gG, LIH_F nn (Fg_mono f rfl) (Fg_mono g rfl) gH, LII_F nn (Fg_mono f rfl) (Fg_mono g rfl) gI, LIJ_F nn (Fg_mono f rfl) (Fg_mono g rfl) gJ, LIK_F nn (Fg_mono f rfl) (Fg_mono g rfl) gK⟩
theorem li_nameOf (c1 : -2147483648 ≤ x1 ∧ x1 ≤ 2147483647) (h : LIQ n M K) (hn : n < 512) : oK2 cI (qf_L_nameOf 20000 x1 M) (qf_X18_nameOf 20000 x1 K) (fun M' K' => LIQ (n + 1) M' K') := by
  obtain ⟨g0, gA, gB, gC, gD, gE, gF, gG, gH, gI, gJ, gK⟩ := h
  obtain ⟨h_built, h_time, h_ltime, h_BND⟩ := id g0
  obtain ⟨h_lines, h_ends, h_doorn, h_doors, h_find0, h_spaces, h_names, h_alone, h_FND⟩ := id gA
  have nn : n ≤ n + 1 := by omega
  obtain ⟨n_0, n_1, n_2, n_3, n_4⟩ := id h_BND
  refine li_mk (op_nameOf (c1 := c1) (h_built := h_built) (h_spaces := h_spaces) (h_find0 := h_find0) (h_names := h_names)) (fr_L_nameOf Fg_refl) (fr_X18_nameOf Fg_refl) qP_tt qP_tt (fun M' K' hT f g hX hY => ?_)
  exact ⟨LI0_F nn (Fg_mono f rfl) (Fg_mono g rfl) g0, LIA_F nn (Fg_mono f rfl) (Fg_mono g rfl) gA, LIB_F nn (Fg_mono f rfl) (Fg_mono g rfl) gB, LIC_F nn (Fg_mono f rfl) (Fg_mono g rfl) gC, LID_F nn (Fg_mono f rfl) (Fg_mono g rfl) gD, LIE_F nn (Fg_mono f rfl) (Fg_mono g rfl) gE, LIF_F nn (Fg_mono f rfl) (Fg_mono g rfl) gF, LIG_F nn (Fg_mono f rfl) (Fg_mono g rfl) gG, LIH_F nn (Fg_mono f rfl) (Fg_mono g rfl) gH, LII_F nn (Fg_mono f rfl) (Fg_mono g rfl) gI, LIJ_F nn (Fg_mono f rfl) (Fg_mono g rfl) gJ, LIK_F nn (Fg_mono f rfl) (Fg_mono g rfl) gK⟩
theorem li_say  (h : LIQ n M K) (hn : n < 512) : oK2 cI (qf_L_say 20000 x M) (qf_X18_say 20000 x K) (fun M' K' => LIQ (n + 1) M' K') := by
  obtain ⟨g0, gA, gB, gC, gD, gE, gF, gG, gH, gI, gJ, gK⟩ := h
  obtain ⟨h_built, h_time, h_ltime, h_BND⟩ := id g0
  obtain ⟨h_textn, h_textc, h_factn, h_facts, h_factd, h_rulen, h_answers, h_RLS⟩ := id gB
  have nn : n ≤ n + 1 := by omega
  obtain ⟨n_0, n_1, n_2, n_3, n_4⟩ := id h_BND
  refine li_mk (op_say (h_textn := h_textn) (h_textc := h_textc)) (fr_L_say Fg_refl) (fr_X18_say Fg_refl) qP_tt qP_tt (fun M' K' hT f g hX hY => ?_)
  obtain ⟨t_textn, t_textc⟩ := hT
  exact ⟨LI0_F nn (Fg_mono f rfl) (Fg_mono g rfl) g0, LIA_F nn (Fg_mono f rfl) (Fg_mono g rfl) gA, ⟨t_textn, t_textc, (R_factn_x (M := M) (K := K) (f 735 8 0 rfl) (g 2184 2 0 rfl) h_factn), (R_facts_x (M := M) (K := K) (f 735 8 0 rfl) (fun i j => Fg_v (a := 754) (j := i) f rfl rfl) (fun i j => Fg_v (a := 755) (j := i) f rfl rfl) (fun i j => Fg_v (a := 2186) (j := i) g rfl rfl) (fun i j => Fg_v (a := 2187) (j := i) g rfl rfl) h_facts), (R_factd_x (M := M) (K := K) (f 735 8 0 rfl) (fun i j => Fg_v (a := 754) (j := i) f rfl rfl) h_factd), (R_rulen_x (M := M) (K := K) (f 735 0 0 rfl) (f 735 1 0 rfl) (g 2184 5 0 rfl) (g 2184 18 0 rfl) h_rulen), (R_answers_x (M := M) (K := K) (f 735 0 0 rfl) (f 735 1 0 rfl) (fun i j => Fg_v (a := 740) (j := i) f rfl rfl) (fun i j => Fg_v (a := 2198) (j := i) g rfl rfl) (fun i j => Fg_v (a := 2199) (j := i) g rfl rfl) (fun i j => Fg_v (a := 2200) (j := i) g rfl rfl) (fun i j => Fg_v (a := 2201) (j := i) g rfl rfl) (fun i j => Fg_v (a := 2202) (j := i) g rfl rfl) (fun i j => Fg_v (a := 2203) (j := i) g rfl rfl) (fun i j => Fg_v (a := 2204) (j := i) g rfl rfl) h_answers), (FP_RLS (Fg_mono f rfl) (Fg_mono g rfl) h_rulen h_RLS)⟩, LIC_F nn (Fg_mono f rfl) (Fg_mono g rfl) gC, LID_F nn (Fg_mono f rfl) (Fg_mono g rfl) gD, LIE_F nn (Fg_mono f rfl) (Fg_mono g rfl) gE, LIF_F nn (Fg_mono f rfl) (Fg_mono g rfl) gF, LIG_F nn (Fg_mono f rfl) (Fg_mono g rfl) gG, LIH_F nn (Fg_mono f rfl) (Fg_mono g rfl) gH, LII_F nn (Fg_mono f rfl) (Fg_mono g rfl) gI, LIJ_F nn (Fg_mono f rfl) (Fg_mono g rfl) gJ, LIK_F nn (Fg_mono f rfl) (Fg_mono g rfl) gK⟩
theorem li_trim (c1 : -2147483648 ≤ x1 ∧ x1 ≤ 2147483647) (h : LIQ n M K) (hn : n < 512) : oK2 cI (qf_L_trim 20000 x1 M) (qf_X18_trim 20000 x1 K) (fun M' K' => LIQ (n + 1) M' K') := by
  obtain ⟨g0, gA, gB, gC, gD, gE, gF, gG, gH, gI, gJ, gK⟩ := h
  obtain ⟨h_built, h_time, h_ltime, h_BND⟩ := id g0
  obtain ⟨h_textn, h_textc, h_factn, h_facts, h_factd, h_rulen, h_answers, h_RLS⟩ := id gB
  have nn : n ≤ n + 1 := by omega
  obtain ⟨n_0, n_1, n_2, n_3, n_4⟩ := id h_BND
  refine li_mk (op_trim (c1 := c1) (h_built := h_built) (h_textn := h_textn) (h_textc := h_textc)) (fr_L_trim Fg_refl) (fr_X18_trim Fg_refl) qP_tt qP_tt (fun M' K' hT f g hX hY => ?_)
  obtain ⟨t_textn, t_textc⟩ := hT
  exact ⟨LI0_F nn (Fg_mono f rfl) (Fg_mono g rfl) g0, LIA_F nn (Fg_mono f rfl) (Fg_mono g rfl) gA, ⟨t_textn, t_textc, (R_factn_x (M := M) (K := K) (f 735 8 0 rfl) (g 2184 2 0 rfl) h_factn), (R_facts_x (M := M) (K := K) (f 735 8 0 rfl) (fun i j => Fg_v (a := 754) (j := i) f rfl rfl) (fun i j => Fg_v (a := 755) (j := i) f rfl rfl) (fun i j => Fg_v (a := 2186) (j := i) g rfl rfl) (fun i j => Fg_v (a := 2187) (j := i) g rfl rfl) h_facts), (R_factd_x (M := M) (K := K) (f 735 8 0 rfl) (fun i j => Fg_v (a := 754) (j := i) f rfl rfl) h_factd), (R_rulen_x (M := M) (K := K) (f 735 0 0 rfl) (f 735 1 0 rfl) (g 2184 5 0 rfl) (g 2184 18 0 rfl) h_rulen), (R_answers_x (M := M) (K := K) (f 735 0 0 rfl) (f 735 1 0 rfl) (fun i j => Fg_v (a := 740) (j := i) f rfl rfl) (fun i j => Fg_v (a := 2198) (j := i) g rfl rfl) (fun i j => Fg_v (a := 2199) (j := i) g rfl rfl) (fun i j => Fg_v (a := 2200) (j := i) g rfl rfl) (fun i j => Fg_v (a := 2201) (j := i) g rfl rfl) (fun i j => Fg_v (a := 2202) (j := i) g rfl rfl) (fun i j => Fg_v (a := 2203) (j := i) g rfl rfl) (fun i j => Fg_v (a := 2204) (j := i) g rfl rfl) h_answers), (FP_RLS (Fg_mono f rfl) (Fg_mono g rfl) h_rulen h_RLS)⟩, LIC_F nn (Fg_mono f rfl) (Fg_mono g rfl) gC, LID_F nn (Fg_mono f rfl) (Fg_mono g rfl) gD, LIE_F nn (Fg_mono f rfl) (Fg_mono g rfl) gE, LIF_F nn (Fg_mono f rfl) (Fg_mono g rfl) gF, LIG_F nn (Fg_mono f rfl) (Fg_mono g rfl) gG, LIH_F nn (Fg_mono f rfl) (Fg_mono g rfl) gH, LII_F nn (Fg_mono f rfl) (Fg_mono g rfl) gI, LIJ_F nn (Fg_mono f rfl) (Fg_mono g rfl) gJ, LIK_F nn (Fg_mono f rfl) (Fg_mono g rfl) gK⟩
theorem li_fact (hx : i64r x) (h : LIQ n M K) (hn : n < 512) : oK2 cI (qf_L_fact 20000 x v M) (qf_X18_fact 20000 x v K) (fun M' K' => LIQ (n + 1) M' K') := by
  obtain ⟨g0, gA, gB, gC, gD, gE, gF, gG, gH, gI, gJ, gK⟩ := h
  obtain ⟨h_built, h_time, h_ltime, h_BND⟩ := id g0
  obtain ⟨h_textn, h_textc, h_factn, h_facts, h_factd, h_rulen, h_answers, h_RLS⟩ := id gB
  have nn : n ≤ n + 1 := by omega
  obtain ⟨n_0, n_1, n_2, n_3, n_4⟩ := id h_BND
  refine li_mk (op_fact (h_factn := h_factn) (h_facts := h_facts) (h_factd := h_factd) (hx := hx)) (fr_L_fact Fg_refl) (fr_X18_fact Fg_refl) qP_tt qP_tt (fun M' K' hT f g hX hY => ?_)
  obtain ⟨t_factn, t_facts, t_factd⟩ := hT
  exact ⟨LI0_F nn (Fg_mono f rfl) (Fg_mono g rfl) g0, LIA_F nn (Fg_mono f rfl) (Fg_mono g rfl) gA, ⟨(R_textn_x (M := M) (K := K) (f 727 1 0 rfl) (g 2184 1 0 rfl) h_textn), (R_textc_x (M := M) (K := K) (f 727 1 0 rfl) (fun i j => Fg_v (a := 728) (j := i) f rfl rfl) (fun i j => Fg_v (a := 2185) (j := i) g rfl rfl) h_textc), t_factn, t_facts, t_factd, (R_rulen_x (M := M) (K := K) (f 735 0 0 rfl) (f 735 1 0 rfl) (g 2184 5 0 rfl) (g 2184 18 0 rfl) h_rulen), (R_answers_x (M := M) (K := K) (f 735 0 0 rfl) (f 735 1 0 rfl) (fun i j => Fg_v (a := 740) (j := i) f rfl rfl) (fun i j => Fg_v (a := 2198) (j := i) g rfl rfl) (fun i j => Fg_v (a := 2199) (j := i) g rfl rfl) (fun i j => Fg_v (a := 2200) (j := i) g rfl rfl) (fun i j => Fg_v (a := 2201) (j := i) g rfl rfl) (fun i j => Fg_v (a := 2202) (j := i) g rfl rfl) (fun i j => Fg_v (a := 2203) (j := i) g rfl rfl) (fun i j => Fg_v (a := 2204) (j := i) g rfl rfl) h_answers), (FP_RLS (Fg_mono f rfl) (Fg_mono g rfl) h_rulen h_RLS)⟩, LIC_F nn (Fg_mono f rfl) (Fg_mono g rfl) gC, LID_F nn (Fg_mono f rfl) (Fg_mono g rfl) gD, LIE_F nn (Fg_mono f rfl) (Fg_mono g rfl) gE, LIF_F nn (Fg_mono f rfl) (Fg_mono g rfl) gF, LIG_F nn (Fg_mono f rfl) (Fg_mono g rfl) gG, LIH_F nn (Fg_mono f rfl) (Fg_mono g rfl) gH, LII_F nn (Fg_mono f rfl) (Fg_mono g rfl) gI, LIJ_F nn (Fg_mono f rfl) (Fg_mono g rfl) gJ, LIK_F nn (Fg_mono f rfl) (Fg_mono g rfl) gK⟩
end LIc8j_d0_ops
