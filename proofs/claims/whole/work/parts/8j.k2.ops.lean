/-! ===== the law between two calls (wip/tools/q/genli.py) ===== -/
section LIc8j_k2_ops
variable {M K N W : qm} {n x v y z i1 i2 i3 i4 i5 x1 x2 x3 x4 x5 x6 day : Int}
theorem li_block  (h : LIQ n M K) (hn : n < 512) : oK2 cI (qf_L_block 20000 x1 M) (qf_X18_block 20000 x1 K) (fun M' K' => LIQ (n + 1) M' K') := by
  obtain ⟨g0, gA, gB, gC, gD, gE, gF, gG, gH, gI, gJ, gK⟩ := h
  obtain ⟨h_built, h_time, h_ltime, h_BND⟩ := id g0
  obtain ⟨h_blocks, h_kinds, h_pq, h_safe, h_outs, h_hand, h_wire, h_row, h_bound, h_boundz, h_failed, h_rests, h_sorted⟩ := id gI
  have nn : n ≤ n + 1 := by omega
  obtain ⟨n_0, n_1, n_2, n_3, n_4⟩ := id h_BND
  refine li_mk (op_block (h_built := h_built) (h_blocks := h_blocks) (h_kinds := h_kinds) (h_wire := h_wire) (h_bound := h_bound) (h_boundz := h_boundz)) (fr_L_block Fg_refl) (fr_X18_block Fg_refl) qP_tt qP_tt (fun M' K' hT f g hX hY => ?_)
  obtain ⟨t_blocks, t_kinds, t_wire, t_bound, t_boundz, t_x5⟩ := hT
  exact ⟨LI0_F nn (Fg_mono f rfl) (Fg_mono g rfl) g0, LIA_F nn (Fg_mono f rfl) (Fg_mono g rfl) gA, LIB_F nn (Fg_mono f rfl) (Fg_mono g rfl) gB, LIC_F nn (Fg_mono f rfl) (Fg_mono g rfl) gC, LID_F nn (Fg_mono f rfl) (Fg_mono g rfl) gD, LIE_F nn (Fg_mono f rfl) (Fg_mono g rfl) gE, LIF_F nn (Fg_mono f rfl) (Fg_mono g rfl) gF, LIG_F nn (Fg_mono f rfl) (Fg_mono g rfl) gG, LIH_F nn (Fg_mono f rfl) (Fg_mono g rfl) gH, ⟨t_blocks, t_kinds, (R_pq_x (M := M) (K := K) (fun i j => Fg_v (a := 1005) (j := i) f rfl rfl) (fun i j => Fg_v (a := 1006) (j := i) f rfl rfl) (fun i j => Fg_v (a := 2237) (j := i) g rfl rfl) (fun i j => Fg_v (a := 2238) (j := i) g rfl rfl) h_pq), (R_safe_x (M := M) (K := K) (fun i j => Fg_v (a := 1007) (j := i) f rfl rfl) (fun i j => Fg_v (a := 2239) (j := i) g rfl rfl) h_safe), (R_outs_x (M := M) (K := K) (fun i j => Fg_v (a := 1049) (j := i) f rfl rfl) (fun i j => Fg_v (a := 1050) (j := i) f rfl rfl) (fun i j => Fg_v (a := 2242) (j := i) g rfl rfl) (fun i j => Fg_v (a := 2243) (j := i) g rfl rfl) (fun i j => Fg_v (a := 2244) (j := i) g rfl rfl) h_outs), (R_hand_x (M := M) (K := K) (fun i j => Fg_v (a := 1132) (j := i) f rfl rfl) (fun i j => Fg_v (a := 1133) (j := i) f rfl rfl) (fun i j => Fg_v (a := 2245) (j := i) g rfl rfl) (fun i j => Fg_v (a := 2246) (j := i) g rfl rfl) h_hand), t_wire, (R_row_x (M := M) (K := K) (fun i j => Fg_v (a := 1091) (j := i) f rfl rfl) (fun i j => Fg_v (a := 2241) (j := i) g rfl rfl) h_row), t_bound, t_boundz, (R_failed_x (M := M) (K := K) (fun i j => Fg_v (a := 1138) (j := i) f rfl rfl) (fun i j => Fg_v (a := 2251) (j := i) g rfl rfl) h_failed), (R_rests_x (M := M) (K := K) (f 1003 18 0 rfl) (g 2235 18 0 rfl) h_rests), (blk_sorted h_sorted t_x5 (fun i j => Fg_v f rfl rfl) (fun i j => Fg_v f rfl rfl))⟩, LIJ_F nn (Fg_mono f rfl) (Fg_mono g rfl) gJ, LIK_F nn (Fg_mono f rfl) (Fg_mono g rfl) gK⟩
theorem li_bind (c1 : -2147483648 ≤ x1 ∧ x1 ≤ 2147483647) (c2 : -2147483648 ≤ x2 ∧ x2 ≤ 2147483647) (h : LIQ n M K) (hn : n < 512) : oK2 cI (qf_L_bind 20000 x1 x2 M) (qf_X18_bind 20000 x1 x2 K) (fun M' K' => LIQ (n + 1) M' K') := by
  obtain ⟨g0, gA, gB, gC, gD, gE, gF, gG, gH, gI, gJ, gK⟩ := h
  obtain ⟨h_built, h_time, h_ltime, h_BND⟩ := id g0
  obtain ⟨h_blocks, h_kinds, h_pq, h_safe, h_outs, h_hand, h_wire, h_row, h_bound, h_boundz, h_failed, h_rests, h_sorted⟩ := id gI
  have nn : n ≤ n + 1 := by omega
  obtain ⟨n_0, n_1, n_2, n_3, n_4⟩ := id h_BND
  refine li_mk (op_bind (c1 := c1) (c2 := c2) (h_built := h_built) (h_blocks := h_blocks) (h_bound := h_bound)) (fr_L_bind Fg_refl) (fr_X18_bind Fg_refl) qP_tt bi_K (fun M' K' hT f g hX hY => ?_)
  have t_bound := hT
  obtain ⟨s, hy, es⟩ := hY
  rw [es] at hy
  exact ⟨LI0_F nn (Fg_mono f rfl) (Fg_mono g rfl) g0, LIA_F nn (Fg_mono f rfl) (Fg_mono g rfl) gA, LIB_F nn (Fg_mono f rfl) (Fg_mono g rfl) gB, LIC_F nn (Fg_mono f rfl) (Fg_mono g rfl) gC, LID_F nn (Fg_mono f rfl) (Fg_mono g rfl) gD, LIE_F nn (Fg_mono f rfl) (Fg_mono g rfl) gE, LIF_F nn (Fg_mono f rfl) (Fg_mono g rfl) gF, LIG_F nn (Fg_mono f rfl) (Fg_mono g rfl) gG, LIH_F nn (Fg_mono f rfl) (Fg_mono g rfl) gH, ⟨(R_blocks_x (M := M) (K := K) (f 1003 0 0 rfl) (g 2235 0 0 rfl) h_blocks), (R_kinds_x (M := M) (K := K) (fun i j => Fg_v (a := 1004) (j := i) f rfl rfl) (fun i j => Fg_v (a := 2236) (j := i) g rfl rfl) h_kinds), (R_pq_x (M := M) (K := K) (fun i j => Fg_v (a := 1005) (j := i) f rfl rfl) (fun i j => Fg_v (a := 1006) (j := i) f rfl rfl) (fun i j => Fg_v (a := 2237) (j := i) g rfl rfl) (fun i j => Fg_v (a := 2238) (j := i) g rfl rfl) h_pq), (R_safe_x (M := M) (K := K) (fun i j => Fg_v (a := 1007) (j := i) f rfl rfl) (fun i j => Fg_v (a := 2239) (j := i) g rfl rfl) h_safe), (R_outs_x (M := M) (K := K) (fun i j => Fg_v (a := 1049) (j := i) f rfl rfl) (fun i j => Fg_v (a := 1050) (j := i) f rfl rfl) (fun i j => Fg_v (a := 2242) (j := i) g rfl rfl) (fun i j => Fg_v (a := 2243) (j := i) g rfl rfl) (fun i j => Fg_v (a := 2244) (j := i) g rfl rfl) h_outs), (R_hand_x (M := M) (K := K) (fun i j => Fg_v (a := 1132) (j := i) f rfl rfl) (fun i j => Fg_v (a := 1133) (j := i) f rfl rfl) (fun i j => Fg_v (a := 2245) (j := i) g rfl rfl) (fun i j => Fg_v (a := 2246) (j := i) g rfl rfl) h_hand), (R_wire_x (M := M) (K := K) (f 1003 0 0 rfl) (fun i j => Fg_v (a := 1008) (j := i) f rfl rfl) (fun i j => Fg_v (a := 2240) (j := i) g rfl rfl) h_wire), (R_row_x (M := M) (K := K) (fun i j => Fg_v (a := 1091) (j := i) f rfl rfl) (fun i j => Fg_v (a := 2241) (j := i) g rfl rfl) h_row), t_bound, (boundz_y (f 1003 0 0 rfl) h_blocks h_boundz hy), (R_failed_x (M := M) (K := K) (fun i j => Fg_v (a := 1138) (j := i) f rfl rfl) (fun i j => Fg_v (a := 2251) (j := i) g rfl rfl) h_failed), (R_rests_x (M := M) (K := K) (f 1003 18 0 rfl) (g 2235 18 0 rfl) h_rests), (R_sorted_x (M := M) (K := K) (f 1003 0 0 rfl) (f 1003 13 0 rfl) (f 1003 14 0 rfl) (fun i j => Fg_v (a := 1004) (j := i) f rfl rfl) (fun i j => Fg_v (a := 1008) (j := i) f rfl rfl) (fun i j => Fg_v (a := 1136) (j := i) f rfl rfl) (fun i j => Fg_v (a := 1137) (j := i) f rfl rfl) h_sorted)⟩, LIJ_F nn (Fg_mono f rfl) (Fg_mono g rfl) gJ, LIK_F nn (Fg_mono f rfl) (Fg_mono g rfl) gK⟩
theorem li_point (c1 : -2147483648 ≤ x1 ∧ x1 ≤ 2147483647) (c2 : -2147483648 ≤ x2 ∧ x2 ≤ 2147483647) (h : LIQ n M K) (hn : n < 512) : oK2 cI (qf_L_point 20000 x1 x2 M) (qf_X18_point 20000 x1 x2 K) (fun M' K' => LIQ (n + 1) M' K') := by
  obtain ⟨g0, gA, gB, gC, gD, gE, gF, gG, gH, gI, gJ, gK⟩ := h
  obtain ⟨h_built, h_time, h_ltime, h_BND⟩ := id g0
  have h_MXI := gH
  unfold LIH at h_MXI
  have nn : n ≤ n + 1 := by omega
  obtain ⟨n_0, n_1, n_2, n_3, n_4⟩ := id h_BND
  obtain ⟨z_1, z_2, z_3, h_mfault, h_muntil, h_mnow, h_mvalue, h_mzones, h_mzonep, h_mrows, h_mrow, z_4, ⟨h_mst, h_evn, h_mevent, ⟨h_bqueued, h_baddr, h_bbusy, h_bsaying, h_bcounts, h_banswer, h_bqueue, h_bext⟩, h_points⟩, z_5⟩ := id h_MXI
  refine li_mk (op_point (c1 := c1) (c2 := c2) (h_built := h_built) (h_points := h_points)) (fr_L_point Fg_refl) (fr_X18_point Fg_refl) qP_tt qP_tt (fun M' K' hT f g hX hY => ?_)
  have t_points := hT
  exact ⟨LI0_F nn (Fg_mono f rfl) (Fg_mono g rfl) g0, LIA_F nn (Fg_mono f rfl) (Fg_mono g rfl) gA, LIB_F nn (Fg_mono f rfl) (Fg_mono g rfl) gB, LIC_F nn (Fg_mono f rfl) (Fg_mono g rfl) gC, LID_F nn (Fg_mono f rfl) (Fg_mono g rfl) gD, LIE_F nn (Fg_mono f rfl) (Fg_mono g rfl) gE, LIF_F nn (Fg_mono f rfl) (Fg_mono g rfl) gF, LIG_F nn (Fg_mono f rfl) (Fg_mono g rfl) gG, (FP_MX2 nn (Fg_mono f rfl) (Fg_mono g rfl) h_MXI (R_mfault_x (M := M) (K := K) (fun i j => Fg_v (a := 1174) (j := i) f rfl rfl) (fun i j => Fg_v (a := 2210) (j := i) g rfl rfl) h_mfault) (R_muntil_x (M := M) (K := K) (fun i j => Fg_v (a := 1175) (j := i) f rfl rfl) (fun i j => Fg_v (a := 2211) (j := i) g rfl rfl) h_muntil) (R_mvalue_x (M := M) (K := K) (fun i j => Fg_v (a := 1173) (j := i) f rfl rfl) (fun i j => Fg_v (a := 2209) (j := i) g rfl rfl) h_mvalue) t_points), LII_F nn (Fg_mono f rfl) (Fg_mono g rfl) gI, LIJ_F nn (Fg_mono f rfl) (Fg_mono g rfl) gJ, LIK_F nn (Fg_mono f rfl) (Fg_mono g rfl) gK⟩
theorem li_address (c1 : -2147483648 ≤ x1 ∧ x1 ≤ 2147483647) (c2 : -2147483648 ≤ x2 ∧ x2 ≤ 2147483647) (h : LIQ n M K) (hn : n < 512) : oK2 cI (qf_L_address 20000 x1 x2 M) (qf_X18_address 20000 x1 x2 K) (fun M' K' => LIQ (n + 1) M' K') := by
  obtain ⟨g0, gA, gB, gC, gD, gE, gF, gG, gH, gI, gJ, gK⟩ := h
  obtain ⟨h_built, h_time, h_ltime, h_BND⟩ := id g0
  have h_MXI := gH
  unfold LIH at h_MXI
  obtain ⟨h_BUS, h_blisten⟩ := id gJ
  have nn : n ≤ n + 1 := by omega
  obtain ⟨n_0, n_1, n_2, n_3, n_4⟩ := id h_BND
  obtain ⟨z_1, z_2, z_3, h_mfault, h_muntil, h_mnow, h_mvalue, h_mzones, h_mzonep, h_mrows, h_mrow, z_4, ⟨h_mst, h_evn, h_mevent, ⟨h_bqueued, h_baddr, h_bbusy, h_bsaying, h_bcounts, h_banswer, h_bqueue, h_bext⟩, h_points⟩, z_5⟩ := id h_MXI
  refine li_mk (op_address (c1 := c1) (c2 := c2) (h_built := h_built) (h_baddr := h_baddr) (h_bbusy := h_bbusy) (h_bqueued := h_bqueued) (h_bsaying := h_bsaying) (h_bcounts := h_bcounts)) (fr_L_address Fg_refl) (fr_X18_address Fg_refl) ad_L_address qP_tt (fun M' K' hT f g hX hY => ?_)
  obtain ⟨t_baddr, t_bbusy, t_bqueued, t_bsaying, t_bcounts⟩ := hT
  obtain ⟨r, hx, er⟩ := hX
  rw [er] at hx
  obtain ⟨u1, u2, u3⟩ := bq_col (mx_bq h_MXI).1 (fun i j hj => hx 1140 i j (by omega) (by decide)) (fun i j => Fg_v f rfl rfl) (fun i j => Fg_v f rfl rfl) (fun i j => Fg_v g rfl rfl) (fun i j => Fg_v g rfl rfl) (fun i j => Fg_v g rfl rfl)
  have bq : BQ M' K' := ⟨t_bqueued, t_baddr, t_bbusy, t_bsaying, t_bcounts, u1, u2, u3⟩
  exact ⟨LI0_F nn (Fg_mono f rfl) (Fg_mono g rfl) g0, LIA_F nn (Fg_mono f rfl) (Fg_mono g rfl) gA, LIB_F nn (Fg_mono f rfl) (Fg_mono g rfl) gB, LIC_F nn (Fg_mono f rfl) (Fg_mono g rfl) gC, LID_F nn (Fg_mono f rfl) (Fg_mono g rfl) gD, LIE_F nn (Fg_mono f rfl) (Fg_mono g rfl) gE, LIF_F nn (Fg_mono f rfl) (Fg_mono g rfl) gF, LIG_F nn (Fg_mono f rfl) (Fg_mono g rfl) gG, (FP_MX3 nn (Fg_mono f rfl) (Fg_mono g rfl) h_MXI bq), LII_F nn (Fg_mono f rfl) (Fg_mono g rfl) gI, ⟨(FP_BUSQ (Fg_mono f rfl) (Fg_mono g rfl) h_BUS bq), (R_blisten_x (M := M) (K := K) (fun i j => Fg_v (a := 1167) (j := i) f rfl rfl) (fun i j => Fg_v (a := 2256) (j := i) g rfl rfl) h_blisten)⟩, LIK_F nn (Fg_mono f rfl) (Fg_mono g rfl) gK⟩
theorem li_listen (b3 : x3 = 0 ∨ x3 = 1) (c1 : -2147483648 ≤ x1 ∧ x1 ≤ 2147483647) (c2 : -2147483648 ≤ x2 ∧ x2 ≤ 2147483647) (c3 : -2147483648 ≤ x3 ∧ x3 ≤ 2147483647) (h : LIQ n M K) (hn : n < 512) : oK2 cB (qf_L_listen 20000 x1 x2 x3 M) (qf_X18_listen 20000 x1 x2 x3 K) (fun M' K' => LIQ (n + 1) M' K') := by
  obtain ⟨g0, gA, gB, gC, gD, gE, gF, gG, gH, gI, gJ, gK⟩ := h
  obtain ⟨h_built, h_time, h_ltime, h_BND⟩ := id g0
  obtain ⟨h_BUS, h_blisten⟩ := id gJ
  have nn : n ≤ n + 1 := by omega
  obtain ⟨n_0, n_1, n_2, n_3, n_4⟩ := id h_BND
  refine li_mk (op_listen (b3 := b3) (c1 := c1) (c2 := c2) (c3 := c3) (h_built := h_built) (h_blisten := h_blisten)) (fr_L_listen Fg_refl) (fr_X18_listen Fg_refl) qP_tt qP_tt (fun M' K' hT f g hX hY => ?_)
  have t_blisten := hT
  exact ⟨LI0_F nn (Fg_mono f rfl) (Fg_mono g rfl) g0, LIA_F nn (Fg_mono f rfl) (Fg_mono g rfl) gA, LIB_F nn (Fg_mono f rfl) (Fg_mono g rfl) gB, LIC_F nn (Fg_mono f rfl) (Fg_mono g rfl) gC, LID_F nn (Fg_mono f rfl) (Fg_mono g rfl) gD, LIE_F nn (Fg_mono f rfl) (Fg_mono g rfl) gE, LIF_F nn (Fg_mono f rfl) (Fg_mono g rfl) gF, LIG_F nn (Fg_mono f rfl) (Fg_mono g rfl) gG, LIH_F nn (Fg_mono f rfl) (Fg_mono g rfl) gH, LII_F nn (Fg_mono f rfl) (Fg_mono g rfl) gI, ⟨(FP_BUSL (Fg_mono f rfl) (Fg_mono g rfl) h_BUS t_blisten), t_blisten⟩, LIK_F nn (Fg_mono f rfl) (Fg_mono g rfl) gK⟩
theorem li_busy (b2 : x2 = 0 ∨ x2 = 1) (c1 : -2147483648 ≤ x1 ∧ x1 ≤ 2147483647) (c2 : -2147483648 ≤ x2 ∧ x2 ≤ 2147483647) (h : LIQ n M K) (hn : n < 512) : oK2 cB (qf_L_busy 20000 x1 x2 M) (qf_X18_busy 20000 x1 x2 K) (fun M' K' => LIQ (n + 1) M' K') := by
  obtain ⟨g0, gA, gB, gC, gD, gE, gF, gG, gH, gI, gJ, gK⟩ := h
  obtain ⟨h_built, h_time, h_ltime, h_BND⟩ := id g0
  have h_MXI := gH
  unfold LIH at h_MXI
  obtain ⟨h_BUS, h_blisten⟩ := id gJ
  have nn : n ≤ n + 1 := by omega
  obtain ⟨n_0, n_1, n_2, n_3, n_4⟩ := id h_BND
  obtain ⟨z_1, z_2, z_3, h_mfault, h_muntil, h_mnow, h_mvalue, h_mzones, h_mzonep, h_mrows, h_mrow, z_4, ⟨h_mst, h_evn, h_mevent, ⟨h_bqueued, h_baddr, h_bbusy, h_bsaying, h_bcounts, h_banswer, h_bqueue, h_bext⟩, h_points⟩, z_5⟩ := id h_MXI
  refine li_mk (op_busy (b2 := b2) (c1 := c1) (c2 := c2) (h_built := h_built) (h_baddr := h_baddr) (h_bbusy := h_bbusy) (h_bqueued := h_bqueued) (h_bsaying := h_bsaying) (h_bcounts := h_bcounts)) (fr_L_busy Fg_refl) (fr_X18_busy Fg_refl) ad_L_busy qP_tt (fun M' K' hT f g hX hY => ?_)
  obtain ⟨t_baddr, t_bbusy, t_bqueued, t_bsaying, t_bcounts⟩ := hT
  obtain ⟨r, hx, er⟩ := hX
  rw [er] at hx
  obtain ⟨u1, u2, u3⟩ := bq_col (mx_bq h_MXI).1 (fun i j hj => hx 1140 i j (by omega) (by decide)) (fun i j => Fg_v f rfl rfl) (fun i j => Fg_v f rfl rfl) (fun i j => Fg_v g rfl rfl) (fun i j => Fg_v g rfl rfl) (fun i j => Fg_v g rfl rfl)
  have bq : BQ M' K' := ⟨t_bqueued, t_baddr, t_bbusy, t_bsaying, t_bcounts, u1, u2, u3⟩
  exact ⟨LI0_F nn (Fg_mono f rfl) (Fg_mono g rfl) g0, LIA_F nn (Fg_mono f rfl) (Fg_mono g rfl) gA, LIB_F nn (Fg_mono f rfl) (Fg_mono g rfl) gB, LIC_F nn (Fg_mono f rfl) (Fg_mono g rfl) gC, LID_F nn (Fg_mono f rfl) (Fg_mono g rfl) gD, LIE_F nn (Fg_mono f rfl) (Fg_mono g rfl) gE, LIF_F nn (Fg_mono f rfl) (Fg_mono g rfl) gF, LIG_F nn (Fg_mono f rfl) (Fg_mono g rfl) gG, (FP_MX3 nn (Fg_mono f rfl) (Fg_mono g rfl) h_MXI bq), LII_F nn (Fg_mono f rfl) (Fg_mono g rfl) gI, ⟨(FP_BUSQ (Fg_mono f rfl) (Fg_mono g rfl) h_BUS bq), (R_blisten_x (M := M) (K := K) (fun i j => Fg_v (a := 1167) (j := i) f rfl rfl) (fun i j => Fg_v (a := 2256) (j := i) g rfl rfl) h_blisten)⟩, LIK_F nn (Fg_mono f rfl) (Fg_mono g rfl) gK⟩
theorem li_send (b4 : x4 = 0 ∨ x4 = 1) (h : LIQ n M K) (hn : n < 512) : oK2 cI (qf_L_send 20000 x1 x2 x3 x4 x5 x6 M) (qf_X18_send 20000 x1 x2 x3 x4 x5 x6 K) (fun M' K' => LIQ (n + 1) M' K') := by
  obtain ⟨g0, gA, gB, gC, gD, gE, gF, gG, gH, gI, gJ, gK⟩ := h
  obtain ⟨h_built, h_time, h_ltime, h_BND⟩ := id g0
  have h_MXI := gH
  unfold LIH at h_MXI
  obtain ⟨h_BUS, h_blisten⟩ := id gJ
  have nn : n ≤ n + 1 := by omega
  obtain ⟨n_0, n_1, n_2, n_3, n_4⟩ := id h_BND
  refine li_mk (op_sendB (b4 := b4) (h_built := h_built) (hB := (mx_bq h_MXI).1)) (fr_L_send Fg_refl) (fr_X18_send Fg_refl) qP_tt qP_tt (fun M' K' hT f g hX hY => ?_)
  have t_x0 := hT
  exact ⟨LI0_F nn (Fg_mono f rfl) (Fg_mono g rfl) g0, LIA_F nn (Fg_mono f rfl) (Fg_mono g rfl) gA, LIB_F nn (Fg_mono f rfl) (Fg_mono g rfl) gB, LIC_F nn (Fg_mono f rfl) (Fg_mono g rfl) gC, LID_F nn (Fg_mono f rfl) (Fg_mono g rfl) gD, LIE_F nn (Fg_mono f rfl) (Fg_mono g rfl) gE, LIF_F nn (Fg_mono f rfl) (Fg_mono g rfl) gF, LIG_F nn (Fg_mono f rfl) (Fg_mono g rfl) gG, (FP_MX3 nn (Fg_mono f rfl) (Fg_mono g rfl) h_MXI t_x0), LII_F nn (Fg_mono f rfl) (Fg_mono g rfl) gI, ⟨(FP_BUSQ (Fg_mono f rfl) (Fg_mono g rfl) h_BUS t_x0), (R_blisten_x (M := M) (K := K) (fun i j => Fg_v (a := 1167) (j := i) f rfl rfl) (fun i j => Fg_v (a := 2256) (j := i) g rfl rfl) h_blisten)⟩, LIK_F nn (Fg_mono f rfl) (Fg_mono g rfl) gK⟩
end LIc8j_k2_ops
