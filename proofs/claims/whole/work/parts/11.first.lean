theorem dX11_isWithin_0 : decode cX11_isWithin 0 = .ok (.iload_n 0, 1) := by decide +kernel
theorem dX11_isWithin_1 : decode cX11_isWithin 1 = .ok (.iload_n 1, 1) := by decide +kernel
theorem dX11_isWithin_2 : decode cX11_isWithin 2 = .ok (.if_icmp .lt 12, 3) := by decide +kernel
theorem dX11_isWithin_14 : decode cX11_isWithin 14 = .ok (.iconst 0, 1) := by decide +kernel
theorem dX11_isWithin_15 : decode cX11_isWithin 15 = .ok (.ireturn, 1) := by decide +kernel
theorem dX11_isWithin_5 : decode cX11_isWithin 5 = .ok (.iload_n 0, 1) := by decide +kernel
theorem dX11_isWithin_6 : decode cX11_isWithin 6 = .ok (.iload_n 2, 1) := by decide +kernel
theorem dX11_isWithin_7 : decode cX11_isWithin 7 = .ok (.if_icmp .gt 7, 3) := by decide +kernel
theorem dX11_isWithin_10 : decode cX11_isWithin 10 = .ok (.iconst 1, 1) := by decide +kernel
theorem dX11_isWithin_11 : decode cX11_isWithin 11 = .ok (.goto 4, 3) := by decide +kernel
theorem dX11_isOnPlan_0 : decode cX11_isOnPlan 0 = .ok (.iload_n 0, 1) := by decide +kernel
theorem dX11_isOnPlan_1 : decode cX11_isOnPlan 1 = .ok (.iconst 0, 1) := by decide +kernel
theorem dX11_isOnPlan_2 : decode cX11_isOnPlan 2 = .ok (.bipush 24, 2) := by decide +kernel
theorem dX11_isOnPlan_4 : decode cX11_isOnPlan 4 = .ok (.invokestatic 133, 3) := by decide +kernel
theorem dX11_isOnPlan_7 : decode cX11_isOnPlan 7 = .ok (.ifCond .eq 17, 3) := by decide +kernel
theorem dX11_isOnPlan_24 : decode cX11_isOnPlan 24 = .ok (.iconst 0, 1) := by decide +kernel
theorem dX11_isOnPlan_25 : decode cX11_isOnPlan 25 = .ok (.ireturn, 1) := by decide +kernel
theorem dX11_isOnPlan_10 : decode cX11_isOnPlan 10 = .ok (.iload_n 1, 1) := by decide +kernel
theorem dX11_isOnPlan_11 : decode cX11_isOnPlan 11 = .ok (.iconst 0, 1) := by decide +kernel
theorem dX11_isOnPlan_12 : decode cX11_isOnPlan 12 = .ok (.bipush 24, 2) := by decide +kernel
theorem dX11_isOnPlan_14 : decode cX11_isOnPlan 14 = .ok (.invokestatic 133, 3) := by decide +kernel
theorem dX11_isOnPlan_17 : decode cX11_isOnPlan 17 = .ok (.ifCond .eq 7, 3) := by decide +kernel
theorem dX11_isOnPlan_20 : decode cX11_isOnPlan 20 = .ok (.iconst 1, 1) := by decide +kernel
theorem dX11_isOnPlan_21 : decode cX11_isOnPlan 21 = .ok (.goto 4, 3) := by decide +kernel
theorem dX2_cellBeside_0 : decode cX2_cellBeside 0 = .ok (.iload_n 1, 1) := by decide +kernel
theorem dX2_cellBeside_1 : decode cX2_cellBeside 1 = .ok (.bipush 24, 2) := by decide +kernel
theorem dX2_cellBeside_3 : decode cX2_cellBeside 3 = .ok (.idiv, 1) := by decide +kernel
theorem dX2_cellBeside_4 : decode cX2_cellBeside 4 = .ok (.istore_n 3, 1) := by decide +kernel
theorem dX2_cellBeside_5 : decode cX2_cellBeside 5 = .ok (.iload_n 1, 1) := by decide +kernel
theorem dX2_cellBeside_6 : decode cX2_cellBeside 6 = .ok (.bipush 24, 2) := by decide +kernel
theorem dX2_cellBeside_8 : decode cX2_cellBeside 8 = .ok (.irem, 1) := by decide +kernel
theorem dX2_cellBeside_9 : decode cX2_cellBeside 9 = .ok (.istore 4, 2) := by decide +kernel
theorem dX2_cellBeside_11 : decode cX2_cellBeside 11 = .ok (.iload_n 2, 1) := by decide +kernel
theorem dX2_cellBeside_12 : decode cX2_cellBeside 12 = .ok (.tableswitch 71 0 2 #[28, 43, 56], 28) := by decide +kernel
theorem dX2_cellBeside_83 : decode cX2_cellBeside 83 = .ok (.iload 4, 2) := by decide +kernel
theorem dX2_cellBeside_85 : decode cX2_cellBeside 85 = .ok (.ifCond .le 9, 3) := by decide +kernel
theorem dX2_cellBeside_94 : decode cX2_cellBeside 94 = .ok (.iconst (-1), 1) := by decide +kernel
theorem dX2_cellBeside_95 : decode cX2_cellBeside 95 = .ok (.ireturn, 1) := by decide +kernel
theorem dX2_cellBeside_88 : decode cX2_cellBeside 88 = .ok (.iload_n 1, 1) := by decide +kernel
theorem dX2_cellBeside_89 : decode cX2_cellBeside 89 = .ok (.iconst 1, 1) := by decide +kernel
theorem dX2_cellBeside_90 : decode cX2_cellBeside 90 = .ok (.isub, 1) := by decide +kernel
theorem dX2_cellBeside_91 : decode cX2_cellBeside 91 = .ok (.goto 4, 3) := by decide +kernel
theorem dX2_cellBeside_40 : decode cX2_cellBeside 40 = .ok (.iload_n 3, 1) := by decide +kernel
theorem dX2_cellBeside_41 : decode cX2_cellBeside 41 = .ok (.bipush 23, 2) := by decide +kernel
theorem dX2_cellBeside_43 : decode cX2_cellBeside 43 = .ok (.if_icmp .ge 10, 3) := by decide +kernel
theorem dX2_cellBeside_53 : decode cX2_cellBeside 53 = .ok (.iconst (-1), 1) := by decide +kernel
theorem dX2_cellBeside_54 : decode cX2_cellBeside 54 = .ok (.ireturn, 1) := by decide +kernel
theorem dX2_cellBeside_46 : decode cX2_cellBeside 46 = .ok (.iload_n 1, 1) := by decide +kernel
theorem dX2_cellBeside_47 : decode cX2_cellBeside 47 = .ok (.bipush 24, 2) := by decide +kernel
theorem dX2_cellBeside_49 : decode cX2_cellBeside 49 = .ok (.iadd, 1) := by decide +kernel
theorem dX2_cellBeside_50 : decode cX2_cellBeside 50 = .ok (.goto 4, 3) := by decide +kernel
theorem dX2_cellBeside_55 : decode cX2_cellBeside 55 = .ok (.iload_n 3, 1) := by decide +kernel
theorem dX2_cellBeside_56 : decode cX2_cellBeside 56 = .ok (.ifCond .le 10, 3) := by decide +kernel
theorem dX2_cellBeside_66 : decode cX2_cellBeside 66 = .ok (.iconst (-1), 1) := by decide +kernel
theorem dX2_cellBeside_67 : decode cX2_cellBeside 67 = .ok (.ireturn, 1) := by decide +kernel
theorem dX2_cellBeside_59 : decode cX2_cellBeside 59 = .ok (.iload_n 1, 1) := by decide +kernel
theorem dX2_cellBeside_60 : decode cX2_cellBeside 60 = .ok (.bipush 24, 2) := by decide +kernel
theorem dX2_cellBeside_62 : decode cX2_cellBeside 62 = .ok (.isub, 1) := by decide +kernel
theorem dX2_cellBeside_63 : decode cX2_cellBeside 63 = .ok (.goto 4, 3) := by decide +kernel
theorem dX2_cellBeside_68 : decode cX2_cellBeside 68 = .ok (.iload 4, 2) := by decide +kernel
theorem dX2_cellBeside_70 : decode cX2_cellBeside 70 = .ok (.bipush 23, 2) := by decide +kernel
theorem dX2_cellBeside_72 : decode cX2_cellBeside 72 = .ok (.if_icmp .ge 9, 3) := by decide +kernel
theorem dX2_cellBeside_81 : decode cX2_cellBeside 81 = .ok (.iconst (-1), 1) := by decide +kernel
theorem dX2_cellBeside_82 : decode cX2_cellBeside 82 = .ok (.ireturn, 1) := by decide +kernel
theorem dX2_cellBeside_75 : decode cX2_cellBeside 75 = .ok (.iload_n 1, 1) := by decide +kernel
theorem dX2_cellBeside_76 : decode cX2_cellBeside 76 = .ok (.iconst 1, 1) := by decide +kernel
theorem dX2_cellBeside_77 : decode cX2_cellBeside 77 = .ok (.iadd, 1) := by decide +kernel
theorem dX2_cellBeside_78 : decode cX2_cellBeside 78 = .ok (.goto 4, 3) := by decide +kernel
theorem dX2_countRings_0 : decode cX2_countRings 0 = .ok (.iconst 0, 1) := by decide +kernel
theorem dX2_countRings_1 : decode cX2_countRings 1 = .ok (.istore_n 2, 1) := by decide +kernel
theorem dX2_countRings_2 : decode cX2_countRings 2 = .ok (.iconst 0, 1) := by decide +kernel
theorem dX2_countRings_3 : decode cX2_countRings 3 = .ok (.istore_n 3, 1) := by decide +kernel
theorem dX2_countRings_4 : decode cX2_countRings 4 = .ok (.iload_n 3, 1) := by decide +kernel
theorem dX2_countRings_5 : decode cX2_countRings 5 = .ok (.aload_n 0, 1) := by decide +kernel
theorem dX2_countRings_6 : decode cX2_countRings 6 = .ok (.getfield 139, 3) := by decide +kernel
theorem dX2_countRings_9 : decode cX2_countRings 9 = .ok (.if_icmp .ge 29, 3) := by decide +kernel
theorem dX2_countRings_12 : decode cX2_countRings 12 = .ok (.iload_n 2, 1) := by decide +kernel
theorem dX2_countRings_13 : decode cX2_countRings 13 = .ok (.aload_n 0, 1) := by decide +kernel
theorem dX2_countRings_14 : decode cX2_countRings 14 = .ok (.getfield 39, 3) := by decide +kernel
theorem dX2_countRings_17 : decode cX2_countRings 17 = .ok (.iload_n 3, 1) := by decide +kernel
theorem dX2_countRings_18 : decode cX2_countRings 18 = .ok (.aaload, 1) := by decide +kernel
theorem dX2_countRings_19 : decode cX2_countRings 19 = .ok (.iconst 0, 1) := by decide +kernel
theorem dX2_countRings_20 : decode cX2_countRings 20 = .ok (.iaload, 1) := by decide +kernel
theorem dX2_countRings_21 : decode cX2_countRings 21 = .ok (.iload_n 1, 1) := by decide +kernel
theorem dX2_countRings_22 : decode cX2_countRings 22 = .ok (.if_icmp .ne 7, 3) := by decide +kernel
theorem dX2_countRings_29 : decode cX2_countRings 29 = .ok (.iconst 0, 1) := by decide +kernel
theorem dX2_countRings_30 : decode cX2_countRings 30 = .ok (.iadd, 1) := by decide +kernel
theorem dX2_countRings_31 : decode cX2_countRings 31 = .ok (.istore_n 2, 1) := by decide +kernel
theorem dX2_countRings_32 : decode cX2_countRings 32 = .ok (.iinc 3 1, 3) := by decide +kernel
theorem dX2_countRings_35 : decode cX2_countRings 35 = .ok (.goto (-31), 3) := by decide +kernel
theorem dX2_countRings_25 : decode cX2_countRings 25 = .ok (.iconst 1, 1) := by decide +kernel
theorem dX2_countRings_26 : decode cX2_countRings 26 = .ok (.goto 4, 3) := by decide +kernel
theorem dX2_countRings_38 : decode cX2_countRings 38 = .ok (.iload_n 2, 1) := by decide +kernel
theorem dX2_countRings_39 : decode cX2_countRings 39 = .ok (.ireturn, 1) := by decide +kernel
theorem zl_X11_133 : zm_L zk_E RX11 133 yX11_isWithin (.code yX11_isWithin cX11_isWithin 3 (some .boolean)) 3 ∧ Cond.static yX11_isWithin ∈ zk_E.2.2.1 := ⟨⟨zk_b4 119 (by decide +kernel) rfl, zk_b1 1 (by decide +kernel) rfl, zk_b4 117 (by decide +kernel) rfl, by decide +kernel, by decide +kernel, by decide +kernel⟩, zk_b4 118 (by decide +kernel) rfl⟩
theorem zl_X2_139 : zm_F zk_E RX2 139 2 12 := ⟨RX2, TX2, 19, rfl, zk_i2, by decide, zk_b1 102 (by decide +kernel) rfl⟩
theorem zl_X2_39 : zm_F zk_E RX2 39 2 13 := ⟨RX2, TX2, 19, rfl, zk_i2, by decide, zk_b1 103 (by decide +kernel) rfl⟩
def zf_X11_isWithin (N : Nat) (i0 : Int32) (i1 : Int32) (i2 : Int32) (S : zm_S) : Option (Int32 × zm_S) := if i0 < i1 then some ((0 : Int32), S) else if i2 < i0 then some ((0 : Int32), S) else some ((1 : Int32), S)
theorem zt_X11_isWithin {l : Launch} {V : zm_V} {N : Nat} {S : zm_S} {out : (Int32 × zm_S)} {d : Nat} {i0 : Int32} {i1 : Int32} {i2 : Int32} (hd : 1 ≤ d) (h : zf_X11_isWithin N i0 i1 i2 S = some out) : zm_Met l zk_E V yX11_isWithin (.code yX11_isWithin cX11_isWithin 3 (some .boolean)) d [.int i0, .int i1, .int i2] S 0 0 (zo_i out) zo_x := by
  refine zm_of (by decide +kernel) (Nat.le_of_ble_eq_true rfl) ?_
  intro p e R s m args below meth c hRR hX hr hxt
  have hR : R.frames = d ∧ R.locals = 64 * d := by rw [hRR]; exact ⟨rfl, rfl⟩
  have hX : zm_X p R s m args meth c RX11 "isWithin" cX11_isWithin 3 zk_E V 0 0 := hX
  unfold zf_X11_isWithin at h
  refine zw_sub (lv' := [(0, .int i0), (1, .int i1), (2, .int i2)]) (List.forall_mem_cons.mpr ⟨rfl, (List.forall_mem_cons.mpr ⟨rfl, (List.forall_mem_cons.mpr ⟨rfl, zs_nil⟩)⟩)⟩) ?_
  refine zw_iload_n hX dX11_isWithin_0 rfl ?_
  refine zw_iload_n hX dX11_isWithin_1 rfl ?_
  refine zw_icmp_lt (tgt := 14) hX dX11_isWithin_2 (by decide) (fun c2 => ?_) (fun c2 => ?_)
  · rw [if_pos c2] at h
    refine zw_iconst (v := (0 : Int32)) hX dX11_isWithin_14 (by decide) ?_
    obtain rfl := Option.some.inj h
    exact zw_iret hX hr dX11_isWithin_15 rfl ⟨rfl, rfl⟩
  · rw [if_neg c2] at h
    refine zw_iload_n hX dX11_isWithin_5 rfl ?_
    refine zw_iload_n hX dX11_isWithin_6 rfl ?_
    refine zw_icmp_gt (tgt := 14) hX dX11_isWithin_7 (by decide) (fun c7 => ?_) (fun c7 => ?_)
    · rw [if_pos c7] at h
      refine zw_iconst (v := (0 : Int32)) hX dX11_isWithin_14 (by decide) ?_
      obtain rfl := Option.some.inj h
      exact zw_iret hX hr dX11_isWithin_15 rfl ⟨rfl, rfl⟩
    · rw [if_neg c7] at h
      refine zw_iconst (v := (1 : Int32)) hX dX11_isWithin_10 (by decide) ?_
      refine zw_goto (tgt := 15) hX dX11_isWithin_11 (by decide) ?_
      obtain rfl := Option.some.inj h
      exact zw_iret hX hr dX11_isWithin_15 rfl ⟨rfl, rfl⟩
def zf_X11_isOnPlan (N : Nat) (i0 : Int32) (i1 : Int32) (S : zm_S) : Option (Int32 × zm_S) := (zf_X11_isWithin N i0 (0 : Int32) (24 : Int32) S).bind (fun (v2, S1) => if v2 = 0 then some ((0 : Int32), S1) else (zf_X11_isWithin N i1 (0 : Int32) (24 : Int32) S1).bind (fun (v4, S3) => if v4 = 0 then some ((0 : Int32), S3) else some ((1 : Int32), S3)))
theorem zt_X11_isOnPlan {l : Launch} {V : zm_V} {N : Nat} {S : zm_S} {out : (Int32 × zm_S)} {d : Nat} {i0 : Int32} {i1 : Int32} (hd : 2 ≤ d) (h : zf_X11_isOnPlan N i0 i1 S = some out) : zm_Met l zk_E V yX11_isOnPlan (.code yX11_isOnPlan cX11_isOnPlan 2 (some .boolean)) d [.int i0, .int i1] S 0 0 (zo_i out) zo_x := by
  refine zm_of (by decide +kernel) (Nat.le_of_ble_eq_true rfl) ?_
  intro p e R s m args below meth c hRR hX hr hxt
  have hR : R.frames = d ∧ R.locals = 64 * d := by rw [hRR]; exact ⟨rfl, rfl⟩
  have hX : zm_X p R s m args meth c RX11 "isOnPlan" cX11_isOnPlan 2 zk_E V 0 0 := hX
  unfold zf_X11_isOnPlan at h
  refine zw_sub (lv' := [(0, .int i0), (1, .int i1)]) (List.forall_mem_cons.mpr ⟨rfl, (List.forall_mem_cons.mpr ⟨rfl, zs_nil⟩)⟩) ?_
  refine zw_iload_n hX dX11_isOnPlan_0 rfl ?_
  refine zw_iconst (v := (0 : Int32)) hX dX11_isOnPlan_1 (by decide) ?_
  refine zw_bipush (v := (24 : Int32)) hX dX11_isOnPlan_2 (by decide) ?_
  obtain ⟨⟨v2, S1⟩, g, h⟩ := zb_some h
  refine zc_Si (as := [.int i0, .int (0 : Int32), .int (24 : Int32)]) hX (zt_X11_isWithin (d := d - 1) (by omega) g) zl_X11_133 dX11_isOnPlan_4 ⟨rfl, rfl, by decide⟩ ⟨by omega, by omega⟩ ?_
  refine zw_if_eq (tgt := 24) hX dX11_isOnPlan_7 (by decide) (fun c7 => ?_) (fun c7 => ?_)
  · rw [if_pos c7] at h
    refine zw_iconst (v := (0 : Int32)) hX dX11_isOnPlan_24 (by decide) ?_
    obtain rfl := Option.some.inj h
    exact zw_iret hX hr dX11_isOnPlan_25 rfl ⟨rfl, rfl⟩
  · rw [if_neg c7] at h
    refine zw_iload_n hX dX11_isOnPlan_10 rfl ?_
    refine zw_iconst (v := (0 : Int32)) hX dX11_isOnPlan_11 (by decide) ?_
    refine zw_bipush (v := (24 : Int32)) hX dX11_isOnPlan_12 (by decide) ?_
    obtain ⟨⟨v4, S3⟩, g, h⟩ := zb_some h
    refine zc_Si (as := [.int i1, .int (0 : Int32), .int (24 : Int32)]) hX (zt_X11_isWithin (d := d - 1) (by omega) g) zl_X11_133 dX11_isOnPlan_14 ⟨rfl, rfl, by decide⟩ ⟨by omega, by omega⟩ ?_
    refine zw_if_eq (tgt := 24) hX dX11_isOnPlan_17 (by decide) (fun c17 => ?_) (fun c17 => ?_)
    · rw [if_pos c17] at h
      refine zw_iconst (v := (0 : Int32)) hX dX11_isOnPlan_24 (by decide) ?_
      obtain rfl := Option.some.inj h
      exact zw_iret hX hr dX11_isOnPlan_25 rfl ⟨rfl, rfl⟩
    · rw [if_neg c17] at h
      refine zw_iconst (v := (1 : Int32)) hX dX11_isOnPlan_20 (by decide) ?_
      refine zw_goto (tgt := 25) hX dX11_isOnPlan_21 (by decide) ?_
      obtain rfl := Option.some.inj h
      exact zw_iret hX hr dX11_isOnPlan_25 rfl ⟨rfl, rfl⟩
def zf_X2_cellBeside (N : Nat) (a0 : Nat) (i1 : Int32) (i2 : Int32) (S : zm_S) : Option (Int32 × zm_S) := if (i2).toInt = 0 then if (23 : Int32) ≤ (i1 / (24 : Int32)) then some ((-1 : Int32), S) else some ((i1 + (24 : Int32)), S) else if (i2).toInt = 1 then if (i1 / (24 : Int32)) ≤ 0 then some ((-1 : Int32), S) else some ((i1 - (24 : Int32)), S) else if (i2).toInt = 2 then if (23 : Int32) ≤ (i1 - i1 / (24 : Int32) * (24 : Int32)) then some ((-1 : Int32), S) else some ((i1 + (1 : Int32)), S) else if (i1 - i1 / (24 : Int32) * (24 : Int32)) ≤ 0 then some ((-1 : Int32), S) else some ((i1 - (1 : Int32)), S)
theorem zt_X2_cellBeside {l : Launch} {V : zm_V} {N : Nat} {S : zm_S} {out : (Int32 × zm_S)} {d : Nat} {a0 : Nat} {i1 : Int32} {i2 : Int32} (hd : 1 ≤ d) (h : zf_X2_cellBeside N a0 i1 i2 S = some out) : zm_Met l zk_E V yX2_cellBeside (.code yX2_cellBeside cX2_cellBeside 5 (some .int)) d [.ref a0, .int i1, .int i2] S 0 0 (zo_i out) zo_x := by
  refine zm_of (by decide +kernel) (Nat.le_of_ble_eq_true rfl) ?_
  intro p e R s m args below meth c hRR hX hr hxt
  have hR : R.frames = d ∧ R.locals = 64 * d := by rw [hRR]; exact ⟨rfl, rfl⟩
  have hX : zm_X p R s m args meth c RX2 "cellBeside" cX2_cellBeside 5 zk_E V 0 0 := hX
  unfold zf_X2_cellBeside at h
  refine zw_sub (lv' := [(0, .ref a0), (1, .int i1), (2, .int i2)]) (List.forall_mem_cons.mpr ⟨rfl, (List.forall_mem_cons.mpr ⟨rfl, (List.forall_mem_cons.mpr ⟨rfl, zs_nil⟩)⟩)⟩) ?_
  refine zw_iload_n hX dX2_cellBeside_0 rfl ?_
  refine zw_bipush (v := (24 : Int32)) hX dX2_cellBeside_1 (by decide) ?_
  refine zw_idiv hX dX2_cellBeside_3 (by decide) ?_
  refine zw_istore_n hX dX2_cellBeside_4 (by decide) ?_
  refine zw_iload_n hX dX2_cellBeside_5 rfl ?_
  refine zw_bipush (v := (24 : Int32)) hX dX2_cellBeside_6 (by decide) ?_
  refine zw_irem hX dX2_cellBeside_8 (by decide) ?_
  refine zw_istore hX dX2_cellBeside_9 (by decide) ?_
  refine zw_iload_n hX dX2_cellBeside_11 rfl ?_
  by_cases c12_0 : (i2).toInt = 0
  · rw [if_pos c12_0] at h
    refine zw_tableIn (off := 28) (tgt := 40) hX dX2_cellBeside_12 (by rw [c12_0]; decide) (by rw [c12_0]; decide) (by rw [c12_0]; decide) (by decide) ?_
    refine zw_iload_n hX dX2_cellBeside_40 rfl ?_
    refine zw_bipush (v := (23 : Int32)) hX dX2_cellBeside_41 (by decide) ?_
    refine zw_icmp_ge (tgt := 53) hX dX2_cellBeside_43 (by decide) (fun c43 => ?_) (fun c43 => ?_)
    · rw [if_pos c43] at h
      refine zw_iconst (v := (-1 : Int32)) hX dX2_cellBeside_53 (by decide) ?_
      obtain rfl := Option.some.inj h
      exact zw_iret hX hr dX2_cellBeside_54 rfl ⟨rfl, rfl⟩
    · rw [if_neg c43] at h
      refine zw_iload_n hX dX2_cellBeside_46 rfl ?_
      refine zw_bipush (v := (24 : Int32)) hX dX2_cellBeside_47 (by decide) ?_
      refine zw_iadd hX dX2_cellBeside_49 ?_
      refine zw_goto (tgt := 54) hX dX2_cellBeside_50 (by decide) ?_
      obtain rfl := Option.some.inj h
      exact zw_iret hX hr dX2_cellBeside_54 rfl ⟨rfl, rfl⟩
  rw [if_neg c12_0] at h
  by_cases c12_1 : (i2).toInt = 1
  · rw [if_pos c12_1] at h
    refine zw_tableIn (off := 43) (tgt := 55) hX dX2_cellBeside_12 (by rw [c12_1]; decide) (by rw [c12_1]; decide) (by rw [c12_1]; decide) (by decide) ?_
    refine zw_iload_n hX dX2_cellBeside_55 rfl ?_
    refine zw_if_le (tgt := 66) hX dX2_cellBeside_56 (by decide) (fun c56 => ?_) (fun c56 => ?_)
    · rw [if_pos c56] at h
      refine zw_iconst (v := (-1 : Int32)) hX dX2_cellBeside_66 (by decide) ?_
      obtain rfl := Option.some.inj h
      exact zw_iret hX hr dX2_cellBeside_67 rfl ⟨rfl, rfl⟩
    · rw [if_neg c56] at h
      refine zw_iload_n hX dX2_cellBeside_59 rfl ?_
      refine zw_bipush (v := (24 : Int32)) hX dX2_cellBeside_60 (by decide) ?_
      refine zw_isub hX dX2_cellBeside_62 ?_
      refine zw_goto (tgt := 67) hX dX2_cellBeside_63 (by decide) ?_
      obtain rfl := Option.some.inj h
      exact zw_iret hX hr dX2_cellBeside_67 rfl ⟨rfl, rfl⟩
  rw [if_neg c12_1] at h
  by_cases c12_2 : (i2).toInt = 2
  · rw [if_pos c12_2] at h
    refine zw_tableIn (off := 56) (tgt := 68) hX dX2_cellBeside_12 (by rw [c12_2]; decide) (by rw [c12_2]; decide) (by rw [c12_2]; decide) (by decide) ?_
    refine zw_iload hX dX2_cellBeside_68 rfl ?_
    refine zw_bipush (v := (23 : Int32)) hX dX2_cellBeside_70 (by decide) ?_
    refine zw_icmp_ge (tgt := 81) hX dX2_cellBeside_72 (by decide) (fun c72 => ?_) (fun c72 => ?_)
    · rw [if_pos c72] at h
      refine zw_iconst (v := (-1 : Int32)) hX dX2_cellBeside_81 (by decide) ?_
      obtain rfl := Option.some.inj h
      exact zw_iret hX hr dX2_cellBeside_82 rfl ⟨rfl, rfl⟩
    · rw [if_neg c72] at h
      refine zw_iload_n hX dX2_cellBeside_75 rfl ?_
      refine zw_iconst (v := (1 : Int32)) hX dX2_cellBeside_76 (by decide) ?_
      refine zw_iadd hX dX2_cellBeside_77 ?_
      refine zw_goto (tgt := 82) hX dX2_cellBeside_78 (by decide) ?_
      obtain rfl := Option.some.inj h
      exact zw_iret hX hr dX2_cellBeside_82 rfl ⟨rfl, rfl⟩
  rw [if_neg c12_2] at h
  refine zw_tableOut (tgt := 83) hX dX2_cellBeside_12 (by omega) (by decide) ?_
  refine zw_iload hX dX2_cellBeside_83 rfl ?_
  refine zw_if_le (tgt := 94) hX dX2_cellBeside_85 (by decide) (fun c85 => ?_) (fun c85 => ?_)
  · rw [if_pos c85] at h
    refine zw_iconst (v := (-1 : Int32)) hX dX2_cellBeside_94 (by decide) ?_
    obtain rfl := Option.some.inj h
    exact zw_iret hX hr dX2_cellBeside_95 rfl ⟨rfl, rfl⟩
  · rw [if_neg c85] at h
    refine zw_iload_n hX dX2_cellBeside_88 rfl ?_
    refine zw_iconst (v := (1 : Int32)) hX dX2_cellBeside_89 (by decide) ?_
    refine zw_isub hX dX2_cellBeside_90 ?_
    refine zw_goto (tgt := 95) hX dX2_cellBeside_91 (by decide) ?_
    obtain rfl := Option.some.inj h
    exact zw_iret hX hr dX2_cellBeside_95 rfl ⟨rfl, rfl⟩
def zf_X2_countRings_J30 (N : Nat) (k : Nat → Int32 → Int32 → Int32 → zm_S → Option ((Int32 × zm_S) ⊕ ((Int32) × zm_S))) (a0 : Nat) (i1 : Int32) (i3 : Int32) (t0 : Int32) (t1 : Int32) (S : zm_S) : Option ((Int32 × zm_S) ⊕ ((Int32) × zm_S)) := k a0 i1 (t0 + t1) (i3 + (1 : Int32)) S
theorem zt_X2_countRings_J30 {p : Program} {l : Launch} {e : Env} {R : Room} {s : State} {m : MethodId} {args : Array Value} {below : List Frame} {meth : Method} {c : Code} {V : zm_V} {mc ms d rc rs : Nat} (hX : zm_X p R s m args meth c RX2 "countRings" cX2_countRings 4 zk_E V mc ms) (hr : meth.sig.returnType = (some .int)) (hR : R.frames = d ∧ R.locals = 64 * d) (hd : 1 ≤ d) {N : Nat} {k : Nat → Int32 → Int32 → Int32 → zm_S → Option ((Int32 × zm_S) ⊕ ((Int32) × zm_S))} {a0 : Nat} {i1 : Int32} {i3 : Int32} {t0 : Int32} {t1 : Int32} {res : (Int32 × zm_S) ⊕ ((Int32) × zm_S)} {out : (Int32 × zm_S)}   (hf : ∀ o, res = .inl o → o = out) (hk : ∀ (x2 : Int32) (S' : zm_S), res = .inr (x2, S') → zw p l e R s m args below meth c (vx_MQ below (zm_Qc zk_E V (zo_i out)) (zm_XC zk_E V zo_x) args s mc ms (fun q => V.2.2.2.1 ≤ q)) 4 zk_E V mc ms 38 [(2, .int x2)] [] S' rc rs) (hrec : ∀ (i2' : Int32) (i3' : Int32) (S : zm_S), k a0 i1 i2' i3' S = some res → zw p l e R s m args below meth c (vx_MQ below (zm_Qc zk_E V (zo_i out)) (zm_XC zk_E V zo_x) args s mc ms (fun q => V.2.2.2.1 ≤ q)) 4 zk_E V mc ms 4 [(0, .ref a0), (1, .int i1), (2, .int i2'), (3, .int i3')] [] S rc rs) {S : zm_S} (h : zf_X2_countRings_J30 N k a0 i1 i3 t0 t1 S = some res) : zw p l e R s m args below meth c (vx_MQ below (zm_Qc zk_E V (zo_i out)) (zm_XC zk_E V zo_x) args s mc ms (fun q => V.2.2.2.1 ≤ q)) 4 zk_E V mc ms 30 [(0, .ref a0), (1, .int i1), (3, .int i3)] [.int t1, .int t0] S rc rs := by
  unfold zf_X2_countRings_J30 at h
  refine zw_iadd hX dX2_countRings_30 ?_
  refine zw_istore_n hX dX2_countRings_31 (by decide) ?_
  refine zw_iinc (v := (i3 + (1 : Int32))) hX dX2_countRings_32 rfl rfl (by decide) ?_
  refine zw_goto (tgt := 4) hX dX2_countRings_35 (by decide) ?_
  refine zw_sub (lv' := [(0, .ref a0), (1, .int i1), (2, .int (t0 + t1)), (3, .int (i3 + (1 : Int32)))]) (List.forall_mem_cons.mpr ⟨rfl, (List.forall_mem_cons.mpr ⟨rfl, (List.forall_mem_cons.mpr ⟨rfl, (List.forall_mem_cons.mpr ⟨rfl, zs_nil⟩)⟩)⟩)⟩) ?_
  exact hrec _ _ _ h
def zf_X2_countRings_L4 (N : Nat) : Nat → Nat → Int32 → Int32 → Int32 → zm_S → Option ((Int32 × zm_S) ⊕ ((Int32) × zm_S))
  | 0, _, _, _, _, _ => none
  | n + 1, a0, i1, i2, i3, S => (zg_i S a0 2 12).bind (fun v1 => if v1 ≤ i3 then some (.inr (i2, S)) else (zg_r S a0 2 13).bind (fun b2 => (za_r S b2 i3).bind (fun b3 => (za_x S 0 b3 (0 : Int32)).bind (fun v4 => if v4 = i1 then zf_X2_countRings_J30 N (zf_X2_countRings_L4 N n) a0 i1 i3 i2 (1 : Int32) S else zf_X2_countRings_J30 N (zf_X2_countRings_L4 N n) a0 i1 i3 i2 (0 : Int32) S))))
theorem zt_X2_countRings_L4 {p : Program} {l : Launch} {e : Env} {R : Room} {s : State} {m : MethodId} {args : Array Value} {below : List Frame} {meth : Method} {c : Code} {V : zm_V} {mc ms d rc rs : Nat} (hX : zm_X p R s m args meth c RX2 "countRings" cX2_countRings 4 zk_E V mc ms) (hr : meth.sig.returnType = (some .int)) (hR : R.frames = d ∧ R.locals = 64 * d) (hd : 1 ≤ d) {N : Nat} {res : (Int32 × zm_S) ⊕ ((Int32) × zm_S)} {out : (Int32 × zm_S)} (a0 : Nat) (i1 : Int32) (hf : ∀ o, res = .inl o → o = out) (hk : ∀ (x2 : Int32) (S' : zm_S), res = .inr (x2, S') → zw p l e R s m args below meth c (vx_MQ below (zm_Qc zk_E V (zo_i out)) (zm_XC zk_E V zo_x) args s mc ms (fun q => V.2.2.2.1 ≤ q)) 4 zk_E V mc ms 38 [(2, .int x2)] [] S' rc rs) : ∀ (n : Nat) (i2 : Int32) (i3 : Int32) (S : zm_S), zf_X2_countRings_L4 N n a0 i1 i2 i3 S = some res → zw p l e R s m args below meth c (vx_MQ below (zm_Qc zk_E V (zo_i out)) (zm_XC zk_E V zo_x) args s mc ms (fun q => V.2.2.2.1 ≤ q)) 4 zk_E V mc ms 4 [(0, .ref a0), (1, .int i1), (2, .int i2), (3, .int i3)] [] S rc rs := by
  intro n
  induction n with
  | zero => intro i2 i3 S h; cases h
  | succ n ih =>
    intro i2 i3 S h
    rw [zf_X2_countRings_L4] at h
    refine zw_iload_n hX dX2_countRings_4 rfl ?_
    refine zw_aload_n hX dX2_countRings_5 rfl ?_
    obtain ⟨v1, g, h⟩ := zb_some h
    refine zw_geti hX zl_X2_139 dX2_countRings_6 g ?_
    refine zw_icmp_ge (tgt := 38) hX dX2_countRings_9 (by decide) (fun c9 => ?_) (fun c9 => ?_)
    · rw [if_pos c9] at h
      refine zw_sub (lv' := [(2, .int i2)]) (List.forall_mem_cons.mpr ⟨rfl, zs_nil⟩) ?_
      exact hk _ _ (Option.some.inj h).symm
    · rw [if_neg c9] at h
      refine zw_iload_n hX dX2_countRings_12 rfl ?_
      refine zw_aload_n hX dX2_countRings_13 rfl ?_
      obtain ⟨b2, g, h⟩ := zb_some h
      refine zw_getr hX zl_X2_39 dX2_countRings_14 g ?_
      refine zw_iload_n hX dX2_countRings_17 rfl ?_
      obtain ⟨b3, g, h⟩ := zb_some h
      refine zw_xr hX dX2_countRings_18 g ?_
      refine zw_iconst (v := (0 : Int32)) hX dX2_countRings_19 (by decide) ?_
      obtain ⟨v4, g, h⟩ := zb_some h
      refine zw_xi hX dX2_countRings_20 g ?_
      refine zw_iload_n hX dX2_countRings_21 rfl ?_
      refine zw_icmp_ne (tgt := 29) hX dX2_countRings_22 (by decide) (fun c22 => ?_) (fun c22 => ?_)
      · rw [if_neg c22] at h
        refine zw_iconst (v := (0 : Int32)) hX dX2_countRings_29 (by decide) ?_
        refine zw_sub (lv' := [(0, .ref a0), (1, .int i1), (3, .int i3)]) (List.forall_mem_cons.mpr ⟨rfl, (List.forall_mem_cons.mpr ⟨rfl, (List.forall_mem_cons.mpr ⟨rfl, zs_nil⟩)⟩)⟩) ?_
        exact zt_X2_countRings_J30 hX hr hR hd hf hk ih h
      · rw [if_pos c22] at h
        refine zw_iconst (v := (1 : Int32)) hX dX2_countRings_25 (by decide) ?_
        refine zw_goto (tgt := 30) hX dX2_countRings_26 (by decide) ?_
        refine zw_sub (lv' := [(0, .ref a0), (1, .int i1), (3, .int i3)]) (List.forall_mem_cons.mpr ⟨rfl, (List.forall_mem_cons.mpr ⟨rfl, (List.forall_mem_cons.mpr ⟨rfl, zs_nil⟩)⟩)⟩) ?_
        exact zt_X2_countRings_J30 hX hr hR hd hf hk ih h
def zf_X2_countRings (N : Nat) (a0 : Nat) (i1 : Int32) (S : zm_S) : Option (Int32 × zm_S) := (zf_X2_countRings_L4 N N a0 i1 (0 : Int32) (0 : Int32) S).bind (fun r => match r with | .inl o => some o | .inr (v6, S5) => some (v6, S5))
theorem zt_X2_countRings {l : Launch} {V : zm_V} {N : Nat} {S : zm_S} {out : (Int32 × zm_S)} {d : Nat} {a0 : Nat} {i1 : Int32} (hd : 1 ≤ d) (h : zf_X2_countRings N a0 i1 S = some out) : zm_Met l zk_E V yX2_countRings (.code yX2_countRings cX2_countRings 4 (some .int)) d [.ref a0, .int i1] S 0 0 (zo_i out) zo_x := by
  refine zm_of (by decide +kernel) (Nat.le_of_ble_eq_true rfl) ?_
  intro p e R s m args below meth c hRR hX hr hxt
  have hR : R.frames = d ∧ R.locals = 64 * d := by rw [hRR]; exact ⟨rfl, rfl⟩
  have hX : zm_X p R s m args meth c RX2 "countRings" cX2_countRings 4 zk_E V 0 0 := hX
  unfold zf_X2_countRings at h
  refine zw_sub (lv' := [(0, .ref a0), (1, .int i1)]) (List.forall_mem_cons.mpr ⟨rfl, (List.forall_mem_cons.mpr ⟨rfl, zs_nil⟩)⟩) ?_
  refine zw_iconst (v := (0 : Int32)) hX dX2_countRings_0 (by decide) ?_
  refine zw_istore_n hX dX2_countRings_1 (by decide) ?_
  refine zw_iconst (v := (0 : Int32)) hX dX2_countRings_2 (by decide) ?_
  refine zw_istore_n hX dX2_countRings_3 (by decide) ?_
  obtain ⟨r, g, h⟩ := zb_some h
  refine zw_sub (lv' := [(0, .ref a0), (1, .int i1), (2, .int (0 : Int32)), (3, .int (0 : Int32))]) (List.forall_mem_cons.mpr ⟨rfl, (List.forall_mem_cons.mpr ⟨rfl, (List.forall_mem_cons.mpr ⟨rfl, (List.forall_mem_cons.mpr ⟨rfl, zs_nil⟩)⟩)⟩)⟩) ?_
  refine zt_X2_countRings_L4 hX hr hR hd (res := r) (out := out) a0 i1 ?_ ?_ N _ _ _ g
  · intro o ho
    subst ho
    exact Option.some.inj h
  · intro v6 S5 hx
    subst hx
    try dsimp only at h
    refine zw_iload_n hX dX2_countRings_38 rfl ?_
    obtain rfl := Option.some.inj h
    exact zw_iret hX hr dX2_countRings_39 rfl ⟨rfl, rfl⟩
