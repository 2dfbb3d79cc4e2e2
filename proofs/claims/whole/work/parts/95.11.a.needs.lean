/-! ===== the two that throw: needArgument, needState ===== -/
def zk_has (w : Cond) : Bool := goodWord w && (decide (w ∈ tables_1_1) || (decide (w ∈ tables_1_2) || (decide (w ∈ tables_1_3) || (decide (w ∈ tables_1_4) || decide (w ∈ tables_1_5)))))
theorem zk_all {ws : List Cond} (h : ws.all zk_has = true) : ∀ w ∈ ws, w ∈ zk_E.2.2.1 := by
  intro w hw
  have h2 := List.all_eq_true.mp h w hw
  unfold zk_has at h2
  simp only [Bool.and_eq_true, Bool.or_eq_true, decide_eq_true_eq] at h2
  obtain ⟨g, h3 | h3 | h3 | h3 | h3⟩ := h2
  · exact zk_b (zk_c1 h3) g
  · exact zk_b (zk_c2 h3) g
  · exact zk_b (zk_c3 h3) g
  · exact zk_b (zk_c4 h3) g
  · exact zk_b (zk_c5 h3) g
def zk_hasN (w : Cond) : Bool := zm_isN w && (decide (w ∈ tables_1_1) || (decide (w ∈ tables_1_2) || (decide (w ∈ tables_1_3) || (decide (w ∈ tables_1_4) || decide (w ∈ tables_1_5)))))
theorem zk_allN {ws : List Cond} (h : ws.all zk_hasN = true) : ∀ w ∈ ws, w ∈ zk_E.2.2.2.1 := by
  intro w hw
  have h2 := List.all_eq_true.mp h w hw
  unfold zk_hasN at h2
  simp only [Bool.and_eq_true, Bool.or_eq_true, decide_eq_true_eq] at h2
  obtain ⟨g, h3 | h3 | h3 | h3 | h3⟩ := h2
  · exact zk_n (zk_c1 h3) g
  · exact zk_n (zk_c2 h3) g
  · exact zk_n (zk_c3 h3) g
  · exact zk_n (zk_c4 h3) g
  · exact zk_n (zk_c5 h3) g
theorem dX11_needArgument_0 : decode cX11_needArgument 0 = .ok (.iload_n 0, 1) := by decide +kernel
theorem dX11_needArgument_1 : decode cX11_needArgument 1 = .ok (.ifCond .ne 14, 3) := by decide +kernel
theorem dX11_needArgument_4 : decode cX11_needArgument 4 = .ok (.new 623, 3) := by decide +kernel
theorem dX11_needArgument_7 : decode cX11_needArgument 7 = .ok (.dup, 1) := by decide +kernel
theorem dX11_needArgument_8 : decode cX11_needArgument 8 = .ok (.ldc_w 625, 3) := by decide +kernel
theorem dX11_needArgument_11 : decode cX11_needArgument 11 = .ok (.invokespecial 627, 3) := by decide +kernel
theorem dX11_needArgument_14 : decode cX11_needArgument 14 = .ok (.athrow, 1) := by decide +kernel
theorem dX11_needArgument_15 : decode cX11_needArgument 15 = .ok (.return_, 1) := by decide +kernel
theorem zl_X11_needArgument_1 : ∀ w ∈ (vx_atS RX11 627 "java/lang/IllegalArgumentException" ["java/lang/RuntimeException", "java/lang/Exception"]).filter goodWord, w ∈ zk_E.2.2.1 := zk_all (by decide +kernel)
theorem zl_X11_needArgument_2 : ∀ w ∈ (vx_atS RX11 627 "java/lang/IllegalArgumentException" ["java/lang/RuntimeException", "java/lang/Exception"]).filter (fun w => !goodWord w), w ∈ zk_E.2.2.2.1 := zk_allN (by decide +kernel)
theorem zl_X11_needArgument_3 : ∀ w ∈ Cond.classLink RX11 623 "java/lang/IllegalArgumentException" :: Cond.initialized "java/lang/IllegalArgumentException" :: vx_atS RX11 627 "java/lang/IllegalArgumentException" ["java/lang/RuntimeException", "java/lang/Exception"], vx_ot w = true := List.all_eq_true.mp (by decide +kernel)
theorem zt_X11_needArgument {l : Launch} {V : zm_V} (hlt : l.stackTraces = false) {N : Nat} {S : zm_S} {out : (Unit ⊕ String) × zm_S} {d : Nat} {i0 : Int32} (hd : 6 ≤ d) (h : zf_X11_needArgument N i0 S = some out) : zm_Met l zk_E V yX11_needArgument (.code yX11_needArgument cX11_needArgument 1 none) d [.int i0] S 1 6 (zq_v out) (zq_x out) := by
  refine zm_of (by decide +kernel) (Nat.le_of_ble_eq_true rfl) ?_
  intro p e R s m args below meth c hRR hX hr hxt
  have hR : R.frames = d ∧ R.locals = 64 * d := by rw [hRR]; exact ⟨rfl, rfl⟩
  have hX : zm_X p R s m args meth c RX11 "needArgument" cX11_needArgument 1 zk_E V 1 6 := hX
  unfold zf_X11_needArgument at h
  refine zw_sub (lv' := [(0, .int i0)]) (List.forall_mem_cons.mpr ⟨rfl, zs_nil⟩) ?_
  refine zw_iload_n hX dX11_needArgument_0 rfl ?_
  refine zw_if_ne (tgt := 15) hX dX11_needArgument_1 (by decide) (fun c1 => ?_) (fun c1 => ?_)
  · rw [if_neg c1] at h
    obtain rfl := Option.some.inj h
    exact zw_vret hX hr dX11_needArgument_15 ⟨⟨_, rfl⟩, rfl⟩
  · rw [if_pos c1] at h
    obtain rfl := Option.some.inj h
    refine zw_throw (text := "a number is out of its bounds, or there is no such thing") (names := ["java/lang/RuntimeException", "java/lang/Exception"]) hX zk_no hlt (by decide +kernel) (by decide +kernel) (zk_b4 123 (by decide +kernel) rfl) (zk_b1 23 (by decide +kernel) rfl) (List.mem_of_getElem? (i := 0) rfl) zl_X11_needArgument_1 zl_X11_needArgument_2 zl_X11_needArgument_3 dX11_needArgument_4 dX11_needArgument_7 dX11_needArgument_8 dX11_needArgument_11 dX11_needArgument_14 (fun w hw => zm_isN_on (zk_ok.2 w hw)) hxt (by show 2 + 3 < R.frames; omega) (by show 0 + (13 * (2 + 1) + 43) ≤ R.locals; omega) (Nat.le_refl _) (Nat.le_refl _) rfl
theorem dX11_needState_0 : decode cX11_needState 0 = .ok (.iload_n 0, 1) := by decide +kernel
theorem dX11_needState_1 : decode cX11_needState 1 = .ok (.ifCond .ne 14, 3) := by decide +kernel
theorem dX11_needState_4 : decode cX11_needState 4 = .ok (.new 630, 3) := by decide +kernel
theorem dX11_needState_7 : decode cX11_needState 7 = .ok (.dup, 1) := by decide +kernel
theorem dX11_needState_8 : decode cX11_needState 8 = .ok (.ldc_w 632, 3) := by decide +kernel
theorem dX11_needState_11 : decode cX11_needState 11 = .ok (.invokespecial 634, 3) := by decide +kernel
theorem dX11_needState_14 : decode cX11_needState 14 = .ok (.athrow, 1) := by decide +kernel
theorem dX11_needState_15 : decode cX11_needState 15 = .ok (.return_, 1) := by decide +kernel
theorem zl_X11_needState_1 : ∀ w ∈ (vx_atS RX11 634 "java/lang/IllegalStateException" ["java/lang/RuntimeException", "java/lang/Exception"]).filter goodWord, w ∈ zk_E.2.2.1 := zk_all (by decide +kernel)
theorem zl_X11_needState_2 : ∀ w ∈ (vx_atS RX11 634 "java/lang/IllegalStateException" ["java/lang/RuntimeException", "java/lang/Exception"]).filter (fun w => !goodWord w), w ∈ zk_E.2.2.2.1 := zk_allN (by decide +kernel)
theorem zl_X11_needState_3 : ∀ w ∈ Cond.classLink RX11 630 "java/lang/IllegalStateException" :: Cond.initialized "java/lang/IllegalStateException" :: vx_atS RX11 634 "java/lang/IllegalStateException" ["java/lang/RuntimeException", "java/lang/Exception"], vx_ot w = true := List.all_eq_true.mp (by decide +kernel)
theorem zt_X11_needState {l : Launch} {V : zm_V} (hlt : l.stackTraces = false) {N : Nat} {S : zm_S} {out : (Unit ⊕ String) × zm_S} {d : Nat} {i0 : Int32} (hd : 6 ≤ d) (h : zf_X11_needState N i0 S = some out) : zm_Met l zk_E V yX11_needState (.code yX11_needState cX11_needState 1 none) d [.int i0] S 1 6 (zq_v out) (zq_x out) := by
  refine zm_of (by decide +kernel) (Nat.le_of_ble_eq_true rfl) ?_
  intro p e R s m args below meth c hRR hX hr hxt
  have hR : R.frames = d ∧ R.locals = 64 * d := by rw [hRR]; exact ⟨rfl, rfl⟩
  have hX : zm_X p R s m args meth c RX11 "needState" cX11_needState 1 zk_E V 1 6 := hX
  unfold zf_X11_needState at h
  refine zw_sub (lv' := [(0, .int i0)]) (List.forall_mem_cons.mpr ⟨rfl, zs_nil⟩) ?_
  refine zw_iload_n hX dX11_needState_0 rfl ?_
  refine zw_if_ne (tgt := 15) hX dX11_needState_1 (by decide) (fun c1 => ?_) (fun c1 => ?_)
  · rw [if_neg c1] at h
    obtain rfl := Option.some.inj h
    exact zw_vret hX hr dX11_needState_15 ⟨⟨_, rfl⟩, rfl⟩
  · rw [if_pos c1] at h
    obtain rfl := Option.some.inj h
    refine zw_throw (text := "the house is not as it must be") (names := ["java/lang/RuntimeException", "java/lang/Exception"]) hX zk_no hlt (by decide +kernel) (by decide +kernel) (zk_b4 193 (by decide +kernel) rfl) (zk_b1 24 (by decide +kernel) rfl) (List.mem_of_getElem? (i := 1) rfl) zl_X11_needState_1 zl_X11_needState_2 zl_X11_needState_3 dX11_needState_4 dX11_needState_7 dX11_needState_8 dX11_needState_11 dX11_needState_14 (fun w hw => zm_isN_on (zk_ok.2 w hw)) hxt (by show 2 + 3 < R.frames; omega) (by show 0 + (13 * (2 + 1) + 43) ≤ R.locals; omega) (Nat.le_refl _) (Nat.le_refl _) rfl

