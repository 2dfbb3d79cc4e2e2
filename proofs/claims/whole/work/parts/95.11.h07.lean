/-! ===== functions of methods, by program (wip/whole/tools/gen11.py) ===== -/


set_option maxHeartbeats 4000000 in
set_option maxRecDepth 100000 in
theorem zt_L_law_J2488 {p : Program} {l : Launch} {e : Env} {s : State} {m : MethodId} {zb : Nat} {below : List Frame} {meth : Method} {c : Code} {V : zm_V} {d : Nat} {nm : String} (hlt : l.stackTraces = false) (hV : V.2.2.2.1 = s.heap.size) (hX : zm_X p room_1 s m #[Value.ref zb] meth c RL nm cL_law 8 zk_E V 601024 7293034) (hr : meth.sig.returnType = ret) (hR : d ≤ room_1.frames ∧ 64 * d ≤ room_1.locals) (hd : 46 ≤ d) {N : Nat} {k : Nat → Nat → Nat → Nat → Int32 → Nat → Nat → zm_S → Option ((Int32 × zm_S) ⊕ ((Unit) × zm_S))} {rc rs : Nat} {a0 : Nat} {a1 : Nat} {a2 : Nat} {a3 : Nat} {i4 : Int32} {res : (Int32 × zm_S) ⊕ ((Unit) × zm_S)} {out : (Int32 × zm_S)}   (hf : ∀ o, res = .inl o → o = out) (hk : ∀ (S' : zm_S) (rc rs : Nat), res = .inr ((), S') → zw p l e room_1 s m #[Value.ref zb] below meth c (lw_Z below #[Value.ref zb] s) 8 zk_E V 601024 7293034 6008 [] [] S' rc rs) (hrec : ∀ (i4' : Int32) (rc rs : Nat) (S : zm_S), k a0 a1 a2 a3 i4' rc rs S = some res → zw p l e room_1 s m #[Value.ref zb] below meth c (lw_Z below #[Value.ref zb] s) 8 zk_E V 601024 7293034 23 [(0, .ref a0), (1, .ref a1), (2, .ref a2), (3, .ref a3), (4, .int i4')] [] S rc rs) {S : zm_S} (h : zf_L_law_J2488 N k a0 a1 a2 a3 i4 rc rs S = some res) : zw p l e room_1 s m #[Value.ref zb] below meth c (lw_Z below #[Value.ref zb] s) 8 zk_E V 601024 7293034 2488 [(0, .ref a0), (1, .ref a1), (2, .ref a2), (3, .ref a3), (4, .int i4)] [] S rc rs := by
  unfold zf_L_law_J2488 at h
  refine zw_aload_n hX dL_law_2488 rfl ?_
  refine zw_aload_n hX dL_law_2489 rfl ?_
  refine zw_iload hX dL_law_2490 rfl ?_
  refine zw_iconst (v := (1 : Int32)) hX dL_law_2492 (by decide) ?_
  refine zw_iadd hX dL_law_2493 ?_
  obtain ⟨v375, g, h⟩ := zb_some h
  refine zw_xi hX dL_law_2494 g ?_
  refine zw_aload_n hX dL_law_2495 rfl ?_
  refine zw_iload hX dL_law_2496 rfl ?_
  refine zw_iconst (v := (2 : Int32)) hX dL_law_2498 (by decide) ?_
  refine zw_iadd hX dL_law_2499 ?_
  obtain ⟨v376, g, h⟩ := zb_some h
  refine zw_xi hX dL_law_2500 g ?_
  refine zw_if_eq (tgt := 2508) hX dL_law_2501 (by decide) (fun c2501 => ?_) (fun c2501 => ?_)
  · rw [if_pos c2501] at h
    refine zw_iconst (v := (0 : Int32)) hX dL_law_2508 (by decide) ?_
    refine zw_sub (lv' := [(0, .ref a0), (1, .ref a1), (2, .ref a2), (3, .ref a3), (4, .int i4)]) (List.forall_mem_cons.mpr ⟨rfl, (List.forall_mem_cons.mpr ⟨rfl, (List.forall_mem_cons.mpr ⟨rfl, (List.forall_mem_cons.mpr ⟨rfl, (List.forall_mem_cons.mpr ⟨rfl, zs_nil⟩)⟩)⟩)⟩)⟩) ?_
    exact zt_L_law_J2509 hlt hV hX hr hR hd hf hk hrec h
  · rw [if_neg c2501] at h
    refine zw_iconst (v := (1 : Int32)) hX dL_law_2504 (by decide) ?_
    refine zw_goto (tgt := 2509) hX dL_law_2505 (by decide) ?_
    refine zw_sub (lv' := [(0, .ref a0), (1, .ref a1), (2, .ref a2), (3, .ref a3), (4, .int i4)]) (List.forall_mem_cons.mpr ⟨rfl, (List.forall_mem_cons.mpr ⟨rfl, (List.forall_mem_cons.mpr ⟨rfl, (List.forall_mem_cons.mpr ⟨rfl, (List.forall_mem_cons.mpr ⟨rfl, zs_nil⟩)⟩)⟩)⟩)⟩) ?_
    exact zt_L_law_J2509 hlt hV hX hr hR hd hf hk hrec h
set_option maxHeartbeats 4000000 in
set_option maxRecDepth 100000 in
theorem zt_L_law_J2620 {p : Program} {l : Launch} {e : Env} {s : State} {m : MethodId} {zb : Nat} {below : List Frame} {meth : Method} {c : Code} {V : zm_V} {d : Nat} {nm : String} (hlt : l.stackTraces = false) (hV : V.2.2.2.1 = s.heap.size) (hX : zm_X p room_1 s m #[Value.ref zb] meth c RL nm cL_law 8 zk_E V 601024 7293034) (hr : meth.sig.returnType = ret) (hR : d ≤ room_1.frames ∧ 64 * d ≤ room_1.locals) (hd : 46 ≤ d) {N : Nat} {k : Nat → Nat → Nat → Nat → Int32 → Nat → Nat → zm_S → Option ((Int32 × zm_S) ⊕ ((Unit) × zm_S))} {rc rs : Nat} {a0 : Nat} {a1 : Nat} {a2 : Nat} {a3 : Nat} {i4 : Int32} {i5 : Int32} {t0 : Nat} {t1 : Int32} {t2 : Int32} {res : (Int32 × zm_S) ⊕ ((Unit) × zm_S)} {out : (Int32 × zm_S)}   (hf : ∀ o, res = .inl o → o = out) (hk : ∀ (S' : zm_S) (rc rs : Nat), res = .inr ((), S') → zw p l e room_1 s m #[Value.ref zb] below meth c (lw_Z below #[Value.ref zb] s) 8 zk_E V 601024 7293034 6008 [] [] S' rc rs) (hrec : ∀ (i4' : Int32) (rc rs : Nat) (S : zm_S), k a0 a1 a2 a3 i4' rc rs S = some res → zw p l e room_1 s m #[Value.ref zb] below meth c (lw_Z below #[Value.ref zb] s) 8 zk_E V 601024 7293034 23 [(0, .ref a0), (1, .ref a1), (2, .ref a2), (3, .ref a3), (4, .int i4')] [] S rc rs) {S : zm_S} (h : zf_L_law_J2620 N k a0 a1 a2 a3 i4 i5 t0 t1 t2 rc rs S = some res) : zw p l e room_1 s m #[Value.ref zb] below meth c (lw_Z below #[Value.ref zb] s) 8 zk_E V 601024 7293034 2620 [(0, .ref a0), (1, .ref a1), (2, .ref a2), (3, .ref a3), (4, .int i4), (5, .int i5)] [.int t2, .int t1, .ref t0] S rc rs := by
  unfold zf_L_law_J2620 at h
  obtain ⟨_, gi, h⟩ := zb_some h
  obtain ⟨r395, g, h⟩ := zb_some h
  refine zc_Vi (as := [.int t1, .int t2]) hX gi (zt_X18_off (d := d - 1) (by omega) g) zl_L_386 rfl dL_law_2620 ⟨rfl, rfl, Nat.le_of_ble_eq_true rfl⟩ ⟨by omega, by omega⟩ ?_
  refine zw_istore hX dL_law_2623 (by decide) ?_
  refine zw_aload_n hX dL_law_2625 rfl ?_
  obtain ⟨_, gi, h⟩ := zb_some h
  obtain ⟨r397, g, h⟩ := zb_some h
  refine zc_Vi (as := []) hX gi (zt_X18_thrown (d := d - 1) (by omega) g) zl_L_281 rfl dL_law_2626 ⟨rfl, rfl, Nat.le_of_ble_eq_true rfl⟩ ⟨by omega, by omega⟩ ?_
  refine zw_iload hX dL_law_2629 rfl ?_
  refine zw_icmp_eq (tgt := 2636) hX dL_law_2631 (by decide) (fun c2631 => ?_) (fun c2631 => ?_)
  · rw [if_pos c2631] at h
    refine zw_iload hX dL_law_2636 rfl ?_
    refine zw_if_ne (tgt := 2653) hX dL_law_2638 (by decide) (fun c2638 => ?_) (fun c2638 => ?_)
    · rw [if_neg c2638] at h
      refine zw_goto (tgt := 6002) hX dL_law_2653 (by decide) ?_
      refine zw_iinc (v := (i4 + (7 : Int32))) hX dL_law_6002 rfl rfl (by decide) ?_
      refine zw_goto (tgt := 23) hX dL_law_6005 (by decide) ?_
      refine zw_sub (lv' := [(0, .ref a0), (1, .ref a1), (2, .ref a2), (3, .ref a3), (4, .int (i4 + (7 : Int32)))]) (List.forall_mem_cons.mpr ⟨rfl, (List.forall_mem_cons.mpr ⟨rfl, (List.forall_mem_cons.mpr ⟨rfl, (List.forall_mem_cons.mpr ⟨rfl, (List.forall_mem_cons.mpr ⟨rfl, zs_nil⟩)⟩)⟩)⟩)⟩) ?_
      exact hrec _ _ _ _ h
    · rw [if_pos c2638] at h
      refine zw_aload_n hX dL_law_2641 rfl ?_
      refine zw_iconst (v := (0 : Int32)) hX dL_law_2642 (by decide) ?_
      obtain ⟨w398, g, h⟩ := zb_some h
      refine zw_xl hX dL_law_2643 g ?_
      refine zw_iload hX dL_law_2644 rfl ?_
      refine zw_i2l hX dL_law_2646 ?_
      refine zw_lcmp hX dL_law_2647 ?_
      refine zw_if_eq (tgt := 2653) hX dL_law_2648 (by decide) (fun c2648 => ?_) (fun c2648 => ?_)
      · rw [if_pos c2648] at h
        refine zw_goto (tgt := 6002) hX dL_law_2653 (by decide) ?_
        refine zw_iinc (v := (i4 + (7 : Int32))) hX dL_law_6002 rfl rfl (by decide) ?_
        refine zw_goto (tgt := 23) hX dL_law_6005 (by decide) ?_
        refine zw_sub (lv' := [(0, .ref a0), (1, .ref a1), (2, .ref a2), (3, .ref a3), (4, .int (i4 + (7 : Int32)))]) (List.forall_mem_cons.mpr ⟨rfl, (List.forall_mem_cons.mpr ⟨rfl, (List.forall_mem_cons.mpr ⟨rfl, (List.forall_mem_cons.mpr ⟨rfl, (List.forall_mem_cons.mpr ⟨rfl, zs_nil⟩)⟩)⟩)⟩)⟩) ?_
        exact hrec _ _ _ _ h
      · rw [if_neg c2648] at h
        refine zw_iconst (v := (0 : Int32)) hX dL_law_2651 (by decide) ?_
        cases h
  · rw [if_neg c2631] at h
    refine zw_iconst (v := (0 : Int32)) hX dL_law_2634 (by decide) ?_
    cases h
set_option maxHeartbeats 4000000 in
set_option maxRecDepth 100000 in
theorem zt_L_law_J2593 {p : Program} {l : Launch} {e : Env} {s : State} {m : MethodId} {zb : Nat} {below : List Frame} {meth : Method} {c : Code} {V : zm_V} {d : Nat} {nm : String} (hlt : l.stackTraces = false) (hV : V.2.2.2.1 = s.heap.size) (hX : zm_X p room_1 s m #[Value.ref zb] meth c RL nm cL_law 8 zk_E V 601024 7293034) (hr : meth.sig.returnType = ret) (hR : d ≤ room_1.frames ∧ 64 * d ≤ room_1.locals) (hd : 46 ≤ d) {N : Nat} {k : Nat → Nat → Nat → Nat → Int32 → Nat → Nat → zm_S → Option ((Int32 × zm_S) ⊕ ((Unit) × zm_S))} {rc rs : Nat} {a0 : Nat} {a1 : Nat} {a2 : Nat} {a3 : Nat} {i4 : Int32} {t0 : Nat} {t1 : Int32} {t2 : Int32} {res : (Int32 × zm_S) ⊕ ((Unit) × zm_S)} {out : (Int32 × zm_S)}   (hf : ∀ o, res = .inl o → o = out) (hk : ∀ (S' : zm_S) (rc rs : Nat), res = .inr ((), S') → zw p l e room_1 s m #[Value.ref zb] below meth c (lw_Z below #[Value.ref zb] s) 8 zk_E V 601024 7293034 6008 [] [] S' rc rs) (hrec : ∀ (i4' : Int32) (rc rs : Nat) (S : zm_S), k a0 a1 a2 a3 i4' rc rs S = some res → zw p l e room_1 s m #[Value.ref zb] below meth c (lw_Z below #[Value.ref zb] s) 8 zk_E V 601024 7293034 23 [(0, .ref a0), (1, .ref a1), (2, .ref a2), (3, .ref a3), (4, .int i4')] [] S rc rs) {S : zm_S} (h : zf_L_law_J2593 N k a0 a1 a2 a3 i4 t0 t1 t2 rc rs S = some res) : zw p l e room_1 s m #[Value.ref zb] below meth c (lw_Z below #[Value.ref zb] s) 8 zk_E V 601024 7293034 2593 [(0, .ref a0), (1, .ref a1), (2, .ref a2), (3, .ref a3), (4, .int i4)] [.int t2, .int t1, .ref t0] S rc rs := by
  unfold zf_L_law_J2593 at h
  refine zw_aload_n hX dL_law_2593 rfl ?_
  by_cases hb2594 : 2 ≤ rc ∧ 12 ≤ rs
  · rw [if_pos hb2594] at h
    obtain ⟨r391, g, h⟩ := zb_some h
    refine zc_SH (as := [.ref t0, .int t1, .int t2, .ref a3]) hX (zt_L_off hlt (d := d - 1) (by omega) g) zl_L_384 dL_law_2594 ⟨rfl, rfl, Nat.le_of_ble_eq_true rfl⟩ ⟨by omega, by omega⟩ hb2594 ?_ ?_
    · rintro _ _ ⟨rfl, rfl⟩
      refine zw_istore hX dL_law_2597 (by decide) ?_
      refine zw_aload_n hX dL_law_2599 rfl ?_
      refine zw_aload_n hX dL_law_2600 rfl ?_
      refine zw_iload hX dL_law_2601 rfl ?_
      refine zw_iconst (v := (1 : Int32)) hX dL_law_2603 (by decide) ?_
      refine zw_iadd hX dL_law_2604 ?_
      obtain ⟨v392, g, h⟩ := zb_some h
      refine zw_xi hX dL_law_2605 g ?_
      refine zw_aload_n hX dL_law_2606 rfl ?_
      refine zw_iload hX dL_law_2607 rfl ?_
      refine zw_iconst (v := (2 : Int32)) hX dL_law_2609 (by decide) ?_
      refine zw_iadd hX dL_law_2610 ?_
      obtain ⟨v393, g, h⟩ := zb_some h
      refine zw_xi hX dL_law_2611 g ?_
      refine zw_if_eq (tgt := 2619) hX dL_law_2612 (by decide) (fun c2612 => ?_) (fun c2612 => ?_)
      · rw [if_pos c2612] at h
        refine zw_iconst (v := (0 : Int32)) hX dL_law_2619 (by decide) ?_
        refine zw_sub (lv' := [(0, .ref a0), (1, .ref a1), (2, .ref a2), (3, .ref a3), (4, .int i4), (5, .int r391.1)]) (List.forall_mem_cons.mpr ⟨rfl, (List.forall_mem_cons.mpr ⟨rfl, (List.forall_mem_cons.mpr ⟨rfl, (List.forall_mem_cons.mpr ⟨rfl, (List.forall_mem_cons.mpr ⟨rfl, (List.forall_mem_cons.mpr ⟨rfl, zs_nil⟩)⟩)⟩)⟩)⟩)⟩) ?_
        exact zt_L_law_J2620 hlt hV hX hr hR hd hf hk hrec h
      · rw [if_neg c2612] at h
        refine zw_iconst (v := (1 : Int32)) hX dL_law_2615 (by decide) ?_
        refine zw_goto (tgt := 2620) hX dL_law_2616 (by decide) ?_
        refine zw_sub (lv' := [(0, .ref a0), (1, .ref a1), (2, .ref a2), (3, .ref a3), (4, .int i4), (5, .int r391.1)]) (List.forall_mem_cons.mpr ⟨rfl, (List.forall_mem_cons.mpr ⟨rfl, (List.forall_mem_cons.mpr ⟨rfl, (List.forall_mem_cons.mpr ⟨rfl, (List.forall_mem_cons.mpr ⟨rfl, (List.forall_mem_cons.mpr ⟨rfl, zs_nil⟩)⟩)⟩)⟩)⟩)⟩) ?_
        exact zt_L_law_J2620 hlt hV hX hr hR hd hf hk hrec h
    · intro _ _ hx
      exact hx.elim
  · rw [if_neg hb2594] at h
    cases h
set_option maxHeartbeats 4000000 in
set_option maxRecDepth 100000 in
theorem zt_L_law_J2572 {p : Program} {l : Launch} {e : Env} {s : State} {m : MethodId} {zb : Nat} {below : List Frame} {meth : Method} {c : Code} {V : zm_V} {d : Nat} {nm : String} (hlt : l.stackTraces = false) (hV : V.2.2.2.1 = s.heap.size) (hX : zm_X p room_1 s m #[Value.ref zb] meth c RL nm cL_law 8 zk_E V 601024 7293034) (hr : meth.sig.returnType = ret) (hR : d ≤ room_1.frames ∧ 64 * d ≤ room_1.locals) (hd : 46 ≤ d) {N : Nat} {k : Nat → Nat → Nat → Nat → Int32 → Nat → Nat → zm_S → Option ((Int32 × zm_S) ⊕ ((Unit) × zm_S))} {rc rs : Nat} {a0 : Nat} {a1 : Nat} {a2 : Nat} {a3 : Nat} {i4 : Int32} {res : (Int32 × zm_S) ⊕ ((Unit) × zm_S)} {out : (Int32 × zm_S)}   (hf : ∀ o, res = .inl o → o = out) (hk : ∀ (S' : zm_S) (rc rs : Nat), res = .inr ((), S') → zw p l e room_1 s m #[Value.ref zb] below meth c (lw_Z below #[Value.ref zb] s) 8 zk_E V 601024 7293034 6008 [] [] S' rc rs) (hrec : ∀ (i4' : Int32) (rc rs : Nat) (S : zm_S), k a0 a1 a2 a3 i4' rc rs S = some res → zw p l e room_1 s m #[Value.ref zb] below meth c (lw_Z below #[Value.ref zb] s) 8 zk_E V 601024 7293034 23 [(0, .ref a0), (1, .ref a1), (2, .ref a2), (3, .ref a3), (4, .int i4')] [] S rc rs) {S : zm_S} (h : zf_L_law_J2572 N k a0 a1 a2 a3 i4 rc rs S = some res) : zw p l e room_1 s m #[Value.ref zb] below meth c (lw_Z below #[Value.ref zb] s) 8 zk_E V 601024 7293034 2572 [(0, .ref a0), (1, .ref a1), (2, .ref a2), (3, .ref a3), (4, .int i4)] [] S rc rs := by
  unfold zf_L_law_J2572 at h
  refine zw_aload_n hX dL_law_2572 rfl ?_
  refine zw_aload_n hX dL_law_2573 rfl ?_
  refine zw_iload hX dL_law_2574 rfl ?_
  refine zw_iconst (v := (1 : Int32)) hX dL_law_2576 (by decide) ?_
  refine zw_iadd hX dL_law_2577 ?_
  obtain ⟨v387, g, h⟩ := zb_some h
  refine zw_xi hX dL_law_2578 g ?_
  refine zw_aload_n hX dL_law_2579 rfl ?_
  refine zw_iload hX dL_law_2580 rfl ?_
  refine zw_iconst (v := (2 : Int32)) hX dL_law_2582 (by decide) ?_
  refine zw_iadd hX dL_law_2583 ?_
  obtain ⟨v388, g, h⟩ := zb_some h
  refine zw_xi hX dL_law_2584 g ?_
  refine zw_if_eq (tgt := 2592) hX dL_law_2585 (by decide) (fun c2585 => ?_) (fun c2585 => ?_)
  · rw [if_pos c2585] at h
    refine zw_iconst (v := (0 : Int32)) hX dL_law_2592 (by decide) ?_
    refine zw_sub (lv' := [(0, .ref a0), (1, .ref a1), (2, .ref a2), (3, .ref a3), (4, .int i4)]) (List.forall_mem_cons.mpr ⟨rfl, (List.forall_mem_cons.mpr ⟨rfl, (List.forall_mem_cons.mpr ⟨rfl, (List.forall_mem_cons.mpr ⟨rfl, (List.forall_mem_cons.mpr ⟨rfl, zs_nil⟩)⟩)⟩)⟩)⟩) ?_
    exact zt_L_law_J2593 hlt hV hX hr hR hd hf hk hrec h
  · rw [if_neg c2585] at h
    refine zw_iconst (v := (1 : Int32)) hX dL_law_2588 (by decide) ?_
    refine zw_goto (tgt := 2593) hX dL_law_2589 (by decide) ?_
    refine zw_sub (lv' := [(0, .ref a0), (1, .ref a1), (2, .ref a2), (3, .ref a3), (4, .int i4)]) (List.forall_mem_cons.mpr ⟨rfl, (List.forall_mem_cons.mpr ⟨rfl, (List.forall_mem_cons.mpr ⟨rfl, (List.forall_mem_cons.mpr ⟨rfl, (List.forall_mem_cons.mpr ⟨rfl, zs_nil⟩)⟩)⟩)⟩)⟩) ?_
    exact zt_L_law_J2593 hlt hV hX hr hR hd hf hk hrec h
set_option maxHeartbeats 4000000 in
set_option maxRecDepth 100000 in
theorem zt_L_law_J2656 {p : Program} {l : Launch} {e : Env} {s : State} {m : MethodId} {zb : Nat} {below : List Frame} {meth : Method} {c : Code} {V : zm_V} {d : Nat} {nm : String} (hlt : l.stackTraces = false) (hV : V.2.2.2.1 = s.heap.size) (hX : zm_X p room_1 s m #[Value.ref zb] meth c RL nm cL_law 8 zk_E V 601024 7293034) (hr : meth.sig.returnType = ret) (hR : d ≤ room_1.frames ∧ 64 * d ≤ room_1.locals) (hd : 46 ≤ d) {N : Nat} {k : Nat → Nat → Nat → Nat → Int32 → Nat → Nat → zm_S → Option ((Int32 × zm_S) ⊕ ((Unit) × zm_S))} {rc rs : Nat} {a0 : Nat} {a1 : Nat} {a2 : Nat} {a3 : Nat} {i4 : Int32} {res : (Int32 × zm_S) ⊕ ((Unit) × zm_S)} {out : (Int32 × zm_S)}   (hf : ∀ o, res = .inl o → o = out) (hk : ∀ (S' : zm_S) (rc rs : Nat), res = .inr ((), S') → zw p l e room_1 s m #[Value.ref zb] below meth c (lw_Z below #[Value.ref zb] s) 8 zk_E V 601024 7293034 6008 [] [] S' rc rs) (hrec : ∀ (i4' : Int32) (rc rs : Nat) (S : zm_S), k a0 a1 a2 a3 i4' rc rs S = some res → zw p l e room_1 s m #[Value.ref zb] below meth c (lw_Z below #[Value.ref zb] s) 8 zk_E V 601024 7293034 23 [(0, .ref a0), (1, .ref a1), (2, .ref a2), (3, .ref a3), (4, .int i4')] [] S rc rs) {S : zm_S} (h : zf_L_law_J2656 N k a0 a1 a2 a3 i4 rc rs S = some res) : zw p l e room_1 s m #[Value.ref zb] below meth c (lw_Z below #[Value.ref zb] s) 8 zk_E V 601024 7293034 2656 [(0, .ref a0), (1, .ref a1), (2, .ref a2), (3, .ref a3), (4, .int i4)] [] S rc rs := by
  unfold zf_L_law_J2656 at h
  refine zw_aload_n hX dL_law_2656 rfl ?_
  refine zw_aload_n hX dL_law_2657 rfl ?_
  refine zw_iload hX dL_law_2658 rfl ?_
  refine zw_iconst (v := (1 : Int32)) hX dL_law_2660 (by decide) ?_
  refine zw_iadd hX dL_law_2661 ?_
  obtain ⟨v399, g, h⟩ := zb_some h
  refine zw_xi hX dL_law_2662 g ?_
  refine zw_aload_n hX dL_law_2663 rfl ?_
  refine zw_iload hX dL_law_2664 rfl ?_
  refine zw_iconst (v := (2 : Int32)) hX dL_law_2666 (by decide) ?_
  refine zw_iadd hX dL_law_2667 ?_
  obtain ⟨v400, g, h⟩ := zb_some h
  refine zw_xi hX dL_law_2668 g ?_
  refine zw_aload_n hX dL_law_2669 rfl ?_
  refine zw_iload hX dL_law_2670 rfl ?_
  refine zw_iconst (v := (3 : Int32)) hX dL_law_2672 (by decide) ?_
  refine zw_iadd hX dL_law_2673 ?_
  obtain ⟨v401, g, h⟩ := zb_some h
  refine zw_xi hX dL_law_2674 g ?_
  refine zw_aload_n hX dL_law_2675 rfl ?_
  by_cases hb2676 : 2 ≤ rc ∧ 12 ≤ rs
  · rw [if_pos hb2676] at h
    obtain ⟨r404, g, h⟩ := zb_some h
    refine zc_SH (as := [.ref a1, .int v399, .int v400, .int v401, .ref a3]) hX (zt_L_ask hlt (d := d - 1) (by omega) g) zl_L_387 dL_law_2676 ⟨rfl, rfl, Nat.le_of_ble_eq_true rfl⟩ ⟨by omega, by omega⟩ hb2676 ?_ ?_
    · rintro _ _ ⟨rfl, rfl⟩
      refine zw_istore hX dL_law_2679 (by decide) ?_
      refine zw_aload_n hX dL_law_2681 rfl ?_
      refine zw_aload_n hX dL_law_2682 rfl ?_
      refine zw_iload hX dL_law_2683 rfl ?_
      refine zw_iconst (v := (1 : Int32)) hX dL_law_2685 (by decide) ?_
      refine zw_iadd hX dL_law_2686 ?_
      obtain ⟨v405, g, h⟩ := zb_some h
      refine zw_xi hX dL_law_2687 g ?_
      refine zw_aload_n hX dL_law_2688 rfl ?_
      refine zw_iload hX dL_law_2689 rfl ?_
      refine zw_iconst (v := (2 : Int32)) hX dL_law_2691 (by decide) ?_
      refine zw_iadd hX dL_law_2692 ?_
      obtain ⟨v406, g, h⟩ := zb_some h
      refine zw_xi hX dL_law_2693 g ?_
      refine zw_aload_n hX dL_law_2694 rfl ?_
      refine zw_iload hX dL_law_2695 rfl ?_
      refine zw_iconst (v := (3 : Int32)) hX dL_law_2697 (by decide) ?_
      refine zw_iadd hX dL_law_2698 ?_
      obtain ⟨v407, g, h⟩ := zb_some h
      refine zw_xi hX dL_law_2699 g ?_
      obtain ⟨_, gi, h⟩ := zb_some h
      obtain ⟨r409, g, h⟩ := zb_some h
      refine zc_Vi (as := [.int v405, .int v406, .int v407]) hX gi (zt_X18_ask (d := d - 1) (by omega) g) zl_L_389 rfl dL_law_2700 ⟨rfl, rfl, Nat.le_of_ble_eq_true rfl⟩ ⟨by omega, by omega⟩ ?_
      refine zw_istore hX dL_law_2703 (by decide) ?_
      refine zw_aload_n hX dL_law_2705 rfl ?_
      obtain ⟨_, gi, h⟩ := zb_some h
      obtain ⟨r411, g, h⟩ := zb_some h
      refine zc_Vi (as := []) hX gi (zt_X18_thrown (d := d - 1) (by omega) g) zl_L_281 rfl dL_law_2706 ⟨rfl, rfl, Nat.le_of_ble_eq_true rfl⟩ ⟨by omega, by omega⟩ ?_
      refine zw_iload hX dL_law_2709 rfl ?_
      refine zw_icmp_eq (tgt := 2716) hX dL_law_2711 (by decide) (fun c2711 => ?_) (fun c2711 => ?_)
      · rw [if_pos c2711] at h
        refine zw_iload hX dL_law_2716 rfl ?_
        refine zw_if_ne (tgt := 2733) hX dL_law_2718 (by decide) (fun c2718 => ?_) (fun c2718 => ?_)
        · rw [if_neg c2718] at h
          refine zw_goto (tgt := 6002) hX dL_law_2733 (by decide) ?_
          refine zw_iinc (v := (i4 + (7 : Int32))) hX dL_law_6002 rfl rfl (by decide) ?_
          refine zw_goto (tgt := 23) hX dL_law_6005 (by decide) ?_
          refine zw_sub (lv' := [(0, .ref a0), (1, .ref a1), (2, .ref a2), (3, .ref a3), (4, .int (i4 + (7 : Int32)))]) (List.forall_mem_cons.mpr ⟨rfl, (List.forall_mem_cons.mpr ⟨rfl, (List.forall_mem_cons.mpr ⟨rfl, (List.forall_mem_cons.mpr ⟨rfl, (List.forall_mem_cons.mpr ⟨rfl, zs_nil⟩)⟩)⟩)⟩)⟩) ?_
          exact hrec _ _ _ _ h
        · rw [if_pos c2718] at h
          refine zw_aload_n hX dL_law_2721 rfl ?_
          refine zw_iconst (v := (0 : Int32)) hX dL_law_2722 (by decide) ?_
          obtain ⟨w412, g, h⟩ := zb_some h
          refine zw_xl hX dL_law_2723 g ?_
          refine zw_iload hX dL_law_2724 rfl ?_
          refine zw_i2l hX dL_law_2726 ?_
          refine zw_lcmp hX dL_law_2727 ?_
          refine zw_if_eq (tgt := 2733) hX dL_law_2728 (by decide) (fun c2728 => ?_) (fun c2728 => ?_)
          · rw [if_pos c2728] at h
            refine zw_goto (tgt := 6002) hX dL_law_2733 (by decide) ?_
            refine zw_iinc (v := (i4 + (7 : Int32))) hX dL_law_6002 rfl rfl (by decide) ?_
            refine zw_goto (tgt := 23) hX dL_law_6005 (by decide) ?_
            refine zw_sub (lv' := [(0, .ref a0), (1, .ref a1), (2, .ref a2), (3, .ref a3), (4, .int (i4 + (7 : Int32)))]) (List.forall_mem_cons.mpr ⟨rfl, (List.forall_mem_cons.mpr ⟨rfl, (List.forall_mem_cons.mpr ⟨rfl, (List.forall_mem_cons.mpr ⟨rfl, (List.forall_mem_cons.mpr ⟨rfl, zs_nil⟩)⟩)⟩)⟩)⟩) ?_
            exact hrec _ _ _ _ h
          · rw [if_neg c2728] at h
            refine zw_iconst (v := (0 : Int32)) hX dL_law_2731 (by decide) ?_
            cases h
      · rw [if_neg c2711] at h
        refine zw_iconst (v := (0 : Int32)) hX dL_law_2714 (by decide) ?_
        cases h
    · intro _ _ hx
      exact hx.elim
  · rw [if_neg hb2676] at h
    cases h
set_option maxHeartbeats 4000000 in
set_option maxRecDepth 100000 in
theorem zt_L_law_J2736 {p : Program} {l : Launch} {e : Env} {s : State} {m : MethodId} {zb : Nat} {below : List Frame} {meth : Method} {c : Code} {V : zm_V} {d : Nat} {nm : String} (hlt : l.stackTraces = false) (hV : V.2.2.2.1 = s.heap.size) (hX : zm_X p room_1 s m #[Value.ref zb] meth c RL nm cL_law 8 zk_E V 601024 7293034) (hr : meth.sig.returnType = ret) (hR : d ≤ room_1.frames ∧ 64 * d ≤ room_1.locals) (hd : 46 ≤ d) {N : Nat} {k : Nat → Nat → Nat → Nat → Int32 → Nat → Nat → zm_S → Option ((Int32 × zm_S) ⊕ ((Unit) × zm_S))} {rc rs : Nat} {a0 : Nat} {a1 : Nat} {a2 : Nat} {a3 : Nat} {i4 : Int32} {res : (Int32 × zm_S) ⊕ ((Unit) × zm_S)} {out : (Int32 × zm_S)}   (hf : ∀ o, res = .inl o → o = out) (hk : ∀ (S' : zm_S) (rc rs : Nat), res = .inr ((), S') → zw p l e room_1 s m #[Value.ref zb] below meth c (lw_Z below #[Value.ref zb] s) 8 zk_E V 601024 7293034 6008 [] [] S' rc rs) (hrec : ∀ (i4' : Int32) (rc rs : Nat) (S : zm_S), k a0 a1 a2 a3 i4' rc rs S = some res → zw p l e room_1 s m #[Value.ref zb] below meth c (lw_Z below #[Value.ref zb] s) 8 zk_E V 601024 7293034 23 [(0, .ref a0), (1, .ref a1), (2, .ref a2), (3, .ref a3), (4, .int i4')] [] S rc rs) {S : zm_S} (h : zf_L_law_J2736 N k a0 a1 a2 a3 i4 rc rs S = some res) : zw p l e room_1 s m #[Value.ref zb] below meth c (lw_Z below #[Value.ref zb] s) 8 zk_E V 601024 7293034 2736 [(0, .ref a0), (1, .ref a1), (2, .ref a2), (3, .ref a3), (4, .int i4)] [] S rc rs := by
  unfold zf_L_law_J2736 at h
  refine zw_aload_n hX dL_law_2736 rfl ?_
  refine zw_aload_n hX dL_law_2737 rfl ?_
  refine zw_iload hX dL_law_2738 rfl ?_
  refine zw_iconst (v := (1 : Int32)) hX dL_law_2740 (by decide) ?_
  refine zw_iadd hX dL_law_2741 ?_
  obtain ⟨v413, g, h⟩ := zb_some h
  refine zw_xi hX dL_law_2742 g ?_
  refine zw_aload_n hX dL_law_2743 rfl ?_
  refine zw_iload hX dL_law_2744 rfl ?_
  refine zw_iconst (v := (2 : Int32)) hX dL_law_2746 (by decide) ?_
  refine zw_iadd hX dL_law_2747 ?_
  obtain ⟨v414, g, h⟩ := zb_some h
  refine zw_xi hX dL_law_2748 g ?_
  refine zw_aload_n hX dL_law_2749 rfl ?_
  refine zw_iload hX dL_law_2750 rfl ?_
  refine zw_iconst (v := (3 : Int32)) hX dL_law_2752 (by decide) ?_
  refine zw_iadd hX dL_law_2753 ?_
  obtain ⟨v415, g, h⟩ := zb_some h
  refine zw_xi hX dL_law_2754 g ?_
  refine zw_aload_n hX dL_law_2755 rfl ?_
  refine zw_iload hX dL_law_2756 rfl ?_
  refine zw_iconst (v := (4 : Int32)) hX dL_law_2758 (by decide) ?_
  refine zw_iadd hX dL_law_2759 ?_
  obtain ⟨v416, g, h⟩ := zb_some h
  refine zw_xi hX dL_law_2760 g ?_
  refine zw_aload_n hX dL_law_2761 rfl ?_
  by_cases hb2762 : 3 ≤ rc ∧ 18 ≤ rs
  · rw [if_pos hb2762] at h
    obtain ⟨r419, g, h⟩ := zb_some h
    refine zc_SH (as := [.ref a1, .int v413, .int v414, .int v415, .int v416, .ref a3]) hX (zt_L_both hlt (d := d - 1) (by omega) g) zl_L_390 dL_law_2762 ⟨rfl, rfl, Nat.le_of_ble_eq_true rfl⟩ ⟨by omega, by omega⟩ hb2762 ?_ ?_
    · rintro _ _ ⟨rfl, rfl⟩
      refine zw_istore hX dL_law_2765 (by decide) ?_
      refine zw_aload_n hX dL_law_2767 rfl ?_
      refine zw_aload_n hX dL_law_2768 rfl ?_
      refine zw_iload hX dL_law_2769 rfl ?_
      refine zw_iconst (v := (1 : Int32)) hX dL_law_2771 (by decide) ?_
      refine zw_iadd hX dL_law_2772 ?_
      obtain ⟨v420, g, h⟩ := zb_some h
      refine zw_xi hX dL_law_2773 g ?_
      refine zw_aload_n hX dL_law_2774 rfl ?_
      refine zw_iload hX dL_law_2775 rfl ?_
      refine zw_iconst (v := (2 : Int32)) hX dL_law_2777 (by decide) ?_
      refine zw_iadd hX dL_law_2778 ?_
      obtain ⟨v421, g, h⟩ := zb_some h
      refine zw_xi hX dL_law_2779 g ?_
      refine zw_aload_n hX dL_law_2780 rfl ?_
      refine zw_iload hX dL_law_2781 rfl ?_
      refine zw_iconst (v := (3 : Int32)) hX dL_law_2783 (by decide) ?_
      refine zw_iadd hX dL_law_2784 ?_
      obtain ⟨v422, g, h⟩ := zb_some h
      refine zw_xi hX dL_law_2785 g ?_
      refine zw_aload_n hX dL_law_2786 rfl ?_
      refine zw_iload hX dL_law_2787 rfl ?_
      refine zw_iconst (v := (4 : Int32)) hX dL_law_2789 (by decide) ?_
      refine zw_iadd hX dL_law_2790 ?_
      obtain ⟨v423, g, h⟩ := zb_some h
      refine zw_xi hX dL_law_2791 g ?_
      obtain ⟨_, gi, h⟩ := zb_some h
      obtain ⟨r425, g, h⟩ := zb_some h
      refine zc_Vi (as := [.int v420, .int v421, .int v422, .int v423]) hX gi (zt_X18_both (d := d - 1) (by omega) g) zl_L_392 rfl dL_law_2792 ⟨rfl, rfl, Nat.le_of_ble_eq_true rfl⟩ ⟨by omega, by omega⟩ ?_
      refine zw_istore hX dL_law_2795 (by decide) ?_
      refine zw_aload_n hX dL_law_2797 rfl ?_
      obtain ⟨_, gi, h⟩ := zb_some h
      obtain ⟨r427, g, h⟩ := zb_some h
      refine zc_Vi (as := []) hX gi (zt_X18_thrown (d := d - 1) (by omega) g) zl_L_281 rfl dL_law_2798 ⟨rfl, rfl, Nat.le_of_ble_eq_true rfl⟩ ⟨by omega, by omega⟩ ?_
      refine zw_iload hX dL_law_2801 rfl ?_
      refine zw_icmp_eq (tgt := 2808) hX dL_law_2803 (by decide) (fun c2803 => ?_) (fun c2803 => ?_)
      · rw [if_pos c2803] at h
        refine zw_iload hX dL_law_2808 rfl ?_
        refine zw_if_ne (tgt := 2825) hX dL_law_2810 (by decide) (fun c2810 => ?_) (fun c2810 => ?_)
        · rw [if_neg c2810] at h
          refine zw_goto (tgt := 6002) hX dL_law_2825 (by decide) ?_
          refine zw_iinc (v := (i4 + (7 : Int32))) hX dL_law_6002 rfl rfl (by decide) ?_
          refine zw_goto (tgt := 23) hX dL_law_6005 (by decide) ?_
          refine zw_sub (lv' := [(0, .ref a0), (1, .ref a1), (2, .ref a2), (3, .ref a3), (4, .int (i4 + (7 : Int32)))]) (List.forall_mem_cons.mpr ⟨rfl, (List.forall_mem_cons.mpr ⟨rfl, (List.forall_mem_cons.mpr ⟨rfl, (List.forall_mem_cons.mpr ⟨rfl, (List.forall_mem_cons.mpr ⟨rfl, zs_nil⟩)⟩)⟩)⟩)⟩) ?_
          exact hrec _ _ _ _ h
        · rw [if_pos c2810] at h
          refine zw_aload_n hX dL_law_2813 rfl ?_
          refine zw_iconst (v := (0 : Int32)) hX dL_law_2814 (by decide) ?_
          obtain ⟨w428, g, h⟩ := zb_some h
          refine zw_xl hX dL_law_2815 g ?_
          refine zw_iload hX dL_law_2816 rfl ?_
          refine zw_i2l hX dL_law_2818 ?_
          refine zw_lcmp hX dL_law_2819 ?_
          refine zw_if_eq (tgt := 2825) hX dL_law_2820 (by decide) (fun c2820 => ?_) (fun c2820 => ?_)
          · rw [if_pos c2820] at h
            refine zw_goto (tgt := 6002) hX dL_law_2825 (by decide) ?_
            refine zw_iinc (v := (i4 + (7 : Int32))) hX dL_law_6002 rfl rfl (by decide) ?_
            refine zw_goto (tgt := 23) hX dL_law_6005 (by decide) ?_
            refine zw_sub (lv' := [(0, .ref a0), (1, .ref a1), (2, .ref a2), (3, .ref a3), (4, .int (i4 + (7 : Int32)))]) (List.forall_mem_cons.mpr ⟨rfl, (List.forall_mem_cons.mpr ⟨rfl, (List.forall_mem_cons.mpr ⟨rfl, (List.forall_mem_cons.mpr ⟨rfl, (List.forall_mem_cons.mpr ⟨rfl, zs_nil⟩)⟩)⟩)⟩)⟩) ?_
            exact hrec _ _ _ _ h
          · rw [if_neg c2820] at h
            refine zw_iconst (v := (0 : Int32)) hX dL_law_2823 (by decide) ?_
            cases h
      · rw [if_neg c2803] at h
        refine zw_iconst (v := (0 : Int32)) hX dL_law_2806 (by decide) ?_
        cases h
    · intro _ _ hx
      exact hx.elim
  · rw [if_neg hb2762] at h
    cases h
set_option maxHeartbeats 4000000 in
set_option maxRecDepth 100000 in
theorem zt_L_law_J2828 {p : Program} {l : Launch} {e : Env} {s : State} {m : MethodId} {zb : Nat} {below : List Frame} {meth : Method} {c : Code} {V : zm_V} {d : Nat} {nm : String} (hlt : l.stackTraces = false) (hV : V.2.2.2.1 = s.heap.size) (hX : zm_X p room_1 s m #[Value.ref zb] meth c RL nm cL_law 8 zk_E V 601024 7293034) (hr : meth.sig.returnType = ret) (hR : d ≤ room_1.frames ∧ 64 * d ≤ room_1.locals) (hd : 46 ≤ d) {N : Nat} {k : Nat → Nat → Nat → Nat → Int32 → Nat → Nat → zm_S → Option ((Int32 × zm_S) ⊕ ((Unit) × zm_S))} {rc rs : Nat} {a0 : Nat} {a1 : Nat} {a2 : Nat} {a3 : Nat} {i4 : Int32} {res : (Int32 × zm_S) ⊕ ((Unit) × zm_S)} {out : (Int32 × zm_S)}   (hf : ∀ o, res = .inl o → o = out) (hk : ∀ (S' : zm_S) (rc rs : Nat), res = .inr ((), S') → zw p l e room_1 s m #[Value.ref zb] below meth c (lw_Z below #[Value.ref zb] s) 8 zk_E V 601024 7293034 6008 [] [] S' rc rs) (hrec : ∀ (i4' : Int32) (rc rs : Nat) (S : zm_S), k a0 a1 a2 a3 i4' rc rs S = some res → zw p l e room_1 s m #[Value.ref zb] below meth c (lw_Z below #[Value.ref zb] s) 8 zk_E V 601024 7293034 23 [(0, .ref a0), (1, .ref a1), (2, .ref a2), (3, .ref a3), (4, .int i4')] [] S rc rs) {S : zm_S} (h : zf_L_law_J2828 N k a0 a1 a2 a3 i4 rc rs S = some res) : zw p l e room_1 s m #[Value.ref zb] below meth c (lw_Z below #[Value.ref zb] s) 8 zk_E V 601024 7293034 2828 [(0, .ref a0), (1, .ref a1), (2, .ref a2), (3, .ref a3), (4, .int i4)] [] S rc rs := by
  unfold zf_L_law_J2828 at h
  refine zw_aload_n hX dL_law_2828 rfl ?_
  refine zw_aload_n hX dL_law_2829 rfl ?_
  refine zw_iload hX dL_law_2830 rfl ?_
  refine zw_iconst (v := (1 : Int32)) hX dL_law_2832 (by decide) ?_
  refine zw_iadd hX dL_law_2833 ?_
  obtain ⟨v429, g, h⟩ := zb_some h
  refine zw_xi hX dL_law_2834 g ?_
  refine zw_aload_n hX dL_law_2835 rfl ?_
  refine zw_iload hX dL_law_2836 rfl ?_
  refine zw_iconst (v := (2 : Int32)) hX dL_law_2838 (by decide) ?_
  refine zw_iadd hX dL_law_2839 ?_
  obtain ⟨v430, g, h⟩ := zb_some h
  refine zw_xi hX dL_law_2840 g ?_
  refine zw_aload_n hX dL_law_2841 rfl ?_
  by_cases hb2842 : 2 ≤ rc ∧ 12 ≤ rs
  · rw [if_pos hb2842] at h
    obtain ⟨r433, g, h⟩ := zb_some h
    refine zc_SH (as := [.ref a1, .int v429, .int v430, .ref a3]) hX (zt_L_where hlt (d := d - 1) (by omega) g) zl_L_393 dL_law_2842 ⟨rfl, rfl, Nat.le_of_ble_eq_true rfl⟩ ⟨by omega, by omega⟩ hb2842 ?_ ?_
    · rintro _ _ ⟨rfl, rfl⟩
      refine zw_istore hX dL_law_2845 (by decide) ?_
      refine zw_aload_n hX dL_law_2847 rfl ?_
      refine zw_aload_n hX dL_law_2848 rfl ?_
      refine zw_iload hX dL_law_2849 rfl ?_
      refine zw_iconst (v := (1 : Int32)) hX dL_law_2851 (by decide) ?_
      refine zw_iadd hX dL_law_2852 ?_
      obtain ⟨v434, g, h⟩ := zb_some h
      refine zw_xi hX dL_law_2853 g ?_
      refine zw_aload_n hX dL_law_2854 rfl ?_
      refine zw_iload hX dL_law_2855 rfl ?_
      refine zw_iconst (v := (2 : Int32)) hX dL_law_2857 (by decide) ?_
      refine zw_iadd hX dL_law_2858 ?_
      obtain ⟨v435, g, h⟩ := zb_some h
      refine zw_xi hX dL_law_2859 g ?_
      obtain ⟨_, gi, h⟩ := zb_some h
      obtain ⟨r437, g, h⟩ := zb_some h
      refine zc_Vi (as := [.int v434, .int v435]) hX gi (zt_X18_where (d := d - 1) (by omega) g) zl_L_395 rfl dL_law_2860 ⟨rfl, rfl, Nat.le_of_ble_eq_true rfl⟩ ⟨by omega, by omega⟩ ?_
      refine zw_istore hX dL_law_2863 (by decide) ?_
      refine zw_aload_n hX dL_law_2865 rfl ?_
      obtain ⟨_, gi, h⟩ := zb_some h
      obtain ⟨r439, g, h⟩ := zb_some h
      refine zc_Vi (as := []) hX gi (zt_X18_thrown (d := d - 1) (by omega) g) zl_L_281 rfl dL_law_2866 ⟨rfl, rfl, Nat.le_of_ble_eq_true rfl⟩ ⟨by omega, by omega⟩ ?_
      refine zw_iload hX dL_law_2869 rfl ?_
      refine zw_icmp_eq (tgt := 2876) hX dL_law_2871 (by decide) (fun c2871 => ?_) (fun c2871 => ?_)
      · rw [if_pos c2871] at h
        refine zw_iload hX dL_law_2876 rfl ?_
        refine zw_if_ne (tgt := 2893) hX dL_law_2878 (by decide) (fun c2878 => ?_) (fun c2878 => ?_)
        · rw [if_neg c2878] at h
          refine zw_goto (tgt := 6002) hX dL_law_2893 (by decide) ?_
          refine zw_iinc (v := (i4 + (7 : Int32))) hX dL_law_6002 rfl rfl (by decide) ?_
          refine zw_goto (tgt := 23) hX dL_law_6005 (by decide) ?_
          refine zw_sub (lv' := [(0, .ref a0), (1, .ref a1), (2, .ref a2), (3, .ref a3), (4, .int (i4 + (7 : Int32)))]) (List.forall_mem_cons.mpr ⟨rfl, (List.forall_mem_cons.mpr ⟨rfl, (List.forall_mem_cons.mpr ⟨rfl, (List.forall_mem_cons.mpr ⟨rfl, (List.forall_mem_cons.mpr ⟨rfl, zs_nil⟩)⟩)⟩)⟩)⟩) ?_
          exact hrec _ _ _ _ h
        · rw [if_pos c2878] at h
          refine zw_aload_n hX dL_law_2881 rfl ?_
          refine zw_iconst (v := (0 : Int32)) hX dL_law_2882 (by decide) ?_
          obtain ⟨w440, g, h⟩ := zb_some h
          refine zw_xl hX dL_law_2883 g ?_
          refine zw_iload hX dL_law_2884 rfl ?_
          refine zw_i2l hX dL_law_2886 ?_
          refine zw_lcmp hX dL_law_2887 ?_
          refine zw_if_eq (tgt := 2893) hX dL_law_2888 (by decide) (fun c2888 => ?_) (fun c2888 => ?_)
          · rw [if_pos c2888] at h
            refine zw_goto (tgt := 6002) hX dL_law_2893 (by decide) ?_
            refine zw_iinc (v := (i4 + (7 : Int32))) hX dL_law_6002 rfl rfl (by decide) ?_
            refine zw_goto (tgt := 23) hX dL_law_6005 (by decide) ?_
            refine zw_sub (lv' := [(0, .ref a0), (1, .ref a1), (2, .ref a2), (3, .ref a3), (4, .int (i4 + (7 : Int32)))]) (List.forall_mem_cons.mpr ⟨rfl, (List.forall_mem_cons.mpr ⟨rfl, (List.forall_mem_cons.mpr ⟨rfl, (List.forall_mem_cons.mpr ⟨rfl, (List.forall_mem_cons.mpr ⟨rfl, zs_nil⟩)⟩)⟩)⟩)⟩) ?_
            exact hrec _ _ _ _ h
          · rw [if_neg c2888] at h
            refine zw_iconst (v := (0 : Int32)) hX dL_law_2891 (by decide) ?_
            cases h
      · rw [if_neg c2871] at h
        refine zw_iconst (v := (0 : Int32)) hX dL_law_2874 (by decide) ?_
        cases h
    · intro _ _ hx
      exact hx.elim
  · rw [if_neg hb2842] at h
    cases h
set_option maxHeartbeats 4000000 in
set_option maxRecDepth 100000 in
theorem zt_L_law_J2896 {p : Program} {l : Launch} {e : Env} {s : State} {m : MethodId} {zb : Nat} {below : List Frame} {meth : Method} {c : Code} {V : zm_V} {d : Nat} {nm : String} (hlt : l.stackTraces = false) (hV : V.2.2.2.1 = s.heap.size) (hX : zm_X p room_1 s m #[Value.ref zb] meth c RL nm cL_law 8 zk_E V 601024 7293034) (hr : meth.sig.returnType = ret) (hR : d ≤ room_1.frames ∧ 64 * d ≤ room_1.locals) (hd : 46 ≤ d) {N : Nat} {k : Nat → Nat → Nat → Nat → Int32 → Nat → Nat → zm_S → Option ((Int32 × zm_S) ⊕ ((Unit) × zm_S))} {rc rs : Nat} {a0 : Nat} {a1 : Nat} {a2 : Nat} {a3 : Nat} {i4 : Int32} {res : (Int32 × zm_S) ⊕ ((Unit) × zm_S)} {out : (Int32 × zm_S)}   (hf : ∀ o, res = .inl o → o = out) (hk : ∀ (S' : zm_S) (rc rs : Nat), res = .inr ((), S') → zw p l e room_1 s m #[Value.ref zb] below meth c (lw_Z below #[Value.ref zb] s) 8 zk_E V 601024 7293034 6008 [] [] S' rc rs) (hrec : ∀ (i4' : Int32) (rc rs : Nat) (S : zm_S), k a0 a1 a2 a3 i4' rc rs S = some res → zw p l e room_1 s m #[Value.ref zb] below meth c (lw_Z below #[Value.ref zb] s) 8 zk_E V 601024 7293034 23 [(0, .ref a0), (1, .ref a1), (2, .ref a2), (3, .ref a3), (4, .int i4')] [] S rc rs) {S : zm_S} (h : zf_L_law_J2896 N k a0 a1 a2 a3 i4 rc rs S = some res) : zw p l e room_1 s m #[Value.ref zb] below meth c (lw_Z below #[Value.ref zb] s) 8 zk_E V 601024 7293034 2896 [(0, .ref a0), (1, .ref a1), (2, .ref a2), (3, .ref a3), (4, .int i4)] [] S rc rs := by
  unfold zf_L_law_J2896 at h
  refine zw_aload_n hX dL_law_2896 rfl ?_
  refine zw_aload_n hX dL_law_2897 rfl ?_
  refine zw_iload hX dL_law_2898 rfl ?_
  refine zw_iconst (v := (1 : Int32)) hX dL_law_2900 (by decide) ?_
  refine zw_iadd hX dL_law_2901 ?_
  obtain ⟨v441, g, h⟩ := zb_some h
  refine zw_xi hX dL_law_2902 g ?_
  refine zw_aload_n hX dL_law_2903 rfl ?_
  by_cases hb2904 : 2 ≤ rc ∧ 12 ≤ rs
  · rw [if_pos hb2904] at h
    obtain ⟨r444, g, h⟩ := zb_some h
    refine zc_SH (as := [.ref a1, .int v441, .ref a3]) hX (zt_L_inside hlt (d := d - 1) (by omega) g) zl_L_396 dL_law_2904 ⟨rfl, rfl, Nat.le_of_ble_eq_true rfl⟩ ⟨by omega, by omega⟩ hb2904 ?_ ?_
    · rintro _ _ ⟨rfl, rfl⟩
      refine zw_istore hX dL_law_2907 (by decide) ?_
      refine zw_aload_n hX dL_law_2909 rfl ?_
      refine zw_aload_n hX dL_law_2910 rfl ?_
      refine zw_iload hX dL_law_2911 rfl ?_
      refine zw_iconst (v := (1 : Int32)) hX dL_law_2913 (by decide) ?_
      refine zw_iadd hX dL_law_2914 ?_
      obtain ⟨v445, g, h⟩ := zb_some h
      refine zw_xi hX dL_law_2915 g ?_
      obtain ⟨_, gi, h⟩ := zb_some h
      obtain ⟨r447, g, h⟩ := zb_some h
      refine zc_Vi (as := [.int v445]) hX gi (zt_X18_inside (d := d - 1) (by omega) g) zl_L_398 rfl dL_law_2916 ⟨rfl, rfl, Nat.le_of_ble_eq_true rfl⟩ ⟨by omega, by omega⟩ ?_
      refine zw_istore hX dL_law_2919 (by decide) ?_
      refine zw_aload_n hX dL_law_2921 rfl ?_
      obtain ⟨_, gi, h⟩ := zb_some h
      obtain ⟨r449, g, h⟩ := zb_some h
      refine zc_Vi (as := []) hX gi (zt_X18_thrown (d := d - 1) (by omega) g) zl_L_281 rfl dL_law_2922 ⟨rfl, rfl, Nat.le_of_ble_eq_true rfl⟩ ⟨by omega, by omega⟩ ?_
      refine zw_iload hX dL_law_2925 rfl ?_
      refine zw_icmp_eq (tgt := 2932) hX dL_law_2927 (by decide) (fun c2927 => ?_) (fun c2927 => ?_)
      · rw [if_pos c2927] at h
        refine zw_iload hX dL_law_2932 rfl ?_
        refine zw_if_ne (tgt := 2949) hX dL_law_2934 (by decide) (fun c2934 => ?_) (fun c2934 => ?_)
        · rw [if_neg c2934] at h
          refine zw_goto (tgt := 6002) hX dL_law_2949 (by decide) ?_
          refine zw_iinc (v := (i4 + (7 : Int32))) hX dL_law_6002 rfl rfl (by decide) ?_
          refine zw_goto (tgt := 23) hX dL_law_6005 (by decide) ?_
          refine zw_sub (lv' := [(0, .ref a0), (1, .ref a1), (2, .ref a2), (3, .ref a3), (4, .int (i4 + (7 : Int32)))]) (List.forall_mem_cons.mpr ⟨rfl, (List.forall_mem_cons.mpr ⟨rfl, (List.forall_mem_cons.mpr ⟨rfl, (List.forall_mem_cons.mpr ⟨rfl, (List.forall_mem_cons.mpr ⟨rfl, zs_nil⟩)⟩)⟩)⟩)⟩) ?_
          exact hrec _ _ _ _ h
        · rw [if_pos c2934] at h
          refine zw_aload_n hX dL_law_2937 rfl ?_
          refine zw_iconst (v := (0 : Int32)) hX dL_law_2938 (by decide) ?_
          obtain ⟨w450, g, h⟩ := zb_some h
          refine zw_xl hX dL_law_2939 g ?_
          refine zw_iload hX dL_law_2940 rfl ?_
          refine zw_i2l hX dL_law_2942 ?_
          refine zw_lcmp hX dL_law_2943 ?_
          refine zw_if_eq (tgt := 2949) hX dL_law_2944 (by decide) (fun c2944 => ?_) (fun c2944 => ?_)
          · rw [if_pos c2944] at h
            refine zw_goto (tgt := 6002) hX dL_law_2949 (by decide) ?_
            refine zw_iinc (v := (i4 + (7 : Int32))) hX dL_law_6002 rfl rfl (by decide) ?_
            refine zw_goto (tgt := 23) hX dL_law_6005 (by decide) ?_
            refine zw_sub (lv' := [(0, .ref a0), (1, .ref a1), (2, .ref a2), (3, .ref a3), (4, .int (i4 + (7 : Int32)))]) (List.forall_mem_cons.mpr ⟨rfl, (List.forall_mem_cons.mpr ⟨rfl, (List.forall_mem_cons.mpr ⟨rfl, (List.forall_mem_cons.mpr ⟨rfl, (List.forall_mem_cons.mpr ⟨rfl, zs_nil⟩)⟩)⟩)⟩)⟩) ?_
            exact hrec _ _ _ _ h
          · rw [if_neg c2944] at h
            refine zw_iconst (v := (0 : Int32)) hX dL_law_2947 (by decide) ?_
            cases h
      · rw [if_neg c2927] at h
        refine zw_iconst (v := (0 : Int32)) hX dL_law_2930 (by decide) ?_
        cases h
    · intro _ _ hx
      exact hx.elim
  · rw [if_neg hb2904] at h
    cases h
set_option maxHeartbeats 4000000 in
set_option maxRecDepth 100000 in
theorem zt_L_law_J2952 {p : Program} {l : Launch} {e : Env} {s : State} {m : MethodId} {zb : Nat} {below : List Frame} {meth : Method} {c : Code} {V : zm_V} {d : Nat} {nm : String} (hlt : l.stackTraces = false) (hV : V.2.2.2.1 = s.heap.size) (hX : zm_X p room_1 s m #[Value.ref zb] meth c RL nm cL_law 8 zk_E V 601024 7293034) (hr : meth.sig.returnType = ret) (hR : d ≤ room_1.frames ∧ 64 * d ≤ room_1.locals) (hd : 46 ≤ d) {N : Nat} {k : Nat → Nat → Nat → Nat → Int32 → Nat → Nat → zm_S → Option ((Int32 × zm_S) ⊕ ((Unit) × zm_S))} {rc rs : Nat} {a0 : Nat} {a1 : Nat} {a2 : Nat} {a3 : Nat} {i4 : Int32} {res : (Int32 × zm_S) ⊕ ((Unit) × zm_S)} {out : (Int32 × zm_S)}   (hf : ∀ o, res = .inl o → o = out) (hk : ∀ (S' : zm_S) (rc rs : Nat), res = .inr ((), S') → zw p l e room_1 s m #[Value.ref zb] below meth c (lw_Z below #[Value.ref zb] s) 8 zk_E V 601024 7293034 6008 [] [] S' rc rs) (hrec : ∀ (i4' : Int32) (rc rs : Nat) (S : zm_S), k a0 a1 a2 a3 i4' rc rs S = some res → zw p l e room_1 s m #[Value.ref zb] below meth c (lw_Z below #[Value.ref zb] s) 8 zk_E V 601024 7293034 23 [(0, .ref a0), (1, .ref a1), (2, .ref a2), (3, .ref a3), (4, .int i4')] [] S rc rs) {S : zm_S} (h : zf_L_law_J2952 N k a0 a1 a2 a3 i4 rc rs S = some res) : zw p l e room_1 s m #[Value.ref zb] below meth c (lw_Z below #[Value.ref zb] s) 8 zk_E V 601024 7293034 2952 [(0, .ref a0), (1, .ref a1), (2, .ref a2), (3, .ref a3), (4, .int i4)] [] S rc rs := by
  unfold zf_L_law_J2952 at h
  refine zw_aload_n hX dL_law_2952 rfl ?_
  refine zw_aload_n hX dL_law_2953 rfl ?_
  refine zw_iload hX dL_law_2954 rfl ?_
  refine zw_iconst (v := (1 : Int32)) hX dL_law_2956 (by decide) ?_
  refine zw_iadd hX dL_law_2957 ?_
  obtain ⟨v451, g, h⟩ := zb_some h
  refine zw_xi hX dL_law_2958 g ?_
  refine zw_aload_n hX dL_law_2959 rfl ?_
  refine zw_iload hX dL_law_2960 rfl ?_
  refine zw_iconst (v := (2 : Int32)) hX dL_law_2962 (by decide) ?_
  refine zw_iadd hX dL_law_2963 ?_
  obtain ⟨v452, g, h⟩ := zb_some h
  refine zw_xi hX dL_law_2964 g ?_
  refine zw_aload_n hX dL_law_2965 rfl ?_
  by_cases hb2966 : 2 ≤ rc ∧ 12 ≤ rs
  · rw [if_pos hb2966] at h
    obtain ⟨r455, g, h⟩ := zb_some h
    refine zc_SH (as := [.ref a1, .int v451, .int v452, .ref a3]) hX (zt_L_against hlt (d := d - 1) (by omega) g) zl_L_399 dL_law_2966 ⟨rfl, rfl, Nat.le_of_ble_eq_true rfl⟩ ⟨by omega, by omega⟩ hb2966 ?_ ?_
    · rintro _ _ ⟨rfl, rfl⟩
      refine zw_istore hX dL_law_2969 (by decide) ?_
      refine zw_aload_n hX dL_law_2971 rfl ?_
      refine zw_aload_n hX dL_law_2972 rfl ?_
      refine zw_iload hX dL_law_2973 rfl ?_
      refine zw_iconst (v := (1 : Int32)) hX dL_law_2975 (by decide) ?_
      refine zw_iadd hX dL_law_2976 ?_
      obtain ⟨v456, g, h⟩ := zb_some h
      refine zw_xi hX dL_law_2977 g ?_
      refine zw_aload_n hX dL_law_2978 rfl ?_
      refine zw_iload hX dL_law_2979 rfl ?_
      refine zw_iconst (v := (2 : Int32)) hX dL_law_2981 (by decide) ?_
      refine zw_iadd hX dL_law_2982 ?_
      obtain ⟨v457, g, h⟩ := zb_some h
      refine zw_xi hX dL_law_2983 g ?_
      obtain ⟨_, gi, h⟩ := zb_some h
      obtain ⟨r459, g, h⟩ := zb_some h
      refine zc_Vi (as := [.int v456, .int v457]) hX gi (zt_X18_against (d := d - 1) (by omega) g) zl_L_401 rfl dL_law_2984 ⟨rfl, rfl, Nat.le_of_ble_eq_true rfl⟩ ⟨by omega, by omega⟩ ?_
      refine zw_istore hX dL_law_2987 (by decide) ?_
      refine zw_aload_n hX dL_law_2989 rfl ?_
      obtain ⟨_, gi, h⟩ := zb_some h
      obtain ⟨r461, g, h⟩ := zb_some h
      refine zc_Vi (as := []) hX gi (zt_X18_thrown (d := d - 1) (by omega) g) zl_L_281 rfl dL_law_2990 ⟨rfl, rfl, Nat.le_of_ble_eq_true rfl⟩ ⟨by omega, by omega⟩ ?_
      refine zw_iload hX dL_law_2993 rfl ?_
      refine zw_icmp_eq (tgt := 3000) hX dL_law_2995 (by decide) (fun c2995 => ?_) (fun c2995 => ?_)
      · rw [if_pos c2995] at h
        refine zw_iload hX dL_law_3000 rfl ?_
        refine zw_if_ne (tgt := 3017) hX dL_law_3002 (by decide) (fun c3002 => ?_) (fun c3002 => ?_)
        · rw [if_neg c3002] at h
          refine zw_goto (tgt := 6002) hX dL_law_3017 (by decide) ?_
          refine zw_iinc (v := (i4 + (7 : Int32))) hX dL_law_6002 rfl rfl (by decide) ?_
          refine zw_goto (tgt := 23) hX dL_law_6005 (by decide) ?_
          refine zw_sub (lv' := [(0, .ref a0), (1, .ref a1), (2, .ref a2), (3, .ref a3), (4, .int (i4 + (7 : Int32)))]) (List.forall_mem_cons.mpr ⟨rfl, (List.forall_mem_cons.mpr ⟨rfl, (List.forall_mem_cons.mpr ⟨rfl, (List.forall_mem_cons.mpr ⟨rfl, (List.forall_mem_cons.mpr ⟨rfl, zs_nil⟩)⟩)⟩)⟩)⟩) ?_
          exact hrec _ _ _ _ h
        · rw [if_pos c3002] at h
          refine zw_aload_n hX dL_law_3005 rfl ?_
          refine zw_iconst (v := (0 : Int32)) hX dL_law_3006 (by decide) ?_
          obtain ⟨w462, g, h⟩ := zb_some h
          refine zw_xl hX dL_law_3007 g ?_
          refine zw_iload hX dL_law_3008 rfl ?_
          refine zw_i2l hX dL_law_3010 ?_
          refine zw_lcmp hX dL_law_3011 ?_
          refine zw_if_eq (tgt := 3017) hX dL_law_3012 (by decide) (fun c3012 => ?_) (fun c3012 => ?_)
          · rw [if_pos c3012] at h
            refine zw_goto (tgt := 6002) hX dL_law_3017 (by decide) ?_
            refine zw_iinc (v := (i4 + (7 : Int32))) hX dL_law_6002 rfl rfl (by decide) ?_
            refine zw_goto (tgt := 23) hX dL_law_6005 (by decide) ?_
            refine zw_sub (lv' := [(0, .ref a0), (1, .ref a1), (2, .ref a2), (3, .ref a3), (4, .int (i4 + (7 : Int32)))]) (List.forall_mem_cons.mpr ⟨rfl, (List.forall_mem_cons.mpr ⟨rfl, (List.forall_mem_cons.mpr ⟨rfl, (List.forall_mem_cons.mpr ⟨rfl, (List.forall_mem_cons.mpr ⟨rfl, zs_nil⟩)⟩)⟩)⟩)⟩) ?_
            exact hrec _ _ _ _ h
          · rw [if_neg c3012] at h
            refine zw_iconst (v := (0 : Int32)) hX dL_law_3015 (by decide) ?_
            cases h
      · rw [if_neg c2995] at h
        refine zw_iconst (v := (0 : Int32)) hX dL_law_2998 (by decide) ?_
        cases h
    · intro _ _ hx
      exact hx.elim
  · rw [if_neg hb2966] at h
    cases h
set_option maxHeartbeats 4000000 in
set_option maxRecDepth 100000 in
theorem zt_L_law_J3020 {p : Program} {l : Launch} {e : Env} {s : State} {m : MethodId} {zb : Nat} {below : List Frame} {meth : Method} {c : Code} {V : zm_V} {d : Nat} {nm : String} (hlt : l.stackTraces = false) (hV : V.2.2.2.1 = s.heap.size) (hX : zm_X p room_1 s m #[Value.ref zb] meth c RL nm cL_law 8 zk_E V 601024 7293034) (hr : meth.sig.returnType = ret) (hR : d ≤ room_1.frames ∧ 64 * d ≤ room_1.locals) (hd : 46 ≤ d) {N : Nat} {k : Nat → Nat → Nat → Nat → Int32 → Nat → Nat → zm_S → Option ((Int32 × zm_S) ⊕ ((Unit) × zm_S))} {rc rs : Nat} {a0 : Nat} {a1 : Nat} {a2 : Nat} {a3 : Nat} {i4 : Int32} {res : (Int32 × zm_S) ⊕ ((Unit) × zm_S)} {out : (Int32 × zm_S)}   (hf : ∀ o, res = .inl o → o = out) (hk : ∀ (S' : zm_S) (rc rs : Nat), res = .inr ((), S') → zw p l e room_1 s m #[Value.ref zb] below meth c (lw_Z below #[Value.ref zb] s) 8 zk_E V 601024 7293034 6008 [] [] S' rc rs) (hrec : ∀ (i4' : Int32) (rc rs : Nat) (S : zm_S), k a0 a1 a2 a3 i4' rc rs S = some res → zw p l e room_1 s m #[Value.ref zb] below meth c (lw_Z below #[Value.ref zb] s) 8 zk_E V 601024 7293034 23 [(0, .ref a0), (1, .ref a1), (2, .ref a2), (3, .ref a3), (4, .int i4')] [] S rc rs) {S : zm_S} (h : zf_L_law_J3020 N k a0 a1 a2 a3 i4 rc rs S = some res) : zw p l e room_1 s m #[Value.ref zb] below meth c (lw_Z below #[Value.ref zb] s) 8 zk_E V 601024 7293034 3020 [(0, .ref a0), (1, .ref a1), (2, .ref a2), (3, .ref a3), (4, .int i4)] [] S rc rs := by
  unfold zf_L_law_J3020 at h
  refine zw_aload_n hX dL_law_3020 rfl ?_
  refine zw_aload_n hX dL_law_3021 rfl ?_
  refine zw_iload hX dL_law_3022 rfl ?_
  refine zw_iconst (v := (1 : Int32)) hX dL_law_3024 (by decide) ?_
  refine zw_iadd hX dL_law_3025 ?_
  obtain ⟨v463, g, h⟩ := zb_some h
  refine zw_xi hX dL_law_3026 g ?_
  refine zw_aload_n hX dL_law_3027 rfl ?_
  by_cases hb3028 : 2 ≤ rc ∧ 12 ≤ rs
  · rw [if_pos hb3028] at h
    obtain ⟨r466, g, h⟩ := zb_some h
    refine zc_SH (as := [.ref a1, .int v463, .ref a3]) hX (zt_L_unit hlt (d := d - 1) (by omega) g) zl_L_402 dL_law_3028 ⟨rfl, rfl, Nat.le_of_ble_eq_true rfl⟩ ⟨by omega, by omega⟩ hb3028 ?_ ?_
    · rintro _ _ ⟨rfl, rfl⟩
      refine zw_istore hX dL_law_3031 (by decide) ?_
      refine zw_aload_n hX dL_law_3033 rfl ?_
      refine zw_aload_n hX dL_law_3034 rfl ?_
      refine zw_iload hX dL_law_3035 rfl ?_
      refine zw_iconst (v := (1 : Int32)) hX dL_law_3037 (by decide) ?_
      refine zw_iadd hX dL_law_3038 ?_
      obtain ⟨v467, g, h⟩ := zb_some h
      refine zw_xi hX dL_law_3039 g ?_
      obtain ⟨_, gi, h⟩ := zb_some h
      obtain ⟨r469, g, h⟩ := zb_some h
      refine zc_Vi (as := [.int v467]) hX gi (zt_X18_unit (d := d - 1) (by omega) g) zl_L_404 rfl dL_law_3040 ⟨rfl, rfl, Nat.le_of_ble_eq_true rfl⟩ ⟨by omega, by omega⟩ ?_
      refine zw_istore hX dL_law_3043 (by decide) ?_
      refine zw_aload_n hX dL_law_3045 rfl ?_
      obtain ⟨_, gi, h⟩ := zb_some h
      obtain ⟨r471, g, h⟩ := zb_some h
      refine zc_Vi (as := []) hX gi (zt_X18_thrown (d := d - 1) (by omega) g) zl_L_281 rfl dL_law_3046 ⟨rfl, rfl, Nat.le_of_ble_eq_true rfl⟩ ⟨by omega, by omega⟩ ?_
      refine zw_iload hX dL_law_3049 rfl ?_
      refine zw_icmp_eq (tgt := 3056) hX dL_law_3051 (by decide) (fun c3051 => ?_) (fun c3051 => ?_)
      · rw [if_pos c3051] at h
        refine zw_iload hX dL_law_3056 rfl ?_
        refine zw_if_ne (tgt := 3073) hX dL_law_3058 (by decide) (fun c3058 => ?_) (fun c3058 => ?_)
        · rw [if_neg c3058] at h
          refine zw_goto (tgt := 6002) hX dL_law_3073 (by decide) ?_
          refine zw_iinc (v := (i4 + (7 : Int32))) hX dL_law_6002 rfl rfl (by decide) ?_
          refine zw_goto (tgt := 23) hX dL_law_6005 (by decide) ?_
          refine zw_sub (lv' := [(0, .ref a0), (1, .ref a1), (2, .ref a2), (3, .ref a3), (4, .int (i4 + (7 : Int32)))]) (List.forall_mem_cons.mpr ⟨rfl, (List.forall_mem_cons.mpr ⟨rfl, (List.forall_mem_cons.mpr ⟨rfl, (List.forall_mem_cons.mpr ⟨rfl, (List.forall_mem_cons.mpr ⟨rfl, zs_nil⟩)⟩)⟩)⟩)⟩) ?_
          exact hrec _ _ _ _ h
        · rw [if_pos c3058] at h
          refine zw_aload_n hX dL_law_3061 rfl ?_
          refine zw_iconst (v := (0 : Int32)) hX dL_law_3062 (by decide) ?_
          obtain ⟨w472, g, h⟩ := zb_some h
          refine zw_xl hX dL_law_3063 g ?_
          refine zw_iload hX dL_law_3064 rfl ?_
          refine zw_i2l hX dL_law_3066 ?_
          refine zw_lcmp hX dL_law_3067 ?_
          refine zw_if_eq (tgt := 3073) hX dL_law_3068 (by decide) (fun c3068 => ?_) (fun c3068 => ?_)
          · rw [if_pos c3068] at h
            refine zw_goto (tgt := 6002) hX dL_law_3073 (by decide) ?_
            refine zw_iinc (v := (i4 + (7 : Int32))) hX dL_law_6002 rfl rfl (by decide) ?_
            refine zw_goto (tgt := 23) hX dL_law_6005 (by decide) ?_
            refine zw_sub (lv' := [(0, .ref a0), (1, .ref a1), (2, .ref a2), (3, .ref a3), (4, .int (i4 + (7 : Int32)))]) (List.forall_mem_cons.mpr ⟨rfl, (List.forall_mem_cons.mpr ⟨rfl, (List.forall_mem_cons.mpr ⟨rfl, (List.forall_mem_cons.mpr ⟨rfl, (List.forall_mem_cons.mpr ⟨rfl, zs_nil⟩)⟩)⟩)⟩)⟩) ?_
            exact hrec _ _ _ _ h
          · rw [if_neg c3068] at h
            refine zw_iconst (v := (0 : Int32)) hX dL_law_3071 (by decide) ?_
            cases h
      · rw [if_neg c3051] at h
        refine zw_iconst (v := (0 : Int32)) hX dL_law_3054 (by decide) ?_
        cases h
    · intro _ _ hx
      exact hx.elim
  · rw [if_neg hb3028] at h
    cases h
set_option maxHeartbeats 4000000 in
set_option maxRecDepth 100000 in
theorem zt_L_law_J3076 {p : Program} {l : Launch} {e : Env} {s : State} {m : MethodId} {zb : Nat} {below : List Frame} {meth : Method} {c : Code} {V : zm_V} {d : Nat} {nm : String} (hlt : l.stackTraces = false) (hV : V.2.2.2.1 = s.heap.size) (hX : zm_X p room_1 s m #[Value.ref zb] meth c RL nm cL_law 8 zk_E V 601024 7293034) (hr : meth.sig.returnType = ret) (hR : d ≤ room_1.frames ∧ 64 * d ≤ room_1.locals) (hd : 46 ≤ d) {N : Nat} {k : Nat → Nat → Nat → Nat → Int32 → Nat → Nat → zm_S → Option ((Int32 × zm_S) ⊕ ((Unit) × zm_S))} {rc rs : Nat} {a0 : Nat} {a1 : Nat} {a2 : Nat} {a3 : Nat} {i4 : Int32} {res : (Int32 × zm_S) ⊕ ((Unit) × zm_S)} {out : (Int32 × zm_S)}   (hf : ∀ o, res = .inl o → o = out) (hk : ∀ (S' : zm_S) (rc rs : Nat), res = .inr ((), S') → zw p l e room_1 s m #[Value.ref zb] below meth c (lw_Z below #[Value.ref zb] s) 8 zk_E V 601024 7293034 6008 [] [] S' rc rs) (hrec : ∀ (i4' : Int32) (rc rs : Nat) (S : zm_S), k a0 a1 a2 a3 i4' rc rs S = some res → zw p l e room_1 s m #[Value.ref zb] below meth c (lw_Z below #[Value.ref zb] s) 8 zk_E V 601024 7293034 23 [(0, .ref a0), (1, .ref a1), (2, .ref a2), (3, .ref a3), (4, .int i4')] [] S rc rs) {S : zm_S} (h : zf_L_law_J3076 N k a0 a1 a2 a3 i4 rc rs S = some res) : zw p l e room_1 s m #[Value.ref zb] below meth c (lw_Z below #[Value.ref zb] s) 8 zk_E V 601024 7293034 3076 [(0, .ref a0), (1, .ref a1), (2, .ref a2), (3, .ref a3), (4, .int i4)] [] S rc rs := by
  unfold zf_L_law_J3076 at h
  refine zw_aload_n hX dL_law_3076 rfl ?_
  refine zw_aload_n hX dL_law_3077 rfl ?_
  refine zw_iload hX dL_law_3078 rfl ?_
  refine zw_iconst (v := (1 : Int32)) hX dL_law_3080 (by decide) ?_
  refine zw_iadd hX dL_law_3081 ?_
  obtain ⟨v473, g, h⟩ := zb_some h
  refine zw_xi hX dL_law_3082 g ?_
  refine zw_aload_n hX dL_law_3083 rfl ?_
  refine zw_iload hX dL_law_3084 rfl ?_
  refine zw_iconst (v := (2 : Int32)) hX dL_law_3086 (by decide) ?_
  refine zw_iadd hX dL_law_3087 ?_
  obtain ⟨v474, g, h⟩ := zb_some h
  refine zw_xi hX dL_law_3088 g ?_
  refine zw_aload_n hX dL_law_3089 rfl ?_
  refine zw_iload hX dL_law_3090 rfl ?_
  refine zw_iconst (v := (3 : Int32)) hX dL_law_3092 (by decide) ?_
  refine zw_iadd hX dL_law_3093 ?_
  obtain ⟨v475, g, h⟩ := zb_some h
  refine zw_xi hX dL_law_3094 g ?_
  refine zw_aload_n hX dL_law_3095 rfl ?_
  refine zw_iload hX dL_law_3096 rfl ?_
  refine zw_iconst (v := (4 : Int32)) hX dL_law_3098 (by decide) ?_
  refine zw_iadd hX dL_law_3099 ?_
  obtain ⟨v476, g, h⟩ := zb_some h
  refine zw_xi hX dL_law_3100 g ?_
  refine zw_aload_n hX dL_law_3101 rfl ?_
  refine zw_iload hX dL_law_3102 rfl ?_
  refine zw_iconst (v := (5 : Int32)) hX dL_law_3104 (by decide) ?_
  refine zw_iadd hX dL_law_3105 ?_
  obtain ⟨v477, g, h⟩ := zb_some h
  refine zw_xi hX dL_law_3106 g ?_
  refine zw_aload_n hX dL_law_3107 rfl ?_
  by_cases hb3108 : 2 ≤ rc ∧ 12 ≤ rs
  · rw [if_pos hb3108] at h
    obtain ⟨r480, g, h⟩ := zb_some h
    refine zc_SH (as := [.ref a1, .int v473, .int v474, .int v475, .int v476, .int v477, .ref a3]) hX (zt_L_sentence hlt (d := d - 1) (by omega) g) zl_L_405 dL_law_3108 ⟨rfl, rfl, Nat.le_of_ble_eq_true rfl⟩ ⟨by omega, by omega⟩ hb3108 ?_ ?_
    · rintro _ _ ⟨rfl, rfl⟩
      refine zw_istore hX dL_law_3111 (by decide) ?_
      refine zw_aload_n hX dL_law_3113 rfl ?_
      refine zw_aload_n hX dL_law_3114 rfl ?_
      refine zw_iload hX dL_law_3115 rfl ?_
      refine zw_iconst (v := (1 : Int32)) hX dL_law_3117 (by decide) ?_
      refine zw_iadd hX dL_law_3118 ?_
      obtain ⟨v481, g, h⟩ := zb_some h
      refine zw_xi hX dL_law_3119 g ?_
      refine zw_aload_n hX dL_law_3120 rfl ?_
      refine zw_iload hX dL_law_3121 rfl ?_
      refine zw_iconst (v := (2 : Int32)) hX dL_law_3123 (by decide) ?_
      refine zw_iadd hX dL_law_3124 ?_
      obtain ⟨v482, g, h⟩ := zb_some h
      refine zw_xi hX dL_law_3125 g ?_
      refine zw_aload_n hX dL_law_3126 rfl ?_
      refine zw_iload hX dL_law_3127 rfl ?_
      refine zw_iconst (v := (3 : Int32)) hX dL_law_3129 (by decide) ?_
      refine zw_iadd hX dL_law_3130 ?_
      obtain ⟨v483, g, h⟩ := zb_some h
      refine zw_xi hX dL_law_3131 g ?_
      refine zw_aload_n hX dL_law_3132 rfl ?_
      refine zw_iload hX dL_law_3133 rfl ?_
      refine zw_iconst (v := (4 : Int32)) hX dL_law_3135 (by decide) ?_
      refine zw_iadd hX dL_law_3136 ?_
      obtain ⟨v484, g, h⟩ := zb_some h
      refine zw_xi hX dL_law_3137 g ?_
      refine zw_aload_n hX dL_law_3138 rfl ?_
      refine zw_iload hX dL_law_3139 rfl ?_
      refine zw_iconst (v := (5 : Int32)) hX dL_law_3141 (by decide) ?_
      refine zw_iadd hX dL_law_3142 ?_
      obtain ⟨v485, g, h⟩ := zb_some h
      refine zw_xi hX dL_law_3143 g ?_
      obtain ⟨_, gi, h⟩ := zb_some h
      obtain ⟨r487, g, h⟩ := zb_some h
      refine zc_Vi (as := [.int v481, .int v482, .int v483, .int v484, .int v485]) hX gi (zt_X18_sentence (d := d - 1) (by omega) g) zl_L_407 rfl dL_law_3144 ⟨rfl, rfl, Nat.le_of_ble_eq_true rfl⟩ ⟨by omega, by omega⟩ ?_
      refine zw_istore hX dL_law_3147 (by decide) ?_
      refine zw_aload_n hX dL_law_3149 rfl ?_
      obtain ⟨_, gi, h⟩ := zb_some h
      obtain ⟨r489, g, h⟩ := zb_some h
      refine zc_Vi (as := []) hX gi (zt_X18_thrown (d := d - 1) (by omega) g) zl_L_281 rfl dL_law_3150 ⟨rfl, rfl, Nat.le_of_ble_eq_true rfl⟩ ⟨by omega, by omega⟩ ?_
      refine zw_iload hX dL_law_3153 rfl ?_
      refine zw_icmp_eq (tgt := 3160) hX dL_law_3155 (by decide) (fun c3155 => ?_) (fun c3155 => ?_)
      · rw [if_pos c3155] at h
        refine zw_iload hX dL_law_3160 rfl ?_
        refine zw_if_ne (tgt := 3177) hX dL_law_3162 (by decide) (fun c3162 => ?_) (fun c3162 => ?_)
        · rw [if_neg c3162] at h
          refine zw_goto (tgt := 6002) hX dL_law_3177 (by decide) ?_
          refine zw_iinc (v := (i4 + (7 : Int32))) hX dL_law_6002 rfl rfl (by decide) ?_
          refine zw_goto (tgt := 23) hX dL_law_6005 (by decide) ?_
          refine zw_sub (lv' := [(0, .ref a0), (1, .ref a1), (2, .ref a2), (3, .ref a3), (4, .int (i4 + (7 : Int32)))]) (List.forall_mem_cons.mpr ⟨rfl, (List.forall_mem_cons.mpr ⟨rfl, (List.forall_mem_cons.mpr ⟨rfl, (List.forall_mem_cons.mpr ⟨rfl, (List.forall_mem_cons.mpr ⟨rfl, zs_nil⟩)⟩)⟩)⟩)⟩) ?_
          exact hrec _ _ _ _ h
        · rw [if_pos c3162] at h
          refine zw_aload_n hX dL_law_3165 rfl ?_
          refine zw_iconst (v := (0 : Int32)) hX dL_law_3166 (by decide) ?_
          obtain ⟨w490, g, h⟩ := zb_some h
          refine zw_xl hX dL_law_3167 g ?_
          refine zw_iload hX dL_law_3168 rfl ?_
          refine zw_i2l hX dL_law_3170 ?_
          refine zw_lcmp hX dL_law_3171 ?_
          refine zw_if_eq (tgt := 3177) hX dL_law_3172 (by decide) (fun c3172 => ?_) (fun c3172 => ?_)
          · rw [if_pos c3172] at h
            refine zw_goto (tgt := 6002) hX dL_law_3177 (by decide) ?_
            refine zw_iinc (v := (i4 + (7 : Int32))) hX dL_law_6002 rfl rfl (by decide) ?_
            refine zw_goto (tgt := 23) hX dL_law_6005 (by decide) ?_
            refine zw_sub (lv' := [(0, .ref a0), (1, .ref a1), (2, .ref a2), (3, .ref a3), (4, .int (i4 + (7 : Int32)))]) (List.forall_mem_cons.mpr ⟨rfl, (List.forall_mem_cons.mpr ⟨rfl, (List.forall_mem_cons.mpr ⟨rfl, (List.forall_mem_cons.mpr ⟨rfl, (List.forall_mem_cons.mpr ⟨rfl, zs_nil⟩)⟩)⟩)⟩)⟩) ?_
            exact hrec _ _ _ _ h
          · rw [if_neg c3172] at h
            refine zw_iconst (v := (0 : Int32)) hX dL_law_3175 (by decide) ?_
            cases h
      · rw [if_neg c3155] at h
        refine zw_iconst (v := (0 : Int32)) hX dL_law_3158 (by decide) ?_
        cases h
    · intro _ _ hx
      exact hx.elim
  · rw [if_neg hb3108] at h
    cases h
set_option maxHeartbeats 4000000 in
set_option maxRecDepth 100000 in
theorem zt_L_law_J3180 {p : Program} {l : Launch} {e : Env} {s : State} {m : MethodId} {zb : Nat} {below : List Frame} {meth : Method} {c : Code} {V : zm_V} {d : Nat} {nm : String} (hlt : l.stackTraces = false) (hV : V.2.2.2.1 = s.heap.size) (hX : zm_X p room_1 s m #[Value.ref zb] meth c RL nm cL_law 8 zk_E V 601024 7293034) (hr : meth.sig.returnType = ret) (hR : d ≤ room_1.frames ∧ 64 * d ≤ room_1.locals) (hd : 46 ≤ d) {N : Nat} {k : Nat → Nat → Nat → Nat → Int32 → Nat → Nat → zm_S → Option ((Int32 × zm_S) ⊕ ((Unit) × zm_S))} {rc rs : Nat} {a0 : Nat} {a1 : Nat} {a2 : Nat} {a3 : Nat} {i4 : Int32} {res : (Int32 × zm_S) ⊕ ((Unit) × zm_S)} {out : (Int32 × zm_S)}   (hf : ∀ o, res = .inl o → o = out) (hk : ∀ (S' : zm_S) (rc rs : Nat), res = .inr ((), S') → zw p l e room_1 s m #[Value.ref zb] below meth c (lw_Z below #[Value.ref zb] s) 8 zk_E V 601024 7293034 6008 [] [] S' rc rs) (hrec : ∀ (i4' : Int32) (rc rs : Nat) (S : zm_S), k a0 a1 a2 a3 i4' rc rs S = some res → zw p l e room_1 s m #[Value.ref zb] below meth c (lw_Z below #[Value.ref zb] s) 8 zk_E V 601024 7293034 23 [(0, .ref a0), (1, .ref a1), (2, .ref a2), (3, .ref a3), (4, .int i4')] [] S rc rs) {S : zm_S} (h : zf_L_law_J3180 N k a0 a1 a2 a3 i4 rc rs S = some res) : zw p l e room_1 s m #[Value.ref zb] below meth c (lw_Z below #[Value.ref zb] s) 8 zk_E V 601024 7293034 3180 [(0, .ref a0), (1, .ref a1), (2, .ref a2), (3, .ref a3), (4, .int i4)] [] S rc rs := by
  unfold zf_L_law_J3180 at h
  refine zw_aload_n hX dL_law_3180 rfl ?_
  refine zw_aload_n hX dL_law_3181 rfl ?_
  refine zw_iload hX dL_law_3182 rfl ?_
  refine zw_iconst (v := (1 : Int32)) hX dL_law_3184 (by decide) ?_
  refine zw_iadd hX dL_law_3185 ?_
  obtain ⟨v491, g, h⟩ := zb_some h
  refine zw_xi hX dL_law_3186 g ?_
  refine zw_aload_n hX dL_law_3187 rfl ?_
  by_cases hb3188 : 2 ≤ rc ∧ 12 ≤ rs
  · rw [if_pos hb3188] at h
    obtain ⟨r494, g, h⟩ := zb_some h
    refine zc_SH (as := [.ref a1, .int v491, .ref a3]) hX (zt_L_cutText hlt (d := d - 1) (by omega) g) zl_L_408 dL_law_3188 ⟨rfl, rfl, Nat.le_of_ble_eq_true rfl⟩ ⟨by omega, by omega⟩ hb3188 ?_ ?_
    · rintro _ _ ⟨rfl, rfl⟩
      refine zw_istore hX dL_law_3191 (by decide) ?_
      refine zw_aload_n hX dL_law_3193 rfl ?_
      refine zw_aload_n hX dL_law_3194 rfl ?_
      refine zw_iload hX dL_law_3195 rfl ?_
      refine zw_iconst (v := (1 : Int32)) hX dL_law_3197 (by decide) ?_
      refine zw_iadd hX dL_law_3198 ?_
      obtain ⟨v495, g, h⟩ := zb_some h
      refine zw_xi hX dL_law_3199 g ?_
      obtain ⟨_, gi, h⟩ := zb_some h
      obtain ⟨r497, g, h⟩ := zb_some h
      refine zc_Vi (as := [.int v495]) hX gi (zt_X18_cutText (d := d - 1) (by omega) g) zl_L_410 rfl dL_law_3200 ⟨rfl, rfl, Nat.le_of_ble_eq_true rfl⟩ ⟨by omega, by omega⟩ ?_
      refine zw_istore hX dL_law_3203 (by decide) ?_
      refine zw_aload_n hX dL_law_3205 rfl ?_
      obtain ⟨_, gi, h⟩ := zb_some h
      obtain ⟨r499, g, h⟩ := zb_some h
      refine zc_Vi (as := []) hX gi (zt_X18_thrown (d := d - 1) (by omega) g) zl_L_281 rfl dL_law_3206 ⟨rfl, rfl, Nat.le_of_ble_eq_true rfl⟩ ⟨by omega, by omega⟩ ?_
      refine zw_iload hX dL_law_3209 rfl ?_
      refine zw_icmp_eq (tgt := 3216) hX dL_law_3211 (by decide) (fun c3211 => ?_) (fun c3211 => ?_)
      · rw [if_pos c3211] at h
        refine zw_iload hX dL_law_3216 rfl ?_
        refine zw_if_ne (tgt := 3233) hX dL_law_3218 (by decide) (fun c3218 => ?_) (fun c3218 => ?_)
        · rw [if_neg c3218] at h
          refine zw_goto (tgt := 6002) hX dL_law_3233 (by decide) ?_
          refine zw_iinc (v := (i4 + (7 : Int32))) hX dL_law_6002 rfl rfl (by decide) ?_
          refine zw_goto (tgt := 23) hX dL_law_6005 (by decide) ?_
          refine zw_sub (lv' := [(0, .ref a0), (1, .ref a1), (2, .ref a2), (3, .ref a3), (4, .int (i4 + (7 : Int32)))]) (List.forall_mem_cons.mpr ⟨rfl, (List.forall_mem_cons.mpr ⟨rfl, (List.forall_mem_cons.mpr ⟨rfl, (List.forall_mem_cons.mpr ⟨rfl, (List.forall_mem_cons.mpr ⟨rfl, zs_nil⟩)⟩)⟩)⟩)⟩) ?_
          exact hrec _ _ _ _ h
        · rw [if_pos c3218] at h
          refine zw_aload_n hX dL_law_3221 rfl ?_
          refine zw_iconst (v := (0 : Int32)) hX dL_law_3222 (by decide) ?_
          obtain ⟨w500, g, h⟩ := zb_some h
          refine zw_xl hX dL_law_3223 g ?_
          refine zw_iload hX dL_law_3224 rfl ?_
          refine zw_i2l hX dL_law_3226 ?_
          refine zw_lcmp hX dL_law_3227 ?_
          refine zw_if_eq (tgt := 3233) hX dL_law_3228 (by decide) (fun c3228 => ?_) (fun c3228 => ?_)
          · rw [if_pos c3228] at h
            refine zw_goto (tgt := 6002) hX dL_law_3233 (by decide) ?_
            refine zw_iinc (v := (i4 + (7 : Int32))) hX dL_law_6002 rfl rfl (by decide) ?_
            refine zw_goto (tgt := 23) hX dL_law_6005 (by decide) ?_
            refine zw_sub (lv' := [(0, .ref a0), (1, .ref a1), (2, .ref a2), (3, .ref a3), (4, .int (i4 + (7 : Int32)))]) (List.forall_mem_cons.mpr ⟨rfl, (List.forall_mem_cons.mpr ⟨rfl, (List.forall_mem_cons.mpr ⟨rfl, (List.forall_mem_cons.mpr ⟨rfl, (List.forall_mem_cons.mpr ⟨rfl, zs_nil⟩)⟩)⟩)⟩)⟩) ?_
            exact hrec _ _ _ _ h
          · rw [if_neg c3228] at h
            refine zw_iconst (v := (0 : Int32)) hX dL_law_3231 (by decide) ?_
            cases h
      · rw [if_neg c3211] at h
        refine zw_iconst (v := (0 : Int32)) hX dL_law_3214 (by decide) ?_
        cases h
    · intro _ _ hx
      exact hx.elim
  · rw [if_neg hb3188] at h
    cases h
set_option maxHeartbeats 4000000 in
set_option maxRecDepth 100000 in
theorem zt_L_law_J3236 {p : Program} {l : Launch} {e : Env} {s : State} {m : MethodId} {zb : Nat} {below : List Frame} {meth : Method} {c : Code} {V : zm_V} {d : Nat} {nm : String} (hlt : l.stackTraces = false) (hV : V.2.2.2.1 = s.heap.size) (hX : zm_X p room_1 s m #[Value.ref zb] meth c RL nm cL_law 8 zk_E V 601024 7293034) (hr : meth.sig.returnType = ret) (hR : d ≤ room_1.frames ∧ 64 * d ≤ room_1.locals) (hd : 46 ≤ d) {N : Nat} {k : Nat → Nat → Nat → Nat → Int32 → Nat → Nat → zm_S → Option ((Int32 × zm_S) ⊕ ((Unit) × zm_S))} {rc rs : Nat} {a0 : Nat} {a1 : Nat} {a2 : Nat} {a3 : Nat} {i4 : Int32} {res : (Int32 × zm_S) ⊕ ((Unit) × zm_S)} {out : (Int32 × zm_S)}   (hf : ∀ o, res = .inl o → o = out) (hk : ∀ (S' : zm_S) (rc rs : Nat), res = .inr ((), S') → zw p l e room_1 s m #[Value.ref zb] below meth c (lw_Z below #[Value.ref zb] s) 8 zk_E V 601024 7293034 6008 [] [] S' rc rs) (hrec : ∀ (i4' : Int32) (rc rs : Nat) (S : zm_S), k a0 a1 a2 a3 i4' rc rs S = some res → zw p l e room_1 s m #[Value.ref zb] below meth c (lw_Z below #[Value.ref zb] s) 8 zk_E V 601024 7293034 23 [(0, .ref a0), (1, .ref a1), (2, .ref a2), (3, .ref a3), (4, .int i4')] [] S rc rs) {S : zm_S} (h : zf_L_law_J3236 N k a0 a1 a2 a3 i4 rc rs S = some res) : zw p l e room_1 s m #[Value.ref zb] below meth c (lw_Z below #[Value.ref zb] s) 8 zk_E V 601024 7293034 3236 [(0, .ref a0), (1, .ref a1), (2, .ref a2), (3, .ref a3), (4, .int i4)] [] S rc rs := by
  unfold zf_L_law_J3236 at h
  refine zw_aload_n hX dL_law_3236 rfl ?_
  refine zw_aload_n hX dL_law_3237 rfl ?_
  by_cases hb3238 : 1 ≤ rc ∧ 6 ≤ rs
  · rw [if_pos hb3238] at h
    obtain ⟨r503, g, h⟩ := zb_some h
    refine zc_SH (as := [.ref a1, .ref a3]) hX (zt_L_matrix hlt (d := d - 1) (by omega) g) zl_L_411 dL_law_3238 ⟨rfl, rfl, Nat.le_of_ble_eq_true rfl⟩ ⟨by omega, by omega⟩ hb3238 ?_ ?_
    · rintro _ _ ⟨rfl, rfl⟩
      refine zw_istore hX dL_law_3241 (by decide) ?_
      refine zw_aload_n hX dL_law_3243 rfl ?_
      obtain ⟨_, gi, h⟩ := zb_some h
      obtain ⟨r505, g, h⟩ := zb_some h
      refine zc_Vi (as := []) hX gi (zt_X18_matrix (d := d - 1) (by omega) g) zl_L_413 rfl dL_law_3244 ⟨rfl, rfl, Nat.le_of_ble_eq_true rfl⟩ ⟨by omega, by omega⟩ ?_
      refine zw_istore hX dL_law_3247 (by decide) ?_
      refine zw_aload_n hX dL_law_3249 rfl ?_
      obtain ⟨_, gi, h⟩ := zb_some h
      obtain ⟨r507, g, h⟩ := zb_some h
      refine zc_Vi (as := []) hX gi (zt_X18_thrown (d := d - 1) (by omega) g) zl_L_281 rfl dL_law_3250 ⟨rfl, rfl, Nat.le_of_ble_eq_true rfl⟩ ⟨by omega, by omega⟩ ?_
      refine zw_iload hX dL_law_3253 rfl ?_
      refine zw_icmp_eq (tgt := 3260) hX dL_law_3255 (by decide) (fun c3255 => ?_) (fun c3255 => ?_)
      · rw [if_pos c3255] at h
        refine zw_iload hX dL_law_3260 rfl ?_
        refine zw_if_ne (tgt := 3277) hX dL_law_3262 (by decide) (fun c3262 => ?_) (fun c3262 => ?_)
        · rw [if_neg c3262] at h
          refine zw_goto (tgt := 6002) hX dL_law_3277 (by decide) ?_
          refine zw_iinc (v := (i4 + (7 : Int32))) hX dL_law_6002 rfl rfl (by decide) ?_
          refine zw_goto (tgt := 23) hX dL_law_6005 (by decide) ?_
          refine zw_sub (lv' := [(0, .ref a0), (1, .ref a1), (2, .ref a2), (3, .ref a3), (4, .int (i4 + (7 : Int32)))]) (List.forall_mem_cons.mpr ⟨rfl, (List.forall_mem_cons.mpr ⟨rfl, (List.forall_mem_cons.mpr ⟨rfl, (List.forall_mem_cons.mpr ⟨rfl, (List.forall_mem_cons.mpr ⟨rfl, zs_nil⟩)⟩)⟩)⟩)⟩) ?_
          exact hrec _ _ _ _ h
        · rw [if_pos c3262] at h
          refine zw_aload_n hX dL_law_3265 rfl ?_
          refine zw_iconst (v := (0 : Int32)) hX dL_law_3266 (by decide) ?_
          obtain ⟨w508, g, h⟩ := zb_some h
          refine zw_xl hX dL_law_3267 g ?_
          refine zw_iload hX dL_law_3268 rfl ?_
          refine zw_i2l hX dL_law_3270 ?_
          refine zw_lcmp hX dL_law_3271 ?_
          refine zw_if_eq (tgt := 3277) hX dL_law_3272 (by decide) (fun c3272 => ?_) (fun c3272 => ?_)
          · rw [if_pos c3272] at h
            refine zw_goto (tgt := 6002) hX dL_law_3277 (by decide) ?_
            refine zw_iinc (v := (i4 + (7 : Int32))) hX dL_law_6002 rfl rfl (by decide) ?_
            refine zw_goto (tgt := 23) hX dL_law_6005 (by decide) ?_
            refine zw_sub (lv' := [(0, .ref a0), (1, .ref a1), (2, .ref a2), (3, .ref a3), (4, .int (i4 + (7 : Int32)))]) (List.forall_mem_cons.mpr ⟨rfl, (List.forall_mem_cons.mpr ⟨rfl, (List.forall_mem_cons.mpr ⟨rfl, (List.forall_mem_cons.mpr ⟨rfl, (List.forall_mem_cons.mpr ⟨rfl, zs_nil⟩)⟩)⟩)⟩)⟩) ?_
            exact hrec _ _ _ _ h
          · rw [if_neg c3272] at h
            refine zw_iconst (v := (0 : Int32)) hX dL_law_3275 (by decide) ?_
            cases h
      · rw [if_neg c3255] at h
        refine zw_iconst (v := (0 : Int32)) hX dL_law_3258 (by decide) ?_
        cases h
    · intro _ _ hx
      exact hx.elim
  · rw [if_neg hb3238] at h
    cases h
set_option maxHeartbeats 4000000 in
set_option maxRecDepth 100000 in
theorem zt_L_law_J3280 {p : Program} {l : Launch} {e : Env} {s : State} {m : MethodId} {zb : Nat} {below : List Frame} {meth : Method} {c : Code} {V : zm_V} {d : Nat} {nm : String} (hlt : l.stackTraces = false) (hV : V.2.2.2.1 = s.heap.size) (hX : zm_X p room_1 s m #[Value.ref zb] meth c RL nm cL_law 8 zk_E V 601024 7293034) (hr : meth.sig.returnType = ret) (hR : d ≤ room_1.frames ∧ 64 * d ≤ room_1.locals) (hd : 46 ≤ d) {N : Nat} {k : Nat → Nat → Nat → Nat → Int32 → Nat → Nat → zm_S → Option ((Int32 × zm_S) ⊕ ((Unit) × zm_S))} {rc rs : Nat} {a0 : Nat} {a1 : Nat} {a2 : Nat} {a3 : Nat} {i4 : Int32} {res : (Int32 × zm_S) ⊕ ((Unit) × zm_S)} {out : (Int32 × zm_S)}   (hf : ∀ o, res = .inl o → o = out) (hk : ∀ (S' : zm_S) (rc rs : Nat), res = .inr ((), S') → zw p l e room_1 s m #[Value.ref zb] below meth c (lw_Z below #[Value.ref zb] s) 8 zk_E V 601024 7293034 6008 [] [] S' rc rs) (hrec : ∀ (i4' : Int32) (rc rs : Nat) (S : zm_S), k a0 a1 a2 a3 i4' rc rs S = some res → zw p l e room_1 s m #[Value.ref zb] below meth c (lw_Z below #[Value.ref zb] s) 8 zk_E V 601024 7293034 23 [(0, .ref a0), (1, .ref a1), (2, .ref a2), (3, .ref a3), (4, .int i4')] [] S rc rs) {S : zm_S} (h : zf_L_law_J3280 N k a0 a1 a2 a3 i4 rc rs S = some res) : zw p l e room_1 s m #[Value.ref zb] below meth c (lw_Z below #[Value.ref zb] s) 8 zk_E V 601024 7293034 3280 [(0, .ref a0), (1, .ref a1), (2, .ref a2), (3, .ref a3), (4, .int i4)] [] S rc rs := by
  unfold zf_L_law_J3280 at h
  refine zw_aload_n hX dL_law_3280 rfl ?_
  refine zw_aload_n hX dL_law_3281 rfl ?_
  refine zw_iload hX dL_law_3282 rfl ?_
  refine zw_iconst (v := (1 : Int32)) hX dL_law_3284 (by decide) ?_
  refine zw_iadd hX dL_law_3285 ?_
  obtain ⟨v509, g, h⟩ := zb_some h
  refine zw_xi hX dL_law_3286 g ?_
  refine zw_aload_n hX dL_law_3287 rfl ?_
  refine zw_iload hX dL_law_3288 rfl ?_
  refine zw_iconst (v := (2 : Int32)) hX dL_law_3290 (by decide) ?_
  refine zw_iadd hX dL_law_3291 ?_
  obtain ⟨v510, g, h⟩ := zb_some h
  refine zw_xi hX dL_law_3292 g ?_
  refine zw_aload_n hX dL_law_3293 rfl ?_
  by_cases hb3294 : 2 ≤ rc ∧ 12 ≤ rs
  · rw [if_pos hb3294] at h
    obtain ⟨r513, g, h⟩ := zb_some h
    refine zc_SH (as := [.ref a1, .int v509, .int v510, .ref a3]) hX (zt_L_signal hlt (d := d - 1) (by omega) g) zl_L_414 dL_law_3294 ⟨rfl, rfl, Nat.le_of_ble_eq_true rfl⟩ ⟨by omega, by omega⟩ hb3294 ?_ ?_
    · rintro _ _ ⟨rfl, rfl⟩
      refine zw_istore hX dL_law_3297 (by decide) ?_
      refine zw_aload_n hX dL_law_3299 rfl ?_
      refine zw_aload_n hX dL_law_3300 rfl ?_
      refine zw_iload hX dL_law_3301 rfl ?_
      refine zw_iconst (v := (1 : Int32)) hX dL_law_3303 (by decide) ?_
      refine zw_iadd hX dL_law_3304 ?_
      obtain ⟨v514, g, h⟩ := zb_some h
      refine zw_xi hX dL_law_3305 g ?_
      refine zw_aload_n hX dL_law_3306 rfl ?_
      refine zw_iload hX dL_law_3307 rfl ?_
      refine zw_iconst (v := (2 : Int32)) hX dL_law_3309 (by decide) ?_
      refine zw_iadd hX dL_law_3310 ?_
      obtain ⟨v515, g, h⟩ := zb_some h
      refine zw_xi hX dL_law_3311 g ?_
      obtain ⟨_, gi, h⟩ := zb_some h
      obtain ⟨r517, g, h⟩ := zb_some h
      refine zc_Vi (as := [.int v514, .int v515]) hX gi (zt_X18_signal (d := d - 1) (by omega) g) zl_L_416 rfl dL_law_3312 ⟨rfl, rfl, Nat.le_of_ble_eq_true rfl⟩ ⟨by omega, by omega⟩ ?_
      refine zw_istore hX dL_law_3315 (by decide) ?_
      refine zw_aload_n hX dL_law_3317 rfl ?_
      obtain ⟨_, gi, h⟩ := zb_some h
      obtain ⟨r519, g, h⟩ := zb_some h
      refine zc_Vi (as := []) hX gi (zt_X18_thrown (d := d - 1) (by omega) g) zl_L_281 rfl dL_law_3318 ⟨rfl, rfl, Nat.le_of_ble_eq_true rfl⟩ ⟨by omega, by omega⟩ ?_
      refine zw_iload hX dL_law_3321 rfl ?_
      refine zw_icmp_eq (tgt := 3328) hX dL_law_3323 (by decide) (fun c3323 => ?_) (fun c3323 => ?_)
      · rw [if_pos c3323] at h
        refine zw_iload hX dL_law_3328 rfl ?_
        refine zw_if_ne (tgt := 3345) hX dL_law_3330 (by decide) (fun c3330 => ?_) (fun c3330 => ?_)
        · rw [if_neg c3330] at h
          refine zw_goto (tgt := 6002) hX dL_law_3345 (by decide) ?_
          refine zw_iinc (v := (i4 + (7 : Int32))) hX dL_law_6002 rfl rfl (by decide) ?_
          refine zw_goto (tgt := 23) hX dL_law_6005 (by decide) ?_
          refine zw_sub (lv' := [(0, .ref a0), (1, .ref a1), (2, .ref a2), (3, .ref a3), (4, .int (i4 + (7 : Int32)))]) (List.forall_mem_cons.mpr ⟨rfl, (List.forall_mem_cons.mpr ⟨rfl, (List.forall_mem_cons.mpr ⟨rfl, (List.forall_mem_cons.mpr ⟨rfl, (List.forall_mem_cons.mpr ⟨rfl, zs_nil⟩)⟩)⟩)⟩)⟩) ?_
          exact hrec _ _ _ _ h
        · rw [if_pos c3330] at h
          refine zw_aload_n hX dL_law_3333 rfl ?_
          refine zw_iconst (v := (0 : Int32)) hX dL_law_3334 (by decide) ?_
          obtain ⟨w520, g, h⟩ := zb_some h
          refine zw_xl hX dL_law_3335 g ?_
          refine zw_iload hX dL_law_3336 rfl ?_
          refine zw_i2l hX dL_law_3338 ?_
          refine zw_lcmp hX dL_law_3339 ?_
          refine zw_if_eq (tgt := 3345) hX dL_law_3340 (by decide) (fun c3340 => ?_) (fun c3340 => ?_)
          · rw [if_pos c3340] at h
            refine zw_goto (tgt := 6002) hX dL_law_3345 (by decide) ?_
            refine zw_iinc (v := (i4 + (7 : Int32))) hX dL_law_6002 rfl rfl (by decide) ?_
            refine zw_goto (tgt := 23) hX dL_law_6005 (by decide) ?_
            refine zw_sub (lv' := [(0, .ref a0), (1, .ref a1), (2, .ref a2), (3, .ref a3), (4, .int (i4 + (7 : Int32)))]) (List.forall_mem_cons.mpr ⟨rfl, (List.forall_mem_cons.mpr ⟨rfl, (List.forall_mem_cons.mpr ⟨rfl, (List.forall_mem_cons.mpr ⟨rfl, (List.forall_mem_cons.mpr ⟨rfl, zs_nil⟩)⟩)⟩)⟩)⟩) ?_
            exact hrec _ _ _ _ h
          · rw [if_neg c3340] at h
            refine zw_iconst (v := (0 : Int32)) hX dL_law_3343 (by decide) ?_
            cases h
      · rw [if_neg c3323] at h
        refine zw_iconst (v := (0 : Int32)) hX dL_law_3326 (by decide) ?_
        cases h
    · intro _ _ hx
      exact hx.elim
  · rw [if_neg hb3294] at h
    cases h
set_option maxHeartbeats 4000000 in
set_option maxRecDepth 100000 in
theorem zt_L_law_J3430 {p : Program} {l : Launch} {e : Env} {s : State} {m : MethodId} {zb : Nat} {below : List Frame} {meth : Method} {c : Code} {V : zm_V} {d : Nat} {nm : String} (hlt : l.stackTraces = false) (hV : V.2.2.2.1 = s.heap.size) (hX : zm_X p room_1 s m #[Value.ref zb] meth c RL nm cL_law 8 zk_E V 601024 7293034) (hr : meth.sig.returnType = ret) (hR : d ≤ room_1.frames ∧ 64 * d ≤ room_1.locals) (hd : 46 ≤ d) {N : Nat} {k : Nat → Nat → Nat → Nat → Int32 → Nat → Nat → zm_S → Option ((Int32 × zm_S) ⊕ ((Unit) × zm_S))} {rc rs : Nat} {a0 : Nat} {a1 : Nat} {a2 : Nat} {a3 : Nat} {i4 : Int32} {t0 : Int64} {t1 : Int64} {res : (Int32 × zm_S) ⊕ ((Unit) × zm_S)} {out : (Int32 × zm_S)}   (hf : ∀ o, res = .inl o → o = out) (hk : ∀ (S' : zm_S) (rc rs : Nat), res = .inr ((), S') → zw p l e room_1 s m #[Value.ref zb] below meth c (lw_Z below #[Value.ref zb] s) 8 zk_E V 601024 7293034 6008 [] [] S' rc rs) (hrec : ∀ (i4' : Int32) (rc rs : Nat) (S : zm_S), k a0 a1 a2 a3 i4' rc rs S = some res → zw p l e room_1 s m #[Value.ref zb] below meth c (lw_Z below #[Value.ref zb] s) 8 zk_E V 601024 7293034 23 [(0, .ref a0), (1, .ref a1), (2, .ref a2), (3, .ref a3), (4, .int i4')] [] S rc rs) {S : zm_S} (h : zf_L_law_J3430 N k a0 a1 a2 a3 i4 t0 t1 rc rs S = some res) : zw p l e room_1 s m #[Value.ref zb] below meth c (lw_Z below #[Value.ref zb] s) 8 zk_E V 601024 7293034 3430 [(0, .ref a0), (1, .ref a1), (2, .ref a2), (3, .ref a3), (4, .int i4)] [.long t1, .long t0] S rc rs := by
  unfold zf_L_law_J3430 at h
  refine zw_lcmp hX dL_law_3430 ?_
  refine zw_if_eq (tgt := 3436) hX dL_law_3431 (by decide) (fun c3431 => ?_) (fun c3431 => ?_)
  · rw [if_pos c3431] at h
    refine zw_goto (tgt := 6002) hX dL_law_3436 (by decide) ?_
    refine zw_iinc (v := (i4 + (7 : Int32))) hX dL_law_6002 rfl rfl (by decide) ?_
    refine zw_goto (tgt := 23) hX dL_law_6005 (by decide) ?_
    refine zw_sub (lv' := [(0, .ref a0), (1, .ref a1), (2, .ref a2), (3, .ref a3), (4, .int (i4 + (7 : Int32)))]) (List.forall_mem_cons.mpr ⟨rfl, (List.forall_mem_cons.mpr ⟨rfl, (List.forall_mem_cons.mpr ⟨rfl, (List.forall_mem_cons.mpr ⟨rfl, (List.forall_mem_cons.mpr ⟨rfl, zs_nil⟩)⟩)⟩)⟩)⟩) ?_
    exact hrec _ _ _ _ h
  · rw [if_neg c3431] at h
    refine zw_iconst (v := (0 : Int32)) hX dL_law_3434 (by decide) ?_
    cases h
set_option maxHeartbeats 4000000 in
set_option maxRecDepth 100000 in
theorem zt_L_law_J3396 {p : Program} {l : Launch} {e : Env} {s : State} {m : MethodId} {zb : Nat} {below : List Frame} {meth : Method} {c : Code} {V : zm_V} {d : Nat} {nm : String} (hlt : l.stackTraces = false) (hV : V.2.2.2.1 = s.heap.size) (hX : zm_X p room_1 s m #[Value.ref zb] meth c RL nm cL_law 8 zk_E V 601024 7293034) (hr : meth.sig.returnType = ret) (hR : d ≤ room_1.frames ∧ 64 * d ≤ room_1.locals) (hd : 46 ≤ d) {N : Nat} {k : Nat → Nat → Nat → Nat → Int32 → Nat → Nat → zm_S → Option ((Int32 × zm_S) ⊕ ((Unit) × zm_S))} {rc rs : Nat} {a0 : Nat} {a1 : Nat} {a2 : Nat} {a3 : Nat} {i4 : Int32} {i5 : Int32} {t0 : Nat} {t1 : Int32} {t2 : Int32} {res : (Int32 × zm_S) ⊕ ((Unit) × zm_S)} {out : (Int32 × zm_S)}   (hf : ∀ o, res = .inl o → o = out) (hk : ∀ (S' : zm_S) (rc rs : Nat), res = .inr ((), S') → zw p l e room_1 s m #[Value.ref zb] below meth c (lw_Z below #[Value.ref zb] s) 8 zk_E V 601024 7293034 6008 [] [] S' rc rs) (hrec : ∀ (i4' : Int32) (rc rs : Nat) (S : zm_S), k a0 a1 a2 a3 i4' rc rs S = some res → zw p l e room_1 s m #[Value.ref zb] below meth c (lw_Z below #[Value.ref zb] s) 8 zk_E V 601024 7293034 23 [(0, .ref a0), (1, .ref a1), (2, .ref a2), (3, .ref a3), (4, .int i4')] [] S rc rs) {S : zm_S} (h : zf_L_law_J3396 N k a0 a1 a2 a3 i4 i5 t0 t1 t2 rc rs S = some res) : zw p l e room_1 s m #[Value.ref zb] below meth c (lw_Z below #[Value.ref zb] s) 8 zk_E V 601024 7293034 3396 [(0, .ref a0), (1, .ref a1), (2, .ref a2), (3, .ref a3), (4, .int i4), (5, .int i5)] [.int t2, .int t1, .ref t0] S rc rs := by
  unfold zf_L_law_J3396 at h
  obtain ⟨_, gi, h⟩ := zb_some h
  obtain ⟨r529, g, h⟩ := zb_some h
  refine zc_Vi (as := [.int t1, .int t2]) hX gi (zt_X18_fault (d := d - 1) (by omega) g) zl_L_419 rfl dL_law_3396 ⟨rfl, rfl, Nat.le_of_ble_eq_true rfl⟩ ⟨by omega, by omega⟩ ?_
  refine zw_istore hX dL_law_3399 (by decide) ?_
  refine zw_aload_n hX dL_law_3401 rfl ?_
  obtain ⟨_, gi, h⟩ := zb_some h
  obtain ⟨r531, g, h⟩ := zb_some h
  refine zc_Vi (as := []) hX gi (zt_X18_thrown (d := d - 1) (by omega) g) zl_L_281 rfl dL_law_3402 ⟨rfl, rfl, Nat.le_of_ble_eq_true rfl⟩ ⟨by omega, by omega⟩ ?_
  refine zw_iload hX dL_law_3405 rfl ?_
  refine zw_icmp_eq (tgt := 3412) hX dL_law_3407 (by decide) (fun c3407 => ?_) (fun c3407 => ?_)
  · rw [if_pos c3407] at h
    refine zw_iload hX dL_law_3412 rfl ?_
    refine zw_if_ne (tgt := 3436) hX dL_law_3414 (by decide) (fun c3414 => ?_) (fun c3414 => ?_)
    · rw [if_neg c3414] at h
      refine zw_goto (tgt := 6002) hX dL_law_3436 (by decide) ?_
      refine zw_iinc (v := (i4 + (7 : Int32))) hX dL_law_6002 rfl rfl (by decide) ?_
      refine zw_goto (tgt := 23) hX dL_law_6005 (by decide) ?_
      refine zw_sub (lv' := [(0, .ref a0), (1, .ref a1), (2, .ref a2), (3, .ref a3), (4, .int (i4 + (7 : Int32)))]) (List.forall_mem_cons.mpr ⟨rfl, (List.forall_mem_cons.mpr ⟨rfl, (List.forall_mem_cons.mpr ⟨rfl, (List.forall_mem_cons.mpr ⟨rfl, (List.forall_mem_cons.mpr ⟨rfl, zs_nil⟩)⟩)⟩)⟩)⟩) ?_
      exact hrec _ _ _ _ h
    · rw [if_pos c3414] at h
      refine zw_aload_n hX dL_law_3417 rfl ?_
      refine zw_iconst (v := (0 : Int32)) hX dL_law_3418 (by decide) ?_
      obtain ⟨w532, g, h⟩ := zb_some h
      refine zw_xl hX dL_law_3419 g ?_
      refine zw_iload hX dL_law_3420 rfl ?_
      refine zw_if_eq (tgt := 3429) hX dL_law_3422 (by decide) (fun c3422 => ?_) (fun c3422 => ?_)
      · rw [if_pos c3422] at h
        refine zw_lconst (v := (0 : Int64)) hX dL_law_3429 (by decide) ?_
        refine zw_sub (lv' := [(0, .ref a0), (1, .ref a1), (2, .ref a2), (3, .ref a3), (4, .int i4)]) (List.forall_mem_cons.mpr ⟨rfl, (List.forall_mem_cons.mpr ⟨rfl, (List.forall_mem_cons.mpr ⟨rfl, (List.forall_mem_cons.mpr ⟨rfl, (List.forall_mem_cons.mpr ⟨rfl, zs_nil⟩)⟩)⟩)⟩)⟩) ?_
        exact zt_L_law_J3430 hlt hV hX hr hR hd hf hk hrec h
      · rw [if_neg c3422] at h
        refine zw_lconst (v := (1 : Int64)) hX dL_law_3425 (by decide) ?_
        refine zw_goto (tgt := 3430) hX dL_law_3426 (by decide) ?_
        refine zw_sub (lv' := [(0, .ref a0), (1, .ref a1), (2, .ref a2), (3, .ref a3), (4, .int i4)]) (List.forall_mem_cons.mpr ⟨rfl, (List.forall_mem_cons.mpr ⟨rfl, (List.forall_mem_cons.mpr ⟨rfl, (List.forall_mem_cons.mpr ⟨rfl, (List.forall_mem_cons.mpr ⟨rfl, zs_nil⟩)⟩)⟩)⟩)⟩) ?_
        exact zt_L_law_J3430 hlt hV hX hr hR hd hf hk hrec h
  · rw [if_neg c3407] at h
    refine zw_iconst (v := (0 : Int32)) hX dL_law_3410 (by decide) ?_
    cases h
set_option maxHeartbeats 4000000 in
set_option maxRecDepth 100000 in
theorem zt_L_law_J3369 {p : Program} {l : Launch} {e : Env} {s : State} {m : MethodId} {zb : Nat} {below : List Frame} {meth : Method} {c : Code} {V : zm_V} {d : Nat} {nm : String} (hlt : l.stackTraces = false) (hV : V.2.2.2.1 = s.heap.size) (hX : zm_X p room_1 s m #[Value.ref zb] meth c RL nm cL_law 8 zk_E V 601024 7293034) (hr : meth.sig.returnType = ret) (hR : d ≤ room_1.frames ∧ 64 * d ≤ room_1.locals) (hd : 46 ≤ d) {N : Nat} {k : Nat → Nat → Nat → Nat → Int32 → Nat → Nat → zm_S → Option ((Int32 × zm_S) ⊕ ((Unit) × zm_S))} {rc rs : Nat} {a0 : Nat} {a1 : Nat} {a2 : Nat} {a3 : Nat} {i4 : Int32} {t0 : Nat} {t1 : Int32} {t2 : Int32} {res : (Int32 × zm_S) ⊕ ((Unit) × zm_S)} {out : (Int32 × zm_S)}   (hf : ∀ o, res = .inl o → o = out) (hk : ∀ (S' : zm_S) (rc rs : Nat), res = .inr ((), S') → zw p l e room_1 s m #[Value.ref zb] below meth c (lw_Z below #[Value.ref zb] s) 8 zk_E V 601024 7293034 6008 [] [] S' rc rs) (hrec : ∀ (i4' : Int32) (rc rs : Nat) (S : zm_S), k a0 a1 a2 a3 i4' rc rs S = some res → zw p l e room_1 s m #[Value.ref zb] below meth c (lw_Z below #[Value.ref zb] s) 8 zk_E V 601024 7293034 23 [(0, .ref a0), (1, .ref a1), (2, .ref a2), (3, .ref a3), (4, .int i4')] [] S rc rs) {S : zm_S} (h : zf_L_law_J3369 N k a0 a1 a2 a3 i4 t0 t1 t2 rc rs S = some res) : zw p l e room_1 s m #[Value.ref zb] below meth c (lw_Z below #[Value.ref zb] s) 8 zk_E V 601024 7293034 3369 [(0, .ref a0), (1, .ref a1), (2, .ref a2), (3, .ref a3), (4, .int i4)] [.int t2, .int t1, .ref t0] S rc rs := by
  unfold zf_L_law_J3369 at h
  refine zw_aload_n hX dL_law_3369 rfl ?_
  by_cases hb3370 : 2 ≤ rc ∧ 12 ≤ rs
  · rw [if_pos hb3370] at h
    obtain ⟨r525, g, h⟩ := zb_some h
    refine zc_SH (as := [.ref t0, .int t1, .int t2, .ref a3]) hX (zt_L_fault hlt (d := d - 1) (by omega) g) zl_L_417 dL_law_3370 ⟨rfl, rfl, Nat.le_of_ble_eq_true rfl⟩ ⟨by omega, by omega⟩ hb3370 ?_ ?_
    · rintro _ _ ⟨rfl, rfl⟩
      refine zw_istore hX dL_law_3373 (by decide) ?_
      refine zw_aload_n hX dL_law_3375 rfl ?_
      refine zw_aload_n hX dL_law_3376 rfl ?_
      refine zw_iload hX dL_law_3377 rfl ?_
      refine zw_iconst (v := (1 : Int32)) hX dL_law_3379 (by decide) ?_
      refine zw_iadd hX dL_law_3380 ?_
      obtain ⟨v526, g, h⟩ := zb_some h
      refine zw_xi hX dL_law_3381 g ?_
      refine zw_aload_n hX dL_law_3382 rfl ?_
      refine zw_iload hX dL_law_3383 rfl ?_
      refine zw_iconst (v := (2 : Int32)) hX dL_law_3385 (by decide) ?_
      refine zw_iadd hX dL_law_3386 ?_
      obtain ⟨v527, g, h⟩ := zb_some h
      refine zw_xi hX dL_law_3387 g ?_
      refine zw_if_eq (tgt := 3395) hX dL_law_3388 (by decide) (fun c3388 => ?_) (fun c3388 => ?_)
      · rw [if_pos c3388] at h
        refine zw_iconst (v := (0 : Int32)) hX dL_law_3395 (by decide) ?_
        refine zw_sub (lv' := [(0, .ref a0), (1, .ref a1), (2, .ref a2), (3, .ref a3), (4, .int i4), (5, .int r525.1)]) (List.forall_mem_cons.mpr ⟨rfl, (List.forall_mem_cons.mpr ⟨rfl, (List.forall_mem_cons.mpr ⟨rfl, (List.forall_mem_cons.mpr ⟨rfl, (List.forall_mem_cons.mpr ⟨rfl, (List.forall_mem_cons.mpr ⟨rfl, zs_nil⟩)⟩)⟩)⟩)⟩)⟩) ?_
        exact zt_L_law_J3396 hlt hV hX hr hR hd hf hk hrec h
      · rw [if_neg c3388] at h
        refine zw_iconst (v := (1 : Int32)) hX dL_law_3391 (by decide) ?_
        refine zw_goto (tgt := 3396) hX dL_law_3392 (by decide) ?_
        refine zw_sub (lv' := [(0, .ref a0), (1, .ref a1), (2, .ref a2), (3, .ref a3), (4, .int i4), (5, .int r525.1)]) (List.forall_mem_cons.mpr ⟨rfl, (List.forall_mem_cons.mpr ⟨rfl, (List.forall_mem_cons.mpr ⟨rfl, (List.forall_mem_cons.mpr ⟨rfl, (List.forall_mem_cons.mpr ⟨rfl, (List.forall_mem_cons.mpr ⟨rfl, zs_nil⟩)⟩)⟩)⟩)⟩)⟩) ?_
        exact zt_L_law_J3396 hlt hV hX hr hR hd hf hk hrec h
    · intro _ _ hx
      exact hx.elim
  · rw [if_neg hb3370] at h
    cases h
set_option maxHeartbeats 4000000 in
set_option maxRecDepth 100000 in
theorem zt_L_law_J3348 {p : Program} {l : Launch} {e : Env} {s : State} {m : MethodId} {zb : Nat} {below : List Frame} {meth : Method} {c : Code} {V : zm_V} {d : Nat} {nm : String} (hlt : l.stackTraces = false) (hV : V.2.2.2.1 = s.heap.size) (hX : zm_X p room_1 s m #[Value.ref zb] meth c RL nm cL_law 8 zk_E V 601024 7293034) (hr : meth.sig.returnType = ret) (hR : d ≤ room_1.frames ∧ 64 * d ≤ room_1.locals) (hd : 46 ≤ d) {N : Nat} {k : Nat → Nat → Nat → Nat → Int32 → Nat → Nat → zm_S → Option ((Int32 × zm_S) ⊕ ((Unit) × zm_S))} {rc rs : Nat} {a0 : Nat} {a1 : Nat} {a2 : Nat} {a3 : Nat} {i4 : Int32} {res : (Int32 × zm_S) ⊕ ((Unit) × zm_S)} {out : (Int32 × zm_S)}   (hf : ∀ o, res = .inl o → o = out) (hk : ∀ (S' : zm_S) (rc rs : Nat), res = .inr ((), S') → zw p l e room_1 s m #[Value.ref zb] below meth c (lw_Z below #[Value.ref zb] s) 8 zk_E V 601024 7293034 6008 [] [] S' rc rs) (hrec : ∀ (i4' : Int32) (rc rs : Nat) (S : zm_S), k a0 a1 a2 a3 i4' rc rs S = some res → zw p l e room_1 s m #[Value.ref zb] below meth c (lw_Z below #[Value.ref zb] s) 8 zk_E V 601024 7293034 23 [(0, .ref a0), (1, .ref a1), (2, .ref a2), (3, .ref a3), (4, .int i4')] [] S rc rs) {S : zm_S} (h : zf_L_law_J3348 N k a0 a1 a2 a3 i4 rc rs S = some res) : zw p l e room_1 s m #[Value.ref zb] below meth c (lw_Z below #[Value.ref zb] s) 8 zk_E V 601024 7293034 3348 [(0, .ref a0), (1, .ref a1), (2, .ref a2), (3, .ref a3), (4, .int i4)] [] S rc rs := by
  unfold zf_L_law_J3348 at h
  refine zw_aload_n hX dL_law_3348 rfl ?_
  refine zw_aload_n hX dL_law_3349 rfl ?_
  refine zw_iload hX dL_law_3350 rfl ?_
  refine zw_iconst (v := (1 : Int32)) hX dL_law_3352 (by decide) ?_
  refine zw_iadd hX dL_law_3353 ?_
  obtain ⟨v521, g, h⟩ := zb_some h
  refine zw_xi hX dL_law_3354 g ?_
  refine zw_aload_n hX dL_law_3355 rfl ?_
  refine zw_iload hX dL_law_3356 rfl ?_
  refine zw_iconst (v := (2 : Int32)) hX dL_law_3358 (by decide) ?_
  refine zw_iadd hX dL_law_3359 ?_
  obtain ⟨v522, g, h⟩ := zb_some h
  refine zw_xi hX dL_law_3360 g ?_
  refine zw_if_eq (tgt := 3368) hX dL_law_3361 (by decide) (fun c3361 => ?_) (fun c3361 => ?_)
  · rw [if_pos c3361] at h
    refine zw_iconst (v := (0 : Int32)) hX dL_law_3368 (by decide) ?_
    refine zw_sub (lv' := [(0, .ref a0), (1, .ref a1), (2, .ref a2), (3, .ref a3), (4, .int i4)]) (List.forall_mem_cons.mpr ⟨rfl, (List.forall_mem_cons.mpr ⟨rfl, (List.forall_mem_cons.mpr ⟨rfl, (List.forall_mem_cons.mpr ⟨rfl, (List.forall_mem_cons.mpr ⟨rfl, zs_nil⟩)⟩)⟩)⟩)⟩) ?_
    exact zt_L_law_J3369 hlt hV hX hr hR hd hf hk hrec h
  · rw [if_neg c3361] at h
    refine zw_iconst (v := (1 : Int32)) hX dL_law_3364 (by decide) ?_
    refine zw_goto (tgt := 3369) hX dL_law_3365 (by decide) ?_
    refine zw_sub (lv' := [(0, .ref a0), (1, .ref a1), (2, .ref a2), (3, .ref a3), (4, .int i4)]) (List.forall_mem_cons.mpr ⟨rfl, (List.forall_mem_cons.mpr ⟨rfl, (List.forall_mem_cons.mpr ⟨rfl, (List.forall_mem_cons.mpr ⟨rfl, (List.forall_mem_cons.mpr ⟨rfl, zs_nil⟩)⟩)⟩)⟩)⟩) ?_
    exact zt_L_law_J3369 hlt hV hX hr hR hd hf hk hrec h
set_option maxHeartbeats 4000000 in
set_option maxRecDepth 100000 in
theorem zt_L_law_J3439 {p : Program} {l : Launch} {e : Env} {s : State} {m : MethodId} {zb : Nat} {below : List Frame} {meth : Method} {c : Code} {V : zm_V} {d : Nat} {nm : String} (hlt : l.stackTraces = false) (hV : V.2.2.2.1 = s.heap.size) (hX : zm_X p room_1 s m #[Value.ref zb] meth c RL nm cL_law 8 zk_E V 601024 7293034) (hr : meth.sig.returnType = ret) (hR : d ≤ room_1.frames ∧ 64 * d ≤ room_1.locals) (hd : 46 ≤ d) {N : Nat} {k : Nat → Nat → Nat → Nat → Int32 → Nat → Nat → zm_S → Option ((Int32 × zm_S) ⊕ ((Unit) × zm_S))} {rc rs : Nat} {a0 : Nat} {a1 : Nat} {a2 : Nat} {a3 : Nat} {i4 : Int32} {res : (Int32 × zm_S) ⊕ ((Unit) × zm_S)} {out : (Int32 × zm_S)}   (hf : ∀ o, res = .inl o → o = out) (hk : ∀ (S' : zm_S) (rc rs : Nat), res = .inr ((), S') → zw p l e room_1 s m #[Value.ref zb] below meth c (lw_Z below #[Value.ref zb] s) 8 zk_E V 601024 7293034 6008 [] [] S' rc rs) (hrec : ∀ (i4' : Int32) (rc rs : Nat) (S : zm_S), k a0 a1 a2 a3 i4' rc rs S = some res → zw p l e room_1 s m #[Value.ref zb] below meth c (lw_Z below #[Value.ref zb] s) 8 zk_E V 601024 7293034 23 [(0, .ref a0), (1, .ref a1), (2, .ref a2), (3, .ref a3), (4, .int i4')] [] S rc rs) {S : zm_S} (h : zf_L_law_J3439 N k a0 a1 a2 a3 i4 rc rs S = some res) : zw p l e room_1 s m #[Value.ref zb] below meth c (lw_Z below #[Value.ref zb] s) 8 zk_E V 601024 7293034 3439 [(0, .ref a0), (1, .ref a1), (2, .ref a2), (3, .ref a3), (4, .int i4)] [] S rc rs := by
  unfold zf_L_law_J3439 at h
  refine zw_aload_n hX dL_law_3439 rfl ?_
  refine zw_aload_n hX dL_law_3440 rfl ?_
  refine zw_iload hX dL_law_3441 rfl ?_
  refine zw_iconst (v := (1 : Int32)) hX dL_law_3443 (by decide) ?_
  refine zw_iadd hX dL_law_3444 ?_
  obtain ⟨v533, g, h⟩ := zb_some h
  refine zw_xi hX dL_law_3445 g ?_
  refine zw_aload_n hX dL_law_3446 rfl ?_
  refine zw_iload hX dL_law_3447 rfl ?_
  refine zw_iconst (v := (2 : Int32)) hX dL_law_3449 (by decide) ?_
  refine zw_iadd hX dL_law_3450 ?_
  obtain ⟨v534, g, h⟩ := zb_some h
  refine zw_xi hX dL_law_3451 g ?_
  refine zw_aload_n hX dL_law_3452 rfl ?_
  by_cases hb3453 : 2 ≤ rc ∧ 12 ≤ rs
  · rw [if_pos hb3453] at h
    obtain ⟨r537, g, h⟩ := zb_some h
    refine zc_SH (as := [.ref a1, .int v533, .int v534, .ref a3]) hX (zt_L_disable hlt (d := d - 1) (by omega) g) zl_L_420 dL_law_3453 ⟨rfl, rfl, Nat.le_of_ble_eq_true rfl⟩ ⟨by omega, by omega⟩ hb3453 ?_ ?_
    · rintro _ _ ⟨rfl, rfl⟩
      refine zw_istore hX dL_law_3456 (by decide) ?_
      refine zw_aload_n hX dL_law_3458 rfl ?_
      refine zw_aload_n hX dL_law_3459 rfl ?_
      refine zw_iload hX dL_law_3460 rfl ?_
      refine zw_iconst (v := (1 : Int32)) hX dL_law_3462 (by decide) ?_
      refine zw_iadd hX dL_law_3463 ?_
      obtain ⟨v538, g, h⟩ := zb_some h
      refine zw_xi hX dL_law_3464 g ?_
      refine zw_aload_n hX dL_law_3465 rfl ?_
      refine zw_iload hX dL_law_3466 rfl ?_
      refine zw_iconst (v := (2 : Int32)) hX dL_law_3468 (by decide) ?_
      refine zw_iadd hX dL_law_3469 ?_
      obtain ⟨v539, g, h⟩ := zb_some h
      refine zw_xi hX dL_law_3470 g ?_
      obtain ⟨_, gi, h⟩ := zb_some h
      obtain ⟨r541, g, h⟩ := zb_some h
      refine zc_Vi (as := [.int v538, .int v539]) hX gi (zt_X18_disable (d := d - 1) (by omega) g) zl_L_422 rfl dL_law_3471 ⟨rfl, rfl, Nat.le_of_ble_eq_true rfl⟩ ⟨by omega, by omega⟩ ?_
      refine zw_istore hX dL_law_3474 (by decide) ?_
      refine zw_aload_n hX dL_law_3476 rfl ?_
      obtain ⟨_, gi, h⟩ := zb_some h
      obtain ⟨r543, g, h⟩ := zb_some h
      refine zc_Vi (as := []) hX gi (zt_X18_thrown (d := d - 1) (by omega) g) zl_L_281 rfl dL_law_3477 ⟨rfl, rfl, Nat.le_of_ble_eq_true rfl⟩ ⟨by omega, by omega⟩ ?_
      refine zw_iload hX dL_law_3480 rfl ?_
      refine zw_icmp_eq (tgt := 3487) hX dL_law_3482 (by decide) (fun c3482 => ?_) (fun c3482 => ?_)
      · rw [if_pos c3482] at h
        refine zw_iload hX dL_law_3487 rfl ?_
        refine zw_if_ne (tgt := 3504) hX dL_law_3489 (by decide) (fun c3489 => ?_) (fun c3489 => ?_)
        · rw [if_neg c3489] at h
          refine zw_goto (tgt := 6002) hX dL_law_3504 (by decide) ?_
          refine zw_iinc (v := (i4 + (7 : Int32))) hX dL_law_6002 rfl rfl (by decide) ?_
          refine zw_goto (tgt := 23) hX dL_law_6005 (by decide) ?_
          refine zw_sub (lv' := [(0, .ref a0), (1, .ref a1), (2, .ref a2), (3, .ref a3), (4, .int (i4 + (7 : Int32)))]) (List.forall_mem_cons.mpr ⟨rfl, (List.forall_mem_cons.mpr ⟨rfl, (List.forall_mem_cons.mpr ⟨rfl, (List.forall_mem_cons.mpr ⟨rfl, (List.forall_mem_cons.mpr ⟨rfl, zs_nil⟩)⟩)⟩)⟩)⟩) ?_
          exact hrec _ _ _ _ h
        · rw [if_pos c3489] at h
          refine zw_aload_n hX dL_law_3492 rfl ?_
          refine zw_iconst (v := (0 : Int32)) hX dL_law_3493 (by decide) ?_
          obtain ⟨w544, g, h⟩ := zb_some h
          refine zw_xl hX dL_law_3494 g ?_
          refine zw_iload hX dL_law_3495 rfl ?_
          refine zw_i2l hX dL_law_3497 ?_
          refine zw_lcmp hX dL_law_3498 ?_
          refine zw_if_eq (tgt := 3504) hX dL_law_3499 (by decide) (fun c3499 => ?_) (fun c3499 => ?_)
          · rw [if_pos c3499] at h
            refine zw_goto (tgt := 6002) hX dL_law_3504 (by decide) ?_
            refine zw_iinc (v := (i4 + (7 : Int32))) hX dL_law_6002 rfl rfl (by decide) ?_
            refine zw_goto (tgt := 23) hX dL_law_6005 (by decide) ?_
            refine zw_sub (lv' := [(0, .ref a0), (1, .ref a1), (2, .ref a2), (3, .ref a3), (4, .int (i4 + (7 : Int32)))]) (List.forall_mem_cons.mpr ⟨rfl, (List.forall_mem_cons.mpr ⟨rfl, (List.forall_mem_cons.mpr ⟨rfl, (List.forall_mem_cons.mpr ⟨rfl, (List.forall_mem_cons.mpr ⟨rfl, zs_nil⟩)⟩)⟩)⟩)⟩) ?_
            exact hrec _ _ _ _ h
          · rw [if_neg c3499] at h
            refine zw_iconst (v := (0 : Int32)) hX dL_law_3502 (by decide) ?_
            cases h
      · rw [if_neg c3482] at h
        refine zw_iconst (v := (0 : Int32)) hX dL_law_3485 (by decide) ?_
        cases h
    · intro _ _ hx
      exact hx.elim
  · rw [if_neg hb3453] at h
    cases h
set_option maxHeartbeats 4000000 in
set_option maxRecDepth 100000 in
theorem zt_L_law_J3507 {p : Program} {l : Launch} {e : Env} {s : State} {m : MethodId} {zb : Nat} {below : List Frame} {meth : Method} {c : Code} {V : zm_V} {d : Nat} {nm : String} (hlt : l.stackTraces = false) (hV : V.2.2.2.1 = s.heap.size) (hX : zm_X p room_1 s m #[Value.ref zb] meth c RL nm cL_law 8 zk_E V 601024 7293034) (hr : meth.sig.returnType = ret) (hR : d ≤ room_1.frames ∧ 64 * d ≤ room_1.locals) (hd : 46 ≤ d) {N : Nat} {k : Nat → Nat → Nat → Nat → Int32 → Nat → Nat → zm_S → Option ((Int32 × zm_S) ⊕ ((Unit) × zm_S))} {rc rs : Nat} {a0 : Nat} {a1 : Nat} {a2 : Nat} {a3 : Nat} {i4 : Int32} {res : (Int32 × zm_S) ⊕ ((Unit) × zm_S)} {out : (Int32 × zm_S)}   (hf : ∀ o, res = .inl o → o = out) (hk : ∀ (S' : zm_S) (rc rs : Nat), res = .inr ((), S') → zw p l e room_1 s m #[Value.ref zb] below meth c (lw_Z below #[Value.ref zb] s) 8 zk_E V 601024 7293034 6008 [] [] S' rc rs) (hrec : ∀ (i4' : Int32) (rc rs : Nat) (S : zm_S), k a0 a1 a2 a3 i4' rc rs S = some res → zw p l e room_1 s m #[Value.ref zb] below meth c (lw_Z below #[Value.ref zb] s) 8 zk_E V 601024 7293034 23 [(0, .ref a0), (1, .ref a1), (2, .ref a2), (3, .ref a3), (4, .int i4')] [] S rc rs) {S : zm_S} (h : zf_L_law_J3507 N k a0 a1 a2 a3 i4 rc rs S = some res) : zw p l e room_1 s m #[Value.ref zb] below meth c (lw_Z below #[Value.ref zb] s) 8 zk_E V 601024 7293034 3507 [(0, .ref a0), (1, .ref a1), (2, .ref a2), (3, .ref a3), (4, .int i4)] [] S rc rs := by
  unfold zf_L_law_J3507 at h
  refine zw_aload_n hX dL_law_3507 rfl ?_
  refine zw_aload_n hX dL_law_3508 rfl ?_
  refine zw_iload hX dL_law_3509 rfl ?_
  refine zw_iconst (v := (1 : Int32)) hX dL_law_3511 (by decide) ?_
  refine zw_iadd hX dL_law_3512 ?_
  obtain ⟨v545, g, h⟩ := zb_some h
  refine zw_xi hX dL_law_3513 g ?_
  refine zw_aload_n hX dL_law_3514 rfl ?_
  by_cases hb3515 : 2 ≤ rc ∧ 12 ≤ rs
  · rw [if_pos hb3515] at h
    obtain ⟨r548, g, h⟩ := zb_some h
    refine zc_SH (as := [.ref a1, .int v545, .ref a3]) hX (zt_L_attend hlt (d := d - 1) (by omega) g) zl_L_423 dL_law_3515 ⟨rfl, rfl, Nat.le_of_ble_eq_true rfl⟩ ⟨by omega, by omega⟩ hb3515 ?_ ?_
    · rintro _ _ ⟨rfl, rfl⟩
      refine zw_istore hX dL_law_3518 (by decide) ?_
      refine zw_aload_n hX dL_law_3520 rfl ?_
      refine zw_aload_n hX dL_law_3521 rfl ?_
      refine zw_iload hX dL_law_3522 rfl ?_
      refine zw_iconst (v := (1 : Int32)) hX dL_law_3524 (by decide) ?_
      refine zw_iadd hX dL_law_3525 ?_
      obtain ⟨v549, g, h⟩ := zb_some h
      refine zw_xi hX dL_law_3526 g ?_
      obtain ⟨_, gi, h⟩ := zb_some h
      obtain ⟨r551, g, h⟩ := zb_some h
      refine zc_Vi (as := [.int v549]) hX gi (zt_X18_attend (d := d - 1) (by omega) g) zl_L_425 rfl dL_law_3527 ⟨rfl, rfl, Nat.le_of_ble_eq_true rfl⟩ ⟨by omega, by omega⟩ ?_
      refine zw_istore hX dL_law_3530 (by decide) ?_
      refine zw_aload_n hX dL_law_3532 rfl ?_
      obtain ⟨_, gi, h⟩ := zb_some h
      obtain ⟨r553, g, h⟩ := zb_some h
      refine zc_Vi (as := []) hX gi (zt_X18_thrown (d := d - 1) (by omega) g) zl_L_281 rfl dL_law_3533 ⟨rfl, rfl, Nat.le_of_ble_eq_true rfl⟩ ⟨by omega, by omega⟩ ?_
      refine zw_iload hX dL_law_3536 rfl ?_
      refine zw_icmp_eq (tgt := 3543) hX dL_law_3538 (by decide) (fun c3538 => ?_) (fun c3538 => ?_)
      · rw [if_pos c3538] at h
        refine zw_iload hX dL_law_3543 rfl ?_
        refine zw_if_ne (tgt := 3560) hX dL_law_3545 (by decide) (fun c3545 => ?_) (fun c3545 => ?_)
        · rw [if_neg c3545] at h
          refine zw_goto (tgt := 6002) hX dL_law_3560 (by decide) ?_
          refine zw_iinc (v := (i4 + (7 : Int32))) hX dL_law_6002 rfl rfl (by decide) ?_
          refine zw_goto (tgt := 23) hX dL_law_6005 (by decide) ?_
          refine zw_sub (lv' := [(0, .ref a0), (1, .ref a1), (2, .ref a2), (3, .ref a3), (4, .int (i4 + (7 : Int32)))]) (List.forall_mem_cons.mpr ⟨rfl, (List.forall_mem_cons.mpr ⟨rfl, (List.forall_mem_cons.mpr ⟨rfl, (List.forall_mem_cons.mpr ⟨rfl, (List.forall_mem_cons.mpr ⟨rfl, zs_nil⟩)⟩)⟩)⟩)⟩) ?_
          exact hrec _ _ _ _ h
        · rw [if_pos c3545] at h
          refine zw_aload_n hX dL_law_3548 rfl ?_
          refine zw_iconst (v := (0 : Int32)) hX dL_law_3549 (by decide) ?_
          obtain ⟨w554, g, h⟩ := zb_some h
          refine zw_xl hX dL_law_3550 g ?_
          refine zw_iload hX dL_law_3551 rfl ?_
          refine zw_i2l hX dL_law_3553 ?_
          refine zw_lcmp hX dL_law_3554 ?_
          refine zw_if_eq (tgt := 3560) hX dL_law_3555 (by decide) (fun c3555 => ?_) (fun c3555 => ?_)
          · rw [if_pos c3555] at h
            refine zw_goto (tgt := 6002) hX dL_law_3560 (by decide) ?_
            refine zw_iinc (v := (i4 + (7 : Int32))) hX dL_law_6002 rfl rfl (by decide) ?_
            refine zw_goto (tgt := 23) hX dL_law_6005 (by decide) ?_
            refine zw_sub (lv' := [(0, .ref a0), (1, .ref a1), (2, .ref a2), (3, .ref a3), (4, .int (i4 + (7 : Int32)))]) (List.forall_mem_cons.mpr ⟨rfl, (List.forall_mem_cons.mpr ⟨rfl, (List.forall_mem_cons.mpr ⟨rfl, (List.forall_mem_cons.mpr ⟨rfl, (List.forall_mem_cons.mpr ⟨rfl, zs_nil⟩)⟩)⟩)⟩)⟩) ?_
            exact hrec _ _ _ _ h
          · rw [if_neg c3555] at h
            refine zw_iconst (v := (0 : Int32)) hX dL_law_3558 (by decide) ?_
            cases h
      · rw [if_neg c3538] at h
        refine zw_iconst (v := (0 : Int32)) hX dL_law_3541 (by decide) ?_
        cases h
    · intro _ _ hx
      exact hx.elim
  · rw [if_neg hb3515] at h
    cases h
set_option maxHeartbeats 4000000 in
set_option maxRecDepth 100000 in
theorem zt_L_law_J3563 {p : Program} {l : Launch} {e : Env} {s : State} {m : MethodId} {zb : Nat} {below : List Frame} {meth : Method} {c : Code} {V : zm_V} {d : Nat} {nm : String} (hlt : l.stackTraces = false) (hV : V.2.2.2.1 = s.heap.size) (hX : zm_X p room_1 s m #[Value.ref zb] meth c RL nm cL_law 8 zk_E V 601024 7293034) (hr : meth.sig.returnType = ret) (hR : d ≤ room_1.frames ∧ 64 * d ≤ room_1.locals) (hd : 46 ≤ d) {N : Nat} {k : Nat → Nat → Nat → Nat → Int32 → Nat → Nat → zm_S → Option ((Int32 × zm_S) ⊕ ((Unit) × zm_S))} {rc rs : Nat} {a0 : Nat} {a1 : Nat} {a2 : Nat} {a3 : Nat} {i4 : Int32} {res : (Int32 × zm_S) ⊕ ((Unit) × zm_S)} {out : (Int32 × zm_S)}   (hf : ∀ o, res = .inl o → o = out) (hk : ∀ (S' : zm_S) (rc rs : Nat), res = .inr ((), S') → zw p l e room_1 s m #[Value.ref zb] below meth c (lw_Z below #[Value.ref zb] s) 8 zk_E V 601024 7293034 6008 [] [] S' rc rs) (hrec : ∀ (i4' : Int32) (rc rs : Nat) (S : zm_S), k a0 a1 a2 a3 i4' rc rs S = some res → zw p l e room_1 s m #[Value.ref zb] below meth c (lw_Z below #[Value.ref zb] s) 8 zk_E V 601024 7293034 23 [(0, .ref a0), (1, .ref a1), (2, .ref a2), (3, .ref a3), (4, .int i4')] [] S rc rs) {S : zm_S} (h : zf_L_law_J3563 N k a0 a1 a2 a3 i4 rc rs S = some res) : zw p l e room_1 s m #[Value.ref zb] below meth c (lw_Z below #[Value.ref zb] s) 8 zk_E V 601024 7293034 3563 [(0, .ref a0), (1, .ref a1), (2, .ref a2), (3, .ref a3), (4, .int i4)] [] S rc rs := by
  unfold zf_L_law_J3563 at h
  refine zw_aload_n hX dL_law_3563 rfl ?_
  refine zw_aload_n hX dL_law_3564 rfl ?_
  by_cases hb3565 : 1 ≤ rc ∧ 6 ≤ rs
  · rw [if_pos hb3565] at h
    obtain ⟨r557, g, h⟩ := zb_some h
    refine zc_SH (as := [.ref a1, .ref a3]) hX (zt_L_reset hlt (d := d - 1) (by omega) g) zl_L_426 dL_law_3565 ⟨rfl, rfl, Nat.le_of_ble_eq_true rfl⟩ ⟨by omega, by omega⟩ hb3565 ?_ ?_
    · rintro _ _ ⟨rfl, rfl⟩
      refine zw_istore hX dL_law_3568 (by decide) ?_
      refine zw_aload_n hX dL_law_3570 rfl ?_
      obtain ⟨_, gi, h⟩ := zb_some h
      obtain ⟨r559, g, h⟩ := zb_some h
      refine zc_Vi (as := []) hX gi (zt_X18_reset (d := d - 1) (by omega) g) zl_L_428 rfl dL_law_3571 ⟨rfl, rfl, Nat.le_of_ble_eq_true rfl⟩ ⟨by omega, by omega⟩ ?_
      refine zw_istore hX dL_law_3574 (by decide) ?_
      refine zw_aload_n hX dL_law_3576 rfl ?_
      obtain ⟨_, gi, h⟩ := zb_some h
      obtain ⟨r561, g, h⟩ := zb_some h
      refine zc_Vi (as := []) hX gi (zt_X18_thrown (d := d - 1) (by omega) g) zl_L_281 rfl dL_law_3577 ⟨rfl, rfl, Nat.le_of_ble_eq_true rfl⟩ ⟨by omega, by omega⟩ ?_
      refine zw_iload hX dL_law_3580 rfl ?_
      refine zw_icmp_eq (tgt := 3587) hX dL_law_3582 (by decide) (fun c3582 => ?_) (fun c3582 => ?_)
      · rw [if_pos c3582] at h
        refine zw_iload hX dL_law_3587 rfl ?_
        refine zw_if_ne (tgt := 3604) hX dL_law_3589 (by decide) (fun c3589 => ?_) (fun c3589 => ?_)
        · rw [if_neg c3589] at h
          refine zw_goto (tgt := 6002) hX dL_law_3604 (by decide) ?_
          refine zw_iinc (v := (i4 + (7 : Int32))) hX dL_law_6002 rfl rfl (by decide) ?_
          refine zw_goto (tgt := 23) hX dL_law_6005 (by decide) ?_
          refine zw_sub (lv' := [(0, .ref a0), (1, .ref a1), (2, .ref a2), (3, .ref a3), (4, .int (i4 + (7 : Int32)))]) (List.forall_mem_cons.mpr ⟨rfl, (List.forall_mem_cons.mpr ⟨rfl, (List.forall_mem_cons.mpr ⟨rfl, (List.forall_mem_cons.mpr ⟨rfl, (List.forall_mem_cons.mpr ⟨rfl, zs_nil⟩)⟩)⟩)⟩)⟩) ?_
          exact hrec _ _ _ _ h
        · rw [if_pos c3589] at h
          refine zw_aload_n hX dL_law_3592 rfl ?_
          refine zw_iconst (v := (0 : Int32)) hX dL_law_3593 (by decide) ?_
          obtain ⟨w562, g, h⟩ := zb_some h
          refine zw_xl hX dL_law_3594 g ?_
          refine zw_iload hX dL_law_3595 rfl ?_
          refine zw_i2l hX dL_law_3597 ?_
          refine zw_lcmp hX dL_law_3598 ?_
          refine zw_if_eq (tgt := 3604) hX dL_law_3599 (by decide) (fun c3599 => ?_) (fun c3599 => ?_)
          · rw [if_pos c3599] at h
            refine zw_goto (tgt := 6002) hX dL_law_3604 (by decide) ?_
            refine zw_iinc (v := (i4 + (7 : Int32))) hX dL_law_6002 rfl rfl (by decide) ?_
            refine zw_goto (tgt := 23) hX dL_law_6005 (by decide) ?_
            refine zw_sub (lv' := [(0, .ref a0), (1, .ref a1), (2, .ref a2), (3, .ref a3), (4, .int (i4 + (7 : Int32)))]) (List.forall_mem_cons.mpr ⟨rfl, (List.forall_mem_cons.mpr ⟨rfl, (List.forall_mem_cons.mpr ⟨rfl, (List.forall_mem_cons.mpr ⟨rfl, (List.forall_mem_cons.mpr ⟨rfl, zs_nil⟩)⟩)⟩)⟩)⟩) ?_
            exact hrec _ _ _ _ h
          · rw [if_neg c3599] at h
            refine zw_iconst (v := (0 : Int32)) hX dL_law_3602 (by decide) ?_
            cases h
      · rw [if_neg c3582] at h
        refine zw_iconst (v := (0 : Int32)) hX dL_law_3585 (by decide) ?_
        cases h
    · intro _ _ hx
      exact hx.elim
  · rw [if_neg hb3565] at h
    cases h

