/-! ===== functions of methods, by program (wip/whole/tools/gen11.py) ===== -/


set_option maxHeartbeats 4000000 in
set_option maxRecDepth 100000 in
theorem zt_L_law_J4780 {p : Program} {l : Launch} {e : Env} {s : State} {m : MethodId} {zb : Nat} {below : List Frame} {meth : Method} {c : Code} {V : zm_V} {d : Nat} {nm : String} (hlt : l.stackTraces = false) (hV : V.2.2.2.1 = s.heap.size) (hX : zm_X p room_1 s m #[Value.ref zb] meth c RL nm cL_law 8 zk_E V 601024 7293034) (hr : meth.sig.returnType = ret) (hR : d ≤ room_1.frames ∧ 64 * d ≤ room_1.locals) (hd : 46 ≤ d) {N : Nat} {k : Nat → Nat → Nat → Nat → Int32 → Nat → Nat → zm_S → Option ((Int32 × zm_S) ⊕ ((Unit) × zm_S))} {rc rs : Nat} {a0 : Nat} {a1 : Nat} {a2 : Nat} {a3 : Nat} {i4 : Int32} {t0 : Int64} {t1 : Int64} {res : (Int32 × zm_S) ⊕ ((Unit) × zm_S)} {out : (Int32 × zm_S)}   (hf : ∀ o, res = .inl o → o = out) (hk : ∀ (S' : zm_S) (rc rs : Nat), res = .inr ((), S') → zw p l e room_1 s m #[Value.ref zb] below meth c (lw_Z below #[Value.ref zb] s) 8 zk_E V 601024 7293034 6008 [] [] S' rc rs) (hrec : ∀ (i4' : Int32) (rc rs : Nat) (S : zm_S), k a0 a1 a2 a3 i4' rc rs S = some res → zw p l e room_1 s m #[Value.ref zb] below meth c (lw_Z below #[Value.ref zb] s) 8 zk_E V 601024 7293034 23 [(0, .ref a0), (1, .ref a1), (2, .ref a2), (3, .ref a3), (4, .int i4')] [] S rc rs) {S : zm_S} (h : zf_L_law_J4780 N k a0 a1 a2 a3 i4 t0 t1 rc rs S = some res) : zw p l e room_1 s m #[Value.ref zb] below meth c (lw_Z below #[Value.ref zb] s) 8 zk_E V 601024 7293034 4780 [(0, .ref a0), (1, .ref a1), (2, .ref a2), (3, .ref a3), (4, .int i4)] [.long t1, .long t0] S rc rs := by
  unfold zf_L_law_J4780 at h
  refine zw_lcmp hX dL_law_4780 ?_
  refine zw_if_eq (tgt := 4786) hX dL_law_4781 (by decide) (fun c4781 => ?_) (fun c4781 => ?_)
  · rw [if_pos c4781] at h
    refine zw_goto (tgt := 6002) hX dL_law_4786 (by decide) ?_
    refine zw_iinc (v := (i4 + (7 : Int32))) hX dL_law_6002 rfl rfl (by decide) ?_
    refine zw_goto (tgt := 23) hX dL_law_6005 (by decide) ?_
    refine zw_sub (lv' := [(0, .ref a0), (1, .ref a1), (2, .ref a2), (3, .ref a3), (4, .int (i4 + (7 : Int32)))]) (List.forall_mem_cons.mpr ⟨rfl, (List.forall_mem_cons.mpr ⟨rfl, (List.forall_mem_cons.mpr ⟨rfl, (List.forall_mem_cons.mpr ⟨rfl, (List.forall_mem_cons.mpr ⟨rfl, zs_nil⟩)⟩)⟩)⟩)⟩) ?_
    exact hrec _ _ _ _ h
  · rw [if_neg c4781] at h
    refine zw_iconst (v := (0 : Int32)) hX dL_law_4784 (by decide) ?_
    cases h
set_option maxHeartbeats 4000000 in
set_option maxRecDepth 100000 in
theorem zt_L_law_J4746 {p : Program} {l : Launch} {e : Env} {s : State} {m : MethodId} {zb : Nat} {below : List Frame} {meth : Method} {c : Code} {V : zm_V} {d : Nat} {nm : String} (hlt : l.stackTraces = false) (hV : V.2.2.2.1 = s.heap.size) (hX : zm_X p room_1 s m #[Value.ref zb] meth c RL nm cL_law 8 zk_E V 601024 7293034) (hr : meth.sig.returnType = ret) (hR : d ≤ room_1.frames ∧ 64 * d ≤ room_1.locals) (hd : 46 ≤ d) {N : Nat} {k : Nat → Nat → Nat → Nat → Int32 → Nat → Nat → zm_S → Option ((Int32 × zm_S) ⊕ ((Unit) × zm_S))} {rc rs : Nat} {a0 : Nat} {a1 : Nat} {a2 : Nat} {a3 : Nat} {i4 : Int32} {i5 : Int32} {t0 : Nat} {t1 : Int32} {t2 : Int32} {t3 : Int32} {res : (Int32 × zm_S) ⊕ ((Unit) × zm_S)} {out : (Int32 × zm_S)}   (hf : ∀ o, res = .inl o → o = out) (hk : ∀ (S' : zm_S) (rc rs : Nat), res = .inr ((), S') → zw p l e room_1 s m #[Value.ref zb] below meth c (lw_Z below #[Value.ref zb] s) 8 zk_E V 601024 7293034 6008 [] [] S' rc rs) (hrec : ∀ (i4' : Int32) (rc rs : Nat) (S : zm_S), k a0 a1 a2 a3 i4' rc rs S = some res → zw p l e room_1 s m #[Value.ref zb] below meth c (lw_Z below #[Value.ref zb] s) 8 zk_E V 601024 7293034 23 [(0, .ref a0), (1, .ref a1), (2, .ref a2), (3, .ref a3), (4, .int i4')] [] S rc rs) {S : zm_S} (h : zf_L_law_J4746 N k a0 a1 a2 a3 i4 i5 t0 t1 t2 t3 rc rs S = some res) : zw p l e room_1 s m #[Value.ref zb] below meth c (lw_Z below #[Value.ref zb] s) 8 zk_E V 601024 7293034 4746 [(0, .ref a0), (1, .ref a1), (2, .ref a2), (3, .ref a3), (4, .int i4), (5, .int i5)] [.int t3, .int t2, .int t1, .ref t0] S rc rs := by
  unfold zf_L_law_J4746 at h
  obtain ⟨_, gi, h⟩ := zb_some h
  obtain ⟨r762, g, h⟩ := zb_some h
  refine zc_Vi (as := [.int t1, .int t2, .int t3]) hX gi (zt_X18_listen (d := d - 1) (by omega) g) zl_L_481 rfl dL_law_4746 ⟨rfl, rfl, Nat.le_of_ble_eq_true rfl⟩ ⟨by omega, by omega⟩ ?_
  refine zw_istore hX dL_law_4749 (by decide) ?_
  refine zw_aload_n hX dL_law_4751 rfl ?_
  obtain ⟨_, gi, h⟩ := zb_some h
  obtain ⟨r764, g, h⟩ := zb_some h
  refine zc_Vi (as := []) hX gi (zt_X18_thrown (d := d - 1) (by omega) g) zl_L_281 rfl dL_law_4752 ⟨rfl, rfl, Nat.le_of_ble_eq_true rfl⟩ ⟨by omega, by omega⟩ ?_
  refine zw_iload hX dL_law_4755 rfl ?_
  refine zw_icmp_eq (tgt := 4762) hX dL_law_4757 (by decide) (fun c4757 => ?_) (fun c4757 => ?_)
  · rw [if_pos c4757] at h
    refine zw_iload hX dL_law_4762 rfl ?_
    refine zw_if_ne (tgt := 4786) hX dL_law_4764 (by decide) (fun c4764 => ?_) (fun c4764 => ?_)
    · rw [if_neg c4764] at h
      refine zw_goto (tgt := 6002) hX dL_law_4786 (by decide) ?_
      refine zw_iinc (v := (i4 + (7 : Int32))) hX dL_law_6002 rfl rfl (by decide) ?_
      refine zw_goto (tgt := 23) hX dL_law_6005 (by decide) ?_
      refine zw_sub (lv' := [(0, .ref a0), (1, .ref a1), (2, .ref a2), (3, .ref a3), (4, .int (i4 + (7 : Int32)))]) (List.forall_mem_cons.mpr ⟨rfl, (List.forall_mem_cons.mpr ⟨rfl, (List.forall_mem_cons.mpr ⟨rfl, (List.forall_mem_cons.mpr ⟨rfl, (List.forall_mem_cons.mpr ⟨rfl, zs_nil⟩)⟩)⟩)⟩)⟩) ?_
      exact hrec _ _ _ _ h
    · rw [if_pos c4764] at h
      refine zw_aload_n hX dL_law_4767 rfl ?_
      refine zw_iconst (v := (0 : Int32)) hX dL_law_4768 (by decide) ?_
      obtain ⟨w765, g, h⟩ := zb_some h
      refine zw_xl hX dL_law_4769 g ?_
      refine zw_iload hX dL_law_4770 rfl ?_
      refine zw_if_eq (tgt := 4779) hX dL_law_4772 (by decide) (fun c4772 => ?_) (fun c4772 => ?_)
      · rw [if_pos c4772] at h
        refine zw_lconst (v := (0 : Int64)) hX dL_law_4779 (by decide) ?_
        refine zw_sub (lv' := [(0, .ref a0), (1, .ref a1), (2, .ref a2), (3, .ref a3), (4, .int i4)]) (List.forall_mem_cons.mpr ⟨rfl, (List.forall_mem_cons.mpr ⟨rfl, (List.forall_mem_cons.mpr ⟨rfl, (List.forall_mem_cons.mpr ⟨rfl, (List.forall_mem_cons.mpr ⟨rfl, zs_nil⟩)⟩)⟩)⟩)⟩) ?_
        exact zt_L_law_J4780 hlt hV hX hr hR hd hf hk hrec h
      · rw [if_neg c4772] at h
        refine zw_lconst (v := (1 : Int64)) hX dL_law_4775 (by decide) ?_
        refine zw_goto (tgt := 4780) hX dL_law_4776 (by decide) ?_
        refine zw_sub (lv' := [(0, .ref a0), (1, .ref a1), (2, .ref a2), (3, .ref a3), (4, .int i4)]) (List.forall_mem_cons.mpr ⟨rfl, (List.forall_mem_cons.mpr ⟨rfl, (List.forall_mem_cons.mpr ⟨rfl, (List.forall_mem_cons.mpr ⟨rfl, (List.forall_mem_cons.mpr ⟨rfl, zs_nil⟩)⟩)⟩)⟩)⟩) ?_
        exact zt_L_law_J4780 hlt hV hX hr hR hd hf hk hrec h
  · rw [if_neg c4757] at h
    refine zw_iconst (v := (0 : Int32)) hX dL_law_4760 (by decide) ?_
    cases h
set_option maxHeartbeats 4000000 in
set_option maxRecDepth 100000 in
theorem zt_L_law_J4713 {p : Program} {l : Launch} {e : Env} {s : State} {m : MethodId} {zb : Nat} {below : List Frame} {meth : Method} {c : Code} {V : zm_V} {d : Nat} {nm : String} (hlt : l.stackTraces = false) (hV : V.2.2.2.1 = s.heap.size) (hX : zm_X p room_1 s m #[Value.ref zb] meth c RL nm cL_law 8 zk_E V 601024 7293034) (hr : meth.sig.returnType = ret) (hR : d ≤ room_1.frames ∧ 64 * d ≤ room_1.locals) (hd : 46 ≤ d) {N : Nat} {k : Nat → Nat → Nat → Nat → Int32 → Nat → Nat → zm_S → Option ((Int32 × zm_S) ⊕ ((Unit) × zm_S))} {rc rs : Nat} {a0 : Nat} {a1 : Nat} {a2 : Nat} {a3 : Nat} {i4 : Int32} {t0 : Nat} {t1 : Int32} {t2 : Int32} {t3 : Int32} {res : (Int32 × zm_S) ⊕ ((Unit) × zm_S)} {out : (Int32 × zm_S)}   (hf : ∀ o, res = .inl o → o = out) (hk : ∀ (S' : zm_S) (rc rs : Nat), res = .inr ((), S') → zw p l e room_1 s m #[Value.ref zb] below meth c (lw_Z below #[Value.ref zb] s) 8 zk_E V 601024 7293034 6008 [] [] S' rc rs) (hrec : ∀ (i4' : Int32) (rc rs : Nat) (S : zm_S), k a0 a1 a2 a3 i4' rc rs S = some res → zw p l e room_1 s m #[Value.ref zb] below meth c (lw_Z below #[Value.ref zb] s) 8 zk_E V 601024 7293034 23 [(0, .ref a0), (1, .ref a1), (2, .ref a2), (3, .ref a3), (4, .int i4')] [] S rc rs) {S : zm_S} (h : zf_L_law_J4713 N k a0 a1 a2 a3 i4 t0 t1 t2 t3 rc rs S = some res) : zw p l e room_1 s m #[Value.ref zb] below meth c (lw_Z below #[Value.ref zb] s) 8 zk_E V 601024 7293034 4713 [(0, .ref a0), (1, .ref a1), (2, .ref a2), (3, .ref a3), (4, .int i4)] [.int t3, .int t2, .int t1, .ref t0] S rc rs := by
  unfold zf_L_law_J4713 at h
  refine zw_aload_n hX dL_law_4713 rfl ?_
  by_cases hb4714 : 2 ≤ rc ∧ 12 ≤ rs
  · rw [if_pos hb4714] at h
    obtain ⟨r757, g, h⟩ := zb_some h
    refine zc_SH (as := [.ref t0, .int t1, .int t2, .int t3, .ref a3]) hX (zt_L_listen hlt (d := d - 1) (by omega) g) zl_L_479 dL_law_4714 ⟨rfl, rfl, Nat.le_of_ble_eq_true rfl⟩ ⟨by omega, by omega⟩ hb4714 ?_ ?_
    · rintro _ _ ⟨rfl, rfl⟩
      refine zw_istore hX dL_law_4717 (by decide) ?_
      refine zw_aload_n hX dL_law_4719 rfl ?_
      refine zw_aload_n hX dL_law_4720 rfl ?_
      refine zw_iload hX dL_law_4721 rfl ?_
      refine zw_iconst (v := (1 : Int32)) hX dL_law_4723 (by decide) ?_
      refine zw_iadd hX dL_law_4724 ?_
      obtain ⟨v758, g, h⟩ := zb_some h
      refine zw_xi hX dL_law_4725 g ?_
      refine zw_aload_n hX dL_law_4726 rfl ?_
      refine zw_iload hX dL_law_4727 rfl ?_
      refine zw_iconst (v := (2 : Int32)) hX dL_law_4729 (by decide) ?_
      refine zw_iadd hX dL_law_4730 ?_
      obtain ⟨v759, g, h⟩ := zb_some h
      refine zw_xi hX dL_law_4731 g ?_
      refine zw_aload_n hX dL_law_4732 rfl ?_
      refine zw_iload hX dL_law_4733 rfl ?_
      refine zw_iconst (v := (3 : Int32)) hX dL_law_4735 (by decide) ?_
      refine zw_iadd hX dL_law_4736 ?_
      obtain ⟨v760, g, h⟩ := zb_some h
      refine zw_xi hX dL_law_4737 g ?_
      refine zw_if_eq (tgt := 4745) hX dL_law_4738 (by decide) (fun c4738 => ?_) (fun c4738 => ?_)
      · rw [if_pos c4738] at h
        refine zw_iconst (v := (0 : Int32)) hX dL_law_4745 (by decide) ?_
        refine zw_sub (lv' := [(0, .ref a0), (1, .ref a1), (2, .ref a2), (3, .ref a3), (4, .int i4), (5, .int r757.1)]) (List.forall_mem_cons.mpr ⟨rfl, (List.forall_mem_cons.mpr ⟨rfl, (List.forall_mem_cons.mpr ⟨rfl, (List.forall_mem_cons.mpr ⟨rfl, (List.forall_mem_cons.mpr ⟨rfl, (List.forall_mem_cons.mpr ⟨rfl, zs_nil⟩)⟩)⟩)⟩)⟩)⟩) ?_
        exact zt_L_law_J4746 hlt hV hX hr hR hd hf hk hrec h
      · rw [if_neg c4738] at h
        refine zw_iconst (v := (1 : Int32)) hX dL_law_4741 (by decide) ?_
        refine zw_goto (tgt := 4746) hX dL_law_4742 (by decide) ?_
        refine zw_sub (lv' := [(0, .ref a0), (1, .ref a1), (2, .ref a2), (3, .ref a3), (4, .int i4), (5, .int r757.1)]) (List.forall_mem_cons.mpr ⟨rfl, (List.forall_mem_cons.mpr ⟨rfl, (List.forall_mem_cons.mpr ⟨rfl, (List.forall_mem_cons.mpr ⟨rfl, (List.forall_mem_cons.mpr ⟨rfl, (List.forall_mem_cons.mpr ⟨rfl, zs_nil⟩)⟩)⟩)⟩)⟩)⟩) ?_
        exact zt_L_law_J4746 hlt hV hX hr hR hd hf hk hrec h
    · intro _ _ hx
      exact hx.elim
  · rw [if_neg hb4714] at h
    cases h
set_option maxHeartbeats 4000000 in
set_option maxRecDepth 100000 in
theorem zt_L_law_J4686 {p : Program} {l : Launch} {e : Env} {s : State} {m : MethodId} {zb : Nat} {below : List Frame} {meth : Method} {c : Code} {V : zm_V} {d : Nat} {nm : String} (hlt : l.stackTraces = false) (hV : V.2.2.2.1 = s.heap.size) (hX : zm_X p room_1 s m #[Value.ref zb] meth c RL nm cL_law 8 zk_E V 601024 7293034) (hr : meth.sig.returnType = ret) (hR : d ≤ room_1.frames ∧ 64 * d ≤ room_1.locals) (hd : 46 ≤ d) {N : Nat} {k : Nat → Nat → Nat → Nat → Int32 → Nat → Nat → zm_S → Option ((Int32 × zm_S) ⊕ ((Unit) × zm_S))} {rc rs : Nat} {a0 : Nat} {a1 : Nat} {a2 : Nat} {a3 : Nat} {i4 : Int32} {res : (Int32 × zm_S) ⊕ ((Unit) × zm_S)} {out : (Int32 × zm_S)}   (hf : ∀ o, res = .inl o → o = out) (hk : ∀ (S' : zm_S) (rc rs : Nat), res = .inr ((), S') → zw p l e room_1 s m #[Value.ref zb] below meth c (lw_Z below #[Value.ref zb] s) 8 zk_E V 601024 7293034 6008 [] [] S' rc rs) (hrec : ∀ (i4' : Int32) (rc rs : Nat) (S : zm_S), k a0 a1 a2 a3 i4' rc rs S = some res → zw p l e room_1 s m #[Value.ref zb] below meth c (lw_Z below #[Value.ref zb] s) 8 zk_E V 601024 7293034 23 [(0, .ref a0), (1, .ref a1), (2, .ref a2), (3, .ref a3), (4, .int i4')] [] S rc rs) {S : zm_S} (h : zf_L_law_J4686 N k a0 a1 a2 a3 i4 rc rs S = some res) : zw p l e room_1 s m #[Value.ref zb] below meth c (lw_Z below #[Value.ref zb] s) 8 zk_E V 601024 7293034 4686 [(0, .ref a0), (1, .ref a1), (2, .ref a2), (3, .ref a3), (4, .int i4)] [] S rc rs := by
  unfold zf_L_law_J4686 at h
  refine zw_aload_n hX dL_law_4686 rfl ?_
  refine zw_aload_n hX dL_law_4687 rfl ?_
  refine zw_iload hX dL_law_4688 rfl ?_
  refine zw_iconst (v := (1 : Int32)) hX dL_law_4690 (by decide) ?_
  refine zw_iadd hX dL_law_4691 ?_
  obtain ⟨v752, g, h⟩ := zb_some h
  refine zw_xi hX dL_law_4692 g ?_
  refine zw_aload_n hX dL_law_4693 rfl ?_
  refine zw_iload hX dL_law_4694 rfl ?_
  refine zw_iconst (v := (2 : Int32)) hX dL_law_4696 (by decide) ?_
  refine zw_iadd hX dL_law_4697 ?_
  obtain ⟨v753, g, h⟩ := zb_some h
  refine zw_xi hX dL_law_4698 g ?_
  refine zw_aload_n hX dL_law_4699 rfl ?_
  refine zw_iload hX dL_law_4700 rfl ?_
  refine zw_iconst (v := (3 : Int32)) hX dL_law_4702 (by decide) ?_
  refine zw_iadd hX dL_law_4703 ?_
  obtain ⟨v754, g, h⟩ := zb_some h
  refine zw_xi hX dL_law_4704 g ?_
  refine zw_if_eq (tgt := 4712) hX dL_law_4705 (by decide) (fun c4705 => ?_) (fun c4705 => ?_)
  · rw [if_pos c4705] at h
    refine zw_iconst (v := (0 : Int32)) hX dL_law_4712 (by decide) ?_
    refine zw_sub (lv' := [(0, .ref a0), (1, .ref a1), (2, .ref a2), (3, .ref a3), (4, .int i4)]) (List.forall_mem_cons.mpr ⟨rfl, (List.forall_mem_cons.mpr ⟨rfl, (List.forall_mem_cons.mpr ⟨rfl, (List.forall_mem_cons.mpr ⟨rfl, (List.forall_mem_cons.mpr ⟨rfl, zs_nil⟩)⟩)⟩)⟩)⟩) ?_
    exact zt_L_law_J4713 hlt hV hX hr hR hd hf hk hrec h
  · rw [if_neg c4705] at h
    refine zw_iconst (v := (1 : Int32)) hX dL_law_4708 (by decide) ?_
    refine zw_goto (tgt := 4713) hX dL_law_4709 (by decide) ?_
    refine zw_sub (lv' := [(0, .ref a0), (1, .ref a1), (2, .ref a2), (3, .ref a3), (4, .int i4)]) (List.forall_mem_cons.mpr ⟨rfl, (List.forall_mem_cons.mpr ⟨rfl, (List.forall_mem_cons.mpr ⟨rfl, (List.forall_mem_cons.mpr ⟨rfl, (List.forall_mem_cons.mpr ⟨rfl, zs_nil⟩)⟩)⟩)⟩)⟩) ?_
    exact zt_L_law_J4713 hlt hV hX hr hR hd hf hk hrec h
set_option maxHeartbeats 4000000 in
set_option maxRecDepth 100000 in
theorem zt_L_law_J4871 {p : Program} {l : Launch} {e : Env} {s : State} {m : MethodId} {zb : Nat} {below : List Frame} {meth : Method} {c : Code} {V : zm_V} {d : Nat} {nm : String} (hlt : l.stackTraces = false) (hV : V.2.2.2.1 = s.heap.size) (hX : zm_X p room_1 s m #[Value.ref zb] meth c RL nm cL_law 8 zk_E V 601024 7293034) (hr : meth.sig.returnType = ret) (hR : d ≤ room_1.frames ∧ 64 * d ≤ room_1.locals) (hd : 46 ≤ d) {N : Nat} {k : Nat → Nat → Nat → Nat → Int32 → Nat → Nat → zm_S → Option ((Int32 × zm_S) ⊕ ((Unit) × zm_S))} {rc rs : Nat} {a0 : Nat} {a1 : Nat} {a2 : Nat} {a3 : Nat} {i4 : Int32} {t0 : Int64} {t1 : Int64} {res : (Int32 × zm_S) ⊕ ((Unit) × zm_S)} {out : (Int32 × zm_S)}   (hf : ∀ o, res = .inl o → o = out) (hk : ∀ (S' : zm_S) (rc rs : Nat), res = .inr ((), S') → zw p l e room_1 s m #[Value.ref zb] below meth c (lw_Z below #[Value.ref zb] s) 8 zk_E V 601024 7293034 6008 [] [] S' rc rs) (hrec : ∀ (i4' : Int32) (rc rs : Nat) (S : zm_S), k a0 a1 a2 a3 i4' rc rs S = some res → zw p l e room_1 s m #[Value.ref zb] below meth c (lw_Z below #[Value.ref zb] s) 8 zk_E V 601024 7293034 23 [(0, .ref a0), (1, .ref a1), (2, .ref a2), (3, .ref a3), (4, .int i4')] [] S rc rs) {S : zm_S} (h : zf_L_law_J4871 N k a0 a1 a2 a3 i4 t0 t1 rc rs S = some res) : zw p l e room_1 s m #[Value.ref zb] below meth c (lw_Z below #[Value.ref zb] s) 8 zk_E V 601024 7293034 4871 [(0, .ref a0), (1, .ref a1), (2, .ref a2), (3, .ref a3), (4, .int i4)] [.long t1, .long t0] S rc rs := by
  unfold zf_L_law_J4871 at h
  refine zw_lcmp hX dL_law_4871 ?_
  refine zw_if_eq (tgt := 4877) hX dL_law_4872 (by decide) (fun c4872 => ?_) (fun c4872 => ?_)
  · rw [if_pos c4872] at h
    refine zw_goto (tgt := 6002) hX dL_law_4877 (by decide) ?_
    refine zw_iinc (v := (i4 + (7 : Int32))) hX dL_law_6002 rfl rfl (by decide) ?_
    refine zw_goto (tgt := 23) hX dL_law_6005 (by decide) ?_
    refine zw_sub (lv' := [(0, .ref a0), (1, .ref a1), (2, .ref a2), (3, .ref a3), (4, .int (i4 + (7 : Int32)))]) (List.forall_mem_cons.mpr ⟨rfl, (List.forall_mem_cons.mpr ⟨rfl, (List.forall_mem_cons.mpr ⟨rfl, (List.forall_mem_cons.mpr ⟨rfl, (List.forall_mem_cons.mpr ⟨rfl, zs_nil⟩)⟩)⟩)⟩)⟩) ?_
    exact hrec _ _ _ _ h
  · rw [if_neg c4872] at h
    refine zw_iconst (v := (0 : Int32)) hX dL_law_4875 (by decide) ?_
    cases h
set_option maxHeartbeats 4000000 in
set_option maxRecDepth 100000 in
theorem zt_L_law_J4837 {p : Program} {l : Launch} {e : Env} {s : State} {m : MethodId} {zb : Nat} {below : List Frame} {meth : Method} {c : Code} {V : zm_V} {d : Nat} {nm : String} (hlt : l.stackTraces = false) (hV : V.2.2.2.1 = s.heap.size) (hX : zm_X p room_1 s m #[Value.ref zb] meth c RL nm cL_law 8 zk_E V 601024 7293034) (hr : meth.sig.returnType = ret) (hR : d ≤ room_1.frames ∧ 64 * d ≤ room_1.locals) (hd : 46 ≤ d) {N : Nat} {k : Nat → Nat → Nat → Nat → Int32 → Nat → Nat → zm_S → Option ((Int32 × zm_S) ⊕ ((Unit) × zm_S))} {rc rs : Nat} {a0 : Nat} {a1 : Nat} {a2 : Nat} {a3 : Nat} {i4 : Int32} {i5 : Int32} {t0 : Nat} {t1 : Int32} {t2 : Int32} {res : (Int32 × zm_S) ⊕ ((Unit) × zm_S)} {out : (Int32 × zm_S)}   (hf : ∀ o, res = .inl o → o = out) (hk : ∀ (S' : zm_S) (rc rs : Nat), res = .inr ((), S') → zw p l e room_1 s m #[Value.ref zb] below meth c (lw_Z below #[Value.ref zb] s) 8 zk_E V 601024 7293034 6008 [] [] S' rc rs) (hrec : ∀ (i4' : Int32) (rc rs : Nat) (S : zm_S), k a0 a1 a2 a3 i4' rc rs S = some res → zw p l e room_1 s m #[Value.ref zb] below meth c (lw_Z below #[Value.ref zb] s) 8 zk_E V 601024 7293034 23 [(0, .ref a0), (1, .ref a1), (2, .ref a2), (3, .ref a3), (4, .int i4')] [] S rc rs) {S : zm_S} (h : zf_L_law_J4837 N k a0 a1 a2 a3 i4 i5 t0 t1 t2 rc rs S = some res) : zw p l e room_1 s m #[Value.ref zb] below meth c (lw_Z below #[Value.ref zb] s) 8 zk_E V 601024 7293034 4837 [(0, .ref a0), (1, .ref a1), (2, .ref a2), (3, .ref a3), (4, .int i4), (5, .int i5)] [.int t2, .int t1, .ref t0] S rc rs := by
  unfold zf_L_law_J4837 at h
  obtain ⟨_, gi, h⟩ := zb_some h
  obtain ⟨r774, g, h⟩ := zb_some h
  refine zc_Vi (as := [.int t1, .int t2]) hX gi (zt_X18_busy (d := d - 1) (by omega) g) zl_L_484 rfl dL_law_4837 ⟨rfl, rfl, Nat.le_of_ble_eq_true rfl⟩ ⟨by omega, by omega⟩ ?_
  refine zw_istore hX dL_law_4840 (by decide) ?_
  refine zw_aload_n hX dL_law_4842 rfl ?_
  obtain ⟨_, gi, h⟩ := zb_some h
  obtain ⟨r776, g, h⟩ := zb_some h
  refine zc_Vi (as := []) hX gi (zt_X18_thrown (d := d - 1) (by omega) g) zl_L_281 rfl dL_law_4843 ⟨rfl, rfl, Nat.le_of_ble_eq_true rfl⟩ ⟨by omega, by omega⟩ ?_
  refine zw_iload hX dL_law_4846 rfl ?_
  refine zw_icmp_eq (tgt := 4853) hX dL_law_4848 (by decide) (fun c4848 => ?_) (fun c4848 => ?_)
  · rw [if_pos c4848] at h
    refine zw_iload hX dL_law_4853 rfl ?_
    refine zw_if_ne (tgt := 4877) hX dL_law_4855 (by decide) (fun c4855 => ?_) (fun c4855 => ?_)
    · rw [if_neg c4855] at h
      refine zw_goto (tgt := 6002) hX dL_law_4877 (by decide) ?_
      refine zw_iinc (v := (i4 + (7 : Int32))) hX dL_law_6002 rfl rfl (by decide) ?_
      refine zw_goto (tgt := 23) hX dL_law_6005 (by decide) ?_
      refine zw_sub (lv' := [(0, .ref a0), (1, .ref a1), (2, .ref a2), (3, .ref a3), (4, .int (i4 + (7 : Int32)))]) (List.forall_mem_cons.mpr ⟨rfl, (List.forall_mem_cons.mpr ⟨rfl, (List.forall_mem_cons.mpr ⟨rfl, (List.forall_mem_cons.mpr ⟨rfl, (List.forall_mem_cons.mpr ⟨rfl, zs_nil⟩)⟩)⟩)⟩)⟩) ?_
      exact hrec _ _ _ _ h
    · rw [if_pos c4855] at h
      refine zw_aload_n hX dL_law_4858 rfl ?_
      refine zw_iconst (v := (0 : Int32)) hX dL_law_4859 (by decide) ?_
      obtain ⟨w777, g, h⟩ := zb_some h
      refine zw_xl hX dL_law_4860 g ?_
      refine zw_iload hX dL_law_4861 rfl ?_
      refine zw_if_eq (tgt := 4870) hX dL_law_4863 (by decide) (fun c4863 => ?_) (fun c4863 => ?_)
      · rw [if_pos c4863] at h
        refine zw_lconst (v := (0 : Int64)) hX dL_law_4870 (by decide) ?_
        refine zw_sub (lv' := [(0, .ref a0), (1, .ref a1), (2, .ref a2), (3, .ref a3), (4, .int i4)]) (List.forall_mem_cons.mpr ⟨rfl, (List.forall_mem_cons.mpr ⟨rfl, (List.forall_mem_cons.mpr ⟨rfl, (List.forall_mem_cons.mpr ⟨rfl, (List.forall_mem_cons.mpr ⟨rfl, zs_nil⟩)⟩)⟩)⟩)⟩) ?_
        exact zt_L_law_J4871 hlt hV hX hr hR hd hf hk hrec h
      · rw [if_neg c4863] at h
        refine zw_lconst (v := (1 : Int64)) hX dL_law_4866 (by decide) ?_
        refine zw_goto (tgt := 4871) hX dL_law_4867 (by decide) ?_
        refine zw_sub (lv' := [(0, .ref a0), (1, .ref a1), (2, .ref a2), (3, .ref a3), (4, .int i4)]) (List.forall_mem_cons.mpr ⟨rfl, (List.forall_mem_cons.mpr ⟨rfl, (List.forall_mem_cons.mpr ⟨rfl, (List.forall_mem_cons.mpr ⟨rfl, (List.forall_mem_cons.mpr ⟨rfl, zs_nil⟩)⟩)⟩)⟩)⟩) ?_
        exact zt_L_law_J4871 hlt hV hX hr hR hd hf hk hrec h
  · rw [if_neg c4848] at h
    refine zw_iconst (v := (0 : Int32)) hX dL_law_4851 (by decide) ?_
    cases h
set_option maxHeartbeats 4000000 in
set_option maxRecDepth 100000 in
theorem zt_L_law_J4810 {p : Program} {l : Launch} {e : Env} {s : State} {m : MethodId} {zb : Nat} {below : List Frame} {meth : Method} {c : Code} {V : zm_V} {d : Nat} {nm : String} (hlt : l.stackTraces = false) (hV : V.2.2.2.1 = s.heap.size) (hX : zm_X p room_1 s m #[Value.ref zb] meth c RL nm cL_law 8 zk_E V 601024 7293034) (hr : meth.sig.returnType = ret) (hR : d ≤ room_1.frames ∧ 64 * d ≤ room_1.locals) (hd : 46 ≤ d) {N : Nat} {k : Nat → Nat → Nat → Nat → Int32 → Nat → Nat → zm_S → Option ((Int32 × zm_S) ⊕ ((Unit) × zm_S))} {rc rs : Nat} {a0 : Nat} {a1 : Nat} {a2 : Nat} {a3 : Nat} {i4 : Int32} {t0 : Nat} {t1 : Int32} {t2 : Int32} {res : (Int32 × zm_S) ⊕ ((Unit) × zm_S)} {out : (Int32 × zm_S)}   (hf : ∀ o, res = .inl o → o = out) (hk : ∀ (S' : zm_S) (rc rs : Nat), res = .inr ((), S') → zw p l e room_1 s m #[Value.ref zb] below meth c (lw_Z below #[Value.ref zb] s) 8 zk_E V 601024 7293034 6008 [] [] S' rc rs) (hrec : ∀ (i4' : Int32) (rc rs : Nat) (S : zm_S), k a0 a1 a2 a3 i4' rc rs S = some res → zw p l e room_1 s m #[Value.ref zb] below meth c (lw_Z below #[Value.ref zb] s) 8 zk_E V 601024 7293034 23 [(0, .ref a0), (1, .ref a1), (2, .ref a2), (3, .ref a3), (4, .int i4')] [] S rc rs) {S : zm_S} (h : zf_L_law_J4810 N k a0 a1 a2 a3 i4 t0 t1 t2 rc rs S = some res) : zw p l e room_1 s m #[Value.ref zb] below meth c (lw_Z below #[Value.ref zb] s) 8 zk_E V 601024 7293034 4810 [(0, .ref a0), (1, .ref a1), (2, .ref a2), (3, .ref a3), (4, .int i4)] [.int t2, .int t1, .ref t0] S rc rs := by
  unfold zf_L_law_J4810 at h
  refine zw_aload_n hX dL_law_4810 rfl ?_
  by_cases hb4811 : 2 ≤ rc ∧ 12 ≤ rs
  · rw [if_pos hb4811] at h
    obtain ⟨r770, g, h⟩ := zb_some h
    refine zc_SH (as := [.ref t0, .int t1, .int t2, .ref a3]) hX (zt_L_busy hlt (d := d - 1) (by omega) g) zl_L_482 dL_law_4811 ⟨rfl, rfl, Nat.le_of_ble_eq_true rfl⟩ ⟨by omega, by omega⟩ hb4811 ?_ ?_
    · rintro _ _ ⟨rfl, rfl⟩
      refine zw_istore hX dL_law_4814 (by decide) ?_
      refine zw_aload_n hX dL_law_4816 rfl ?_
      refine zw_aload_n hX dL_law_4817 rfl ?_
      refine zw_iload hX dL_law_4818 rfl ?_
      refine zw_iconst (v := (1 : Int32)) hX dL_law_4820 (by decide) ?_
      refine zw_iadd hX dL_law_4821 ?_
      obtain ⟨v771, g, h⟩ := zb_some h
      refine zw_xi hX dL_law_4822 g ?_
      refine zw_aload_n hX dL_law_4823 rfl ?_
      refine zw_iload hX dL_law_4824 rfl ?_
      refine zw_iconst (v := (2 : Int32)) hX dL_law_4826 (by decide) ?_
      refine zw_iadd hX dL_law_4827 ?_
      obtain ⟨v772, g, h⟩ := zb_some h
      refine zw_xi hX dL_law_4828 g ?_
      refine zw_if_eq (tgt := 4836) hX dL_law_4829 (by decide) (fun c4829 => ?_) (fun c4829 => ?_)
      · rw [if_pos c4829] at h
        refine zw_iconst (v := (0 : Int32)) hX dL_law_4836 (by decide) ?_
        refine zw_sub (lv' := [(0, .ref a0), (1, .ref a1), (2, .ref a2), (3, .ref a3), (4, .int i4), (5, .int r770.1)]) (List.forall_mem_cons.mpr ⟨rfl, (List.forall_mem_cons.mpr ⟨rfl, (List.forall_mem_cons.mpr ⟨rfl, (List.forall_mem_cons.mpr ⟨rfl, (List.forall_mem_cons.mpr ⟨rfl, (List.forall_mem_cons.mpr ⟨rfl, zs_nil⟩)⟩)⟩)⟩)⟩)⟩) ?_
        exact zt_L_law_J4837 hlt hV hX hr hR hd hf hk hrec h
      · rw [if_neg c4829] at h
        refine zw_iconst (v := (1 : Int32)) hX dL_law_4832 (by decide) ?_
        refine zw_goto (tgt := 4837) hX dL_law_4833 (by decide) ?_
        refine zw_sub (lv' := [(0, .ref a0), (1, .ref a1), (2, .ref a2), (3, .ref a3), (4, .int i4), (5, .int r770.1)]) (List.forall_mem_cons.mpr ⟨rfl, (List.forall_mem_cons.mpr ⟨rfl, (List.forall_mem_cons.mpr ⟨rfl, (List.forall_mem_cons.mpr ⟨rfl, (List.forall_mem_cons.mpr ⟨rfl, (List.forall_mem_cons.mpr ⟨rfl, zs_nil⟩)⟩)⟩)⟩)⟩)⟩) ?_
        exact zt_L_law_J4837 hlt hV hX hr hR hd hf hk hrec h
    · intro _ _ hx
      exact hx.elim
  · rw [if_neg hb4811] at h
    cases h
set_option maxHeartbeats 4000000 in
set_option maxRecDepth 100000 in
theorem zt_L_law_J4789 {p : Program} {l : Launch} {e : Env} {s : State} {m : MethodId} {zb : Nat} {below : List Frame} {meth : Method} {c : Code} {V : zm_V} {d : Nat} {nm : String} (hlt : l.stackTraces = false) (hV : V.2.2.2.1 = s.heap.size) (hX : zm_X p room_1 s m #[Value.ref zb] meth c RL nm cL_law 8 zk_E V 601024 7293034) (hr : meth.sig.returnType = ret) (hR : d ≤ room_1.frames ∧ 64 * d ≤ room_1.locals) (hd : 46 ≤ d) {N : Nat} {k : Nat → Nat → Nat → Nat → Int32 → Nat → Nat → zm_S → Option ((Int32 × zm_S) ⊕ ((Unit) × zm_S))} {rc rs : Nat} {a0 : Nat} {a1 : Nat} {a2 : Nat} {a3 : Nat} {i4 : Int32} {res : (Int32 × zm_S) ⊕ ((Unit) × zm_S)} {out : (Int32 × zm_S)}   (hf : ∀ o, res = .inl o → o = out) (hk : ∀ (S' : zm_S) (rc rs : Nat), res = .inr ((), S') → zw p l e room_1 s m #[Value.ref zb] below meth c (lw_Z below #[Value.ref zb] s) 8 zk_E V 601024 7293034 6008 [] [] S' rc rs) (hrec : ∀ (i4' : Int32) (rc rs : Nat) (S : zm_S), k a0 a1 a2 a3 i4' rc rs S = some res → zw p l e room_1 s m #[Value.ref zb] below meth c (lw_Z below #[Value.ref zb] s) 8 zk_E V 601024 7293034 23 [(0, .ref a0), (1, .ref a1), (2, .ref a2), (3, .ref a3), (4, .int i4')] [] S rc rs) {S : zm_S} (h : zf_L_law_J4789 N k a0 a1 a2 a3 i4 rc rs S = some res) : zw p l e room_1 s m #[Value.ref zb] below meth c (lw_Z below #[Value.ref zb] s) 8 zk_E V 601024 7293034 4789 [(0, .ref a0), (1, .ref a1), (2, .ref a2), (3, .ref a3), (4, .int i4)] [] S rc rs := by
  unfold zf_L_law_J4789 at h
  refine zw_aload_n hX dL_law_4789 rfl ?_
  refine zw_aload_n hX dL_law_4790 rfl ?_
  refine zw_iload hX dL_law_4791 rfl ?_
  refine zw_iconst (v := (1 : Int32)) hX dL_law_4793 (by decide) ?_
  refine zw_iadd hX dL_law_4794 ?_
  obtain ⟨v766, g, h⟩ := zb_some h
  refine zw_xi hX dL_law_4795 g ?_
  refine zw_aload_n hX dL_law_4796 rfl ?_
  refine zw_iload hX dL_law_4797 rfl ?_
  refine zw_iconst (v := (2 : Int32)) hX dL_law_4799 (by decide) ?_
  refine zw_iadd hX dL_law_4800 ?_
  obtain ⟨v767, g, h⟩ := zb_some h
  refine zw_xi hX dL_law_4801 g ?_
  refine zw_if_eq (tgt := 4809) hX dL_law_4802 (by decide) (fun c4802 => ?_) (fun c4802 => ?_)
  · rw [if_pos c4802] at h
    refine zw_iconst (v := (0 : Int32)) hX dL_law_4809 (by decide) ?_
    refine zw_sub (lv' := [(0, .ref a0), (1, .ref a1), (2, .ref a2), (3, .ref a3), (4, .int i4)]) (List.forall_mem_cons.mpr ⟨rfl, (List.forall_mem_cons.mpr ⟨rfl, (List.forall_mem_cons.mpr ⟨rfl, (List.forall_mem_cons.mpr ⟨rfl, (List.forall_mem_cons.mpr ⟨rfl, zs_nil⟩)⟩)⟩)⟩)⟩) ?_
    exact zt_L_law_J4810 hlt hV hX hr hR hd hf hk hrec h
  · rw [if_neg c4802] at h
    refine zw_iconst (v := (1 : Int32)) hX dL_law_4805 (by decide) ?_
    refine zw_goto (tgt := 4810) hX dL_law_4806 (by decide) ?_
    refine zw_sub (lv' := [(0, .ref a0), (1, .ref a1), (2, .ref a2), (3, .ref a3), (4, .int i4)]) (List.forall_mem_cons.mpr ⟨rfl, (List.forall_mem_cons.mpr ⟨rfl, (List.forall_mem_cons.mpr ⟨rfl, (List.forall_mem_cons.mpr ⟨rfl, (List.forall_mem_cons.mpr ⟨rfl, zs_nil⟩)⟩)⟩)⟩)⟩) ?_
    exact zt_L_law_J4810 hlt hV hX hr hR hd hf hk hrec h
set_option maxHeartbeats 4000000 in
set_option maxRecDepth 100000 in
theorem zt_L_law_J4965 {p : Program} {l : Launch} {e : Env} {s : State} {m : MethodId} {zb : Nat} {below : List Frame} {meth : Method} {c : Code} {V : zm_V} {d : Nat} {nm : String} (hlt : l.stackTraces = false) (hV : V.2.2.2.1 = s.heap.size) (hX : zm_X p room_1 s m #[Value.ref zb] meth c RL nm cL_law 8 zk_E V 601024 7293034) (hr : meth.sig.returnType = ret) (hR : d ≤ room_1.frames ∧ 64 * d ≤ room_1.locals) (hd : 46 ≤ d) {N : Nat} {k : Nat → Nat → Nat → Nat → Int32 → Nat → Nat → zm_S → Option ((Int32 × zm_S) ⊕ ((Unit) × zm_S))} {rc rs : Nat} {a0 : Nat} {a1 : Nat} {a2 : Nat} {a3 : Nat} {i4 : Int32} {i5 : Int32} {t0 : Nat} {t1 : Int32} {t2 : Int32} {t3 : Int32} {t4 : Int32} {res : (Int32 × zm_S) ⊕ ((Unit) × zm_S)} {out : (Int32 × zm_S)}   (hf : ∀ o, res = .inl o → o = out) (hk : ∀ (S' : zm_S) (rc rs : Nat), res = .inr ((), S') → zw p l e room_1 s m #[Value.ref zb] below meth c (lw_Z below #[Value.ref zb] s) 8 zk_E V 601024 7293034 6008 [] [] S' rc rs) (hrec : ∀ (i4' : Int32) (rc rs : Nat) (S : zm_S), k a0 a1 a2 a3 i4' rc rs S = some res → zw p l e room_1 s m #[Value.ref zb] below meth c (lw_Z below #[Value.ref zb] s) 8 zk_E V 601024 7293034 23 [(0, .ref a0), (1, .ref a1), (2, .ref a2), (3, .ref a3), (4, .int i4')] [] S rc rs) {S : zm_S} (h : zf_L_law_J4965 N k a0 a1 a2 a3 i4 i5 t0 t1 t2 t3 t4 rc rs S = some res) : zw p l e room_1 s m #[Value.ref zb] below meth c (lw_Z below #[Value.ref zb] s) 8 zk_E V 601024 7293034 4965 [(0, .ref a0), (1, .ref a1), (2, .ref a2), (3, .ref a3), (4, .int i4), (5, .int i5)] [.int t4, .int t3, .int t2, .int t1, .ref t0] S rc rs := by
  unfold zf_L_law_J4965 at h
  refine zw_aload_n hX dL_law_4965 rfl ?_
  refine zw_iload hX dL_law_4966 rfl ?_
  refine zw_iconst (v := (5 : Int32)) hX dL_law_4968 (by decide) ?_
  refine zw_iadd hX dL_law_4969 ?_
  obtain ⟨v791, g, h⟩ := zb_some h
  refine zw_xi hX dL_law_4970 g ?_
  refine zw_aload_n hX dL_law_4971 rfl ?_
  refine zw_iload hX dL_law_4972 rfl ?_
  refine zw_bipush (v := (6 : Int32)) hX dL_law_4974 (by decide) ?_
  refine zw_iadd hX dL_law_4976 ?_
  obtain ⟨v792, g, h⟩ := zb_some h
  refine zw_xi hX dL_law_4977 g ?_
  obtain ⟨_, gi, h⟩ := zb_some h
  obtain ⟨r794, g, h⟩ := zb_some h
  refine zc_Vi (as := [.int t1, .int t2, .int t3, .int t4, .int v791, .int v792]) hX gi (zt_X18_send (d := d - 1) (by omega) g) zl_L_488 rfl dL_law_4978 ⟨rfl, rfl, Nat.le_of_ble_eq_true rfl⟩ ⟨by omega, by omega⟩ ?_
  refine zw_istore hX dL_law_4981 (by decide) ?_
  refine zw_aload_n hX dL_law_4983 rfl ?_
  obtain ⟨_, gi, h⟩ := zb_some h
  obtain ⟨r796, g, h⟩ := zb_some h
  refine zc_Vi (as := []) hX gi (zt_X18_thrown (d := d - 1) (by omega) g) zl_L_281 rfl dL_law_4984 ⟨rfl, rfl, Nat.le_of_ble_eq_true rfl⟩ ⟨by omega, by omega⟩ ?_
  refine zw_iload hX dL_law_4987 rfl ?_
  refine zw_icmp_eq (tgt := 4994) hX dL_law_4989 (by decide) (fun c4989 => ?_) (fun c4989 => ?_)
  · rw [if_pos c4989] at h
    refine zw_iload hX dL_law_4994 rfl ?_
    refine zw_if_ne (tgt := 5011) hX dL_law_4996 (by decide) (fun c4996 => ?_) (fun c4996 => ?_)
    · rw [if_neg c4996] at h
      refine zw_goto (tgt := 6002) hX dL_law_5011 (by decide) ?_
      refine zw_iinc (v := (i4 + (7 : Int32))) hX dL_law_6002 rfl rfl (by decide) ?_
      refine zw_goto (tgt := 23) hX dL_law_6005 (by decide) ?_
      refine zw_sub (lv' := [(0, .ref a0), (1, .ref a1), (2, .ref a2), (3, .ref a3), (4, .int (i4 + (7 : Int32)))]) (List.forall_mem_cons.mpr ⟨rfl, (List.forall_mem_cons.mpr ⟨rfl, (List.forall_mem_cons.mpr ⟨rfl, (List.forall_mem_cons.mpr ⟨rfl, (List.forall_mem_cons.mpr ⟨rfl, zs_nil⟩)⟩)⟩)⟩)⟩) ?_
      exact hrec _ _ _ _ h
    · rw [if_pos c4996] at h
      refine zw_aload_n hX dL_law_4999 rfl ?_
      refine zw_iconst (v := (0 : Int32)) hX dL_law_5000 (by decide) ?_
      obtain ⟨w797, g, h⟩ := zb_some h
      refine zw_xl hX dL_law_5001 g ?_
      refine zw_iload hX dL_law_5002 rfl ?_
      refine zw_i2l hX dL_law_5004 ?_
      refine zw_lcmp hX dL_law_5005 ?_
      refine zw_if_eq (tgt := 5011) hX dL_law_5006 (by decide) (fun c5006 => ?_) (fun c5006 => ?_)
      · rw [if_pos c5006] at h
        refine zw_goto (tgt := 6002) hX dL_law_5011 (by decide) ?_
        refine zw_iinc (v := (i4 + (7 : Int32))) hX dL_law_6002 rfl rfl (by decide) ?_
        refine zw_goto (tgt := 23) hX dL_law_6005 (by decide) ?_
        refine zw_sub (lv' := [(0, .ref a0), (1, .ref a1), (2, .ref a2), (3, .ref a3), (4, .int (i4 + (7 : Int32)))]) (List.forall_mem_cons.mpr ⟨rfl, (List.forall_mem_cons.mpr ⟨rfl, (List.forall_mem_cons.mpr ⟨rfl, (List.forall_mem_cons.mpr ⟨rfl, (List.forall_mem_cons.mpr ⟨rfl, zs_nil⟩)⟩)⟩)⟩)⟩) ?_
        exact hrec _ _ _ _ h
      · rw [if_neg c5006] at h
        refine zw_iconst (v := (0 : Int32)) hX dL_law_5009 (by decide) ?_
        cases h
  · rw [if_neg c4989] at h
    refine zw_iconst (v := (0 : Int32)) hX dL_law_4992 (by decide) ?_
    cases h
set_option maxHeartbeats 4000000 in
set_option maxRecDepth 100000 in
theorem zt_L_law_J4913 {p : Program} {l : Launch} {e : Env} {s : State} {m : MethodId} {zb : Nat} {below : List Frame} {meth : Method} {c : Code} {V : zm_V} {d : Nat} {nm : String} (hlt : l.stackTraces = false) (hV : V.2.2.2.1 = s.heap.size) (hX : zm_X p room_1 s m #[Value.ref zb] meth c RL nm cL_law 8 zk_E V 601024 7293034) (hr : meth.sig.returnType = ret) (hR : d ≤ room_1.frames ∧ 64 * d ≤ room_1.locals) (hd : 46 ≤ d) {N : Nat} {k : Nat → Nat → Nat → Nat → Int32 → Nat → Nat → zm_S → Option ((Int32 × zm_S) ⊕ ((Unit) × zm_S))} {rc rs : Nat} {a0 : Nat} {a1 : Nat} {a2 : Nat} {a3 : Nat} {i4 : Int32} {t0 : Nat} {t1 : Int32} {t2 : Int32} {t3 : Int32} {t4 : Int32} {res : (Int32 × zm_S) ⊕ ((Unit) × zm_S)} {out : (Int32 × zm_S)}   (hf : ∀ o, res = .inl o → o = out) (hk : ∀ (S' : zm_S) (rc rs : Nat), res = .inr ((), S') → zw p l e room_1 s m #[Value.ref zb] below meth c (lw_Z below #[Value.ref zb] s) 8 zk_E V 601024 7293034 6008 [] [] S' rc rs) (hrec : ∀ (i4' : Int32) (rc rs : Nat) (S : zm_S), k a0 a1 a2 a3 i4' rc rs S = some res → zw p l e room_1 s m #[Value.ref zb] below meth c (lw_Z below #[Value.ref zb] s) 8 zk_E V 601024 7293034 23 [(0, .ref a0), (1, .ref a1), (2, .ref a2), (3, .ref a3), (4, .int i4')] [] S rc rs) {S : zm_S} (h : zf_L_law_J4913 N k a0 a1 a2 a3 i4 t0 t1 t2 t3 t4 rc rs S = some res) : zw p l e room_1 s m #[Value.ref zb] below meth c (lw_Z below #[Value.ref zb] s) 8 zk_E V 601024 7293034 4913 [(0, .ref a0), (1, .ref a1), (2, .ref a2), (3, .ref a3), (4, .int i4)] [.int t4, .int t3, .int t2, .int t1, .ref t0] S rc rs := by
  unfold zf_L_law_J4913 at h
  refine zw_aload_n hX dL_law_4913 rfl ?_
  refine zw_iload hX dL_law_4914 rfl ?_
  refine zw_iconst (v := (5 : Int32)) hX dL_law_4916 (by decide) ?_
  refine zw_iadd hX dL_law_4917 ?_
  obtain ⟨v782, g, h⟩ := zb_some h
  refine zw_xi hX dL_law_4918 g ?_
  refine zw_aload_n hX dL_law_4919 rfl ?_
  refine zw_iload hX dL_law_4920 rfl ?_
  refine zw_bipush (v := (6 : Int32)) hX dL_law_4922 (by decide) ?_
  refine zw_iadd hX dL_law_4924 ?_
  obtain ⟨v783, g, h⟩ := zb_some h
  refine zw_xi hX dL_law_4925 g ?_
  refine zw_aload_n hX dL_law_4926 rfl ?_
  by_cases hb4927 : 3 ≤ rc ∧ 18 ≤ rs
  · rw [if_pos hb4927] at h
    obtain ⟨r786, g, h⟩ := zb_some h
    refine zc_SH (as := [.ref t0, .int t1, .int t2, .int t3, .int t4, .int v782, .int v783, .ref a3]) hX (zt_L_send hlt (d := d - 1) (by omega) g) zl_L_485 dL_law_4927 ⟨rfl, rfl, Nat.le_of_ble_eq_true rfl⟩ ⟨by omega, by omega⟩ hb4927 ?_ ?_
    · rintro _ _ ⟨rfl, rfl⟩
      refine zw_istore hX dL_law_4930 (by decide) ?_
      refine zw_aload_n hX dL_law_4932 rfl ?_
      refine zw_aload_n hX dL_law_4933 rfl ?_
      refine zw_iload hX dL_law_4934 rfl ?_
      refine zw_iconst (v := (1 : Int32)) hX dL_law_4936 (by decide) ?_
      refine zw_iadd hX dL_law_4937 ?_
      obtain ⟨v787, g, h⟩ := zb_some h
      refine zw_xi hX dL_law_4938 g ?_
      refine zw_aload_n hX dL_law_4939 rfl ?_
      refine zw_iload hX dL_law_4940 rfl ?_
      refine zw_iconst (v := (2 : Int32)) hX dL_law_4942 (by decide) ?_
      refine zw_iadd hX dL_law_4943 ?_
      obtain ⟨v788, g, h⟩ := zb_some h
      refine zw_xi hX dL_law_4944 g ?_
      refine zw_aload_n hX dL_law_4945 rfl ?_
      refine zw_iload hX dL_law_4946 rfl ?_
      refine zw_iconst (v := (3 : Int32)) hX dL_law_4948 (by decide) ?_
      refine zw_iadd hX dL_law_4949 ?_
      obtain ⟨v789, g, h⟩ := zb_some h
      refine zw_xi hX dL_law_4950 g ?_
      refine zw_aload_n hX dL_law_4951 rfl ?_
      refine zw_iload hX dL_law_4952 rfl ?_
      refine zw_iconst (v := (4 : Int32)) hX dL_law_4954 (by decide) ?_
      refine zw_iadd hX dL_law_4955 ?_
      obtain ⟨v790, g, h⟩ := zb_some h
      refine zw_xi hX dL_law_4956 g ?_
      refine zw_if_eq (tgt := 4964) hX dL_law_4957 (by decide) (fun c4957 => ?_) (fun c4957 => ?_)
      · rw [if_pos c4957] at h
        refine zw_iconst (v := (0 : Int32)) hX dL_law_4964 (by decide) ?_
        refine zw_sub (lv' := [(0, .ref a0), (1, .ref a1), (2, .ref a2), (3, .ref a3), (4, .int i4), (5, .int r786.1)]) (List.forall_mem_cons.mpr ⟨rfl, (List.forall_mem_cons.mpr ⟨rfl, (List.forall_mem_cons.mpr ⟨rfl, (List.forall_mem_cons.mpr ⟨rfl, (List.forall_mem_cons.mpr ⟨rfl, (List.forall_mem_cons.mpr ⟨rfl, zs_nil⟩)⟩)⟩)⟩)⟩)⟩) ?_
        exact zt_L_law_J4965 hlt hV hX hr hR hd hf hk hrec h
      · rw [if_neg c4957] at h
        refine zw_iconst (v := (1 : Int32)) hX dL_law_4960 (by decide) ?_
        refine zw_goto (tgt := 4965) hX dL_law_4961 (by decide) ?_
        refine zw_sub (lv' := [(0, .ref a0), (1, .ref a1), (2, .ref a2), (3, .ref a3), (4, .int i4), (5, .int r786.1)]) (List.forall_mem_cons.mpr ⟨rfl, (List.forall_mem_cons.mpr ⟨rfl, (List.forall_mem_cons.mpr ⟨rfl, (List.forall_mem_cons.mpr ⟨rfl, (List.forall_mem_cons.mpr ⟨rfl, (List.forall_mem_cons.mpr ⟨rfl, zs_nil⟩)⟩)⟩)⟩)⟩)⟩) ?_
        exact zt_L_law_J4965 hlt hV hX hr hR hd hf hk hrec h
    · intro _ _ hx
      exact hx.elim
  · rw [if_neg hb4927] at h
    cases h
set_option maxHeartbeats 4000000 in
set_option maxRecDepth 100000 in
theorem zt_L_law_J4880 {p : Program} {l : Launch} {e : Env} {s : State} {m : MethodId} {zb : Nat} {below : List Frame} {meth : Method} {c : Code} {V : zm_V} {d : Nat} {nm : String} (hlt : l.stackTraces = false) (hV : V.2.2.2.1 = s.heap.size) (hX : zm_X p room_1 s m #[Value.ref zb] meth c RL nm cL_law 8 zk_E V 601024 7293034) (hr : meth.sig.returnType = ret) (hR : d ≤ room_1.frames ∧ 64 * d ≤ room_1.locals) (hd : 46 ≤ d) {N : Nat} {k : Nat → Nat → Nat → Nat → Int32 → Nat → Nat → zm_S → Option ((Int32 × zm_S) ⊕ ((Unit) × zm_S))} {rc rs : Nat} {a0 : Nat} {a1 : Nat} {a2 : Nat} {a3 : Nat} {i4 : Int32} {res : (Int32 × zm_S) ⊕ ((Unit) × zm_S)} {out : (Int32 × zm_S)}   (hf : ∀ o, res = .inl o → o = out) (hk : ∀ (S' : zm_S) (rc rs : Nat), res = .inr ((), S') → zw p l e room_1 s m #[Value.ref zb] below meth c (lw_Z below #[Value.ref zb] s) 8 zk_E V 601024 7293034 6008 [] [] S' rc rs) (hrec : ∀ (i4' : Int32) (rc rs : Nat) (S : zm_S), k a0 a1 a2 a3 i4' rc rs S = some res → zw p l e room_1 s m #[Value.ref zb] below meth c (lw_Z below #[Value.ref zb] s) 8 zk_E V 601024 7293034 23 [(0, .ref a0), (1, .ref a1), (2, .ref a2), (3, .ref a3), (4, .int i4')] [] S rc rs) {S : zm_S} (h : zf_L_law_J4880 N k a0 a1 a2 a3 i4 rc rs S = some res) : zw p l e room_1 s m #[Value.ref zb] below meth c (lw_Z below #[Value.ref zb] s) 8 zk_E V 601024 7293034 4880 [(0, .ref a0), (1, .ref a1), (2, .ref a2), (3, .ref a3), (4, .int i4)] [] S rc rs := by
  unfold zf_L_law_J4880 at h
  refine zw_aload_n hX dL_law_4880 rfl ?_
  refine zw_aload_n hX dL_law_4881 rfl ?_
  refine zw_iload hX dL_law_4882 rfl ?_
  refine zw_iconst (v := (1 : Int32)) hX dL_law_4884 (by decide) ?_
  refine zw_iadd hX dL_law_4885 ?_
  obtain ⟨v778, g, h⟩ := zb_some h
  refine zw_xi hX dL_law_4886 g ?_
  refine zw_aload_n hX dL_law_4887 rfl ?_
  refine zw_iload hX dL_law_4888 rfl ?_
  refine zw_iconst (v := (2 : Int32)) hX dL_law_4890 (by decide) ?_
  refine zw_iadd hX dL_law_4891 ?_
  obtain ⟨v779, g, h⟩ := zb_some h
  refine zw_xi hX dL_law_4892 g ?_
  refine zw_aload_n hX dL_law_4893 rfl ?_
  refine zw_iload hX dL_law_4894 rfl ?_
  refine zw_iconst (v := (3 : Int32)) hX dL_law_4896 (by decide) ?_
  refine zw_iadd hX dL_law_4897 ?_
  obtain ⟨v780, g, h⟩ := zb_some h
  refine zw_xi hX dL_law_4898 g ?_
  refine zw_aload_n hX dL_law_4899 rfl ?_
  refine zw_iload hX dL_law_4900 rfl ?_
  refine zw_iconst (v := (4 : Int32)) hX dL_law_4902 (by decide) ?_
  refine zw_iadd hX dL_law_4903 ?_
  obtain ⟨v781, g, h⟩ := zb_some h
  refine zw_xi hX dL_law_4904 g ?_
  refine zw_if_eq (tgt := 4912) hX dL_law_4905 (by decide) (fun c4905 => ?_) (fun c4905 => ?_)
  · rw [if_pos c4905] at h
    refine zw_iconst (v := (0 : Int32)) hX dL_law_4912 (by decide) ?_
    refine zw_sub (lv' := [(0, .ref a0), (1, .ref a1), (2, .ref a2), (3, .ref a3), (4, .int i4)]) (List.forall_mem_cons.mpr ⟨rfl, (List.forall_mem_cons.mpr ⟨rfl, (List.forall_mem_cons.mpr ⟨rfl, (List.forall_mem_cons.mpr ⟨rfl, (List.forall_mem_cons.mpr ⟨rfl, zs_nil⟩)⟩)⟩)⟩)⟩) ?_
    exact zt_L_law_J4913 hlt hV hX hr hR hd hf hk hrec h
  · rw [if_neg c4905] at h
    refine zw_iconst (v := (1 : Int32)) hX dL_law_4908 (by decide) ?_
    refine zw_goto (tgt := 4913) hX dL_law_4909 (by decide) ?_
    refine zw_sub (lv' := [(0, .ref a0), (1, .ref a1), (2, .ref a2), (3, .ref a3), (4, .int i4)]) (List.forall_mem_cons.mpr ⟨rfl, (List.forall_mem_cons.mpr ⟨rfl, (List.forall_mem_cons.mpr ⟨rfl, (List.forall_mem_cons.mpr ⟨rfl, (List.forall_mem_cons.mpr ⟨rfl, zs_nil⟩)⟩)⟩)⟩)⟩) ?_
    exact zt_L_law_J4913 hlt hV hX hr hR hd hf hk hrec h
set_option maxHeartbeats 4000000 in
set_option maxRecDepth 100000 in
theorem zt_L_law_J5068 {p : Program} {l : Launch} {e : Env} {s : State} {m : MethodId} {zb : Nat} {below : List Frame} {meth : Method} {c : Code} {V : zm_V} {d : Nat} {nm : String} (hlt : l.stackTraces = false) (hV : V.2.2.2.1 = s.heap.size) (hX : zm_X p room_1 s m #[Value.ref zb] meth c RL nm cL_law 8 zk_E V 601024 7293034) (hr : meth.sig.returnType = ret) (hR : d ≤ room_1.frames ∧ 64 * d ≤ room_1.locals) (hd : 46 ≤ d) {N : Nat} {k : Nat → Nat → Nat → Nat → Int32 → Nat → Nat → zm_S → Option ((Int32 × zm_S) ⊕ ((Unit) × zm_S))} {rc rs : Nat} {a0 : Nat} {a1 : Nat} {a2 : Nat} {a3 : Nat} {i4 : Int32} {t0 : Int64} {t1 : Int64} {res : (Int32 × zm_S) ⊕ ((Unit) × zm_S)} {out : (Int32 × zm_S)}   (hf : ∀ o, res = .inl o → o = out) (hk : ∀ (S' : zm_S) (rc rs : Nat), res = .inr ((), S') → zw p l e room_1 s m #[Value.ref zb] below meth c (lw_Z below #[Value.ref zb] s) 8 zk_E V 601024 7293034 6008 [] [] S' rc rs) (hrec : ∀ (i4' : Int32) (rc rs : Nat) (S : zm_S), k a0 a1 a2 a3 i4' rc rs S = some res → zw p l e room_1 s m #[Value.ref zb] below meth c (lw_Z below #[Value.ref zb] s) 8 zk_E V 601024 7293034 23 [(0, .ref a0), (1, .ref a1), (2, .ref a2), (3, .ref a3), (4, .int i4')] [] S rc rs) {S : zm_S} (h : zf_L_law_J5068 N k a0 a1 a2 a3 i4 t0 t1 rc rs S = some res) : zw p l e room_1 s m #[Value.ref zb] below meth c (lw_Z below #[Value.ref zb] s) 8 zk_E V 601024 7293034 5068 [(0, .ref a0), (1, .ref a1), (2, .ref a2), (3, .ref a3), (4, .int i4)] [.long t1, .long t0] S rc rs := by
  unfold zf_L_law_J5068 at h
  refine zw_lcmp hX dL_law_5068 ?_
  refine zw_if_eq (tgt := 5074) hX dL_law_5069 (by decide) (fun c5069 => ?_) (fun c5069 => ?_)
  · rw [if_pos c5069] at h
    refine zw_goto (tgt := 6002) hX dL_law_5074 (by decide) ?_
    refine zw_iinc (v := (i4 + (7 : Int32))) hX dL_law_6002 rfl rfl (by decide) ?_
    refine zw_goto (tgt := 23) hX dL_law_6005 (by decide) ?_
    refine zw_sub (lv' := [(0, .ref a0), (1, .ref a1), (2, .ref a2), (3, .ref a3), (4, .int (i4 + (7 : Int32)))]) (List.forall_mem_cons.mpr ⟨rfl, (List.forall_mem_cons.mpr ⟨rfl, (List.forall_mem_cons.mpr ⟨rfl, (List.forall_mem_cons.mpr ⟨rfl, (List.forall_mem_cons.mpr ⟨rfl, zs_nil⟩)⟩)⟩)⟩)⟩) ?_
    exact hrec _ _ _ _ h
  · rw [if_neg c5069] at h
    refine zw_iconst (v := (0 : Int32)) hX dL_law_5072 (by decide) ?_
    cases h
set_option maxHeartbeats 4000000 in
set_option maxRecDepth 100000 in
theorem zt_L_law_J5014 {p : Program} {l : Launch} {e : Env} {s : State} {m : MethodId} {zb : Nat} {below : List Frame} {meth : Method} {c : Code} {V : zm_V} {d : Nat} {nm : String} (hlt : l.stackTraces = false) (hV : V.2.2.2.1 = s.heap.size) (hX : zm_X p room_1 s m #[Value.ref zb] meth c RL nm cL_law 8 zk_E V 601024 7293034) (hr : meth.sig.returnType = ret) (hR : d ≤ room_1.frames ∧ 64 * d ≤ room_1.locals) (hd : 46 ≤ d) {N : Nat} {k : Nat → Nat → Nat → Nat → Int32 → Nat → Nat → zm_S → Option ((Int32 × zm_S) ⊕ ((Unit) × zm_S))} {rc rs : Nat} {a0 : Nat} {a1 : Nat} {a2 : Nat} {a3 : Nat} {i4 : Int32} {res : (Int32 × zm_S) ⊕ ((Unit) × zm_S)} {out : (Int32 × zm_S)}   (hf : ∀ o, res = .inl o → o = out) (hk : ∀ (S' : zm_S) (rc rs : Nat), res = .inr ((), S') → zw p l e room_1 s m #[Value.ref zb] below meth c (lw_Z below #[Value.ref zb] s) 8 zk_E V 601024 7293034 6008 [] [] S' rc rs) (hrec : ∀ (i4' : Int32) (rc rs : Nat) (S : zm_S), k a0 a1 a2 a3 i4' rc rs S = some res → zw p l e room_1 s m #[Value.ref zb] below meth c (lw_Z below #[Value.ref zb] s) 8 zk_E V 601024 7293034 23 [(0, .ref a0), (1, .ref a1), (2, .ref a2), (3, .ref a3), (4, .int i4')] [] S rc rs) {S : zm_S} (h : zf_L_law_J5014 N k a0 a1 a2 a3 i4 rc rs S = some res) : zw p l e room_1 s m #[Value.ref zb] below meth c (lw_Z below #[Value.ref zb] s) 8 zk_E V 601024 7293034 5014 [(0, .ref a0), (1, .ref a1), (2, .ref a2), (3, .ref a3), (4, .int i4)] [] S rc rs := by
  unfold zf_L_law_J5014 at h
  refine zw_aload_n hX dL_law_5014 rfl ?_
  refine zw_aload_n hX dL_law_5015 rfl ?_
  refine zw_iload hX dL_law_5016 rfl ?_
  refine zw_iconst (v := (1 : Int32)) hX dL_law_5018 (by decide) ?_
  refine zw_iadd hX dL_law_5019 ?_
  obtain ⟨v798, g, h⟩ := zb_some h
  refine zw_xi hX dL_law_5020 g ?_
  refine zw_aload_n hX dL_law_5021 rfl ?_
  by_cases hb5022 : 2 ≤ rc ∧ 12 ≤ rs
  · rw [if_pos hb5022] at h
    obtain ⟨r801, g, h⟩ := zb_some h
    refine zc_SH (as := [.ref a1, .int v798, .ref a3]) hX (zt_L_disturb hlt (d := d - 1) (by omega) g) zl_L_489 dL_law_5022 ⟨rfl, rfl, Nat.le_of_ble_eq_true rfl⟩ ⟨by omega, by omega⟩ hb5022 ?_ ?_
    · rintro _ _ ⟨rfl, rfl⟩
      refine zw_istore hX dL_law_5025 (by decide) ?_
      refine zw_aload_n hX dL_law_5027 rfl ?_
      refine zw_aload_n hX dL_law_5028 rfl ?_
      refine zw_iload hX dL_law_5029 rfl ?_
      refine zw_iconst (v := (1 : Int32)) hX dL_law_5031 (by decide) ?_
      refine zw_iadd hX dL_law_5032 ?_
      obtain ⟨v802, g, h⟩ := zb_some h
      refine zw_xi hX dL_law_5033 g ?_
      obtain ⟨_, gi, h⟩ := zb_some h
      obtain ⟨r804, g, h⟩ := zb_some h
      refine zc_Vi (as := [.int v802]) hX gi (zt_X18_disturb (d := d - 1) (by omega) g) zl_L_491 rfl dL_law_5034 ⟨rfl, rfl, Nat.le_of_ble_eq_true rfl⟩ ⟨by omega, by omega⟩ ?_
      refine zw_istore hX dL_law_5037 (by decide) ?_
      refine zw_aload_n hX dL_law_5039 rfl ?_
      obtain ⟨_, gi, h⟩ := zb_some h
      obtain ⟨r806, g, h⟩ := zb_some h
      refine zc_Vi (as := []) hX gi (zt_X18_thrown (d := d - 1) (by omega) g) zl_L_281 rfl dL_law_5040 ⟨rfl, rfl, Nat.le_of_ble_eq_true rfl⟩ ⟨by omega, by omega⟩ ?_
      refine zw_iload hX dL_law_5043 rfl ?_
      refine zw_icmp_eq (tgt := 5050) hX dL_law_5045 (by decide) (fun c5045 => ?_) (fun c5045 => ?_)
      · rw [if_pos c5045] at h
        refine zw_iload hX dL_law_5050 rfl ?_
        refine zw_if_ne (tgt := 5074) hX dL_law_5052 (by decide) (fun c5052 => ?_) (fun c5052 => ?_)
        · rw [if_neg c5052] at h
          refine zw_goto (tgt := 6002) hX dL_law_5074 (by decide) ?_
          refine zw_iinc (v := (i4 + (7 : Int32))) hX dL_law_6002 rfl rfl (by decide) ?_
          refine zw_goto (tgt := 23) hX dL_law_6005 (by decide) ?_
          refine zw_sub (lv' := [(0, .ref a0), (1, .ref a1), (2, .ref a2), (3, .ref a3), (4, .int (i4 + (7 : Int32)))]) (List.forall_mem_cons.mpr ⟨rfl, (List.forall_mem_cons.mpr ⟨rfl, (List.forall_mem_cons.mpr ⟨rfl, (List.forall_mem_cons.mpr ⟨rfl, (List.forall_mem_cons.mpr ⟨rfl, zs_nil⟩)⟩)⟩)⟩)⟩) ?_
          exact hrec _ _ _ _ h
        · rw [if_pos c5052] at h
          refine zw_aload_n hX dL_law_5055 rfl ?_
          refine zw_iconst (v := (0 : Int32)) hX dL_law_5056 (by decide) ?_
          obtain ⟨w807, g, h⟩ := zb_some h
          refine zw_xl hX dL_law_5057 g ?_
          refine zw_iload hX dL_law_5058 rfl ?_
          refine zw_if_eq (tgt := 5067) hX dL_law_5060 (by decide) (fun c5060 => ?_) (fun c5060 => ?_)
          · rw [if_pos c5060] at h
            refine zw_lconst (v := (0 : Int64)) hX dL_law_5067 (by decide) ?_
            refine zw_sub (lv' := [(0, .ref a0), (1, .ref a1), (2, .ref a2), (3, .ref a3), (4, .int i4)]) (List.forall_mem_cons.mpr ⟨rfl, (List.forall_mem_cons.mpr ⟨rfl, (List.forall_mem_cons.mpr ⟨rfl, (List.forall_mem_cons.mpr ⟨rfl, (List.forall_mem_cons.mpr ⟨rfl, zs_nil⟩)⟩)⟩)⟩)⟩) ?_
            exact zt_L_law_J5068 hlt hV hX hr hR hd hf hk hrec h
          · rw [if_neg c5060] at h
            refine zw_lconst (v := (1 : Int64)) hX dL_law_5063 (by decide) ?_
            refine zw_goto (tgt := 5068) hX dL_law_5064 (by decide) ?_
            refine zw_sub (lv' := [(0, .ref a0), (1, .ref a1), (2, .ref a2), (3, .ref a3), (4, .int i4)]) (List.forall_mem_cons.mpr ⟨rfl, (List.forall_mem_cons.mpr ⟨rfl, (List.forall_mem_cons.mpr ⟨rfl, (List.forall_mem_cons.mpr ⟨rfl, (List.forall_mem_cons.mpr ⟨rfl, zs_nil⟩)⟩)⟩)⟩)⟩) ?_
            exact zt_L_law_J5068 hlt hV hX hr hR hd hf hk hrec h
      · rw [if_neg c5045] at h
        refine zw_iconst (v := (0 : Int32)) hX dL_law_5048 (by decide) ?_
        cases h
    · intro _ _ hx
      exact hx.elim
  · rw [if_neg hb5022] at h
    cases h
set_option maxHeartbeats 4000000 in
set_option maxRecDepth 100000 in
theorem zt_L_law_J5077 {p : Program} {l : Launch} {e : Env} {s : State} {m : MethodId} {zb : Nat} {below : List Frame} {meth : Method} {c : Code} {V : zm_V} {d : Nat} {nm : String} (hlt : l.stackTraces = false) (hV : V.2.2.2.1 = s.heap.size) (hX : zm_X p room_1 s m #[Value.ref zb] meth c RL nm cL_law 8 zk_E V 601024 7293034) (hr : meth.sig.returnType = ret) (hR : d ≤ room_1.frames ∧ 64 * d ≤ room_1.locals) (hd : 46 ≤ d) {N : Nat} {k : Nat → Nat → Nat → Nat → Int32 → Nat → Nat → zm_S → Option ((Int32 × zm_S) ⊕ ((Unit) × zm_S))} {rc rs : Nat} {a0 : Nat} {a1 : Nat} {a2 : Nat} {a3 : Nat} {i4 : Int32} {res : (Int32 × zm_S) ⊕ ((Unit) × zm_S)} {out : (Int32 × zm_S)}   (hf : ∀ o, res = .inl o → o = out) (hk : ∀ (S' : zm_S) (rc rs : Nat), res = .inr ((), S') → zw p l e room_1 s m #[Value.ref zb] below meth c (lw_Z below #[Value.ref zb] s) 8 zk_E V 601024 7293034 6008 [] [] S' rc rs) (hrec : ∀ (i4' : Int32) (rc rs : Nat) (S : zm_S), k a0 a1 a2 a3 i4' rc rs S = some res → zw p l e room_1 s m #[Value.ref zb] below meth c (lw_Z below #[Value.ref zb] s) 8 zk_E V 601024 7293034 23 [(0, .ref a0), (1, .ref a1), (2, .ref a2), (3, .ref a3), (4, .int i4')] [] S rc rs) {S : zm_S} (h : zf_L_law_J5077 N k a0 a1 a2 a3 i4 rc rs S = some res) : zw p l e room_1 s m #[Value.ref zb] below meth c (lw_Z below #[Value.ref zb] s) 8 zk_E V 601024 7293034 5077 [(0, .ref a0), (1, .ref a1), (2, .ref a2), (3, .ref a3), (4, .int i4)] [] S rc rs := by
  unfold zf_L_law_J5077 at h
  refine zw_aload_n hX dL_law_5077 rfl ?_
  refine zw_aload_n hX dL_law_5078 rfl ?_
  refine zw_iload hX dL_law_5079 rfl ?_
  refine zw_iconst (v := (1 : Int32)) hX dL_law_5081 (by decide) ?_
  refine zw_iadd hX dL_law_5082 ?_
  obtain ⟨v808, g, h⟩ := zb_some h
  refine zw_xi hX dL_law_5083 g ?_
  refine zw_aload_n hX dL_law_5084 rfl ?_
  refine zw_iload hX dL_law_5085 rfl ?_
  refine zw_iconst (v := (2 : Int32)) hX dL_law_5087 (by decide) ?_
  refine zw_iadd hX dL_law_5088 ?_
  obtain ⟨v809, g, h⟩ := zb_some h
  refine zw_xi hX dL_law_5089 g ?_
  refine zw_aload_n hX dL_law_5090 rfl ?_
  by_cases hb5091 : 2 ≤ rc ∧ 12 ≤ rs
  · rw [if_pos hb5091] at h
    obtain ⟨r812, g, h⟩ := zb_some h
    refine zc_SH (as := [.ref a1, .int v808, .int v809, .ref a3]) hX (zt_L_station hlt (d := d - 1) (by omega) g) zl_L_492 dL_law_5091 ⟨rfl, rfl, Nat.le_of_ble_eq_true rfl⟩ ⟨by omega, by omega⟩ hb5091 ?_ ?_
    · rintro _ _ ⟨rfl, rfl⟩
      refine zw_istore hX dL_law_5094 (by decide) ?_
      refine zw_aload_n hX dL_law_5096 rfl ?_
      refine zw_aload_n hX dL_law_5097 rfl ?_
      refine zw_iload hX dL_law_5098 rfl ?_
      refine zw_iconst (v := (1 : Int32)) hX dL_law_5100 (by decide) ?_
      refine zw_iadd hX dL_law_5101 ?_
      obtain ⟨v813, g, h⟩ := zb_some h
      refine zw_xi hX dL_law_5102 g ?_
      refine zw_aload_n hX dL_law_5103 rfl ?_
      refine zw_iload hX dL_law_5104 rfl ?_
      refine zw_iconst (v := (2 : Int32)) hX dL_law_5106 (by decide) ?_
      refine zw_iadd hX dL_law_5107 ?_
      obtain ⟨v814, g, h⟩ := zb_some h
      refine zw_xi hX dL_law_5108 g ?_
      obtain ⟨_, gi, h⟩ := zb_some h
      obtain ⟨r816, g, h⟩ := zb_some h
      refine zc_Vi (as := [.int v813, .int v814]) hX gi (zt_X18_station (d := d - 1) (by omega) g) zl_L_494 rfl dL_law_5109 ⟨rfl, rfl, Nat.le_of_ble_eq_true rfl⟩ ⟨by omega, by omega⟩ ?_
      refine zw_istore hX dL_law_5112 (by decide) ?_
      refine zw_aload_n hX dL_law_5114 rfl ?_
      obtain ⟨_, gi, h⟩ := zb_some h
      obtain ⟨r818, g, h⟩ := zb_some h
      refine zc_Vi (as := []) hX gi (zt_X18_thrown (d := d - 1) (by omega) g) zl_L_281 rfl dL_law_5115 ⟨rfl, rfl, Nat.le_of_ble_eq_true rfl⟩ ⟨by omega, by omega⟩ ?_
      refine zw_iload hX dL_law_5118 rfl ?_
      refine zw_icmp_eq (tgt := 5125) hX dL_law_5120 (by decide) (fun c5120 => ?_) (fun c5120 => ?_)
      · rw [if_pos c5120] at h
        refine zw_iload hX dL_law_5125 rfl ?_
        refine zw_if_ne (tgt := 5142) hX dL_law_5127 (by decide) (fun c5127 => ?_) (fun c5127 => ?_)
        · rw [if_neg c5127] at h
          refine zw_goto (tgt := 6002) hX dL_law_5142 (by decide) ?_
          refine zw_iinc (v := (i4 + (7 : Int32))) hX dL_law_6002 rfl rfl (by decide) ?_
          refine zw_goto (tgt := 23) hX dL_law_6005 (by decide) ?_
          refine zw_sub (lv' := [(0, .ref a0), (1, .ref a1), (2, .ref a2), (3, .ref a3), (4, .int (i4 + (7 : Int32)))]) (List.forall_mem_cons.mpr ⟨rfl, (List.forall_mem_cons.mpr ⟨rfl, (List.forall_mem_cons.mpr ⟨rfl, (List.forall_mem_cons.mpr ⟨rfl, (List.forall_mem_cons.mpr ⟨rfl, zs_nil⟩)⟩)⟩)⟩)⟩) ?_
          exact hrec _ _ _ _ h
        · rw [if_pos c5127] at h
          refine zw_aload_n hX dL_law_5130 rfl ?_
          refine zw_iconst (v := (0 : Int32)) hX dL_law_5131 (by decide) ?_
          obtain ⟨w819, g, h⟩ := zb_some h
          refine zw_xl hX dL_law_5132 g ?_
          refine zw_iload hX dL_law_5133 rfl ?_
          refine zw_i2l hX dL_law_5135 ?_
          refine zw_lcmp hX dL_law_5136 ?_
          refine zw_if_eq (tgt := 5142) hX dL_law_5137 (by decide) (fun c5137 => ?_) (fun c5137 => ?_)
          · rw [if_pos c5137] at h
            refine zw_goto (tgt := 6002) hX dL_law_5142 (by decide) ?_
            refine zw_iinc (v := (i4 + (7 : Int32))) hX dL_law_6002 rfl rfl (by decide) ?_
            refine zw_goto (tgt := 23) hX dL_law_6005 (by decide) ?_
            refine zw_sub (lv' := [(0, .ref a0), (1, .ref a1), (2, .ref a2), (3, .ref a3), (4, .int (i4 + (7 : Int32)))]) (List.forall_mem_cons.mpr ⟨rfl, (List.forall_mem_cons.mpr ⟨rfl, (List.forall_mem_cons.mpr ⟨rfl, (List.forall_mem_cons.mpr ⟨rfl, (List.forall_mem_cons.mpr ⟨rfl, zs_nil⟩)⟩)⟩)⟩)⟩) ?_
            exact hrec _ _ _ _ h
          · rw [if_neg c5137] at h
            refine zw_iconst (v := (0 : Int32)) hX dL_law_5140 (by decide) ?_
            cases h
      · rw [if_neg c5120] at h
        refine zw_iconst (v := (0 : Int32)) hX dL_law_5123 (by decide) ?_
        cases h
    · intro _ _ hx
      exact hx.elim
  · rw [if_neg hb5091] at h
    cases h
set_option maxHeartbeats 4000000 in
set_option maxRecDepth 100000 in
theorem zt_L_law_J5145 {p : Program} {l : Launch} {e : Env} {s : State} {m : MethodId} {zb : Nat} {below : List Frame} {meth : Method} {c : Code} {V : zm_V} {d : Nat} {nm : String} (hlt : l.stackTraces = false) (hV : V.2.2.2.1 = s.heap.size) (hX : zm_X p room_1 s m #[Value.ref zb] meth c RL nm cL_law 8 zk_E V 601024 7293034) (hr : meth.sig.returnType = ret) (hR : d ≤ room_1.frames ∧ 64 * d ≤ room_1.locals) (hd : 46 ≤ d) {N : Nat} {k : Nat → Nat → Nat → Nat → Int32 → Nat → Nat → zm_S → Option ((Int32 × zm_S) ⊕ ((Unit) × zm_S))} {rc rs : Nat} {a0 : Nat} {a1 : Nat} {a2 : Nat} {a3 : Nat} {i4 : Int32} {res : (Int32 × zm_S) ⊕ ((Unit) × zm_S)} {out : (Int32 × zm_S)}   (hf : ∀ o, res = .inl o → o = out) (hk : ∀ (S' : zm_S) (rc rs : Nat), res = .inr ((), S') → zw p l e room_1 s m #[Value.ref zb] below meth c (lw_Z below #[Value.ref zb] s) 8 zk_E V 601024 7293034 6008 [] [] S' rc rs) (hrec : ∀ (i4' : Int32) (rc rs : Nat) (S : zm_S), k a0 a1 a2 a3 i4' rc rs S = some res → zw p l e room_1 s m #[Value.ref zb] below meth c (lw_Z below #[Value.ref zb] s) 8 zk_E V 601024 7293034 23 [(0, .ref a0), (1, .ref a1), (2, .ref a2), (3, .ref a3), (4, .int i4')] [] S rc rs) {S : zm_S} (h : zf_L_law_J5145 N k a0 a1 a2 a3 i4 rc rs S = some res) : zw p l e room_1 s m #[Value.ref zb] below meth c (lw_Z below #[Value.ref zb] s) 8 zk_E V 601024 7293034 5145 [(0, .ref a0), (1, .ref a1), (2, .ref a2), (3, .ref a3), (4, .int i4)] [] S rc rs := by
  unfold zf_L_law_J5145 at h
  refine zw_aload_n hX dL_law_5145 rfl ?_
  refine zw_aload_n hX dL_law_5146 rfl ?_
  refine zw_iload hX dL_law_5147 rfl ?_
  refine zw_iconst (v := (1 : Int32)) hX dL_law_5149 (by decide) ?_
  refine zw_iadd hX dL_law_5150 ?_
  obtain ⟨v820, g, h⟩ := zb_some h
  refine zw_xi hX dL_law_5151 g ?_
  refine zw_aload_n hX dL_law_5152 rfl ?_
  by_cases hb5153 : 2 ≤ rc ∧ 12 ≤ rs
  · rw [if_pos hb5153] at h
    obtain ⟨r823, g, h⟩ := zb_some h
    refine zc_SH (as := [.ref a1, .int v820, .ref a3]) hX (zt_L_heard hlt (d := d - 1) (by omega) g) zl_L_495 dL_law_5153 ⟨rfl, rfl, Nat.le_of_ble_eq_true rfl⟩ ⟨by omega, by omega⟩ hb5153 ?_ ?_
    · rintro _ _ ⟨rfl, rfl⟩
      refine zw_istore hX dL_law_5156 (by decide) ?_
      refine zw_aload_n hX dL_law_5158 rfl ?_
      refine zw_aload_n hX dL_law_5159 rfl ?_
      refine zw_iload hX dL_law_5160 rfl ?_
      refine zw_iconst (v := (1 : Int32)) hX dL_law_5162 (by decide) ?_
      refine zw_iadd hX dL_law_5163 ?_
      obtain ⟨v824, g, h⟩ := zb_some h
      refine zw_xi hX dL_law_5164 g ?_
      obtain ⟨_, gi, h⟩ := zb_some h
      obtain ⟨r826, g, h⟩ := zb_some h
      refine zc_Vi (as := [.int v824]) hX gi (zt_X18_heard (d := d - 1) (by omega) g) zl_L_497 rfl dL_law_5165 ⟨rfl, rfl, Nat.le_of_ble_eq_true rfl⟩ ⟨by omega, by omega⟩ ?_
      refine zw_istore hX dL_law_5168 (by decide) ?_
      refine zw_aload_n hX dL_law_5170 rfl ?_
      obtain ⟨_, gi, h⟩ := zb_some h
      obtain ⟨r828, g, h⟩ := zb_some h
      refine zc_Vi (as := []) hX gi (zt_X18_thrown (d := d - 1) (by omega) g) zl_L_281 rfl dL_law_5171 ⟨rfl, rfl, Nat.le_of_ble_eq_true rfl⟩ ⟨by omega, by omega⟩ ?_
      refine zw_iload hX dL_law_5174 rfl ?_
      refine zw_icmp_eq (tgt := 5181) hX dL_law_5176 (by decide) (fun c5176 => ?_) (fun c5176 => ?_)
      · rw [if_pos c5176] at h
        refine zw_iload hX dL_law_5181 rfl ?_
        refine zw_if_ne (tgt := 5198) hX dL_law_5183 (by decide) (fun c5183 => ?_) (fun c5183 => ?_)
        · rw [if_neg c5183] at h
          refine zw_goto (tgt := 6002) hX dL_law_5198 (by decide) ?_
          refine zw_iinc (v := (i4 + (7 : Int32))) hX dL_law_6002 rfl rfl (by decide) ?_
          refine zw_goto (tgt := 23) hX dL_law_6005 (by decide) ?_
          refine zw_sub (lv' := [(0, .ref a0), (1, .ref a1), (2, .ref a2), (3, .ref a3), (4, .int (i4 + (7 : Int32)))]) (List.forall_mem_cons.mpr ⟨rfl, (List.forall_mem_cons.mpr ⟨rfl, (List.forall_mem_cons.mpr ⟨rfl, (List.forall_mem_cons.mpr ⟨rfl, (List.forall_mem_cons.mpr ⟨rfl, zs_nil⟩)⟩)⟩)⟩)⟩) ?_
          exact hrec _ _ _ _ h
        · rw [if_pos c5183] at h
          refine zw_aload_n hX dL_law_5186 rfl ?_
          refine zw_iconst (v := (0 : Int32)) hX dL_law_5187 (by decide) ?_
          obtain ⟨w829, g, h⟩ := zb_some h
          refine zw_xl hX dL_law_5188 g ?_
          refine zw_iload hX dL_law_5189 rfl ?_
          refine zw_i2l hX dL_law_5191 ?_
          refine zw_lcmp hX dL_law_5192 ?_
          refine zw_if_eq (tgt := 5198) hX dL_law_5193 (by decide) (fun c5193 => ?_) (fun c5193 => ?_)
          · rw [if_pos c5193] at h
            refine zw_goto (tgt := 6002) hX dL_law_5198 (by decide) ?_
            refine zw_iinc (v := (i4 + (7 : Int32))) hX dL_law_6002 rfl rfl (by decide) ?_
            refine zw_goto (tgt := 23) hX dL_law_6005 (by decide) ?_
            refine zw_sub (lv' := [(0, .ref a0), (1, .ref a1), (2, .ref a2), (3, .ref a3), (4, .int (i4 + (7 : Int32)))]) (List.forall_mem_cons.mpr ⟨rfl, (List.forall_mem_cons.mpr ⟨rfl, (List.forall_mem_cons.mpr ⟨rfl, (List.forall_mem_cons.mpr ⟨rfl, (List.forall_mem_cons.mpr ⟨rfl, zs_nil⟩)⟩)⟩)⟩)⟩) ?_
            exact hrec _ _ _ _ h
          · rw [if_neg c5193] at h
            refine zw_iconst (v := (0 : Int32)) hX dL_law_5196 (by decide) ?_
            cases h
      · rw [if_neg c5176] at h
        refine zw_iconst (v := (0 : Int32)) hX dL_law_5179 (by decide) ?_
        cases h
    · intro _ _ hx
      exact hx.elim
  · rw [if_neg hb5153] at h
    cases h
set_option maxHeartbeats 4000000 in
set_option maxRecDepth 100000 in
theorem zt_L_law_J5201 {p : Program} {l : Launch} {e : Env} {s : State} {m : MethodId} {zb : Nat} {below : List Frame} {meth : Method} {c : Code} {V : zm_V} {d : Nat} {nm : String} (hlt : l.stackTraces = false) (hV : V.2.2.2.1 = s.heap.size) (hX : zm_X p room_1 s m #[Value.ref zb] meth c RL nm cL_law 8 zk_E V 601024 7293034) (hr : meth.sig.returnType = ret) (hR : d ≤ room_1.frames ∧ 64 * d ≤ room_1.locals) (hd : 46 ≤ d) {N : Nat} {k : Nat → Nat → Nat → Nat → Int32 → Nat → Nat → zm_S → Option ((Int32 × zm_S) ⊕ ((Unit) × zm_S))} {rc rs : Nat} {a0 : Nat} {a1 : Nat} {a2 : Nat} {a3 : Nat} {i4 : Int32} {res : (Int32 × zm_S) ⊕ ((Unit) × zm_S)} {out : (Int32 × zm_S)}   (hf : ∀ o, res = .inl o → o = out) (hk : ∀ (S' : zm_S) (rc rs : Nat), res = .inr ((), S') → zw p l e room_1 s m #[Value.ref zb] below meth c (lw_Z below #[Value.ref zb] s) 8 zk_E V 601024 7293034 6008 [] [] S' rc rs) (hrec : ∀ (i4' : Int32) (rc rs : Nat) (S : zm_S), k a0 a1 a2 a3 i4' rc rs S = some res → zw p l e room_1 s m #[Value.ref zb] below meth c (lw_Z below #[Value.ref zb] s) 8 zk_E V 601024 7293034 23 [(0, .ref a0), (1, .ref a1), (2, .ref a2), (3, .ref a3), (4, .int i4')] [] S rc rs) {S : zm_S} (h : zf_L_law_J5201 N k a0 a1 a2 a3 i4 rc rs S = some res) : zw p l e room_1 s m #[Value.ref zb] below meth c (lw_Z below #[Value.ref zb] s) 8 zk_E V 601024 7293034 5201 [(0, .ref a0), (1, .ref a1), (2, .ref a2), (3, .ref a3), (4, .int i4)] [] S rc rs := by
  unfold zf_L_law_J5201 at h
  refine zw_aload_n hX dL_law_5201 rfl ?_
  refine zw_aload_n hX dL_law_5202 rfl ?_
  refine zw_iload hX dL_law_5203 rfl ?_
  refine zw_iconst (v := (1 : Int32)) hX dL_law_5205 (by decide) ?_
  refine zw_iadd hX dL_law_5206 ?_
  obtain ⟨v830, g, h⟩ := zb_some h
  refine zw_xi hX dL_law_5207 g ?_
  refine zw_aload_n hX dL_law_5208 rfl ?_
  by_cases hb5209 : 2 ≤ rc ∧ 12 ≤ rs
  · rw [if_pos hb5209] at h
    obtain ⟨r833, g, h⟩ := zb_some h
    refine zc_SH (as := [.ref a1, .int v830, .ref a3]) hX (zt_L_byteAt hlt (d := d - 1) (by omega) g) zl_L_498 dL_law_5209 ⟨rfl, rfl, Nat.le_of_ble_eq_true rfl⟩ ⟨by omega, by omega⟩ hb5209 ?_ ?_
    · rintro _ _ ⟨rfl, rfl⟩
      refine zw_istore hX dL_law_5212 (by decide) ?_
      refine zw_aload_n hX dL_law_5214 rfl ?_
      refine zw_aload_n hX dL_law_5215 rfl ?_
      refine zw_iload hX dL_law_5216 rfl ?_
      refine zw_iconst (v := (1 : Int32)) hX dL_law_5218 (by decide) ?_
      refine zw_iadd hX dL_law_5219 ?_
      obtain ⟨v834, g, h⟩ := zb_some h
      refine zw_xi hX dL_law_5220 g ?_
      obtain ⟨_, gi, h⟩ := zb_some h
      obtain ⟨r836, g, h⟩ := zb_some h
      refine zc_Vi (as := [.int v834]) hX gi (zt_X18_byteAt (d := d - 1) (by omega) g) zl_L_500 rfl dL_law_5221 ⟨rfl, rfl, Nat.le_of_ble_eq_true rfl⟩ ⟨by omega, by omega⟩ ?_
      refine zw_istore hX dL_law_5224 (by decide) ?_
      refine zw_aload_n hX dL_law_5226 rfl ?_
      obtain ⟨_, gi, h⟩ := zb_some h
      obtain ⟨r838, g, h⟩ := zb_some h
      refine zc_Vi (as := []) hX gi (zt_X18_thrown (d := d - 1) (by omega) g) zl_L_281 rfl dL_law_5227 ⟨rfl, rfl, Nat.le_of_ble_eq_true rfl⟩ ⟨by omega, by omega⟩ ?_
      refine zw_iload hX dL_law_5230 rfl ?_
      refine zw_icmp_eq (tgt := 5237) hX dL_law_5232 (by decide) (fun c5232 => ?_) (fun c5232 => ?_)
      · rw [if_pos c5232] at h
        refine zw_iload hX dL_law_5237 rfl ?_
        refine zw_if_ne (tgt := 5254) hX dL_law_5239 (by decide) (fun c5239 => ?_) (fun c5239 => ?_)
        · rw [if_neg c5239] at h
          refine zw_goto (tgt := 6002) hX dL_law_5254 (by decide) ?_
          refine zw_iinc (v := (i4 + (7 : Int32))) hX dL_law_6002 rfl rfl (by decide) ?_
          refine zw_goto (tgt := 23) hX dL_law_6005 (by decide) ?_
          refine zw_sub (lv' := [(0, .ref a0), (1, .ref a1), (2, .ref a2), (3, .ref a3), (4, .int (i4 + (7 : Int32)))]) (List.forall_mem_cons.mpr ⟨rfl, (List.forall_mem_cons.mpr ⟨rfl, (List.forall_mem_cons.mpr ⟨rfl, (List.forall_mem_cons.mpr ⟨rfl, (List.forall_mem_cons.mpr ⟨rfl, zs_nil⟩)⟩)⟩)⟩)⟩) ?_
          exact hrec _ _ _ _ h
        · rw [if_pos c5239] at h
          refine zw_aload_n hX dL_law_5242 rfl ?_
          refine zw_iconst (v := (0 : Int32)) hX dL_law_5243 (by decide) ?_
          obtain ⟨w839, g, h⟩ := zb_some h
          refine zw_xl hX dL_law_5244 g ?_
          refine zw_iload hX dL_law_5245 rfl ?_
          refine zw_i2l hX dL_law_5247 ?_
          refine zw_lcmp hX dL_law_5248 ?_
          refine zw_if_eq (tgt := 5254) hX dL_law_5249 (by decide) (fun c5249 => ?_) (fun c5249 => ?_)
          · rw [if_pos c5249] at h
            refine zw_goto (tgt := 6002) hX dL_law_5254 (by decide) ?_
            refine zw_iinc (v := (i4 + (7 : Int32))) hX dL_law_6002 rfl rfl (by decide) ?_
            refine zw_goto (tgt := 23) hX dL_law_6005 (by decide) ?_
            refine zw_sub (lv' := [(0, .ref a0), (1, .ref a1), (2, .ref a2), (3, .ref a3), (4, .int (i4 + (7 : Int32)))]) (List.forall_mem_cons.mpr ⟨rfl, (List.forall_mem_cons.mpr ⟨rfl, (List.forall_mem_cons.mpr ⟨rfl, (List.forall_mem_cons.mpr ⟨rfl, (List.forall_mem_cons.mpr ⟨rfl, zs_nil⟩)⟩)⟩)⟩)⟩) ?_
            exact hrec _ _ _ _ h
          · rw [if_neg c5249] at h
            refine zw_iconst (v := (0 : Int32)) hX dL_law_5252 (by decide) ?_
            cases h
      · rw [if_neg c5232] at h
        refine zw_iconst (v := (0 : Int32)) hX dL_law_5235 (by decide) ?_
        cases h
    · intro _ _ hx
      exact hx.elim
  · rw [if_neg hb5209] at h
    cases h
set_option maxHeartbeats 4000000 in
set_option maxRecDepth 100000 in
theorem zt_L_law_J5257 {p : Program} {l : Launch} {e : Env} {s : State} {m : MethodId} {zb : Nat} {below : List Frame} {meth : Method} {c : Code} {V : zm_V} {d : Nat} {nm : String} (hlt : l.stackTraces = false) (hV : V.2.2.2.1 = s.heap.size) (hX : zm_X p room_1 s m #[Value.ref zb] meth c RL nm cL_law 8 zk_E V 601024 7293034) (hr : meth.sig.returnType = ret) (hR : d ≤ room_1.frames ∧ 64 * d ≤ room_1.locals) (hd : 46 ≤ d) {N : Nat} {k : Nat → Nat → Nat → Nat → Int32 → Nat → Nat → zm_S → Option ((Int32 × zm_S) ⊕ ((Unit) × zm_S))} {rc rs : Nat} {a0 : Nat} {a1 : Nat} {a2 : Nat} {a3 : Nat} {i4 : Int32} {res : (Int32 × zm_S) ⊕ ((Unit) × zm_S)} {out : (Int32 × zm_S)}   (hf : ∀ o, res = .inl o → o = out) (hk : ∀ (S' : zm_S) (rc rs : Nat), res = .inr ((), S') → zw p l e room_1 s m #[Value.ref zb] below meth c (lw_Z below #[Value.ref zb] s) 8 zk_E V 601024 7293034 6008 [] [] S' rc rs) (hrec : ∀ (i4' : Int32) (rc rs : Nat) (S : zm_S), k a0 a1 a2 a3 i4' rc rs S = some res → zw p l e room_1 s m #[Value.ref zb] below meth c (lw_Z below #[Value.ref zb] s) 8 zk_E V 601024 7293034 23 [(0, .ref a0), (1, .ref a1), (2, .ref a2), (3, .ref a3), (4, .int i4')] [] S rc rs) {S : zm_S} (h : zf_L_law_J5257 N k a0 a1 a2 a3 i4 rc rs S = some res) : zw p l e room_1 s m #[Value.ref zb] below meth c (lw_Z below #[Value.ref zb] s) 8 zk_E V 601024 7293034 5257 [(0, .ref a0), (1, .ref a1), (2, .ref a2), (3, .ref a3), (4, .int i4)] [] S rc rs := by
  unfold zf_L_law_J5257 at h
  refine zw_aload_n hX dL_law_5257 rfl ?_
  refine zw_aload_n hX dL_law_5258 rfl ?_
  refine zw_iload hX dL_law_5259 rfl ?_
  refine zw_iconst (v := (1 : Int32)) hX dL_law_5261 (by decide) ?_
  refine zw_iadd hX dL_law_5262 ?_
  obtain ⟨v840, g, h⟩ := zb_some h
  refine zw_xi hX dL_law_5263 g ?_
  refine zw_aload_n hX dL_law_5264 rfl ?_
  refine zw_iload hX dL_law_5265 rfl ?_
  refine zw_iconst (v := (2 : Int32)) hX dL_law_5267 (by decide) ?_
  refine zw_iadd hX dL_law_5268 ?_
  obtain ⟨v841, g, h⟩ := zb_some h
  refine zw_xi hX dL_law_5269 g ?_
  refine zw_aload_n hX dL_law_5270 rfl ?_
  by_cases hb5271 : 2 ≤ rc ∧ 12 ≤ rs
  · rw [if_pos hb5271] at h
    obtain ⟨r844, g, h⟩ := zb_some h
    refine zc_SH (as := [.ref a1, .int v840, .int v841, .ref a3]) hX (zt_L_car hlt (d := d - 1) (by omega) g) zl_L_501 dL_law_5271 ⟨rfl, rfl, Nat.le_of_ble_eq_true rfl⟩ ⟨by omega, by omega⟩ hb5271 ?_ ?_
    · rintro _ _ ⟨rfl, rfl⟩
      refine zw_istore hX dL_law_5274 (by decide) ?_
      refine zw_aload_n hX dL_law_5276 rfl ?_
      refine zw_aload_n hX dL_law_5277 rfl ?_
      refine zw_iload hX dL_law_5278 rfl ?_
      refine zw_iconst (v := (1 : Int32)) hX dL_law_5280 (by decide) ?_
      refine zw_iadd hX dL_law_5281 ?_
      obtain ⟨v845, g, h⟩ := zb_some h
      refine zw_xi hX dL_law_5282 g ?_
      refine zw_aload_n hX dL_law_5283 rfl ?_
      refine zw_iload hX dL_law_5284 rfl ?_
      refine zw_iconst (v := (2 : Int32)) hX dL_law_5286 (by decide) ?_
      refine zw_iadd hX dL_law_5287 ?_
      obtain ⟨v846, g, h⟩ := zb_some h
      refine zw_xi hX dL_law_5288 g ?_
      obtain ⟨_, gi, h⟩ := zb_some h
      obtain ⟨r848, g, h⟩ := zb_some h
      refine zc_Vi (as := [.int v845, .int v846]) hX gi (zt_X18_car (d := d - 1) (by omega) g) zl_L_503 rfl dL_law_5289 ⟨rfl, rfl, Nat.le_of_ble_eq_true rfl⟩ ⟨by omega, by omega⟩ ?_
      refine zw_istore hX dL_law_5292 (by decide) ?_
      refine zw_aload_n hX dL_law_5294 rfl ?_
      obtain ⟨_, gi, h⟩ := zb_some h
      obtain ⟨r850, g, h⟩ := zb_some h
      refine zc_Vi (as := []) hX gi (zt_X18_thrown (d := d - 1) (by omega) g) zl_L_281 rfl dL_law_5295 ⟨rfl, rfl, Nat.le_of_ble_eq_true rfl⟩ ⟨by omega, by omega⟩ ?_
      refine zw_iload hX dL_law_5298 rfl ?_
      refine zw_icmp_eq (tgt := 5305) hX dL_law_5300 (by decide) (fun c5300 => ?_) (fun c5300 => ?_)
      · rw [if_pos c5300] at h
        refine zw_iload hX dL_law_5305 rfl ?_
        refine zw_if_ne (tgt := 5322) hX dL_law_5307 (by decide) (fun c5307 => ?_) (fun c5307 => ?_)
        · rw [if_neg c5307] at h
          refine zw_goto (tgt := 6002) hX dL_law_5322 (by decide) ?_
          refine zw_iinc (v := (i4 + (7 : Int32))) hX dL_law_6002 rfl rfl (by decide) ?_
          refine zw_goto (tgt := 23) hX dL_law_6005 (by decide) ?_
          refine zw_sub (lv' := [(0, .ref a0), (1, .ref a1), (2, .ref a2), (3, .ref a3), (4, .int (i4 + (7 : Int32)))]) (List.forall_mem_cons.mpr ⟨rfl, (List.forall_mem_cons.mpr ⟨rfl, (List.forall_mem_cons.mpr ⟨rfl, (List.forall_mem_cons.mpr ⟨rfl, (List.forall_mem_cons.mpr ⟨rfl, zs_nil⟩)⟩)⟩)⟩)⟩) ?_
          exact hrec _ _ _ _ h
        · rw [if_pos c5307] at h
          refine zw_aload_n hX dL_law_5310 rfl ?_
          refine zw_iconst (v := (0 : Int32)) hX dL_law_5311 (by decide) ?_
          obtain ⟨w851, g, h⟩ := zb_some h
          refine zw_xl hX dL_law_5312 g ?_
          refine zw_iload hX dL_law_5313 rfl ?_
          refine zw_i2l hX dL_law_5315 ?_
          refine zw_lcmp hX dL_law_5316 ?_
          refine zw_if_eq (tgt := 5322) hX dL_law_5317 (by decide) (fun c5317 => ?_) (fun c5317 => ?_)
          · rw [if_pos c5317] at h
            refine zw_goto (tgt := 6002) hX dL_law_5322 (by decide) ?_
            refine zw_iinc (v := (i4 + (7 : Int32))) hX dL_law_6002 rfl rfl (by decide) ?_
            refine zw_goto (tgt := 23) hX dL_law_6005 (by decide) ?_
            refine zw_sub (lv' := [(0, .ref a0), (1, .ref a1), (2, .ref a2), (3, .ref a3), (4, .int (i4 + (7 : Int32)))]) (List.forall_mem_cons.mpr ⟨rfl, (List.forall_mem_cons.mpr ⟨rfl, (List.forall_mem_cons.mpr ⟨rfl, (List.forall_mem_cons.mpr ⟨rfl, (List.forall_mem_cons.mpr ⟨rfl, zs_nil⟩)⟩)⟩)⟩)⟩) ?_
            exact hrec _ _ _ _ h
          · rw [if_neg c5317] at h
            refine zw_iconst (v := (0 : Int32)) hX dL_law_5320 (by decide) ?_
            cases h
      · rw [if_neg c5300] at h
        refine zw_iconst (v := (0 : Int32)) hX dL_law_5303 (by decide) ?_
        cases h
    · intro _ _ hx
      exact hx.elim
  · rw [if_neg hb5271] at h
    cases h
set_option maxHeartbeats 4000000 in
set_option maxRecDepth 100000 in
theorem zt_L_law_J5325 {p : Program} {l : Launch} {e : Env} {s : State} {m : MethodId} {zb : Nat} {below : List Frame} {meth : Method} {c : Code} {V : zm_V} {d : Nat} {nm : String} (hlt : l.stackTraces = false) (hV : V.2.2.2.1 = s.heap.size) (hX : zm_X p room_1 s m #[Value.ref zb] meth c RL nm cL_law 8 zk_E V 601024 7293034) (hr : meth.sig.returnType = ret) (hR : d ≤ room_1.frames ∧ 64 * d ≤ room_1.locals) (hd : 46 ≤ d) {N : Nat} {k : Nat → Nat → Nat → Nat → Int32 → Nat → Nat → zm_S → Option ((Int32 × zm_S) ⊕ ((Unit) × zm_S))} {rc rs : Nat} {a0 : Nat} {a1 : Nat} {a2 : Nat} {a3 : Nat} {i4 : Int32} {res : (Int32 × zm_S) ⊕ ((Unit) × zm_S)} {out : (Int32 × zm_S)}   (hf : ∀ o, res = .inl o → o = out) (hk : ∀ (S' : zm_S) (rc rs : Nat), res = .inr ((), S') → zw p l e room_1 s m #[Value.ref zb] below meth c (lw_Z below #[Value.ref zb] s) 8 zk_E V 601024 7293034 6008 [] [] S' rc rs) (hrec : ∀ (i4' : Int32) (rc rs : Nat) (S : zm_S), k a0 a1 a2 a3 i4' rc rs S = some res → zw p l e room_1 s m #[Value.ref zb] below meth c (lw_Z below #[Value.ref zb] s) 8 zk_E V 601024 7293034 23 [(0, .ref a0), (1, .ref a1), (2, .ref a2), (3, .ref a3), (4, .int i4')] [] S rc rs) {S : zm_S} (h : zf_L_law_J5325 N k a0 a1 a2 a3 i4 rc rs S = some res) : zw p l e room_1 s m #[Value.ref zb] below meth c (lw_Z below #[Value.ref zb] s) 8 zk_E V 601024 7293034 5325 [(0, .ref a0), (1, .ref a1), (2, .ref a2), (3, .ref a3), (4, .int i4)] [] S rc rs := by
  unfold zf_L_law_J5325 at h
  refine zw_aload_n hX dL_law_5325 rfl ?_
  refine zw_aload_n hX dL_law_5326 rfl ?_
  refine zw_iload hX dL_law_5327 rfl ?_
  refine zw_iconst (v := (1 : Int32)) hX dL_law_5329 (by decide) ?_
  refine zw_iadd hX dL_law_5330 ?_
  obtain ⟨v852, g, h⟩ := zb_some h
  refine zw_xi hX dL_law_5331 g ?_
  refine zw_aload_n hX dL_law_5332 rfl ?_
  refine zw_iload hX dL_law_5333 rfl ?_
  refine zw_iconst (v := (2 : Int32)) hX dL_law_5335 (by decide) ?_
  refine zw_iadd hX dL_law_5336 ?_
  obtain ⟨v853, g, h⟩ := zb_some h
  refine zw_xi hX dL_law_5337 g ?_
  refine zw_aload_n hX dL_law_5338 rfl ?_
  refine zw_iload hX dL_law_5339 rfl ?_
  refine zw_iconst (v := (3 : Int32)) hX dL_law_5341 (by decide) ?_
  refine zw_iadd hX dL_law_5342 ?_
  obtain ⟨v854, g, h⟩ := zb_some h
  refine zw_xi hX dL_law_5343 g ?_
  by_cases hb5344 : 2 ≤ rc ∧ 12 ≤ rs
  · rw [if_pos hb5344] at h
    obtain ⟨r857, g, h⟩ := zb_some h
    refine zc_SH (as := [.ref a1, .int v852, .int v853, .int v854]) hX (zt_L_free hlt (d := d - 1) (by omega) g) zl_L_504 dL_law_5344 ⟨rfl, rfl, Nat.le_of_ble_eq_true rfl⟩ ⟨by omega, by omega⟩ hb5344 ?_ ?_
    · rintro _ _ ⟨rfl, rfl⟩
      refine zw_istore hX dL_law_5347 (by decide) ?_
      refine zw_aload_n hX dL_law_5349 rfl ?_
      refine zw_aload_n hX dL_law_5350 rfl ?_
      refine zw_iload hX dL_law_5351 rfl ?_
      refine zw_iconst (v := (1 : Int32)) hX dL_law_5353 (by decide) ?_
      refine zw_iadd hX dL_law_5354 ?_
      obtain ⟨v858, g, h⟩ := zb_some h
      refine zw_xi hX dL_law_5355 g ?_
      refine zw_aload_n hX dL_law_5356 rfl ?_
      refine zw_iload hX dL_law_5357 rfl ?_
      refine zw_iconst (v := (2 : Int32)) hX dL_law_5359 (by decide) ?_
      refine zw_iadd hX dL_law_5360 ?_
      obtain ⟨v859, g, h⟩ := zb_some h
      refine zw_xi hX dL_law_5361 g ?_
      refine zw_aload_n hX dL_law_5362 rfl ?_
      refine zw_iload hX dL_law_5363 rfl ?_
      refine zw_iconst (v := (3 : Int32)) hX dL_law_5365 (by decide) ?_
      refine zw_iadd hX dL_law_5366 ?_
      obtain ⟨v860, g, h⟩ := zb_some h
      refine zw_xi hX dL_law_5367 g ?_
      obtain ⟨_, gi, h⟩ := zb_some h
      obtain ⟨r862, g, h⟩ := zb_some h
      refine zc_Vv (as := [.int v858, .int v859, .int v860]) hX gi (zt_X18_free (d := d - 1) (by omega) g) zl_L_506 rfl dL_law_5368 ⟨rfl, rfl, Nat.le_of_ble_eq_true rfl⟩ ⟨by omega, by omega⟩ ?_
      refine zw_aload_n hX dL_law_5371 rfl ?_
      obtain ⟨_, gi, h⟩ := zb_some h
      obtain ⟨r864, g, h⟩ := zb_some h
      refine zc_Vi (as := []) hX gi (zt_X18_thrown (d := d - 1) (by omega) g) zl_L_281 rfl dL_law_5372 ⟨rfl, rfl, Nat.le_of_ble_eq_true rfl⟩ ⟨by omega, by omega⟩ ?_
      refine zw_iload hX dL_law_5375 rfl ?_
      refine zw_icmp_eq (tgt := 5382) hX dL_law_5377 (by decide) (fun c5377 => ?_) (fun c5377 => ?_)
      · rw [if_pos c5377] at h
        refine zw_goto (tgt := 6002) hX dL_law_5382 (by decide) ?_
        refine zw_iinc (v := (i4 + (7 : Int32))) hX dL_law_6002 rfl rfl (by decide) ?_
        refine zw_goto (tgt := 23) hX dL_law_6005 (by decide) ?_
        refine zw_sub (lv' := [(0, .ref a0), (1, .ref a1), (2, .ref a2), (3, .ref a3), (4, .int (i4 + (7 : Int32)))]) (List.forall_mem_cons.mpr ⟨rfl, (List.forall_mem_cons.mpr ⟨rfl, (List.forall_mem_cons.mpr ⟨rfl, (List.forall_mem_cons.mpr ⟨rfl, (List.forall_mem_cons.mpr ⟨rfl, zs_nil⟩)⟩)⟩)⟩)⟩) ?_
        exact hrec _ _ _ _ h
      · rw [if_neg c5377] at h
        refine zw_iconst (v := (0 : Int32)) hX dL_law_5380 (by decide) ?_
        cases h
    · intro _ _ hx
      exact hx.elim
  · rw [if_neg hb5344] at h
    cases h
set_option maxHeartbeats 4000000 in
set_option maxRecDepth 100000 in
theorem zt_L_law_J5385 {p : Program} {l : Launch} {e : Env} {s : State} {m : MethodId} {zb : Nat} {below : List Frame} {meth : Method} {c : Code} {V : zm_V} {d : Nat} {nm : String} (hlt : l.stackTraces = false) (hV : V.2.2.2.1 = s.heap.size) (hX : zm_X p room_1 s m #[Value.ref zb] meth c RL nm cL_law 8 zk_E V 601024 7293034) (hr : meth.sig.returnType = ret) (hR : d ≤ room_1.frames ∧ 64 * d ≤ room_1.locals) (hd : 46 ≤ d) {N : Nat} {k : Nat → Nat → Nat → Nat → Int32 → Nat → Nat → zm_S → Option ((Int32 × zm_S) ⊕ ((Unit) × zm_S))} {rc rs : Nat} {a0 : Nat} {a1 : Nat} {a2 : Nat} {a3 : Nat} {i4 : Int32} {res : (Int32 × zm_S) ⊕ ((Unit) × zm_S)} {out : (Int32 × zm_S)}   (hf : ∀ o, res = .inl o → o = out) (hk : ∀ (S' : zm_S) (rc rs : Nat), res = .inr ((), S') → zw p l e room_1 s m #[Value.ref zb] below meth c (lw_Z below #[Value.ref zb] s) 8 zk_E V 601024 7293034 6008 [] [] S' rc rs) (hrec : ∀ (i4' : Int32) (rc rs : Nat) (S : zm_S), k a0 a1 a2 a3 i4' rc rs S = some res → zw p l e room_1 s m #[Value.ref zb] below meth c (lw_Z below #[Value.ref zb] s) 8 zk_E V 601024 7293034 23 [(0, .ref a0), (1, .ref a1), (2, .ref a2), (3, .ref a3), (4, .int i4')] [] S rc rs) {S : zm_S} (h : zf_L_law_J5385 N k a0 a1 a2 a3 i4 rc rs S = some res) : zw p l e room_1 s m #[Value.ref zb] below meth c (lw_Z below #[Value.ref zb] s) 8 zk_E V 601024 7293034 5385 [(0, .ref a0), (1, .ref a1), (2, .ref a2), (3, .ref a3), (4, .int i4)] [] S rc rs := by
  unfold zf_L_law_J5385 at h
  refine zw_aload_n hX dL_law_5385 rfl ?_
  refine zw_aload_n hX dL_law_5386 rfl ?_
  refine zw_iload hX dL_law_5387 rfl ?_
  refine zw_iconst (v := (1 : Int32)) hX dL_law_5389 (by decide) ?_
  refine zw_iadd hX dL_law_5390 ?_
  obtain ⟨v865, g, h⟩ := zb_some h
  refine zw_xi hX dL_law_5391 g ?_
  refine zw_aload_n hX dL_law_5392 rfl ?_
  refine zw_iload hX dL_law_5393 rfl ?_
  refine zw_iconst (v := (2 : Int32)) hX dL_law_5395 (by decide) ?_
  refine zw_iadd hX dL_law_5396 ?_
  obtain ⟨v866, g, h⟩ := zb_some h
  refine zw_xi hX dL_law_5397 g ?_
  refine zw_aload_n hX dL_law_5398 rfl ?_
  refine zw_iload hX dL_law_5399 rfl ?_
  refine zw_iconst (v := (3 : Int32)) hX dL_law_5401 (by decide) ?_
  refine zw_iadd hX dL_law_5402 ?_
  obtain ⟨v867, g, h⟩ := zb_some h
  refine zw_xi hX dL_law_5403 g ?_
  by_cases hb5404 : 2 ≤ rc ∧ 12 ≤ rs
  · rw [if_pos hb5404] at h
    obtain ⟨r870, g, h⟩ := zb_some h
    refine zc_SH (as := [.ref a1, .int v865, .int v866, .int v867]) hX (zt_L_span hlt (d := d - 1) (by omega) g) zl_L_507 dL_law_5404 ⟨rfl, rfl, Nat.le_of_ble_eq_true rfl⟩ ⟨by omega, by omega⟩ hb5404 ?_ ?_
    · rintro _ _ ⟨rfl, rfl⟩
      refine zw_istore hX dL_law_5407 (by decide) ?_
      refine zw_aload_n hX dL_law_5409 rfl ?_
      refine zw_aload_n hX dL_law_5410 rfl ?_
      refine zw_iload hX dL_law_5411 rfl ?_
      refine zw_iconst (v := (1 : Int32)) hX dL_law_5413 (by decide) ?_
      refine zw_iadd hX dL_law_5414 ?_
      obtain ⟨v871, g, h⟩ := zb_some h
      refine zw_xi hX dL_law_5415 g ?_
      refine zw_aload_n hX dL_law_5416 rfl ?_
      refine zw_iload hX dL_law_5417 rfl ?_
      refine zw_iconst (v := (2 : Int32)) hX dL_law_5419 (by decide) ?_
      refine zw_iadd hX dL_law_5420 ?_
      obtain ⟨v872, g, h⟩ := zb_some h
      refine zw_xi hX dL_law_5421 g ?_
      refine zw_aload_n hX dL_law_5422 rfl ?_
      refine zw_iload hX dL_law_5423 rfl ?_
      refine zw_iconst (v := (3 : Int32)) hX dL_law_5425 (by decide) ?_
      refine zw_iadd hX dL_law_5426 ?_
      obtain ⟨v873, g, h⟩ := zb_some h
      refine zw_xi hX dL_law_5427 g ?_
      obtain ⟨_, gi, h⟩ := zb_some h
      obtain ⟨r875, g, h⟩ := zb_some h
      refine zc_Vv (as := [.int v871, .int v872, .int v873]) hX gi (zt_X18_span (d := d - 1) (by omega) g) zl_L_509 rfl dL_law_5428 ⟨rfl, rfl, Nat.le_of_ble_eq_true rfl⟩ ⟨by omega, by omega⟩ ?_
      refine zw_aload_n hX dL_law_5431 rfl ?_
      obtain ⟨_, gi, h⟩ := zb_some h
      obtain ⟨r877, g, h⟩ := zb_some h
      refine zc_Vi (as := []) hX gi (zt_X18_thrown (d := d - 1) (by omega) g) zl_L_281 rfl dL_law_5432 ⟨rfl, rfl, Nat.le_of_ble_eq_true rfl⟩ ⟨by omega, by omega⟩ ?_
      refine zw_iload hX dL_law_5435 rfl ?_
      refine zw_icmp_eq (tgt := 5442) hX dL_law_5437 (by decide) (fun c5437 => ?_) (fun c5437 => ?_)
      · rw [if_pos c5437] at h
        refine zw_goto (tgt := 6002) hX dL_law_5442 (by decide) ?_
        refine zw_iinc (v := (i4 + (7 : Int32))) hX dL_law_6002 rfl rfl (by decide) ?_
        refine zw_goto (tgt := 23) hX dL_law_6005 (by decide) ?_
        refine zw_sub (lv' := [(0, .ref a0), (1, .ref a1), (2, .ref a2), (3, .ref a3), (4, .int (i4 + (7 : Int32)))]) (List.forall_mem_cons.mpr ⟨rfl, (List.forall_mem_cons.mpr ⟨rfl, (List.forall_mem_cons.mpr ⟨rfl, (List.forall_mem_cons.mpr ⟨rfl, (List.forall_mem_cons.mpr ⟨rfl, zs_nil⟩)⟩)⟩)⟩)⟩) ?_
        exact hrec _ _ _ _ h
      · rw [if_neg c5437] at h
        refine zw_iconst (v := (0 : Int32)) hX dL_law_5440 (by decide) ?_
        cases h
    · intro _ _ hx
      exact hx.elim
  · rw [if_neg hb5404] at h
    cases h
set_option maxHeartbeats 4000000 in
set_option maxRecDepth 100000 in
theorem zt_L_law_J5445 {p : Program} {l : Launch} {e : Env} {s : State} {m : MethodId} {zb : Nat} {below : List Frame} {meth : Method} {c : Code} {V : zm_V} {d : Nat} {nm : String} (hlt : l.stackTraces = false) (hV : V.2.2.2.1 = s.heap.size) (hX : zm_X p room_1 s m #[Value.ref zb] meth c RL nm cL_law 8 zk_E V 601024 7293034) (hr : meth.sig.returnType = ret) (hR : d ≤ room_1.frames ∧ 64 * d ≤ room_1.locals) (hd : 46 ≤ d) {N : Nat} {k : Nat → Nat → Nat → Nat → Int32 → Nat → Nat → zm_S → Option ((Int32 × zm_S) ⊕ ((Unit) × zm_S))} {rc rs : Nat} {a0 : Nat} {a1 : Nat} {a2 : Nat} {a3 : Nat} {i4 : Int32} {res : (Int32 × zm_S) ⊕ ((Unit) × zm_S)} {out : (Int32 × zm_S)}   (hf : ∀ o, res = .inl o → o = out) (hk : ∀ (S' : zm_S) (rc rs : Nat), res = .inr ((), S') → zw p l e room_1 s m #[Value.ref zb] below meth c (lw_Z below #[Value.ref zb] s) 8 zk_E V 601024 7293034 6008 [] [] S' rc rs) (hrec : ∀ (i4' : Int32) (rc rs : Nat) (S : zm_S), k a0 a1 a2 a3 i4' rc rs S = some res → zw p l e room_1 s m #[Value.ref zb] below meth c (lw_Z below #[Value.ref zb] s) 8 zk_E V 601024 7293034 23 [(0, .ref a0), (1, .ref a1), (2, .ref a2), (3, .ref a3), (4, .int i4')] [] S rc rs) {S : zm_S} (h : zf_L_law_J5445 N k a0 a1 a2 a3 i4 rc rs S = some res) : zw p l e room_1 s m #[Value.ref zb] below meth c (lw_Z below #[Value.ref zb] s) 8 zk_E V 601024 7293034 5445 [(0, .ref a0), (1, .ref a1), (2, .ref a2), (3, .ref a3), (4, .int i4)] [] S rc rs := by
  unfold zf_L_law_J5445 at h
  refine zw_aload_n hX dL_law_5445 rfl ?_
  refine zw_aload_n hX dL_law_5446 rfl ?_
  refine zw_iload hX dL_law_5447 rfl ?_
  refine zw_iconst (v := (1 : Int32)) hX dL_law_5449 (by decide) ?_
  refine zw_iadd hX dL_law_5450 ?_
  obtain ⟨v878, g, h⟩ := zb_some h
  refine zw_xi hX dL_law_5451 g ?_
  refine zw_aload_n hX dL_law_5452 rfl ?_
  refine zw_iload hX dL_law_5453 rfl ?_
  refine zw_iconst (v := (2 : Int32)) hX dL_law_5455 (by decide) ?_
  refine zw_iadd hX dL_law_5456 ?_
  obtain ⟨v879, g, h⟩ := zb_some h
  refine zw_xi hX dL_law_5457 g ?_
  refine zw_aload_n hX dL_law_5458 rfl ?_
  by_cases hb5459 : 2 ≤ rc ∧ 12 ≤ rs
  · rw [if_pos hb5459] at h
    obtain ⟨r882, g, h⟩ := zb_some h
    refine zc_SH (as := [.ref a1, .int v878, .int v879, .ref a3]) hX (zt_L_call hlt (d := d - 1) (by omega) g) zl_L_510 dL_law_5459 ⟨rfl, rfl, Nat.le_of_ble_eq_true rfl⟩ ⟨by omega, by omega⟩ hb5459 ?_ ?_
    · rintro _ _ ⟨rfl, rfl⟩
      refine zw_istore hX dL_law_5462 (by decide) ?_
      refine zw_aload_n hX dL_law_5464 rfl ?_
      refine zw_aload_n hX dL_law_5465 rfl ?_
      refine zw_iload hX dL_law_5466 rfl ?_
      refine zw_iconst (v := (1 : Int32)) hX dL_law_5468 (by decide) ?_
      refine zw_iadd hX dL_law_5469 ?_
      obtain ⟨v883, g, h⟩ := zb_some h
      refine zw_xi hX dL_law_5470 g ?_
      refine zw_aload_n hX dL_law_5471 rfl ?_
      refine zw_iload hX dL_law_5472 rfl ?_
      refine zw_iconst (v := (2 : Int32)) hX dL_law_5474 (by decide) ?_
      refine zw_iadd hX dL_law_5475 ?_
      obtain ⟨v884, g, h⟩ := zb_some h
      refine zw_xi hX dL_law_5476 g ?_
      obtain ⟨_, gi, h⟩ := zb_some h
      obtain ⟨r886, g, h⟩ := zb_some h
      refine zc_Vi (as := [.int v883, .int v884]) hX gi (zt_X18_call (d := d - 1) (by omega) g) zl_L_512 rfl dL_law_5477 ⟨rfl, rfl, Nat.le_of_ble_eq_true rfl⟩ ⟨by omega, by omega⟩ ?_
      refine zw_istore hX dL_law_5480 (by decide) ?_
      refine zw_aload_n hX dL_law_5482 rfl ?_
      obtain ⟨_, gi, h⟩ := zb_some h
      obtain ⟨r888, g, h⟩ := zb_some h
      refine zc_Vi (as := []) hX gi (zt_X18_thrown (d := d - 1) (by omega) g) zl_L_281 rfl dL_law_5483 ⟨rfl, rfl, Nat.le_of_ble_eq_true rfl⟩ ⟨by omega, by omega⟩ ?_
      refine zw_iload hX dL_law_5486 rfl ?_
      refine zw_icmp_eq (tgt := 5493) hX dL_law_5488 (by decide) (fun c5488 => ?_) (fun c5488 => ?_)
      · rw [if_pos c5488] at h
        refine zw_iload hX dL_law_5493 rfl ?_
        refine zw_if_ne (tgt := 5510) hX dL_law_5495 (by decide) (fun c5495 => ?_) (fun c5495 => ?_)
        · rw [if_neg c5495] at h
          refine zw_goto (tgt := 6002) hX dL_law_5510 (by decide) ?_
          refine zw_iinc (v := (i4 + (7 : Int32))) hX dL_law_6002 rfl rfl (by decide) ?_
          refine zw_goto (tgt := 23) hX dL_law_6005 (by decide) ?_
          refine zw_sub (lv' := [(0, .ref a0), (1, .ref a1), (2, .ref a2), (3, .ref a3), (4, .int (i4 + (7 : Int32)))]) (List.forall_mem_cons.mpr ⟨rfl, (List.forall_mem_cons.mpr ⟨rfl, (List.forall_mem_cons.mpr ⟨rfl, (List.forall_mem_cons.mpr ⟨rfl, (List.forall_mem_cons.mpr ⟨rfl, zs_nil⟩)⟩)⟩)⟩)⟩) ?_
          exact hrec _ _ _ _ h
        · rw [if_pos c5495] at h
          refine zw_aload_n hX dL_law_5498 rfl ?_
          refine zw_iconst (v := (0 : Int32)) hX dL_law_5499 (by decide) ?_
          obtain ⟨w889, g, h⟩ := zb_some h
          refine zw_xl hX dL_law_5500 g ?_
          refine zw_iload hX dL_law_5501 rfl ?_
          refine zw_i2l hX dL_law_5503 ?_
          refine zw_lcmp hX dL_law_5504 ?_
          refine zw_if_eq (tgt := 5510) hX dL_law_5505 (by decide) (fun c5505 => ?_) (fun c5505 => ?_)
          · rw [if_pos c5505] at h
            refine zw_goto (tgt := 6002) hX dL_law_5510 (by decide) ?_
            refine zw_iinc (v := (i4 + (7 : Int32))) hX dL_law_6002 rfl rfl (by decide) ?_
            refine zw_goto (tgt := 23) hX dL_law_6005 (by decide) ?_
            refine zw_sub (lv' := [(0, .ref a0), (1, .ref a1), (2, .ref a2), (3, .ref a3), (4, .int (i4 + (7 : Int32)))]) (List.forall_mem_cons.mpr ⟨rfl, (List.forall_mem_cons.mpr ⟨rfl, (List.forall_mem_cons.mpr ⟨rfl, (List.forall_mem_cons.mpr ⟨rfl, (List.forall_mem_cons.mpr ⟨rfl, zs_nil⟩)⟩)⟩)⟩)⟩) ?_
            exact hrec _ _ _ _ h
          · rw [if_neg c5505] at h
            refine zw_iconst (v := (0 : Int32)) hX dL_law_5508 (by decide) ?_
            cases h
      · rw [if_neg c5488] at h
        refine zw_iconst (v := (0 : Int32)) hX dL_law_5491 (by decide) ?_
        cases h
    · intro _ _ hx
      exact hx.elim
  · rw [if_neg hb5459] at h
    cases h
set_option maxHeartbeats 4000000 in
set_option maxRecDepth 100000 in
theorem zt_L_law_J5579 {p : Program} {l : Launch} {e : Env} {s : State} {m : MethodId} {zb : Nat} {below : List Frame} {meth : Method} {c : Code} {V : zm_V} {d : Nat} {nm : String} (hlt : l.stackTraces = false) (hV : V.2.2.2.1 = s.heap.size) (hX : zm_X p room_1 s m #[Value.ref zb] meth c RL nm cL_law 8 zk_E V 601024 7293034) (hr : meth.sig.returnType = ret) (hR : d ≤ room_1.frames ∧ 64 * d ≤ room_1.locals) (hd : 46 ≤ d) {N : Nat} {k : Nat → Nat → Nat → Nat → Int32 → Nat → Nat → zm_S → Option ((Int32 × zm_S) ⊕ ((Unit) × zm_S))} {rc rs : Nat} {a0 : Nat} {a1 : Nat} {a2 : Nat} {a3 : Nat} {i4 : Int32} {t0 : Int64} {t1 : Int64} {res : (Int32 × zm_S) ⊕ ((Unit) × zm_S)} {out : (Int32 × zm_S)}   (hf : ∀ o, res = .inl o → o = out) (hk : ∀ (S' : zm_S) (rc rs : Nat), res = .inr ((), S') → zw p l e room_1 s m #[Value.ref zb] below meth c (lw_Z below #[Value.ref zb] s) 8 zk_E V 601024 7293034 6008 [] [] S' rc rs) (hrec : ∀ (i4' : Int32) (rc rs : Nat) (S : zm_S), k a0 a1 a2 a3 i4' rc rs S = some res → zw p l e room_1 s m #[Value.ref zb] below meth c (lw_Z below #[Value.ref zb] s) 8 zk_E V 601024 7293034 23 [(0, .ref a0), (1, .ref a1), (2, .ref a2), (3, .ref a3), (4, .int i4')] [] S rc rs) {S : zm_S} (h : zf_L_law_J5579 N k a0 a1 a2 a3 i4 t0 t1 rc rs S = some res) : zw p l e room_1 s m #[Value.ref zb] below meth c (lw_Z below #[Value.ref zb] s) 8 zk_E V 601024 7293034 5579 [(0, .ref a0), (1, .ref a1), (2, .ref a2), (3, .ref a3), (4, .int i4)] [.long t1, .long t0] S rc rs := by
  unfold zf_L_law_J5579 at h
  refine zw_lcmp hX dL_law_5579 ?_
  refine zw_if_eq (tgt := 5585) hX dL_law_5580 (by decide) (fun c5580 => ?_) (fun c5580 => ?_)
  · rw [if_pos c5580] at h
    refine zw_goto (tgt := 6002) hX dL_law_5585 (by decide) ?_
    refine zw_iinc (v := (i4 + (7 : Int32))) hX dL_law_6002 rfl rfl (by decide) ?_
    refine zw_goto (tgt := 23) hX dL_law_6005 (by decide) ?_
    refine zw_sub (lv' := [(0, .ref a0), (1, .ref a1), (2, .ref a2), (3, .ref a3), (4, .int (i4 + (7 : Int32)))]) (List.forall_mem_cons.mpr ⟨rfl, (List.forall_mem_cons.mpr ⟨rfl, (List.forall_mem_cons.mpr ⟨rfl, (List.forall_mem_cons.mpr ⟨rfl, (List.forall_mem_cons.mpr ⟨rfl, zs_nil⟩)⟩)⟩)⟩)⟩) ?_
    exact hrec _ _ _ _ h
  · rw [if_neg c5580] at h
    refine zw_iconst (v := (0 : Int32)) hX dL_law_5583 (by decide) ?_
    cases h
set_option maxHeartbeats 4000000 in
set_option maxRecDepth 100000 in
theorem zt_L_law_J5513 {p : Program} {l : Launch} {e : Env} {s : State} {m : MethodId} {zb : Nat} {below : List Frame} {meth : Method} {c : Code} {V : zm_V} {d : Nat} {nm : String} (hlt : l.stackTraces = false) (hV : V.2.2.2.1 = s.heap.size) (hX : zm_X p room_1 s m #[Value.ref zb] meth c RL nm cL_law 8 zk_E V 601024 7293034) (hr : meth.sig.returnType = ret) (hR : d ≤ room_1.frames ∧ 64 * d ≤ room_1.locals) (hd : 46 ≤ d) {N : Nat} {k : Nat → Nat → Nat → Nat → Int32 → Nat → Nat → zm_S → Option ((Int32 × zm_S) ⊕ ((Unit) × zm_S))} {rc rs : Nat} {a0 : Nat} {a1 : Nat} {a2 : Nat} {a3 : Nat} {i4 : Int32} {res : (Int32 × zm_S) ⊕ ((Unit) × zm_S)} {out : (Int32 × zm_S)}   (hf : ∀ o, res = .inl o → o = out) (hk : ∀ (S' : zm_S) (rc rs : Nat), res = .inr ((), S') → zw p l e room_1 s m #[Value.ref zb] below meth c (lw_Z below #[Value.ref zb] s) 8 zk_E V 601024 7293034 6008 [] [] S' rc rs) (hrec : ∀ (i4' : Int32) (rc rs : Nat) (S : zm_S), k a0 a1 a2 a3 i4' rc rs S = some res → zw p l e room_1 s m #[Value.ref zb] below meth c (lw_Z below #[Value.ref zb] s) 8 zk_E V 601024 7293034 23 [(0, .ref a0), (1, .ref a1), (2, .ref a2), (3, .ref a3), (4, .int i4')] [] S rc rs) {S : zm_S} (h : zf_L_law_J5513 N k a0 a1 a2 a3 i4 rc rs S = some res) : zw p l e room_1 s m #[Value.ref zb] below meth c (lw_Z below #[Value.ref zb] s) 8 zk_E V 601024 7293034 5513 [(0, .ref a0), (1, .ref a1), (2, .ref a2), (3, .ref a3), (4, .int i4)] [] S rc rs := by
  unfold zf_L_law_J5513 at h
  refine zw_aload_n hX dL_law_5513 rfl ?_
  refine zw_aload_n hX dL_law_5514 rfl ?_
  refine zw_iload hX dL_law_5515 rfl ?_
  refine zw_iconst (v := (1 : Int32)) hX dL_law_5517 (by decide) ?_
  refine zw_iadd hX dL_law_5518 ?_
  obtain ⟨v890, g, h⟩ := zb_some h
  refine zw_xi hX dL_law_5519 g ?_
  refine zw_aload_n hX dL_law_5520 rfl ?_
  refine zw_iload hX dL_law_5521 rfl ?_
  refine zw_iconst (v := (2 : Int32)) hX dL_law_5523 (by decide) ?_
  refine zw_iadd hX dL_law_5524 ?_
  obtain ⟨v891, g, h⟩ := zb_some h
  refine zw_xi hX dL_law_5525 g ?_
  refine zw_aload_n hX dL_law_5526 rfl ?_
  by_cases hb5527 : 2 ≤ rc ∧ 12 ≤ rs
  · rw [if_pos hb5527] at h
    obtain ⟨r894, g, h⟩ := zb_some h
    refine zc_SH (as := [.ref a1, .int v890, .int v891, .ref a3]) hX (zt_L_begin hlt (d := d - 1) (by omega) g) zl_L_513 dL_law_5527 ⟨rfl, rfl, Nat.le_of_ble_eq_true rfl⟩ ⟨by omega, by omega⟩ hb5527 ?_ ?_
    · rintro _ _ ⟨rfl, rfl⟩
      refine zw_istore hX dL_law_5530 (by decide) ?_
      refine zw_aload_n hX dL_law_5532 rfl ?_
      refine zw_aload_n hX dL_law_5533 rfl ?_
      refine zw_iload hX dL_law_5534 rfl ?_
      refine zw_iconst (v := (1 : Int32)) hX dL_law_5536 (by decide) ?_
      refine zw_iadd hX dL_law_5537 ?_
      obtain ⟨v895, g, h⟩ := zb_some h
      refine zw_xi hX dL_law_5538 g ?_
      refine zw_aload_n hX dL_law_5539 rfl ?_
      refine zw_iload hX dL_law_5540 rfl ?_
      refine zw_iconst (v := (2 : Int32)) hX dL_law_5542 (by decide) ?_
      refine zw_iadd hX dL_law_5543 ?_
      obtain ⟨v896, g, h⟩ := zb_some h
      refine zw_xi hX dL_law_5544 g ?_
      obtain ⟨_, gi, h⟩ := zb_some h
      obtain ⟨r898, g, h⟩ := zb_some h
      refine zc_Vi (as := [.int v895, .int v896]) hX gi (zt_X18_begin (d := d - 1) (by omega) g) zl_L_515 rfl dL_law_5545 ⟨rfl, rfl, Nat.le_of_ble_eq_true rfl⟩ ⟨by omega, by omega⟩ ?_
      refine zw_istore hX dL_law_5548 (by decide) ?_
      refine zw_aload_n hX dL_law_5550 rfl ?_
      obtain ⟨_, gi, h⟩ := zb_some h
      obtain ⟨r900, g, h⟩ := zb_some h
      refine zc_Vi (as := []) hX gi (zt_X18_thrown (d := d - 1) (by omega) g) zl_L_281 rfl dL_law_5551 ⟨rfl, rfl, Nat.le_of_ble_eq_true rfl⟩ ⟨by omega, by omega⟩ ?_
      refine zw_iload hX dL_law_5554 rfl ?_
      refine zw_icmp_eq (tgt := 5561) hX dL_law_5556 (by decide) (fun c5556 => ?_) (fun c5556 => ?_)
      · rw [if_pos c5556] at h
        refine zw_iload hX dL_law_5561 rfl ?_
        refine zw_if_ne (tgt := 5585) hX dL_law_5563 (by decide) (fun c5563 => ?_) (fun c5563 => ?_)
        · rw [if_neg c5563] at h
          refine zw_goto (tgt := 6002) hX dL_law_5585 (by decide) ?_
          refine zw_iinc (v := (i4 + (7 : Int32))) hX dL_law_6002 rfl rfl (by decide) ?_
          refine zw_goto (tgt := 23) hX dL_law_6005 (by decide) ?_
          refine zw_sub (lv' := [(0, .ref a0), (1, .ref a1), (2, .ref a2), (3, .ref a3), (4, .int (i4 + (7 : Int32)))]) (List.forall_mem_cons.mpr ⟨rfl, (List.forall_mem_cons.mpr ⟨rfl, (List.forall_mem_cons.mpr ⟨rfl, (List.forall_mem_cons.mpr ⟨rfl, (List.forall_mem_cons.mpr ⟨rfl, zs_nil⟩)⟩)⟩)⟩)⟩) ?_
          exact hrec _ _ _ _ h
        · rw [if_pos c5563] at h
          refine zw_aload_n hX dL_law_5566 rfl ?_
          refine zw_iconst (v := (0 : Int32)) hX dL_law_5567 (by decide) ?_
          obtain ⟨w901, g, h⟩ := zb_some h
          refine zw_xl hX dL_law_5568 g ?_
          refine zw_iload hX dL_law_5569 rfl ?_
          refine zw_if_eq (tgt := 5578) hX dL_law_5571 (by decide) (fun c5571 => ?_) (fun c5571 => ?_)
          · rw [if_pos c5571] at h
            refine zw_lconst (v := (0 : Int64)) hX dL_law_5578 (by decide) ?_
            refine zw_sub (lv' := [(0, .ref a0), (1, .ref a1), (2, .ref a2), (3, .ref a3), (4, .int i4)]) (List.forall_mem_cons.mpr ⟨rfl, (List.forall_mem_cons.mpr ⟨rfl, (List.forall_mem_cons.mpr ⟨rfl, (List.forall_mem_cons.mpr ⟨rfl, (List.forall_mem_cons.mpr ⟨rfl, zs_nil⟩)⟩)⟩)⟩)⟩) ?_
            exact zt_L_law_J5579 hlt hV hX hr hR hd hf hk hrec h
          · rw [if_neg c5571] at h
            refine zw_lconst (v := (1 : Int64)) hX dL_law_5574 (by decide) ?_
            refine zw_goto (tgt := 5579) hX dL_law_5575 (by decide) ?_
            refine zw_sub (lv' := [(0, .ref a0), (1, .ref a1), (2, .ref a2), (3, .ref a3), (4, .int i4)]) (List.forall_mem_cons.mpr ⟨rfl, (List.forall_mem_cons.mpr ⟨rfl, (List.forall_mem_cons.mpr ⟨rfl, (List.forall_mem_cons.mpr ⟨rfl, (List.forall_mem_cons.mpr ⟨rfl, zs_nil⟩)⟩)⟩)⟩)⟩) ?_
            exact zt_L_law_J5579 hlt hV hX hr hR hd hf hk hrec h
      · rw [if_neg c5556] at h
        refine zw_iconst (v := (0 : Int32)) hX dL_law_5559 (by decide) ?_
        cases h
    · intro _ _ hx
      exact hx.elim
  · rw [if_neg hb5527] at h
    cases h
set_option maxHeartbeats 4000000 in
set_option maxRecDepth 100000 in
theorem zt_L_law_J5588 {p : Program} {l : Launch} {e : Env} {s : State} {m : MethodId} {zb : Nat} {below : List Frame} {meth : Method} {c : Code} {V : zm_V} {d : Nat} {nm : String} (hlt : l.stackTraces = false) (hV : V.2.2.2.1 = s.heap.size) (hX : zm_X p room_1 s m #[Value.ref zb] meth c RL nm cL_law 8 zk_E V 601024 7293034) (hr : meth.sig.returnType = ret) (hR : d ≤ room_1.frames ∧ 64 * d ≤ room_1.locals) (hd : 46 ≤ d) {N : Nat} {k : Nat → Nat → Nat → Nat → Int32 → Nat → Nat → zm_S → Option ((Int32 × zm_S) ⊕ ((Unit) × zm_S))} {rc rs : Nat} {a0 : Nat} {a1 : Nat} {a2 : Nat} {a3 : Nat} {i4 : Int32} {res : (Int32 × zm_S) ⊕ ((Unit) × zm_S)} {out : (Int32 × zm_S)}   (hf : ∀ o, res = .inl o → o = out) (hk : ∀ (S' : zm_S) (rc rs : Nat), res = .inr ((), S') → zw p l e room_1 s m #[Value.ref zb] below meth c (lw_Z below #[Value.ref zb] s) 8 zk_E V 601024 7293034 6008 [] [] S' rc rs) (hrec : ∀ (i4' : Int32) (rc rs : Nat) (S : zm_S), k a0 a1 a2 a3 i4' rc rs S = some res → zw p l e room_1 s m #[Value.ref zb] below meth c (lw_Z below #[Value.ref zb] s) 8 zk_E V 601024 7293034 23 [(0, .ref a0), (1, .ref a1), (2, .ref a2), (3, .ref a3), (4, .int i4')] [] S rc rs) {S : zm_S} (h : zf_L_law_J5588 N k a0 a1 a2 a3 i4 rc rs S = some res) : zw p l e room_1 s m #[Value.ref zb] below meth c (lw_Z below #[Value.ref zb] s) 8 zk_E V 601024 7293034 5588 [(0, .ref a0), (1, .ref a1), (2, .ref a2), (3, .ref a3), (4, .int i4)] [] S rc rs := by
  unfold zf_L_law_J5588 at h
  refine zw_aload_n hX dL_law_5588 rfl ?_
  refine zw_aload_n hX dL_law_5589 rfl ?_
  refine zw_iload hX dL_law_5590 rfl ?_
  refine zw_iconst (v := (1 : Int32)) hX dL_law_5592 (by decide) ?_
  refine zw_iadd hX dL_law_5593 ?_
  obtain ⟨v902, g, h⟩ := zb_some h
  refine zw_xi hX dL_law_5594 g ?_
  by_cases hb5595 : 2 ≤ rc ∧ 12 ≤ rs
  · rw [if_pos hb5595] at h
    obtain ⟨r905, g, h⟩ := zb_some h
    refine zc_SH (as := [.ref a1, .int v902]) hX (zt_L_done hlt (d := d - 1) (by omega) g) zl_L_516 dL_law_5595 ⟨rfl, rfl, Nat.le_of_ble_eq_true rfl⟩ ⟨by omega, by omega⟩ hb5595 ?_ ?_
    · rintro _ _ ⟨rfl, rfl⟩
      refine zw_istore hX dL_law_5598 (by decide) ?_
      refine zw_aload_n hX dL_law_5600 rfl ?_
      refine zw_aload_n hX dL_law_5601 rfl ?_
      refine zw_iload hX dL_law_5602 rfl ?_
      refine zw_iconst (v := (1 : Int32)) hX dL_law_5604 (by decide) ?_
      refine zw_iadd hX dL_law_5605 ?_
      obtain ⟨v906, g, h⟩ := zb_some h
      refine zw_xi hX dL_law_5606 g ?_
      obtain ⟨_, gi, h⟩ := zb_some h
      obtain ⟨r908, g, h⟩ := zb_some h
      refine zc_Vv (as := [.int v906]) hX gi (zt_X18_done (d := d - 1) (by omega) g) zl_L_519 rfl dL_law_5607 ⟨rfl, rfl, Nat.le_of_ble_eq_true rfl⟩ ⟨by omega, by omega⟩ ?_
      refine zw_aload_n hX dL_law_5610 rfl ?_
      obtain ⟨_, gi, h⟩ := zb_some h
      obtain ⟨r910, g, h⟩ := zb_some h
      refine zc_Vi (as := []) hX gi (zt_X18_thrown (d := d - 1) (by omega) g) zl_L_281 rfl dL_law_5611 ⟨rfl, rfl, Nat.le_of_ble_eq_true rfl⟩ ⟨by omega, by omega⟩ ?_
      refine zw_iload hX dL_law_5614 rfl ?_
      refine zw_icmp_eq (tgt := 5621) hX dL_law_5616 (by decide) (fun c5616 => ?_) (fun c5616 => ?_)
      · rw [if_pos c5616] at h
        refine zw_goto (tgt := 6002) hX dL_law_5621 (by decide) ?_
        refine zw_iinc (v := (i4 + (7 : Int32))) hX dL_law_6002 rfl rfl (by decide) ?_
        refine zw_goto (tgt := 23) hX dL_law_6005 (by decide) ?_
        refine zw_sub (lv' := [(0, .ref a0), (1, .ref a1), (2, .ref a2), (3, .ref a3), (4, .int (i4 + (7 : Int32)))]) (List.forall_mem_cons.mpr ⟨rfl, (List.forall_mem_cons.mpr ⟨rfl, (List.forall_mem_cons.mpr ⟨rfl, (List.forall_mem_cons.mpr ⟨rfl, (List.forall_mem_cons.mpr ⟨rfl, zs_nil⟩)⟩)⟩)⟩)⟩) ?_
        exact hrec _ _ _ _ h
      · rw [if_neg c5616] at h
        refine zw_iconst (v := (0 : Int32)) hX dL_law_5619 (by decide) ?_
        cases h
    · intro _ _ hx
      exact hx.elim
  · rw [if_neg hb5595] at h
    cases h
set_option maxHeartbeats 4000000 in
set_option maxRecDepth 100000 in
theorem zt_L_law_J5624 {p : Program} {l : Launch} {e : Env} {s : State} {m : MethodId} {zb : Nat} {below : List Frame} {meth : Method} {c : Code} {V : zm_V} {d : Nat} {nm : String} (hlt : l.stackTraces = false) (hV : V.2.2.2.1 = s.heap.size) (hX : zm_X p room_1 s m #[Value.ref zb] meth c RL nm cL_law 8 zk_E V 601024 7293034) (hr : meth.sig.returnType = ret) (hR : d ≤ room_1.frames ∧ 64 * d ≤ room_1.locals) (hd : 46 ≤ d) {N : Nat} {k : Nat → Nat → Nat → Nat → Int32 → Nat → Nat → zm_S → Option ((Int32 × zm_S) ⊕ ((Unit) × zm_S))} {rc rs : Nat} {a0 : Nat} {a1 : Nat} {a2 : Nat} {a3 : Nat} {i4 : Int32} {res : (Int32 × zm_S) ⊕ ((Unit) × zm_S)} {out : (Int32 × zm_S)}   (hf : ∀ o, res = .inl o → o = out) (hk : ∀ (S' : zm_S) (rc rs : Nat), res = .inr ((), S') → zw p l e room_1 s m #[Value.ref zb] below meth c (lw_Z below #[Value.ref zb] s) 8 zk_E V 601024 7293034 6008 [] [] S' rc rs) (hrec : ∀ (i4' : Int32) (rc rs : Nat) (S : zm_S), k a0 a1 a2 a3 i4' rc rs S = some res → zw p l e room_1 s m #[Value.ref zb] below meth c (lw_Z below #[Value.ref zb] s) 8 zk_E V 601024 7293034 23 [(0, .ref a0), (1, .ref a1), (2, .ref a2), (3, .ref a3), (4, .int i4')] [] S rc rs) {S : zm_S} (h : zf_L_law_J5624 N k a0 a1 a2 a3 i4 rc rs S = some res) : zw p l e room_1 s m #[Value.ref zb] below meth c (lw_Z below #[Value.ref zb] s) 8 zk_E V 601024 7293034 5624 [(0, .ref a0), (1, .ref a1), (2, .ref a2), (3, .ref a3), (4, .int i4)] [] S rc rs := by
  unfold zf_L_law_J5624 at h
  refine zw_aload_n hX dL_law_5624 rfl ?_
  refine zw_aload_n hX dL_law_5625 rfl ?_
  by_cases hb5626 : 1 ≤ rc ∧ 6 ≤ rs
  · rw [if_pos hb5626] at h
    obtain ⟨r913, g, h⟩ := zb_some h
    refine zc_SH (as := [.ref a1, .ref a3]) hX (zt_L_give hlt (d := d - 1) (by omega) g) zl_L_520 dL_law_5626 ⟨rfl, rfl, Nat.le_of_ble_eq_true rfl⟩ ⟨by omega, by omega⟩ hb5626 ?_ ?_
    · rintro _ _ ⟨rfl, rfl⟩
      refine zw_istore hX dL_law_5629 (by decide) ?_
      refine zw_aload_n hX dL_law_5631 rfl ?_
      obtain ⟨_, gi, h⟩ := zb_some h
      obtain ⟨r915, g, h⟩ := zb_some h
      refine zc_Vl (as := []) hX gi (zt_X18_give (d := d - 1) (by omega) g) zl_L_522 rfl dL_law_5632 ⟨rfl, rfl, Nat.le_of_ble_eq_true rfl⟩ ⟨by omega, by omega⟩ ?_
      refine zw_lstore hX dL_law_5635 (by decide) ?_
      refine zw_aload_n hX dL_law_5637 rfl ?_
      obtain ⟨_, gi, h⟩ := zb_some h
      obtain ⟨r917, g, h⟩ := zb_some h
      refine zc_Vi (as := []) hX gi (zt_X18_thrown (d := d - 1) (by omega) g) zl_L_281 rfl dL_law_5638 ⟨rfl, rfl, Nat.le_of_ble_eq_true rfl⟩ ⟨by omega, by omega⟩ ?_
      refine zw_iload hX dL_law_5641 rfl ?_
      refine zw_icmp_eq (tgt := 5648) hX dL_law_5643 (by decide) (fun c5643 => ?_) (fun c5643 => ?_)
      · rw [if_pos c5643] at h
        refine zw_iload hX dL_law_5648 rfl ?_
        refine zw_if_ne (tgt := 5664) hX dL_law_5650 (by decide) (fun c5650 => ?_) (fun c5650 => ?_)
        · rw [if_neg c5650] at h
          refine zw_goto (tgt := 6002) hX dL_law_5664 (by decide) ?_
          refine zw_iinc (v := (i4 + (7 : Int32))) hX dL_law_6002 rfl rfl (by decide) ?_
          refine zw_goto (tgt := 23) hX dL_law_6005 (by decide) ?_
          refine zw_sub (lv' := [(0, .ref a0), (1, .ref a1), (2, .ref a2), (3, .ref a3), (4, .int (i4 + (7 : Int32)))]) (List.forall_mem_cons.mpr ⟨rfl, (List.forall_mem_cons.mpr ⟨rfl, (List.forall_mem_cons.mpr ⟨rfl, (List.forall_mem_cons.mpr ⟨rfl, (List.forall_mem_cons.mpr ⟨rfl, zs_nil⟩)⟩)⟩)⟩)⟩) ?_
          exact hrec _ _ _ _ h
        · rw [if_pos c5650] at h
          refine zw_aload_n hX dL_law_5653 rfl ?_
          refine zw_iconst (v := (0 : Int32)) hX dL_law_5654 (by decide) ?_
          obtain ⟨w918, g, h⟩ := zb_some h
          refine zw_xl hX dL_law_5655 g ?_
          refine zw_lload hX dL_law_5656 rfl ?_
          refine zw_lcmp hX dL_law_5658 ?_
          refine zw_if_eq (tgt := 5664) hX dL_law_5659 (by decide) (fun c5659 => ?_) (fun c5659 => ?_)
          · rw [if_pos c5659] at h
            refine zw_goto (tgt := 6002) hX dL_law_5664 (by decide) ?_
            refine zw_iinc (v := (i4 + (7 : Int32))) hX dL_law_6002 rfl rfl (by decide) ?_
            refine zw_goto (tgt := 23) hX dL_law_6005 (by decide) ?_
            refine zw_sub (lv' := [(0, .ref a0), (1, .ref a1), (2, .ref a2), (3, .ref a3), (4, .int (i4 + (7 : Int32)))]) (List.forall_mem_cons.mpr ⟨rfl, (List.forall_mem_cons.mpr ⟨rfl, (List.forall_mem_cons.mpr ⟨rfl, (List.forall_mem_cons.mpr ⟨rfl, (List.forall_mem_cons.mpr ⟨rfl, zs_nil⟩)⟩)⟩)⟩)⟩) ?_
            exact hrec _ _ _ _ h
          · rw [if_neg c5659] at h
            refine zw_iconst (v := (0 : Int32)) hX dL_law_5662 (by decide) ?_
            cases h
      · rw [if_neg c5643] at h
        refine zw_iconst (v := (0 : Int32)) hX dL_law_5646 (by decide) ?_
        cases h
    · intro _ _ hx
      exact hx.elim
  · rw [if_neg hb5626] at h
    cases h

