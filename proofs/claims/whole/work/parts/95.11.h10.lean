/-! ===== functions of methods, by program (wip/whole/tools/gen11.py) ===== -/


set_option maxHeartbeats 4000000 in
set_option maxRecDepth 100000 in
theorem zt_L_law_J5667 {p : Program} {l : Launch} {e : Env} {s : State} {m : MethodId} {zb : Nat} {below : List Frame} {meth : Method} {c : Code} {V : zm_V} {d : Nat} {nm : String} (hlt : l.stackTraces = false) (hV : V.2.2.2.1 = s.heap.size) (hX : zm_X p room_1 s m #[Value.ref zb] meth c RL nm cL_law 8 zk_E V 601024 7293034) (hr : meth.sig.returnType = ret) (hR : d ≤ room_1.frames ∧ 64 * d ≤ room_1.locals) (hd : 46 ≤ d) {N : Nat} {k : Nat → Nat → Nat → Nat → Int32 → Nat → Nat → zm_S → Option ((Int32 × zm_S) ⊕ ((Unit) × zm_S))} {rc rs : Nat} {a0 : Nat} {a1 : Nat} {a2 : Nat} {a3 : Nat} {i4 : Int32} {res : (Int32 × zm_S) ⊕ ((Unit) × zm_S)} {out : (Int32 × zm_S)}   (hf : ∀ o, res = .inl o → o = out) (hk : ∀ (S' : zm_S) (rc rs : Nat), res = .inr ((), S') → zw p l e room_1 s m #[Value.ref zb] below meth c (lw_Z below #[Value.ref zb] s) 8 zk_E V 601024 7293034 6008 [] [] S' rc rs) (hrec : ∀ (i4' : Int32) (rc rs : Nat) (S : zm_S), k a0 a1 a2 a3 i4' rc rs S = some res → zw p l e room_1 s m #[Value.ref zb] below meth c (lw_Z below #[Value.ref zb] s) 8 zk_E V 601024 7293034 23 [(0, .ref a0), (1, .ref a1), (2, .ref a2), (3, .ref a3), (4, .int i4')] [] S rc rs) {S : zm_S} (h : zf_L_law_J5667 N k a0 a1 a2 a3 i4 rc rs S = some res) : zw p l e room_1 s m #[Value.ref zb] below meth c (lw_Z below #[Value.ref zb] s) 8 zk_E V 601024 7293034 5667 [(0, .ref a0), (1, .ref a1), (2, .ref a2), (3, .ref a3), (4, .int i4)] [] S rc rs := by
  unfold zf_L_law_J5667 at h
  refine zw_aload_n hX dL_law_5667 rfl ?_
  refine zw_aload_n hX dL_law_5668 rfl ?_
  refine zw_iload hX dL_law_5669 rfl ?_
  refine zw_iconst (v := (1 : Int32)) hX dL_law_5671 (by decide) ?_
  refine zw_iadd hX dL_law_5672 ?_
  obtain ⟨v919, g, h⟩ := zb_some h
  refine zw_xi hX dL_law_5673 g ?_
  refine zw_aload_n hX dL_law_5674 rfl ?_
  refine zw_iload hX dL_law_5675 rfl ?_
  refine zw_iconst (v := (2 : Int32)) hX dL_law_5677 (by decide) ?_
  refine zw_iadd hX dL_law_5678 ?_
  obtain ⟨v920, g, h⟩ := zb_some h
  refine zw_xi hX dL_law_5679 g ?_
  refine zw_aload_n hX dL_law_5680 rfl ?_
  by_cases hb5681 : 2 ≤ rc ∧ 12 ≤ rs
  · rw [if_pos hb5681] at h
    obtain ⟨r923, g, h⟩ := zb_some h
    refine zc_SH (as := [.ref a1, .int v919, .int v920, .ref a3]) hX (zt_L_given hlt (d := d - 1) (by omega) g) zl_L_523 dL_law_5681 ⟨rfl, rfl, Nat.le_of_ble_eq_true rfl⟩ ⟨by omega, by omega⟩ hb5681 ?_ ?_
    · rintro _ _ ⟨rfl, rfl⟩
      refine zw_istore hX dL_law_5684 (by decide) ?_
      refine zw_aload_n hX dL_law_5686 rfl ?_
      refine zw_aload_n hX dL_law_5687 rfl ?_
      refine zw_iload hX dL_law_5688 rfl ?_
      refine zw_iconst (v := (1 : Int32)) hX dL_law_5690 (by decide) ?_
      refine zw_iadd hX dL_law_5691 ?_
      obtain ⟨v924, g, h⟩ := zb_some h
      refine zw_xi hX dL_law_5692 g ?_
      refine zw_aload_n hX dL_law_5693 rfl ?_
      refine zw_iload hX dL_law_5694 rfl ?_
      refine zw_iconst (v := (2 : Int32)) hX dL_law_5696 (by decide) ?_
      refine zw_iadd hX dL_law_5697 ?_
      obtain ⟨v925, g, h⟩ := zb_some h
      refine zw_xi hX dL_law_5698 g ?_
      obtain ⟨_, gi, h⟩ := zb_some h
      obtain ⟨r927, g, h⟩ := zb_some h
      refine zc_Vi (as := [.int v924, .int v925]) hX gi (zt_X18_given (d := d - 1) (by omega) g) zl_L_525 rfl dL_law_5699 ⟨rfl, rfl, Nat.le_of_ble_eq_true rfl⟩ ⟨by omega, by omega⟩ ?_
      refine zw_istore hX dL_law_5702 (by decide) ?_
      refine zw_aload_n hX dL_law_5704 rfl ?_
      obtain ⟨_, gi, h⟩ := zb_some h
      obtain ⟨r929, g, h⟩ := zb_some h
      refine zc_Vi (as := []) hX gi (zt_X18_thrown (d := d - 1) (by omega) g) zl_L_281 rfl dL_law_5705 ⟨rfl, rfl, Nat.le_of_ble_eq_true rfl⟩ ⟨by omega, by omega⟩ ?_
      refine zw_iload hX dL_law_5708 rfl ?_
      refine zw_icmp_eq (tgt := 5715) hX dL_law_5710 (by decide) (fun c5710 => ?_) (fun c5710 => ?_)
      · rw [if_pos c5710] at h
        refine zw_iload hX dL_law_5715 rfl ?_
        refine zw_if_ne (tgt := 5732) hX dL_law_5717 (by decide) (fun c5717 => ?_) (fun c5717 => ?_)
        · rw [if_neg c5717] at h
          refine zw_goto (tgt := 6002) hX dL_law_5732 (by decide) ?_
          refine zw_iinc (v := (i4 + (7 : Int32))) hX dL_law_6002 rfl rfl (by decide) ?_
          refine zw_goto (tgt := 23) hX dL_law_6005 (by decide) ?_
          refine zw_sub (lv' := [(0, .ref a0), (1, .ref a1), (2, .ref a2), (3, .ref a3), (4, .int (i4 + (7 : Int32)))]) (List.forall_mem_cons.mpr ⟨rfl, (List.forall_mem_cons.mpr ⟨rfl, (List.forall_mem_cons.mpr ⟨rfl, (List.forall_mem_cons.mpr ⟨rfl, (List.forall_mem_cons.mpr ⟨rfl, zs_nil⟩)⟩)⟩)⟩)⟩) ?_
          exact hrec _ _ _ _ h
        · rw [if_pos c5717] at h
          refine zw_aload_n hX dL_law_5720 rfl ?_
          refine zw_iconst (v := (0 : Int32)) hX dL_law_5721 (by decide) ?_
          obtain ⟨w930, g, h⟩ := zb_some h
          refine zw_xl hX dL_law_5722 g ?_
          refine zw_iload hX dL_law_5723 rfl ?_
          refine zw_i2l hX dL_law_5725 ?_
          refine zw_lcmp hX dL_law_5726 ?_
          refine zw_if_eq (tgt := 5732) hX dL_law_5727 (by decide) (fun c5727 => ?_) (fun c5727 => ?_)
          · rw [if_pos c5727] at h
            refine zw_goto (tgt := 6002) hX dL_law_5732 (by decide) ?_
            refine zw_iinc (v := (i4 + (7 : Int32))) hX dL_law_6002 rfl rfl (by decide) ?_
            refine zw_goto (tgt := 23) hX dL_law_6005 (by decide) ?_
            refine zw_sub (lv' := [(0, .ref a0), (1, .ref a1), (2, .ref a2), (3, .ref a3), (4, .int (i4 + (7 : Int32)))]) (List.forall_mem_cons.mpr ⟨rfl, (List.forall_mem_cons.mpr ⟨rfl, (List.forall_mem_cons.mpr ⟨rfl, (List.forall_mem_cons.mpr ⟨rfl, (List.forall_mem_cons.mpr ⟨rfl, zs_nil⟩)⟩)⟩)⟩)⟩) ?_
            exact hrec _ _ _ _ h
          · rw [if_neg c5727] at h
            refine zw_iconst (v := (0 : Int32)) hX dL_law_5730 (by decide) ?_
            cases h
      · rw [if_neg c5710] at h
        refine zw_iconst (v := (0 : Int32)) hX dL_law_5713 (by decide) ?_
        cases h
    · intro _ _ hx
      exact hx.elim
  · rw [if_neg hb5681] at h
    cases h
set_option maxHeartbeats 4000000 in
set_option maxRecDepth 100000 in
theorem zt_L_law_J5801 {p : Program} {l : Launch} {e : Env} {s : State} {m : MethodId} {zb : Nat} {below : List Frame} {meth : Method} {c : Code} {V : zm_V} {d : Nat} {nm : String} (hlt : l.stackTraces = false) (hV : V.2.2.2.1 = s.heap.size) (hX : zm_X p room_1 s m #[Value.ref zb] meth c RL nm cL_law 8 zk_E V 601024 7293034) (hr : meth.sig.returnType = ret) (hR : d ≤ room_1.frames ∧ 64 * d ≤ room_1.locals) (hd : 46 ≤ d) {N : Nat} {k : Nat → Nat → Nat → Nat → Int32 → Nat → Nat → zm_S → Option ((Int32 × zm_S) ⊕ ((Unit) × zm_S))} {rc rs : Nat} {a0 : Nat} {a1 : Nat} {a2 : Nat} {a3 : Nat} {i4 : Int32} {t0 : Int64} {t1 : Int64} {res : (Int32 × zm_S) ⊕ ((Unit) × zm_S)} {out : (Int32 × zm_S)}   (hf : ∀ o, res = .inl o → o = out) (hk : ∀ (S' : zm_S) (rc rs : Nat), res = .inr ((), S') → zw p l e room_1 s m #[Value.ref zb] below meth c (lw_Z below #[Value.ref zb] s) 8 zk_E V 601024 7293034 6008 [] [] S' rc rs) (hrec : ∀ (i4' : Int32) (rc rs : Nat) (S : zm_S), k a0 a1 a2 a3 i4' rc rs S = some res → zw p l e room_1 s m #[Value.ref zb] below meth c (lw_Z below #[Value.ref zb] s) 8 zk_E V 601024 7293034 23 [(0, .ref a0), (1, .ref a1), (2, .ref a2), (3, .ref a3), (4, .int i4')] [] S rc rs) {S : zm_S} (h : zf_L_law_J5801 N k a0 a1 a2 a3 i4 t0 t1 rc rs S = some res) : zw p l e room_1 s m #[Value.ref zb] below meth c (lw_Z below #[Value.ref zb] s) 8 zk_E V 601024 7293034 5801 [(0, .ref a0), (1, .ref a1), (2, .ref a2), (3, .ref a3), (4, .int i4)] [.long t1, .long t0] S rc rs := by
  unfold zf_L_law_J5801 at h
  refine zw_lcmp hX dL_law_5801 ?_
  refine zw_if_eq (tgt := 5807) hX dL_law_5802 (by decide) (fun c5802 => ?_) (fun c5802 => ?_)
  · rw [if_pos c5802] at h
    refine zw_goto (tgt := 6002) hX dL_law_5807 (by decide) ?_
    refine zw_iinc (v := (i4 + (7 : Int32))) hX dL_law_6002 rfl rfl (by decide) ?_
    refine zw_goto (tgt := 23) hX dL_law_6005 (by decide) ?_
    refine zw_sub (lv' := [(0, .ref a0), (1, .ref a1), (2, .ref a2), (3, .ref a3), (4, .int (i4 + (7 : Int32)))]) (List.forall_mem_cons.mpr ⟨rfl, (List.forall_mem_cons.mpr ⟨rfl, (List.forall_mem_cons.mpr ⟨rfl, (List.forall_mem_cons.mpr ⟨rfl, (List.forall_mem_cons.mpr ⟨rfl, zs_nil⟩)⟩)⟩)⟩)⟩) ?_
    exact hrec _ _ _ _ h
  · rw [if_neg c5802] at h
    refine zw_iconst (v := (0 : Int32)) hX dL_law_5805 (by decide) ?_
    cases h
set_option maxHeartbeats 4000000 in
set_option maxRecDepth 100000 in
theorem zt_L_law_J5735 {p : Program} {l : Launch} {e : Env} {s : State} {m : MethodId} {zb : Nat} {below : List Frame} {meth : Method} {c : Code} {V : zm_V} {d : Nat} {nm : String} (hlt : l.stackTraces = false) (hV : V.2.2.2.1 = s.heap.size) (hX : zm_X p room_1 s m #[Value.ref zb] meth c RL nm cL_law 8 zk_E V 601024 7293034) (hr : meth.sig.returnType = ret) (hR : d ≤ room_1.frames ∧ 64 * d ≤ room_1.locals) (hd : 46 ≤ d) {N : Nat} {k : Nat → Nat → Nat → Nat → Int32 → Nat → Nat → zm_S → Option ((Int32 × zm_S) ⊕ ((Unit) × zm_S))} {rc rs : Nat} {a0 : Nat} {a1 : Nat} {a2 : Nat} {a3 : Nat} {i4 : Int32} {res : (Int32 × zm_S) ⊕ ((Unit) × zm_S)} {out : (Int32 × zm_S)}   (hf : ∀ o, res = .inl o → o = out) (hk : ∀ (S' : zm_S) (rc rs : Nat), res = .inr ((), S') → zw p l e room_1 s m #[Value.ref zb] below meth c (lw_Z below #[Value.ref zb] s) 8 zk_E V 601024 7293034 6008 [] [] S' rc rs) (hrec : ∀ (i4' : Int32) (rc rs : Nat) (S : zm_S), k a0 a1 a2 a3 i4' rc rs S = some res → zw p l e room_1 s m #[Value.ref zb] below meth c (lw_Z below #[Value.ref zb] s) 8 zk_E V 601024 7293034 23 [(0, .ref a0), (1, .ref a1), (2, .ref a2), (3, .ref a3), (4, .int i4')] [] S rc rs) {S : zm_S} (h : zf_L_law_J5735 N k a0 a1 a2 a3 i4 rc rs S = some res) : zw p l e room_1 s m #[Value.ref zb] below meth c (lw_Z below #[Value.ref zb] s) 8 zk_E V 601024 7293034 5735 [(0, .ref a0), (1, .ref a1), (2, .ref a2), (3, .ref a3), (4, .int i4)] [] S rc rs := by
  unfold zf_L_law_J5735 at h
  refine zw_aload_n hX dL_law_5735 rfl ?_
  refine zw_aload_n hX dL_law_5736 rfl ?_
  refine zw_iload hX dL_law_5737 rfl ?_
  refine zw_iconst (v := (1 : Int32)) hX dL_law_5739 (by decide) ?_
  refine zw_iadd hX dL_law_5740 ?_
  obtain ⟨v931, g, h⟩ := zb_some h
  refine zw_xi hX dL_law_5741 g ?_
  refine zw_aload_n hX dL_law_5742 rfl ?_
  refine zw_iload hX dL_law_5743 rfl ?_
  refine zw_iconst (v := (2 : Int32)) hX dL_law_5745 (by decide) ?_
  refine zw_iadd hX dL_law_5746 ?_
  obtain ⟨v932, g, h⟩ := zb_some h
  refine zw_xi hX dL_law_5747 g ?_
  refine zw_aload_n hX dL_law_5748 rfl ?_
  by_cases hb5749 : 2 ≤ rc ∧ 12 ≤ rs
  · rw [if_pos hb5749] at h
    obtain ⟨r935, g, h⟩ := zb_some h
    refine zc_SH (as := [.ref a1, .int v931, .int v932, .ref a3]) hX (zt_L_fire hlt (d := d - 1) (by omega) g) zl_L_526 dL_law_5749 ⟨rfl, rfl, Nat.le_of_ble_eq_true rfl⟩ ⟨by omega, by omega⟩ hb5749 ?_ ?_
    · rintro _ _ ⟨rfl, rfl⟩
      refine zw_istore hX dL_law_5752 (by decide) ?_
      refine zw_aload_n hX dL_law_5754 rfl ?_
      refine zw_aload_n hX dL_law_5755 rfl ?_
      refine zw_iload hX dL_law_5756 rfl ?_
      refine zw_iconst (v := (1 : Int32)) hX dL_law_5758 (by decide) ?_
      refine zw_iadd hX dL_law_5759 ?_
      obtain ⟨v936, g, h⟩ := zb_some h
      refine zw_xi hX dL_law_5760 g ?_
      refine zw_aload_n hX dL_law_5761 rfl ?_
      refine zw_iload hX dL_law_5762 rfl ?_
      refine zw_iconst (v := (2 : Int32)) hX dL_law_5764 (by decide) ?_
      refine zw_iadd hX dL_law_5765 ?_
      obtain ⟨v937, g, h⟩ := zb_some h
      refine zw_xi hX dL_law_5766 g ?_
      obtain ⟨_, gi, h⟩ := zb_some h
      obtain ⟨r939, g, h⟩ := zb_some h
      refine zc_Vi (as := [.int v936, .int v937]) hX gi (zt_X18_fire (d := d - 1) (by omega) g) zl_L_528 rfl dL_law_5767 ⟨rfl, rfl, Nat.le_of_ble_eq_true rfl⟩ ⟨by omega, by omega⟩ ?_
      refine zw_istore hX dL_law_5770 (by decide) ?_
      refine zw_aload_n hX dL_law_5772 rfl ?_
      obtain ⟨_, gi, h⟩ := zb_some h
      obtain ⟨r941, g, h⟩ := zb_some h
      refine zc_Vi (as := []) hX gi (zt_X18_thrown (d := d - 1) (by omega) g) zl_L_281 rfl dL_law_5773 ⟨rfl, rfl, Nat.le_of_ble_eq_true rfl⟩ ⟨by omega, by omega⟩ ?_
      refine zw_iload hX dL_law_5776 rfl ?_
      refine zw_icmp_eq (tgt := 5783) hX dL_law_5778 (by decide) (fun c5778 => ?_) (fun c5778 => ?_)
      · rw [if_pos c5778] at h
        refine zw_iload hX dL_law_5783 rfl ?_
        refine zw_if_ne (tgt := 5807) hX dL_law_5785 (by decide) (fun c5785 => ?_) (fun c5785 => ?_)
        · rw [if_neg c5785] at h
          refine zw_goto (tgt := 6002) hX dL_law_5807 (by decide) ?_
          refine zw_iinc (v := (i4 + (7 : Int32))) hX dL_law_6002 rfl rfl (by decide) ?_
          refine zw_goto (tgt := 23) hX dL_law_6005 (by decide) ?_
          refine zw_sub (lv' := [(0, .ref a0), (1, .ref a1), (2, .ref a2), (3, .ref a3), (4, .int (i4 + (7 : Int32)))]) (List.forall_mem_cons.mpr ⟨rfl, (List.forall_mem_cons.mpr ⟨rfl, (List.forall_mem_cons.mpr ⟨rfl, (List.forall_mem_cons.mpr ⟨rfl, (List.forall_mem_cons.mpr ⟨rfl, zs_nil⟩)⟩)⟩)⟩)⟩) ?_
          exact hrec _ _ _ _ h
        · rw [if_pos c5785] at h
          refine zw_aload_n hX dL_law_5788 rfl ?_
          refine zw_iconst (v := (0 : Int32)) hX dL_law_5789 (by decide) ?_
          obtain ⟨w942, g, h⟩ := zb_some h
          refine zw_xl hX dL_law_5790 g ?_
          refine zw_iload hX dL_law_5791 rfl ?_
          refine zw_if_eq (tgt := 5800) hX dL_law_5793 (by decide) (fun c5793 => ?_) (fun c5793 => ?_)
          · rw [if_pos c5793] at h
            refine zw_lconst (v := (0 : Int64)) hX dL_law_5800 (by decide) ?_
            refine zw_sub (lv' := [(0, .ref a0), (1, .ref a1), (2, .ref a2), (3, .ref a3), (4, .int i4)]) (List.forall_mem_cons.mpr ⟨rfl, (List.forall_mem_cons.mpr ⟨rfl, (List.forall_mem_cons.mpr ⟨rfl, (List.forall_mem_cons.mpr ⟨rfl, (List.forall_mem_cons.mpr ⟨rfl, zs_nil⟩)⟩)⟩)⟩)⟩) ?_
            exact zt_L_law_J5801 hlt hV hX hr hR hd hf hk hrec h
          · rw [if_neg c5793] at h
            refine zw_lconst (v := (1 : Int64)) hX dL_law_5796 (by decide) ?_
            refine zw_goto (tgt := 5801) hX dL_law_5797 (by decide) ?_
            refine zw_sub (lv' := [(0, .ref a0), (1, .ref a1), (2, .ref a2), (3, .ref a3), (4, .int i4)]) (List.forall_mem_cons.mpr ⟨rfl, (List.forall_mem_cons.mpr ⟨rfl, (List.forall_mem_cons.mpr ⟨rfl, (List.forall_mem_cons.mpr ⟨rfl, (List.forall_mem_cons.mpr ⟨rfl, zs_nil⟩)⟩)⟩)⟩)⟩) ?_
            exact zt_L_law_J5801 hlt hV hX hr hR hd hf hk hrec h
      · rw [if_neg c5778] at h
        refine zw_iconst (v := (0 : Int32)) hX dL_law_5781 (by decide) ?_
        cases h
    · intro _ _ hx
      exact hx.elim
  · rw [if_neg hb5749] at h
    cases h
set_option maxHeartbeats 4000000 in
set_option maxRecDepth 100000 in
theorem zt_L_law_J5810 {p : Program} {l : Launch} {e : Env} {s : State} {m : MethodId} {zb : Nat} {below : List Frame} {meth : Method} {c : Code} {V : zm_V} {d : Nat} {nm : String} (hlt : l.stackTraces = false) (hV : V.2.2.2.1 = s.heap.size) (hX : zm_X p room_1 s m #[Value.ref zb] meth c RL nm cL_law 8 zk_E V 601024 7293034) (hr : meth.sig.returnType = ret) (hR : d ≤ room_1.frames ∧ 64 * d ≤ room_1.locals) (hd : 46 ≤ d) {N : Nat} {k : Nat → Nat → Nat → Nat → Int32 → Nat → Nat → zm_S → Option ((Int32 × zm_S) ⊕ ((Unit) × zm_S))} {rc rs : Nat} {a0 : Nat} {a1 : Nat} {a2 : Nat} {a3 : Nat} {i4 : Int32} {res : (Int32 × zm_S) ⊕ ((Unit) × zm_S)} {out : (Int32 × zm_S)}   (hf : ∀ o, res = .inl o → o = out) (hk : ∀ (S' : zm_S) (rc rs : Nat), res = .inr ((), S') → zw p l e room_1 s m #[Value.ref zb] below meth c (lw_Z below #[Value.ref zb] s) 8 zk_E V 601024 7293034 6008 [] [] S' rc rs) (hrec : ∀ (i4' : Int32) (rc rs : Nat) (S : zm_S), k a0 a1 a2 a3 i4' rc rs S = some res → zw p l e room_1 s m #[Value.ref zb] below meth c (lw_Z below #[Value.ref zb] s) 8 zk_E V 601024 7293034 23 [(0, .ref a0), (1, .ref a1), (2, .ref a2), (3, .ref a3), (4, .int i4')] [] S rc rs) {S : zm_S} (h : zf_L_law_J5810 N k a0 a1 a2 a3 i4 rc rs S = some res) : zw p l e room_1 s m #[Value.ref zb] below meth c (lw_Z below #[Value.ref zb] s) 8 zk_E V 601024 7293034 5810 [(0, .ref a0), (1, .ref a1), (2, .ref a2), (3, .ref a3), (4, .int i4)] [] S rc rs := by
  unfold zf_L_law_J5810 at h
  refine zw_aload_n hX dL_law_5810 rfl ?_
  refine zw_aload_n hX dL_law_5811 rfl ?_
  refine zw_iload hX dL_law_5812 rfl ?_
  refine zw_iconst (v := (1 : Int32)) hX dL_law_5814 (by decide) ?_
  refine zw_iadd hX dL_law_5815 ?_
  obtain ⟨v943, g, h⟩ := zb_some h
  refine zw_xi hX dL_law_5816 g ?_
  refine zw_aload_n hX dL_law_5817 rfl ?_
  refine zw_iload hX dL_law_5818 rfl ?_
  refine zw_iconst (v := (2 : Int32)) hX dL_law_5820 (by decide) ?_
  refine zw_iadd hX dL_law_5821 ?_
  obtain ⟨v944, g, h⟩ := zb_some h
  refine zw_xi hX dL_law_5822 g ?_
  refine zw_aload_n hX dL_law_5823 rfl ?_
  refine zw_iload hX dL_law_5824 rfl ?_
  refine zw_iconst (v := (3 : Int32)) hX dL_law_5826 (by decide) ?_
  refine zw_iadd hX dL_law_5827 ?_
  obtain ⟨v945, g, h⟩ := zb_some h
  refine zw_xi hX dL_law_5828 g ?_
  refine zw_aload_n hX dL_law_5829 rfl ?_
  by_cases hb5830 : 2 ≤ rc ∧ 12 ≤ rs
  · rw [if_pos hb5830] at h
    obtain ⟨r948, g, h⟩ := zb_some h
    refine zc_SH (as := [.ref a1, .int v943, .int v944, .int v945, .ref a3]) hX (zt_L_cell hlt (d := d - 1) (by omega) g) zl_L_529 dL_law_5830 ⟨rfl, rfl, Nat.le_of_ble_eq_true rfl⟩ ⟨by omega, by omega⟩ hb5830 ?_ ?_
    · rintro _ _ ⟨rfl, rfl⟩
      refine zw_istore hX dL_law_5833 (by decide) ?_
      refine zw_aload_n hX dL_law_5835 rfl ?_
      refine zw_aload_n hX dL_law_5836 rfl ?_
      refine zw_iload hX dL_law_5837 rfl ?_
      refine zw_iconst (v := (1 : Int32)) hX dL_law_5839 (by decide) ?_
      refine zw_iadd hX dL_law_5840 ?_
      obtain ⟨v949, g, h⟩ := zb_some h
      refine zw_xi hX dL_law_5841 g ?_
      refine zw_aload_n hX dL_law_5842 rfl ?_
      refine zw_iload hX dL_law_5843 rfl ?_
      refine zw_iconst (v := (2 : Int32)) hX dL_law_5845 (by decide) ?_
      refine zw_iadd hX dL_law_5846 ?_
      obtain ⟨v950, g, h⟩ := zb_some h
      refine zw_xi hX dL_law_5847 g ?_
      refine zw_aload_n hX dL_law_5848 rfl ?_
      refine zw_iload hX dL_law_5849 rfl ?_
      refine zw_iconst (v := (3 : Int32)) hX dL_law_5851 (by decide) ?_
      refine zw_iadd hX dL_law_5852 ?_
      obtain ⟨v951, g, h⟩ := zb_some h
      refine zw_xi hX dL_law_5853 g ?_
      obtain ⟨_, gi, h⟩ := zb_some h
      obtain ⟨r953, g, h⟩ := zb_some h
      refine zc_Vi (as := [.int v949, .int v950, .int v951]) hX gi (zt_X18_cell (d := d - 1) (by omega) g) zl_L_531 rfl dL_law_5854 ⟨rfl, rfl, Nat.le_of_ble_eq_true rfl⟩ ⟨by omega, by omega⟩ ?_
      refine zw_istore hX dL_law_5857 (by decide) ?_
      refine zw_aload_n hX dL_law_5859 rfl ?_
      obtain ⟨_, gi, h⟩ := zb_some h
      obtain ⟨r955, g, h⟩ := zb_some h
      refine zc_Vi (as := []) hX gi (zt_X18_thrown (d := d - 1) (by omega) g) zl_L_281 rfl dL_law_5860 ⟨rfl, rfl, Nat.le_of_ble_eq_true rfl⟩ ⟨by omega, by omega⟩ ?_
      refine zw_iload hX dL_law_5863 rfl ?_
      refine zw_icmp_eq (tgt := 5870) hX dL_law_5865 (by decide) (fun c5865 => ?_) (fun c5865 => ?_)
      · rw [if_pos c5865] at h
        refine zw_iload hX dL_law_5870 rfl ?_
        refine zw_if_ne (tgt := 5887) hX dL_law_5872 (by decide) (fun c5872 => ?_) (fun c5872 => ?_)
        · rw [if_neg c5872] at h
          refine zw_goto (tgt := 6002) hX dL_law_5887 (by decide) ?_
          refine zw_iinc (v := (i4 + (7 : Int32))) hX dL_law_6002 rfl rfl (by decide) ?_
          refine zw_goto (tgt := 23) hX dL_law_6005 (by decide) ?_
          refine zw_sub (lv' := [(0, .ref a0), (1, .ref a1), (2, .ref a2), (3, .ref a3), (4, .int (i4 + (7 : Int32)))]) (List.forall_mem_cons.mpr ⟨rfl, (List.forall_mem_cons.mpr ⟨rfl, (List.forall_mem_cons.mpr ⟨rfl, (List.forall_mem_cons.mpr ⟨rfl, (List.forall_mem_cons.mpr ⟨rfl, zs_nil⟩)⟩)⟩)⟩)⟩) ?_
          exact hrec _ _ _ _ h
        · rw [if_pos c5872] at h
          refine zw_aload_n hX dL_law_5875 rfl ?_
          refine zw_iconst (v := (0 : Int32)) hX dL_law_5876 (by decide) ?_
          obtain ⟨w956, g, h⟩ := zb_some h
          refine zw_xl hX dL_law_5877 g ?_
          refine zw_iload hX dL_law_5878 rfl ?_
          refine zw_i2l hX dL_law_5880 ?_
          refine zw_lcmp hX dL_law_5881 ?_
          refine zw_if_eq (tgt := 5887) hX dL_law_5882 (by decide) (fun c5882 => ?_) (fun c5882 => ?_)
          · rw [if_pos c5882] at h
            refine zw_goto (tgt := 6002) hX dL_law_5887 (by decide) ?_
            refine zw_iinc (v := (i4 + (7 : Int32))) hX dL_law_6002 rfl rfl (by decide) ?_
            refine zw_goto (tgt := 23) hX dL_law_6005 (by decide) ?_
            refine zw_sub (lv' := [(0, .ref a0), (1, .ref a1), (2, .ref a2), (3, .ref a3), (4, .int (i4 + (7 : Int32)))]) (List.forall_mem_cons.mpr ⟨rfl, (List.forall_mem_cons.mpr ⟨rfl, (List.forall_mem_cons.mpr ⟨rfl, (List.forall_mem_cons.mpr ⟨rfl, (List.forall_mem_cons.mpr ⟨rfl, zs_nil⟩)⟩)⟩)⟩)⟩) ?_
            exact hrec _ _ _ _ h
          · rw [if_neg c5882] at h
            refine zw_iconst (v := (0 : Int32)) hX dL_law_5885 (by decide) ?_
            cases h
      · rw [if_neg c5865] at h
        refine zw_iconst (v := (0 : Int32)) hX dL_law_5868 (by decide) ?_
        cases h
    · intro _ _ hx
      exact hx.elim
  · rw [if_neg hb5830] at h
    cases h
set_option maxHeartbeats 4000000 in
set_option maxRecDepth 100000 in
theorem zt_L_law_J5890 {p : Program} {l : Launch} {e : Env} {s : State} {m : MethodId} {zb : Nat} {below : List Frame} {meth : Method} {c : Code} {V : zm_V} {d : Nat} {nm : String} (hlt : l.stackTraces = false) (hV : V.2.2.2.1 = s.heap.size) (hX : zm_X p room_1 s m #[Value.ref zb] meth c RL nm cL_law 8 zk_E V 601024 7293034) (hr : meth.sig.returnType = ret) (hR : d ≤ room_1.frames ∧ 64 * d ≤ room_1.locals) (hd : 46 ≤ d) {N : Nat} {k : Nat → Nat → Nat → Nat → Int32 → Nat → Nat → zm_S → Option ((Int32 × zm_S) ⊕ ((Unit) × zm_S))} {rc rs : Nat} {a0 : Nat} {a1 : Nat} {a2 : Nat} {a3 : Nat} {i4 : Int32} {res : (Int32 × zm_S) ⊕ ((Unit) × zm_S)} {out : (Int32 × zm_S)}   (hf : ∀ o, res = .inl o → o = out) (hk : ∀ (S' : zm_S) (rc rs : Nat), res = .inr ((), S') → zw p l e room_1 s m #[Value.ref zb] below meth c (lw_Z below #[Value.ref zb] s) 8 zk_E V 601024 7293034 6008 [] [] S' rc rs) (hrec : ∀ (i4' : Int32) (rc rs : Nat) (S : zm_S), k a0 a1 a2 a3 i4' rc rs S = some res → zw p l e room_1 s m #[Value.ref zb] below meth c (lw_Z below #[Value.ref zb] s) 8 zk_E V 601024 7293034 23 [(0, .ref a0), (1, .ref a1), (2, .ref a2), (3, .ref a3), (4, .int i4')] [] S rc rs) {S : zm_S} (h : zf_L_law_J5890 N k a0 a1 a2 a3 i4 rc rs S = some res) : zw p l e room_1 s m #[Value.ref zb] below meth c (lw_Z below #[Value.ref zb] s) 8 zk_E V 601024 7293034 5890 [(0, .ref a0), (1, .ref a1), (2, .ref a2), (3, .ref a3), (4, .int i4)] [] S rc rs := by
  unfold zf_L_law_J5890 at h
  refine zw_aload_n hX dL_law_5890 rfl ?_
  refine zw_aload_n hX dL_law_5891 rfl ?_
  refine zw_iload hX dL_law_5892 rfl ?_
  refine zw_iconst (v := (1 : Int32)) hX dL_law_5894 (by decide) ?_
  refine zw_iadd hX dL_law_5895 ?_
  obtain ⟨v957, g, h⟩ := zb_some h
  refine zw_xi hX dL_law_5896 g ?_
  refine zw_aload_n hX dL_law_5897 rfl ?_
  by_cases hb5898 : 2 ≤ rc ∧ 12 ≤ rs
  · rw [if_pos hb5898] at h
    obtain ⟨r960, g, h⟩ := zb_some h
    refine zc_SH (as := [.ref a1, .int v957, .ref a3]) hX (zt_L_pass hlt (d := d - 1) (by omega) g) zl_L_532 dL_law_5898 ⟨rfl, rfl, Nat.le_of_ble_eq_true rfl⟩ ⟨by omega, by omega⟩ hb5898 ?_ ?_
    · rintro _ _ ⟨rfl, rfl⟩
      refine zw_istore hX dL_law_5901 (by decide) ?_
      refine zw_aload_n hX dL_law_5903 rfl ?_
      refine zw_aload_n hX dL_law_5904 rfl ?_
      refine zw_iload hX dL_law_5905 rfl ?_
      refine zw_iconst (v := (1 : Int32)) hX dL_law_5907 (by decide) ?_
      refine zw_iadd hX dL_law_5908 ?_
      obtain ⟨v961, g, h⟩ := zb_some h
      refine zw_xi hX dL_law_5909 g ?_
      obtain ⟨_, gi, h⟩ := zb_some h
      obtain ⟨r963, g, h⟩ := zb_some h
      refine zc_Vi (as := [.int v961]) hX gi (zt_X18_pass (d := d - 1) (by omega) g) zl_L_534 rfl dL_law_5910 ⟨rfl, rfl, Nat.le_of_ble_eq_true rfl⟩ ⟨by omega, by omega⟩ ?_
      refine zw_istore hX dL_law_5913 (by decide) ?_
      refine zw_aload_n hX dL_law_5915 rfl ?_
      obtain ⟨_, gi, h⟩ := zb_some h
      obtain ⟨r965, g, h⟩ := zb_some h
      refine zc_Vi (as := []) hX gi (zt_X18_thrown (d := d - 1) (by omega) g) zl_L_281 rfl dL_law_5916 ⟨rfl, rfl, Nat.le_of_ble_eq_true rfl⟩ ⟨by omega, by omega⟩ ?_
      refine zw_iload hX dL_law_5919 rfl ?_
      refine zw_icmp_eq (tgt := 5926) hX dL_law_5921 (by decide) (fun c5921 => ?_) (fun c5921 => ?_)
      · rw [if_pos c5921] at h
        refine zw_iload hX dL_law_5926 rfl ?_
        refine zw_if_ne (tgt := 5943) hX dL_law_5928 (by decide) (fun c5928 => ?_) (fun c5928 => ?_)
        · rw [if_neg c5928] at h
          refine zw_goto (tgt := 6002) hX dL_law_5943 (by decide) ?_
          refine zw_iinc (v := (i4 + (7 : Int32))) hX dL_law_6002 rfl rfl (by decide) ?_
          refine zw_goto (tgt := 23) hX dL_law_6005 (by decide) ?_
          refine zw_sub (lv' := [(0, .ref a0), (1, .ref a1), (2, .ref a2), (3, .ref a3), (4, .int (i4 + (7 : Int32)))]) (List.forall_mem_cons.mpr ⟨rfl, (List.forall_mem_cons.mpr ⟨rfl, (List.forall_mem_cons.mpr ⟨rfl, (List.forall_mem_cons.mpr ⟨rfl, (List.forall_mem_cons.mpr ⟨rfl, zs_nil⟩)⟩)⟩)⟩)⟩) ?_
          exact hrec _ _ _ _ h
        · rw [if_pos c5928] at h
          refine zw_aload_n hX dL_law_5931 rfl ?_
          refine zw_iconst (v := (0 : Int32)) hX dL_law_5932 (by decide) ?_
          obtain ⟨w966, g, h⟩ := zb_some h
          refine zw_xl hX dL_law_5933 g ?_
          refine zw_iload hX dL_law_5934 rfl ?_
          refine zw_i2l hX dL_law_5936 ?_
          refine zw_lcmp hX dL_law_5937 ?_
          refine zw_if_eq (tgt := 5943) hX dL_law_5938 (by decide) (fun c5938 => ?_) (fun c5938 => ?_)
          · rw [if_pos c5938] at h
            refine zw_goto (tgt := 6002) hX dL_law_5943 (by decide) ?_
            refine zw_iinc (v := (i4 + (7 : Int32))) hX dL_law_6002 rfl rfl (by decide) ?_
            refine zw_goto (tgt := 23) hX dL_law_6005 (by decide) ?_
            refine zw_sub (lv' := [(0, .ref a0), (1, .ref a1), (2, .ref a2), (3, .ref a3), (4, .int (i4 + (7 : Int32)))]) (List.forall_mem_cons.mpr ⟨rfl, (List.forall_mem_cons.mpr ⟨rfl, (List.forall_mem_cons.mpr ⟨rfl, (List.forall_mem_cons.mpr ⟨rfl, (List.forall_mem_cons.mpr ⟨rfl, zs_nil⟩)⟩)⟩)⟩)⟩) ?_
            exact hrec _ _ _ _ h
          · rw [if_neg c5938] at h
            refine zw_iconst (v := (0 : Int32)) hX dL_law_5941 (by decide) ?_
            cases h
      · rw [if_neg c5921] at h
        refine zw_iconst (v := (0 : Int32)) hX dL_law_5924 (by decide) ?_
        cases h
    · intro _ _ hx
      exact hx.elim
  · rw [if_neg hb5898] at h
    cases h
set_option maxHeartbeats 4000000 in
set_option maxRecDepth 100000 in
theorem zt_L_law_J5946 {p : Program} {l : Launch} {e : Env} {s : State} {m : MethodId} {zb : Nat} {below : List Frame} {meth : Method} {c : Code} {V : zm_V} {d : Nat} {nm : String} (hlt : l.stackTraces = false) (hV : V.2.2.2.1 = s.heap.size) (hX : zm_X p room_1 s m #[Value.ref zb] meth c RL nm cL_law 8 zk_E V 601024 7293034) (hr : meth.sig.returnType = ret) (hR : d ≤ room_1.frames ∧ 64 * d ≤ room_1.locals) (hd : 46 ≤ d) {N : Nat} {k : Nat → Nat → Nat → Nat → Int32 → Nat → Nat → zm_S → Option ((Int32 × zm_S) ⊕ ((Unit) × zm_S))} {rc rs : Nat} {a0 : Nat} {a1 : Nat} {a2 : Nat} {a3 : Nat} {i4 : Int32} {res : (Int32 × zm_S) ⊕ ((Unit) × zm_S)} {out : (Int32 × zm_S)}   (hf : ∀ o, res = .inl o → o = out) (hk : ∀ (S' : zm_S) (rc rs : Nat), res = .inr ((), S') → zw p l e room_1 s m #[Value.ref zb] below meth c (lw_Z below #[Value.ref zb] s) 8 zk_E V 601024 7293034 6008 [] [] S' rc rs) (hrec : ∀ (i4' : Int32) (rc rs : Nat) (S : zm_S), k a0 a1 a2 a3 i4' rc rs S = some res → zw p l e room_1 s m #[Value.ref zb] below meth c (lw_Z below #[Value.ref zb] s) 8 zk_E V 601024 7293034 23 [(0, .ref a0), (1, .ref a1), (2, .ref a2), (3, .ref a3), (4, .int i4')] [] S rc rs) {S : zm_S} (h : zf_L_law_J5946 N k a0 a1 a2 a3 i4 rc rs S = some res) : zw p l e room_1 s m #[Value.ref zb] below meth c (lw_Z below #[Value.ref zb] s) 8 zk_E V 601024 7293034 5946 [(0, .ref a0), (1, .ref a1), (2, .ref a2), (3, .ref a3), (4, .int i4)] [] S rc rs := by
  unfold zf_L_law_J5946 at h
  refine zw_aload_n hX dL_law_5946 rfl ?_
  refine zw_aload_n hX dL_law_5947 rfl ?_
  refine zw_iload hX dL_law_5948 rfl ?_
  refine zw_iconst (v := (1 : Int32)) hX dL_law_5950 (by decide) ?_
  refine zw_iadd hX dL_law_5951 ?_
  obtain ⟨v967, g, h⟩ := zb_some h
  refine zw_xi hX dL_law_5952 g ?_
  refine zw_aload_n hX dL_law_5953 rfl ?_
  by_cases hb5954 : 2 ≤ rc ∧ 12 ≤ rs
  · rw [if_pos hb5954] at h
    obtain ⟨r970, g, h⟩ := zb_some h
    refine zc_SH (as := [.ref a1, .int v967, .ref a3]) hX (zt_L_told hlt (d := d - 1) (by omega) g) zl_L_535 dL_law_5954 ⟨rfl, rfl, Nat.le_of_ble_eq_true rfl⟩ ⟨by omega, by omega⟩ hb5954 ?_ ?_
    · rintro _ _ ⟨rfl, rfl⟩
      refine zw_istore hX dL_law_5957 (by decide) ?_
      refine zw_aload_n hX dL_law_5959 rfl ?_
      refine zw_aload_n hX dL_law_5960 rfl ?_
      refine zw_iload hX dL_law_5961 rfl ?_
      refine zw_iconst (v := (1 : Int32)) hX dL_law_5963 (by decide) ?_
      refine zw_iadd hX dL_law_5964 ?_
      obtain ⟨v971, g, h⟩ := zb_some h
      refine zw_xi hX dL_law_5965 g ?_
      obtain ⟨_, gi, h⟩ := zb_some h
      obtain ⟨r973, g, h⟩ := zb_some h
      refine zc_Vi (as := [.int v971]) hX gi (zt_X18_told (d := d - 1) (by omega) g) zl_L_537 rfl dL_law_5966 ⟨rfl, rfl, Nat.le_of_ble_eq_true rfl⟩ ⟨by omega, by omega⟩ ?_
      refine zw_istore hX dL_law_5969 (by decide) ?_
      refine zw_aload_n hX dL_law_5971 rfl ?_
      obtain ⟨_, gi, h⟩ := zb_some h
      obtain ⟨r975, g, h⟩ := zb_some h
      refine zc_Vi (as := []) hX gi (zt_X18_thrown (d := d - 1) (by omega) g) zl_L_281 rfl dL_law_5972 ⟨rfl, rfl, Nat.le_of_ble_eq_true rfl⟩ ⟨by omega, by omega⟩ ?_
      refine zw_iload hX dL_law_5975 rfl ?_
      refine zw_icmp_eq (tgt := 5982) hX dL_law_5977 (by decide) (fun c5977 => ?_) (fun c5977 => ?_)
      · rw [if_pos c5977] at h
        refine zw_iload hX dL_law_5982 rfl ?_
        refine zw_if_ne (tgt := 5999) hX dL_law_5984 (by decide) (fun c5984 => ?_) (fun c5984 => ?_)
        · rw [if_neg c5984] at h
          refine zw_goto (tgt := 6002) hX dL_law_5999 (by decide) ?_
          refine zw_iinc (v := (i4 + (7 : Int32))) hX dL_law_6002 rfl rfl (by decide) ?_
          refine zw_goto (tgt := 23) hX dL_law_6005 (by decide) ?_
          refine zw_sub (lv' := [(0, .ref a0), (1, .ref a1), (2, .ref a2), (3, .ref a3), (4, .int (i4 + (7 : Int32)))]) (List.forall_mem_cons.mpr ⟨rfl, (List.forall_mem_cons.mpr ⟨rfl, (List.forall_mem_cons.mpr ⟨rfl, (List.forall_mem_cons.mpr ⟨rfl, (List.forall_mem_cons.mpr ⟨rfl, zs_nil⟩)⟩)⟩)⟩)⟩) ?_
          exact hrec _ _ _ _ h
        · rw [if_pos c5984] at h
          refine zw_aload_n hX dL_law_5987 rfl ?_
          refine zw_iconst (v := (0 : Int32)) hX dL_law_5988 (by decide) ?_
          obtain ⟨w976, g, h⟩ := zb_some h
          refine zw_xl hX dL_law_5989 g ?_
          refine zw_iload hX dL_law_5990 rfl ?_
          refine zw_i2l hX dL_law_5992 ?_
          refine zw_lcmp hX dL_law_5993 ?_
          refine zw_if_eq (tgt := 5999) hX dL_law_5994 (by decide) (fun c5994 => ?_) (fun c5994 => ?_)
          · rw [if_pos c5994] at h
            refine zw_goto (tgt := 6002) hX dL_law_5999 (by decide) ?_
            refine zw_iinc (v := (i4 + (7 : Int32))) hX dL_law_6002 rfl rfl (by decide) ?_
            refine zw_goto (tgt := 23) hX dL_law_6005 (by decide) ?_
            refine zw_sub (lv' := [(0, .ref a0), (1, .ref a1), (2, .ref a2), (3, .ref a3), (4, .int (i4 + (7 : Int32)))]) (List.forall_mem_cons.mpr ⟨rfl, (List.forall_mem_cons.mpr ⟨rfl, (List.forall_mem_cons.mpr ⟨rfl, (List.forall_mem_cons.mpr ⟨rfl, (List.forall_mem_cons.mpr ⟨rfl, zs_nil⟩)⟩)⟩)⟩)⟩) ?_
            exact hrec _ _ _ _ h
          · rw [if_neg c5994] at h
            refine zw_iconst (v := (0 : Int32)) hX dL_law_5997 (by decide) ?_
            cases h
      · rw [if_neg c5977] at h
        refine zw_iconst (v := (0 : Int32)) hX dL_law_5980 (by decide) ?_
        cases h
    · intro _ _ hx
      exact hx.elim
  · rw [if_neg hb5954] at h
    cases h
set_option maxHeartbeats 4000000 in
set_option maxRecDepth 100000 in
theorem zt_L_law_L23 {p : Program} {l : Launch} {e : Env} {s : State} {m : MethodId} {zb : Nat} {below : List Frame} {meth : Method} {c : Code} {V : zm_V} {d : Nat} {nm : String} (hlt : l.stackTraces = false) (hV : V.2.2.2.1 = s.heap.size) (hX : zm_X p room_1 s m #[Value.ref zb] meth c RL nm cL_law 8 zk_E V 601024 7293034) (hr : meth.sig.returnType = ret) (hR : d ≤ room_1.frames ∧ 64 * d ≤ room_1.locals) (hd : 46 ≤ d) {N : Nat} {res : (Int32 × zm_S) ⊕ ((Unit) × zm_S)} {out : (Int32 × zm_S)} (a0 : Nat) (a1 : Nat) (a2 : Nat) (a3 : Nat) (hf : ∀ o, res = .inl o → o = out) (hk : ∀ (S' : zm_S) (rc rs : Nat), res = .inr ((), S') → zw p l e room_1 s m #[Value.ref zb] below meth c (lw_Z below #[Value.ref zb] s) 8 zk_E V 601024 7293034 6008 [] [] S' rc rs) : ∀ (n : Nat) (i4 : Int32) (rc rs : Nat) (S : zm_S), zf_L_law_L23 N n a0 a1 a2 a3 i4 rc rs S = some res → zw p l e room_1 s m #[Value.ref zb] below meth c (lw_Z below #[Value.ref zb] s) 8 zk_E V 601024 7293034 23 [(0, .ref a0), (1, .ref a1), (2, .ref a2), (3, .ref a3), (4, .int i4)] [] S rc rs := by
  intro n
  induction n with
  | zero => intro i4 rc rs S h; cases h
  | succ n ih =>
    intro i4 rc rs S h
    rw [zf_L_law_L23] at h
    refine zw_iload hX dL_law_23 rfl ?_
    refine zw_aload_n hX dL_law_25 rfl ?_
    obtain ⟨v10, g, h⟩ := zb_some h
    refine zw_len hX dL_law_26 g ?_
    refine zw_bipush (v := (7 : Int32)) hX dL_law_27 (by decide) ?_
    refine zw_isub hX dL_law_29 ?_
    refine zw_icmp_gt (tgt := 6008) hX dL_law_30 (by decide) (fun c30 => ?_) (fun c30 => ?_)
    · rw [if_pos c30] at h
      refine zw_sub (lv' := []) zs_nil ?_
      exact hk  _ _ _ (Option.some.inj h).symm
    · rw [if_neg c30] at h
      refine zw_aload_n hX dL_law_33 rfl ?_
      refine zw_iload hX dL_law_34 rfl ?_
      obtain ⟨v11, g, h⟩ := zb_some h
      refine zw_xi hX dL_law_36 g ?_
      refine zw_bipush (v := (127 : Int32)) hX dL_law_37 (by decide) ?_
      refine zw_iand hX dL_law_39 ?_
      by_cases c40_0 : ((v11 &&& (127 : Int32))).toInt = 0
      · rw [if_pos c40_0] at h
        refine zw_tableIn (off := 336) (tgt := 376) hX dL_law_40 (by rw [c40_0]; decide) (by rw [c40_0]; decide) (by rw [c40_0]; decide) (by decide) ?_
        refine zw_sub (lv' := [(0, .ref a0), (1, .ref a1), (2, .ref a2), (3, .ref a3), (4, .int i4)]) (List.forall_mem_cons.mpr ⟨rfl, (List.forall_mem_cons.mpr ⟨rfl, (List.forall_mem_cons.mpr ⟨rfl, (List.forall_mem_cons.mpr ⟨rfl, (List.forall_mem_cons.mpr ⟨rfl, zs_nil⟩)⟩)⟩)⟩)⟩) ?_
        exact zt_L_law_J376 hlt hV hX hr hR hd hf hk ih h
      rw [if_neg c40_0] at h
      by_cases c40_1 : ((v11 &&& (127 : Int32))).toInt = 1
      · rw [if_pos c40_1] at h
        refine zw_tableIn (off := 428) (tgt := 468) hX dL_law_40 (by rw [c40_1]; decide) (by rw [c40_1]; decide) (by rw [c40_1]; decide) (by decide) ?_
        refine zw_sub (lv' := [(0, .ref a0), (1, .ref a1), (2, .ref a2), (3, .ref a3), (4, .int i4)]) (List.forall_mem_cons.mpr ⟨rfl, (List.forall_mem_cons.mpr ⟨rfl, (List.forall_mem_cons.mpr ⟨rfl, (List.forall_mem_cons.mpr ⟨rfl, (List.forall_mem_cons.mpr ⟨rfl, zs_nil⟩)⟩)⟩)⟩)⟩) ?_
        exact zt_L_law_J468 hlt hV hX hr hR hd hf hk ih h
      rw [if_neg c40_1] at h
      by_cases c40_2 : ((v11 &&& (127 : Int32))).toInt = 2
      · rw [if_pos c40_2] at h
        refine zw_tableIn (off := 515) (tgt := 555) hX dL_law_40 (by rw [c40_2]; decide) (by rw [c40_2]; decide) (by rw [c40_2]; decide) (by decide) ?_
        refine zw_sub (lv' := [(0, .ref a0), (1, .ref a1), (2, .ref a2), (3, .ref a3), (4, .int i4)]) (List.forall_mem_cons.mpr ⟨rfl, (List.forall_mem_cons.mpr ⟨rfl, (List.forall_mem_cons.mpr ⟨rfl, (List.forall_mem_cons.mpr ⟨rfl, (List.forall_mem_cons.mpr ⟨rfl, zs_nil⟩)⟩)⟩)⟩)⟩) ?_
        exact zt_L_law_J555 hlt hV hX hr hR hd hf hk ih h
      rw [if_neg c40_2] at h
      by_cases c40_3 : ((v11 &&& (127 : Int32))).toInt = 3
      · rw [if_pos c40_3] at h
        refine zw_tableIn (off := 607) (tgt := 647) hX dL_law_40 (by rw [c40_3]; decide) (by rw [c40_3]; decide) (by rw [c40_3]; decide) (by decide) ?_
        refine zw_sub (lv' := [(0, .ref a0), (1, .ref a1), (2, .ref a2), (3, .ref a3), (4, .int i4)]) (List.forall_mem_cons.mpr ⟨rfl, (List.forall_mem_cons.mpr ⟨rfl, (List.forall_mem_cons.mpr ⟨rfl, (List.forall_mem_cons.mpr ⟨rfl, (List.forall_mem_cons.mpr ⟨rfl, zs_nil⟩)⟩)⟩)⟩)⟩) ?_
        exact zt_L_law_J647 hlt hV hX hr hR hd hf hk ih h
      rw [if_neg c40_3] at h
      by_cases c40_4 : ((v11 &&& (127 : Int32))).toInt = 4
      · rw [if_pos c40_4] at h
        refine zw_tableIn (off := 651) (tgt := 691) hX dL_law_40 (by rw [c40_4]; decide) (by rw [c40_4]; decide) (by rw [c40_4]; decide) (by decide) ?_
        refine zw_sub (lv' := [(0, .ref a0), (1, .ref a1), (2, .ref a2), (3, .ref a3), (4, .int i4)]) (List.forall_mem_cons.mpr ⟨rfl, (List.forall_mem_cons.mpr ⟨rfl, (List.forall_mem_cons.mpr ⟨rfl, (List.forall_mem_cons.mpr ⟨rfl, (List.forall_mem_cons.mpr ⟨rfl, zs_nil⟩)⟩)⟩)⟩)⟩) ?_
        exact zt_L_law_J691 hlt hV hX hr hR hd hf hk ih h
      rw [if_neg c40_4] at h
      by_cases c40_5 : ((v11 &&& (127 : Int32))).toInt = 5
      · rw [if_pos c40_5] at h
        refine zw_tableIn (off := 707) (tgt := 747) hX dL_law_40 (by rw [c40_5]; decide) (by rw [c40_5]; decide) (by rw [c40_5]; decide) (by decide) ?_
        refine zw_sub (lv' := [(0, .ref a0), (1, .ref a1), (2, .ref a2), (3, .ref a3), (4, .int i4)]) (List.forall_mem_cons.mpr ⟨rfl, (List.forall_mem_cons.mpr ⟨rfl, (List.forall_mem_cons.mpr ⟨rfl, (List.forall_mem_cons.mpr ⟨rfl, (List.forall_mem_cons.mpr ⟨rfl, zs_nil⟩)⟩)⟩)⟩)⟩) ?_
        exact zt_L_law_J747 hlt hV hX hr hR hd hf hk ih h
      rw [if_neg c40_5] at h
      by_cases c40_6 : ((v11 &&& (127 : Int32))).toInt = 6
      · rw [if_pos c40_6] at h
        refine zw_tableIn (off := 775) (tgt := 815) hX dL_law_40 (by rw [c40_6]; decide) (by rw [c40_6]; decide) (by rw [c40_6]; decide) (by decide) ?_
        refine zw_sub (lv' := [(0, .ref a0), (1, .ref a1), (2, .ref a2), (3, .ref a3), (4, .int i4)]) (List.forall_mem_cons.mpr ⟨rfl, (List.forall_mem_cons.mpr ⟨rfl, (List.forall_mem_cons.mpr ⟨rfl, (List.forall_mem_cons.mpr ⟨rfl, (List.forall_mem_cons.mpr ⟨rfl, zs_nil⟩)⟩)⟩)⟩)⟩) ?_
        exact zt_L_law_J815 hlt hV hX hr hR hd hf hk ih h
      rw [if_neg c40_6] at h
      by_cases c40_7 : ((v11 &&& (127 : Int32))).toInt = 7
      · rw [if_pos c40_7] at h
        refine zw_tableIn (off := 867) (tgt := 907) hX dL_law_40 (by rw [c40_7]; decide) (by rw [c40_7]; decide) (by rw [c40_7]; decide) (by decide) ?_
        refine zw_sub (lv' := [(0, .ref a0), (1, .ref a1), (2, .ref a2), (3, .ref a3), (4, .int i4)]) (List.forall_mem_cons.mpr ⟨rfl, (List.forall_mem_cons.mpr ⟨rfl, (List.forall_mem_cons.mpr ⟨rfl, (List.forall_mem_cons.mpr ⟨rfl, (List.forall_mem_cons.mpr ⟨rfl, zs_nil⟩)⟩)⟩)⟩)⟩) ?_
        exact zt_L_law_J907 hlt hV hX hr hR hd hf hk ih h
      rw [if_neg c40_7] at h
      by_cases c40_8 : ((v11 &&& (127 : Int32))).toInt = 8
      · rw [if_pos c40_8] at h
        refine zw_tableIn (off := 935) (tgt := 975) hX dL_law_40 (by rw [c40_8]; decide) (by rw [c40_8]; decide) (by rw [c40_8]; decide) (by decide) ?_
        refine zw_sub (lv' := [(0, .ref a0), (1, .ref a1), (2, .ref a2), (3, .ref a3), (4, .int i4)]) (List.forall_mem_cons.mpr ⟨rfl, (List.forall_mem_cons.mpr ⟨rfl, (List.forall_mem_cons.mpr ⟨rfl, (List.forall_mem_cons.mpr ⟨rfl, (List.forall_mem_cons.mpr ⟨rfl, zs_nil⟩)⟩)⟩)⟩)⟩) ?_
        exact zt_L_law_J975 hlt hV hX hr hR hd hf hk ih h
      rw [if_neg c40_8] at h
      by_cases c40_9 : ((v11 &&& (127 : Int32))).toInt = 9
      · rw [if_pos c40_9] at h
        refine zw_tableIn (off := 1003) (tgt := 1043) hX dL_law_40 (by rw [c40_9]; decide) (by rw [c40_9]; decide) (by rw [c40_9]; decide) (by decide) ?_
        refine zw_sub (lv' := [(0, .ref a0), (1, .ref a1), (2, .ref a2), (3, .ref a3), (4, .int i4)]) (List.forall_mem_cons.mpr ⟨rfl, (List.forall_mem_cons.mpr ⟨rfl, (List.forall_mem_cons.mpr ⟨rfl, (List.forall_mem_cons.mpr ⟨rfl, (List.forall_mem_cons.mpr ⟨rfl, zs_nil⟩)⟩)⟩)⟩)⟩) ?_
        exact zt_L_law_J1043 hlt hV hX hr hR hd hf hk ih h
      rw [if_neg c40_9] at h
      by_cases c40_10 : ((v11 &&& (127 : Int32))).toInt = 10
      · rw [if_pos c40_10] at h
        refine zw_tableIn (off := 1071) (tgt := 1111) hX dL_law_40 (by rw [c40_10]; decide) (by rw [c40_10]; decide) (by rw [c40_10]; decide) (by decide) ?_
        refine zw_sub (lv' := [(0, .ref a0), (1, .ref a1), (2, .ref a2), (3, .ref a3), (4, .int i4)]) (List.forall_mem_cons.mpr ⟨rfl, (List.forall_mem_cons.mpr ⟨rfl, (List.forall_mem_cons.mpr ⟨rfl, (List.forall_mem_cons.mpr ⟨rfl, (List.forall_mem_cons.mpr ⟨rfl, zs_nil⟩)⟩)⟩)⟩)⟩) ?_
        exact zt_L_law_J1111 hlt hV hX hr hR hd hf hk ih h
      rw [if_neg c40_10] at h
      by_cases c40_11 : ((v11 &&& (127 : Int32))).toInt = 11
      · rw [if_pos c40_11] at h
        refine zw_tableIn (off := 1139) (tgt := 1179) hX dL_law_40 (by rw [c40_11]; decide) (by rw [c40_11]; decide) (by rw [c40_11]; decide) (by decide) ?_
        refine zw_sub (lv' := [(0, .ref a0), (1, .ref a1), (2, .ref a2), (3, .ref a3), (4, .int i4)]) (List.forall_mem_cons.mpr ⟨rfl, (List.forall_mem_cons.mpr ⟨rfl, (List.forall_mem_cons.mpr ⟨rfl, (List.forall_mem_cons.mpr ⟨rfl, (List.forall_mem_cons.mpr ⟨rfl, zs_nil⟩)⟩)⟩)⟩)⟩) ?_
        exact zt_L_law_J1179 hlt hV hX hr hR hd hf hk ih h
      rw [if_neg c40_11] at h
      by_cases c40_12 : ((v11 &&& (127 : Int32))).toInt = 12
      · rw [if_pos c40_12] at h
        refine zw_tableIn (off := 1207) (tgt := 1247) hX dL_law_40 (by rw [c40_12]; decide) (by rw [c40_12]; decide) (by rw [c40_12]; decide) (by decide) ?_
        refine zw_sub (lv' := [(0, .ref a0), (1, .ref a1), (2, .ref a2), (3, .ref a3), (4, .int i4)]) (List.forall_mem_cons.mpr ⟨rfl, (List.forall_mem_cons.mpr ⟨rfl, (List.forall_mem_cons.mpr ⟨rfl, (List.forall_mem_cons.mpr ⟨rfl, (List.forall_mem_cons.mpr ⟨rfl, zs_nil⟩)⟩)⟩)⟩)⟩) ?_
        exact zt_L_law_J1247 hlt hV hX hr hR hd hf hk ih h
      rw [if_neg c40_12] at h
      by_cases c40_13 : ((v11 &&& (127 : Int32))).toInt = 13
      · rw [if_pos c40_13] at h
        refine zw_tableIn (off := 1263) (tgt := 1303) hX dL_law_40 (by rw [c40_13]; decide) (by rw [c40_13]; decide) (by rw [c40_13]; decide) (by decide) ?_
        refine zw_sub (lv' := [(0, .ref a0), (1, .ref a1), (2, .ref a2), (3, .ref a3), (4, .int i4)]) (List.forall_mem_cons.mpr ⟨rfl, (List.forall_mem_cons.mpr ⟨rfl, (List.forall_mem_cons.mpr ⟨rfl, (List.forall_mem_cons.mpr ⟨rfl, (List.forall_mem_cons.mpr ⟨rfl, zs_nil⟩)⟩)⟩)⟩)⟩) ?_
        exact zt_L_law_J1303 hlt hV hX hr hR hd hf hk ih h
      rw [if_neg c40_13] at h
      by_cases c40_14 : ((v11 &&& (127 : Int32))).toInt = 14
      · rw [if_pos c40_14] at h
        refine zw_tableIn (off := 1351) (tgt := 1391) hX dL_law_40 (by rw [c40_14]; decide) (by rw [c40_14]; decide) (by rw [c40_14]; decide) (by decide) ?_
        refine zw_sub (lv' := [(0, .ref a0), (1, .ref a1), (2, .ref a2), (3, .ref a3), (4, .int i4)]) (List.forall_mem_cons.mpr ⟨rfl, (List.forall_mem_cons.mpr ⟨rfl, (List.forall_mem_cons.mpr ⟨rfl, (List.forall_mem_cons.mpr ⟨rfl, (List.forall_mem_cons.mpr ⟨rfl, zs_nil⟩)⟩)⟩)⟩)⟩) ?_
        exact zt_L_law_J1391 hlt hV hX hr hR hd hf hk ih h
      rw [if_neg c40_14] at h
      by_cases c40_15 : ((v11 &&& (127 : Int32))).toInt = 15
      · rw [if_pos c40_15] at h
        refine zw_tableIn (off := 1407) (tgt := 1447) hX dL_law_40 (by rw [c40_15]; decide) (by rw [c40_15]; decide) (by rw [c40_15]; decide) (by decide) ?_
        refine zw_sub (lv' := [(0, .ref a0), (1, .ref a1), (2, .ref a2), (3, .ref a3), (4, .int i4)]) (List.forall_mem_cons.mpr ⟨rfl, (List.forall_mem_cons.mpr ⟨rfl, (List.forall_mem_cons.mpr ⟨rfl, (List.forall_mem_cons.mpr ⟨rfl, (List.forall_mem_cons.mpr ⟨rfl, zs_nil⟩)⟩)⟩)⟩)⟩) ?_
        exact zt_L_law_J1447 hlt hV hX hr hR hd hf hk ih h
      rw [if_neg c40_15] at h
      by_cases c40_16 : ((v11 &&& (127 : Int32))).toInt = 16
      · rw [if_pos c40_16] at h
        refine zw_tableIn (off := 1420) (tgt := 1460) hX dL_law_40 (by rw [c40_16]; decide) (by rw [c40_16]; decide) (by rw [c40_16]; decide) (by decide) ?_
        refine zw_sub (lv' := [(0, .ref a0), (1, .ref a1), (2, .ref a2), (3, .ref a3), (4, .int i4)]) (List.forall_mem_cons.mpr ⟨rfl, (List.forall_mem_cons.mpr ⟨rfl, (List.forall_mem_cons.mpr ⟨rfl, (List.forall_mem_cons.mpr ⟨rfl, (List.forall_mem_cons.mpr ⟨rfl, zs_nil⟩)⟩)⟩)⟩)⟩) ?_
        exact zt_L_law_J1460 hlt hV hX hr hR hd hf hk ih h
      rw [if_neg c40_16] at h
      by_cases c40_17 : ((v11 &&& (127 : Int32))).toInt = 17
      · rw [if_pos c40_17] at h
        refine zw_tableIn (off := 1519) (tgt := 1559) hX dL_law_40 (by rw [c40_17]; decide) (by rw [c40_17]; decide) (by rw [c40_17]; decide) (by decide) ?_
        refine zw_sub (lv' := [(0, .ref a0), (1, .ref a1), (2, .ref a2), (3, .ref a3), (4, .int i4)]) (List.forall_mem_cons.mpr ⟨rfl, (List.forall_mem_cons.mpr ⟨rfl, (List.forall_mem_cons.mpr ⟨rfl, (List.forall_mem_cons.mpr ⟨rfl, (List.forall_mem_cons.mpr ⟨rfl, zs_nil⟩)⟩)⟩)⟩)⟩) ?_
        exact zt_L_law_J1559 hlt hV hX hr hR hd hf hk ih h
      rw [if_neg c40_17] at h
      by_cases c40_18 : ((v11 &&& (127 : Int32))).toInt = 18
      · rw [if_pos c40_18] at h
        refine zw_tableIn (off := 1631) (tgt := 1671) hX dL_law_40 (by rw [c40_18]; decide) (by rw [c40_18]; decide) (by rw [c40_18]; decide) (by decide) ?_
        refine zw_sub (lv' := [(0, .ref a0), (1, .ref a1), (2, .ref a2), (3, .ref a3), (4, .int i4)]) (List.forall_mem_cons.mpr ⟨rfl, (List.forall_mem_cons.mpr ⟨rfl, (List.forall_mem_cons.mpr ⟨rfl, (List.forall_mem_cons.mpr ⟨rfl, (List.forall_mem_cons.mpr ⟨rfl, zs_nil⟩)⟩)⟩)⟩)⟩) ?_
        exact zt_L_law_J1671 hlt hV hX hr hR hd hf hk ih h
      rw [if_neg c40_18] at h
      by_cases c40_19 : ((v11 &&& (127 : Int32))).toInt = 19
      · rw [if_pos c40_19] at h
        refine zw_tableIn (off := 1687) (tgt := 1727) hX dL_law_40 (by rw [c40_19]; decide) (by rw [c40_19]; decide) (by rw [c40_19]; decide) (by decide) ?_
        refine zw_sub (lv' := [(0, .ref a0), (1, .ref a1), (2, .ref a2), (3, .ref a3), (4, .int i4)]) (List.forall_mem_cons.mpr ⟨rfl, (List.forall_mem_cons.mpr ⟨rfl, (List.forall_mem_cons.mpr ⟨rfl, (List.forall_mem_cons.mpr ⟨rfl, (List.forall_mem_cons.mpr ⟨rfl, zs_nil⟩)⟩)⟩)⟩)⟩) ?_
        exact zt_L_law_J1727 hlt hV hX hr hR hd hf hk ih h
      rw [if_neg c40_19] at h
      by_cases c40_20 : ((v11 &&& (127 : Int32))).toInt = 20
      · rw [if_pos c40_20] at h
        refine zw_tableIn (off := 1754) (tgt := 1794) hX dL_law_40 (by rw [c40_20]; decide) (by rw [c40_20]; decide) (by rw [c40_20]; decide) (by decide) ?_
        refine zw_sub (lv' := [(0, .ref a0), (1, .ref a1), (2, .ref a2), (3, .ref a3), (4, .int i4)]) (List.forall_mem_cons.mpr ⟨rfl, (List.forall_mem_cons.mpr ⟨rfl, (List.forall_mem_cons.mpr ⟨rfl, (List.forall_mem_cons.mpr ⟨rfl, (List.forall_mem_cons.mpr ⟨rfl, zs_nil⟩)⟩)⟩)⟩)⟩) ?_
        exact zt_L_law_J1794 hlt hV hX hr hR hd hf hk ih h
      rw [if_neg c40_20] at h
      by_cases c40_21 : ((v11 &&& (127 : Int32))).toInt = 21
      · rw [if_pos c40_21] at h
        refine zw_tableIn (off := 1810) (tgt := 1850) hX dL_law_40 (by rw [c40_21]; decide) (by rw [c40_21]; decide) (by rw [c40_21]; decide) (by decide) ?_
        refine zw_sub (lv' := [(0, .ref a0), (1, .ref a1), (2, .ref a2), (3, .ref a3), (4, .int i4)]) (List.forall_mem_cons.mpr ⟨rfl, (List.forall_mem_cons.mpr ⟨rfl, (List.forall_mem_cons.mpr ⟨rfl, (List.forall_mem_cons.mpr ⟨rfl, (List.forall_mem_cons.mpr ⟨rfl, zs_nil⟩)⟩)⟩)⟩)⟩) ?_
        exact zt_L_law_J1850 hlt hV hX hr hR hd hf hk ih h
      rw [if_neg c40_21] at h
      by_cases c40_22 : ((v11 &&& (127 : Int32))).toInt = 22
      · rw [if_pos c40_22] at h
        refine zw_tableIn (off := 1878) (tgt := 1918) hX dL_law_40 (by rw [c40_22]; decide) (by rw [c40_22]; decide) (by rw [c40_22]; decide) (by decide) ?_
        refine zw_sub (lv' := [(0, .ref a0), (1, .ref a1), (2, .ref a2), (3, .ref a3), (4, .int i4)]) (List.forall_mem_cons.mpr ⟨rfl, (List.forall_mem_cons.mpr ⟨rfl, (List.forall_mem_cons.mpr ⟨rfl, (List.forall_mem_cons.mpr ⟨rfl, (List.forall_mem_cons.mpr ⟨rfl, zs_nil⟩)⟩)⟩)⟩)⟩) ?_
        exact zt_L_law_J1918 hlt hV hX hr hR hd hf hk ih h
      rw [if_neg c40_22] at h
      by_cases c40_23 : ((v11 &&& (127 : Int32))).toInt = 23
      · rw [if_pos c40_23] at h
        refine zw_tableIn (off := 1946) (tgt := 1986) hX dL_law_40 (by rw [c40_23]; decide) (by rw [c40_23]; decide) (by rw [c40_23]; decide) (by decide) ?_
        refine zw_sub (lv' := [(0, .ref a0), (1, .ref a1), (2, .ref a2), (3, .ref a3), (4, .int i4)]) (List.forall_mem_cons.mpr ⟨rfl, (List.forall_mem_cons.mpr ⟨rfl, (List.forall_mem_cons.mpr ⟨rfl, (List.forall_mem_cons.mpr ⟨rfl, (List.forall_mem_cons.mpr ⟨rfl, zs_nil⟩)⟩)⟩)⟩)⟩) ?_
        exact zt_L_law_J1986 hlt hV hX hr hR hd hf hk ih h
      rw [if_neg c40_23] at h
      by_cases c40_24 : ((v11 &&& (127 : Int32))).toInt = 24
      · rw [if_pos c40_24] at h
        refine zw_tableIn (off := 2014) (tgt := 2054) hX dL_law_40 (by rw [c40_24]; decide) (by rw [c40_24]; decide) (by rw [c40_24]; decide) (by decide) ?_
        refine zw_sub (lv' := [(0, .ref a0), (1, .ref a1), (2, .ref a2), (3, .ref a3), (4, .int i4)]) (List.forall_mem_cons.mpr ⟨rfl, (List.forall_mem_cons.mpr ⟨rfl, (List.forall_mem_cons.mpr ⟨rfl, (List.forall_mem_cons.mpr ⟨rfl, (List.forall_mem_cons.mpr ⟨rfl, zs_nil⟩)⟩)⟩)⟩)⟩) ?_
        exact zt_L_law_J2054 hlt hV hX hr hR hd hf hk ih h
      rw [if_neg c40_24] at h
      by_cases c40_25 : ((v11 &&& (127 : Int32))).toInt = 25
      · rw [if_pos c40_25] at h
        refine zw_tableIn (off := 2118) (tgt := 2158) hX dL_law_40 (by rw [c40_25]; decide) (by rw [c40_25]; decide) (by rw [c40_25]; decide) (by decide) ?_
        refine zw_sub (lv' := [(0, .ref a0), (1, .ref a1), (2, .ref a2), (3, .ref a3), (4, .int i4)]) (List.forall_mem_cons.mpr ⟨rfl, (List.forall_mem_cons.mpr ⟨rfl, (List.forall_mem_cons.mpr ⟨rfl, (List.forall_mem_cons.mpr ⟨rfl, (List.forall_mem_cons.mpr ⟨rfl, zs_nil⟩)⟩)⟩)⟩)⟩) ?_
        exact zt_L_law_J2158 hlt hV hX hr hR hd hf hk ih h
      rw [if_neg c40_25] at h
      by_cases c40_26 : ((v11 &&& (127 : Int32))).toInt = 26
      · rw [if_pos c40_26] at h
        refine zw_tableIn (off := 2186) (tgt := 2226) hX dL_law_40 (by rw [c40_26]; decide) (by rw [c40_26]; decide) (by rw [c40_26]; decide) (by decide) ?_
        refine zw_sub (lv' := [(0, .ref a0), (1, .ref a1), (2, .ref a2), (3, .ref a3), (4, .int i4)]) (List.forall_mem_cons.mpr ⟨rfl, (List.forall_mem_cons.mpr ⟨rfl, (List.forall_mem_cons.mpr ⟨rfl, (List.forall_mem_cons.mpr ⟨rfl, (List.forall_mem_cons.mpr ⟨rfl, zs_nil⟩)⟩)⟩)⟩)⟩) ?_
        exact zt_L_law_J2226 hlt hV hX hr hR hd hf hk ih h
      rw [if_neg c40_26] at h
      by_cases c40_27 : ((v11 &&& (127 : Int32))).toInt = 27
      · rw [if_pos c40_27] at h
        refine zw_tableIn (off := 2254) (tgt := 2294) hX dL_law_40 (by rw [c40_27]; decide) (by rw [c40_27]; decide) (by rw [c40_27]; decide) (by decide) ?_
        refine zw_sub (lv' := [(0, .ref a0), (1, .ref a1), (2, .ref a2), (3, .ref a3), (4, .int i4)]) (List.forall_mem_cons.mpr ⟨rfl, (List.forall_mem_cons.mpr ⟨rfl, (List.forall_mem_cons.mpr ⟨rfl, (List.forall_mem_cons.mpr ⟨rfl, (List.forall_mem_cons.mpr ⟨rfl, zs_nil⟩)⟩)⟩)⟩)⟩) ?_
        exact zt_L_law_J2294 hlt hV hX hr hR hd hf hk ih h
      rw [if_neg c40_27] at h
      by_cases c40_28 : ((v11 &&& (127 : Int32))).toInt = 28
      · rw [if_pos c40_28] at h
        refine zw_tableIn (off := 2345) (tgt := 2385) hX dL_law_40 (by rw [c40_28]; decide) (by rw [c40_28]; decide) (by rw [c40_28]; decide) (by decide) ?_
        refine zw_sub (lv' := [(0, .ref a0), (1, .ref a1), (2, .ref a2), (3, .ref a3), (4, .int i4)]) (List.forall_mem_cons.mpr ⟨rfl, (List.forall_mem_cons.mpr ⟨rfl, (List.forall_mem_cons.mpr ⟨rfl, (List.forall_mem_cons.mpr ⟨rfl, (List.forall_mem_cons.mpr ⟨rfl, zs_nil⟩)⟩)⟩)⟩)⟩) ?_
        exact zt_L_law_J2385 hlt hV hX hr hR hd hf hk ih h
      rw [if_neg c40_28] at h
      by_cases c40_29 : ((v11 &&& (127 : Int32))).toInt = 29
      · rw [if_pos c40_29] at h
        refine zw_tableIn (off := 2448) (tgt := 2488) hX dL_law_40 (by rw [c40_29]; decide) (by rw [c40_29]; decide) (by rw [c40_29]; decide) (by decide) ?_
        refine zw_sub (lv' := [(0, .ref a0), (1, .ref a1), (2, .ref a2), (3, .ref a3), (4, .int i4)]) (List.forall_mem_cons.mpr ⟨rfl, (List.forall_mem_cons.mpr ⟨rfl, (List.forall_mem_cons.mpr ⟨rfl, (List.forall_mem_cons.mpr ⟨rfl, (List.forall_mem_cons.mpr ⟨rfl, zs_nil⟩)⟩)⟩)⟩)⟩) ?_
        exact zt_L_law_J2488 hlt hV hX hr hR hd hf hk ih h
      rw [if_neg c40_29] at h
      by_cases c40_30 : ((v11 &&& (127 : Int32))).toInt = 30
      · rw [if_pos c40_30] at h
        refine zw_tableIn (off := 2532) (tgt := 2572) hX dL_law_40 (by rw [c40_30]; decide) (by rw [c40_30]; decide) (by rw [c40_30]; decide) (by decide) ?_
        refine zw_sub (lv' := [(0, .ref a0), (1, .ref a1), (2, .ref a2), (3, .ref a3), (4, .int i4)]) (List.forall_mem_cons.mpr ⟨rfl, (List.forall_mem_cons.mpr ⟨rfl, (List.forall_mem_cons.mpr ⟨rfl, (List.forall_mem_cons.mpr ⟨rfl, (List.forall_mem_cons.mpr ⟨rfl, zs_nil⟩)⟩)⟩)⟩)⟩) ?_
        exact zt_L_law_J2572 hlt hV hX hr hR hd hf hk ih h
      rw [if_neg c40_30] at h
      by_cases c40_31 : ((v11 &&& (127 : Int32))).toInt = 31
      · rw [if_pos c40_31] at h
        refine zw_tableIn (off := 2616) (tgt := 2656) hX dL_law_40 (by rw [c40_31]; decide) (by rw [c40_31]; decide) (by rw [c40_31]; decide) (by decide) ?_
        refine zw_sub (lv' := [(0, .ref a0), (1, .ref a1), (2, .ref a2), (3, .ref a3), (4, .int i4)]) (List.forall_mem_cons.mpr ⟨rfl, (List.forall_mem_cons.mpr ⟨rfl, (List.forall_mem_cons.mpr ⟨rfl, (List.forall_mem_cons.mpr ⟨rfl, (List.forall_mem_cons.mpr ⟨rfl, zs_nil⟩)⟩)⟩)⟩)⟩) ?_
        exact zt_L_law_J2656 hlt hV hX hr hR hd hf hk ih h
      rw [if_neg c40_31] at h
      by_cases c40_32 : ((v11 &&& (127 : Int32))).toInt = 32
      · rw [if_pos c40_32] at h
        refine zw_tableIn (off := 2696) (tgt := 2736) hX dL_law_40 (by rw [c40_32]; decide) (by rw [c40_32]; decide) (by rw [c40_32]; decide) (by decide) ?_
        refine zw_sub (lv' := [(0, .ref a0), (1, .ref a1), (2, .ref a2), (3, .ref a3), (4, .int i4)]) (List.forall_mem_cons.mpr ⟨rfl, (List.forall_mem_cons.mpr ⟨rfl, (List.forall_mem_cons.mpr ⟨rfl, (List.forall_mem_cons.mpr ⟨rfl, (List.forall_mem_cons.mpr ⟨rfl, zs_nil⟩)⟩)⟩)⟩)⟩) ?_
        exact zt_L_law_J2736 hlt hV hX hr hR hd hf hk ih h
      rw [if_neg c40_32] at h
      by_cases c40_33 : ((v11 &&& (127 : Int32))).toInt = 33
      · rw [if_pos c40_33] at h
        refine zw_tableIn (off := 2788) (tgt := 2828) hX dL_law_40 (by rw [c40_33]; decide) (by rw [c40_33]; decide) (by rw [c40_33]; decide) (by decide) ?_
        refine zw_sub (lv' := [(0, .ref a0), (1, .ref a1), (2, .ref a2), (3, .ref a3), (4, .int i4)]) (List.forall_mem_cons.mpr ⟨rfl, (List.forall_mem_cons.mpr ⟨rfl, (List.forall_mem_cons.mpr ⟨rfl, (List.forall_mem_cons.mpr ⟨rfl, (List.forall_mem_cons.mpr ⟨rfl, zs_nil⟩)⟩)⟩)⟩)⟩) ?_
        exact zt_L_law_J2828 hlt hV hX hr hR hd hf hk ih h
      rw [if_neg c40_33] at h
      by_cases c40_34 : ((v11 &&& (127 : Int32))).toInt = 34
      · rw [if_pos c40_34] at h
        refine zw_tableIn (off := 2856) (tgt := 2896) hX dL_law_40 (by rw [c40_34]; decide) (by rw [c40_34]; decide) (by rw [c40_34]; decide) (by decide) ?_
        refine zw_sub (lv' := [(0, .ref a0), (1, .ref a1), (2, .ref a2), (3, .ref a3), (4, .int i4)]) (List.forall_mem_cons.mpr ⟨rfl, (List.forall_mem_cons.mpr ⟨rfl, (List.forall_mem_cons.mpr ⟨rfl, (List.forall_mem_cons.mpr ⟨rfl, (List.forall_mem_cons.mpr ⟨rfl, zs_nil⟩)⟩)⟩)⟩)⟩) ?_
        exact zt_L_law_J2896 hlt hV hX hr hR hd hf hk ih h
      rw [if_neg c40_34] at h
      by_cases c40_35 : ((v11 &&& (127 : Int32))).toInt = 35
      · rw [if_pos c40_35] at h
        refine zw_tableIn (off := 2912) (tgt := 2952) hX dL_law_40 (by rw [c40_35]; decide) (by rw [c40_35]; decide) (by rw [c40_35]; decide) (by decide) ?_
        refine zw_sub (lv' := [(0, .ref a0), (1, .ref a1), (2, .ref a2), (3, .ref a3), (4, .int i4)]) (List.forall_mem_cons.mpr ⟨rfl, (List.forall_mem_cons.mpr ⟨rfl, (List.forall_mem_cons.mpr ⟨rfl, (List.forall_mem_cons.mpr ⟨rfl, (List.forall_mem_cons.mpr ⟨rfl, zs_nil⟩)⟩)⟩)⟩)⟩) ?_
        exact zt_L_law_J2952 hlt hV hX hr hR hd hf hk ih h
      rw [if_neg c40_35] at h
      by_cases c40_36 : ((v11 &&& (127 : Int32))).toInt = 36
      · rw [if_pos c40_36] at h
        refine zw_tableIn (off := 2980) (tgt := 3020) hX dL_law_40 (by rw [c40_36]; decide) (by rw [c40_36]; decide) (by rw [c40_36]; decide) (by decide) ?_
        refine zw_sub (lv' := [(0, .ref a0), (1, .ref a1), (2, .ref a2), (3, .ref a3), (4, .int i4)]) (List.forall_mem_cons.mpr ⟨rfl, (List.forall_mem_cons.mpr ⟨rfl, (List.forall_mem_cons.mpr ⟨rfl, (List.forall_mem_cons.mpr ⟨rfl, (List.forall_mem_cons.mpr ⟨rfl, zs_nil⟩)⟩)⟩)⟩)⟩) ?_
        exact zt_L_law_J3020 hlt hV hX hr hR hd hf hk ih h
      rw [if_neg c40_36] at h
      by_cases c40_37 : ((v11 &&& (127 : Int32))).toInt = 37
      · rw [if_pos c40_37] at h
        refine zw_tableIn (off := 3036) (tgt := 3076) hX dL_law_40 (by rw [c40_37]; decide) (by rw [c40_37]; decide) (by rw [c40_37]; decide) (by decide) ?_
        refine zw_sub (lv' := [(0, .ref a0), (1, .ref a1), (2, .ref a2), (3, .ref a3), (4, .int i4)]) (List.forall_mem_cons.mpr ⟨rfl, (List.forall_mem_cons.mpr ⟨rfl, (List.forall_mem_cons.mpr ⟨rfl, (List.forall_mem_cons.mpr ⟨rfl, (List.forall_mem_cons.mpr ⟨rfl, zs_nil⟩)⟩)⟩)⟩)⟩) ?_
        exact zt_L_law_J3076 hlt hV hX hr hR hd hf hk ih h
      rw [if_neg c40_37] at h
      by_cases c40_38 : ((v11 &&& (127 : Int32))).toInt = 38
      · rw [if_pos c40_38] at h
        refine zw_tableIn (off := 3140) (tgt := 3180) hX dL_law_40 (by rw [c40_38]; decide) (by rw [c40_38]; decide) (by rw [c40_38]; decide) (by decide) ?_
        refine zw_sub (lv' := [(0, .ref a0), (1, .ref a1), (2, .ref a2), (3, .ref a3), (4, .int i4)]) (List.forall_mem_cons.mpr ⟨rfl, (List.forall_mem_cons.mpr ⟨rfl, (List.forall_mem_cons.mpr ⟨rfl, (List.forall_mem_cons.mpr ⟨rfl, (List.forall_mem_cons.mpr ⟨rfl, zs_nil⟩)⟩)⟩)⟩)⟩) ?_
        exact zt_L_law_J3180 hlt hV hX hr hR hd hf hk ih h
      rw [if_neg c40_38] at h
      by_cases c40_39 : ((v11 &&& (127 : Int32))).toInt = 39
      · rw [if_pos c40_39] at h
        refine zw_tableIn (off := 3196) (tgt := 3236) hX dL_law_40 (by rw [c40_39]; decide) (by rw [c40_39]; decide) (by rw [c40_39]; decide) (by decide) ?_
        refine zw_sub (lv' := [(0, .ref a0), (1, .ref a1), (2, .ref a2), (3, .ref a3), (4, .int i4)]) (List.forall_mem_cons.mpr ⟨rfl, (List.forall_mem_cons.mpr ⟨rfl, (List.forall_mem_cons.mpr ⟨rfl, (List.forall_mem_cons.mpr ⟨rfl, (List.forall_mem_cons.mpr ⟨rfl, zs_nil⟩)⟩)⟩)⟩)⟩) ?_
        exact zt_L_law_J3236 hlt hV hX hr hR hd hf hk ih h
      rw [if_neg c40_39] at h
      by_cases c40_40 : ((v11 &&& (127 : Int32))).toInt = 40
      · rw [if_pos c40_40] at h
        refine zw_tableIn (off := 3240) (tgt := 3280) hX dL_law_40 (by rw [c40_40]; decide) (by rw [c40_40]; decide) (by rw [c40_40]; decide) (by decide) ?_
        refine zw_sub (lv' := [(0, .ref a0), (1, .ref a1), (2, .ref a2), (3, .ref a3), (4, .int i4)]) (List.forall_mem_cons.mpr ⟨rfl, (List.forall_mem_cons.mpr ⟨rfl, (List.forall_mem_cons.mpr ⟨rfl, (List.forall_mem_cons.mpr ⟨rfl, (List.forall_mem_cons.mpr ⟨rfl, zs_nil⟩)⟩)⟩)⟩)⟩) ?_
        exact zt_L_law_J3280 hlt hV hX hr hR hd hf hk ih h
      rw [if_neg c40_40] at h
      by_cases c40_41 : ((v11 &&& (127 : Int32))).toInt = 41
      · rw [if_pos c40_41] at h
        refine zw_tableIn (off := 3308) (tgt := 3348) hX dL_law_40 (by rw [c40_41]; decide) (by rw [c40_41]; decide) (by rw [c40_41]; decide) (by decide) ?_
        refine zw_sub (lv' := [(0, .ref a0), (1, .ref a1), (2, .ref a2), (3, .ref a3), (4, .int i4)]) (List.forall_mem_cons.mpr ⟨rfl, (List.forall_mem_cons.mpr ⟨rfl, (List.forall_mem_cons.mpr ⟨rfl, (List.forall_mem_cons.mpr ⟨rfl, (List.forall_mem_cons.mpr ⟨rfl, zs_nil⟩)⟩)⟩)⟩)⟩) ?_
        exact zt_L_law_J3348 hlt hV hX hr hR hd hf hk ih h
      rw [if_neg c40_41] at h
      by_cases c40_42 : ((v11 &&& (127 : Int32))).toInt = 42
      · rw [if_pos c40_42] at h
        refine zw_tableIn (off := 3399) (tgt := 3439) hX dL_law_40 (by rw [c40_42]; decide) (by rw [c40_42]; decide) (by rw [c40_42]; decide) (by decide) ?_
        refine zw_sub (lv' := [(0, .ref a0), (1, .ref a1), (2, .ref a2), (3, .ref a3), (4, .int i4)]) (List.forall_mem_cons.mpr ⟨rfl, (List.forall_mem_cons.mpr ⟨rfl, (List.forall_mem_cons.mpr ⟨rfl, (List.forall_mem_cons.mpr ⟨rfl, (List.forall_mem_cons.mpr ⟨rfl, zs_nil⟩)⟩)⟩)⟩)⟩) ?_
        exact zt_L_law_J3439 hlt hV hX hr hR hd hf hk ih h
      rw [if_neg c40_42] at h
      by_cases c40_43 : ((v11 &&& (127 : Int32))).toInt = 43
      · rw [if_pos c40_43] at h
        refine zw_tableIn (off := 3467) (tgt := 3507) hX dL_law_40 (by rw [c40_43]; decide) (by rw [c40_43]; decide) (by rw [c40_43]; decide) (by decide) ?_
        refine zw_sub (lv' := [(0, .ref a0), (1, .ref a1), (2, .ref a2), (3, .ref a3), (4, .int i4)]) (List.forall_mem_cons.mpr ⟨rfl, (List.forall_mem_cons.mpr ⟨rfl, (List.forall_mem_cons.mpr ⟨rfl, (List.forall_mem_cons.mpr ⟨rfl, (List.forall_mem_cons.mpr ⟨rfl, zs_nil⟩)⟩)⟩)⟩)⟩) ?_
        exact zt_L_law_J3507 hlt hV hX hr hR hd hf hk ih h
      rw [if_neg c40_43] at h
      by_cases c40_44 : ((v11 &&& (127 : Int32))).toInt = 44
      · rw [if_pos c40_44] at h
        refine zw_tableIn (off := 3523) (tgt := 3563) hX dL_law_40 (by rw [c40_44]; decide) (by rw [c40_44]; decide) (by rw [c40_44]; decide) (by decide) ?_
        refine zw_sub (lv' := [(0, .ref a0), (1, .ref a1), (2, .ref a2), (3, .ref a3), (4, .int i4)]) (List.forall_mem_cons.mpr ⟨rfl, (List.forall_mem_cons.mpr ⟨rfl, (List.forall_mem_cons.mpr ⟨rfl, (List.forall_mem_cons.mpr ⟨rfl, (List.forall_mem_cons.mpr ⟨rfl, zs_nil⟩)⟩)⟩)⟩)⟩) ?_
        exact zt_L_law_J3563 hlt hV hX hr hR hd hf hk ih h
      rw [if_neg c40_44] at h
      by_cases c40_45 : ((v11 &&& (127 : Int32))).toInt = 45
      · rw [if_pos c40_45] at h
        refine zw_tableIn (off := 3567) (tgt := 3607) hX dL_law_40 (by rw [c40_45]; decide) (by rw [c40_45]; decide) (by rw [c40_45]; decide) (by decide) ?_
        refine zw_sub (lv' := [(0, .ref a0), (1, .ref a1), (2, .ref a2), (3, .ref a3), (4, .int i4)]) (List.forall_mem_cons.mpr ⟨rfl, (List.forall_mem_cons.mpr ⟨rfl, (List.forall_mem_cons.mpr ⟨rfl, (List.forall_mem_cons.mpr ⟨rfl, (List.forall_mem_cons.mpr ⟨rfl, zs_nil⟩)⟩)⟩)⟩)⟩) ?_
        exact zt_L_law_J3607 hlt hV hX hr hR hd hf hk ih h
      rw [if_neg c40_45] at h
      by_cases c40_46 : ((v11 &&& (127 : Int32))).toInt = 46
      · rw [if_pos c40_46] at h
        refine zw_tableIn (off := 3635) (tgt := 3675) hX dL_law_40 (by rw [c40_46]; decide) (by rw [c40_46]; decide) (by rw [c40_46]; decide) (by decide) ?_
        refine zw_sub (lv' := [(0, .ref a0), (1, .ref a1), (2, .ref a2), (3, .ref a3), (4, .int i4)]) (List.forall_mem_cons.mpr ⟨rfl, (List.forall_mem_cons.mpr ⟨rfl, (List.forall_mem_cons.mpr ⟨rfl, (List.forall_mem_cons.mpr ⟨rfl, (List.forall_mem_cons.mpr ⟨rfl, zs_nil⟩)⟩)⟩)⟩)⟩) ?_
        exact zt_L_law_J3675 hlt hV hX hr hR hd hf hk ih h
      rw [if_neg c40_46] at h
      by_cases c40_47 : ((v11 &&& (127 : Int32))).toInt = 47
      · rw [if_pos c40_47] at h
        refine zw_tableIn (off := 3703) (tgt := 3743) hX dL_law_40 (by rw [c40_47]; decide) (by rw [c40_47]; decide) (by rw [c40_47]; decide) (by decide) ?_
        refine zw_sub (lv' := [(0, .ref a0), (1, .ref a1), (2, .ref a2), (3, .ref a3), (4, .int i4)]) (List.forall_mem_cons.mpr ⟨rfl, (List.forall_mem_cons.mpr ⟨rfl, (List.forall_mem_cons.mpr ⟨rfl, (List.forall_mem_cons.mpr ⟨rfl, (List.forall_mem_cons.mpr ⟨rfl, zs_nil⟩)⟩)⟩)⟩)⟩) ?_
        exact zt_L_law_J3743 hlt hV hX hr hR hd hf hk ih h
      rw [if_neg c40_47] at h
      by_cases c40_48 : ((v11 &&& (127 : Int32))).toInt = 48
      · rw [if_pos c40_48] at h
        refine zw_tableIn (off := 3771) (tgt := 3811) hX dL_law_40 (by rw [c40_48]; decide) (by rw [c40_48]; decide) (by rw [c40_48]; decide) (by decide) ?_
        refine zw_sub (lv' := [(0, .ref a0), (1, .ref a1), (2, .ref a2), (3, .ref a3), (4, .int i4)]) (List.forall_mem_cons.mpr ⟨rfl, (List.forall_mem_cons.mpr ⟨rfl, (List.forall_mem_cons.mpr ⟨rfl, (List.forall_mem_cons.mpr ⟨rfl, (List.forall_mem_cons.mpr ⟨rfl, zs_nil⟩)⟩)⟩)⟩)⟩) ?_
        exact zt_L_law_J3811 hlt hV hX hr hR hd hf hk ih h
      rw [if_neg c40_48] at h
      by_cases c40_49 : ((v11 &&& (127 : Int32))).toInt = 49
      · rw [if_pos c40_49] at h
        refine zw_tableIn (off := 3827) (tgt := 3867) hX dL_law_40 (by rw [c40_49]; decide) (by rw [c40_49]; decide) (by rw [c40_49]; decide) (by decide) ?_
        refine zw_sub (lv' := [(0, .ref a0), (1, .ref a1), (2, .ref a2), (3, .ref a3), (4, .int i4)]) (List.forall_mem_cons.mpr ⟨rfl, (List.forall_mem_cons.mpr ⟨rfl, (List.forall_mem_cons.mpr ⟨rfl, (List.forall_mem_cons.mpr ⟨rfl, (List.forall_mem_cons.mpr ⟨rfl, zs_nil⟩)⟩)⟩)⟩)⟩) ?_
        exact zt_L_law_J3867 hlt hV hX hr hR hd hf hk ih h
      rw [if_neg c40_49] at h
      by_cases c40_50 : ((v11 &&& (127 : Int32))).toInt = 50
      · rw [if_pos c40_50] at h
        refine zw_tableIn (off := 3907) (tgt := 3947) hX dL_law_40 (by rw [c40_50]; decide) (by rw [c40_50]; decide) (by rw [c40_50]; decide) (by decide) ?_
        refine zw_sub (lv' := [(0, .ref a0), (1, .ref a1), (2, .ref a2), (3, .ref a3), (4, .int i4)]) (List.forall_mem_cons.mpr ⟨rfl, (List.forall_mem_cons.mpr ⟨rfl, (List.forall_mem_cons.mpr ⟨rfl, (List.forall_mem_cons.mpr ⟨rfl, (List.forall_mem_cons.mpr ⟨rfl, zs_nil⟩)⟩)⟩)⟩)⟩) ?_
        exact zt_L_law_J3947 hlt hV hX hr hR hd hf hk ih h
      rw [if_neg c40_50] at h
      by_cases c40_51 : ((v11 &&& (127 : Int32))).toInt = 51
      · rw [if_pos c40_51] at h
        refine zw_tableIn (off := 3967) (tgt := 4007) hX dL_law_40 (by rw [c40_51]; decide) (by rw [c40_51]; decide) (by rw [c40_51]; decide) (by decide) ?_
        refine zw_sub (lv' := [(0, .ref a0), (1, .ref a1), (2, .ref a2), (3, .ref a3), (4, .int i4)]) (List.forall_mem_cons.mpr ⟨rfl, (List.forall_mem_cons.mpr ⟨rfl, (List.forall_mem_cons.mpr ⟨rfl, (List.forall_mem_cons.mpr ⟨rfl, (List.forall_mem_cons.mpr ⟨rfl, zs_nil⟩)⟩)⟩)⟩)⟩) ?_
        exact zt_L_law_J4007 hlt hV hX hr hR hd hf hk ih h
      rw [if_neg c40_51] at h
      by_cases c40_52 : ((v11 &&& (127 : Int32))).toInt = 52
      · rw [if_pos c40_52] at h
        refine zw_tableIn (off := 4047) (tgt := 4087) hX dL_law_40 (by rw [c40_52]; decide) (by rw [c40_52]; decide) (by rw [c40_52]; decide) (by decide) ?_
        refine zw_sub (lv' := [(0, .ref a0), (1, .ref a1), (2, .ref a2), (3, .ref a3), (4, .int i4)]) (List.forall_mem_cons.mpr ⟨rfl, (List.forall_mem_cons.mpr ⟨rfl, (List.forall_mem_cons.mpr ⟨rfl, (List.forall_mem_cons.mpr ⟨rfl, (List.forall_mem_cons.mpr ⟨rfl, zs_nil⟩)⟩)⟩)⟩)⟩) ?_
        exact zt_L_law_J4087 hlt hV hX hr hR hd hf hk ih h
      rw [if_neg c40_52] at h
      by_cases c40_53 : ((v11 &&& (127 : Int32))).toInt = 53
      · rw [if_pos c40_53] at h
        refine zw_tableIn (off := 4115) (tgt := 4155) hX dL_law_40 (by rw [c40_53]; decide) (by rw [c40_53]; decide) (by rw [c40_53]; decide) (by decide) ?_
        refine zw_sub (lv' := [(0, .ref a0), (1, .ref a1), (2, .ref a2), (3, .ref a3), (4, .int i4)]) (List.forall_mem_cons.mpr ⟨rfl, (List.forall_mem_cons.mpr ⟨rfl, (List.forall_mem_cons.mpr ⟨rfl, (List.forall_mem_cons.mpr ⟨rfl, (List.forall_mem_cons.mpr ⟨rfl, zs_nil⟩)⟩)⟩)⟩)⟩) ?_
        exact zt_L_law_J4155 hlt hV hX hr hR hd hf hk ih h
      rw [if_neg c40_53] at h
      by_cases c40_54 : ((v11 &&& (127 : Int32))).toInt = 54
      · rw [if_pos c40_54] at h
        refine zw_tableIn (off := 4218) (tgt := 4258) hX dL_law_40 (by rw [c40_54]; decide) (by rw [c40_54]; decide) (by rw [c40_54]; decide) (by decide) ?_
        refine zw_sub (lv' := [(0, .ref a0), (1, .ref a1), (2, .ref a2), (3, .ref a3), (4, .int i4)]) (List.forall_mem_cons.mpr ⟨rfl, (List.forall_mem_cons.mpr ⟨rfl, (List.forall_mem_cons.mpr ⟨rfl, (List.forall_mem_cons.mpr ⟨rfl, (List.forall_mem_cons.mpr ⟨rfl, zs_nil⟩)⟩)⟩)⟩)⟩) ?_
        exact zt_L_law_J4258 hlt hV hX hr hR hd hf hk ih h
      rw [if_neg c40_54] at h
      by_cases c40_55 : ((v11 &&& (127 : Int32))).toInt = 55
      · rw [if_pos c40_55] at h
        refine zw_tableIn (off := 4286) (tgt := 4326) hX dL_law_40 (by rw [c40_55]; decide) (by rw [c40_55]; decide) (by rw [c40_55]; decide) (by decide) ?_
        refine zw_sub (lv' := [(0, .ref a0), (1, .ref a1), (2, .ref a2), (3, .ref a3), (4, .int i4)]) (List.forall_mem_cons.mpr ⟨rfl, (List.forall_mem_cons.mpr ⟨rfl, (List.forall_mem_cons.mpr ⟨rfl, (List.forall_mem_cons.mpr ⟨rfl, (List.forall_mem_cons.mpr ⟨rfl, zs_nil⟩)⟩)⟩)⟩)⟩) ?_
        exact zt_L_law_J4326 hlt hV hX hr hR hd hf hk ih h
      rw [if_neg c40_55] at h
      by_cases c40_56 : ((v11 &&& (127 : Int32))).toInt = 56
      · rw [if_pos c40_56] at h
        refine zw_tableIn (off := 4354) (tgt := 4394) hX dL_law_40 (by rw [c40_56]; decide) (by rw [c40_56]; decide) (by rw [c40_56]; decide) (by decide) ?_
        refine zw_sub (lv' := [(0, .ref a0), (1, .ref a1), (2, .ref a2), (3, .ref a3), (4, .int i4)]) (List.forall_mem_cons.mpr ⟨rfl, (List.forall_mem_cons.mpr ⟨rfl, (List.forall_mem_cons.mpr ⟨rfl, (List.forall_mem_cons.mpr ⟨rfl, (List.forall_mem_cons.mpr ⟨rfl, zs_nil⟩)⟩)⟩)⟩)⟩) ?_
        exact zt_L_law_J4394 hlt hV hX hr hR hd hf hk ih h
      rw [if_neg c40_56] at h
      by_cases c40_57 : ((v11 &&& (127 : Int32))).toInt = 57
      · rw [if_pos c40_57] at h
        refine zw_tableIn (off := 4410) (tgt := 4450) hX dL_law_40 (by rw [c40_57]; decide) (by rw [c40_57]; decide) (by rw [c40_57]; decide) (by decide) ?_
        refine zw_sub (lv' := [(0, .ref a0), (1, .ref a1), (2, .ref a2), (3, .ref a3), (4, .int i4)]) (List.forall_mem_cons.mpr ⟨rfl, (List.forall_mem_cons.mpr ⟨rfl, (List.forall_mem_cons.mpr ⟨rfl, (List.forall_mem_cons.mpr ⟨rfl, (List.forall_mem_cons.mpr ⟨rfl, zs_nil⟩)⟩)⟩)⟩)⟩) ?_
        exact zt_L_law_J4450 hlt hV hX hr hR hd hf hk ih h
      rw [if_neg c40_57] at h
      by_cases c40_58 : ((v11 &&& (127 : Int32))).toInt = 58
      · rw [if_pos c40_58] at h
        refine zw_tableIn (off := 4454) (tgt := 4494) hX dL_law_40 (by rw [c40_58]; decide) (by rw [c40_58]; decide) (by rw [c40_58]; decide) (by decide) ?_
        refine zw_sub (lv' := [(0, .ref a0), (1, .ref a1), (2, .ref a2), (3, .ref a3), (4, .int i4)]) (List.forall_mem_cons.mpr ⟨rfl, (List.forall_mem_cons.mpr ⟨rfl, (List.forall_mem_cons.mpr ⟨rfl, (List.forall_mem_cons.mpr ⟨rfl, (List.forall_mem_cons.mpr ⟨rfl, zs_nil⟩)⟩)⟩)⟩)⟩) ?_
        exact zt_L_law_J4494 hlt hV hX hr hR hd hf hk ih h
      rw [if_neg c40_58] at h
      by_cases c40_59 : ((v11 &&& (127 : Int32))).toInt = 59
      · rw [if_pos c40_59] at h
        refine zw_tableIn (off := 4522) (tgt := 4562) hX dL_law_40 (by rw [c40_59]; decide) (by rw [c40_59]; decide) (by rw [c40_59]; decide) (by decide) ?_
        refine zw_sub (lv' := [(0, .ref a0), (1, .ref a1), (2, .ref a2), (3, .ref a3), (4, .int i4)]) (List.forall_mem_cons.mpr ⟨rfl, (List.forall_mem_cons.mpr ⟨rfl, (List.forall_mem_cons.mpr ⟨rfl, (List.forall_mem_cons.mpr ⟨rfl, (List.forall_mem_cons.mpr ⟨rfl, zs_nil⟩)⟩)⟩)⟩)⟩) ?_
        exact zt_L_law_J4562 hlt hV hX hr hR hd hf hk ih h
      rw [if_neg c40_59] at h
      by_cases c40_60 : ((v11 &&& (127 : Int32))).toInt = 60
      · rw [if_pos c40_60] at h
        refine zw_tableIn (off := 4578) (tgt := 4618) hX dL_law_40 (by rw [c40_60]; decide) (by rw [c40_60]; decide) (by rw [c40_60]; decide) (by decide) ?_
        refine zw_sub (lv' := [(0, .ref a0), (1, .ref a1), (2, .ref a2), (3, .ref a3), (4, .int i4)]) (List.forall_mem_cons.mpr ⟨rfl, (List.forall_mem_cons.mpr ⟨rfl, (List.forall_mem_cons.mpr ⟨rfl, (List.forall_mem_cons.mpr ⟨rfl, (List.forall_mem_cons.mpr ⟨rfl, zs_nil⟩)⟩)⟩)⟩)⟩) ?_
        exact zt_L_law_J4618 hlt hV hX hr hR hd hf hk ih h
      rw [if_neg c40_60] at h
      by_cases c40_61 : ((v11 &&& (127 : Int32))).toInt = 61
      · rw [if_pos c40_61] at h
        refine zw_tableIn (off := 4646) (tgt := 4686) hX dL_law_40 (by rw [c40_61]; decide) (by rw [c40_61]; decide) (by rw [c40_61]; decide) (by decide) ?_
        refine zw_sub (lv' := [(0, .ref a0), (1, .ref a1), (2, .ref a2), (3, .ref a3), (4, .int i4)]) (List.forall_mem_cons.mpr ⟨rfl, (List.forall_mem_cons.mpr ⟨rfl, (List.forall_mem_cons.mpr ⟨rfl, (List.forall_mem_cons.mpr ⟨rfl, (List.forall_mem_cons.mpr ⟨rfl, zs_nil⟩)⟩)⟩)⟩)⟩) ?_
        exact zt_L_law_J4686 hlt hV hX hr hR hd hf hk ih h
      rw [if_neg c40_61] at h
      by_cases c40_62 : ((v11 &&& (127 : Int32))).toInt = 62
      · rw [if_pos c40_62] at h
        refine zw_tableIn (off := 4749) (tgt := 4789) hX dL_law_40 (by rw [c40_62]; decide) (by rw [c40_62]; decide) (by rw [c40_62]; decide) (by decide) ?_
        refine zw_sub (lv' := [(0, .ref a0), (1, .ref a1), (2, .ref a2), (3, .ref a3), (4, .int i4)]) (List.forall_mem_cons.mpr ⟨rfl, (List.forall_mem_cons.mpr ⟨rfl, (List.forall_mem_cons.mpr ⟨rfl, (List.forall_mem_cons.mpr ⟨rfl, (List.forall_mem_cons.mpr ⟨rfl, zs_nil⟩)⟩)⟩)⟩)⟩) ?_
        exact zt_L_law_J4789 hlt hV hX hr hR hd hf hk ih h
      rw [if_neg c40_62] at h
      by_cases c40_63 : ((v11 &&& (127 : Int32))).toInt = 63
      · rw [if_pos c40_63] at h
        refine zw_tableIn (off := 4840) (tgt := 4880) hX dL_law_40 (by rw [c40_63]; decide) (by rw [c40_63]; decide) (by rw [c40_63]; decide) (by decide) ?_
        refine zw_sub (lv' := [(0, .ref a0), (1, .ref a1), (2, .ref a2), (3, .ref a3), (4, .int i4)]) (List.forall_mem_cons.mpr ⟨rfl, (List.forall_mem_cons.mpr ⟨rfl, (List.forall_mem_cons.mpr ⟨rfl, (List.forall_mem_cons.mpr ⟨rfl, (List.forall_mem_cons.mpr ⟨rfl, zs_nil⟩)⟩)⟩)⟩)⟩) ?_
        exact zt_L_law_J4880 hlt hV hX hr hR hd hf hk ih h
      rw [if_neg c40_63] at h
      by_cases c40_64 : ((v11 &&& (127 : Int32))).toInt = 64
      · rw [if_pos c40_64] at h
        refine zw_tableIn (off := 4974) (tgt := 5014) hX dL_law_40 (by rw [c40_64]; decide) (by rw [c40_64]; decide) (by rw [c40_64]; decide) (by decide) ?_
        refine zw_sub (lv' := [(0, .ref a0), (1, .ref a1), (2, .ref a2), (3, .ref a3), (4, .int i4)]) (List.forall_mem_cons.mpr ⟨rfl, (List.forall_mem_cons.mpr ⟨rfl, (List.forall_mem_cons.mpr ⟨rfl, (List.forall_mem_cons.mpr ⟨rfl, (List.forall_mem_cons.mpr ⟨rfl, zs_nil⟩)⟩)⟩)⟩)⟩) ?_
        exact zt_L_law_J5014 hlt hV hX hr hR hd hf hk ih h
      rw [if_neg c40_64] at h
      by_cases c40_65 : ((v11 &&& (127 : Int32))).toInt = 65
      · rw [if_pos c40_65] at h
        refine zw_tableIn (off := 5037) (tgt := 5077) hX dL_law_40 (by rw [c40_65]; decide) (by rw [c40_65]; decide) (by rw [c40_65]; decide) (by decide) ?_
        refine zw_sub (lv' := [(0, .ref a0), (1, .ref a1), (2, .ref a2), (3, .ref a3), (4, .int i4)]) (List.forall_mem_cons.mpr ⟨rfl, (List.forall_mem_cons.mpr ⟨rfl, (List.forall_mem_cons.mpr ⟨rfl, (List.forall_mem_cons.mpr ⟨rfl, (List.forall_mem_cons.mpr ⟨rfl, zs_nil⟩)⟩)⟩)⟩)⟩) ?_
        exact zt_L_law_J5077 hlt hV hX hr hR hd hf hk ih h
      rw [if_neg c40_65] at h
      by_cases c40_66 : ((v11 &&& (127 : Int32))).toInt = 66
      · rw [if_pos c40_66] at h
        refine zw_tableIn (off := 5105) (tgt := 5145) hX dL_law_40 (by rw [c40_66]; decide) (by rw [c40_66]; decide) (by rw [c40_66]; decide) (by decide) ?_
        refine zw_sub (lv' := [(0, .ref a0), (1, .ref a1), (2, .ref a2), (3, .ref a3), (4, .int i4)]) (List.forall_mem_cons.mpr ⟨rfl, (List.forall_mem_cons.mpr ⟨rfl, (List.forall_mem_cons.mpr ⟨rfl, (List.forall_mem_cons.mpr ⟨rfl, (List.forall_mem_cons.mpr ⟨rfl, zs_nil⟩)⟩)⟩)⟩)⟩) ?_
        exact zt_L_law_J5145 hlt hV hX hr hR hd hf hk ih h
      rw [if_neg c40_66] at h
      by_cases c40_67 : ((v11 &&& (127 : Int32))).toInt = 67
      · rw [if_pos c40_67] at h
        refine zw_tableIn (off := 5161) (tgt := 5201) hX dL_law_40 (by rw [c40_67]; decide) (by rw [c40_67]; decide) (by rw [c40_67]; decide) (by decide) ?_
        refine zw_sub (lv' := [(0, .ref a0), (1, .ref a1), (2, .ref a2), (3, .ref a3), (4, .int i4)]) (List.forall_mem_cons.mpr ⟨rfl, (List.forall_mem_cons.mpr ⟨rfl, (List.forall_mem_cons.mpr ⟨rfl, (List.forall_mem_cons.mpr ⟨rfl, (List.forall_mem_cons.mpr ⟨rfl, zs_nil⟩)⟩)⟩)⟩)⟩) ?_
        exact zt_L_law_J5201 hlt hV hX hr hR hd hf hk ih h
      rw [if_neg c40_67] at h
      by_cases c40_68 : ((v11 &&& (127 : Int32))).toInt = 68
      · rw [if_pos c40_68] at h
        refine zw_tableIn (off := 5217) (tgt := 5257) hX dL_law_40 (by rw [c40_68]; decide) (by rw [c40_68]; decide) (by rw [c40_68]; decide) (by decide) ?_
        refine zw_sub (lv' := [(0, .ref a0), (1, .ref a1), (2, .ref a2), (3, .ref a3), (4, .int i4)]) (List.forall_mem_cons.mpr ⟨rfl, (List.forall_mem_cons.mpr ⟨rfl, (List.forall_mem_cons.mpr ⟨rfl, (List.forall_mem_cons.mpr ⟨rfl, (List.forall_mem_cons.mpr ⟨rfl, zs_nil⟩)⟩)⟩)⟩)⟩) ?_
        exact zt_L_law_J5257 hlt hV hX hr hR hd hf hk ih h
      rw [if_neg c40_68] at h
      by_cases c40_69 : ((v11 &&& (127 : Int32))).toInt = 69
      · rw [if_pos c40_69] at h
        refine zw_tableIn (off := 5285) (tgt := 5325) hX dL_law_40 (by rw [c40_69]; decide) (by rw [c40_69]; decide) (by rw [c40_69]; decide) (by decide) ?_
        refine zw_sub (lv' := [(0, .ref a0), (1, .ref a1), (2, .ref a2), (3, .ref a3), (4, .int i4)]) (List.forall_mem_cons.mpr ⟨rfl, (List.forall_mem_cons.mpr ⟨rfl, (List.forall_mem_cons.mpr ⟨rfl, (List.forall_mem_cons.mpr ⟨rfl, (List.forall_mem_cons.mpr ⟨rfl, zs_nil⟩)⟩)⟩)⟩)⟩) ?_
        exact zt_L_law_J5325 hlt hV hX hr hR hd hf hk ih h
      rw [if_neg c40_69] at h
      by_cases c40_70 : ((v11 &&& (127 : Int32))).toInt = 70
      · rw [if_pos c40_70] at h
        refine zw_tableIn (off := 5345) (tgt := 5385) hX dL_law_40 (by rw [c40_70]; decide) (by rw [c40_70]; decide) (by rw [c40_70]; decide) (by decide) ?_
        refine zw_sub (lv' := [(0, .ref a0), (1, .ref a1), (2, .ref a2), (3, .ref a3), (4, .int i4)]) (List.forall_mem_cons.mpr ⟨rfl, (List.forall_mem_cons.mpr ⟨rfl, (List.forall_mem_cons.mpr ⟨rfl, (List.forall_mem_cons.mpr ⟨rfl, (List.forall_mem_cons.mpr ⟨rfl, zs_nil⟩)⟩)⟩)⟩)⟩) ?_
        exact zt_L_law_J5385 hlt hV hX hr hR hd hf hk ih h
      rw [if_neg c40_70] at h
      by_cases c40_71 : ((v11 &&& (127 : Int32))).toInt = 71
      · rw [if_pos c40_71] at h
        refine zw_tableIn (off := 5405) (tgt := 5445) hX dL_law_40 (by rw [c40_71]; decide) (by rw [c40_71]; decide) (by rw [c40_71]; decide) (by decide) ?_
        refine zw_sub (lv' := [(0, .ref a0), (1, .ref a1), (2, .ref a2), (3, .ref a3), (4, .int i4)]) (List.forall_mem_cons.mpr ⟨rfl, (List.forall_mem_cons.mpr ⟨rfl, (List.forall_mem_cons.mpr ⟨rfl, (List.forall_mem_cons.mpr ⟨rfl, (List.forall_mem_cons.mpr ⟨rfl, zs_nil⟩)⟩)⟩)⟩)⟩) ?_
        exact zt_L_law_J5445 hlt hV hX hr hR hd hf hk ih h
      rw [if_neg c40_71] at h
      by_cases c40_72 : ((v11 &&& (127 : Int32))).toInt = 72
      · rw [if_pos c40_72] at h
        refine zw_tableIn (off := 5473) (tgt := 5513) hX dL_law_40 (by rw [c40_72]; decide) (by rw [c40_72]; decide) (by rw [c40_72]; decide) (by decide) ?_
        refine zw_sub (lv' := [(0, .ref a0), (1, .ref a1), (2, .ref a2), (3, .ref a3), (4, .int i4)]) (List.forall_mem_cons.mpr ⟨rfl, (List.forall_mem_cons.mpr ⟨rfl, (List.forall_mem_cons.mpr ⟨rfl, (List.forall_mem_cons.mpr ⟨rfl, (List.forall_mem_cons.mpr ⟨rfl, zs_nil⟩)⟩)⟩)⟩)⟩) ?_
        exact zt_L_law_J5513 hlt hV hX hr hR hd hf hk ih h
      rw [if_neg c40_72] at h
      by_cases c40_73 : ((v11 &&& (127 : Int32))).toInt = 73
      · rw [if_pos c40_73] at h
        refine zw_tableIn (off := 5548) (tgt := 5588) hX dL_law_40 (by rw [c40_73]; decide) (by rw [c40_73]; decide) (by rw [c40_73]; decide) (by decide) ?_
        refine zw_sub (lv' := [(0, .ref a0), (1, .ref a1), (2, .ref a2), (3, .ref a3), (4, .int i4)]) (List.forall_mem_cons.mpr ⟨rfl, (List.forall_mem_cons.mpr ⟨rfl, (List.forall_mem_cons.mpr ⟨rfl, (List.forall_mem_cons.mpr ⟨rfl, (List.forall_mem_cons.mpr ⟨rfl, zs_nil⟩)⟩)⟩)⟩)⟩) ?_
        exact zt_L_law_J5588 hlt hV hX hr hR hd hf hk ih h
      rw [if_neg c40_73] at h
      by_cases c40_74 : ((v11 &&& (127 : Int32))).toInt = 74
      · rw [if_pos c40_74] at h
        refine zw_tableIn (off := 5584) (tgt := 5624) hX dL_law_40 (by rw [c40_74]; decide) (by rw [c40_74]; decide) (by rw [c40_74]; decide) (by decide) ?_
        refine zw_sub (lv' := [(0, .ref a0), (1, .ref a1), (2, .ref a2), (3, .ref a3), (4, .int i4)]) (List.forall_mem_cons.mpr ⟨rfl, (List.forall_mem_cons.mpr ⟨rfl, (List.forall_mem_cons.mpr ⟨rfl, (List.forall_mem_cons.mpr ⟨rfl, (List.forall_mem_cons.mpr ⟨rfl, zs_nil⟩)⟩)⟩)⟩)⟩) ?_
        exact zt_L_law_J5624 hlt hV hX hr hR hd hf hk ih h
      rw [if_neg c40_74] at h
      by_cases c40_75 : ((v11 &&& (127 : Int32))).toInt = 75
      · rw [if_pos c40_75] at h
        refine zw_tableIn (off := 5627) (tgt := 5667) hX dL_law_40 (by rw [c40_75]; decide) (by rw [c40_75]; decide) (by rw [c40_75]; decide) (by decide) ?_
        refine zw_sub (lv' := [(0, .ref a0), (1, .ref a1), (2, .ref a2), (3, .ref a3), (4, .int i4)]) (List.forall_mem_cons.mpr ⟨rfl, (List.forall_mem_cons.mpr ⟨rfl, (List.forall_mem_cons.mpr ⟨rfl, (List.forall_mem_cons.mpr ⟨rfl, (List.forall_mem_cons.mpr ⟨rfl, zs_nil⟩)⟩)⟩)⟩)⟩) ?_
        exact zt_L_law_J5667 hlt hV hX hr hR hd hf hk ih h
      rw [if_neg c40_75] at h
      by_cases c40_76 : ((v11 &&& (127 : Int32))).toInt = 76
      · rw [if_pos c40_76] at h
        refine zw_tableIn (off := 5695) (tgt := 5735) hX dL_law_40 (by rw [c40_76]; decide) (by rw [c40_76]; decide) (by rw [c40_76]; decide) (by decide) ?_
        refine zw_sub (lv' := [(0, .ref a0), (1, .ref a1), (2, .ref a2), (3, .ref a3), (4, .int i4)]) (List.forall_mem_cons.mpr ⟨rfl, (List.forall_mem_cons.mpr ⟨rfl, (List.forall_mem_cons.mpr ⟨rfl, (List.forall_mem_cons.mpr ⟨rfl, (List.forall_mem_cons.mpr ⟨rfl, zs_nil⟩)⟩)⟩)⟩)⟩) ?_
        exact zt_L_law_J5735 hlt hV hX hr hR hd hf hk ih h
      rw [if_neg c40_76] at h
      by_cases c40_77 : ((v11 &&& (127 : Int32))).toInt = 77
      · rw [if_pos c40_77] at h
        refine zw_tableIn (off := 5770) (tgt := 5810) hX dL_law_40 (by rw [c40_77]; decide) (by rw [c40_77]; decide) (by rw [c40_77]; decide) (by decide) ?_
        refine zw_sub (lv' := [(0, .ref a0), (1, .ref a1), (2, .ref a2), (3, .ref a3), (4, .int i4)]) (List.forall_mem_cons.mpr ⟨rfl, (List.forall_mem_cons.mpr ⟨rfl, (List.forall_mem_cons.mpr ⟨rfl, (List.forall_mem_cons.mpr ⟨rfl, (List.forall_mem_cons.mpr ⟨rfl, zs_nil⟩)⟩)⟩)⟩)⟩) ?_
        exact zt_L_law_J5810 hlt hV hX hr hR hd hf hk ih h
      rw [if_neg c40_77] at h
      by_cases c40_78 : ((v11 &&& (127 : Int32))).toInt = 78
      · rw [if_pos c40_78] at h
        refine zw_tableIn (off := 5850) (tgt := 5890) hX dL_law_40 (by rw [c40_78]; decide) (by rw [c40_78]; decide) (by rw [c40_78]; decide) (by decide) ?_
        refine zw_sub (lv' := [(0, .ref a0), (1, .ref a1), (2, .ref a2), (3, .ref a3), (4, .int i4)]) (List.forall_mem_cons.mpr ⟨rfl, (List.forall_mem_cons.mpr ⟨rfl, (List.forall_mem_cons.mpr ⟨rfl, (List.forall_mem_cons.mpr ⟨rfl, (List.forall_mem_cons.mpr ⟨rfl, zs_nil⟩)⟩)⟩)⟩)⟩) ?_
        exact zt_L_law_J5890 hlt hV hX hr hR hd hf hk ih h
      rw [if_neg c40_78] at h
      by_cases c40_79 : ((v11 &&& (127 : Int32))).toInt = 79
      · rw [if_pos c40_79] at h
        refine zw_tableIn (off := 5906) (tgt := 5946) hX dL_law_40 (by rw [c40_79]; decide) (by rw [c40_79]; decide) (by rw [c40_79]; decide) (by decide) ?_
        refine zw_sub (lv' := [(0, .ref a0), (1, .ref a1), (2, .ref a2), (3, .ref a3), (4, .int i4)]) (List.forall_mem_cons.mpr ⟨rfl, (List.forall_mem_cons.mpr ⟨rfl, (List.forall_mem_cons.mpr ⟨rfl, (List.forall_mem_cons.mpr ⟨rfl, (List.forall_mem_cons.mpr ⟨rfl, zs_nil⟩)⟩)⟩)⟩)⟩) ?_
        exact zt_L_law_J5946 hlt hV hX hr hR hd hf hk ih h
      rw [if_neg c40_79] at h
      refine zw_tableOut (tgt := 6002) hX dL_law_40 (by omega) (by decide) ?_
      refine zw_iinc (v := (i4 + (7 : Int32))) hX dL_law_6002 rfl rfl (by decide) ?_
      refine zw_goto (tgt := 23) hX dL_law_6005 (by decide) ?_
      refine zw_sub (lv' := [(0, .ref a0), (1, .ref a1), (2, .ref a2), (3, .ref a3), (4, .int (i4 + (7 : Int32)))]) (List.forall_mem_cons.mpr ⟨rfl, (List.forall_mem_cons.mpr ⟨rfl, (List.forall_mem_cons.mpr ⟨rfl, (List.forall_mem_cons.mpr ⟨rfl, (List.forall_mem_cons.mpr ⟨rfl, zs_nil⟩)⟩)⟩)⟩)⟩) ?_
      exact ih _ _ _ _ h
set_option maxHeartbeats 4000000 in
set_option maxRecDepth 100000 in
theorem zt_L_law {p : Program} {l : Launch} {e : Env} {s : State} {m : MethodId} {zb : Nat} {below : List Frame} {meth : Method} {c : Code} {V : zm_V} {d : Nat} {nm : String} (hlt : l.stackTraces = false) (hV : V.2.2.2.1 = s.heap.size) (hX : zm_X p room_1 s m #[Value.ref zb] meth c RL nm cL_law 8 zk_E V 601024 7293034) (hr : meth.sig.returnType = ret) (hR : d ≤ room_1.frames ∧ 64 * d ≤ room_1.locals) (hd : 46 ≤ d) {N : Nat} {S : zm_S} {out : (Int32 × zm_S)} {a0 : Nat} {rc rs : Nat} (h : zf_L_law N a0 rc rs S = some out) : zw p l e room_1 s m #[Value.ref zb] below meth c (lw_Z below #[Value.ref zb] s) 8 zk_E V 601024 7293034 0 [(0, .ref a0)] [] S rc rs := by
  unfold zf_L_law at h
  by_cases hb0 : 1 ≤ rc ∧ 13 ≤ rs
  · rw [if_pos hb0] at h
    obtain ⟨S1, g, h⟩ := zb_some h
    refine zw_newo (n := 13) hX zl_L_8 rfl dL_law_0 (by omega) (by omega) g ?_
    refine zw_dup hX dL_law_3 rfl ?_
    by_cases hb4 : 2149 ≤ (rc - 1) ∧ 32290 ≤ (rs - 13)
    · rw [if_pos hb4] at h
      obtain ⟨r4, g, h⟩ := zb_some h
      refine zw_callI (as := []) hX zk_ok (zt_X11_init (d := d - 1) (by omega) g) zl_L_271.1 zl_L_271.2 rfl dL_law_4 rfl rfl (Nat.le_of_ble_eq_true rfl) (by omega) (by omega) (by omega) (by omega) ?_ ?_
      · rintro _ _ ⟨rfl, rfl⟩
        refine zw_astore_n hX dL_law_7 (by decide) ?_
        by_cases hb8 : 1 ≤ ((rc - 1) - 2149) ∧ 60 ≤ ((rs - 13) - 32290)
        · rw [if_pos hb8] at h
          obtain ⟨S5, g, h⟩ := zb_some h
          refine zw_newo (n := 60) hX zl_L_272 rfl dL_law_8 (by omega) (by omega) g ?_
          refine zw_dup hX dL_law_11 rfl ?_
          by_cases hb12 : 175 ≤ (((rc - 1) - 2149) - 1) ∧ 544284 ≤ (((rs - 13) - 32290) - 60)
          · rw [if_pos hb12] at h
            obtain ⟨r8, g, h⟩ := zb_some h
            refine zw_callI (as := []) hX zk_ok (zt_X18_init (d := d - 1) (by omega) g) zl_L_274.1 zl_L_274.2 rfl dL_law_12 rfl rfl (Nat.le_of_ble_eq_true rfl) (by omega) (by omega) (by omega) (by omega) ?_ ?_
            · rintro _ _ ⟨rfl, rfl⟩
              refine zw_astore_n hX dL_law_15 (by decide) ?_
              refine zw_iconst (v := (1 : Int32)) hX dL_law_16 (by decide) ?_
              by_cases hb0 : 1 ≤ ((((rc - 1) - 2149) - 1) - 175) ∧ 1 ≤ ((((rs - 13) - 32290) - 60) - 544284)
              · rw [if_pos hb0] at h
                obtain ⟨S9, g, h⟩ := zb_some h
                refine zw_nl (b := 1) hX zk_al dL_law_17 (by omega) (by omega) (by decide) g ?_
                refine zw_astore_n hX dL_law_19 (by decide) ?_
                refine zw_iconst (v := (0 : Int32)) hX dL_law_20 (by decide) ?_
                refine zw_istore hX dL_law_21 (by decide) ?_
                obtain ⟨r, g, h⟩ := zb_some h
                refine zw_sub (lv' := [(0, .ref a0), (1, .ref S.2), (2, .ref r4.2.2), (3, .ref r8.2.2), (4, .int (0 : Int32))]) (List.forall_mem_cons.mpr ⟨rfl, (List.forall_mem_cons.mpr ⟨rfl, (List.forall_mem_cons.mpr ⟨rfl, (List.forall_mem_cons.mpr ⟨rfl, (List.forall_mem_cons.mpr ⟨rfl, zs_nil⟩)⟩)⟩)⟩)⟩) ?_
                refine zt_L_law_L23 hlt hV hX hr hR hd (res := r) (out := out) a0 S.2 r4.2.2 r8.2.2 ?_ ?_ 600 _ _ _ _ g
                · intro o ho
                  subst ho
                  exact Option.some.inj h
                · intro  S977 rc rs hx
                  subst hx
                  try dsimp only at h
                  refine zw_iconst (v := (1 : Int32)) hX dL_law_6008 (by decide) ?_
                  exact zw_law hX hV hr dL_law_6009
              · rw [if_neg hb0] at h
                cases h
            · intro _ _ hx
              exact hx.elim
          · rw [if_neg hb12] at h
            cases h
        · rw [if_neg hb8] at h
          cases h
      · intro _ _ hx
        exact hx.elim
    · rw [if_neg hb4] at h
      cases h
  · rw [if_neg hb0] at h
    cases h

