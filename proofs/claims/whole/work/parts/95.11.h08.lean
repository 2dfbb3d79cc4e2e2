/-! ===== functions of methods, by program (wip/whole/tools/gen11.py) ===== -/


set_option maxHeartbeats 4000000 in
set_option maxRecDepth 100000 in
theorem zt_L_law_J3607 {p : Program} {l : Launch} {e : Env} {s : State} {m : MethodId} {zb : Nat} {below : List Frame} {meth : Method} {c : Code} {V : zm_V} {d : Nat} {nm : String} (hlt : l.stackTraces = false) (hV : V.2.2.2.1 = s.heap.size) (hX : zm_X p room_1 s m #[Value.ref zb] meth c RL nm cL_law 8 zk_E V 601024 7293034) (hr : meth.sig.returnType = ret) (hR : d ≤ room_1.frames ∧ 64 * d ≤ room_1.locals) (hd : 46 ≤ d) {N : Nat} {k : Nat → Nat → Nat → Nat → Int32 → Nat → Nat → zm_S → Option ((Int32 × zm_S) ⊕ ((Unit) × zm_S))} {rc rs : Nat} {a0 : Nat} {a1 : Nat} {a2 : Nat} {a3 : Nat} {i4 : Int32} {res : (Int32 × zm_S) ⊕ ((Unit) × zm_S)} {out : (Int32 × zm_S)}   (hf : ∀ o, res = .inl o → o = out) (hk : ∀ (S' : zm_S) (rc rs : Nat), res = .inr ((), S') → zw p l e room_1 s m #[Value.ref zb] below meth c (lw_Z below #[Value.ref zb] s) 8 zk_E V 601024 7293034 6008 [] [] S' rc rs) (hrec : ∀ (i4' : Int32) (rc rs : Nat) (S : zm_S), k a0 a1 a2 a3 i4' rc rs S = some res → zw p l e room_1 s m #[Value.ref zb] below meth c (lw_Z below #[Value.ref zb] s) 8 zk_E V 601024 7293034 23 [(0, .ref a0), (1, .ref a1), (2, .ref a2), (3, .ref a3), (4, .int i4')] [] S rc rs) {S : zm_S} (h : zf_L_law_J3607 N k a0 a1 a2 a3 i4 rc rs S = some res) : zw p l e room_1 s m #[Value.ref zb] below meth c (lw_Z below #[Value.ref zb] s) 8 zk_E V 601024 7293034 3607 [(0, .ref a0), (1, .ref a1), (2, .ref a2), (3, .ref a3), (4, .int i4)] [] S rc rs := by
  unfold zf_L_law_J3607 at h
  refine zw_aload_n hX dL_law_3607 rfl ?_
  refine zw_aload_n hX dL_law_3608 rfl ?_
  refine zw_iload hX dL_law_3609 rfl ?_
  refine zw_iconst (v := (1 : Int32)) hX dL_law_3611 (by decide) ?_
  refine zw_iadd hX dL_law_3612 ?_
  obtain ⟨v563, g, h⟩ := zb_some h
  refine zw_xi hX dL_law_3613 g ?_
  refine zw_aload_n hX dL_law_3614 rfl ?_
  refine zw_iload hX dL_law_3615 rfl ?_
  refine zw_iconst (v := (2 : Int32)) hX dL_law_3617 (by decide) ?_
  refine zw_iadd hX dL_law_3618 ?_
  obtain ⟨v564, g, h⟩ := zb_some h
  refine zw_xi hX dL_law_3619 g ?_
  refine zw_aload_n hX dL_law_3620 rfl ?_
  by_cases hb3621 : 2 ≤ rc ∧ 12 ≤ rs
  · rw [if_pos hb3621] at h
    obtain ⟨r567, g, h⟩ := zb_some h
    refine zc_SH (as := [.ref a1, .int v563, .int v564, .ref a3]) hX (zt_L_act hlt (d := d - 1) (by omega) g) zl_L_429 dL_law_3621 ⟨rfl, rfl, Nat.le_of_ble_eq_true rfl⟩ ⟨by omega, by omega⟩ hb3621 ?_ ?_
    · rintro _ _ ⟨rfl, rfl⟩
      refine zw_istore hX dL_law_3624 (by decide) ?_
      refine zw_aload_n hX dL_law_3626 rfl ?_
      refine zw_aload_n hX dL_law_3627 rfl ?_
      refine zw_iload hX dL_law_3628 rfl ?_
      refine zw_iconst (v := (1 : Int32)) hX dL_law_3630 (by decide) ?_
      refine zw_iadd hX dL_law_3631 ?_
      obtain ⟨v568, g, h⟩ := zb_some h
      refine zw_xi hX dL_law_3632 g ?_
      refine zw_aload_n hX dL_law_3633 rfl ?_
      refine zw_iload hX dL_law_3634 rfl ?_
      refine zw_iconst (v := (2 : Int32)) hX dL_law_3636 (by decide) ?_
      refine zw_iadd hX dL_law_3637 ?_
      obtain ⟨v569, g, h⟩ := zb_some h
      refine zw_xi hX dL_law_3638 g ?_
      obtain ⟨_, gi, h⟩ := zb_some h
      obtain ⟨r571, g, h⟩ := zb_some h
      refine zc_Vi (as := [.int v568, .int v569]) hX gi (zt_X18_act (d := d - 1) (by omega) g) zl_L_431 rfl dL_law_3639 ⟨rfl, rfl, Nat.le_of_ble_eq_true rfl⟩ ⟨by omega, by omega⟩ ?_
      refine zw_istore hX dL_law_3642 (by decide) ?_
      refine zw_aload_n hX dL_law_3644 rfl ?_
      obtain ⟨_, gi, h⟩ := zb_some h
      obtain ⟨r573, g, h⟩ := zb_some h
      refine zc_Vi (as := []) hX gi (zt_X18_thrown (d := d - 1) (by omega) g) zl_L_281 rfl dL_law_3645 ⟨rfl, rfl, Nat.le_of_ble_eq_true rfl⟩ ⟨by omega, by omega⟩ ?_
      refine zw_iload hX dL_law_3648 rfl ?_
      refine zw_icmp_eq (tgt := 3655) hX dL_law_3650 (by decide) (fun c3650 => ?_) (fun c3650 => ?_)
      · rw [if_pos c3650] at h
        refine zw_iload hX dL_law_3655 rfl ?_
        refine zw_if_ne (tgt := 3672) hX dL_law_3657 (by decide) (fun c3657 => ?_) (fun c3657 => ?_)
        · rw [if_neg c3657] at h
          refine zw_goto (tgt := 6002) hX dL_law_3672 (by decide) ?_
          refine zw_iinc (v := (i4 + (7 : Int32))) hX dL_law_6002 rfl rfl (by decide) ?_
          refine zw_goto (tgt := 23) hX dL_law_6005 (by decide) ?_
          refine zw_sub (lv' := [(0, .ref a0), (1, .ref a1), (2, .ref a2), (3, .ref a3), (4, .int (i4 + (7 : Int32)))]) (List.forall_mem_cons.mpr ⟨rfl, (List.forall_mem_cons.mpr ⟨rfl, (List.forall_mem_cons.mpr ⟨rfl, (List.forall_mem_cons.mpr ⟨rfl, (List.forall_mem_cons.mpr ⟨rfl, zs_nil⟩)⟩)⟩)⟩)⟩) ?_
          exact hrec _ _ _ _ h
        · rw [if_pos c3657] at h
          refine zw_aload_n hX dL_law_3660 rfl ?_
          refine zw_iconst (v := (0 : Int32)) hX dL_law_3661 (by decide) ?_
          obtain ⟨w574, g, h⟩ := zb_some h
          refine zw_xl hX dL_law_3662 g ?_
          refine zw_iload hX dL_law_3663 rfl ?_
          refine zw_i2l hX dL_law_3665 ?_
          refine zw_lcmp hX dL_law_3666 ?_
          refine zw_if_eq (tgt := 3672) hX dL_law_3667 (by decide) (fun c3667 => ?_) (fun c3667 => ?_)
          · rw [if_pos c3667] at h
            refine zw_goto (tgt := 6002) hX dL_law_3672 (by decide) ?_
            refine zw_iinc (v := (i4 + (7 : Int32))) hX dL_law_6002 rfl rfl (by decide) ?_
            refine zw_goto (tgt := 23) hX dL_law_6005 (by decide) ?_
            refine zw_sub (lv' := [(0, .ref a0), (1, .ref a1), (2, .ref a2), (3, .ref a3), (4, .int (i4 + (7 : Int32)))]) (List.forall_mem_cons.mpr ⟨rfl, (List.forall_mem_cons.mpr ⟨rfl, (List.forall_mem_cons.mpr ⟨rfl, (List.forall_mem_cons.mpr ⟨rfl, (List.forall_mem_cons.mpr ⟨rfl, zs_nil⟩)⟩)⟩)⟩)⟩) ?_
            exact hrec _ _ _ _ h
          · rw [if_neg c3667] at h
            refine zw_iconst (v := (0 : Int32)) hX dL_law_3670 (by decide) ?_
            cases h
      · rw [if_neg c3650] at h
        refine zw_iconst (v := (0 : Int32)) hX dL_law_3653 (by decide) ?_
        cases h
    · intro _ _ hx
      exact hx.elim
  · rw [if_neg hb3621] at h
    cases h
set_option maxHeartbeats 4000000 in
set_option maxRecDepth 100000 in
theorem zt_L_law_J3675 {p : Program} {l : Launch} {e : Env} {s : State} {m : MethodId} {zb : Nat} {below : List Frame} {meth : Method} {c : Code} {V : zm_V} {d : Nat} {nm : String} (hlt : l.stackTraces = false) (hV : V.2.2.2.1 = s.heap.size) (hX : zm_X p room_1 s m #[Value.ref zb] meth c RL nm cL_law 8 zk_E V 601024 7293034) (hr : meth.sig.returnType = ret) (hR : d ≤ room_1.frames ∧ 64 * d ≤ room_1.locals) (hd : 46 ≤ d) {N : Nat} {k : Nat → Nat → Nat → Nat → Int32 → Nat → Nat → zm_S → Option ((Int32 × zm_S) ⊕ ((Unit) × zm_S))} {rc rs : Nat} {a0 : Nat} {a1 : Nat} {a2 : Nat} {a3 : Nat} {i4 : Int32} {res : (Int32 × zm_S) ⊕ ((Unit) × zm_S)} {out : (Int32 × zm_S)}   (hf : ∀ o, res = .inl o → o = out) (hk : ∀ (S' : zm_S) (rc rs : Nat), res = .inr ((), S') → zw p l e room_1 s m #[Value.ref zb] below meth c (lw_Z below #[Value.ref zb] s) 8 zk_E V 601024 7293034 6008 [] [] S' rc rs) (hrec : ∀ (i4' : Int32) (rc rs : Nat) (S : zm_S), k a0 a1 a2 a3 i4' rc rs S = some res → zw p l e room_1 s m #[Value.ref zb] below meth c (lw_Z below #[Value.ref zb] s) 8 zk_E V 601024 7293034 23 [(0, .ref a0), (1, .ref a1), (2, .ref a2), (3, .ref a3), (4, .int i4')] [] S rc rs) {S : zm_S} (h : zf_L_law_J3675 N k a0 a1 a2 a3 i4 rc rs S = some res) : zw p l e room_1 s m #[Value.ref zb] below meth c (lw_Z below #[Value.ref zb] s) 8 zk_E V 601024 7293034 3675 [(0, .ref a0), (1, .ref a1), (2, .ref a2), (3, .ref a3), (4, .int i4)] [] S rc rs := by
  unfold zf_L_law_J3675 at h
  refine zw_aload_n hX dL_law_3675 rfl ?_
  refine zw_aload_n hX dL_law_3676 rfl ?_
  refine zw_iload hX dL_law_3677 rfl ?_
  refine zw_iconst (v := (1 : Int32)) hX dL_law_3679 (by decide) ?_
  refine zw_iadd hX dL_law_3680 ?_
  obtain ⟨v575, g, h⟩ := zb_some h
  refine zw_xi hX dL_law_3681 g ?_
  refine zw_aload_n hX dL_law_3682 rfl ?_
  refine zw_iload hX dL_law_3683 rfl ?_
  refine zw_iconst (v := (2 : Int32)) hX dL_law_3685 (by decide) ?_
  refine zw_iadd hX dL_law_3686 ?_
  obtain ⟨v576, g, h⟩ := zb_some h
  refine zw_xi hX dL_law_3687 g ?_
  refine zw_aload_n hX dL_law_3688 rfl ?_
  by_cases hb3689 : 2 ≤ rc ∧ 12 ≤ rs
  · rw [if_pos hb3689] at h
    obtain ⟨r579, g, h⟩ := zb_some h
    refine zc_SH (as := [.ref a1, .int v575, .int v576, .ref a3]) hX (zt_L_zone hlt (d := d - 1) (by omega) g) zl_L_432 dL_law_3689 ⟨rfl, rfl, Nat.le_of_ble_eq_true rfl⟩ ⟨by omega, by omega⟩ hb3689 ?_ ?_
    · rintro _ _ ⟨rfl, rfl⟩
      refine zw_istore hX dL_law_3692 (by decide) ?_
      refine zw_aload_n hX dL_law_3694 rfl ?_
      refine zw_aload_n hX dL_law_3695 rfl ?_
      refine zw_iload hX dL_law_3696 rfl ?_
      refine zw_iconst (v := (1 : Int32)) hX dL_law_3698 (by decide) ?_
      refine zw_iadd hX dL_law_3699 ?_
      obtain ⟨v580, g, h⟩ := zb_some h
      refine zw_xi hX dL_law_3700 g ?_
      refine zw_aload_n hX dL_law_3701 rfl ?_
      refine zw_iload hX dL_law_3702 rfl ?_
      refine zw_iconst (v := (2 : Int32)) hX dL_law_3704 (by decide) ?_
      refine zw_iadd hX dL_law_3705 ?_
      obtain ⟨v581, g, h⟩ := zb_some h
      refine zw_xi hX dL_law_3706 g ?_
      obtain ⟨_, gi, h⟩ := zb_some h
      obtain ⟨r583, g, h⟩ := zb_some h
      refine zc_Vi (as := [.int v580, .int v581]) hX gi (zt_X18_zone (d := d - 1) (by omega) g) zl_L_434 rfl dL_law_3707 ⟨rfl, rfl, Nat.le_of_ble_eq_true rfl⟩ ⟨by omega, by omega⟩ ?_
      refine zw_istore hX dL_law_3710 (by decide) ?_
      refine zw_aload_n hX dL_law_3712 rfl ?_
      obtain ⟨_, gi, h⟩ := zb_some h
      obtain ⟨r585, g, h⟩ := zb_some h
      refine zc_Vi (as := []) hX gi (zt_X18_thrown (d := d - 1) (by omega) g) zl_L_281 rfl dL_law_3713 ⟨rfl, rfl, Nat.le_of_ble_eq_true rfl⟩ ⟨by omega, by omega⟩ ?_
      refine zw_iload hX dL_law_3716 rfl ?_
      refine zw_icmp_eq (tgt := 3723) hX dL_law_3718 (by decide) (fun c3718 => ?_) (fun c3718 => ?_)
      · rw [if_pos c3718] at h
        refine zw_iload hX dL_law_3723 rfl ?_
        refine zw_if_ne (tgt := 3740) hX dL_law_3725 (by decide) (fun c3725 => ?_) (fun c3725 => ?_)
        · rw [if_neg c3725] at h
          refine zw_goto (tgt := 6002) hX dL_law_3740 (by decide) ?_
          refine zw_iinc (v := (i4 + (7 : Int32))) hX dL_law_6002 rfl rfl (by decide) ?_
          refine zw_goto (tgt := 23) hX dL_law_6005 (by decide) ?_
          refine zw_sub (lv' := [(0, .ref a0), (1, .ref a1), (2, .ref a2), (3, .ref a3), (4, .int (i4 + (7 : Int32)))]) (List.forall_mem_cons.mpr ⟨rfl, (List.forall_mem_cons.mpr ⟨rfl, (List.forall_mem_cons.mpr ⟨rfl, (List.forall_mem_cons.mpr ⟨rfl, (List.forall_mem_cons.mpr ⟨rfl, zs_nil⟩)⟩)⟩)⟩)⟩) ?_
          exact hrec _ _ _ _ h
        · rw [if_pos c3725] at h
          refine zw_aload_n hX dL_law_3728 rfl ?_
          refine zw_iconst (v := (0 : Int32)) hX dL_law_3729 (by decide) ?_
          obtain ⟨w586, g, h⟩ := zb_some h
          refine zw_xl hX dL_law_3730 g ?_
          refine zw_iload hX dL_law_3731 rfl ?_
          refine zw_i2l hX dL_law_3733 ?_
          refine zw_lcmp hX dL_law_3734 ?_
          refine zw_if_eq (tgt := 3740) hX dL_law_3735 (by decide) (fun c3735 => ?_) (fun c3735 => ?_)
          · rw [if_pos c3735] at h
            refine zw_goto (tgt := 6002) hX dL_law_3740 (by decide) ?_
            refine zw_iinc (v := (i4 + (7 : Int32))) hX dL_law_6002 rfl rfl (by decide) ?_
            refine zw_goto (tgt := 23) hX dL_law_6005 (by decide) ?_
            refine zw_sub (lv' := [(0, .ref a0), (1, .ref a1), (2, .ref a2), (3, .ref a3), (4, .int (i4 + (7 : Int32)))]) (List.forall_mem_cons.mpr ⟨rfl, (List.forall_mem_cons.mpr ⟨rfl, (List.forall_mem_cons.mpr ⟨rfl, (List.forall_mem_cons.mpr ⟨rfl, (List.forall_mem_cons.mpr ⟨rfl, zs_nil⟩)⟩)⟩)⟩)⟩) ?_
            exact hrec _ _ _ _ h
          · rw [if_neg c3735] at h
            refine zw_iconst (v := (0 : Int32)) hX dL_law_3738 (by decide) ?_
            cases h
      · rw [if_neg c3718] at h
        refine zw_iconst (v := (0 : Int32)) hX dL_law_3721 (by decide) ?_
        cases h
    · intro _ _ hx
      exact hx.elim
  · rw [if_neg hb3689] at h
    cases h
set_option maxHeartbeats 4000000 in
set_option maxRecDepth 100000 in
theorem zt_L_law_J3743 {p : Program} {l : Launch} {e : Env} {s : State} {m : MethodId} {zb : Nat} {below : List Frame} {meth : Method} {c : Code} {V : zm_V} {d : Nat} {nm : String} (hlt : l.stackTraces = false) (hV : V.2.2.2.1 = s.heap.size) (hX : zm_X p room_1 s m #[Value.ref zb] meth c RL nm cL_law 8 zk_E V 601024 7293034) (hr : meth.sig.returnType = ret) (hR : d ≤ room_1.frames ∧ 64 * d ≤ room_1.locals) (hd : 46 ≤ d) {N : Nat} {k : Nat → Nat → Nat → Nat → Int32 → Nat → Nat → zm_S → Option ((Int32 × zm_S) ⊕ ((Unit) × zm_S))} {rc rs : Nat} {a0 : Nat} {a1 : Nat} {a2 : Nat} {a3 : Nat} {i4 : Int32} {res : (Int32 × zm_S) ⊕ ((Unit) × zm_S)} {out : (Int32 × zm_S)}   (hf : ∀ o, res = .inl o → o = out) (hk : ∀ (S' : zm_S) (rc rs : Nat), res = .inr ((), S') → zw p l e room_1 s m #[Value.ref zb] below meth c (lw_Z below #[Value.ref zb] s) 8 zk_E V 601024 7293034 6008 [] [] S' rc rs) (hrec : ∀ (i4' : Int32) (rc rs : Nat) (S : zm_S), k a0 a1 a2 a3 i4' rc rs S = some res → zw p l e room_1 s m #[Value.ref zb] below meth c (lw_Z below #[Value.ref zb] s) 8 zk_E V 601024 7293034 23 [(0, .ref a0), (1, .ref a1), (2, .ref a2), (3, .ref a3), (4, .int i4')] [] S rc rs) {S : zm_S} (h : zf_L_law_J3743 N k a0 a1 a2 a3 i4 rc rs S = some res) : zw p l e room_1 s m #[Value.ref zb] below meth c (lw_Z below #[Value.ref zb] s) 8 zk_E V 601024 7293034 3743 [(0, .ref a0), (1, .ref a1), (2, .ref a2), (3, .ref a3), (4, .int i4)] [] S rc rs := by
  unfold zf_L_law_J3743 at h
  refine zw_aload_n hX dL_law_3743 rfl ?_
  refine zw_aload_n hX dL_law_3744 rfl ?_
  refine zw_iload hX dL_law_3745 rfl ?_
  refine zw_iconst (v := (1 : Int32)) hX dL_law_3747 (by decide) ?_
  refine zw_iadd hX dL_law_3748 ?_
  obtain ⟨v587, g, h⟩ := zb_some h
  refine zw_xi hX dL_law_3749 g ?_
  refine zw_aload_n hX dL_law_3750 rfl ?_
  refine zw_iload hX dL_law_3751 rfl ?_
  refine zw_iconst (v := (2 : Int32)) hX dL_law_3753 (by decide) ?_
  refine zw_iadd hX dL_law_3754 ?_
  obtain ⟨v588, g, h⟩ := zb_some h
  refine zw_xi hX dL_law_3755 g ?_
  refine zw_aload_n hX dL_law_3756 rfl ?_
  by_cases hb3757 : 2 ≤ rc ∧ 12 ≤ rs
  · rw [if_pos hb3757] at h
    obtain ⟨r591, g, h⟩ := zb_some h
    refine zc_SH (as := [.ref a1, .int v587, .int v588, .ref a3]) hX (zt_L_event hlt (d := d - 1) (by omega) g) zl_L_435 dL_law_3757 ⟨rfl, rfl, Nat.le_of_ble_eq_true rfl⟩ ⟨by omega, by omega⟩ hb3757 ?_ ?_
    · rintro _ _ ⟨rfl, rfl⟩
      refine zw_istore hX dL_law_3760 (by decide) ?_
      refine zw_aload_n hX dL_law_3762 rfl ?_
      refine zw_aload_n hX dL_law_3763 rfl ?_
      refine zw_iload hX dL_law_3764 rfl ?_
      refine zw_iconst (v := (1 : Int32)) hX dL_law_3766 (by decide) ?_
      refine zw_iadd hX dL_law_3767 ?_
      obtain ⟨v592, g, h⟩ := zb_some h
      refine zw_xi hX dL_law_3768 g ?_
      refine zw_aload_n hX dL_law_3769 rfl ?_
      refine zw_iload hX dL_law_3770 rfl ?_
      refine zw_iconst (v := (2 : Int32)) hX dL_law_3772 (by decide) ?_
      refine zw_iadd hX dL_law_3773 ?_
      obtain ⟨v593, g, h⟩ := zb_some h
      refine zw_xi hX dL_law_3774 g ?_
      obtain ⟨_, gi, h⟩ := zb_some h
      obtain ⟨r595, g, h⟩ := zb_some h
      refine zc_Vi (as := [.int v592, .int v593]) hX gi (zt_X18_event (d := d - 1) (by omega) g) zl_L_437 rfl dL_law_3775 ⟨rfl, rfl, Nat.le_of_ble_eq_true rfl⟩ ⟨by omega, by omega⟩ ?_
      refine zw_istore hX dL_law_3778 (by decide) ?_
      refine zw_aload_n hX dL_law_3780 rfl ?_
      obtain ⟨_, gi, h⟩ := zb_some h
      obtain ⟨r597, g, h⟩ := zb_some h
      refine zc_Vi (as := []) hX gi (zt_X18_thrown (d := d - 1) (by omega) g) zl_L_281 rfl dL_law_3781 ⟨rfl, rfl, Nat.le_of_ble_eq_true rfl⟩ ⟨by omega, by omega⟩ ?_
      refine zw_iload hX dL_law_3784 rfl ?_
      refine zw_icmp_eq (tgt := 3791) hX dL_law_3786 (by decide) (fun c3786 => ?_) (fun c3786 => ?_)
      · rw [if_pos c3786] at h
        refine zw_iload hX dL_law_3791 rfl ?_
        refine zw_if_ne (tgt := 3808) hX dL_law_3793 (by decide) (fun c3793 => ?_) (fun c3793 => ?_)
        · rw [if_neg c3793] at h
          refine zw_goto (tgt := 6002) hX dL_law_3808 (by decide) ?_
          refine zw_iinc (v := (i4 + (7 : Int32))) hX dL_law_6002 rfl rfl (by decide) ?_
          refine zw_goto (tgt := 23) hX dL_law_6005 (by decide) ?_
          refine zw_sub (lv' := [(0, .ref a0), (1, .ref a1), (2, .ref a2), (3, .ref a3), (4, .int (i4 + (7 : Int32)))]) (List.forall_mem_cons.mpr ⟨rfl, (List.forall_mem_cons.mpr ⟨rfl, (List.forall_mem_cons.mpr ⟨rfl, (List.forall_mem_cons.mpr ⟨rfl, (List.forall_mem_cons.mpr ⟨rfl, zs_nil⟩)⟩)⟩)⟩)⟩) ?_
          exact hrec _ _ _ _ h
        · rw [if_pos c3793] at h
          refine zw_aload_n hX dL_law_3796 rfl ?_
          refine zw_iconst (v := (0 : Int32)) hX dL_law_3797 (by decide) ?_
          obtain ⟨w598, g, h⟩ := zb_some h
          refine zw_xl hX dL_law_3798 g ?_
          refine zw_iload hX dL_law_3799 rfl ?_
          refine zw_i2l hX dL_law_3801 ?_
          refine zw_lcmp hX dL_law_3802 ?_
          refine zw_if_eq (tgt := 3808) hX dL_law_3803 (by decide) (fun c3803 => ?_) (fun c3803 => ?_)
          · rw [if_pos c3803] at h
            refine zw_goto (tgt := 6002) hX dL_law_3808 (by decide) ?_
            refine zw_iinc (v := (i4 + (7 : Int32))) hX dL_law_6002 rfl rfl (by decide) ?_
            refine zw_goto (tgt := 23) hX dL_law_6005 (by decide) ?_
            refine zw_sub (lv' := [(0, .ref a0), (1, .ref a1), (2, .ref a2), (3, .ref a3), (4, .int (i4 + (7 : Int32)))]) (List.forall_mem_cons.mpr ⟨rfl, (List.forall_mem_cons.mpr ⟨rfl, (List.forall_mem_cons.mpr ⟨rfl, (List.forall_mem_cons.mpr ⟨rfl, (List.forall_mem_cons.mpr ⟨rfl, zs_nil⟩)⟩)⟩)⟩)⟩) ?_
            exact hrec _ _ _ _ h
          · rw [if_neg c3803] at h
            refine zw_iconst (v := (0 : Int32)) hX dL_law_3806 (by decide) ?_
            cases h
      · rw [if_neg c3786] at h
        refine zw_iconst (v := (0 : Int32)) hX dL_law_3789 (by decide) ?_
        cases h
    · intro _ _ hx
      exact hx.elim
  · rw [if_neg hb3757] at h
    cases h
set_option maxHeartbeats 4000000 in
set_option maxRecDepth 100000 in
theorem zt_L_law_J3811 {p : Program} {l : Launch} {e : Env} {s : State} {m : MethodId} {zb : Nat} {below : List Frame} {meth : Method} {c : Code} {V : zm_V} {d : Nat} {nm : String} (hlt : l.stackTraces = false) (hV : V.2.2.2.1 = s.heap.size) (hX : zm_X p room_1 s m #[Value.ref zb] meth c RL nm cL_law 8 zk_E V 601024 7293034) (hr : meth.sig.returnType = ret) (hR : d ≤ room_1.frames ∧ 64 * d ≤ room_1.locals) (hd : 46 ≤ d) {N : Nat} {k : Nat → Nat → Nat → Nat → Int32 → Nat → Nat → zm_S → Option ((Int32 × zm_S) ⊕ ((Unit) × zm_S))} {rc rs : Nat} {a0 : Nat} {a1 : Nat} {a2 : Nat} {a3 : Nat} {i4 : Int32} {res : (Int32 × zm_S) ⊕ ((Unit) × zm_S)} {out : (Int32 × zm_S)}   (hf : ∀ o, res = .inl o → o = out) (hk : ∀ (S' : zm_S) (rc rs : Nat), res = .inr ((), S') → zw p l e room_1 s m #[Value.ref zb] below meth c (lw_Z below #[Value.ref zb] s) 8 zk_E V 601024 7293034 6008 [] [] S' rc rs) (hrec : ∀ (i4' : Int32) (rc rs : Nat) (S : zm_S), k a0 a1 a2 a3 i4' rc rs S = some res → zw p l e room_1 s m #[Value.ref zb] below meth c (lw_Z below #[Value.ref zb] s) 8 zk_E V 601024 7293034 23 [(0, .ref a0), (1, .ref a1), (2, .ref a2), (3, .ref a3), (4, .int i4')] [] S rc rs) {S : zm_S} (h : zf_L_law_J3811 N k a0 a1 a2 a3 i4 rc rs S = some res) : zw p l e room_1 s m #[Value.ref zb] below meth c (lw_Z below #[Value.ref zb] s) 8 zk_E V 601024 7293034 3811 [(0, .ref a0), (1, .ref a1), (2, .ref a2), (3, .ref a3), (4, .int i4)] [] S rc rs := by
  unfold zf_L_law_J3811 at h
  refine zw_aload_n hX dL_law_3811 rfl ?_
  refine zw_aload_n hX dL_law_3812 rfl ?_
  refine zw_iload hX dL_law_3813 rfl ?_
  refine zw_iconst (v := (1 : Int32)) hX dL_law_3815 (by decide) ?_
  refine zw_iadd hX dL_law_3816 ?_
  obtain ⟨v599, g, h⟩ := zb_some h
  refine zw_xi hX dL_law_3817 g ?_
  refine zw_aload_n hX dL_law_3818 rfl ?_
  by_cases hb3819 : 2 ≤ rc ∧ 12 ≤ rs
  · rw [if_pos hb3819] at h
    obtain ⟨r602, g, h⟩ := zb_some h
    refine zc_SH (as := [.ref a1, .int v599, .ref a3]) hX (zt_L_block hlt (d := d - 1) (by omega) g) zl_L_438 dL_law_3819 ⟨rfl, rfl, Nat.le_of_ble_eq_true rfl⟩ ⟨by omega, by omega⟩ hb3819 ?_ ?_
    · rintro _ _ ⟨rfl, rfl⟩
      refine zw_istore hX dL_law_3822 (by decide) ?_
      refine zw_aload_n hX dL_law_3824 rfl ?_
      refine zw_aload_n hX dL_law_3825 rfl ?_
      refine zw_iload hX dL_law_3826 rfl ?_
      refine zw_iconst (v := (1 : Int32)) hX dL_law_3828 (by decide) ?_
      refine zw_iadd hX dL_law_3829 ?_
      obtain ⟨v603, g, h⟩ := zb_some h
      refine zw_xi hX dL_law_3830 g ?_
      obtain ⟨_, gi, h⟩ := zb_some h
      obtain ⟨r605, g, h⟩ := zb_some h
      refine zc_Vi (as := [.int v603]) hX gi (zt_X18_block (d := d - 1) (by omega) g) zl_L_440 rfl dL_law_3831 ⟨rfl, rfl, Nat.le_of_ble_eq_true rfl⟩ ⟨by omega, by omega⟩ ?_
      refine zw_istore hX dL_law_3834 (by decide) ?_
      refine zw_aload_n hX dL_law_3836 rfl ?_
      obtain ⟨_, gi, h⟩ := zb_some h
      obtain ⟨r607, g, h⟩ := zb_some h
      refine zc_Vi (as := []) hX gi (zt_X18_thrown (d := d - 1) (by omega) g) zl_L_281 rfl dL_law_3837 ⟨rfl, rfl, Nat.le_of_ble_eq_true rfl⟩ ⟨by omega, by omega⟩ ?_
      refine zw_iload hX dL_law_3840 rfl ?_
      refine zw_icmp_eq (tgt := 3847) hX dL_law_3842 (by decide) (fun c3842 => ?_) (fun c3842 => ?_)
      · rw [if_pos c3842] at h
        refine zw_iload hX dL_law_3847 rfl ?_
        refine zw_if_ne (tgt := 3864) hX dL_law_3849 (by decide) (fun c3849 => ?_) (fun c3849 => ?_)
        · rw [if_neg c3849] at h
          refine zw_goto (tgt := 6002) hX dL_law_3864 (by decide) ?_
          refine zw_iinc (v := (i4 + (7 : Int32))) hX dL_law_6002 rfl rfl (by decide) ?_
          refine zw_goto (tgt := 23) hX dL_law_6005 (by decide) ?_
          refine zw_sub (lv' := [(0, .ref a0), (1, .ref a1), (2, .ref a2), (3, .ref a3), (4, .int (i4 + (7 : Int32)))]) (List.forall_mem_cons.mpr ⟨rfl, (List.forall_mem_cons.mpr ⟨rfl, (List.forall_mem_cons.mpr ⟨rfl, (List.forall_mem_cons.mpr ⟨rfl, (List.forall_mem_cons.mpr ⟨rfl, zs_nil⟩)⟩)⟩)⟩)⟩) ?_
          exact hrec _ _ _ _ h
        · rw [if_pos c3849] at h
          refine zw_aload_n hX dL_law_3852 rfl ?_
          refine zw_iconst (v := (0 : Int32)) hX dL_law_3853 (by decide) ?_
          obtain ⟨w608, g, h⟩ := zb_some h
          refine zw_xl hX dL_law_3854 g ?_
          refine zw_iload hX dL_law_3855 rfl ?_
          refine zw_i2l hX dL_law_3857 ?_
          refine zw_lcmp hX dL_law_3858 ?_
          refine zw_if_eq (tgt := 3864) hX dL_law_3859 (by decide) (fun c3859 => ?_) (fun c3859 => ?_)
          · rw [if_pos c3859] at h
            refine zw_goto (tgt := 6002) hX dL_law_3864 (by decide) ?_
            refine zw_iinc (v := (i4 + (7 : Int32))) hX dL_law_6002 rfl rfl (by decide) ?_
            refine zw_goto (tgt := 23) hX dL_law_6005 (by decide) ?_
            refine zw_sub (lv' := [(0, .ref a0), (1, .ref a1), (2, .ref a2), (3, .ref a3), (4, .int (i4 + (7 : Int32)))]) (List.forall_mem_cons.mpr ⟨rfl, (List.forall_mem_cons.mpr ⟨rfl, (List.forall_mem_cons.mpr ⟨rfl, (List.forall_mem_cons.mpr ⟨rfl, (List.forall_mem_cons.mpr ⟨rfl, zs_nil⟩)⟩)⟩)⟩)⟩) ?_
            exact hrec _ _ _ _ h
          · rw [if_neg c3859] at h
            refine zw_iconst (v := (0 : Int32)) hX dL_law_3862 (by decide) ?_
            cases h
      · rw [if_neg c3842] at h
        refine zw_iconst (v := (0 : Int32)) hX dL_law_3845 (by decide) ?_
        cases h
    · intro _ _ hx
      exact hx.elim
  · rw [if_neg hb3819] at h
    cases h
set_option maxHeartbeats 4000000 in
set_option maxRecDepth 100000 in
theorem zt_L_law_J3867 {p : Program} {l : Launch} {e : Env} {s : State} {m : MethodId} {zb : Nat} {below : List Frame} {meth : Method} {c : Code} {V : zm_V} {d : Nat} {nm : String} (hlt : l.stackTraces = false) (hV : V.2.2.2.1 = s.heap.size) (hX : zm_X p room_1 s m #[Value.ref zb] meth c RL nm cL_law 8 zk_E V 601024 7293034) (hr : meth.sig.returnType = ret) (hR : d ≤ room_1.frames ∧ 64 * d ≤ room_1.locals) (hd : 46 ≤ d) {N : Nat} {k : Nat → Nat → Nat → Nat → Int32 → Nat → Nat → zm_S → Option ((Int32 × zm_S) ⊕ ((Unit) × zm_S))} {rc rs : Nat} {a0 : Nat} {a1 : Nat} {a2 : Nat} {a3 : Nat} {i4 : Int32} {res : (Int32 × zm_S) ⊕ ((Unit) × zm_S)} {out : (Int32 × zm_S)}   (hf : ∀ o, res = .inl o → o = out) (hk : ∀ (S' : zm_S) (rc rs : Nat), res = .inr ((), S') → zw p l e room_1 s m #[Value.ref zb] below meth c (lw_Z below #[Value.ref zb] s) 8 zk_E V 601024 7293034 6008 [] [] S' rc rs) (hrec : ∀ (i4' : Int32) (rc rs : Nat) (S : zm_S), k a0 a1 a2 a3 i4' rc rs S = some res → zw p l e room_1 s m #[Value.ref zb] below meth c (lw_Z below #[Value.ref zb] s) 8 zk_E V 601024 7293034 23 [(0, .ref a0), (1, .ref a1), (2, .ref a2), (3, .ref a3), (4, .int i4')] [] S rc rs) {S : zm_S} (h : zf_L_law_J3867 N k a0 a1 a2 a3 i4 rc rs S = some res) : zw p l e room_1 s m #[Value.ref zb] below meth c (lw_Z below #[Value.ref zb] s) 8 zk_E V 601024 7293034 3867 [(0, .ref a0), (1, .ref a1), (2, .ref a2), (3, .ref a3), (4, .int i4)] [] S rc rs := by
  unfold zf_L_law_J3867 at h
  refine zw_aload_n hX dL_law_3867 rfl ?_
  refine zw_aload_n hX dL_law_3868 rfl ?_
  refine zw_iload hX dL_law_3869 rfl ?_
  refine zw_iconst (v := (1 : Int32)) hX dL_law_3871 (by decide) ?_
  refine zw_iadd hX dL_law_3872 ?_
  obtain ⟨v609, g, h⟩ := zb_some h
  refine zw_xi hX dL_law_3873 g ?_
  refine zw_aload_n hX dL_law_3874 rfl ?_
  refine zw_iload hX dL_law_3875 rfl ?_
  refine zw_iconst (v := (2 : Int32)) hX dL_law_3877 (by decide) ?_
  refine zw_iadd hX dL_law_3878 ?_
  obtain ⟨v610, g, h⟩ := zb_some h
  refine zw_xi hX dL_law_3879 g ?_
  refine zw_aload_n hX dL_law_3880 rfl ?_
  refine zw_iload hX dL_law_3881 rfl ?_
  refine zw_iconst (v := (3 : Int32)) hX dL_law_3883 (by decide) ?_
  refine zw_iadd hX dL_law_3884 ?_
  obtain ⟨v611, g, h⟩ := zb_some h
  refine zw_xi hX dL_law_3885 g ?_
  refine zw_aload_n hX dL_law_3886 rfl ?_
  by_cases hb3887 : 2 ≤ rc ∧ 12 ≤ rs
  · rw [if_pos hb3887] at h
    obtain ⟨r614, g, h⟩ := zb_some h
    refine zc_SH (as := [.ref a1, .int v609, .int v610, .int v611, .ref a3]) hX (zt_L_wire hlt (d := d - 1) (by omega) g) zl_L_441 dL_law_3887 ⟨rfl, rfl, Nat.le_of_ble_eq_true rfl⟩ ⟨by omega, by omega⟩ hb3887 ?_ ?_
    · rintro _ _ ⟨rfl, rfl⟩
      refine zw_istore hX dL_law_3890 (by decide) ?_
      refine zw_aload_n hX dL_law_3892 rfl ?_
      refine zw_aload_n hX dL_law_3893 rfl ?_
      refine zw_iload hX dL_law_3894 rfl ?_
      refine zw_iconst (v := (1 : Int32)) hX dL_law_3896 (by decide) ?_
      refine zw_iadd hX dL_law_3897 ?_
      obtain ⟨v615, g, h⟩ := zb_some h
      refine zw_xi hX dL_law_3898 g ?_
      refine zw_aload_n hX dL_law_3899 rfl ?_
      refine zw_iload hX dL_law_3900 rfl ?_
      refine zw_iconst (v := (2 : Int32)) hX dL_law_3902 (by decide) ?_
      refine zw_iadd hX dL_law_3903 ?_
      obtain ⟨v616, g, h⟩ := zb_some h
      refine zw_xi hX dL_law_3904 g ?_
      refine zw_aload_n hX dL_law_3905 rfl ?_
      refine zw_iload hX dL_law_3906 rfl ?_
      refine zw_iconst (v := (3 : Int32)) hX dL_law_3908 (by decide) ?_
      refine zw_iadd hX dL_law_3909 ?_
      obtain ⟨v617, g, h⟩ := zb_some h
      refine zw_xi hX dL_law_3910 g ?_
      obtain ⟨_, gi, h⟩ := zb_some h
      obtain ⟨r619, g, h⟩ := zb_some h
      refine zc_Vi (as := [.int v615, .int v616, .int v617]) hX gi (zt_X18_wire (d := d - 1) (by omega) g) zl_L_443 rfl dL_law_3911 ⟨rfl, rfl, Nat.le_of_ble_eq_true rfl⟩ ⟨by omega, by omega⟩ ?_
      refine zw_istore hX dL_law_3914 (by decide) ?_
      refine zw_aload_n hX dL_law_3916 rfl ?_
      obtain ⟨_, gi, h⟩ := zb_some h
      obtain ⟨r621, g, h⟩ := zb_some h
      refine zc_Vi (as := []) hX gi (zt_X18_thrown (d := d - 1) (by omega) g) zl_L_281 rfl dL_law_3917 ⟨rfl, rfl, Nat.le_of_ble_eq_true rfl⟩ ⟨by omega, by omega⟩ ?_
      refine zw_iload hX dL_law_3920 rfl ?_
      refine zw_icmp_eq (tgt := 3927) hX dL_law_3922 (by decide) (fun c3922 => ?_) (fun c3922 => ?_)
      · rw [if_pos c3922] at h
        refine zw_iload hX dL_law_3927 rfl ?_
        refine zw_if_ne (tgt := 3944) hX dL_law_3929 (by decide) (fun c3929 => ?_) (fun c3929 => ?_)
        · rw [if_neg c3929] at h
          refine zw_goto (tgt := 6002) hX dL_law_3944 (by decide) ?_
          refine zw_iinc (v := (i4 + (7 : Int32))) hX dL_law_6002 rfl rfl (by decide) ?_
          refine zw_goto (tgt := 23) hX dL_law_6005 (by decide) ?_
          refine zw_sub (lv' := [(0, .ref a0), (1, .ref a1), (2, .ref a2), (3, .ref a3), (4, .int (i4 + (7 : Int32)))]) (List.forall_mem_cons.mpr ⟨rfl, (List.forall_mem_cons.mpr ⟨rfl, (List.forall_mem_cons.mpr ⟨rfl, (List.forall_mem_cons.mpr ⟨rfl, (List.forall_mem_cons.mpr ⟨rfl, zs_nil⟩)⟩)⟩)⟩)⟩) ?_
          exact hrec _ _ _ _ h
        · rw [if_pos c3929] at h
          refine zw_aload_n hX dL_law_3932 rfl ?_
          refine zw_iconst (v := (0 : Int32)) hX dL_law_3933 (by decide) ?_
          obtain ⟨w622, g, h⟩ := zb_some h
          refine zw_xl hX dL_law_3934 g ?_
          refine zw_iload hX dL_law_3935 rfl ?_
          refine zw_i2l hX dL_law_3937 ?_
          refine zw_lcmp hX dL_law_3938 ?_
          refine zw_if_eq (tgt := 3944) hX dL_law_3939 (by decide) (fun c3939 => ?_) (fun c3939 => ?_)
          · rw [if_pos c3939] at h
            refine zw_goto (tgt := 6002) hX dL_law_3944 (by decide) ?_
            refine zw_iinc (v := (i4 + (7 : Int32))) hX dL_law_6002 rfl rfl (by decide) ?_
            refine zw_goto (tgt := 23) hX dL_law_6005 (by decide) ?_
            refine zw_sub (lv' := [(0, .ref a0), (1, .ref a1), (2, .ref a2), (3, .ref a3), (4, .int (i4 + (7 : Int32)))]) (List.forall_mem_cons.mpr ⟨rfl, (List.forall_mem_cons.mpr ⟨rfl, (List.forall_mem_cons.mpr ⟨rfl, (List.forall_mem_cons.mpr ⟨rfl, (List.forall_mem_cons.mpr ⟨rfl, zs_nil⟩)⟩)⟩)⟩)⟩) ?_
            exact hrec _ _ _ _ h
          · rw [if_neg c3939] at h
            refine zw_iconst (v := (0 : Int32)) hX dL_law_3942 (by decide) ?_
            cases h
      · rw [if_neg c3922] at h
        refine zw_iconst (v := (0 : Int32)) hX dL_law_3925 (by decide) ?_
        cases h
    · intro _ _ hx
      exact hx.elim
  · rw [if_neg hb3887] at h
    cases h
set_option maxHeartbeats 4000000 in
set_option maxRecDepth 100000 in
theorem zt_L_law_J3947 {p : Program} {l : Launch} {e : Env} {s : State} {m : MethodId} {zb : Nat} {below : List Frame} {meth : Method} {c : Code} {V : zm_V} {d : Nat} {nm : String} (hlt : l.stackTraces = false) (hV : V.2.2.2.1 = s.heap.size) (hX : zm_X p room_1 s m #[Value.ref zb] meth c RL nm cL_law 8 zk_E V 601024 7293034) (hr : meth.sig.returnType = ret) (hR : d ≤ room_1.frames ∧ 64 * d ≤ room_1.locals) (hd : 46 ≤ d) {N : Nat} {k : Nat → Nat → Nat → Nat → Int32 → Nat → Nat → zm_S → Option ((Int32 × zm_S) ⊕ ((Unit) × zm_S))} {rc rs : Nat} {a0 : Nat} {a1 : Nat} {a2 : Nat} {a3 : Nat} {i4 : Int32} {res : (Int32 × zm_S) ⊕ ((Unit) × zm_S)} {out : (Int32 × zm_S)}   (hf : ∀ o, res = .inl o → o = out) (hk : ∀ (S' : zm_S) (rc rs : Nat), res = .inr ((), S') → zw p l e room_1 s m #[Value.ref zb] below meth c (lw_Z below #[Value.ref zb] s) 8 zk_E V 601024 7293034 6008 [] [] S' rc rs) (hrec : ∀ (i4' : Int32) (rc rs : Nat) (S : zm_S), k a0 a1 a2 a3 i4' rc rs S = some res → zw p l e room_1 s m #[Value.ref zb] below meth c (lw_Z below #[Value.ref zb] s) 8 zk_E V 601024 7293034 23 [(0, .ref a0), (1, .ref a1), (2, .ref a2), (3, .ref a3), (4, .int i4')] [] S rc rs) {S : zm_S} (h : zf_L_law_J3947 N k a0 a1 a2 a3 i4 rc rs S = some res) : zw p l e room_1 s m #[Value.ref zb] below meth c (lw_Z below #[Value.ref zb] s) 8 zk_E V 601024 7293034 3947 [(0, .ref a0), (1, .ref a1), (2, .ref a2), (3, .ref a3), (4, .int i4)] [] S rc rs := by
  unfold zf_L_law_J3947 at h
  refine zw_aload_n hX dL_law_3947 rfl ?_
  refine zw_aload_n hX dL_law_3948 rfl ?_
  refine zw_iload hX dL_law_3949 rfl ?_
  refine zw_iconst (v := (1 : Int32)) hX dL_law_3951 (by decide) ?_
  refine zw_iadd hX dL_law_3952 ?_
  obtain ⟨v623, g, h⟩ := zb_some h
  refine zw_xi hX dL_law_3953 g ?_
  refine zw_aload_n hX dL_law_3954 rfl ?_
  refine zw_iload hX dL_law_3955 rfl ?_
  refine zw_iconst (v := (2 : Int32)) hX dL_law_3957 (by decide) ?_
  refine zw_iadd hX dL_law_3958 ?_
  obtain ⟨v624, g, h⟩ := zb_some h
  refine zw_xi hX dL_law_3959 g ?_
  refine zw_aload_n hX dL_law_3960 rfl ?_
  refine zw_iload hX dL_law_3961 rfl ?_
  refine zw_iconst (v := (3 : Int32)) hX dL_law_3963 (by decide) ?_
  refine zw_iadd hX dL_law_3964 ?_
  obtain ⟨v625, g, h⟩ := zb_some h
  refine zw_xi hX dL_law_3965 g ?_
  by_cases hb3966 : 2 ≤ rc ∧ 12 ≤ rs
  · rw [if_pos hb3966] at h
    obtain ⟨r628, g, h⟩ := zb_some h
    refine zc_SH (as := [.ref a1, .int v623, .int v624, .int v625]) hX (zt_L_numbers hlt (d := d - 1) (by omega) g) zl_L_444 dL_law_3966 ⟨rfl, rfl, Nat.le_of_ble_eq_true rfl⟩ ⟨by omega, by omega⟩ hb3966 ?_ ?_
    · rintro _ _ ⟨rfl, rfl⟩
      refine zw_istore hX dL_law_3969 (by decide) ?_
      refine zw_aload_n hX dL_law_3971 rfl ?_
      refine zw_aload_n hX dL_law_3972 rfl ?_
      refine zw_iload hX dL_law_3973 rfl ?_
      refine zw_iconst (v := (1 : Int32)) hX dL_law_3975 (by decide) ?_
      refine zw_iadd hX dL_law_3976 ?_
      obtain ⟨v629, g, h⟩ := zb_some h
      refine zw_xi hX dL_law_3977 g ?_
      refine zw_aload_n hX dL_law_3978 rfl ?_
      refine zw_iload hX dL_law_3979 rfl ?_
      refine zw_iconst (v := (2 : Int32)) hX dL_law_3981 (by decide) ?_
      refine zw_iadd hX dL_law_3982 ?_
      obtain ⟨v630, g, h⟩ := zb_some h
      refine zw_xi hX dL_law_3983 g ?_
      refine zw_aload_n hX dL_law_3984 rfl ?_
      refine zw_iload hX dL_law_3985 rfl ?_
      refine zw_iconst (v := (3 : Int32)) hX dL_law_3987 (by decide) ?_
      refine zw_iadd hX dL_law_3988 ?_
      obtain ⟨v631, g, h⟩ := zb_some h
      refine zw_xi hX dL_law_3989 g ?_
      obtain ⟨_, gi, h⟩ := zb_some h
      obtain ⟨r633, g, h⟩ := zb_some h
      refine zc_Vv (as := [.int v629, .int v630, .int v631]) hX gi (zt_X18_numbers (d := d - 1) (by omega) g) zl_L_447 rfl dL_law_3990 ⟨rfl, rfl, Nat.le_of_ble_eq_true rfl⟩ ⟨by omega, by omega⟩ ?_
      refine zw_aload_n hX dL_law_3993 rfl ?_
      obtain ⟨_, gi, h⟩ := zb_some h
      obtain ⟨r635, g, h⟩ := zb_some h
      refine zc_Vi (as := []) hX gi (zt_X18_thrown (d := d - 1) (by omega) g) zl_L_281 rfl dL_law_3994 ⟨rfl, rfl, Nat.le_of_ble_eq_true rfl⟩ ⟨by omega, by omega⟩ ?_
      refine zw_iload hX dL_law_3997 rfl ?_
      refine zw_icmp_eq (tgt := 4004) hX dL_law_3999 (by decide) (fun c3999 => ?_) (fun c3999 => ?_)
      · rw [if_pos c3999] at h
        refine zw_goto (tgt := 6002) hX dL_law_4004 (by decide) ?_
        refine zw_iinc (v := (i4 + (7 : Int32))) hX dL_law_6002 rfl rfl (by decide) ?_
        refine zw_goto (tgt := 23) hX dL_law_6005 (by decide) ?_
        refine zw_sub (lv' := [(0, .ref a0), (1, .ref a1), (2, .ref a2), (3, .ref a3), (4, .int (i4 + (7 : Int32)))]) (List.forall_mem_cons.mpr ⟨rfl, (List.forall_mem_cons.mpr ⟨rfl, (List.forall_mem_cons.mpr ⟨rfl, (List.forall_mem_cons.mpr ⟨rfl, (List.forall_mem_cons.mpr ⟨rfl, zs_nil⟩)⟩)⟩)⟩)⟩) ?_
        exact hrec _ _ _ _ h
      · rw [if_neg c3999] at h
        refine zw_iconst (v := (0 : Int32)) hX dL_law_4002 (by decide) ?_
        cases h
    · intro _ _ hx
      exact hx.elim
  · rw [if_neg hb3966] at h
    cases h
set_option maxHeartbeats 4000000 in
set_option maxRecDepth 100000 in
theorem zt_L_law_J4007 {p : Program} {l : Launch} {e : Env} {s : State} {m : MethodId} {zb : Nat} {below : List Frame} {meth : Method} {c : Code} {V : zm_V} {d : Nat} {nm : String} (hlt : l.stackTraces = false) (hV : V.2.2.2.1 = s.heap.size) (hX : zm_X p room_1 s m #[Value.ref zb] meth c RL nm cL_law 8 zk_E V 601024 7293034) (hr : meth.sig.returnType = ret) (hR : d ≤ room_1.frames ∧ 64 * d ≤ room_1.locals) (hd : 46 ≤ d) {N : Nat} {k : Nat → Nat → Nat → Nat → Int32 → Nat → Nat → zm_S → Option ((Int32 × zm_S) ⊕ ((Unit) × zm_S))} {rc rs : Nat} {a0 : Nat} {a1 : Nat} {a2 : Nat} {a3 : Nat} {i4 : Int32} {res : (Int32 × zm_S) ⊕ ((Unit) × zm_S)} {out : (Int32 × zm_S)}   (hf : ∀ o, res = .inl o → o = out) (hk : ∀ (S' : zm_S) (rc rs : Nat), res = .inr ((), S') → zw p l e room_1 s m #[Value.ref zb] below meth c (lw_Z below #[Value.ref zb] s) 8 zk_E V 601024 7293034 6008 [] [] S' rc rs) (hrec : ∀ (i4' : Int32) (rc rs : Nat) (S : zm_S), k a0 a1 a2 a3 i4' rc rs S = some res → zw p l e room_1 s m #[Value.ref zb] below meth c (lw_Z below #[Value.ref zb] s) 8 zk_E V 601024 7293034 23 [(0, .ref a0), (1, .ref a1), (2, .ref a2), (3, .ref a3), (4, .int i4')] [] S rc rs) {S : zm_S} (h : zf_L_law_J4007 N k a0 a1 a2 a3 i4 rc rs S = some res) : zw p l e room_1 s m #[Value.ref zb] below meth c (lw_Z below #[Value.ref zb] s) 8 zk_E V 601024 7293034 4007 [(0, .ref a0), (1, .ref a1), (2, .ref a2), (3, .ref a3), (4, .int i4)] [] S rc rs := by
  unfold zf_L_law_J4007 at h
  refine zw_aload_n hX dL_law_4007 rfl ?_
  refine zw_aload_n hX dL_law_4008 rfl ?_
  refine zw_iload hX dL_law_4009 rfl ?_
  refine zw_iconst (v := (1 : Int32)) hX dL_law_4011 (by decide) ?_
  refine zw_iadd hX dL_law_4012 ?_
  obtain ⟨v636, g, h⟩ := zb_some h
  refine zw_xi hX dL_law_4013 g ?_
  refine zw_aload_n hX dL_law_4014 rfl ?_
  refine zw_iload hX dL_law_4015 rfl ?_
  refine zw_iconst (v := (2 : Int32)) hX dL_law_4017 (by decide) ?_
  refine zw_iadd hX dL_law_4018 ?_
  obtain ⟨v637, g, h⟩ := zb_some h
  refine zw_xi hX dL_law_4019 g ?_
  refine zw_aload_n hX dL_law_4020 rfl ?_
  refine zw_iload hX dL_law_4021 rfl ?_
  refine zw_iconst (v := (3 : Int32)) hX dL_law_4023 (by decide) ?_
  refine zw_iadd hX dL_law_4024 ?_
  obtain ⟨v638, g, h⟩ := zb_some h
  refine zw_xi hX dL_law_4025 g ?_
  refine zw_aload_n hX dL_law_4026 rfl ?_
  by_cases hb4027 : 2 ≤ rc ∧ 12 ≤ rs
  · rw [if_pos hb4027] at h
    obtain ⟨r641, g, h⟩ := zb_some h
    refine zc_SH (as := [.ref a1, .int v636, .int v637, .int v638, .ref a3]) hX (zt_L_row hlt (d := d - 1) (by omega) g) zl_L_448 dL_law_4027 ⟨rfl, rfl, Nat.le_of_ble_eq_true rfl⟩ ⟨by omega, by omega⟩ hb4027 ?_ ?_
    · rintro _ _ ⟨rfl, rfl⟩
      refine zw_istore hX dL_law_4030 (by decide) ?_
      refine zw_aload_n hX dL_law_4032 rfl ?_
      refine zw_aload_n hX dL_law_4033 rfl ?_
      refine zw_iload hX dL_law_4034 rfl ?_
      refine zw_iconst (v := (1 : Int32)) hX dL_law_4036 (by decide) ?_
      refine zw_iadd hX dL_law_4037 ?_
      obtain ⟨v642, g, h⟩ := zb_some h
      refine zw_xi hX dL_law_4038 g ?_
      refine zw_aload_n hX dL_law_4039 rfl ?_
      refine zw_iload hX dL_law_4040 rfl ?_
      refine zw_iconst (v := (2 : Int32)) hX dL_law_4042 (by decide) ?_
      refine zw_iadd hX dL_law_4043 ?_
      obtain ⟨v643, g, h⟩ := zb_some h
      refine zw_xi hX dL_law_4044 g ?_
      refine zw_aload_n hX dL_law_4045 rfl ?_
      refine zw_iload hX dL_law_4046 rfl ?_
      refine zw_iconst (v := (3 : Int32)) hX dL_law_4048 (by decide) ?_
      refine zw_iadd hX dL_law_4049 ?_
      obtain ⟨v644, g, h⟩ := zb_some h
      refine zw_xi hX dL_law_4050 g ?_
      obtain ⟨_, gi, h⟩ := zb_some h
      obtain ⟨r646, g, h⟩ := zb_some h
      refine zc_Vi (as := [.int v642, .int v643, .int v644]) hX gi (zt_X18_row (d := d - 1) (by omega) g) zl_L_450 rfl dL_law_4051 ⟨rfl, rfl, Nat.le_of_ble_eq_true rfl⟩ ⟨by omega, by omega⟩ ?_
      refine zw_istore hX dL_law_4054 (by decide) ?_
      refine zw_aload_n hX dL_law_4056 rfl ?_
      obtain ⟨_, gi, h⟩ := zb_some h
      obtain ⟨r648, g, h⟩ := zb_some h
      refine zc_Vi (as := []) hX gi (zt_X18_thrown (d := d - 1) (by omega) g) zl_L_281 rfl dL_law_4057 ⟨rfl, rfl, Nat.le_of_ble_eq_true rfl⟩ ⟨by omega, by omega⟩ ?_
      refine zw_iload hX dL_law_4060 rfl ?_
      refine zw_icmp_eq (tgt := 4067) hX dL_law_4062 (by decide) (fun c4062 => ?_) (fun c4062 => ?_)
      · rw [if_pos c4062] at h
        refine zw_iload hX dL_law_4067 rfl ?_
        refine zw_if_ne (tgt := 4084) hX dL_law_4069 (by decide) (fun c4069 => ?_) (fun c4069 => ?_)
        · rw [if_neg c4069] at h
          refine zw_goto (tgt := 6002) hX dL_law_4084 (by decide) ?_
          refine zw_iinc (v := (i4 + (7 : Int32))) hX dL_law_6002 rfl rfl (by decide) ?_
          refine zw_goto (tgt := 23) hX dL_law_6005 (by decide) ?_
          refine zw_sub (lv' := [(0, .ref a0), (1, .ref a1), (2, .ref a2), (3, .ref a3), (4, .int (i4 + (7 : Int32)))]) (List.forall_mem_cons.mpr ⟨rfl, (List.forall_mem_cons.mpr ⟨rfl, (List.forall_mem_cons.mpr ⟨rfl, (List.forall_mem_cons.mpr ⟨rfl, (List.forall_mem_cons.mpr ⟨rfl, zs_nil⟩)⟩)⟩)⟩)⟩) ?_
          exact hrec _ _ _ _ h
        · rw [if_pos c4069] at h
          refine zw_aload_n hX dL_law_4072 rfl ?_
          refine zw_iconst (v := (0 : Int32)) hX dL_law_4073 (by decide) ?_
          obtain ⟨w649, g, h⟩ := zb_some h
          refine zw_xl hX dL_law_4074 g ?_
          refine zw_iload hX dL_law_4075 rfl ?_
          refine zw_i2l hX dL_law_4077 ?_
          refine zw_lcmp hX dL_law_4078 ?_
          refine zw_if_eq (tgt := 4084) hX dL_law_4079 (by decide) (fun c4079 => ?_) (fun c4079 => ?_)
          · rw [if_pos c4079] at h
            refine zw_goto (tgt := 6002) hX dL_law_4084 (by decide) ?_
            refine zw_iinc (v := (i4 + (7 : Int32))) hX dL_law_6002 rfl rfl (by decide) ?_
            refine zw_goto (tgt := 23) hX dL_law_6005 (by decide) ?_
            refine zw_sub (lv' := [(0, .ref a0), (1, .ref a1), (2, .ref a2), (3, .ref a3), (4, .int (i4 + (7 : Int32)))]) (List.forall_mem_cons.mpr ⟨rfl, (List.forall_mem_cons.mpr ⟨rfl, (List.forall_mem_cons.mpr ⟨rfl, (List.forall_mem_cons.mpr ⟨rfl, (List.forall_mem_cons.mpr ⟨rfl, zs_nil⟩)⟩)⟩)⟩)⟩) ?_
            exact hrec _ _ _ _ h
          · rw [if_neg c4079] at h
            refine zw_iconst (v := (0 : Int32)) hX dL_law_4082 (by decide) ?_
            cases h
      · rw [if_neg c4062] at h
        refine zw_iconst (v := (0 : Int32)) hX dL_law_4065 (by decide) ?_
        cases h
    · intro _ _ hx
      exact hx.elim
  · rw [if_neg hb4027] at h
    cases h
set_option maxHeartbeats 4000000 in
set_option maxRecDepth 100000 in
theorem zt_L_law_J4087 {p : Program} {l : Launch} {e : Env} {s : State} {m : MethodId} {zb : Nat} {below : List Frame} {meth : Method} {c : Code} {V : zm_V} {d : Nat} {nm : String} (hlt : l.stackTraces = false) (hV : V.2.2.2.1 = s.heap.size) (hX : zm_X p room_1 s m #[Value.ref zb] meth c RL nm cL_law 8 zk_E V 601024 7293034) (hr : meth.sig.returnType = ret) (hR : d ≤ room_1.frames ∧ 64 * d ≤ room_1.locals) (hd : 46 ≤ d) {N : Nat} {k : Nat → Nat → Nat → Nat → Int32 → Nat → Nat → zm_S → Option ((Int32 × zm_S) ⊕ ((Unit) × zm_S))} {rc rs : Nat} {a0 : Nat} {a1 : Nat} {a2 : Nat} {a3 : Nat} {i4 : Int32} {res : (Int32 × zm_S) ⊕ ((Unit) × zm_S)} {out : (Int32 × zm_S)}   (hf : ∀ o, res = .inl o → o = out) (hk : ∀ (S' : zm_S) (rc rs : Nat), res = .inr ((), S') → zw p l e room_1 s m #[Value.ref zb] below meth c (lw_Z below #[Value.ref zb] s) 8 zk_E V 601024 7293034 6008 [] [] S' rc rs) (hrec : ∀ (i4' : Int32) (rc rs : Nat) (S : zm_S), k a0 a1 a2 a3 i4' rc rs S = some res → zw p l e room_1 s m #[Value.ref zb] below meth c (lw_Z below #[Value.ref zb] s) 8 zk_E V 601024 7293034 23 [(0, .ref a0), (1, .ref a1), (2, .ref a2), (3, .ref a3), (4, .int i4')] [] S rc rs) {S : zm_S} (h : zf_L_law_J4087 N k a0 a1 a2 a3 i4 rc rs S = some res) : zw p l e room_1 s m #[Value.ref zb] below meth c (lw_Z below #[Value.ref zb] s) 8 zk_E V 601024 7293034 4087 [(0, .ref a0), (1, .ref a1), (2, .ref a2), (3, .ref a3), (4, .int i4)] [] S rc rs := by
  unfold zf_L_law_J4087 at h
  refine zw_aload_n hX dL_law_4087 rfl ?_
  refine zw_aload_n hX dL_law_4088 rfl ?_
  refine zw_iload hX dL_law_4089 rfl ?_
  refine zw_iconst (v := (1 : Int32)) hX dL_law_4091 (by decide) ?_
  refine zw_iadd hX dL_law_4092 ?_
  obtain ⟨v650, g, h⟩ := zb_some h
  refine zw_xi hX dL_law_4093 g ?_
  refine zw_aload_n hX dL_law_4094 rfl ?_
  refine zw_iload hX dL_law_4095 rfl ?_
  refine zw_iconst (v := (2 : Int32)) hX dL_law_4097 (by decide) ?_
  refine zw_iadd hX dL_law_4098 ?_
  obtain ⟨v651, g, h⟩ := zb_some h
  refine zw_xi hX dL_law_4099 g ?_
  refine zw_aload_n hX dL_law_4100 rfl ?_
  by_cases hb4101 : 2 ≤ rc ∧ 12 ≤ rs
  · rw [if_pos hb4101] at h
    obtain ⟨r654, g, h⟩ := zb_some h
    refine zc_SH (as := [.ref a1, .int v650, .int v651, .ref a3]) hX (zt_L_safe hlt (d := d - 1) (by omega) g) zl_L_451 dL_law_4101 ⟨rfl, rfl, Nat.le_of_ble_eq_true rfl⟩ ⟨by omega, by omega⟩ hb4101 ?_ ?_
    · rintro _ _ ⟨rfl, rfl⟩
      refine zw_istore hX dL_law_4104 (by decide) ?_
      refine zw_aload_n hX dL_law_4106 rfl ?_
      refine zw_aload_n hX dL_law_4107 rfl ?_
      refine zw_iload hX dL_law_4108 rfl ?_
      refine zw_iconst (v := (1 : Int32)) hX dL_law_4110 (by decide) ?_
      refine zw_iadd hX dL_law_4111 ?_
      obtain ⟨v655, g, h⟩ := zb_some h
      refine zw_xi hX dL_law_4112 g ?_
      refine zw_aload_n hX dL_law_4113 rfl ?_
      refine zw_iload hX dL_law_4114 rfl ?_
      refine zw_iconst (v := (2 : Int32)) hX dL_law_4116 (by decide) ?_
      refine zw_iadd hX dL_law_4117 ?_
      obtain ⟨v656, g, h⟩ := zb_some h
      refine zw_xi hX dL_law_4118 g ?_
      obtain ⟨_, gi, h⟩ := zb_some h
      obtain ⟨r658, g, h⟩ := zb_some h
      refine zc_Vi (as := [.int v655, .int v656]) hX gi (zt_X18_safe (d := d - 1) (by omega) g) zl_L_453 rfl dL_law_4119 ⟨rfl, rfl, Nat.le_of_ble_eq_true rfl⟩ ⟨by omega, by omega⟩ ?_
      refine zw_istore hX dL_law_4122 (by decide) ?_
      refine zw_aload_n hX dL_law_4124 rfl ?_
      obtain ⟨_, gi, h⟩ := zb_some h
      obtain ⟨r660, g, h⟩ := zb_some h
      refine zc_Vi (as := []) hX gi (zt_X18_thrown (d := d - 1) (by omega) g) zl_L_281 rfl dL_law_4125 ⟨rfl, rfl, Nat.le_of_ble_eq_true rfl⟩ ⟨by omega, by omega⟩ ?_
      refine zw_iload hX dL_law_4128 rfl ?_
      refine zw_icmp_eq (tgt := 4135) hX dL_law_4130 (by decide) (fun c4130 => ?_) (fun c4130 => ?_)
      · rw [if_pos c4130] at h
        refine zw_iload hX dL_law_4135 rfl ?_
        refine zw_if_ne (tgt := 4152) hX dL_law_4137 (by decide) (fun c4137 => ?_) (fun c4137 => ?_)
        · rw [if_neg c4137] at h
          refine zw_goto (tgt := 6002) hX dL_law_4152 (by decide) ?_
          refine zw_iinc (v := (i4 + (7 : Int32))) hX dL_law_6002 rfl rfl (by decide) ?_
          refine zw_goto (tgt := 23) hX dL_law_6005 (by decide) ?_
          refine zw_sub (lv' := [(0, .ref a0), (1, .ref a1), (2, .ref a2), (3, .ref a3), (4, .int (i4 + (7 : Int32)))]) (List.forall_mem_cons.mpr ⟨rfl, (List.forall_mem_cons.mpr ⟨rfl, (List.forall_mem_cons.mpr ⟨rfl, (List.forall_mem_cons.mpr ⟨rfl, (List.forall_mem_cons.mpr ⟨rfl, zs_nil⟩)⟩)⟩)⟩)⟩) ?_
          exact hrec _ _ _ _ h
        · rw [if_pos c4137] at h
          refine zw_aload_n hX dL_law_4140 rfl ?_
          refine zw_iconst (v := (0 : Int32)) hX dL_law_4141 (by decide) ?_
          obtain ⟨w661, g, h⟩ := zb_some h
          refine zw_xl hX dL_law_4142 g ?_
          refine zw_iload hX dL_law_4143 rfl ?_
          refine zw_i2l hX dL_law_4145 ?_
          refine zw_lcmp hX dL_law_4146 ?_
          refine zw_if_eq (tgt := 4152) hX dL_law_4147 (by decide) (fun c4147 => ?_) (fun c4147 => ?_)
          · rw [if_pos c4147] at h
            refine zw_goto (tgt := 6002) hX dL_law_4152 (by decide) ?_
            refine zw_iinc (v := (i4 + (7 : Int32))) hX dL_law_6002 rfl rfl (by decide) ?_
            refine zw_goto (tgt := 23) hX dL_law_6005 (by decide) ?_
            refine zw_sub (lv' := [(0, .ref a0), (1, .ref a1), (2, .ref a2), (3, .ref a3), (4, .int (i4 + (7 : Int32)))]) (List.forall_mem_cons.mpr ⟨rfl, (List.forall_mem_cons.mpr ⟨rfl, (List.forall_mem_cons.mpr ⟨rfl, (List.forall_mem_cons.mpr ⟨rfl, (List.forall_mem_cons.mpr ⟨rfl, zs_nil⟩)⟩)⟩)⟩)⟩) ?_
            exact hrec _ _ _ _ h
          · rw [if_neg c4147] at h
            refine zw_iconst (v := (0 : Int32)) hX dL_law_4150 (by decide) ?_
            cases h
      · rw [if_neg c4130] at h
        refine zw_iconst (v := (0 : Int32)) hX dL_law_4133 (by decide) ?_
        cases h
    · intro _ _ hx
      exact hx.elim
  · rw [if_neg hb4101] at h
    cases h
set_option maxHeartbeats 4000000 in
set_option maxRecDepth 100000 in
theorem zt_L_law_J4249 {p : Program} {l : Launch} {e : Env} {s : State} {m : MethodId} {zb : Nat} {below : List Frame} {meth : Method} {c : Code} {V : zm_V} {d : Nat} {nm : String} (hlt : l.stackTraces = false) (hV : V.2.2.2.1 = s.heap.size) (hX : zm_X p room_1 s m #[Value.ref zb] meth c RL nm cL_law 8 zk_E V 601024 7293034) (hr : meth.sig.returnType = ret) (hR : d ≤ room_1.frames ∧ 64 * d ≤ room_1.locals) (hd : 46 ≤ d) {N : Nat} {k : Nat → Nat → Nat → Nat → Int32 → Nat → Nat → zm_S → Option ((Int32 × zm_S) ⊕ ((Unit) × zm_S))} {rc rs : Nat} {a0 : Nat} {a1 : Nat} {a2 : Nat} {a3 : Nat} {i4 : Int32} {t0 : Int64} {t1 : Int64} {res : (Int32 × zm_S) ⊕ ((Unit) × zm_S)} {out : (Int32 × zm_S)}   (hf : ∀ o, res = .inl o → o = out) (hk : ∀ (S' : zm_S) (rc rs : Nat), res = .inr ((), S') → zw p l e room_1 s m #[Value.ref zb] below meth c (lw_Z below #[Value.ref zb] s) 8 zk_E V 601024 7293034 6008 [] [] S' rc rs) (hrec : ∀ (i4' : Int32) (rc rs : Nat) (S : zm_S), k a0 a1 a2 a3 i4' rc rs S = some res → zw p l e room_1 s m #[Value.ref zb] below meth c (lw_Z below #[Value.ref zb] s) 8 zk_E V 601024 7293034 23 [(0, .ref a0), (1, .ref a1), (2, .ref a2), (3, .ref a3), (4, .int i4')] [] S rc rs) {S : zm_S} (h : zf_L_law_J4249 N k a0 a1 a2 a3 i4 t0 t1 rc rs S = some res) : zw p l e room_1 s m #[Value.ref zb] below meth c (lw_Z below #[Value.ref zb] s) 8 zk_E V 601024 7293034 4249 [(0, .ref a0), (1, .ref a1), (2, .ref a2), (3, .ref a3), (4, .int i4)] [.long t1, .long t0] S rc rs := by
  unfold zf_L_law_J4249 at h
  refine zw_lcmp hX dL_law_4249 ?_
  refine zw_if_eq (tgt := 4255) hX dL_law_4250 (by decide) (fun c4250 => ?_) (fun c4250 => ?_)
  · rw [if_pos c4250] at h
    refine zw_goto (tgt := 6002) hX dL_law_4255 (by decide) ?_
    refine zw_iinc (v := (i4 + (7 : Int32))) hX dL_law_6002 rfl rfl (by decide) ?_
    refine zw_goto (tgt := 23) hX dL_law_6005 (by decide) ?_
    refine zw_sub (lv' := [(0, .ref a0), (1, .ref a1), (2, .ref a2), (3, .ref a3), (4, .int (i4 + (7 : Int32)))]) (List.forall_mem_cons.mpr ⟨rfl, (List.forall_mem_cons.mpr ⟨rfl, (List.forall_mem_cons.mpr ⟨rfl, (List.forall_mem_cons.mpr ⟨rfl, (List.forall_mem_cons.mpr ⟨rfl, zs_nil⟩)⟩)⟩)⟩)⟩) ?_
    exact hrec _ _ _ _ h
  · rw [if_neg c4250] at h
    refine zw_iconst (v := (0 : Int32)) hX dL_law_4253 (by decide) ?_
    cases h
set_option maxHeartbeats 4000000 in
set_option maxRecDepth 100000 in
theorem zt_L_law_J4209 {p : Program} {l : Launch} {e : Env} {s : State} {m : MethodId} {zb : Nat} {below : List Frame} {meth : Method} {c : Code} {V : zm_V} {d : Nat} {nm : String} (hlt : l.stackTraces = false) (hV : V.2.2.2.1 = s.heap.size) (hX : zm_X p room_1 s m #[Value.ref zb] meth c RL nm cL_law 8 zk_E V 601024 7293034) (hr : meth.sig.returnType = ret) (hR : d ≤ room_1.frames ∧ 64 * d ≤ room_1.locals) (hd : 46 ≤ d) {N : Nat} {k : Nat → Nat → Nat → Nat → Int32 → Nat → Nat → zm_S → Option ((Int32 × zm_S) ⊕ ((Unit) × zm_S))} {rc rs : Nat} {a0 : Nat} {a1 : Nat} {a2 : Nat} {a3 : Nat} {i4 : Int32} {i5 : Int32} {t0 : Nat} {t1 : Int32} {t2 : Int32} {res : (Int32 × zm_S) ⊕ ((Unit) × zm_S)} {out : (Int32 × zm_S)}   (hf : ∀ o, res = .inl o → o = out) (hk : ∀ (S' : zm_S) (rc rs : Nat), res = .inr ((), S') → zw p l e room_1 s m #[Value.ref zb] below meth c (lw_Z below #[Value.ref zb] s) 8 zk_E V 601024 7293034 6008 [] [] S' rc rs) (hrec : ∀ (i4' : Int32) (rc rs : Nat) (S : zm_S), k a0 a1 a2 a3 i4' rc rs S = some res → zw p l e room_1 s m #[Value.ref zb] below meth c (lw_Z below #[Value.ref zb] s) 8 zk_E V 601024 7293034 23 [(0, .ref a0), (1, .ref a1), (2, .ref a2), (3, .ref a3), (4, .int i4')] [] S rc rs) {S : zm_S} (h : zf_L_law_J4209 N k a0 a1 a2 a3 i4 i5 t0 t1 t2 rc rs S = some res) : zw p l e room_1 s m #[Value.ref zb] below meth c (lw_Z below #[Value.ref zb] s) 8 zk_E V 601024 7293034 4209 [(0, .ref a0), (1, .ref a1), (2, .ref a2), (3, .ref a3), (4, .int i4), (5, .int i5)] [.int t2, .int t1, .ref t0] S rc rs := by
  unfold zf_L_law_J4209 at h
  refine zw_aload_n hX dL_law_4209 rfl ?_
  refine zw_iload hX dL_law_4210 rfl ?_
  refine zw_iconst (v := (3 : Int32)) hX dL_law_4212 (by decide) ?_
  refine zw_iadd hX dL_law_4213 ?_
  obtain ⟨v670, g, h⟩ := zb_some h
  refine zw_xi hX dL_law_4214 g ?_
  obtain ⟨_, gi, h⟩ := zb_some h
  obtain ⟨r672, g, h⟩ := zb_some h
  refine zc_Vi (as := [.int t1, .int t2, .int v670]) hX gi (zt_X18_hand (d := d - 1) (by omega) g) zl_L_457 rfl dL_law_4215 ⟨rfl, rfl, Nat.le_of_ble_eq_true rfl⟩ ⟨by omega, by omega⟩ ?_
  refine zw_istore hX dL_law_4218 (by decide) ?_
  refine zw_aload_n hX dL_law_4220 rfl ?_
  obtain ⟨_, gi, h⟩ := zb_some h
  obtain ⟨r674, g, h⟩ := zb_some h
  refine zc_Vi (as := []) hX gi (zt_X18_thrown (d := d - 1) (by omega) g) zl_L_281 rfl dL_law_4221 ⟨rfl, rfl, Nat.le_of_ble_eq_true rfl⟩ ⟨by omega, by omega⟩ ?_
  refine zw_iload hX dL_law_4224 rfl ?_
  refine zw_icmp_eq (tgt := 4231) hX dL_law_4226 (by decide) (fun c4226 => ?_) (fun c4226 => ?_)
  · rw [if_pos c4226] at h
    refine zw_iload hX dL_law_4231 rfl ?_
    refine zw_if_ne (tgt := 4255) hX dL_law_4233 (by decide) (fun c4233 => ?_) (fun c4233 => ?_)
    · rw [if_neg c4233] at h
      refine zw_goto (tgt := 6002) hX dL_law_4255 (by decide) ?_
      refine zw_iinc (v := (i4 + (7 : Int32))) hX dL_law_6002 rfl rfl (by decide) ?_
      refine zw_goto (tgt := 23) hX dL_law_6005 (by decide) ?_
      refine zw_sub (lv' := [(0, .ref a0), (1, .ref a1), (2, .ref a2), (3, .ref a3), (4, .int (i4 + (7 : Int32)))]) (List.forall_mem_cons.mpr ⟨rfl, (List.forall_mem_cons.mpr ⟨rfl, (List.forall_mem_cons.mpr ⟨rfl, (List.forall_mem_cons.mpr ⟨rfl, (List.forall_mem_cons.mpr ⟨rfl, zs_nil⟩)⟩)⟩)⟩)⟩) ?_
      exact hrec _ _ _ _ h
    · rw [if_pos c4233] at h
      refine zw_aload_n hX dL_law_4236 rfl ?_
      refine zw_iconst (v := (0 : Int32)) hX dL_law_4237 (by decide) ?_
      obtain ⟨w675, g, h⟩ := zb_some h
      refine zw_xl hX dL_law_4238 g ?_
      refine zw_iload hX dL_law_4239 rfl ?_
      refine zw_if_eq (tgt := 4248) hX dL_law_4241 (by decide) (fun c4241 => ?_) (fun c4241 => ?_)
      · rw [if_pos c4241] at h
        refine zw_lconst (v := (0 : Int64)) hX dL_law_4248 (by decide) ?_
        refine zw_sub (lv' := [(0, .ref a0), (1, .ref a1), (2, .ref a2), (3, .ref a3), (4, .int i4)]) (List.forall_mem_cons.mpr ⟨rfl, (List.forall_mem_cons.mpr ⟨rfl, (List.forall_mem_cons.mpr ⟨rfl, (List.forall_mem_cons.mpr ⟨rfl, (List.forall_mem_cons.mpr ⟨rfl, zs_nil⟩)⟩)⟩)⟩)⟩) ?_
        exact zt_L_law_J4249 hlt hV hX hr hR hd hf hk hrec h
      · rw [if_neg c4241] at h
        refine zw_lconst (v := (1 : Int64)) hX dL_law_4244 (by decide) ?_
        refine zw_goto (tgt := 4249) hX dL_law_4245 (by decide) ?_
        refine zw_sub (lv' := [(0, .ref a0), (1, .ref a1), (2, .ref a2), (3, .ref a3), (4, .int i4)]) (List.forall_mem_cons.mpr ⟨rfl, (List.forall_mem_cons.mpr ⟨rfl, (List.forall_mem_cons.mpr ⟨rfl, (List.forall_mem_cons.mpr ⟨rfl, (List.forall_mem_cons.mpr ⟨rfl, zs_nil⟩)⟩)⟩)⟩)⟩) ?_
        exact zt_L_law_J4249 hlt hV hX hr hR hd hf hk hrec h
  · rw [if_neg c4226] at h
    refine zw_iconst (v := (0 : Int32)) hX dL_law_4229 (by decide) ?_
    cases h
set_option maxHeartbeats 4000000 in
set_option maxRecDepth 100000 in
theorem zt_L_law_J4176 {p : Program} {l : Launch} {e : Env} {s : State} {m : MethodId} {zb : Nat} {below : List Frame} {meth : Method} {c : Code} {V : zm_V} {d : Nat} {nm : String} (hlt : l.stackTraces = false) (hV : V.2.2.2.1 = s.heap.size) (hX : zm_X p room_1 s m #[Value.ref zb] meth c RL nm cL_law 8 zk_E V 601024 7293034) (hr : meth.sig.returnType = ret) (hR : d ≤ room_1.frames ∧ 64 * d ≤ room_1.locals) (hd : 46 ≤ d) {N : Nat} {k : Nat → Nat → Nat → Nat → Int32 → Nat → Nat → zm_S → Option ((Int32 × zm_S) ⊕ ((Unit) × zm_S))} {rc rs : Nat} {a0 : Nat} {a1 : Nat} {a2 : Nat} {a3 : Nat} {i4 : Int32} {t0 : Nat} {t1 : Int32} {t2 : Int32} {res : (Int32 × zm_S) ⊕ ((Unit) × zm_S)} {out : (Int32 × zm_S)}   (hf : ∀ o, res = .inl o → o = out) (hk : ∀ (S' : zm_S) (rc rs : Nat), res = .inr ((), S') → zw p l e room_1 s m #[Value.ref zb] below meth c (lw_Z below #[Value.ref zb] s) 8 zk_E V 601024 7293034 6008 [] [] S' rc rs) (hrec : ∀ (i4' : Int32) (rc rs : Nat) (S : zm_S), k a0 a1 a2 a3 i4' rc rs S = some res → zw p l e room_1 s m #[Value.ref zb] below meth c (lw_Z below #[Value.ref zb] s) 8 zk_E V 601024 7293034 23 [(0, .ref a0), (1, .ref a1), (2, .ref a2), (3, .ref a3), (4, .int i4')] [] S rc rs) {S : zm_S} (h : zf_L_law_J4176 N k a0 a1 a2 a3 i4 t0 t1 t2 rc rs S = some res) : zw p l e room_1 s m #[Value.ref zb] below meth c (lw_Z below #[Value.ref zb] s) 8 zk_E V 601024 7293034 4176 [(0, .ref a0), (1, .ref a1), (2, .ref a2), (3, .ref a3), (4, .int i4)] [.int t2, .int t1, .ref t0] S rc rs := by
  unfold zf_L_law_J4176 at h
  refine zw_aload_n hX dL_law_4176 rfl ?_
  refine zw_iload hX dL_law_4177 rfl ?_
  refine zw_iconst (v := (3 : Int32)) hX dL_law_4179 (by decide) ?_
  refine zw_iadd hX dL_law_4180 ?_
  obtain ⟨v664, g, h⟩ := zb_some h
  refine zw_xi hX dL_law_4181 g ?_
  refine zw_aload_n hX dL_law_4182 rfl ?_
  by_cases hb4183 : 2 ≤ rc ∧ 12 ≤ rs
  · rw [if_pos hb4183] at h
    obtain ⟨r667, g, h⟩ := zb_some h
    refine zc_SH (as := [.ref t0, .int t1, .int t2, .int v664, .ref a3]) hX (zt_L_hand hlt (d := d - 1) (by omega) g) zl_L_454 dL_law_4183 ⟨rfl, rfl, Nat.le_of_ble_eq_true rfl⟩ ⟨by omega, by omega⟩ hb4183 ?_ ?_
    · rintro _ _ ⟨rfl, rfl⟩
      refine zw_istore hX dL_law_4186 (by decide) ?_
      refine zw_aload_n hX dL_law_4188 rfl ?_
      refine zw_aload_n hX dL_law_4189 rfl ?_
      refine zw_iload hX dL_law_4190 rfl ?_
      refine zw_iconst (v := (1 : Int32)) hX dL_law_4192 (by decide) ?_
      refine zw_iadd hX dL_law_4193 ?_
      obtain ⟨v668, g, h⟩ := zb_some h
      refine zw_xi hX dL_law_4194 g ?_
      refine zw_aload_n hX dL_law_4195 rfl ?_
      refine zw_iload hX dL_law_4196 rfl ?_
      refine zw_iconst (v := (2 : Int32)) hX dL_law_4198 (by decide) ?_
      refine zw_iadd hX dL_law_4199 ?_
      obtain ⟨v669, g, h⟩ := zb_some h
      refine zw_xi hX dL_law_4200 g ?_
      refine zw_if_eq (tgt := 4208) hX dL_law_4201 (by decide) (fun c4201 => ?_) (fun c4201 => ?_)
      · rw [if_pos c4201] at h
        refine zw_iconst (v := (0 : Int32)) hX dL_law_4208 (by decide) ?_
        refine zw_sub (lv' := [(0, .ref a0), (1, .ref a1), (2, .ref a2), (3, .ref a3), (4, .int i4), (5, .int r667.1)]) (List.forall_mem_cons.mpr ⟨rfl, (List.forall_mem_cons.mpr ⟨rfl, (List.forall_mem_cons.mpr ⟨rfl, (List.forall_mem_cons.mpr ⟨rfl, (List.forall_mem_cons.mpr ⟨rfl, (List.forall_mem_cons.mpr ⟨rfl, zs_nil⟩)⟩)⟩)⟩)⟩)⟩) ?_
        exact zt_L_law_J4209 hlt hV hX hr hR hd hf hk hrec h
      · rw [if_neg c4201] at h
        refine zw_iconst (v := (1 : Int32)) hX dL_law_4204 (by decide) ?_
        refine zw_goto (tgt := 4209) hX dL_law_4205 (by decide) ?_
        refine zw_sub (lv' := [(0, .ref a0), (1, .ref a1), (2, .ref a2), (3, .ref a3), (4, .int i4), (5, .int r667.1)]) (List.forall_mem_cons.mpr ⟨rfl, (List.forall_mem_cons.mpr ⟨rfl, (List.forall_mem_cons.mpr ⟨rfl, (List.forall_mem_cons.mpr ⟨rfl, (List.forall_mem_cons.mpr ⟨rfl, (List.forall_mem_cons.mpr ⟨rfl, zs_nil⟩)⟩)⟩)⟩)⟩)⟩) ?_
        exact zt_L_law_J4209 hlt hV hX hr hR hd hf hk hrec h
    · intro _ _ hx
      exact hx.elim
  · rw [if_neg hb4183] at h
    cases h
set_option maxHeartbeats 4000000 in
set_option maxRecDepth 100000 in
theorem zt_L_law_J4155 {p : Program} {l : Launch} {e : Env} {s : State} {m : MethodId} {zb : Nat} {below : List Frame} {meth : Method} {c : Code} {V : zm_V} {d : Nat} {nm : String} (hlt : l.stackTraces = false) (hV : V.2.2.2.1 = s.heap.size) (hX : zm_X p room_1 s m #[Value.ref zb] meth c RL nm cL_law 8 zk_E V 601024 7293034) (hr : meth.sig.returnType = ret) (hR : d ≤ room_1.frames ∧ 64 * d ≤ room_1.locals) (hd : 46 ≤ d) {N : Nat} {k : Nat → Nat → Nat → Nat → Int32 → Nat → Nat → zm_S → Option ((Int32 × zm_S) ⊕ ((Unit) × zm_S))} {rc rs : Nat} {a0 : Nat} {a1 : Nat} {a2 : Nat} {a3 : Nat} {i4 : Int32} {res : (Int32 × zm_S) ⊕ ((Unit) × zm_S)} {out : (Int32 × zm_S)}   (hf : ∀ o, res = .inl o → o = out) (hk : ∀ (S' : zm_S) (rc rs : Nat), res = .inr ((), S') → zw p l e room_1 s m #[Value.ref zb] below meth c (lw_Z below #[Value.ref zb] s) 8 zk_E V 601024 7293034 6008 [] [] S' rc rs) (hrec : ∀ (i4' : Int32) (rc rs : Nat) (S : zm_S), k a0 a1 a2 a3 i4' rc rs S = some res → zw p l e room_1 s m #[Value.ref zb] below meth c (lw_Z below #[Value.ref zb] s) 8 zk_E V 601024 7293034 23 [(0, .ref a0), (1, .ref a1), (2, .ref a2), (3, .ref a3), (4, .int i4')] [] S rc rs) {S : zm_S} (h : zf_L_law_J4155 N k a0 a1 a2 a3 i4 rc rs S = some res) : zw p l e room_1 s m #[Value.ref zb] below meth c (lw_Z below #[Value.ref zb] s) 8 zk_E V 601024 7293034 4155 [(0, .ref a0), (1, .ref a1), (2, .ref a2), (3, .ref a3), (4, .int i4)] [] S rc rs := by
  unfold zf_L_law_J4155 at h
  refine zw_aload_n hX dL_law_4155 rfl ?_
  refine zw_aload_n hX dL_law_4156 rfl ?_
  refine zw_iload hX dL_law_4157 rfl ?_
  refine zw_iconst (v := (1 : Int32)) hX dL_law_4159 (by decide) ?_
  refine zw_iadd hX dL_law_4160 ?_
  obtain ⟨v662, g, h⟩ := zb_some h
  refine zw_xi hX dL_law_4161 g ?_
  refine zw_aload_n hX dL_law_4162 rfl ?_
  refine zw_iload hX dL_law_4163 rfl ?_
  refine zw_iconst (v := (2 : Int32)) hX dL_law_4165 (by decide) ?_
  refine zw_iadd hX dL_law_4166 ?_
  obtain ⟨v663, g, h⟩ := zb_some h
  refine zw_xi hX dL_law_4167 g ?_
  refine zw_if_eq (tgt := 4175) hX dL_law_4168 (by decide) (fun c4168 => ?_) (fun c4168 => ?_)
  · rw [if_pos c4168] at h
    refine zw_iconst (v := (0 : Int32)) hX dL_law_4175 (by decide) ?_
    refine zw_sub (lv' := [(0, .ref a0), (1, .ref a1), (2, .ref a2), (3, .ref a3), (4, .int i4)]) (List.forall_mem_cons.mpr ⟨rfl, (List.forall_mem_cons.mpr ⟨rfl, (List.forall_mem_cons.mpr ⟨rfl, (List.forall_mem_cons.mpr ⟨rfl, (List.forall_mem_cons.mpr ⟨rfl, zs_nil⟩)⟩)⟩)⟩)⟩) ?_
    exact zt_L_law_J4176 hlt hV hX hr hR hd hf hk hrec h
  · rw [if_neg c4168] at h
    refine zw_iconst (v := (1 : Int32)) hX dL_law_4171 (by decide) ?_
    refine zw_goto (tgt := 4176) hX dL_law_4172 (by decide) ?_
    refine zw_sub (lv' := [(0, .ref a0), (1, .ref a1), (2, .ref a2), (3, .ref a3), (4, .int i4)]) (List.forall_mem_cons.mpr ⟨rfl, (List.forall_mem_cons.mpr ⟨rfl, (List.forall_mem_cons.mpr ⟨rfl, (List.forall_mem_cons.mpr ⟨rfl, (List.forall_mem_cons.mpr ⟨rfl, zs_nil⟩)⟩)⟩)⟩)⟩) ?_
    exact zt_L_law_J4176 hlt hV hX hr hR hd hf hk hrec h
set_option maxHeartbeats 4000000 in
set_option maxRecDepth 100000 in
theorem zt_L_law_J4258 {p : Program} {l : Launch} {e : Env} {s : State} {m : MethodId} {zb : Nat} {below : List Frame} {meth : Method} {c : Code} {V : zm_V} {d : Nat} {nm : String} (hlt : l.stackTraces = false) (hV : V.2.2.2.1 = s.heap.size) (hX : zm_X p room_1 s m #[Value.ref zb] meth c RL nm cL_law 8 zk_E V 601024 7293034) (hr : meth.sig.returnType = ret) (hR : d ≤ room_1.frames ∧ 64 * d ≤ room_1.locals) (hd : 46 ≤ d) {N : Nat} {k : Nat → Nat → Nat → Nat → Int32 → Nat → Nat → zm_S → Option ((Int32 × zm_S) ⊕ ((Unit) × zm_S))} {rc rs : Nat} {a0 : Nat} {a1 : Nat} {a2 : Nat} {a3 : Nat} {i4 : Int32} {res : (Int32 × zm_S) ⊕ ((Unit) × zm_S)} {out : (Int32 × zm_S)}   (hf : ∀ o, res = .inl o → o = out) (hk : ∀ (S' : zm_S) (rc rs : Nat), res = .inr ((), S') → zw p l e room_1 s m #[Value.ref zb] below meth c (lw_Z below #[Value.ref zb] s) 8 zk_E V 601024 7293034 6008 [] [] S' rc rs) (hrec : ∀ (i4' : Int32) (rc rs : Nat) (S : zm_S), k a0 a1 a2 a3 i4' rc rs S = some res → zw p l e room_1 s m #[Value.ref zb] below meth c (lw_Z below #[Value.ref zb] s) 8 zk_E V 601024 7293034 23 [(0, .ref a0), (1, .ref a1), (2, .ref a2), (3, .ref a3), (4, .int i4')] [] S rc rs) {S : zm_S} (h : zf_L_law_J4258 N k a0 a1 a2 a3 i4 rc rs S = some res) : zw p l e room_1 s m #[Value.ref zb] below meth c (lw_Z below #[Value.ref zb] s) 8 zk_E V 601024 7293034 4258 [(0, .ref a0), (1, .ref a1), (2, .ref a2), (3, .ref a3), (4, .int i4)] [] S rc rs := by
  unfold zf_L_law_J4258 at h
  refine zw_aload_n hX dL_law_4258 rfl ?_
  refine zw_aload_n hX dL_law_4259 rfl ?_
  refine zw_iload hX dL_law_4260 rfl ?_
  refine zw_iconst (v := (1 : Int32)) hX dL_law_4262 (by decide) ?_
  refine zw_iadd hX dL_law_4263 ?_
  obtain ⟨v676, g, h⟩ := zb_some h
  refine zw_xi hX dL_law_4264 g ?_
  refine zw_aload_n hX dL_law_4265 rfl ?_
  refine zw_iload hX dL_law_4266 rfl ?_
  refine zw_iconst (v := (2 : Int32)) hX dL_law_4268 (by decide) ?_
  refine zw_iadd hX dL_law_4269 ?_
  obtain ⟨v677, g, h⟩ := zb_some h
  refine zw_xi hX dL_law_4270 g ?_
  refine zw_aload_n hX dL_law_4271 rfl ?_
  by_cases hb4272 : 2 ≤ rc ∧ 12 ≤ rs
  · rw [if_pos hb4272] at h
    obtain ⟨r680, g, h⟩ := zb_some h
    refine zc_SH (as := [.ref a1, .int v676, .int v677, .ref a3]) hX (zt_L_bind hlt (d := d - 1) (by omega) g) zl_L_458 dL_law_4272 ⟨rfl, rfl, Nat.le_of_ble_eq_true rfl⟩ ⟨by omega, by omega⟩ hb4272 ?_ ?_
    · rintro _ _ ⟨rfl, rfl⟩
      refine zw_istore hX dL_law_4275 (by decide) ?_
      refine zw_aload_n hX dL_law_4277 rfl ?_
      refine zw_aload_n hX dL_law_4278 rfl ?_
      refine zw_iload hX dL_law_4279 rfl ?_
      refine zw_iconst (v := (1 : Int32)) hX dL_law_4281 (by decide) ?_
      refine zw_iadd hX dL_law_4282 ?_
      obtain ⟨v681, g, h⟩ := zb_some h
      refine zw_xi hX dL_law_4283 g ?_
      refine zw_aload_n hX dL_law_4284 rfl ?_
      refine zw_iload hX dL_law_4285 rfl ?_
      refine zw_iconst (v := (2 : Int32)) hX dL_law_4287 (by decide) ?_
      refine zw_iadd hX dL_law_4288 ?_
      obtain ⟨v682, g, h⟩ := zb_some h
      refine zw_xi hX dL_law_4289 g ?_
      obtain ⟨_, gi, h⟩ := zb_some h
      obtain ⟨r684, g, h⟩ := zb_some h
      refine zc_Vi (as := [.int v681, .int v682]) hX gi (zt_X18_bind (d := d - 1) (by omega) g) zl_L_460 rfl dL_law_4290 ⟨rfl, rfl, Nat.le_of_ble_eq_true rfl⟩ ⟨by omega, by omega⟩ ?_
      refine zw_istore hX dL_law_4293 (by decide) ?_
      refine zw_aload_n hX dL_law_4295 rfl ?_
      obtain ⟨_, gi, h⟩ := zb_some h
      obtain ⟨r686, g, h⟩ := zb_some h
      refine zc_Vi (as := []) hX gi (zt_X18_thrown (d := d - 1) (by omega) g) zl_L_281 rfl dL_law_4296 ⟨rfl, rfl, Nat.le_of_ble_eq_true rfl⟩ ⟨by omega, by omega⟩ ?_
      refine zw_iload hX dL_law_4299 rfl ?_
      refine zw_icmp_eq (tgt := 4306) hX dL_law_4301 (by decide) (fun c4301 => ?_) (fun c4301 => ?_)
      · rw [if_pos c4301] at h
        refine zw_iload hX dL_law_4306 rfl ?_
        refine zw_if_ne (tgt := 4323) hX dL_law_4308 (by decide) (fun c4308 => ?_) (fun c4308 => ?_)
        · rw [if_neg c4308] at h
          refine zw_goto (tgt := 6002) hX dL_law_4323 (by decide) ?_
          refine zw_iinc (v := (i4 + (7 : Int32))) hX dL_law_6002 rfl rfl (by decide) ?_
          refine zw_goto (tgt := 23) hX dL_law_6005 (by decide) ?_
          refine zw_sub (lv' := [(0, .ref a0), (1, .ref a1), (2, .ref a2), (3, .ref a3), (4, .int (i4 + (7 : Int32)))]) (List.forall_mem_cons.mpr ⟨rfl, (List.forall_mem_cons.mpr ⟨rfl, (List.forall_mem_cons.mpr ⟨rfl, (List.forall_mem_cons.mpr ⟨rfl, (List.forall_mem_cons.mpr ⟨rfl, zs_nil⟩)⟩)⟩)⟩)⟩) ?_
          exact hrec _ _ _ _ h
        · rw [if_pos c4308] at h
          refine zw_aload_n hX dL_law_4311 rfl ?_
          refine zw_iconst (v := (0 : Int32)) hX dL_law_4312 (by decide) ?_
          obtain ⟨w687, g, h⟩ := zb_some h
          refine zw_xl hX dL_law_4313 g ?_
          refine zw_iload hX dL_law_4314 rfl ?_
          refine zw_i2l hX dL_law_4316 ?_
          refine zw_lcmp hX dL_law_4317 ?_
          refine zw_if_eq (tgt := 4323) hX dL_law_4318 (by decide) (fun c4318 => ?_) (fun c4318 => ?_)
          · rw [if_pos c4318] at h
            refine zw_goto (tgt := 6002) hX dL_law_4323 (by decide) ?_
            refine zw_iinc (v := (i4 + (7 : Int32))) hX dL_law_6002 rfl rfl (by decide) ?_
            refine zw_goto (tgt := 23) hX dL_law_6005 (by decide) ?_
            refine zw_sub (lv' := [(0, .ref a0), (1, .ref a1), (2, .ref a2), (3, .ref a3), (4, .int (i4 + (7 : Int32)))]) (List.forall_mem_cons.mpr ⟨rfl, (List.forall_mem_cons.mpr ⟨rfl, (List.forall_mem_cons.mpr ⟨rfl, (List.forall_mem_cons.mpr ⟨rfl, (List.forall_mem_cons.mpr ⟨rfl, zs_nil⟩)⟩)⟩)⟩)⟩) ?_
            exact hrec _ _ _ _ h
          · rw [if_neg c4318] at h
            refine zw_iconst (v := (0 : Int32)) hX dL_law_4321 (by decide) ?_
            cases h
      · rw [if_neg c4301] at h
        refine zw_iconst (v := (0 : Int32)) hX dL_law_4304 (by decide) ?_
        cases h
    · intro _ _ hx
      exact hx.elim
  · rw [if_neg hb4272] at h
    cases h
set_option maxHeartbeats 4000000 in
set_option maxRecDepth 100000 in
theorem zt_L_law_J4326 {p : Program} {l : Launch} {e : Env} {s : State} {m : MethodId} {zb : Nat} {below : List Frame} {meth : Method} {c : Code} {V : zm_V} {d : Nat} {nm : String} (hlt : l.stackTraces = false) (hV : V.2.2.2.1 = s.heap.size) (hX : zm_X p room_1 s m #[Value.ref zb] meth c RL nm cL_law 8 zk_E V 601024 7293034) (hr : meth.sig.returnType = ret) (hR : d ≤ room_1.frames ∧ 64 * d ≤ room_1.locals) (hd : 46 ≤ d) {N : Nat} {k : Nat → Nat → Nat → Nat → Int32 → Nat → Nat → zm_S → Option ((Int32 × zm_S) ⊕ ((Unit) × zm_S))} {rc rs : Nat} {a0 : Nat} {a1 : Nat} {a2 : Nat} {a3 : Nat} {i4 : Int32} {res : (Int32 × zm_S) ⊕ ((Unit) × zm_S)} {out : (Int32 × zm_S)}   (hf : ∀ o, res = .inl o → o = out) (hk : ∀ (S' : zm_S) (rc rs : Nat), res = .inr ((), S') → zw p l e room_1 s m #[Value.ref zb] below meth c (lw_Z below #[Value.ref zb] s) 8 zk_E V 601024 7293034 6008 [] [] S' rc rs) (hrec : ∀ (i4' : Int32) (rc rs : Nat) (S : zm_S), k a0 a1 a2 a3 i4' rc rs S = some res → zw p l e room_1 s m #[Value.ref zb] below meth c (lw_Z below #[Value.ref zb] s) 8 zk_E V 601024 7293034 23 [(0, .ref a0), (1, .ref a1), (2, .ref a2), (3, .ref a3), (4, .int i4')] [] S rc rs) {S : zm_S} (h : zf_L_law_J4326 N k a0 a1 a2 a3 i4 rc rs S = some res) : zw p l e room_1 s m #[Value.ref zb] below meth c (lw_Z below #[Value.ref zb] s) 8 zk_E V 601024 7293034 4326 [(0, .ref a0), (1, .ref a1), (2, .ref a2), (3, .ref a3), (4, .int i4)] [] S rc rs := by
  unfold zf_L_law_J4326 at h
  refine zw_aload_n hX dL_law_4326 rfl ?_
  refine zw_aload_n hX dL_law_4327 rfl ?_
  refine zw_iload hX dL_law_4328 rfl ?_
  refine zw_iconst (v := (1 : Int32)) hX dL_law_4330 (by decide) ?_
  refine zw_iadd hX dL_law_4331 ?_
  obtain ⟨v688, g, h⟩ := zb_some h
  refine zw_xi hX dL_law_4332 g ?_
  refine zw_aload_n hX dL_law_4333 rfl ?_
  refine zw_iload hX dL_law_4334 rfl ?_
  refine zw_iconst (v := (2 : Int32)) hX dL_law_4336 (by decide) ?_
  refine zw_iadd hX dL_law_4337 ?_
  obtain ⟨v689, g, h⟩ := zb_some h
  refine zw_xi hX dL_law_4338 g ?_
  refine zw_aload_n hX dL_law_4339 rfl ?_
  by_cases hb4340 : 2 ≤ rc ∧ 12 ≤ rs
  · rw [if_pos hb4340] at h
    obtain ⟨r692, g, h⟩ := zb_some h
    refine zc_SH (as := [.ref a1, .int v688, .int v689, .ref a3]) hX (zt_L_point hlt (d := d - 1) (by omega) g) zl_L_461 dL_law_4340 ⟨rfl, rfl, Nat.le_of_ble_eq_true rfl⟩ ⟨by omega, by omega⟩ hb4340 ?_ ?_
    · rintro _ _ ⟨rfl, rfl⟩
      refine zw_istore hX dL_law_4343 (by decide) ?_
      refine zw_aload_n hX dL_law_4345 rfl ?_
      refine zw_aload_n hX dL_law_4346 rfl ?_
      refine zw_iload hX dL_law_4347 rfl ?_
      refine zw_iconst (v := (1 : Int32)) hX dL_law_4349 (by decide) ?_
      refine zw_iadd hX dL_law_4350 ?_
      obtain ⟨v693, g, h⟩ := zb_some h
      refine zw_xi hX dL_law_4351 g ?_
      refine zw_aload_n hX dL_law_4352 rfl ?_
      refine zw_iload hX dL_law_4353 rfl ?_
      refine zw_iconst (v := (2 : Int32)) hX dL_law_4355 (by decide) ?_
      refine zw_iadd hX dL_law_4356 ?_
      obtain ⟨v694, g, h⟩ := zb_some h
      refine zw_xi hX dL_law_4357 g ?_
      obtain ⟨_, gi, h⟩ := zb_some h
      obtain ⟨r696, g, h⟩ := zb_some h
      refine zc_Vi (as := [.int v693, .int v694]) hX gi (zt_X18_point (d := d - 1) (by omega) g) zl_L_463 rfl dL_law_4358 ⟨rfl, rfl, Nat.le_of_ble_eq_true rfl⟩ ⟨by omega, by omega⟩ ?_
      refine zw_istore hX dL_law_4361 (by decide) ?_
      refine zw_aload_n hX dL_law_4363 rfl ?_
      obtain ⟨_, gi, h⟩ := zb_some h
      obtain ⟨r698, g, h⟩ := zb_some h
      refine zc_Vi (as := []) hX gi (zt_X18_thrown (d := d - 1) (by omega) g) zl_L_281 rfl dL_law_4364 ⟨rfl, rfl, Nat.le_of_ble_eq_true rfl⟩ ⟨by omega, by omega⟩ ?_
      refine zw_iload hX dL_law_4367 rfl ?_
      refine zw_icmp_eq (tgt := 4374) hX dL_law_4369 (by decide) (fun c4369 => ?_) (fun c4369 => ?_)
      · rw [if_pos c4369] at h
        refine zw_iload hX dL_law_4374 rfl ?_
        refine zw_if_ne (tgt := 4391) hX dL_law_4376 (by decide) (fun c4376 => ?_) (fun c4376 => ?_)
        · rw [if_neg c4376] at h
          refine zw_goto (tgt := 6002) hX dL_law_4391 (by decide) ?_
          refine zw_iinc (v := (i4 + (7 : Int32))) hX dL_law_6002 rfl rfl (by decide) ?_
          refine zw_goto (tgt := 23) hX dL_law_6005 (by decide) ?_
          refine zw_sub (lv' := [(0, .ref a0), (1, .ref a1), (2, .ref a2), (3, .ref a3), (4, .int (i4 + (7 : Int32)))]) (List.forall_mem_cons.mpr ⟨rfl, (List.forall_mem_cons.mpr ⟨rfl, (List.forall_mem_cons.mpr ⟨rfl, (List.forall_mem_cons.mpr ⟨rfl, (List.forall_mem_cons.mpr ⟨rfl, zs_nil⟩)⟩)⟩)⟩)⟩) ?_
          exact hrec _ _ _ _ h
        · rw [if_pos c4376] at h
          refine zw_aload_n hX dL_law_4379 rfl ?_
          refine zw_iconst (v := (0 : Int32)) hX dL_law_4380 (by decide) ?_
          obtain ⟨w699, g, h⟩ := zb_some h
          refine zw_xl hX dL_law_4381 g ?_
          refine zw_iload hX dL_law_4382 rfl ?_
          refine zw_i2l hX dL_law_4384 ?_
          refine zw_lcmp hX dL_law_4385 ?_
          refine zw_if_eq (tgt := 4391) hX dL_law_4386 (by decide) (fun c4386 => ?_) (fun c4386 => ?_)
          · rw [if_pos c4386] at h
            refine zw_goto (tgt := 6002) hX dL_law_4391 (by decide) ?_
            refine zw_iinc (v := (i4 + (7 : Int32))) hX dL_law_6002 rfl rfl (by decide) ?_
            refine zw_goto (tgt := 23) hX dL_law_6005 (by decide) ?_
            refine zw_sub (lv' := [(0, .ref a0), (1, .ref a1), (2, .ref a2), (3, .ref a3), (4, .int (i4 + (7 : Int32)))]) (List.forall_mem_cons.mpr ⟨rfl, (List.forall_mem_cons.mpr ⟨rfl, (List.forall_mem_cons.mpr ⟨rfl, (List.forall_mem_cons.mpr ⟨rfl, (List.forall_mem_cons.mpr ⟨rfl, zs_nil⟩)⟩)⟩)⟩)⟩) ?_
            exact hrec _ _ _ _ h
          · rw [if_neg c4386] at h
            refine zw_iconst (v := (0 : Int32)) hX dL_law_4389 (by decide) ?_
            cases h
      · rw [if_neg c4369] at h
        refine zw_iconst (v := (0 : Int32)) hX dL_law_4372 (by decide) ?_
        cases h
    · intro _ _ hx
      exact hx.elim
  · rw [if_neg hb4340] at h
    cases h
set_option maxHeartbeats 4000000 in
set_option maxRecDepth 100000 in
theorem zt_L_law_J4394 {p : Program} {l : Launch} {e : Env} {s : State} {m : MethodId} {zb : Nat} {below : List Frame} {meth : Method} {c : Code} {V : zm_V} {d : Nat} {nm : String} (hlt : l.stackTraces = false) (hV : V.2.2.2.1 = s.heap.size) (hX : zm_X p room_1 s m #[Value.ref zb] meth c RL nm cL_law 8 zk_E V 601024 7293034) (hr : meth.sig.returnType = ret) (hR : d ≤ room_1.frames ∧ 64 * d ≤ room_1.locals) (hd : 46 ≤ d) {N : Nat} {k : Nat → Nat → Nat → Nat → Int32 → Nat → Nat → zm_S → Option ((Int32 × zm_S) ⊕ ((Unit) × zm_S))} {rc rs : Nat} {a0 : Nat} {a1 : Nat} {a2 : Nat} {a3 : Nat} {i4 : Int32} {res : (Int32 × zm_S) ⊕ ((Unit) × zm_S)} {out : (Int32 × zm_S)}   (hf : ∀ o, res = .inl o → o = out) (hk : ∀ (S' : zm_S) (rc rs : Nat), res = .inr ((), S') → zw p l e room_1 s m #[Value.ref zb] below meth c (lw_Z below #[Value.ref zb] s) 8 zk_E V 601024 7293034 6008 [] [] S' rc rs) (hrec : ∀ (i4' : Int32) (rc rs : Nat) (S : zm_S), k a0 a1 a2 a3 i4' rc rs S = some res → zw p l e room_1 s m #[Value.ref zb] below meth c (lw_Z below #[Value.ref zb] s) 8 zk_E V 601024 7293034 23 [(0, .ref a0), (1, .ref a1), (2, .ref a2), (3, .ref a3), (4, .int i4')] [] S rc rs) {S : zm_S} (h : zf_L_law_J4394 N k a0 a1 a2 a3 i4 rc rs S = some res) : zw p l e room_1 s m #[Value.ref zb] below meth c (lw_Z below #[Value.ref zb] s) 8 zk_E V 601024 7293034 4394 [(0, .ref a0), (1, .ref a1), (2, .ref a2), (3, .ref a3), (4, .int i4)] [] S rc rs := by
  unfold zf_L_law_J4394 at h
  refine zw_aload_n hX dL_law_4394 rfl ?_
  refine zw_aload_n hX dL_law_4395 rfl ?_
  refine zw_iload hX dL_law_4396 rfl ?_
  refine zw_iconst (v := (1 : Int32)) hX dL_law_4398 (by decide) ?_
  refine zw_iadd hX dL_law_4399 ?_
  obtain ⟨v700, g, h⟩ := zb_some h
  refine zw_xi hX dL_law_4400 g ?_
  refine zw_aload_n hX dL_law_4401 rfl ?_
  by_cases hb4402 : 2 ≤ rc ∧ 12 ≤ rs
  · rw [if_pos hb4402] at h
    obtain ⟨r703, g, h⟩ := zb_some h
    refine zc_SH (as := [.ref a1, .int v700, .ref a3]) hX (zt_L_pointAt hlt (d := d - 1) (by omega) g) zl_L_464 dL_law_4402 ⟨rfl, rfl, Nat.le_of_ble_eq_true rfl⟩ ⟨by omega, by omega⟩ hb4402 ?_ ?_
    · rintro _ _ ⟨rfl, rfl⟩
      refine zw_istore hX dL_law_4405 (by decide) ?_
      refine zw_aload_n hX dL_law_4407 rfl ?_
      refine zw_aload_n hX dL_law_4408 rfl ?_
      refine zw_iload hX dL_law_4409 rfl ?_
      refine zw_iconst (v := (1 : Int32)) hX dL_law_4411 (by decide) ?_
      refine zw_iadd hX dL_law_4412 ?_
      obtain ⟨v704, g, h⟩ := zb_some h
      refine zw_xi hX dL_law_4413 g ?_
      obtain ⟨_, gi, h⟩ := zb_some h
      obtain ⟨r706, g, h⟩ := zb_some h
      refine zc_Vi (as := [.int v704]) hX gi (zt_X18_pointAt (d := d - 1) (by omega) g) zl_L_466 rfl dL_law_4414 ⟨rfl, rfl, Nat.le_of_ble_eq_true rfl⟩ ⟨by omega, by omega⟩ ?_
      refine zw_istore hX dL_law_4417 (by decide) ?_
      refine zw_aload_n hX dL_law_4419 rfl ?_
      obtain ⟨_, gi, h⟩ := zb_some h
      obtain ⟨r708, g, h⟩ := zb_some h
      refine zc_Vi (as := []) hX gi (zt_X18_thrown (d := d - 1) (by omega) g) zl_L_281 rfl dL_law_4420 ⟨rfl, rfl, Nat.le_of_ble_eq_true rfl⟩ ⟨by omega, by omega⟩ ?_
      refine zw_iload hX dL_law_4423 rfl ?_
      refine zw_icmp_eq (tgt := 4430) hX dL_law_4425 (by decide) (fun c4425 => ?_) (fun c4425 => ?_)
      · rw [if_pos c4425] at h
        refine zw_iload hX dL_law_4430 rfl ?_
        refine zw_if_ne (tgt := 4447) hX dL_law_4432 (by decide) (fun c4432 => ?_) (fun c4432 => ?_)
        · rw [if_neg c4432] at h
          refine zw_goto (tgt := 6002) hX dL_law_4447 (by decide) ?_
          refine zw_iinc (v := (i4 + (7 : Int32))) hX dL_law_6002 rfl rfl (by decide) ?_
          refine zw_goto (tgt := 23) hX dL_law_6005 (by decide) ?_
          refine zw_sub (lv' := [(0, .ref a0), (1, .ref a1), (2, .ref a2), (3, .ref a3), (4, .int (i4 + (7 : Int32)))]) (List.forall_mem_cons.mpr ⟨rfl, (List.forall_mem_cons.mpr ⟨rfl, (List.forall_mem_cons.mpr ⟨rfl, (List.forall_mem_cons.mpr ⟨rfl, (List.forall_mem_cons.mpr ⟨rfl, zs_nil⟩)⟩)⟩)⟩)⟩) ?_
          exact hrec _ _ _ _ h
        · rw [if_pos c4432] at h
          refine zw_aload_n hX dL_law_4435 rfl ?_
          refine zw_iconst (v := (0 : Int32)) hX dL_law_4436 (by decide) ?_
          obtain ⟨w709, g, h⟩ := zb_some h
          refine zw_xl hX dL_law_4437 g ?_
          refine zw_iload hX dL_law_4438 rfl ?_
          refine zw_i2l hX dL_law_4440 ?_
          refine zw_lcmp hX dL_law_4441 ?_
          refine zw_if_eq (tgt := 4447) hX dL_law_4442 (by decide) (fun c4442 => ?_) (fun c4442 => ?_)
          · rw [if_pos c4442] at h
            refine zw_goto (tgt := 6002) hX dL_law_4447 (by decide) ?_
            refine zw_iinc (v := (i4 + (7 : Int32))) hX dL_law_6002 rfl rfl (by decide) ?_
            refine zw_goto (tgt := 23) hX dL_law_6005 (by decide) ?_
            refine zw_sub (lv' := [(0, .ref a0), (1, .ref a1), (2, .ref a2), (3, .ref a3), (4, .int (i4 + (7 : Int32)))]) (List.forall_mem_cons.mpr ⟨rfl, (List.forall_mem_cons.mpr ⟨rfl, (List.forall_mem_cons.mpr ⟨rfl, (List.forall_mem_cons.mpr ⟨rfl, (List.forall_mem_cons.mpr ⟨rfl, zs_nil⟩)⟩)⟩)⟩)⟩) ?_
            exact hrec _ _ _ _ h
          · rw [if_neg c4442] at h
            refine zw_iconst (v := (0 : Int32)) hX dL_law_4445 (by decide) ?_
            cases h
      · rw [if_neg c4425] at h
        refine zw_iconst (v := (0 : Int32)) hX dL_law_4428 (by decide) ?_
        cases h
    · intro _ _ hx
      exact hx.elim
  · rw [if_neg hb4402] at h
    cases h
set_option maxHeartbeats 4000000 in
set_option maxRecDepth 100000 in
theorem zt_L_law_J4450 {p : Program} {l : Launch} {e : Env} {s : State} {m : MethodId} {zb : Nat} {below : List Frame} {meth : Method} {c : Code} {V : zm_V} {d : Nat} {nm : String} (hlt : l.stackTraces = false) (hV : V.2.2.2.1 = s.heap.size) (hX : zm_X p room_1 s m #[Value.ref zb] meth c RL nm cL_law 8 zk_E V 601024 7293034) (hr : meth.sig.returnType = ret) (hR : d ≤ room_1.frames ∧ 64 * d ≤ room_1.locals) (hd : 46 ≤ d) {N : Nat} {k : Nat → Nat → Nat → Nat → Int32 → Nat → Nat → zm_S → Option ((Int32 × zm_S) ⊕ ((Unit) × zm_S))} {rc rs : Nat} {a0 : Nat} {a1 : Nat} {a2 : Nat} {a3 : Nat} {i4 : Int32} {res : (Int32 × zm_S) ⊕ ((Unit) × zm_S)} {out : (Int32 × zm_S)}   (hf : ∀ o, res = .inl o → o = out) (hk : ∀ (S' : zm_S) (rc rs : Nat), res = .inr ((), S') → zw p l e room_1 s m #[Value.ref zb] below meth c (lw_Z below #[Value.ref zb] s) 8 zk_E V 601024 7293034 6008 [] [] S' rc rs) (hrec : ∀ (i4' : Int32) (rc rs : Nat) (S : zm_S), k a0 a1 a2 a3 i4' rc rs S = some res → zw p l e room_1 s m #[Value.ref zb] below meth c (lw_Z below #[Value.ref zb] s) 8 zk_E V 601024 7293034 23 [(0, .ref a0), (1, .ref a1), (2, .ref a2), (3, .ref a3), (4, .int i4')] [] S rc rs) {S : zm_S} (h : zf_L_law_J4450 N k a0 a1 a2 a3 i4 rc rs S = some res) : zw p l e room_1 s m #[Value.ref zb] below meth c (lw_Z below #[Value.ref zb] s) 8 zk_E V 601024 7293034 4450 [(0, .ref a0), (1, .ref a1), (2, .ref a2), (3, .ref a3), (4, .int i4)] [] S rc rs := by
  unfold zf_L_law_J4450 at h
  refine zw_aload_n hX dL_law_4450 rfl ?_
  refine zw_aload_n hX dL_law_4451 rfl ?_
  by_cases hb4452 : 1 ≤ rc ∧ 6 ≤ rs
  · rw [if_pos hb4452] at h
    obtain ⟨r712, g, h⟩ := zb_some h
    refine zc_SH (as := [.ref a1, .ref a3]) hX (zt_L_order hlt (d := d - 1) (by omega) g) zl_L_467 dL_law_4452 ⟨rfl, rfl, Nat.le_of_ble_eq_true rfl⟩ ⟨by omega, by omega⟩ hb4452 ?_ ?_
    · rintro _ _ ⟨rfl, rfl⟩
      refine zw_istore hX dL_law_4455 (by decide) ?_
      refine zw_aload_n hX dL_law_4457 rfl ?_
      obtain ⟨_, gi, h⟩ := zb_some h
      obtain ⟨r714, g, h⟩ := zb_some h
      refine zc_Vi (as := []) hX gi (zt_X18_order (d := d - 1) (by omega) g) zl_L_469 rfl dL_law_4458 ⟨rfl, rfl, Nat.le_of_ble_eq_true rfl⟩ ⟨by omega, by omega⟩ ?_
      refine zw_istore hX dL_law_4461 (by decide) ?_
      refine zw_aload_n hX dL_law_4463 rfl ?_
      obtain ⟨_, gi, h⟩ := zb_some h
      obtain ⟨r716, g, h⟩ := zb_some h
      refine zc_Vi (as := []) hX gi (zt_X18_thrown (d := d - 1) (by omega) g) zl_L_281 rfl dL_law_4464 ⟨rfl, rfl, Nat.le_of_ble_eq_true rfl⟩ ⟨by omega, by omega⟩ ?_
      refine zw_iload hX dL_law_4467 rfl ?_
      refine zw_icmp_eq (tgt := 4474) hX dL_law_4469 (by decide) (fun c4469 => ?_) (fun c4469 => ?_)
      · rw [if_pos c4469] at h
        refine zw_iload hX dL_law_4474 rfl ?_
        refine zw_if_ne (tgt := 4491) hX dL_law_4476 (by decide) (fun c4476 => ?_) (fun c4476 => ?_)
        · rw [if_neg c4476] at h
          refine zw_goto (tgt := 6002) hX dL_law_4491 (by decide) ?_
          refine zw_iinc (v := (i4 + (7 : Int32))) hX dL_law_6002 rfl rfl (by decide) ?_
          refine zw_goto (tgt := 23) hX dL_law_6005 (by decide) ?_
          refine zw_sub (lv' := [(0, .ref a0), (1, .ref a1), (2, .ref a2), (3, .ref a3), (4, .int (i4 + (7 : Int32)))]) (List.forall_mem_cons.mpr ⟨rfl, (List.forall_mem_cons.mpr ⟨rfl, (List.forall_mem_cons.mpr ⟨rfl, (List.forall_mem_cons.mpr ⟨rfl, (List.forall_mem_cons.mpr ⟨rfl, zs_nil⟩)⟩)⟩)⟩)⟩) ?_
          exact hrec _ _ _ _ h
        · rw [if_pos c4476] at h
          refine zw_aload_n hX dL_law_4479 rfl ?_
          refine zw_iconst (v := (0 : Int32)) hX dL_law_4480 (by decide) ?_
          obtain ⟨w717, g, h⟩ := zb_some h
          refine zw_xl hX dL_law_4481 g ?_
          refine zw_iload hX dL_law_4482 rfl ?_
          refine zw_i2l hX dL_law_4484 ?_
          refine zw_lcmp hX dL_law_4485 ?_
          refine zw_if_eq (tgt := 4491) hX dL_law_4486 (by decide) (fun c4486 => ?_) (fun c4486 => ?_)
          · rw [if_pos c4486] at h
            refine zw_goto (tgt := 6002) hX dL_law_4491 (by decide) ?_
            refine zw_iinc (v := (i4 + (7 : Int32))) hX dL_law_6002 rfl rfl (by decide) ?_
            refine zw_goto (tgt := 23) hX dL_law_6005 (by decide) ?_
            refine zw_sub (lv' := [(0, .ref a0), (1, .ref a1), (2, .ref a2), (3, .ref a3), (4, .int (i4 + (7 : Int32)))]) (List.forall_mem_cons.mpr ⟨rfl, (List.forall_mem_cons.mpr ⟨rfl, (List.forall_mem_cons.mpr ⟨rfl, (List.forall_mem_cons.mpr ⟨rfl, (List.forall_mem_cons.mpr ⟨rfl, zs_nil⟩)⟩)⟩)⟩)⟩) ?_
            exact hrec _ _ _ _ h
          · rw [if_neg c4486] at h
            refine zw_iconst (v := (0 : Int32)) hX dL_law_4489 (by decide) ?_
            cases h
      · rw [if_neg c4469] at h
        refine zw_iconst (v := (0 : Int32)) hX dL_law_4472 (by decide) ?_
        cases h
    · intro _ _ hx
      exact hx.elim
  · rw [if_neg hb4452] at h
    cases h
set_option maxHeartbeats 4000000 in
set_option maxRecDepth 100000 in
theorem zt_L_law_J4494 {p : Program} {l : Launch} {e : Env} {s : State} {m : MethodId} {zb : Nat} {below : List Frame} {meth : Method} {c : Code} {V : zm_V} {d : Nat} {nm : String} (hlt : l.stackTraces = false) (hV : V.2.2.2.1 = s.heap.size) (hX : zm_X p room_1 s m #[Value.ref zb] meth c RL nm cL_law 8 zk_E V 601024 7293034) (hr : meth.sig.returnType = ret) (hR : d ≤ room_1.frames ∧ 64 * d ≤ room_1.locals) (hd : 46 ≤ d) {N : Nat} {k : Nat → Nat → Nat → Nat → Int32 → Nat → Nat → zm_S → Option ((Int32 × zm_S) ⊕ ((Unit) × zm_S))} {rc rs : Nat} {a0 : Nat} {a1 : Nat} {a2 : Nat} {a3 : Nat} {i4 : Int32} {res : (Int32 × zm_S) ⊕ ((Unit) × zm_S)} {out : (Int32 × zm_S)}   (hf : ∀ o, res = .inl o → o = out) (hk : ∀ (S' : zm_S) (rc rs : Nat), res = .inr ((), S') → zw p l e room_1 s m #[Value.ref zb] below meth c (lw_Z below #[Value.ref zb] s) 8 zk_E V 601024 7293034 6008 [] [] S' rc rs) (hrec : ∀ (i4' : Int32) (rc rs : Nat) (S : zm_S), k a0 a1 a2 a3 i4' rc rs S = some res → zw p l e room_1 s m #[Value.ref zb] below meth c (lw_Z below #[Value.ref zb] s) 8 zk_E V 601024 7293034 23 [(0, .ref a0), (1, .ref a1), (2, .ref a2), (3, .ref a3), (4, .int i4')] [] S rc rs) {S : zm_S} (h : zf_L_law_J4494 N k a0 a1 a2 a3 i4 rc rs S = some res) : zw p l e room_1 s m #[Value.ref zb] below meth c (lw_Z below #[Value.ref zb] s) 8 zk_E V 601024 7293034 4494 [(0, .ref a0), (1, .ref a1), (2, .ref a2), (3, .ref a3), (4, .int i4)] [] S rc rs := by
  unfold zf_L_law_J4494 at h
  refine zw_aload_n hX dL_law_4494 rfl ?_
  refine zw_aload_n hX dL_law_4495 rfl ?_
  refine zw_iload hX dL_law_4496 rfl ?_
  refine zw_iconst (v := (1 : Int32)) hX dL_law_4498 (by decide) ?_
  refine zw_iadd hX dL_law_4499 ?_
  obtain ⟨v718, g, h⟩ := zb_some h
  refine zw_xi hX dL_law_4500 g ?_
  refine zw_aload_n hX dL_law_4501 rfl ?_
  refine zw_iload hX dL_law_4502 rfl ?_
  refine zw_iconst (v := (2 : Int32)) hX dL_law_4504 (by decide) ?_
  refine zw_iadd hX dL_law_4505 ?_
  obtain ⟨v719, g, h⟩ := zb_some h
  refine zw_xi hX dL_law_4506 g ?_
  refine zw_aload_n hX dL_law_4507 rfl ?_
  by_cases hb4508 : 2 ≤ rc ∧ 12 ≤ rs
  · rw [if_pos hb4508] at h
    obtain ⟨r722, g, h⟩ := zb_some h
    refine zc_SH (as := [.ref a1, .int v718, .int v719, .ref a3]) hX (zt_L_out hlt (d := d - 1) (by omega) g) zl_L_470 dL_law_4508 ⟨rfl, rfl, Nat.le_of_ble_eq_true rfl⟩ ⟨by omega, by omega⟩ hb4508 ?_ ?_
    · rintro _ _ ⟨rfl, rfl⟩
      refine zw_istore hX dL_law_4511 (by decide) ?_
      refine zw_aload_n hX dL_law_4513 rfl ?_
      refine zw_aload_n hX dL_law_4514 rfl ?_
      refine zw_iload hX dL_law_4515 rfl ?_
      refine zw_iconst (v := (1 : Int32)) hX dL_law_4517 (by decide) ?_
      refine zw_iadd hX dL_law_4518 ?_
      obtain ⟨v723, g, h⟩ := zb_some h
      refine zw_xi hX dL_law_4519 g ?_
      refine zw_aload_n hX dL_law_4520 rfl ?_
      refine zw_iload hX dL_law_4521 rfl ?_
      refine zw_iconst (v := (2 : Int32)) hX dL_law_4523 (by decide) ?_
      refine zw_iadd hX dL_law_4524 ?_
      obtain ⟨v724, g, h⟩ := zb_some h
      refine zw_xi hX dL_law_4525 g ?_
      obtain ⟨_, gi, h⟩ := zb_some h
      obtain ⟨r726, g, h⟩ := zb_some h
      refine zc_Vi (as := [.int v723, .int v724]) hX gi (zt_X18_out (d := d - 1) (by omega) g) zl_L_472 rfl dL_law_4526 ⟨rfl, rfl, Nat.le_of_ble_eq_true rfl⟩ ⟨by omega, by omega⟩ ?_
      refine zw_istore hX dL_law_4529 (by decide) ?_
      refine zw_aload_n hX dL_law_4531 rfl ?_
      obtain ⟨_, gi, h⟩ := zb_some h
      obtain ⟨r728, g, h⟩ := zb_some h
      refine zc_Vi (as := []) hX gi (zt_X18_thrown (d := d - 1) (by omega) g) zl_L_281 rfl dL_law_4532 ⟨rfl, rfl, Nat.le_of_ble_eq_true rfl⟩ ⟨by omega, by omega⟩ ?_
      refine zw_iload hX dL_law_4535 rfl ?_
      refine zw_icmp_eq (tgt := 4542) hX dL_law_4537 (by decide) (fun c4537 => ?_) (fun c4537 => ?_)
      · rw [if_pos c4537] at h
        refine zw_iload hX dL_law_4542 rfl ?_
        refine zw_if_ne (tgt := 4559) hX dL_law_4544 (by decide) (fun c4544 => ?_) (fun c4544 => ?_)
        · rw [if_neg c4544] at h
          refine zw_goto (tgt := 6002) hX dL_law_4559 (by decide) ?_
          refine zw_iinc (v := (i4 + (7 : Int32))) hX dL_law_6002 rfl rfl (by decide) ?_
          refine zw_goto (tgt := 23) hX dL_law_6005 (by decide) ?_
          refine zw_sub (lv' := [(0, .ref a0), (1, .ref a1), (2, .ref a2), (3, .ref a3), (4, .int (i4 + (7 : Int32)))]) (List.forall_mem_cons.mpr ⟨rfl, (List.forall_mem_cons.mpr ⟨rfl, (List.forall_mem_cons.mpr ⟨rfl, (List.forall_mem_cons.mpr ⟨rfl, (List.forall_mem_cons.mpr ⟨rfl, zs_nil⟩)⟩)⟩)⟩)⟩) ?_
          exact hrec _ _ _ _ h
        · rw [if_pos c4544] at h
          refine zw_aload_n hX dL_law_4547 rfl ?_
          refine zw_iconst (v := (0 : Int32)) hX dL_law_4548 (by decide) ?_
          obtain ⟨w729, g, h⟩ := zb_some h
          refine zw_xl hX dL_law_4549 g ?_
          refine zw_iload hX dL_law_4550 rfl ?_
          refine zw_i2l hX dL_law_4552 ?_
          refine zw_lcmp hX dL_law_4553 ?_
          refine zw_if_eq (tgt := 4559) hX dL_law_4554 (by decide) (fun c4554 => ?_) (fun c4554 => ?_)
          · rw [if_pos c4554] at h
            refine zw_goto (tgt := 6002) hX dL_law_4559 (by decide) ?_
            refine zw_iinc (v := (i4 + (7 : Int32))) hX dL_law_6002 rfl rfl (by decide) ?_
            refine zw_goto (tgt := 23) hX dL_law_6005 (by decide) ?_
            refine zw_sub (lv' := [(0, .ref a0), (1, .ref a1), (2, .ref a2), (3, .ref a3), (4, .int (i4 + (7 : Int32)))]) (List.forall_mem_cons.mpr ⟨rfl, (List.forall_mem_cons.mpr ⟨rfl, (List.forall_mem_cons.mpr ⟨rfl, (List.forall_mem_cons.mpr ⟨rfl, (List.forall_mem_cons.mpr ⟨rfl, zs_nil⟩)⟩)⟩)⟩)⟩) ?_
            exact hrec _ _ _ _ h
          · rw [if_neg c4554] at h
            refine zw_iconst (v := (0 : Int32)) hX dL_law_4557 (by decide) ?_
            cases h
      · rw [if_neg c4537] at h
        refine zw_iconst (v := (0 : Int32)) hX dL_law_4540 (by decide) ?_
        cases h
    · intro _ _ hx
      exact hx.elim
  · rw [if_neg hb4508] at h
    cases h
set_option maxHeartbeats 4000000 in
set_option maxRecDepth 100000 in
theorem zt_L_law_J4562 {p : Program} {l : Launch} {e : Env} {s : State} {m : MethodId} {zb : Nat} {below : List Frame} {meth : Method} {c : Code} {V : zm_V} {d : Nat} {nm : String} (hlt : l.stackTraces = false) (hV : V.2.2.2.1 = s.heap.size) (hX : zm_X p room_1 s m #[Value.ref zb] meth c RL nm cL_law 8 zk_E V 601024 7293034) (hr : meth.sig.returnType = ret) (hR : d ≤ room_1.frames ∧ 64 * d ≤ room_1.locals) (hd : 46 ≤ d) {N : Nat} {k : Nat → Nat → Nat → Nat → Int32 → Nat → Nat → zm_S → Option ((Int32 × zm_S) ⊕ ((Unit) × zm_S))} {rc rs : Nat} {a0 : Nat} {a1 : Nat} {a2 : Nat} {a3 : Nat} {i4 : Int32} {res : (Int32 × zm_S) ⊕ ((Unit) × zm_S)} {out : (Int32 × zm_S)}   (hf : ∀ o, res = .inl o → o = out) (hk : ∀ (S' : zm_S) (rc rs : Nat), res = .inr ((), S') → zw p l e room_1 s m #[Value.ref zb] below meth c (lw_Z below #[Value.ref zb] s) 8 zk_E V 601024 7293034 6008 [] [] S' rc rs) (hrec : ∀ (i4' : Int32) (rc rs : Nat) (S : zm_S), k a0 a1 a2 a3 i4' rc rs S = some res → zw p l e room_1 s m #[Value.ref zb] below meth c (lw_Z below #[Value.ref zb] s) 8 zk_E V 601024 7293034 23 [(0, .ref a0), (1, .ref a1), (2, .ref a2), (3, .ref a3), (4, .int i4')] [] S rc rs) {S : zm_S} (h : zf_L_law_J4562 N k a0 a1 a2 a3 i4 rc rs S = some res) : zw p l e room_1 s m #[Value.ref zb] below meth c (lw_Z below #[Value.ref zb] s) 8 zk_E V 601024 7293034 4562 [(0, .ref a0), (1, .ref a1), (2, .ref a2), (3, .ref a3), (4, .int i4)] [] S rc rs := by
  unfold zf_L_law_J4562 at h
  refine zw_aload_n hX dL_law_4562 rfl ?_
  refine zw_aload_n hX dL_law_4563 rfl ?_
  refine zw_iload hX dL_law_4564 rfl ?_
  refine zw_iconst (v := (1 : Int32)) hX dL_law_4566 (by decide) ?_
  refine zw_iadd hX dL_law_4567 ?_
  obtain ⟨v730, g, h⟩ := zb_some h
  refine zw_xi hX dL_law_4568 g ?_
  refine zw_aload_n hX dL_law_4569 rfl ?_
  by_cases hb4570 : 2 ≤ rc ∧ 12 ≤ rs
  · rw [if_pos hb4570] at h
    obtain ⟨r733, g, h⟩ := zb_some h
    refine zc_SH (as := [.ref a1, .int v730, .ref a3]) hX (zt_L_failed hlt (d := d - 1) (by omega) g) zl_L_473 dL_law_4570 ⟨rfl, rfl, Nat.le_of_ble_eq_true rfl⟩ ⟨by omega, by omega⟩ hb4570 ?_ ?_
    · rintro _ _ ⟨rfl, rfl⟩
      refine zw_istore hX dL_law_4573 (by decide) ?_
      refine zw_aload_n hX dL_law_4575 rfl ?_
      refine zw_aload_n hX dL_law_4576 rfl ?_
      refine zw_iload hX dL_law_4577 rfl ?_
      refine zw_iconst (v := (1 : Int32)) hX dL_law_4579 (by decide) ?_
      refine zw_iadd hX dL_law_4580 ?_
      obtain ⟨v734, g, h⟩ := zb_some h
      refine zw_xi hX dL_law_4581 g ?_
      obtain ⟨_, gi, h⟩ := zb_some h
      obtain ⟨r736, g, h⟩ := zb_some h
      refine zc_Vi (as := [.int v734]) hX gi (zt_X18_failed (d := d - 1) (by omega) g) zl_L_475 rfl dL_law_4582 ⟨rfl, rfl, Nat.le_of_ble_eq_true rfl⟩ ⟨by omega, by omega⟩ ?_
      refine zw_istore hX dL_law_4585 (by decide) ?_
      refine zw_aload_n hX dL_law_4587 rfl ?_
      obtain ⟨_, gi, h⟩ := zb_some h
      obtain ⟨r738, g, h⟩ := zb_some h
      refine zc_Vi (as := []) hX gi (zt_X18_thrown (d := d - 1) (by omega) g) zl_L_281 rfl dL_law_4588 ⟨rfl, rfl, Nat.le_of_ble_eq_true rfl⟩ ⟨by omega, by omega⟩ ?_
      refine zw_iload hX dL_law_4591 rfl ?_
      refine zw_icmp_eq (tgt := 4598) hX dL_law_4593 (by decide) (fun c4593 => ?_) (fun c4593 => ?_)
      · rw [if_pos c4593] at h
        refine zw_iload hX dL_law_4598 rfl ?_
        refine zw_if_ne (tgt := 4615) hX dL_law_4600 (by decide) (fun c4600 => ?_) (fun c4600 => ?_)
        · rw [if_neg c4600] at h
          refine zw_goto (tgt := 6002) hX dL_law_4615 (by decide) ?_
          refine zw_iinc (v := (i4 + (7 : Int32))) hX dL_law_6002 rfl rfl (by decide) ?_
          refine zw_goto (tgt := 23) hX dL_law_6005 (by decide) ?_
          refine zw_sub (lv' := [(0, .ref a0), (1, .ref a1), (2, .ref a2), (3, .ref a3), (4, .int (i4 + (7 : Int32)))]) (List.forall_mem_cons.mpr ⟨rfl, (List.forall_mem_cons.mpr ⟨rfl, (List.forall_mem_cons.mpr ⟨rfl, (List.forall_mem_cons.mpr ⟨rfl, (List.forall_mem_cons.mpr ⟨rfl, zs_nil⟩)⟩)⟩)⟩)⟩) ?_
          exact hrec _ _ _ _ h
        · rw [if_pos c4600] at h
          refine zw_aload_n hX dL_law_4603 rfl ?_
          refine zw_iconst (v := (0 : Int32)) hX dL_law_4604 (by decide) ?_
          obtain ⟨w739, g, h⟩ := zb_some h
          refine zw_xl hX dL_law_4605 g ?_
          refine zw_iload hX dL_law_4606 rfl ?_
          refine zw_i2l hX dL_law_4608 ?_
          refine zw_lcmp hX dL_law_4609 ?_
          refine zw_if_eq (tgt := 4615) hX dL_law_4610 (by decide) (fun c4610 => ?_) (fun c4610 => ?_)
          · rw [if_pos c4610] at h
            refine zw_goto (tgt := 6002) hX dL_law_4615 (by decide) ?_
            refine zw_iinc (v := (i4 + (7 : Int32))) hX dL_law_6002 rfl rfl (by decide) ?_
            refine zw_goto (tgt := 23) hX dL_law_6005 (by decide) ?_
            refine zw_sub (lv' := [(0, .ref a0), (1, .ref a1), (2, .ref a2), (3, .ref a3), (4, .int (i4 + (7 : Int32)))]) (List.forall_mem_cons.mpr ⟨rfl, (List.forall_mem_cons.mpr ⟨rfl, (List.forall_mem_cons.mpr ⟨rfl, (List.forall_mem_cons.mpr ⟨rfl, (List.forall_mem_cons.mpr ⟨rfl, zs_nil⟩)⟩)⟩)⟩)⟩) ?_
            exact hrec _ _ _ _ h
          · rw [if_neg c4610] at h
            refine zw_iconst (v := (0 : Int32)) hX dL_law_4613 (by decide) ?_
            cases h
      · rw [if_neg c4593] at h
        refine zw_iconst (v := (0 : Int32)) hX dL_law_4596 (by decide) ?_
        cases h
    · intro _ _ hx
      exact hx.elim
  · rw [if_neg hb4570] at h
    cases h
set_option maxHeartbeats 4000000 in
set_option maxRecDepth 100000 in
theorem zt_L_law_J4618 {p : Program} {l : Launch} {e : Env} {s : State} {m : MethodId} {zb : Nat} {below : List Frame} {meth : Method} {c : Code} {V : zm_V} {d : Nat} {nm : String} (hlt : l.stackTraces = false) (hV : V.2.2.2.1 = s.heap.size) (hX : zm_X p room_1 s m #[Value.ref zb] meth c RL nm cL_law 8 zk_E V 601024 7293034) (hr : meth.sig.returnType = ret) (hR : d ≤ room_1.frames ∧ 64 * d ≤ room_1.locals) (hd : 46 ≤ d) {N : Nat} {k : Nat → Nat → Nat → Nat → Int32 → Nat → Nat → zm_S → Option ((Int32 × zm_S) ⊕ ((Unit) × zm_S))} {rc rs : Nat} {a0 : Nat} {a1 : Nat} {a2 : Nat} {a3 : Nat} {i4 : Int32} {res : (Int32 × zm_S) ⊕ ((Unit) × zm_S)} {out : (Int32 × zm_S)}   (hf : ∀ o, res = .inl o → o = out) (hk : ∀ (S' : zm_S) (rc rs : Nat), res = .inr ((), S') → zw p l e room_1 s m #[Value.ref zb] below meth c (lw_Z below #[Value.ref zb] s) 8 zk_E V 601024 7293034 6008 [] [] S' rc rs) (hrec : ∀ (i4' : Int32) (rc rs : Nat) (S : zm_S), k a0 a1 a2 a3 i4' rc rs S = some res → zw p l e room_1 s m #[Value.ref zb] below meth c (lw_Z below #[Value.ref zb] s) 8 zk_E V 601024 7293034 23 [(0, .ref a0), (1, .ref a1), (2, .ref a2), (3, .ref a3), (4, .int i4')] [] S rc rs) {S : zm_S} (h : zf_L_law_J4618 N k a0 a1 a2 a3 i4 rc rs S = some res) : zw p l e room_1 s m #[Value.ref zb] below meth c (lw_Z below #[Value.ref zb] s) 8 zk_E V 601024 7293034 4618 [(0, .ref a0), (1, .ref a1), (2, .ref a2), (3, .ref a3), (4, .int i4)] [] S rc rs := by
  unfold zf_L_law_J4618 at h
  refine zw_aload_n hX dL_law_4618 rfl ?_
  refine zw_aload_n hX dL_law_4619 rfl ?_
  refine zw_iload hX dL_law_4620 rfl ?_
  refine zw_iconst (v := (1 : Int32)) hX dL_law_4622 (by decide) ?_
  refine zw_iadd hX dL_law_4623 ?_
  obtain ⟨v740, g, h⟩ := zb_some h
  refine zw_xi hX dL_law_4624 g ?_
  refine zw_aload_n hX dL_law_4625 rfl ?_
  refine zw_iload hX dL_law_4626 rfl ?_
  refine zw_iconst (v := (2 : Int32)) hX dL_law_4628 (by decide) ?_
  refine zw_iadd hX dL_law_4629 ?_
  obtain ⟨v741, g, h⟩ := zb_some h
  refine zw_xi hX dL_law_4630 g ?_
  refine zw_aload_n hX dL_law_4631 rfl ?_
  by_cases hb4632 : 2 ≤ rc ∧ 12 ≤ rs
  · rw [if_pos hb4632] at h
    obtain ⟨r744, g, h⟩ := zb_some h
    refine zc_SH (as := [.ref a1, .int v740, .int v741, .ref a3]) hX (zt_L_address hlt (d := d - 1) (by omega) g) zl_L_476 dL_law_4632 ⟨rfl, rfl, Nat.le_of_ble_eq_true rfl⟩ ⟨by omega, by omega⟩ hb4632 ?_ ?_
    · rintro _ _ ⟨rfl, rfl⟩
      refine zw_istore hX dL_law_4635 (by decide) ?_
      refine zw_aload_n hX dL_law_4637 rfl ?_
      refine zw_aload_n hX dL_law_4638 rfl ?_
      refine zw_iload hX dL_law_4639 rfl ?_
      refine zw_iconst (v := (1 : Int32)) hX dL_law_4641 (by decide) ?_
      refine zw_iadd hX dL_law_4642 ?_
      obtain ⟨v745, g, h⟩ := zb_some h
      refine zw_xi hX dL_law_4643 g ?_
      refine zw_aload_n hX dL_law_4644 rfl ?_
      refine zw_iload hX dL_law_4645 rfl ?_
      refine zw_iconst (v := (2 : Int32)) hX dL_law_4647 (by decide) ?_
      refine zw_iadd hX dL_law_4648 ?_
      obtain ⟨v746, g, h⟩ := zb_some h
      refine zw_xi hX dL_law_4649 g ?_
      obtain ⟨_, gi, h⟩ := zb_some h
      obtain ⟨r748, g, h⟩ := zb_some h
      refine zc_Vi (as := [.int v745, .int v746]) hX gi (zt_X18_address (d := d - 1) (by omega) g) zl_L_478 rfl dL_law_4650 ⟨rfl, rfl, Nat.le_of_ble_eq_true rfl⟩ ⟨by omega, by omega⟩ ?_
      refine zw_istore hX dL_law_4653 (by decide) ?_
      refine zw_aload_n hX dL_law_4655 rfl ?_
      obtain ⟨_, gi, h⟩ := zb_some h
      obtain ⟨r750, g, h⟩ := zb_some h
      refine zc_Vi (as := []) hX gi (zt_X18_thrown (d := d - 1) (by omega) g) zl_L_281 rfl dL_law_4656 ⟨rfl, rfl, Nat.le_of_ble_eq_true rfl⟩ ⟨by omega, by omega⟩ ?_
      refine zw_iload hX dL_law_4659 rfl ?_
      refine zw_icmp_eq (tgt := 4666) hX dL_law_4661 (by decide) (fun c4661 => ?_) (fun c4661 => ?_)
      · rw [if_pos c4661] at h
        refine zw_iload hX dL_law_4666 rfl ?_
        refine zw_if_ne (tgt := 4683) hX dL_law_4668 (by decide) (fun c4668 => ?_) (fun c4668 => ?_)
        · rw [if_neg c4668] at h
          refine zw_goto (tgt := 6002) hX dL_law_4683 (by decide) ?_
          refine zw_iinc (v := (i4 + (7 : Int32))) hX dL_law_6002 rfl rfl (by decide) ?_
          refine zw_goto (tgt := 23) hX dL_law_6005 (by decide) ?_
          refine zw_sub (lv' := [(0, .ref a0), (1, .ref a1), (2, .ref a2), (3, .ref a3), (4, .int (i4 + (7 : Int32)))]) (List.forall_mem_cons.mpr ⟨rfl, (List.forall_mem_cons.mpr ⟨rfl, (List.forall_mem_cons.mpr ⟨rfl, (List.forall_mem_cons.mpr ⟨rfl, (List.forall_mem_cons.mpr ⟨rfl, zs_nil⟩)⟩)⟩)⟩)⟩) ?_
          exact hrec _ _ _ _ h
        · rw [if_pos c4668] at h
          refine zw_aload_n hX dL_law_4671 rfl ?_
          refine zw_iconst (v := (0 : Int32)) hX dL_law_4672 (by decide) ?_
          obtain ⟨w751, g, h⟩ := zb_some h
          refine zw_xl hX dL_law_4673 g ?_
          refine zw_iload hX dL_law_4674 rfl ?_
          refine zw_i2l hX dL_law_4676 ?_
          refine zw_lcmp hX dL_law_4677 ?_
          refine zw_if_eq (tgt := 4683) hX dL_law_4678 (by decide) (fun c4678 => ?_) (fun c4678 => ?_)
          · rw [if_pos c4678] at h
            refine zw_goto (tgt := 6002) hX dL_law_4683 (by decide) ?_
            refine zw_iinc (v := (i4 + (7 : Int32))) hX dL_law_6002 rfl rfl (by decide) ?_
            refine zw_goto (tgt := 23) hX dL_law_6005 (by decide) ?_
            refine zw_sub (lv' := [(0, .ref a0), (1, .ref a1), (2, .ref a2), (3, .ref a3), (4, .int (i4 + (7 : Int32)))]) (List.forall_mem_cons.mpr ⟨rfl, (List.forall_mem_cons.mpr ⟨rfl, (List.forall_mem_cons.mpr ⟨rfl, (List.forall_mem_cons.mpr ⟨rfl, (List.forall_mem_cons.mpr ⟨rfl, zs_nil⟩)⟩)⟩)⟩)⟩) ?_
            exact hrec _ _ _ _ h
          · rw [if_neg c4678] at h
            refine zw_iconst (v := (0 : Int32)) hX dL_law_4681 (by decide) ?_
            cases h
      · rw [if_neg c4661] at h
        refine zw_iconst (v := (0 : Int32)) hX dL_law_4664 (by decide) ?_
        cases h
    · intro _ _ hx
      exact hx.elim
  · rw [if_neg hb4632] at h
    cases h

