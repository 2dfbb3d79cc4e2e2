/-! ===== functions of methods, by program (wip/whole/tools/gen11.py) ===== -/


set_option maxHeartbeats 4000000 in
set_option maxRecDepth 100000 in
theorem zt_L_law_J1559 {p : Program} {l : Launch} {e : Env} {s : State} {m : MethodId} {zb : Nat} {below : List Frame} {meth : Method} {c : Code} {V : zm_V} {d : Nat} {nm : String} (hlt : l.stackTraces = false) (hV : V.2.2.2.1 = s.heap.size) (hX : zm_X p room_1 s m #[Value.ref zb] meth c RL nm cL_law 8 zk_E V 601024 7293034) (hr : meth.sig.returnType = ret) (hR : d ≤ room_1.frames ∧ 64 * d ≤ room_1.locals) (hd : 46 ≤ d) {N : Nat} {k : Nat → Nat → Nat → Nat → Int32 → Nat → Nat → zm_S → Option ((Int32 × zm_S) ⊕ ((Unit) × zm_S))} {rc rs : Nat} {a0 : Nat} {a1 : Nat} {a2 : Nat} {a3 : Nat} {i4 : Int32} {res : (Int32 × zm_S) ⊕ ((Unit) × zm_S)} {out : (Int32 × zm_S)}   (hf : ∀ o, res = .inl o → o = out) (hk : ∀ (S' : zm_S) (rc rs : Nat), res = .inr ((), S') → zw p l e room_1 s m #[Value.ref zb] below meth c (lw_Z below #[Value.ref zb] s) 8 zk_E V 601024 7293034 6008 [] [] S' rc rs) (hrec : ∀ (i4' : Int32) (rc rs : Nat) (S : zm_S), k a0 a1 a2 a3 i4' rc rs S = some res → zw p l e room_1 s m #[Value.ref zb] below meth c (lw_Z below #[Value.ref zb] s) 8 zk_E V 601024 7293034 23 [(0, .ref a0), (1, .ref a1), (2, .ref a2), (3, .ref a3), (4, .int i4')] [] S rc rs) {S : zm_S} (h : zf_L_law_J1559 N k a0 a1 a2 a3 i4 rc rs S = some res) : zw p l e room_1 s m #[Value.ref zb] below meth c (lw_Z below #[Value.ref zb] s) 8 zk_E V 601024 7293034 1559 [(0, .ref a0), (1, .ref a1), (2, .ref a2), (3, .ref a3), (4, .int i4)] [] S rc rs := by
  unfold zf_L_law_J1559 at h
  refine zw_aload_n hX dL_law_1559 rfl ?_
  refine zw_aload_n hX dL_law_1560 rfl ?_
  refine zw_iload hX dL_law_1561 rfl ?_
  refine zw_iconst (v := (1 : Int32)) hX dL_law_1563 (by decide) ?_
  refine zw_iadd hX dL_law_1564 ?_
  obtain ⟨v214, g, h⟩ := zb_some h
  refine zw_xi hX dL_law_1565 g ?_
  refine zw_aload_n hX dL_law_1566 rfl ?_
  refine zw_iload hX dL_law_1567 rfl ?_
  refine zw_iconst (v := (2 : Int32)) hX dL_law_1569 (by decide) ?_
  refine zw_iadd hX dL_law_1570 ?_
  obtain ⟨v215, g, h⟩ := zb_some h
  refine zw_xi hX dL_law_1571 g ?_
  refine zw_aload_n hX dL_law_1572 rfl ?_
  refine zw_iload hX dL_law_1573 rfl ?_
  refine zw_iconst (v := (3 : Int32)) hX dL_law_1575 (by decide) ?_
  refine zw_iadd hX dL_law_1576 ?_
  obtain ⟨v216, g, h⟩ := zb_some h
  refine zw_xi hX dL_law_1577 g ?_
  refine zw_i2l hX dL_law_1578 ?_
  refine zw_bipush (v := (32 : Int32)) hX dL_law_1579 (by decide) ?_
  refine zw_lshl hX dL_law_1581 ?_
  refine zw_aload_n hX dL_law_1582 rfl ?_
  refine zw_iload hX dL_law_1583 rfl ?_
  refine zw_iconst (v := (4 : Int32)) hX dL_law_1585 (by decide) ?_
  refine zw_iadd hX dL_law_1586 ?_
  obtain ⟨v217, g, h⟩ := zb_some h
  refine zw_xi hX dL_law_1587 g ?_
  refine zw_i2l hX dL_law_1588 ?_
  refine zw_ldc2 (v := (4294967295 : Int64)) hX dL_law_1589 zl_L_324 ?_
  refine zw_land hX dL_law_1592 ?_
  refine zw_lor hX dL_law_1593 ?_
  refine zw_aload_n hX dL_law_1594 rfl ?_
  by_cases hb1595 : 2 ≤ rc ∧ 12 ≤ rs
  · rw [if_pos hb1595] at h
    obtain ⟨r220, g, h⟩ := zb_some h
    refine zc_SH (as := [.ref a1, .int v214, .int v215, .long (((v216).toInt64 <<< (((32 : Int32)).toInt64 &&& 63)) ||| ((v217).toInt64 &&& (4294967295 : Int64))), .ref a3]) hX (zt_L_measure hlt (d := d - 1) (by omega) g) zl_L_341 dL_law_1595 ⟨rfl, rfl, Nat.le_of_ble_eq_true rfl⟩ ⟨by omega, by omega⟩ hb1595 ?_ ?_
    · rintro _ _ ⟨rfl, rfl⟩
      refine zw_istore hX dL_law_1598 (by decide) ?_
      refine zw_aload_n hX dL_law_1600 rfl ?_
      refine zw_aload_n hX dL_law_1601 rfl ?_
      refine zw_iload hX dL_law_1602 rfl ?_
      refine zw_iconst (v := (1 : Int32)) hX dL_law_1604 (by decide) ?_
      refine zw_iadd hX dL_law_1605 ?_
      obtain ⟨v221, g, h⟩ := zb_some h
      refine zw_xi hX dL_law_1606 g ?_
      refine zw_aload_n hX dL_law_1607 rfl ?_
      refine zw_iload hX dL_law_1608 rfl ?_
      refine zw_iconst (v := (2 : Int32)) hX dL_law_1610 (by decide) ?_
      refine zw_iadd hX dL_law_1611 ?_
      obtain ⟨v222, g, h⟩ := zb_some h
      refine zw_xi hX dL_law_1612 g ?_
      refine zw_aload_n hX dL_law_1613 rfl ?_
      refine zw_iload hX dL_law_1614 rfl ?_
      refine zw_iconst (v := (3 : Int32)) hX dL_law_1616 (by decide) ?_
      refine zw_iadd hX dL_law_1617 ?_
      obtain ⟨v223, g, h⟩ := zb_some h
      refine zw_xi hX dL_law_1618 g ?_
      refine zw_i2l hX dL_law_1619 ?_
      refine zw_bipush (v := (32 : Int32)) hX dL_law_1620 (by decide) ?_
      refine zw_lshl hX dL_law_1622 ?_
      refine zw_aload_n hX dL_law_1623 rfl ?_
      refine zw_iload hX dL_law_1624 rfl ?_
      refine zw_iconst (v := (4 : Int32)) hX dL_law_1626 (by decide) ?_
      refine zw_iadd hX dL_law_1627 ?_
      obtain ⟨v224, g, h⟩ := zb_some h
      refine zw_xi hX dL_law_1628 g ?_
      refine zw_i2l hX dL_law_1629 ?_
      refine zw_ldc2 (v := (4294967295 : Int64)) hX dL_law_1630 zl_L_324 ?_
      refine zw_land hX dL_law_1633 ?_
      refine zw_lor hX dL_law_1634 ?_
      obtain ⟨_, gi, h⟩ := zb_some h
      obtain ⟨r226, g, h⟩ := zb_some h
      refine zc_Vi (as := [.int v221, .int v222, .long (((v223).toInt64 <<< (((32 : Int32)).toInt64 &&& 63)) ||| ((v224).toInt64 &&& (4294967295 : Int64)))]) hX gi (zt_X18_measure (d := d - 1) (by omega) g) zl_L_344 rfl dL_law_1635 ⟨rfl, rfl, Nat.le_of_ble_eq_true rfl⟩ ⟨by omega, by omega⟩ ?_
      refine zw_istore hX dL_law_1638 (by decide) ?_
      refine zw_aload_n hX dL_law_1640 rfl ?_
      obtain ⟨_, gi, h⟩ := zb_some h
      obtain ⟨r228, g, h⟩ := zb_some h
      refine zc_Vi (as := []) hX gi (zt_X18_thrown (d := d - 1) (by omega) g) zl_L_281 rfl dL_law_1641 ⟨rfl, rfl, Nat.le_of_ble_eq_true rfl⟩ ⟨by omega, by omega⟩ ?_
      refine zw_iload hX dL_law_1644 rfl ?_
      refine zw_icmp_eq (tgt := 1651) hX dL_law_1646 (by decide) (fun c1646 => ?_) (fun c1646 => ?_)
      · rw [if_pos c1646] at h
        refine zw_iload hX dL_law_1651 rfl ?_
        refine zw_if_ne (tgt := 1668) hX dL_law_1653 (by decide) (fun c1653 => ?_) (fun c1653 => ?_)
        · rw [if_neg c1653] at h
          refine zw_goto (tgt := 6002) hX dL_law_1668 (by decide) ?_
          refine zw_iinc (v := (i4 + (7 : Int32))) hX dL_law_6002 rfl rfl (by decide) ?_
          refine zw_goto (tgt := 23) hX dL_law_6005 (by decide) ?_
          refine zw_sub (lv' := [(0, .ref a0), (1, .ref a1), (2, .ref a2), (3, .ref a3), (4, .int (i4 + (7 : Int32)))]) (List.forall_mem_cons.mpr ⟨rfl, (List.forall_mem_cons.mpr ⟨rfl, (List.forall_mem_cons.mpr ⟨rfl, (List.forall_mem_cons.mpr ⟨rfl, (List.forall_mem_cons.mpr ⟨rfl, zs_nil⟩)⟩)⟩)⟩)⟩) ?_
          exact hrec _ _ _ _ h
        · rw [if_pos c1653] at h
          refine zw_aload_n hX dL_law_1656 rfl ?_
          refine zw_iconst (v := (0 : Int32)) hX dL_law_1657 (by decide) ?_
          obtain ⟨w229, g, h⟩ := zb_some h
          refine zw_xl hX dL_law_1658 g ?_
          refine zw_iload hX dL_law_1659 rfl ?_
          refine zw_i2l hX dL_law_1661 ?_
          refine zw_lcmp hX dL_law_1662 ?_
          refine zw_if_eq (tgt := 1668) hX dL_law_1663 (by decide) (fun c1663 => ?_) (fun c1663 => ?_)
          · rw [if_pos c1663] at h
            refine zw_goto (tgt := 6002) hX dL_law_1668 (by decide) ?_
            refine zw_iinc (v := (i4 + (7 : Int32))) hX dL_law_6002 rfl rfl (by decide) ?_
            refine zw_goto (tgt := 23) hX dL_law_6005 (by decide) ?_
            refine zw_sub (lv' := [(0, .ref a0), (1, .ref a1), (2, .ref a2), (3, .ref a3), (4, .int (i4 + (7 : Int32)))]) (List.forall_mem_cons.mpr ⟨rfl, (List.forall_mem_cons.mpr ⟨rfl, (List.forall_mem_cons.mpr ⟨rfl, (List.forall_mem_cons.mpr ⟨rfl, (List.forall_mem_cons.mpr ⟨rfl, zs_nil⟩)⟩)⟩)⟩)⟩) ?_
            exact hrec _ _ _ _ h
          · rw [if_neg c1663] at h
            refine zw_iconst (v := (0 : Int32)) hX dL_law_1666 (by decide) ?_
            cases h
      · rw [if_neg c1646] at h
        refine zw_iconst (v := (0 : Int32)) hX dL_law_1649 (by decide) ?_
        cases h
    · intro _ _ hx
      exact hx.elim
  · rw [if_neg hb1595] at h
    cases h
set_option maxHeartbeats 4000000 in
set_option maxRecDepth 100000 in
theorem zt_L_law_J1671 {p : Program} {l : Launch} {e : Env} {s : State} {m : MethodId} {zb : Nat} {below : List Frame} {meth : Method} {c : Code} {V : zm_V} {d : Nat} {nm : String} (hlt : l.stackTraces = false) (hV : V.2.2.2.1 = s.heap.size) (hX : zm_X p room_1 s m #[Value.ref zb] meth c RL nm cL_law 8 zk_E V 601024 7293034) (hr : meth.sig.returnType = ret) (hR : d ≤ room_1.frames ∧ 64 * d ≤ room_1.locals) (hd : 46 ≤ d) {N : Nat} {k : Nat → Nat → Nat → Nat → Int32 → Nat → Nat → zm_S → Option ((Int32 × zm_S) ⊕ ((Unit) × zm_S))} {rc rs : Nat} {a0 : Nat} {a1 : Nat} {a2 : Nat} {a3 : Nat} {i4 : Int32} {res : (Int32 × zm_S) ⊕ ((Unit) × zm_S)} {out : (Int32 × zm_S)}   (hf : ∀ o, res = .inl o → o = out) (hk : ∀ (S' : zm_S) (rc rs : Nat), res = .inr ((), S') → zw p l e room_1 s m #[Value.ref zb] below meth c (lw_Z below #[Value.ref zb] s) 8 zk_E V 601024 7293034 6008 [] [] S' rc rs) (hrec : ∀ (i4' : Int32) (rc rs : Nat) (S : zm_S), k a0 a1 a2 a3 i4' rc rs S = some res → zw p l e room_1 s m #[Value.ref zb] below meth c (lw_Z below #[Value.ref zb] s) 8 zk_E V 601024 7293034 23 [(0, .ref a0), (1, .ref a1), (2, .ref a2), (3, .ref a3), (4, .int i4')] [] S rc rs) {S : zm_S} (h : zf_L_law_J1671 N k a0 a1 a2 a3 i4 rc rs S = some res) : zw p l e room_1 s m #[Value.ref zb] below meth c (lw_Z below #[Value.ref zb] s) 8 zk_E V 601024 7293034 1671 [(0, .ref a0), (1, .ref a1), (2, .ref a2), (3, .ref a3), (4, .int i4)] [] S rc rs := by
  unfold zf_L_law_J1671 at h
  refine zw_aload_n hX dL_law_1671 rfl ?_
  refine zw_aload_n hX dL_law_1672 rfl ?_
  refine zw_iload hX dL_law_1673 rfl ?_
  refine zw_iconst (v := (1 : Int32)) hX dL_law_1675 (by decide) ?_
  refine zw_iadd hX dL_law_1676 ?_
  obtain ⟨v230, g, h⟩ := zb_some h
  refine zw_xi hX dL_law_1677 g ?_
  refine zw_aload_n hX dL_law_1678 rfl ?_
  by_cases hb1679 : 1 ≤ rc ∧ 6 ≤ rs
  · rw [if_pos hb1679] at h
    obtain ⟨r233, g, h⟩ := zb_some h
    refine zc_SH (as := [.ref a1, .int v230, .ref a3]) hX (zt_L_check hlt (d := d - 1) (by omega) g) zl_L_345 dL_law_1679 ⟨rfl, rfl, Nat.le_of_ble_eq_true rfl⟩ ⟨by omega, by omega⟩ hb1679 ?_ ?_
    · rintro _ _ ⟨rfl, rfl⟩
      refine zw_istore hX dL_law_1682 (by decide) ?_
      refine zw_aload_n hX dL_law_1684 rfl ?_
      refine zw_aload_n hX dL_law_1685 rfl ?_
      refine zw_iload hX dL_law_1686 rfl ?_
      refine zw_iconst (v := (1 : Int32)) hX dL_law_1688 (by decide) ?_
      refine zw_iadd hX dL_law_1689 ?_
      obtain ⟨v234, g, h⟩ := zb_some h
      refine zw_xi hX dL_law_1690 g ?_
      obtain ⟨_, gi, h⟩ := zb_some h
      obtain ⟨r236, g, h⟩ := zb_some h
      refine zc_Vi (as := [.int v234]) hX gi (zt_X18_check (d := d - 1) (by omega) g) zl_L_347 rfl dL_law_1691 ⟨rfl, rfl, Nat.le_of_ble_eq_true rfl⟩ ⟨by omega, by omega⟩ ?_
      refine zw_istore hX dL_law_1694 (by decide) ?_
      refine zw_aload_n hX dL_law_1696 rfl ?_
      obtain ⟨_, gi, h⟩ := zb_some h
      obtain ⟨r238, g, h⟩ := zb_some h
      refine zc_Vi (as := []) hX gi (zt_X18_thrown (d := d - 1) (by omega) g) zl_L_281 rfl dL_law_1697 ⟨rfl, rfl, Nat.le_of_ble_eq_true rfl⟩ ⟨by omega, by omega⟩ ?_
      refine zw_iload hX dL_law_1700 rfl ?_
      refine zw_icmp_eq (tgt := 1707) hX dL_law_1702 (by decide) (fun c1702 => ?_) (fun c1702 => ?_)
      · rw [if_pos c1702] at h
        refine zw_iload hX dL_law_1707 rfl ?_
        refine zw_if_ne (tgt := 1724) hX dL_law_1709 (by decide) (fun c1709 => ?_) (fun c1709 => ?_)
        · rw [if_neg c1709] at h
          refine zw_goto (tgt := 6002) hX dL_law_1724 (by decide) ?_
          refine zw_iinc (v := (i4 + (7 : Int32))) hX dL_law_6002 rfl rfl (by decide) ?_
          refine zw_goto (tgt := 23) hX dL_law_6005 (by decide) ?_
          refine zw_sub (lv' := [(0, .ref a0), (1, .ref a1), (2, .ref a2), (3, .ref a3), (4, .int (i4 + (7 : Int32)))]) (List.forall_mem_cons.mpr ⟨rfl, (List.forall_mem_cons.mpr ⟨rfl, (List.forall_mem_cons.mpr ⟨rfl, (List.forall_mem_cons.mpr ⟨rfl, (List.forall_mem_cons.mpr ⟨rfl, zs_nil⟩)⟩)⟩)⟩)⟩) ?_
          exact hrec _ _ _ _ h
        · rw [if_pos c1709] at h
          refine zw_aload_n hX dL_law_1712 rfl ?_
          refine zw_iconst (v := (0 : Int32)) hX dL_law_1713 (by decide) ?_
          obtain ⟨w239, g, h⟩ := zb_some h
          refine zw_xl hX dL_law_1714 g ?_
          refine zw_iload hX dL_law_1715 rfl ?_
          refine zw_i2l hX dL_law_1717 ?_
          refine zw_lcmp hX dL_law_1718 ?_
          refine zw_if_eq (tgt := 1724) hX dL_law_1719 (by decide) (fun c1719 => ?_) (fun c1719 => ?_)
          · rw [if_pos c1719] at h
            refine zw_goto (tgt := 6002) hX dL_law_1724 (by decide) ?_
            refine zw_iinc (v := (i4 + (7 : Int32))) hX dL_law_6002 rfl rfl (by decide) ?_
            refine zw_goto (tgt := 23) hX dL_law_6005 (by decide) ?_
            refine zw_sub (lv' := [(0, .ref a0), (1, .ref a1), (2, .ref a2), (3, .ref a3), (4, .int (i4 + (7 : Int32)))]) (List.forall_mem_cons.mpr ⟨rfl, (List.forall_mem_cons.mpr ⟨rfl, (List.forall_mem_cons.mpr ⟨rfl, (List.forall_mem_cons.mpr ⟨rfl, (List.forall_mem_cons.mpr ⟨rfl, zs_nil⟩)⟩)⟩)⟩)⟩) ?_
            exact hrec _ _ _ _ h
          · rw [if_neg c1719] at h
            refine zw_iconst (v := (0 : Int32)) hX dL_law_1722 (by decide) ?_
            cases h
      · rw [if_neg c1702] at h
        refine zw_iconst (v := (0 : Int32)) hX dL_law_1705 (by decide) ?_
        cases h
    · intro _ _ hx
      exact hx.elim
  · rw [if_neg hb1679] at h
    cases h
set_option maxHeartbeats 4000000 in
set_option maxRecDepth 100000 in
theorem zt_L_law_J1727 {p : Program} {l : Launch} {e : Env} {s : State} {m : MethodId} {zb : Nat} {below : List Frame} {meth : Method} {c : Code} {V : zm_V} {d : Nat} {nm : String} (hlt : l.stackTraces = false) (hV : V.2.2.2.1 = s.heap.size) (hX : zm_X p room_1 s m #[Value.ref zb] meth c RL nm cL_law 8 zk_E V 601024 7293034) (hr : meth.sig.returnType = ret) (hR : d ≤ room_1.frames ∧ 64 * d ≤ room_1.locals) (hd : 46 ≤ d) {N : Nat} {k : Nat → Nat → Nat → Nat → Int32 → Nat → Nat → zm_S → Option ((Int32 × zm_S) ⊕ ((Unit) × zm_S))} {rc rs : Nat} {a0 : Nat} {a1 : Nat} {a2 : Nat} {a3 : Nat} {i4 : Int32} {res : (Int32 × zm_S) ⊕ ((Unit) × zm_S)} {out : (Int32 × zm_S)}   (hf : ∀ o, res = .inl o → o = out) (hk : ∀ (S' : zm_S) (rc rs : Nat), res = .inr ((), S') → zw p l e room_1 s m #[Value.ref zb] below meth c (lw_Z below #[Value.ref zb] s) 8 zk_E V 601024 7293034 6008 [] [] S' rc rs) (hrec : ∀ (i4' : Int32) (rc rs : Nat) (S : zm_S), k a0 a1 a2 a3 i4' rc rs S = some res → zw p l e room_1 s m #[Value.ref zb] below meth c (lw_Z below #[Value.ref zb] s) 8 zk_E V 601024 7293034 23 [(0, .ref a0), (1, .ref a1), (2, .ref a2), (3, .ref a3), (4, .int i4')] [] S rc rs) {S : zm_S} (h : zf_L_law_J1727 N k a0 a1 a2 a3 i4 rc rs S = some res) : zw p l e room_1 s m #[Value.ref zb] below meth c (lw_Z below #[Value.ref zb] s) 8 zk_E V 601024 7293034 1727 [(0, .ref a0), (1, .ref a1), (2, .ref a2), (3, .ref a3), (4, .int i4)] [] S rc rs := by
  unfold zf_L_law_J1727 at h
  refine zw_aload_n hX dL_law_1727 rfl ?_
  refine zw_aload_n hX dL_law_1728 rfl ?_
  refine zw_iload hX dL_law_1729 rfl ?_
  refine zw_iconst (v := (1 : Int32)) hX dL_law_1731 (by decide) ?_
  refine zw_iadd hX dL_law_1732 ?_
  obtain ⟨v240, g, h⟩ := zb_some h
  refine zw_xi hX dL_law_1733 g ?_
  refine zw_aload_n hX dL_law_1734 rfl ?_
  refine zw_iload hX dL_law_1735 rfl ?_
  refine zw_iconst (v := (2 : Int32)) hX dL_law_1737 (by decide) ?_
  refine zw_iadd hX dL_law_1738 ?_
  obtain ⟨v241, g, h⟩ := zb_some h
  refine zw_xi hX dL_law_1739 g ?_
  refine zw_aload_n hX dL_law_1740 rfl ?_
  by_cases hb1741 : 2 ≤ rc ∧ 12 ≤ rs
  · rw [if_pos hb1741] at h
    obtain ⟨r244, g, h⟩ := zb_some h
    refine zc_SH (as := [.ref a1, .int v240, .int v241, .ref a3]) hX (zt_L_rule hlt (d := d - 1) (by omega) g) zl_L_348 dL_law_1741 ⟨rfl, rfl, Nat.le_of_ble_eq_true rfl⟩ ⟨by omega, by omega⟩ hb1741 ?_ ?_
    · rintro _ _ ⟨rfl, rfl⟩
      refine zw_istore hX dL_law_1744 (by decide) ?_
      refine zw_aload_n hX dL_law_1746 rfl ?_
      refine zw_aload_n hX dL_law_1747 rfl ?_
      refine zw_iload hX dL_law_1748 rfl ?_
      refine zw_iconst (v := (1 : Int32)) hX dL_law_1750 (by decide) ?_
      refine zw_iadd hX dL_law_1751 ?_
      obtain ⟨v245, g, h⟩ := zb_some h
      refine zw_xi hX dL_law_1752 g ?_
      refine zw_aload_n hX dL_law_1753 rfl ?_
      refine zw_iload hX dL_law_1754 rfl ?_
      refine zw_iconst (v := (2 : Int32)) hX dL_law_1756 (by decide) ?_
      refine zw_iadd hX dL_law_1757 ?_
      obtain ⟨v246, g, h⟩ := zb_some h
      refine zw_xi hX dL_law_1758 g ?_
      obtain ⟨_, gi, h⟩ := zb_some h
      obtain ⟨r248, g, h⟩ := zb_some h
      refine zc_Vl (as := [.int v245, .int v246]) hX gi (zt_X18_rule (d := d - 1) (by omega) g) zl_L_350 rfl dL_law_1759 ⟨rfl, rfl, Nat.le_of_ble_eq_true rfl⟩ ⟨by omega, by omega⟩ ?_
      refine zw_lstore hX dL_law_1762 (by decide) ?_
      refine zw_aload_n hX dL_law_1764 rfl ?_
      obtain ⟨_, gi, h⟩ := zb_some h
      obtain ⟨r250, g, h⟩ := zb_some h
      refine zc_Vi (as := []) hX gi (zt_X18_thrown (d := d - 1) (by omega) g) zl_L_281 rfl dL_law_1765 ⟨rfl, rfl, Nat.le_of_ble_eq_true rfl⟩ ⟨by omega, by omega⟩ ?_
      refine zw_iload hX dL_law_1768 rfl ?_
      refine zw_icmp_eq (tgt := 1775) hX dL_law_1770 (by decide) (fun c1770 => ?_) (fun c1770 => ?_)
      · rw [if_pos c1770] at h
        refine zw_iload hX dL_law_1775 rfl ?_
        refine zw_if_ne (tgt := 1791) hX dL_law_1777 (by decide) (fun c1777 => ?_) (fun c1777 => ?_)
        · rw [if_neg c1777] at h
          refine zw_goto (tgt := 6002) hX dL_law_1791 (by decide) ?_
          refine zw_iinc (v := (i4 + (7 : Int32))) hX dL_law_6002 rfl rfl (by decide) ?_
          refine zw_goto (tgt := 23) hX dL_law_6005 (by decide) ?_
          refine zw_sub (lv' := [(0, .ref a0), (1, .ref a1), (2, .ref a2), (3, .ref a3), (4, .int (i4 + (7 : Int32)))]) (List.forall_mem_cons.mpr ⟨rfl, (List.forall_mem_cons.mpr ⟨rfl, (List.forall_mem_cons.mpr ⟨rfl, (List.forall_mem_cons.mpr ⟨rfl, (List.forall_mem_cons.mpr ⟨rfl, zs_nil⟩)⟩)⟩)⟩)⟩) ?_
          exact hrec _ _ _ _ h
        · rw [if_pos c1777] at h
          refine zw_aload_n hX dL_law_1780 rfl ?_
          refine zw_iconst (v := (0 : Int32)) hX dL_law_1781 (by decide) ?_
          obtain ⟨w251, g, h⟩ := zb_some h
          refine zw_xl hX dL_law_1782 g ?_
          refine zw_lload hX dL_law_1783 rfl ?_
          refine zw_lcmp hX dL_law_1785 ?_
          refine zw_if_eq (tgt := 1791) hX dL_law_1786 (by decide) (fun c1786 => ?_) (fun c1786 => ?_)
          · rw [if_pos c1786] at h
            refine zw_goto (tgt := 6002) hX dL_law_1791 (by decide) ?_
            refine zw_iinc (v := (i4 + (7 : Int32))) hX dL_law_6002 rfl rfl (by decide) ?_
            refine zw_goto (tgt := 23) hX dL_law_6005 (by decide) ?_
            refine zw_sub (lv' := [(0, .ref a0), (1, .ref a1), (2, .ref a2), (3, .ref a3), (4, .int (i4 + (7 : Int32)))]) (List.forall_mem_cons.mpr ⟨rfl, (List.forall_mem_cons.mpr ⟨rfl, (List.forall_mem_cons.mpr ⟨rfl, (List.forall_mem_cons.mpr ⟨rfl, (List.forall_mem_cons.mpr ⟨rfl, zs_nil⟩)⟩)⟩)⟩)⟩) ?_
            exact hrec _ _ _ _ h
          · rw [if_neg c1786] at h
            refine zw_iconst (v := (0 : Int32)) hX dL_law_1789 (by decide) ?_
            cases h
      · rw [if_neg c1770] at h
        refine zw_iconst (v := (0 : Int32)) hX dL_law_1773 (by decide) ?_
        cases h
    · intro _ _ hx
      exact hx.elim
  · rw [if_neg hb1741] at h
    cases h
set_option maxHeartbeats 4000000 in
set_option maxRecDepth 100000 in
theorem zt_L_law_J1794 {p : Program} {l : Launch} {e : Env} {s : State} {m : MethodId} {zb : Nat} {below : List Frame} {meth : Method} {c : Code} {V : zm_V} {d : Nat} {nm : String} (hlt : l.stackTraces = false) (hV : V.2.2.2.1 = s.heap.size) (hX : zm_X p room_1 s m #[Value.ref zb] meth c RL nm cL_law 8 zk_E V 601024 7293034) (hr : meth.sig.returnType = ret) (hR : d ≤ room_1.frames ∧ 64 * d ≤ room_1.locals) (hd : 46 ≤ d) {N : Nat} {k : Nat → Nat → Nat → Nat → Int32 → Nat → Nat → zm_S → Option ((Int32 × zm_S) ⊕ ((Unit) × zm_S))} {rc rs : Nat} {a0 : Nat} {a1 : Nat} {a2 : Nat} {a3 : Nat} {i4 : Int32} {res : (Int32 × zm_S) ⊕ ((Unit) × zm_S)} {out : (Int32 × zm_S)}   (hf : ∀ o, res = .inl o → o = out) (hk : ∀ (S' : zm_S) (rc rs : Nat), res = .inr ((), S') → zw p l e room_1 s m #[Value.ref zb] below meth c (lw_Z below #[Value.ref zb] s) 8 zk_E V 601024 7293034 6008 [] [] S' rc rs) (hrec : ∀ (i4' : Int32) (rc rs : Nat) (S : zm_S), k a0 a1 a2 a3 i4' rc rs S = some res → zw p l e room_1 s m #[Value.ref zb] below meth c (lw_Z below #[Value.ref zb] s) 8 zk_E V 601024 7293034 23 [(0, .ref a0), (1, .ref a1), (2, .ref a2), (3, .ref a3), (4, .int i4')] [] S rc rs) {S : zm_S} (h : zf_L_law_J1794 N k a0 a1 a2 a3 i4 rc rs S = some res) : zw p l e room_1 s m #[Value.ref zb] below meth c (lw_Z below #[Value.ref zb] s) 8 zk_E V 601024 7293034 1794 [(0, .ref a0), (1, .ref a1), (2, .ref a2), (3, .ref a3), (4, .int i4)] [] S rc rs := by
  unfold zf_L_law_J1794 at h
  refine zw_aload_n hX dL_law_1794 rfl ?_
  refine zw_aload_n hX dL_law_1795 rfl ?_
  refine zw_iload hX dL_law_1796 rfl ?_
  refine zw_iconst (v := (1 : Int32)) hX dL_law_1798 (by decide) ?_
  refine zw_iadd hX dL_law_1799 ?_
  obtain ⟨v252, g, h⟩ := zb_some h
  refine zw_xi hX dL_law_1800 g ?_
  refine zw_aload_n hX dL_law_1801 rfl ?_
  by_cases cv : (zf_L_build_c N a1 v252 a3 S).isSome = true
  · rw [if_pos cv] at h
    by_cases hb1802 : 2 ≤ rc ∧ 12 ≤ rs
    · rw [if_pos hb1802] at h
      obtain ⟨r255, g, h⟩ := zb_some h
      refine zc_SH (as := [.ref a1, .int v252, .ref a3]) hX (zt_L_build_c hlt (d := d - 1) (by omega) g) zl_L_351 dL_law_1802 ⟨rfl, rfl, Nat.le_of_ble_eq_true rfl⟩ ⟨by omega, by omega⟩ hb1802 ?_ ?_
      · rintro _ _ ⟨rfl, rfl⟩
        refine zw_istore hX dL_law_1805 (by decide) ?_
        refine zw_aload_n hX dL_law_1807 rfl ?_
        refine zw_aload_n hX dL_law_1808 rfl ?_
        refine zw_iload hX dL_law_1809 rfl ?_
        refine zw_iconst (v := (1 : Int32)) hX dL_law_1811 (by decide) ?_
        refine zw_iadd hX dL_law_1812 ?_
        obtain ⟨v256, g, h⟩ := zb_some h
        refine zw_xi hX dL_law_1813 g ?_
        obtain ⟨_, gi, h⟩ := zb_some h
        obtain ⟨r258, g, h⟩ := zb_some h
        refine zc_Vi (as := [.int v256]) hX gi (zt_X18_build (d := d - 1) (by omega) g) zl_L_353 rfl dL_law_1814 ⟨rfl, rfl, Nat.le_of_ble_eq_true rfl⟩ ⟨by omega, by omega⟩ ?_
        refine zw_istore hX dL_law_1817 (by decide) ?_
        refine zw_aload_n hX dL_law_1819 rfl ?_
        obtain ⟨_, gi, h⟩ := zb_some h
        obtain ⟨r260, g, h⟩ := zb_some h
        refine zc_Vi (as := []) hX gi (zt_X18_thrown (d := d - 1) (by omega) g) zl_L_281 rfl dL_law_1820 ⟨rfl, rfl, Nat.le_of_ble_eq_true rfl⟩ ⟨by omega, by omega⟩ ?_
        refine zw_iload hX dL_law_1823 rfl ?_
        refine zw_icmp_eq (tgt := 1830) hX dL_law_1825 (by decide) (fun c1825 => ?_) (fun c1825 => ?_)
        · rw [if_pos c1825] at h
          refine zw_iload hX dL_law_1830 rfl ?_
          refine zw_if_ne (tgt := 1847) hX dL_law_1832 (by decide) (fun c1832 => ?_) (fun c1832 => ?_)
          · rw [if_neg c1832] at h
            refine zw_goto (tgt := 6002) hX dL_law_1847 (by decide) ?_
            refine zw_iinc (v := (i4 + (7 : Int32))) hX dL_law_6002 rfl rfl (by decide) ?_
            refine zw_goto (tgt := 23) hX dL_law_6005 (by decide) ?_
            refine zw_sub (lv' := [(0, .ref a0), (1, .ref a1), (2, .ref a2), (3, .ref a3), (4, .int (i4 + (7 : Int32)))]) (List.forall_mem_cons.mpr ⟨rfl, (List.forall_mem_cons.mpr ⟨rfl, (List.forall_mem_cons.mpr ⟨rfl, (List.forall_mem_cons.mpr ⟨rfl, (List.forall_mem_cons.mpr ⟨rfl, zs_nil⟩)⟩)⟩)⟩)⟩) ?_
            exact hrec _ _ _ _ h
          · rw [if_pos c1832] at h
            refine zw_aload_n hX dL_law_1835 rfl ?_
            refine zw_iconst (v := (0 : Int32)) hX dL_law_1836 (by decide) ?_
            obtain ⟨w261, g, h⟩ := zb_some h
            refine zw_xl hX dL_law_1837 g ?_
            refine zw_iload hX dL_law_1838 rfl ?_
            refine zw_i2l hX dL_law_1840 ?_
            refine zw_lcmp hX dL_law_1841 ?_
            refine zw_if_eq (tgt := 1847) hX dL_law_1842 (by decide) (fun c1842 => ?_) (fun c1842 => ?_)
            · rw [if_pos c1842] at h
              refine zw_goto (tgt := 6002) hX dL_law_1847 (by decide) ?_
              refine zw_iinc (v := (i4 + (7 : Int32))) hX dL_law_6002 rfl rfl (by decide) ?_
              refine zw_goto (tgt := 23) hX dL_law_6005 (by decide) ?_
              refine zw_sub (lv' := [(0, .ref a0), (1, .ref a1), (2, .ref a2), (3, .ref a3), (4, .int (i4 + (7 : Int32)))]) (List.forall_mem_cons.mpr ⟨rfl, (List.forall_mem_cons.mpr ⟨rfl, (List.forall_mem_cons.mpr ⟨rfl, (List.forall_mem_cons.mpr ⟨rfl, (List.forall_mem_cons.mpr ⟨rfl, zs_nil⟩)⟩)⟩)⟩)⟩) ?_
              exact hrec _ _ _ _ h
            · rw [if_neg c1842] at h
              refine zw_iconst (v := (0 : Int32)) hX dL_law_1845 (by decide) ?_
              cases h
        · rw [if_neg c1825] at h
          refine zw_iconst (v := (0 : Int32)) hX dL_law_1828 (by decide) ?_
          cases h
      · intro _ _ hx
        exact hx.elim
    · rw [if_neg hb1802] at h
      cases h
  · rw [if_neg cv] at h
    by_cases hb1802 : 5 ≤ rc ∧ 124092 ≤ rs
    · rw [if_pos hb1802] at h
      obtain ⟨r264, g, h⟩ := zb_some h
      refine zc_SH (as := [.ref a1, .int v252, .ref a3]) hX (zt_L_build hlt (d := d - 1) (by omega) g) zl_L_351 dL_law_1802 ⟨rfl, rfl, Nat.le_of_ble_eq_true rfl⟩ ⟨by omega, by omega⟩ hb1802 ?_ ?_
      · rintro _ _ ⟨rfl, rfl⟩
        refine zw_istore hX dL_law_1805 (by decide) ?_
        refine zw_aload_n hX dL_law_1807 rfl ?_
        refine zw_aload_n hX dL_law_1808 rfl ?_
        refine zw_iload hX dL_law_1809 rfl ?_
        refine zw_iconst (v := (1 : Int32)) hX dL_law_1811 (by decide) ?_
        refine zw_iadd hX dL_law_1812 ?_
        obtain ⟨v265, g, h⟩ := zb_some h
        refine zw_xi hX dL_law_1813 g ?_
        obtain ⟨_, gi, h⟩ := zb_some h
        obtain ⟨r267, g, h⟩ := zb_some h
        refine zc_Vi (as := [.int v265]) hX gi (zt_X18_build (d := d - 1) (by omega) g) zl_L_353 rfl dL_law_1814 ⟨rfl, rfl, Nat.le_of_ble_eq_true rfl⟩ ⟨by omega, by omega⟩ ?_
        refine zw_istore hX dL_law_1817 (by decide) ?_
        refine zw_aload_n hX dL_law_1819 rfl ?_
        obtain ⟨_, gi, h⟩ := zb_some h
        obtain ⟨r269, g, h⟩ := zb_some h
        refine zc_Vi (as := []) hX gi (zt_X18_thrown (d := d - 1) (by omega) g) zl_L_281 rfl dL_law_1820 ⟨rfl, rfl, Nat.le_of_ble_eq_true rfl⟩ ⟨by omega, by omega⟩ ?_
        refine zw_iload hX dL_law_1823 rfl ?_
        refine zw_icmp_eq (tgt := 1830) hX dL_law_1825 (by decide) (fun c1825 => ?_) (fun c1825 => ?_)
        · rw [if_pos c1825] at h
          refine zw_iload hX dL_law_1830 rfl ?_
          refine zw_if_ne (tgt := 1847) hX dL_law_1832 (by decide) (fun c1832 => ?_) (fun c1832 => ?_)
          · rw [if_neg c1832] at h
            refine zw_goto (tgt := 6002) hX dL_law_1847 (by decide) ?_
            refine zw_iinc (v := (i4 + (7 : Int32))) hX dL_law_6002 rfl rfl (by decide) ?_
            refine zw_goto (tgt := 23) hX dL_law_6005 (by decide) ?_
            refine zw_sub (lv' := [(0, .ref a0), (1, .ref a1), (2, .ref a2), (3, .ref a3), (4, .int (i4 + (7 : Int32)))]) (List.forall_mem_cons.mpr ⟨rfl, (List.forall_mem_cons.mpr ⟨rfl, (List.forall_mem_cons.mpr ⟨rfl, (List.forall_mem_cons.mpr ⟨rfl, (List.forall_mem_cons.mpr ⟨rfl, zs_nil⟩)⟩)⟩)⟩)⟩) ?_
            exact hrec _ _ _ _ h
          · rw [if_pos c1832] at h
            refine zw_aload_n hX dL_law_1835 rfl ?_
            refine zw_iconst (v := (0 : Int32)) hX dL_law_1836 (by decide) ?_
            obtain ⟨w270, g, h⟩ := zb_some h
            refine zw_xl hX dL_law_1837 g ?_
            refine zw_iload hX dL_law_1838 rfl ?_
            refine zw_i2l hX dL_law_1840 ?_
            refine zw_lcmp hX dL_law_1841 ?_
            refine zw_if_eq (tgt := 1847) hX dL_law_1842 (by decide) (fun c1842 => ?_) (fun c1842 => ?_)
            · rw [if_pos c1842] at h
              refine zw_goto (tgt := 6002) hX dL_law_1847 (by decide) ?_
              refine zw_iinc (v := (i4 + (7 : Int32))) hX dL_law_6002 rfl rfl (by decide) ?_
              refine zw_goto (tgt := 23) hX dL_law_6005 (by decide) ?_
              refine zw_sub (lv' := [(0, .ref a0), (1, .ref a1), (2, .ref a2), (3, .ref a3), (4, .int (i4 + (7 : Int32)))]) (List.forall_mem_cons.mpr ⟨rfl, (List.forall_mem_cons.mpr ⟨rfl, (List.forall_mem_cons.mpr ⟨rfl, (List.forall_mem_cons.mpr ⟨rfl, (List.forall_mem_cons.mpr ⟨rfl, zs_nil⟩)⟩)⟩)⟩)⟩) ?_
              exact hrec _ _ _ _ h
            · rw [if_neg c1842] at h
              refine zw_iconst (v := (0 : Int32)) hX dL_law_1845 (by decide) ?_
              cases h
        · rw [if_neg c1825] at h
          refine zw_iconst (v := (0 : Int32)) hX dL_law_1828 (by decide) ?_
          cases h
      · intro _ _ hx
        exact hx.elim
    · rw [if_neg hb1802] at h
      cases h
set_option maxHeartbeats 4000000 in
set_option maxRecDepth 100000 in
theorem zt_L_law_J1850 {p : Program} {l : Launch} {e : Env} {s : State} {m : MethodId} {zb : Nat} {below : List Frame} {meth : Method} {c : Code} {V : zm_V} {d : Nat} {nm : String} (hlt : l.stackTraces = false) (hV : V.2.2.2.1 = s.heap.size) (hX : zm_X p room_1 s m #[Value.ref zb] meth c RL nm cL_law 8 zk_E V 601024 7293034) (hr : meth.sig.returnType = ret) (hR : d ≤ room_1.frames ∧ 64 * d ≤ room_1.locals) (hd : 46 ≤ d) {N : Nat} {k : Nat → Nat → Nat → Nat → Int32 → Nat → Nat → zm_S → Option ((Int32 × zm_S) ⊕ ((Unit) × zm_S))} {rc rs : Nat} {a0 : Nat} {a1 : Nat} {a2 : Nat} {a3 : Nat} {i4 : Int32} {res : (Int32 × zm_S) ⊕ ((Unit) × zm_S)} {out : (Int32 × zm_S)}   (hf : ∀ o, res = .inl o → o = out) (hk : ∀ (S' : zm_S) (rc rs : Nat), res = .inr ((), S') → zw p l e room_1 s m #[Value.ref zb] below meth c (lw_Z below #[Value.ref zb] s) 8 zk_E V 601024 7293034 6008 [] [] S' rc rs) (hrec : ∀ (i4' : Int32) (rc rs : Nat) (S : zm_S), k a0 a1 a2 a3 i4' rc rs S = some res → zw p l e room_1 s m #[Value.ref zb] below meth c (lw_Z below #[Value.ref zb] s) 8 zk_E V 601024 7293034 23 [(0, .ref a0), (1, .ref a1), (2, .ref a2), (3, .ref a3), (4, .int i4')] [] S rc rs) {S : zm_S} (h : zf_L_law_J1850 N k a0 a1 a2 a3 i4 rc rs S = some res) : zw p l e room_1 s m #[Value.ref zb] below meth c (lw_Z below #[Value.ref zb] s) 8 zk_E V 601024 7293034 1850 [(0, .ref a0), (1, .ref a1), (2, .ref a2), (3, .ref a3), (4, .int i4)] [] S rc rs := by
  unfold zf_L_law_J1850 at h
  refine zw_aload_n hX dL_law_1850 rfl ?_
  refine zw_aload_n hX dL_law_1851 rfl ?_
  refine zw_iload hX dL_law_1852 rfl ?_
  refine zw_iconst (v := (1 : Int32)) hX dL_law_1854 (by decide) ?_
  refine zw_iadd hX dL_law_1855 ?_
  obtain ⟨v271, g, h⟩ := zb_some h
  refine zw_xi hX dL_law_1856 g ?_
  refine zw_aload_n hX dL_law_1857 rfl ?_
  refine zw_iload hX dL_law_1858 rfl ?_
  refine zw_iconst (v := (2 : Int32)) hX dL_law_1860 (by decide) ?_
  refine zw_iadd hX dL_law_1861 ?_
  obtain ⟨v272, g, h⟩ := zb_some h
  refine zw_xi hX dL_law_1862 g ?_
  refine zw_aload_n hX dL_law_1863 rfl ?_
  by_cases hb1864 : 2 ≤ rc ∧ 12 ≤ rs
  · rw [if_pos hb1864] at h
    obtain ⟨r275, g, h⟩ := zb_some h
    refine zc_SH (as := [.ref a1, .int v271, .int v272, .ref a3]) hX (zt_L_portal hlt (d := d - 1) (by omega) g) zl_L_354 dL_law_1864 ⟨rfl, rfl, Nat.le_of_ble_eq_true rfl⟩ ⟨by omega, by omega⟩ hb1864 ?_ ?_
    · rintro _ _ ⟨rfl, rfl⟩
      refine zw_istore hX dL_law_1867 (by decide) ?_
      refine zw_aload_n hX dL_law_1869 rfl ?_
      refine zw_aload_n hX dL_law_1870 rfl ?_
      refine zw_iload hX dL_law_1871 rfl ?_
      refine zw_iconst (v := (1 : Int32)) hX dL_law_1873 (by decide) ?_
      refine zw_iadd hX dL_law_1874 ?_
      obtain ⟨v276, g, h⟩ := zb_some h
      refine zw_xi hX dL_law_1875 g ?_
      refine zw_aload_n hX dL_law_1876 rfl ?_
      refine zw_iload hX dL_law_1877 rfl ?_
      refine zw_iconst (v := (2 : Int32)) hX dL_law_1879 (by decide) ?_
      refine zw_iadd hX dL_law_1880 ?_
      obtain ⟨v277, g, h⟩ := zb_some h
      refine zw_xi hX dL_law_1881 g ?_
      obtain ⟨_, gi, h⟩ := zb_some h
      obtain ⟨r279, g, h⟩ := zb_some h
      refine zc_Vi (as := [.int v276, .int v277]) hX gi (zt_X18_portal_ (d := d - 1) (by omega) g) zl_L_356 rfl dL_law_1882 ⟨rfl, rfl, Nat.le_of_ble_eq_true rfl⟩ ⟨by omega, by omega⟩ ?_
      refine zw_istore hX dL_law_1885 (by decide) ?_
      refine zw_aload_n hX dL_law_1887 rfl ?_
      obtain ⟨_, gi, h⟩ := zb_some h
      obtain ⟨r281, g, h⟩ := zb_some h
      refine zc_Vi (as := []) hX gi (zt_X18_thrown (d := d - 1) (by omega) g) zl_L_281 rfl dL_law_1888 ⟨rfl, rfl, Nat.le_of_ble_eq_true rfl⟩ ⟨by omega, by omega⟩ ?_
      refine zw_iload hX dL_law_1891 rfl ?_
      refine zw_icmp_eq (tgt := 1898) hX dL_law_1893 (by decide) (fun c1893 => ?_) (fun c1893 => ?_)
      · rw [if_pos c1893] at h
        refine zw_iload hX dL_law_1898 rfl ?_
        refine zw_if_ne (tgt := 1915) hX dL_law_1900 (by decide) (fun c1900 => ?_) (fun c1900 => ?_)
        · rw [if_neg c1900] at h
          refine zw_goto (tgt := 6002) hX dL_law_1915 (by decide) ?_
          refine zw_iinc (v := (i4 + (7 : Int32))) hX dL_law_6002 rfl rfl (by decide) ?_
          refine zw_goto (tgt := 23) hX dL_law_6005 (by decide) ?_
          refine zw_sub (lv' := [(0, .ref a0), (1, .ref a1), (2, .ref a2), (3, .ref a3), (4, .int (i4 + (7 : Int32)))]) (List.forall_mem_cons.mpr ⟨rfl, (List.forall_mem_cons.mpr ⟨rfl, (List.forall_mem_cons.mpr ⟨rfl, (List.forall_mem_cons.mpr ⟨rfl, (List.forall_mem_cons.mpr ⟨rfl, zs_nil⟩)⟩)⟩)⟩)⟩) ?_
          exact hrec _ _ _ _ h
        · rw [if_pos c1900] at h
          refine zw_aload_n hX dL_law_1903 rfl ?_
          refine zw_iconst (v := (0 : Int32)) hX dL_law_1904 (by decide) ?_
          obtain ⟨w282, g, h⟩ := zb_some h
          refine zw_xl hX dL_law_1905 g ?_
          refine zw_iload hX dL_law_1906 rfl ?_
          refine zw_i2l hX dL_law_1908 ?_
          refine zw_lcmp hX dL_law_1909 ?_
          refine zw_if_eq (tgt := 1915) hX dL_law_1910 (by decide) (fun c1910 => ?_) (fun c1910 => ?_)
          · rw [if_pos c1910] at h
            refine zw_goto (tgt := 6002) hX dL_law_1915 (by decide) ?_
            refine zw_iinc (v := (i4 + (7 : Int32))) hX dL_law_6002 rfl rfl (by decide) ?_
            refine zw_goto (tgt := 23) hX dL_law_6005 (by decide) ?_
            refine zw_sub (lv' := [(0, .ref a0), (1, .ref a1), (2, .ref a2), (3, .ref a3), (4, .int (i4 + (7 : Int32)))]) (List.forall_mem_cons.mpr ⟨rfl, (List.forall_mem_cons.mpr ⟨rfl, (List.forall_mem_cons.mpr ⟨rfl, (List.forall_mem_cons.mpr ⟨rfl, (List.forall_mem_cons.mpr ⟨rfl, zs_nil⟩)⟩)⟩)⟩)⟩) ?_
            exact hrec _ _ _ _ h
          · rw [if_neg c1910] at h
            refine zw_iconst (v := (0 : Int32)) hX dL_law_1913 (by decide) ?_
            cases h
      · rw [if_neg c1893] at h
        refine zw_iconst (v := (0 : Int32)) hX dL_law_1896 (by decide) ?_
        cases h
    · intro _ _ hx
      exact hx.elim
  · rw [if_neg hb1864] at h
    cases h
set_option maxHeartbeats 4000000 in
set_option maxRecDepth 100000 in
theorem zt_L_law_J1918 {p : Program} {l : Launch} {e : Env} {s : State} {m : MethodId} {zb : Nat} {below : List Frame} {meth : Method} {c : Code} {V : zm_V} {d : Nat} {nm : String} (hlt : l.stackTraces = false) (hV : V.2.2.2.1 = s.heap.size) (hX : zm_X p room_1 s m #[Value.ref zb] meth c RL nm cL_law 8 zk_E V 601024 7293034) (hr : meth.sig.returnType = ret) (hR : d ≤ room_1.frames ∧ 64 * d ≤ room_1.locals) (hd : 46 ≤ d) {N : Nat} {k : Nat → Nat → Nat → Nat → Int32 → Nat → Nat → zm_S → Option ((Int32 × zm_S) ⊕ ((Unit) × zm_S))} {rc rs : Nat} {a0 : Nat} {a1 : Nat} {a2 : Nat} {a3 : Nat} {i4 : Int32} {res : (Int32 × zm_S) ⊕ ((Unit) × zm_S)} {out : (Int32 × zm_S)}   (hf : ∀ o, res = .inl o → o = out) (hk : ∀ (S' : zm_S) (rc rs : Nat), res = .inr ((), S') → zw p l e room_1 s m #[Value.ref zb] below meth c (lw_Z below #[Value.ref zb] s) 8 zk_E V 601024 7293034 6008 [] [] S' rc rs) (hrec : ∀ (i4' : Int32) (rc rs : Nat) (S : zm_S), k a0 a1 a2 a3 i4' rc rs S = some res → zw p l e room_1 s m #[Value.ref zb] below meth c (lw_Z below #[Value.ref zb] s) 8 zk_E V 601024 7293034 23 [(0, .ref a0), (1, .ref a1), (2, .ref a2), (3, .ref a3), (4, .int i4')] [] S rc rs) {S : zm_S} (h : zf_L_law_J1918 N k a0 a1 a2 a3 i4 rc rs S = some res) : zw p l e room_1 s m #[Value.ref zb] below meth c (lw_Z below #[Value.ref zb] s) 8 zk_E V 601024 7293034 1918 [(0, .ref a0), (1, .ref a1), (2, .ref a2), (3, .ref a3), (4, .int i4)] [] S rc rs := by
  unfold zf_L_law_J1918 at h
  refine zw_aload_n hX dL_law_1918 rfl ?_
  refine zw_aload_n hX dL_law_1919 rfl ?_
  refine zw_iload hX dL_law_1920 rfl ?_
  refine zw_iconst (v := (1 : Int32)) hX dL_law_1922 (by decide) ?_
  refine zw_iadd hX dL_law_1923 ?_
  obtain ⟨v283, g, h⟩ := zb_some h
  refine zw_xi hX dL_law_1924 g ?_
  refine zw_aload_n hX dL_law_1925 rfl ?_
  refine zw_iload hX dL_law_1926 rfl ?_
  refine zw_iconst (v := (2 : Int32)) hX dL_law_1928 (by decide) ?_
  refine zw_iadd hX dL_law_1929 ?_
  obtain ⟨v284, g, h⟩ := zb_some h
  refine zw_xi hX dL_law_1930 g ?_
  refine zw_aload_n hX dL_law_1931 rfl ?_
  by_cases hb1932 : 2 ≤ rc ∧ 12 ≤ rs
  · rw [if_pos hb1932] at h
    obtain ⟨r287, g, h⟩ := zb_some h
    refine zc_SH (as := [.ref a1, .int v283, .int v284, .ref a3]) hX (zt_L_person hlt (d := d - 1) (by omega) g) zl_L_357 dL_law_1932 ⟨rfl, rfl, Nat.le_of_ble_eq_true rfl⟩ ⟨by omega, by omega⟩ hb1932 ?_ ?_
    · rintro _ _ ⟨rfl, rfl⟩
      refine zw_istore hX dL_law_1935 (by decide) ?_
      refine zw_aload_n hX dL_law_1937 rfl ?_
      refine zw_aload_n hX dL_law_1938 rfl ?_
      refine zw_iload hX dL_law_1939 rfl ?_
      refine zw_iconst (v := (1 : Int32)) hX dL_law_1941 (by decide) ?_
      refine zw_iadd hX dL_law_1942 ?_
      obtain ⟨v288, g, h⟩ := zb_some h
      refine zw_xi hX dL_law_1943 g ?_
      refine zw_aload_n hX dL_law_1944 rfl ?_
      refine zw_iload hX dL_law_1945 rfl ?_
      refine zw_iconst (v := (2 : Int32)) hX dL_law_1947 (by decide) ?_
      refine zw_iadd hX dL_law_1948 ?_
      obtain ⟨v289, g, h⟩ := zb_some h
      refine zw_xi hX dL_law_1949 g ?_
      obtain ⟨_, gi, h⟩ := zb_some h
      obtain ⟨r291, g, h⟩ := zb_some h
      refine zc_Vi (as := [.int v288, .int v289]) hX gi (zt_X18_person (d := d - 1) (by omega) g) zl_L_359 rfl dL_law_1950 ⟨rfl, rfl, Nat.le_of_ble_eq_true rfl⟩ ⟨by omega, by omega⟩ ?_
      refine zw_istore hX dL_law_1953 (by decide) ?_
      refine zw_aload_n hX dL_law_1955 rfl ?_
      obtain ⟨_, gi, h⟩ := zb_some h
      obtain ⟨r293, g, h⟩ := zb_some h
      refine zc_Vi (as := []) hX gi (zt_X18_thrown (d := d - 1) (by omega) g) zl_L_281 rfl dL_law_1956 ⟨rfl, rfl, Nat.le_of_ble_eq_true rfl⟩ ⟨by omega, by omega⟩ ?_
      refine zw_iload hX dL_law_1959 rfl ?_
      refine zw_icmp_eq (tgt := 1966) hX dL_law_1961 (by decide) (fun c1961 => ?_) (fun c1961 => ?_)
      · rw [if_pos c1961] at h
        refine zw_iload hX dL_law_1966 rfl ?_
        refine zw_if_ne (tgt := 1983) hX dL_law_1968 (by decide) (fun c1968 => ?_) (fun c1968 => ?_)
        · rw [if_neg c1968] at h
          refine zw_goto (tgt := 6002) hX dL_law_1983 (by decide) ?_
          refine zw_iinc (v := (i4 + (7 : Int32))) hX dL_law_6002 rfl rfl (by decide) ?_
          refine zw_goto (tgt := 23) hX dL_law_6005 (by decide) ?_
          refine zw_sub (lv' := [(0, .ref a0), (1, .ref a1), (2, .ref a2), (3, .ref a3), (4, .int (i4 + (7 : Int32)))]) (List.forall_mem_cons.mpr ⟨rfl, (List.forall_mem_cons.mpr ⟨rfl, (List.forall_mem_cons.mpr ⟨rfl, (List.forall_mem_cons.mpr ⟨rfl, (List.forall_mem_cons.mpr ⟨rfl, zs_nil⟩)⟩)⟩)⟩)⟩) ?_
          exact hrec _ _ _ _ h
        · rw [if_pos c1968] at h
          refine zw_aload_n hX dL_law_1971 rfl ?_
          refine zw_iconst (v := (0 : Int32)) hX dL_law_1972 (by decide) ?_
          obtain ⟨w294, g, h⟩ := zb_some h
          refine zw_xl hX dL_law_1973 g ?_
          refine zw_iload hX dL_law_1974 rfl ?_
          refine zw_i2l hX dL_law_1976 ?_
          refine zw_lcmp hX dL_law_1977 ?_
          refine zw_if_eq (tgt := 1983) hX dL_law_1978 (by decide) (fun c1978 => ?_) (fun c1978 => ?_)
          · rw [if_pos c1978] at h
            refine zw_goto (tgt := 6002) hX dL_law_1983 (by decide) ?_
            refine zw_iinc (v := (i4 + (7 : Int32))) hX dL_law_6002 rfl rfl (by decide) ?_
            refine zw_goto (tgt := 23) hX dL_law_6005 (by decide) ?_
            refine zw_sub (lv' := [(0, .ref a0), (1, .ref a1), (2, .ref a2), (3, .ref a3), (4, .int (i4 + (7 : Int32)))]) (List.forall_mem_cons.mpr ⟨rfl, (List.forall_mem_cons.mpr ⟨rfl, (List.forall_mem_cons.mpr ⟨rfl, (List.forall_mem_cons.mpr ⟨rfl, (List.forall_mem_cons.mpr ⟨rfl, zs_nil⟩)⟩)⟩)⟩)⟩) ?_
            exact hrec _ _ _ _ h
          · rw [if_neg c1978] at h
            refine zw_iconst (v := (0 : Int32)) hX dL_law_1981 (by decide) ?_
            cases h
      · rw [if_neg c1961] at h
        refine zw_iconst (v := (0 : Int32)) hX dL_law_1964 (by decide) ?_
        cases h
    · intro _ _ hx
      exact hx.elim
  · rw [if_neg hb1932] at h
    cases h
set_option maxHeartbeats 4000000 in
set_option maxRecDepth 100000 in
theorem zt_L_law_J1986 {p : Program} {l : Launch} {e : Env} {s : State} {m : MethodId} {zb : Nat} {below : List Frame} {meth : Method} {c : Code} {V : zm_V} {d : Nat} {nm : String} (hlt : l.stackTraces = false) (hV : V.2.2.2.1 = s.heap.size) (hX : zm_X p room_1 s m #[Value.ref zb] meth c RL nm cL_law 8 zk_E V 601024 7293034) (hr : meth.sig.returnType = ret) (hR : d ≤ room_1.frames ∧ 64 * d ≤ room_1.locals) (hd : 46 ≤ d) {N : Nat} {k : Nat → Nat → Nat → Nat → Int32 → Nat → Nat → zm_S → Option ((Int32 × zm_S) ⊕ ((Unit) × zm_S))} {rc rs : Nat} {a0 : Nat} {a1 : Nat} {a2 : Nat} {a3 : Nat} {i4 : Int32} {res : (Int32 × zm_S) ⊕ ((Unit) × zm_S)} {out : (Int32 × zm_S)}   (hf : ∀ o, res = .inl o → o = out) (hk : ∀ (S' : zm_S) (rc rs : Nat), res = .inr ((), S') → zw p l e room_1 s m #[Value.ref zb] below meth c (lw_Z below #[Value.ref zb] s) 8 zk_E V 601024 7293034 6008 [] [] S' rc rs) (hrec : ∀ (i4' : Int32) (rc rs : Nat) (S : zm_S), k a0 a1 a2 a3 i4' rc rs S = some res → zw p l e room_1 s m #[Value.ref zb] below meth c (lw_Z below #[Value.ref zb] s) 8 zk_E V 601024 7293034 23 [(0, .ref a0), (1, .ref a1), (2, .ref a2), (3, .ref a3), (4, .int i4')] [] S rc rs) {S : zm_S} (h : zf_L_law_J1986 N k a0 a1 a2 a3 i4 rc rs S = some res) : zw p l e room_1 s m #[Value.ref zb] below meth c (lw_Z below #[Value.ref zb] s) 8 zk_E V 601024 7293034 1986 [(0, .ref a0), (1, .ref a1), (2, .ref a2), (3, .ref a3), (4, .int i4)] [] S rc rs := by
  unfold zf_L_law_J1986 at h
  refine zw_aload_n hX dL_law_1986 rfl ?_
  refine zw_aload_n hX dL_law_1987 rfl ?_
  refine zw_iload hX dL_law_1988 rfl ?_
  refine zw_iconst (v := (1 : Int32)) hX dL_law_1990 (by decide) ?_
  refine zw_iadd hX dL_law_1991 ?_
  obtain ⟨v295, g, h⟩ := zb_some h
  refine zw_xi hX dL_law_1992 g ?_
  refine zw_aload_n hX dL_law_1993 rfl ?_
  refine zw_iload hX dL_law_1994 rfl ?_
  refine zw_iconst (v := (2 : Int32)) hX dL_law_1996 (by decide) ?_
  refine zw_iadd hX dL_law_1997 ?_
  obtain ⟨v296, g, h⟩ := zb_some h
  refine zw_xi hX dL_law_1998 g ?_
  refine zw_aload_n hX dL_law_1999 rfl ?_
  by_cases hb2000 : 2 ≤ rc ∧ 12 ≤ rs
  · rw [if_pos hb2000] at h
    obtain ⟨r299, g, h⟩ := zb_some h
    refine zc_SH (as := [.ref a1, .int v295, .int v296, .ref a3]) hX (zt_L_card hlt (d := d - 1) (by omega) g) zl_L_360 dL_law_2000 ⟨rfl, rfl, Nat.le_of_ble_eq_true rfl⟩ ⟨by omega, by omega⟩ hb2000 ?_ ?_
    · rintro _ _ ⟨rfl, rfl⟩
      refine zw_istore hX dL_law_2003 (by decide) ?_
      refine zw_aload_n hX dL_law_2005 rfl ?_
      refine zw_aload_n hX dL_law_2006 rfl ?_
      refine zw_iload hX dL_law_2007 rfl ?_
      refine zw_iconst (v := (1 : Int32)) hX dL_law_2009 (by decide) ?_
      refine zw_iadd hX dL_law_2010 ?_
      obtain ⟨v300, g, h⟩ := zb_some h
      refine zw_xi hX dL_law_2011 g ?_
      refine zw_aload_n hX dL_law_2012 rfl ?_
      refine zw_iload hX dL_law_2013 rfl ?_
      refine zw_iconst (v := (2 : Int32)) hX dL_law_2015 (by decide) ?_
      refine zw_iadd hX dL_law_2016 ?_
      obtain ⟨v301, g, h⟩ := zb_some h
      refine zw_xi hX dL_law_2017 g ?_
      obtain ⟨_, gi, h⟩ := zb_some h
      obtain ⟨r303, g, h⟩ := zb_some h
      refine zc_Vi (as := [.int v300, .int v301]) hX gi (zt_X18_card (d := d - 1) (by omega) g) zl_L_362 rfl dL_law_2018 ⟨rfl, rfl, Nat.le_of_ble_eq_true rfl⟩ ⟨by omega, by omega⟩ ?_
      refine zw_istore hX dL_law_2021 (by decide) ?_
      refine zw_aload_n hX dL_law_2023 rfl ?_
      obtain ⟨_, gi, h⟩ := zb_some h
      obtain ⟨r305, g, h⟩ := zb_some h
      refine zc_Vi (as := []) hX gi (zt_X18_thrown (d := d - 1) (by omega) g) zl_L_281 rfl dL_law_2024 ⟨rfl, rfl, Nat.le_of_ble_eq_true rfl⟩ ⟨by omega, by omega⟩ ?_
      refine zw_iload hX dL_law_2027 rfl ?_
      refine zw_icmp_eq (tgt := 2034) hX dL_law_2029 (by decide) (fun c2029 => ?_) (fun c2029 => ?_)
      · rw [if_pos c2029] at h
        refine zw_iload hX dL_law_2034 rfl ?_
        refine zw_if_ne (tgt := 2051) hX dL_law_2036 (by decide) (fun c2036 => ?_) (fun c2036 => ?_)
        · rw [if_neg c2036] at h
          refine zw_goto (tgt := 6002) hX dL_law_2051 (by decide) ?_
          refine zw_iinc (v := (i4 + (7 : Int32))) hX dL_law_6002 rfl rfl (by decide) ?_
          refine zw_goto (tgt := 23) hX dL_law_6005 (by decide) ?_
          refine zw_sub (lv' := [(0, .ref a0), (1, .ref a1), (2, .ref a2), (3, .ref a3), (4, .int (i4 + (7 : Int32)))]) (List.forall_mem_cons.mpr ⟨rfl, (List.forall_mem_cons.mpr ⟨rfl, (List.forall_mem_cons.mpr ⟨rfl, (List.forall_mem_cons.mpr ⟨rfl, (List.forall_mem_cons.mpr ⟨rfl, zs_nil⟩)⟩)⟩)⟩)⟩) ?_
          exact hrec _ _ _ _ h
        · rw [if_pos c2036] at h
          refine zw_aload_n hX dL_law_2039 rfl ?_
          refine zw_iconst (v := (0 : Int32)) hX dL_law_2040 (by decide) ?_
          obtain ⟨w306, g, h⟩ := zb_some h
          refine zw_xl hX dL_law_2041 g ?_
          refine zw_iload hX dL_law_2042 rfl ?_
          refine zw_i2l hX dL_law_2044 ?_
          refine zw_lcmp hX dL_law_2045 ?_
          refine zw_if_eq (tgt := 2051) hX dL_law_2046 (by decide) (fun c2046 => ?_) (fun c2046 => ?_)
          · rw [if_pos c2046] at h
            refine zw_goto (tgt := 6002) hX dL_law_2051 (by decide) ?_
            refine zw_iinc (v := (i4 + (7 : Int32))) hX dL_law_6002 rfl rfl (by decide) ?_
            refine zw_goto (tgt := 23) hX dL_law_6005 (by decide) ?_
            refine zw_sub (lv' := [(0, .ref a0), (1, .ref a1), (2, .ref a2), (3, .ref a3), (4, .int (i4 + (7 : Int32)))]) (List.forall_mem_cons.mpr ⟨rfl, (List.forall_mem_cons.mpr ⟨rfl, (List.forall_mem_cons.mpr ⟨rfl, (List.forall_mem_cons.mpr ⟨rfl, (List.forall_mem_cons.mpr ⟨rfl, zs_nil⟩)⟩)⟩)⟩)⟩) ?_
            exact hrec _ _ _ _ h
          · rw [if_neg c2046] at h
            refine zw_iconst (v := (0 : Int32)) hX dL_law_2049 (by decide) ?_
            cases h
      · rw [if_neg c2029] at h
        refine zw_iconst (v := (0 : Int32)) hX dL_law_2032 (by decide) ?_
        cases h
    · intro _ _ hx
      exact hx.elim
  · rw [if_neg hb2000] at h
    cases h
set_option maxHeartbeats 4000000 in
set_option maxRecDepth 100000 in
theorem zt_L_law_J2054 {p : Program} {l : Launch} {e : Env} {s : State} {m : MethodId} {zb : Nat} {below : List Frame} {meth : Method} {c : Code} {V : zm_V} {d : Nat} {nm : String} (hlt : l.stackTraces = false) (hV : V.2.2.2.1 = s.heap.size) (hX : zm_X p room_1 s m #[Value.ref zb] meth c RL nm cL_law 8 zk_E V 601024 7293034) (hr : meth.sig.returnType = ret) (hR : d ≤ room_1.frames ∧ 64 * d ≤ room_1.locals) (hd : 46 ≤ d) {N : Nat} {k : Nat → Nat → Nat → Nat → Int32 → Nat → Nat → zm_S → Option ((Int32 × zm_S) ⊕ ((Unit) × zm_S))} {rc rs : Nat} {a0 : Nat} {a1 : Nat} {a2 : Nat} {a3 : Nat} {i4 : Int32} {res : (Int32 × zm_S) ⊕ ((Unit) × zm_S)} {out : (Int32 × zm_S)}   (hf : ∀ o, res = .inl o → o = out) (hk : ∀ (S' : zm_S) (rc rs : Nat), res = .inr ((), S') → zw p l e room_1 s m #[Value.ref zb] below meth c (lw_Z below #[Value.ref zb] s) 8 zk_E V 601024 7293034 6008 [] [] S' rc rs) (hrec : ∀ (i4' : Int32) (rc rs : Nat) (S : zm_S), k a0 a1 a2 a3 i4' rc rs S = some res → zw p l e room_1 s m #[Value.ref zb] below meth c (lw_Z below #[Value.ref zb] s) 8 zk_E V 601024 7293034 23 [(0, .ref a0), (1, .ref a1), (2, .ref a2), (3, .ref a3), (4, .int i4')] [] S rc rs) {S : zm_S} (h : zf_L_law_J2054 N k a0 a1 a2 a3 i4 rc rs S = some res) : zw p l e room_1 s m #[Value.ref zb] below meth c (lw_Z below #[Value.ref zb] s) 8 zk_E V 601024 7293034 2054 [(0, .ref a0), (1, .ref a1), (2, .ref a2), (3, .ref a3), (4, .int i4)] [] S rc rs := by
  unfold zf_L_law_J2054 at h
  refine zw_aload_n hX dL_law_2054 rfl ?_
  refine zw_aload_n hX dL_law_2055 rfl ?_
  refine zw_iload hX dL_law_2056 rfl ?_
  refine zw_iconst (v := (1 : Int32)) hX dL_law_2058 (by decide) ?_
  refine zw_iadd hX dL_law_2059 ?_
  obtain ⟨v307, g, h⟩ := zb_some h
  refine zw_xi hX dL_law_2060 g ?_
  refine zw_aload_n hX dL_law_2061 rfl ?_
  refine zw_iload hX dL_law_2062 rfl ?_
  refine zw_iconst (v := (2 : Int32)) hX dL_law_2064 (by decide) ?_
  refine zw_iadd hX dL_law_2065 ?_
  obtain ⟨v308, g, h⟩ := zb_some h
  refine zw_xi hX dL_law_2066 g ?_
  refine zw_aload_n hX dL_law_2067 rfl ?_
  refine zw_iload hX dL_law_2068 rfl ?_
  refine zw_iconst (v := (3 : Int32)) hX dL_law_2070 (by decide) ?_
  refine zw_iadd hX dL_law_2071 ?_
  obtain ⟨v309, g, h⟩ := zb_some h
  refine zw_xi hX dL_law_2072 g ?_
  refine zw_aload_n hX dL_law_2073 rfl ?_
  refine zw_iload hX dL_law_2074 rfl ?_
  refine zw_iconst (v := (4 : Int32)) hX dL_law_2076 (by decide) ?_
  refine zw_iadd hX dL_law_2077 ?_
  obtain ⟨v310, g, h⟩ := zb_some h
  refine zw_xi hX dL_law_2078 g ?_
  refine zw_aload_n hX dL_law_2079 rfl ?_
  refine zw_iload hX dL_law_2080 rfl ?_
  refine zw_iconst (v := (5 : Int32)) hX dL_law_2082 (by decide) ?_
  refine zw_iadd hX dL_law_2083 ?_
  obtain ⟨v311, g, h⟩ := zb_some h
  refine zw_xi hX dL_law_2084 g ?_
  refine zw_aload_n hX dL_law_2085 rfl ?_
  by_cases hb2086 : 3 ≤ rc ∧ 18 ≤ rs
  · rw [if_pos hb2086] at h
    obtain ⟨r314, g, h⟩ := zb_some h
    refine zc_SH (as := [.ref a1, .int v307, .int v308, .int v309, .int v310, .int v311, .ref a3]) hX (zt_L_right hlt (d := d - 1) (by omega) g) zl_L_363 dL_law_2086 ⟨rfl, rfl, Nat.le_of_ble_eq_true rfl⟩ ⟨by omega, by omega⟩ hb2086 ?_ ?_
    · rintro _ _ ⟨rfl, rfl⟩
      refine zw_istore hX dL_law_2089 (by decide) ?_
      refine zw_aload_n hX dL_law_2091 rfl ?_
      refine zw_aload_n hX dL_law_2092 rfl ?_
      refine zw_iload hX dL_law_2093 rfl ?_
      refine zw_iconst (v := (1 : Int32)) hX dL_law_2095 (by decide) ?_
      refine zw_iadd hX dL_law_2096 ?_
      obtain ⟨v315, g, h⟩ := zb_some h
      refine zw_xi hX dL_law_2097 g ?_
      refine zw_aload_n hX dL_law_2098 rfl ?_
      refine zw_iload hX dL_law_2099 rfl ?_
      refine zw_iconst (v := (2 : Int32)) hX dL_law_2101 (by decide) ?_
      refine zw_iadd hX dL_law_2102 ?_
      obtain ⟨v316, g, h⟩ := zb_some h
      refine zw_xi hX dL_law_2103 g ?_
      refine zw_aload_n hX dL_law_2104 rfl ?_
      refine zw_iload hX dL_law_2105 rfl ?_
      refine zw_iconst (v := (3 : Int32)) hX dL_law_2107 (by decide) ?_
      refine zw_iadd hX dL_law_2108 ?_
      obtain ⟨v317, g, h⟩ := zb_some h
      refine zw_xi hX dL_law_2109 g ?_
      refine zw_aload_n hX dL_law_2110 rfl ?_
      refine zw_iload hX dL_law_2111 rfl ?_
      refine zw_iconst (v := (4 : Int32)) hX dL_law_2113 (by decide) ?_
      refine zw_iadd hX dL_law_2114 ?_
      obtain ⟨v318, g, h⟩ := zb_some h
      refine zw_xi hX dL_law_2115 g ?_
      refine zw_aload_n hX dL_law_2116 rfl ?_
      refine zw_iload hX dL_law_2117 rfl ?_
      refine zw_iconst (v := (5 : Int32)) hX dL_law_2119 (by decide) ?_
      refine zw_iadd hX dL_law_2120 ?_
      obtain ⟨v319, g, h⟩ := zb_some h
      refine zw_xi hX dL_law_2121 g ?_
      obtain ⟨_, gi, h⟩ := zb_some h
      obtain ⟨r321, g, h⟩ := zb_some h
      refine zc_Vi (as := [.int v315, .int v316, .int v317, .int v318, .int v319]) hX gi (zt_X18_right (d := d - 1) (by omega) g) zl_L_366 rfl dL_law_2122 ⟨rfl, rfl, Nat.le_of_ble_eq_true rfl⟩ ⟨by omega, by omega⟩ ?_
      refine zw_istore hX dL_law_2125 (by decide) ?_
      refine zw_aload_n hX dL_law_2127 rfl ?_
      obtain ⟨_, gi, h⟩ := zb_some h
      obtain ⟨r323, g, h⟩ := zb_some h
      refine zc_Vi (as := []) hX gi (zt_X18_thrown (d := d - 1) (by omega) g) zl_L_281 rfl dL_law_2128 ⟨rfl, rfl, Nat.le_of_ble_eq_true rfl⟩ ⟨by omega, by omega⟩ ?_
      refine zw_iload hX dL_law_2131 rfl ?_
      refine zw_icmp_eq (tgt := 2138) hX dL_law_2133 (by decide) (fun c2133 => ?_) (fun c2133 => ?_)
      · rw [if_pos c2133] at h
        refine zw_iload hX dL_law_2138 rfl ?_
        refine zw_if_ne (tgt := 2155) hX dL_law_2140 (by decide) (fun c2140 => ?_) (fun c2140 => ?_)
        · rw [if_neg c2140] at h
          refine zw_goto (tgt := 6002) hX dL_law_2155 (by decide) ?_
          refine zw_iinc (v := (i4 + (7 : Int32))) hX dL_law_6002 rfl rfl (by decide) ?_
          refine zw_goto (tgt := 23) hX dL_law_6005 (by decide) ?_
          refine zw_sub (lv' := [(0, .ref a0), (1, .ref a1), (2, .ref a2), (3, .ref a3), (4, .int (i4 + (7 : Int32)))]) (List.forall_mem_cons.mpr ⟨rfl, (List.forall_mem_cons.mpr ⟨rfl, (List.forall_mem_cons.mpr ⟨rfl, (List.forall_mem_cons.mpr ⟨rfl, (List.forall_mem_cons.mpr ⟨rfl, zs_nil⟩)⟩)⟩)⟩)⟩) ?_
          exact hrec _ _ _ _ h
        · rw [if_pos c2140] at h
          refine zw_aload_n hX dL_law_2143 rfl ?_
          refine zw_iconst (v := (0 : Int32)) hX dL_law_2144 (by decide) ?_
          obtain ⟨w324, g, h⟩ := zb_some h
          refine zw_xl hX dL_law_2145 g ?_
          refine zw_iload hX dL_law_2146 rfl ?_
          refine zw_i2l hX dL_law_2148 ?_
          refine zw_lcmp hX dL_law_2149 ?_
          refine zw_if_eq (tgt := 2155) hX dL_law_2150 (by decide) (fun c2150 => ?_) (fun c2150 => ?_)
          · rw [if_pos c2150] at h
            refine zw_goto (tgt := 6002) hX dL_law_2155 (by decide) ?_
            refine zw_iinc (v := (i4 + (7 : Int32))) hX dL_law_6002 rfl rfl (by decide) ?_
            refine zw_goto (tgt := 23) hX dL_law_6005 (by decide) ?_
            refine zw_sub (lv' := [(0, .ref a0), (1, .ref a1), (2, .ref a2), (3, .ref a3), (4, .int (i4 + (7 : Int32)))]) (List.forall_mem_cons.mpr ⟨rfl, (List.forall_mem_cons.mpr ⟨rfl, (List.forall_mem_cons.mpr ⟨rfl, (List.forall_mem_cons.mpr ⟨rfl, (List.forall_mem_cons.mpr ⟨rfl, zs_nil⟩)⟩)⟩)⟩)⟩) ?_
            exact hrec _ _ _ _ h
          · rw [if_neg c2150] at h
            refine zw_iconst (v := (0 : Int32)) hX dL_law_2153 (by decide) ?_
            cases h
      · rw [if_neg c2133] at h
        refine zw_iconst (v := (0 : Int32)) hX dL_law_2136 (by decide) ?_
        cases h
    · intro _ _ hx
      exact hx.elim
  · rw [if_neg hb2086] at h
    cases h
set_option maxHeartbeats 4000000 in
set_option maxRecDepth 100000 in
theorem zt_L_law_J2158 {p : Program} {l : Launch} {e : Env} {s : State} {m : MethodId} {zb : Nat} {below : List Frame} {meth : Method} {c : Code} {V : zm_V} {d : Nat} {nm : String} (hlt : l.stackTraces = false) (hV : V.2.2.2.1 = s.heap.size) (hX : zm_X p room_1 s m #[Value.ref zb] meth c RL nm cL_law 8 zk_E V 601024 7293034) (hr : meth.sig.returnType = ret) (hR : d ≤ room_1.frames ∧ 64 * d ≤ room_1.locals) (hd : 46 ≤ d) {N : Nat} {k : Nat → Nat → Nat → Nat → Int32 → Nat → Nat → zm_S → Option ((Int32 × zm_S) ⊕ ((Unit) × zm_S))} {rc rs : Nat} {a0 : Nat} {a1 : Nat} {a2 : Nat} {a3 : Nat} {i4 : Int32} {res : (Int32 × zm_S) ⊕ ((Unit) × zm_S)} {out : (Int32 × zm_S)}   (hf : ∀ o, res = .inl o → o = out) (hk : ∀ (S' : zm_S) (rc rs : Nat), res = .inr ((), S') → zw p l e room_1 s m #[Value.ref zb] below meth c (lw_Z below #[Value.ref zb] s) 8 zk_E V 601024 7293034 6008 [] [] S' rc rs) (hrec : ∀ (i4' : Int32) (rc rs : Nat) (S : zm_S), k a0 a1 a2 a3 i4' rc rs S = some res → zw p l e room_1 s m #[Value.ref zb] below meth c (lw_Z below #[Value.ref zb] s) 8 zk_E V 601024 7293034 23 [(0, .ref a0), (1, .ref a1), (2, .ref a2), (3, .ref a3), (4, .int i4')] [] S rc rs) {S : zm_S} (h : zf_L_law_J2158 N k a0 a1 a2 a3 i4 rc rs S = some res) : zw p l e room_1 s m #[Value.ref zb] below meth c (lw_Z below #[Value.ref zb] s) 8 zk_E V 601024 7293034 2158 [(0, .ref a0), (1, .ref a1), (2, .ref a2), (3, .ref a3), (4, .int i4)] [] S rc rs := by
  unfold zf_L_law_J2158 at h
  refine zw_aload_n hX dL_law_2158 rfl ?_
  refine zw_aload_n hX dL_law_2159 rfl ?_
  refine zw_iload hX dL_law_2160 rfl ?_
  refine zw_iconst (v := (1 : Int32)) hX dL_law_2162 (by decide) ?_
  refine zw_iadd hX dL_law_2163 ?_
  obtain ⟨v325, g, h⟩ := zb_some h
  refine zw_xi hX dL_law_2164 g ?_
  refine zw_aload_n hX dL_law_2165 rfl ?_
  refine zw_iload hX dL_law_2166 rfl ?_
  refine zw_iconst (v := (2 : Int32)) hX dL_law_2168 (by decide) ?_
  refine zw_iadd hX dL_law_2169 ?_
  obtain ⟨v326, g, h⟩ := zb_some h
  refine zw_xi hX dL_law_2170 g ?_
  refine zw_aload_n hX dL_law_2171 rfl ?_
  by_cases hb2172 : 2 ≤ rc ∧ 12 ≤ rs
  · rw [if_pos hb2172] at h
    obtain ⟨r329, g, h⟩ := zb_some h
    refine zc_SH (as := [.ref a1, .int v325, .int v326, .ref a3]) hX (zt_L_end hlt (d := d - 1) (by omega) g) zl_L_367 dL_law_2172 ⟨rfl, rfl, Nat.le_of_ble_eq_true rfl⟩ ⟨by omega, by omega⟩ hb2172 ?_ ?_
    · rintro _ _ ⟨rfl, rfl⟩
      refine zw_istore hX dL_law_2175 (by decide) ?_
      refine zw_aload_n hX dL_law_2177 rfl ?_
      refine zw_aload_n hX dL_law_2178 rfl ?_
      refine zw_iload hX dL_law_2179 rfl ?_
      refine zw_iconst (v := (1 : Int32)) hX dL_law_2181 (by decide) ?_
      refine zw_iadd hX dL_law_2182 ?_
      obtain ⟨v330, g, h⟩ := zb_some h
      refine zw_xi hX dL_law_2183 g ?_
      refine zw_aload_n hX dL_law_2184 rfl ?_
      refine zw_iload hX dL_law_2185 rfl ?_
      refine zw_iconst (v := (2 : Int32)) hX dL_law_2187 (by decide) ?_
      refine zw_iadd hX dL_law_2188 ?_
      obtain ⟨v331, g, h⟩ := zb_some h
      refine zw_xi hX dL_law_2189 g ?_
      obtain ⟨_, gi, h⟩ := zb_some h
      obtain ⟨r333, g, h⟩ := zb_some h
      refine zc_Vi (as := [.int v330, .int v331]) hX gi (zt_X18_end (d := d - 1) (by omega) g) zl_L_369 rfl dL_law_2190 ⟨rfl, rfl, Nat.le_of_ble_eq_true rfl⟩ ⟨by omega, by omega⟩ ?_
      refine zw_istore hX dL_law_2193 (by decide) ?_
      refine zw_aload_n hX dL_law_2195 rfl ?_
      obtain ⟨_, gi, h⟩ := zb_some h
      obtain ⟨r335, g, h⟩ := zb_some h
      refine zc_Vi (as := []) hX gi (zt_X18_thrown (d := d - 1) (by omega) g) zl_L_281 rfl dL_law_2196 ⟨rfl, rfl, Nat.le_of_ble_eq_true rfl⟩ ⟨by omega, by omega⟩ ?_
      refine zw_iload hX dL_law_2199 rfl ?_
      refine zw_icmp_eq (tgt := 2206) hX dL_law_2201 (by decide) (fun c2201 => ?_) (fun c2201 => ?_)
      · rw [if_pos c2201] at h
        refine zw_iload hX dL_law_2206 rfl ?_
        refine zw_if_ne (tgt := 2223) hX dL_law_2208 (by decide) (fun c2208 => ?_) (fun c2208 => ?_)
        · rw [if_neg c2208] at h
          refine zw_goto (tgt := 6002) hX dL_law_2223 (by decide) ?_
          refine zw_iinc (v := (i4 + (7 : Int32))) hX dL_law_6002 rfl rfl (by decide) ?_
          refine zw_goto (tgt := 23) hX dL_law_6005 (by decide) ?_
          refine zw_sub (lv' := [(0, .ref a0), (1, .ref a1), (2, .ref a2), (3, .ref a3), (4, .int (i4 + (7 : Int32)))]) (List.forall_mem_cons.mpr ⟨rfl, (List.forall_mem_cons.mpr ⟨rfl, (List.forall_mem_cons.mpr ⟨rfl, (List.forall_mem_cons.mpr ⟨rfl, (List.forall_mem_cons.mpr ⟨rfl, zs_nil⟩)⟩)⟩)⟩)⟩) ?_
          exact hrec _ _ _ _ h
        · rw [if_pos c2208] at h
          refine zw_aload_n hX dL_law_2211 rfl ?_
          refine zw_iconst (v := (0 : Int32)) hX dL_law_2212 (by decide) ?_
          obtain ⟨w336, g, h⟩ := zb_some h
          refine zw_xl hX dL_law_2213 g ?_
          refine zw_iload hX dL_law_2214 rfl ?_
          refine zw_i2l hX dL_law_2216 ?_
          refine zw_lcmp hX dL_law_2217 ?_
          refine zw_if_eq (tgt := 2223) hX dL_law_2218 (by decide) (fun c2218 => ?_) (fun c2218 => ?_)
          · rw [if_pos c2218] at h
            refine zw_goto (tgt := 6002) hX dL_law_2223 (by decide) ?_
            refine zw_iinc (v := (i4 + (7 : Int32))) hX dL_law_6002 rfl rfl (by decide) ?_
            refine zw_goto (tgt := 23) hX dL_law_6005 (by decide) ?_
            refine zw_sub (lv' := [(0, .ref a0), (1, .ref a1), (2, .ref a2), (3, .ref a3), (4, .int (i4 + (7 : Int32)))]) (List.forall_mem_cons.mpr ⟨rfl, (List.forall_mem_cons.mpr ⟨rfl, (List.forall_mem_cons.mpr ⟨rfl, (List.forall_mem_cons.mpr ⟨rfl, (List.forall_mem_cons.mpr ⟨rfl, zs_nil⟩)⟩)⟩)⟩)⟩) ?_
            exact hrec _ _ _ _ h
          · rw [if_neg c2218] at h
            refine zw_iconst (v := (0 : Int32)) hX dL_law_2221 (by decide) ?_
            cases h
      · rw [if_neg c2201] at h
        refine zw_iconst (v := (0 : Int32)) hX dL_law_2204 (by decide) ?_
        cases h
    · intro _ _ hx
      exact hx.elim
  · rw [if_neg hb2172] at h
    cases h
set_option maxHeartbeats 4000000 in
set_option maxRecDepth 100000 in
theorem zt_L_law_J2226 {p : Program} {l : Launch} {e : Env} {s : State} {m : MethodId} {zb : Nat} {below : List Frame} {meth : Method} {c : Code} {V : zm_V} {d : Nat} {nm : String} (hlt : l.stackTraces = false) (hV : V.2.2.2.1 = s.heap.size) (hX : zm_X p room_1 s m #[Value.ref zb] meth c RL nm cL_law 8 zk_E V 601024 7293034) (hr : meth.sig.returnType = ret) (hR : d ≤ room_1.frames ∧ 64 * d ≤ room_1.locals) (hd : 46 ≤ d) {N : Nat} {k : Nat → Nat → Nat → Nat → Int32 → Nat → Nat → zm_S → Option ((Int32 × zm_S) ⊕ ((Unit) × zm_S))} {rc rs : Nat} {a0 : Nat} {a1 : Nat} {a2 : Nat} {a3 : Nat} {i4 : Int32} {res : (Int32 × zm_S) ⊕ ((Unit) × zm_S)} {out : (Int32 × zm_S)}   (hf : ∀ o, res = .inl o → o = out) (hk : ∀ (S' : zm_S) (rc rs : Nat), res = .inr ((), S') → zw p l e room_1 s m #[Value.ref zb] below meth c (lw_Z below #[Value.ref zb] s) 8 zk_E V 601024 7293034 6008 [] [] S' rc rs) (hrec : ∀ (i4' : Int32) (rc rs : Nat) (S : zm_S), k a0 a1 a2 a3 i4' rc rs S = some res → zw p l e room_1 s m #[Value.ref zb] below meth c (lw_Z below #[Value.ref zb] s) 8 zk_E V 601024 7293034 23 [(0, .ref a0), (1, .ref a1), (2, .ref a2), (3, .ref a3), (4, .int i4')] [] S rc rs) {S : zm_S} (h : zf_L_law_J2226 N k a0 a1 a2 a3 i4 rc rs S = some res) : zw p l e room_1 s m #[Value.ref zb] below meth c (lw_Z below #[Value.ref zb] s) 8 zk_E V 601024 7293034 2226 [(0, .ref a0), (1, .ref a1), (2, .ref a2), (3, .ref a3), (4, .int i4)] [] S rc rs := by
  unfold zf_L_law_J2226 at h
  refine zw_aload_n hX dL_law_2226 rfl ?_
  refine zw_aload_n hX dL_law_2227 rfl ?_
  refine zw_iload hX dL_law_2228 rfl ?_
  refine zw_iconst (v := (1 : Int32)) hX dL_law_2230 (by decide) ?_
  refine zw_iadd hX dL_law_2231 ?_
  obtain ⟨v337, g, h⟩ := zb_some h
  refine zw_xi hX dL_law_2232 g ?_
  refine zw_aload_n hX dL_law_2233 rfl ?_
  refine zw_iload hX dL_law_2234 rfl ?_
  refine zw_iconst (v := (2 : Int32)) hX dL_law_2236 (by decide) ?_
  refine zw_iadd hX dL_law_2237 ?_
  obtain ⟨v338, g, h⟩ := zb_some h
  refine zw_xi hX dL_law_2238 g ?_
  refine zw_aload_n hX dL_law_2239 rfl ?_
  by_cases hb2240 : 2 ≤ rc ∧ 12 ≤ rs
  · rw [if_pos hb2240] at h
    obtain ⟨r341, g, h⟩ := zb_some h
    refine zc_SH (as := [.ref a1, .int v337, .int v338, .ref a3]) hX (zt_L_lost hlt (d := d - 1) (by omega) g) zl_L_370 dL_law_2240 ⟨rfl, rfl, Nat.le_of_ble_eq_true rfl⟩ ⟨by omega, by omega⟩ hb2240 ?_ ?_
    · rintro _ _ ⟨rfl, rfl⟩
      refine zw_istore hX dL_law_2243 (by decide) ?_
      refine zw_aload_n hX dL_law_2245 rfl ?_
      refine zw_aload_n hX dL_law_2246 rfl ?_
      refine zw_iload hX dL_law_2247 rfl ?_
      refine zw_iconst (v := (1 : Int32)) hX dL_law_2249 (by decide) ?_
      refine zw_iadd hX dL_law_2250 ?_
      obtain ⟨v342, g, h⟩ := zb_some h
      refine zw_xi hX dL_law_2251 g ?_
      refine zw_aload_n hX dL_law_2252 rfl ?_
      refine zw_iload hX dL_law_2253 rfl ?_
      refine zw_iconst (v := (2 : Int32)) hX dL_law_2255 (by decide) ?_
      refine zw_iadd hX dL_law_2256 ?_
      obtain ⟨v343, g, h⟩ := zb_some h
      refine zw_xi hX dL_law_2257 g ?_
      obtain ⟨_, gi, h⟩ := zb_some h
      obtain ⟨r345, g, h⟩ := zb_some h
      refine zc_Vi (as := [.int v342, .int v343]) hX gi (zt_X18_lost (d := d - 1) (by omega) g) zl_L_372 rfl dL_law_2258 ⟨rfl, rfl, Nat.le_of_ble_eq_true rfl⟩ ⟨by omega, by omega⟩ ?_
      refine zw_istore hX dL_law_2261 (by decide) ?_
      refine zw_aload_n hX dL_law_2263 rfl ?_
      obtain ⟨_, gi, h⟩ := zb_some h
      obtain ⟨r347, g, h⟩ := zb_some h
      refine zc_Vi (as := []) hX gi (zt_X18_thrown (d := d - 1) (by omega) g) zl_L_281 rfl dL_law_2264 ⟨rfl, rfl, Nat.le_of_ble_eq_true rfl⟩ ⟨by omega, by omega⟩ ?_
      refine zw_iload hX dL_law_2267 rfl ?_
      refine zw_icmp_eq (tgt := 2274) hX dL_law_2269 (by decide) (fun c2269 => ?_) (fun c2269 => ?_)
      · rw [if_pos c2269] at h
        refine zw_iload hX dL_law_2274 rfl ?_
        refine zw_if_ne (tgt := 2291) hX dL_law_2276 (by decide) (fun c2276 => ?_) (fun c2276 => ?_)
        · rw [if_neg c2276] at h
          refine zw_goto (tgt := 6002) hX dL_law_2291 (by decide) ?_
          refine zw_iinc (v := (i4 + (7 : Int32))) hX dL_law_6002 rfl rfl (by decide) ?_
          refine zw_goto (tgt := 23) hX dL_law_6005 (by decide) ?_
          refine zw_sub (lv' := [(0, .ref a0), (1, .ref a1), (2, .ref a2), (3, .ref a3), (4, .int (i4 + (7 : Int32)))]) (List.forall_mem_cons.mpr ⟨rfl, (List.forall_mem_cons.mpr ⟨rfl, (List.forall_mem_cons.mpr ⟨rfl, (List.forall_mem_cons.mpr ⟨rfl, (List.forall_mem_cons.mpr ⟨rfl, zs_nil⟩)⟩)⟩)⟩)⟩) ?_
          exact hrec _ _ _ _ h
        · rw [if_pos c2276] at h
          refine zw_aload_n hX dL_law_2279 rfl ?_
          refine zw_iconst (v := (0 : Int32)) hX dL_law_2280 (by decide) ?_
          obtain ⟨w348, g, h⟩ := zb_some h
          refine zw_xl hX dL_law_2281 g ?_
          refine zw_iload hX dL_law_2282 rfl ?_
          refine zw_i2l hX dL_law_2284 ?_
          refine zw_lcmp hX dL_law_2285 ?_
          refine zw_if_eq (tgt := 2291) hX dL_law_2286 (by decide) (fun c2286 => ?_) (fun c2286 => ?_)
          · rw [if_pos c2286] at h
            refine zw_goto (tgt := 6002) hX dL_law_2291 (by decide) ?_
            refine zw_iinc (v := (i4 + (7 : Int32))) hX dL_law_6002 rfl rfl (by decide) ?_
            refine zw_goto (tgt := 23) hX dL_law_6005 (by decide) ?_
            refine zw_sub (lv' := [(0, .ref a0), (1, .ref a1), (2, .ref a2), (3, .ref a3), (4, .int (i4 + (7 : Int32)))]) (List.forall_mem_cons.mpr ⟨rfl, (List.forall_mem_cons.mpr ⟨rfl, (List.forall_mem_cons.mpr ⟨rfl, (List.forall_mem_cons.mpr ⟨rfl, (List.forall_mem_cons.mpr ⟨rfl, zs_nil⟩)⟩)⟩)⟩)⟩) ?_
            exact hrec _ _ _ _ h
          · rw [if_neg c2286] at h
            refine zw_iconst (v := (0 : Int32)) hX dL_law_2289 (by decide) ?_
            cases h
      · rw [if_neg c2269] at h
        refine zw_iconst (v := (0 : Int32)) hX dL_law_2272 (by decide) ?_
        cases h
    · intro _ _ hx
      exact hx.elim
  · rw [if_neg hb2240] at h
    cases h
set_option maxHeartbeats 4000000 in
set_option maxRecDepth 100000 in
theorem zt_L_law_J2376 {p : Program} {l : Launch} {e : Env} {s : State} {m : MethodId} {zb : Nat} {below : List Frame} {meth : Method} {c : Code} {V : zm_V} {d : Nat} {nm : String} (hlt : l.stackTraces = false) (hV : V.2.2.2.1 = s.heap.size) (hX : zm_X p room_1 s m #[Value.ref zb] meth c RL nm cL_law 8 zk_E V 601024 7293034) (hr : meth.sig.returnType = ret) (hR : d ≤ room_1.frames ∧ 64 * d ≤ room_1.locals) (hd : 46 ≤ d) {N : Nat} {k : Nat → Nat → Nat → Nat → Int32 → Nat → Nat → zm_S → Option ((Int32 × zm_S) ⊕ ((Unit) × zm_S))} {rc rs : Nat} {a0 : Nat} {a1 : Nat} {a2 : Nat} {a3 : Nat} {i4 : Int32} {t0 : Int64} {t1 : Int64} {res : (Int32 × zm_S) ⊕ ((Unit) × zm_S)} {out : (Int32 × zm_S)}   (hf : ∀ o, res = .inl o → o = out) (hk : ∀ (S' : zm_S) (rc rs : Nat), res = .inr ((), S') → zw p l e room_1 s m #[Value.ref zb] below meth c (lw_Z below #[Value.ref zb] s) 8 zk_E V 601024 7293034 6008 [] [] S' rc rs) (hrec : ∀ (i4' : Int32) (rc rs : Nat) (S : zm_S), k a0 a1 a2 a3 i4' rc rs S = some res → zw p l e room_1 s m #[Value.ref zb] below meth c (lw_Z below #[Value.ref zb] s) 8 zk_E V 601024 7293034 23 [(0, .ref a0), (1, .ref a1), (2, .ref a2), (3, .ref a3), (4, .int i4')] [] S rc rs) {S : zm_S} (h : zf_L_law_J2376 N k a0 a1 a2 a3 i4 t0 t1 rc rs S = some res) : zw p l e room_1 s m #[Value.ref zb] below meth c (lw_Z below #[Value.ref zb] s) 8 zk_E V 601024 7293034 2376 [(0, .ref a0), (1, .ref a1), (2, .ref a2), (3, .ref a3), (4, .int i4)] [.long t1, .long t0] S rc rs := by
  unfold zf_L_law_J2376 at h
  refine zw_lcmp hX dL_law_2376 ?_
  refine zw_if_eq (tgt := 2382) hX dL_law_2377 (by decide) (fun c2377 => ?_) (fun c2377 => ?_)
  · rw [if_pos c2377] at h
    refine zw_goto (tgt := 6002) hX dL_law_2382 (by decide) ?_
    refine zw_iinc (v := (i4 + (7 : Int32))) hX dL_law_6002 rfl rfl (by decide) ?_
    refine zw_goto (tgt := 23) hX dL_law_6005 (by decide) ?_
    refine zw_sub (lv' := [(0, .ref a0), (1, .ref a1), (2, .ref a2), (3, .ref a3), (4, .int (i4 + (7 : Int32)))]) (List.forall_mem_cons.mpr ⟨rfl, (List.forall_mem_cons.mpr ⟨rfl, (List.forall_mem_cons.mpr ⟨rfl, (List.forall_mem_cons.mpr ⟨rfl, (List.forall_mem_cons.mpr ⟨rfl, zs_nil⟩)⟩)⟩)⟩)⟩) ?_
    exact hrec _ _ _ _ h
  · rw [if_neg c2377] at h
    refine zw_iconst (v := (0 : Int32)) hX dL_law_2380 (by decide) ?_
    cases h
set_option maxHeartbeats 4000000 in
set_option maxRecDepth 100000 in
theorem zt_L_law_J2342 {p : Program} {l : Launch} {e : Env} {s : State} {m : MethodId} {zb : Nat} {below : List Frame} {meth : Method} {c : Code} {V : zm_V} {d : Nat} {nm : String} (hlt : l.stackTraces = false) (hV : V.2.2.2.1 = s.heap.size) (hX : zm_X p room_1 s m #[Value.ref zb] meth c RL nm cL_law 8 zk_E V 601024 7293034) (hr : meth.sig.returnType = ret) (hR : d ≤ room_1.frames ∧ 64 * d ≤ room_1.locals) (hd : 46 ≤ d) {N : Nat} {k : Nat → Nat → Nat → Nat → Int32 → Nat → Nat → zm_S → Option ((Int32 × zm_S) ⊕ ((Unit) × zm_S))} {rc rs : Nat} {a0 : Nat} {a1 : Nat} {a2 : Nat} {a3 : Nat} {i4 : Int32} {i5 : Int32} {t0 : Nat} {t1 : Int32} {t2 : Int32} {res : (Int32 × zm_S) ⊕ ((Unit) × zm_S)} {out : (Int32 × zm_S)}   (hf : ∀ o, res = .inl o → o = out) (hk : ∀ (S' : zm_S) (rc rs : Nat), res = .inr ((), S') → zw p l e room_1 s m #[Value.ref zb] below meth c (lw_Z below #[Value.ref zb] s) 8 zk_E V 601024 7293034 6008 [] [] S' rc rs) (hrec : ∀ (i4' : Int32) (rc rs : Nat) (S : zm_S), k a0 a1 a2 a3 i4' rc rs S = some res → zw p l e room_1 s m #[Value.ref zb] below meth c (lw_Z below #[Value.ref zb] s) 8 zk_E V 601024 7293034 23 [(0, .ref a0), (1, .ref a1), (2, .ref a2), (3, .ref a3), (4, .int i4')] [] S rc rs) {S : zm_S} (h : zf_L_law_J2342 N k a0 a1 a2 a3 i4 i5 t0 t1 t2 rc rs S = some res) : zw p l e room_1 s m #[Value.ref zb] below meth c (lw_Z below #[Value.ref zb] s) 8 zk_E V 601024 7293034 2342 [(0, .ref a0), (1, .ref a1), (2, .ref a2), (3, .ref a3), (4, .int i4), (5, .int i5)] [.int t2, .int t1, .ref t0] S rc rs := by
  unfold zf_L_law_J2342 at h
  obtain ⟨_, gi, h⟩ := zb_some h
  obtain ⟨r357, g, h⟩ := zb_some h
  refine zc_Vi (as := [.int t1, .int t2]) hX gi (zt_X18_two (d := d - 1) (by omega) g) zl_L_376 rfl dL_law_2342 ⟨rfl, rfl, Nat.le_of_ble_eq_true rfl⟩ ⟨by omega, by omega⟩ ?_
  refine zw_istore hX dL_law_2345 (by decide) ?_
  refine zw_aload_n hX dL_law_2347 rfl ?_
  obtain ⟨_, gi, h⟩ := zb_some h
  obtain ⟨r359, g, h⟩ := zb_some h
  refine zc_Vi (as := []) hX gi (zt_X18_thrown (d := d - 1) (by omega) g) zl_L_281 rfl dL_law_2348 ⟨rfl, rfl, Nat.le_of_ble_eq_true rfl⟩ ⟨by omega, by omega⟩ ?_
  refine zw_iload hX dL_law_2351 rfl ?_
  refine zw_icmp_eq (tgt := 2358) hX dL_law_2353 (by decide) (fun c2353 => ?_) (fun c2353 => ?_)
  · rw [if_pos c2353] at h
    refine zw_iload hX dL_law_2358 rfl ?_
    refine zw_if_ne (tgt := 2382) hX dL_law_2360 (by decide) (fun c2360 => ?_) (fun c2360 => ?_)
    · rw [if_neg c2360] at h
      refine zw_goto (tgt := 6002) hX dL_law_2382 (by decide) ?_
      refine zw_iinc (v := (i4 + (7 : Int32))) hX dL_law_6002 rfl rfl (by decide) ?_
      refine zw_goto (tgt := 23) hX dL_law_6005 (by decide) ?_
      refine zw_sub (lv' := [(0, .ref a0), (1, .ref a1), (2, .ref a2), (3, .ref a3), (4, .int (i4 + (7 : Int32)))]) (List.forall_mem_cons.mpr ⟨rfl, (List.forall_mem_cons.mpr ⟨rfl, (List.forall_mem_cons.mpr ⟨rfl, (List.forall_mem_cons.mpr ⟨rfl, (List.forall_mem_cons.mpr ⟨rfl, zs_nil⟩)⟩)⟩)⟩)⟩) ?_
      exact hrec _ _ _ _ h
    · rw [if_pos c2360] at h
      refine zw_aload_n hX dL_law_2363 rfl ?_
      refine zw_iconst (v := (0 : Int32)) hX dL_law_2364 (by decide) ?_
      obtain ⟨w360, g, h⟩ := zb_some h
      refine zw_xl hX dL_law_2365 g ?_
      refine zw_iload hX dL_law_2366 rfl ?_
      refine zw_if_eq (tgt := 2375) hX dL_law_2368 (by decide) (fun c2368 => ?_) (fun c2368 => ?_)
      · rw [if_pos c2368] at h
        refine zw_lconst (v := (0 : Int64)) hX dL_law_2375 (by decide) ?_
        refine zw_sub (lv' := [(0, .ref a0), (1, .ref a1), (2, .ref a2), (3, .ref a3), (4, .int i4)]) (List.forall_mem_cons.mpr ⟨rfl, (List.forall_mem_cons.mpr ⟨rfl, (List.forall_mem_cons.mpr ⟨rfl, (List.forall_mem_cons.mpr ⟨rfl, (List.forall_mem_cons.mpr ⟨rfl, zs_nil⟩)⟩)⟩)⟩)⟩) ?_
        exact zt_L_law_J2376 hlt hV hX hr hR hd hf hk hrec h
      · rw [if_neg c2368] at h
        refine zw_lconst (v := (1 : Int64)) hX dL_law_2371 (by decide) ?_
        refine zw_goto (tgt := 2376) hX dL_law_2372 (by decide) ?_
        refine zw_sub (lv' := [(0, .ref a0), (1, .ref a1), (2, .ref a2), (3, .ref a3), (4, .int i4)]) (List.forall_mem_cons.mpr ⟨rfl, (List.forall_mem_cons.mpr ⟨rfl, (List.forall_mem_cons.mpr ⟨rfl, (List.forall_mem_cons.mpr ⟨rfl, (List.forall_mem_cons.mpr ⟨rfl, zs_nil⟩)⟩)⟩)⟩)⟩) ?_
        exact zt_L_law_J2376 hlt hV hX hr hR hd hf hk hrec h
  · rw [if_neg c2353] at h
    refine zw_iconst (v := (0 : Int32)) hX dL_law_2356 (by decide) ?_
    cases h
set_option maxHeartbeats 4000000 in
set_option maxRecDepth 100000 in
theorem zt_L_law_J2315 {p : Program} {l : Launch} {e : Env} {s : State} {m : MethodId} {zb : Nat} {below : List Frame} {meth : Method} {c : Code} {V : zm_V} {d : Nat} {nm : String} (hlt : l.stackTraces = false) (hV : V.2.2.2.1 = s.heap.size) (hX : zm_X p room_1 s m #[Value.ref zb] meth c RL nm cL_law 8 zk_E V 601024 7293034) (hr : meth.sig.returnType = ret) (hR : d ≤ room_1.frames ∧ 64 * d ≤ room_1.locals) (hd : 46 ≤ d) {N : Nat} {k : Nat → Nat → Nat → Nat → Int32 → Nat → Nat → zm_S → Option ((Int32 × zm_S) ⊕ ((Unit) × zm_S))} {rc rs : Nat} {a0 : Nat} {a1 : Nat} {a2 : Nat} {a3 : Nat} {i4 : Int32} {t0 : Nat} {t1 : Int32} {t2 : Int32} {res : (Int32 × zm_S) ⊕ ((Unit) × zm_S)} {out : (Int32 × zm_S)}   (hf : ∀ o, res = .inl o → o = out) (hk : ∀ (S' : zm_S) (rc rs : Nat), res = .inr ((), S') → zw p l e room_1 s m #[Value.ref zb] below meth c (lw_Z below #[Value.ref zb] s) 8 zk_E V 601024 7293034 6008 [] [] S' rc rs) (hrec : ∀ (i4' : Int32) (rc rs : Nat) (S : zm_S), k a0 a1 a2 a3 i4' rc rs S = some res → zw p l e room_1 s m #[Value.ref zb] below meth c (lw_Z below #[Value.ref zb] s) 8 zk_E V 601024 7293034 23 [(0, .ref a0), (1, .ref a1), (2, .ref a2), (3, .ref a3), (4, .int i4')] [] S rc rs) {S : zm_S} (h : zf_L_law_J2315 N k a0 a1 a2 a3 i4 t0 t1 t2 rc rs S = some res) : zw p l e room_1 s m #[Value.ref zb] below meth c (lw_Z below #[Value.ref zb] s) 8 zk_E V 601024 7293034 2315 [(0, .ref a0), (1, .ref a1), (2, .ref a2), (3, .ref a3), (4, .int i4)] [.int t2, .int t1, .ref t0] S rc rs := by
  unfold zf_L_law_J2315 at h
  refine zw_aload_n hX dL_law_2315 rfl ?_
  by_cases hb2316 : 2 ≤ rc ∧ 12 ≤ rs
  · rw [if_pos hb2316] at h
    obtain ⟨r353, g, h⟩ := zb_some h
    refine zc_SH (as := [.ref t0, .int t1, .int t2, .ref a3]) hX (zt_L_two hlt (d := d - 1) (by omega) g) zl_L_373 dL_law_2316 ⟨rfl, rfl, Nat.le_of_ble_eq_true rfl⟩ ⟨by omega, by omega⟩ hb2316 ?_ ?_
    · rintro _ _ ⟨rfl, rfl⟩
      refine zw_istore hX dL_law_2319 (by decide) ?_
      refine zw_aload_n hX dL_law_2321 rfl ?_
      refine zw_aload_n hX dL_law_2322 rfl ?_
      refine zw_iload hX dL_law_2323 rfl ?_
      refine zw_iconst (v := (1 : Int32)) hX dL_law_2325 (by decide) ?_
      refine zw_iadd hX dL_law_2326 ?_
      obtain ⟨v354, g, h⟩ := zb_some h
      refine zw_xi hX dL_law_2327 g ?_
      refine zw_aload_n hX dL_law_2328 rfl ?_
      refine zw_iload hX dL_law_2329 rfl ?_
      refine zw_iconst (v := (2 : Int32)) hX dL_law_2331 (by decide) ?_
      refine zw_iadd hX dL_law_2332 ?_
      obtain ⟨v355, g, h⟩ := zb_some h
      refine zw_xi hX dL_law_2333 g ?_
      refine zw_if_eq (tgt := 2341) hX dL_law_2334 (by decide) (fun c2334 => ?_) (fun c2334 => ?_)
      · rw [if_pos c2334] at h
        refine zw_iconst (v := (0 : Int32)) hX dL_law_2341 (by decide) ?_
        refine zw_sub (lv' := [(0, .ref a0), (1, .ref a1), (2, .ref a2), (3, .ref a3), (4, .int i4), (5, .int r353.1)]) (List.forall_mem_cons.mpr ⟨rfl, (List.forall_mem_cons.mpr ⟨rfl, (List.forall_mem_cons.mpr ⟨rfl, (List.forall_mem_cons.mpr ⟨rfl, (List.forall_mem_cons.mpr ⟨rfl, (List.forall_mem_cons.mpr ⟨rfl, zs_nil⟩)⟩)⟩)⟩)⟩)⟩) ?_
        exact zt_L_law_J2342 hlt hV hX hr hR hd hf hk hrec h
      · rw [if_neg c2334] at h
        refine zw_iconst (v := (1 : Int32)) hX dL_law_2337 (by decide) ?_
        refine zw_goto (tgt := 2342) hX dL_law_2338 (by decide) ?_
        refine zw_sub (lv' := [(0, .ref a0), (1, .ref a1), (2, .ref a2), (3, .ref a3), (4, .int i4), (5, .int r353.1)]) (List.forall_mem_cons.mpr ⟨rfl, (List.forall_mem_cons.mpr ⟨rfl, (List.forall_mem_cons.mpr ⟨rfl, (List.forall_mem_cons.mpr ⟨rfl, (List.forall_mem_cons.mpr ⟨rfl, (List.forall_mem_cons.mpr ⟨rfl, zs_nil⟩)⟩)⟩)⟩)⟩)⟩) ?_
        exact zt_L_law_J2342 hlt hV hX hr hR hd hf hk hrec h
    · intro _ _ hx
      exact hx.elim
  · rw [if_neg hb2316] at h
    cases h
set_option maxHeartbeats 4000000 in
set_option maxRecDepth 100000 in
theorem zt_L_law_J2294 {p : Program} {l : Launch} {e : Env} {s : State} {m : MethodId} {zb : Nat} {below : List Frame} {meth : Method} {c : Code} {V : zm_V} {d : Nat} {nm : String} (hlt : l.stackTraces = false) (hV : V.2.2.2.1 = s.heap.size) (hX : zm_X p room_1 s m #[Value.ref zb] meth c RL nm cL_law 8 zk_E V 601024 7293034) (hr : meth.sig.returnType = ret) (hR : d ≤ room_1.frames ∧ 64 * d ≤ room_1.locals) (hd : 46 ≤ d) {N : Nat} {k : Nat → Nat → Nat → Nat → Int32 → Nat → Nat → zm_S → Option ((Int32 × zm_S) ⊕ ((Unit) × zm_S))} {rc rs : Nat} {a0 : Nat} {a1 : Nat} {a2 : Nat} {a3 : Nat} {i4 : Int32} {res : (Int32 × zm_S) ⊕ ((Unit) × zm_S)} {out : (Int32 × zm_S)}   (hf : ∀ o, res = .inl o → o = out) (hk : ∀ (S' : zm_S) (rc rs : Nat), res = .inr ((), S') → zw p l e room_1 s m #[Value.ref zb] below meth c (lw_Z below #[Value.ref zb] s) 8 zk_E V 601024 7293034 6008 [] [] S' rc rs) (hrec : ∀ (i4' : Int32) (rc rs : Nat) (S : zm_S), k a0 a1 a2 a3 i4' rc rs S = some res → zw p l e room_1 s m #[Value.ref zb] below meth c (lw_Z below #[Value.ref zb] s) 8 zk_E V 601024 7293034 23 [(0, .ref a0), (1, .ref a1), (2, .ref a2), (3, .ref a3), (4, .int i4')] [] S rc rs) {S : zm_S} (h : zf_L_law_J2294 N k a0 a1 a2 a3 i4 rc rs S = some res) : zw p l e room_1 s m #[Value.ref zb] below meth c (lw_Z below #[Value.ref zb] s) 8 zk_E V 601024 7293034 2294 [(0, .ref a0), (1, .ref a1), (2, .ref a2), (3, .ref a3), (4, .int i4)] [] S rc rs := by
  unfold zf_L_law_J2294 at h
  refine zw_aload_n hX dL_law_2294 rfl ?_
  refine zw_aload_n hX dL_law_2295 rfl ?_
  refine zw_iload hX dL_law_2296 rfl ?_
  refine zw_iconst (v := (1 : Int32)) hX dL_law_2298 (by decide) ?_
  refine zw_iadd hX dL_law_2299 ?_
  obtain ⟨v349, g, h⟩ := zb_some h
  refine zw_xi hX dL_law_2300 g ?_
  refine zw_aload_n hX dL_law_2301 rfl ?_
  refine zw_iload hX dL_law_2302 rfl ?_
  refine zw_iconst (v := (2 : Int32)) hX dL_law_2304 (by decide) ?_
  refine zw_iadd hX dL_law_2305 ?_
  obtain ⟨v350, g, h⟩ := zb_some h
  refine zw_xi hX dL_law_2306 g ?_
  refine zw_if_eq (tgt := 2314) hX dL_law_2307 (by decide) (fun c2307 => ?_) (fun c2307 => ?_)
  · rw [if_pos c2307] at h
    refine zw_iconst (v := (0 : Int32)) hX dL_law_2314 (by decide) ?_
    refine zw_sub (lv' := [(0, .ref a0), (1, .ref a1), (2, .ref a2), (3, .ref a3), (4, .int i4)]) (List.forall_mem_cons.mpr ⟨rfl, (List.forall_mem_cons.mpr ⟨rfl, (List.forall_mem_cons.mpr ⟨rfl, (List.forall_mem_cons.mpr ⟨rfl, (List.forall_mem_cons.mpr ⟨rfl, zs_nil⟩)⟩)⟩)⟩)⟩) ?_
    exact zt_L_law_J2315 hlt hV hX hr hR hd hf hk hrec h
  · rw [if_neg c2307] at h
    refine zw_iconst (v := (1 : Int32)) hX dL_law_2310 (by decide) ?_
    refine zw_goto (tgt := 2315) hX dL_law_2311 (by decide) ?_
    refine zw_sub (lv' := [(0, .ref a0), (1, .ref a1), (2, .ref a2), (3, .ref a3), (4, .int i4)]) (List.forall_mem_cons.mpr ⟨rfl, (List.forall_mem_cons.mpr ⟨rfl, (List.forall_mem_cons.mpr ⟨rfl, (List.forall_mem_cons.mpr ⟨rfl, (List.forall_mem_cons.mpr ⟨rfl, zs_nil⟩)⟩)⟩)⟩)⟩) ?_
    exact zt_L_law_J2315 hlt hV hX hr hR hd hf hk hrec h
set_option maxHeartbeats 4000000 in
set_option maxRecDepth 100000 in
theorem zt_L_law_J2479 {p : Program} {l : Launch} {e : Env} {s : State} {m : MethodId} {zb : Nat} {below : List Frame} {meth : Method} {c : Code} {V : zm_V} {d : Nat} {nm : String} (hlt : l.stackTraces = false) (hV : V.2.2.2.1 = s.heap.size) (hX : zm_X p room_1 s m #[Value.ref zb] meth c RL nm cL_law 8 zk_E V 601024 7293034) (hr : meth.sig.returnType = ret) (hR : d ≤ room_1.frames ∧ 64 * d ≤ room_1.locals) (hd : 46 ≤ d) {N : Nat} {k : Nat → Nat → Nat → Nat → Int32 → Nat → Nat → zm_S → Option ((Int32 × zm_S) ⊕ ((Unit) × zm_S))} {rc rs : Nat} {a0 : Nat} {a1 : Nat} {a2 : Nat} {a3 : Nat} {i4 : Int32} {t0 : Int64} {t1 : Int64} {res : (Int32 × zm_S) ⊕ ((Unit) × zm_S)} {out : (Int32 × zm_S)}   (hf : ∀ o, res = .inl o → o = out) (hk : ∀ (S' : zm_S) (rc rs : Nat), res = .inr ((), S') → zw p l e room_1 s m #[Value.ref zb] below meth c (lw_Z below #[Value.ref zb] s) 8 zk_E V 601024 7293034 6008 [] [] S' rc rs) (hrec : ∀ (i4' : Int32) (rc rs : Nat) (S : zm_S), k a0 a1 a2 a3 i4' rc rs S = some res → zw p l e room_1 s m #[Value.ref zb] below meth c (lw_Z below #[Value.ref zb] s) 8 zk_E V 601024 7293034 23 [(0, .ref a0), (1, .ref a1), (2, .ref a2), (3, .ref a3), (4, .int i4')] [] S rc rs) {S : zm_S} (h : zf_L_law_J2479 N k a0 a1 a2 a3 i4 t0 t1 rc rs S = some res) : zw p l e room_1 s m #[Value.ref zb] below meth c (lw_Z below #[Value.ref zb] s) 8 zk_E V 601024 7293034 2479 [(0, .ref a0), (1, .ref a1), (2, .ref a2), (3, .ref a3), (4, .int i4)] [.long t1, .long t0] S rc rs := by
  unfold zf_L_law_J2479 at h
  refine zw_lcmp hX dL_law_2479 ?_
  refine zw_if_eq (tgt := 2485) hX dL_law_2480 (by decide) (fun c2480 => ?_) (fun c2480 => ?_)
  · rw [if_pos c2480] at h
    refine zw_goto (tgt := 6002) hX dL_law_2485 (by decide) ?_
    refine zw_iinc (v := (i4 + (7 : Int32))) hX dL_law_6002 rfl rfl (by decide) ?_
    refine zw_goto (tgt := 23) hX dL_law_6005 (by decide) ?_
    refine zw_sub (lv' := [(0, .ref a0), (1, .ref a1), (2, .ref a2), (3, .ref a3), (4, .int (i4 + (7 : Int32)))]) (List.forall_mem_cons.mpr ⟨rfl, (List.forall_mem_cons.mpr ⟨rfl, (List.forall_mem_cons.mpr ⟨rfl, (List.forall_mem_cons.mpr ⟨rfl, (List.forall_mem_cons.mpr ⟨rfl, zs_nil⟩)⟩)⟩)⟩)⟩) ?_
    exact hrec _ _ _ _ h
  · rw [if_neg c2480] at h
    refine zw_iconst (v := (0 : Int32)) hX dL_law_2483 (by decide) ?_
    cases h
set_option maxHeartbeats 4000000 in
set_option maxRecDepth 100000 in
theorem zt_L_law_J2445 {p : Program} {l : Launch} {e : Env} {s : State} {m : MethodId} {zb : Nat} {below : List Frame} {meth : Method} {c : Code} {V : zm_V} {d : Nat} {nm : String} (hlt : l.stackTraces = false) (hV : V.2.2.2.1 = s.heap.size) (hX : zm_X p room_1 s m #[Value.ref zb] meth c RL nm cL_law 8 zk_E V 601024 7293034) (hr : meth.sig.returnType = ret) (hR : d ≤ room_1.frames ∧ 64 * d ≤ room_1.locals) (hd : 46 ≤ d) {N : Nat} {k : Nat → Nat → Nat → Nat → Int32 → Nat → Nat → zm_S → Option ((Int32 × zm_S) ⊕ ((Unit) × zm_S))} {rc rs : Nat} {a0 : Nat} {a1 : Nat} {a2 : Nat} {a3 : Nat} {i4 : Int32} {i5 : Int32} {t0 : Nat} {t1 : Int32} {t2 : Int32} {t3 : Int32} {res : (Int32 × zm_S) ⊕ ((Unit) × zm_S)} {out : (Int32 × zm_S)}   (hf : ∀ o, res = .inl o → o = out) (hk : ∀ (S' : zm_S) (rc rs : Nat), res = .inr ((), S') → zw p l e room_1 s m #[Value.ref zb] below meth c (lw_Z below #[Value.ref zb] s) 8 zk_E V 601024 7293034 6008 [] [] S' rc rs) (hrec : ∀ (i4' : Int32) (rc rs : Nat) (S : zm_S), k a0 a1 a2 a3 i4' rc rs S = some res → zw p l e room_1 s m #[Value.ref zb] below meth c (lw_Z below #[Value.ref zb] s) 8 zk_E V 601024 7293034 23 [(0, .ref a0), (1, .ref a1), (2, .ref a2), (3, .ref a3), (4, .int i4')] [] S rc rs) {S : zm_S} (h : zf_L_law_J2445 N k a0 a1 a2 a3 i4 i5 t0 t1 t2 t3 rc rs S = some res) : zw p l e room_1 s m #[Value.ref zb] below meth c (lw_Z below #[Value.ref zb] s) 8 zk_E V 601024 7293034 2445 [(0, .ref a0), (1, .ref a1), (2, .ref a2), (3, .ref a3), (4, .int i4), (5, .int i5)] [.int t3, .int t2, .int t1, .ref t0] S rc rs := by
  unfold zf_L_law_J2445 at h
  obtain ⟨_, gi, h⟩ := zb_some h
  obtain ⟨r371, g, h⟩ := zb_some h
  refine zc_Vi (as := [.int t1, .int t2, .int t3]) hX gi (zt_X18_airlock (d := d - 1) (by omega) g) zl_L_380 rfl dL_law_2445 ⟨rfl, rfl, Nat.le_of_ble_eq_true rfl⟩ ⟨by omega, by omega⟩ ?_
  refine zw_istore hX dL_law_2448 (by decide) ?_
  refine zw_aload_n hX dL_law_2450 rfl ?_
  obtain ⟨_, gi, h⟩ := zb_some h
  obtain ⟨r373, g, h⟩ := zb_some h
  refine zc_Vi (as := []) hX gi (zt_X18_thrown (d := d - 1) (by omega) g) zl_L_281 rfl dL_law_2451 ⟨rfl, rfl, Nat.le_of_ble_eq_true rfl⟩ ⟨by omega, by omega⟩ ?_
  refine zw_iload hX dL_law_2454 rfl ?_
  refine zw_icmp_eq (tgt := 2461) hX dL_law_2456 (by decide) (fun c2456 => ?_) (fun c2456 => ?_)
  · rw [if_pos c2456] at h
    refine zw_iload hX dL_law_2461 rfl ?_
    refine zw_if_ne (tgt := 2485) hX dL_law_2463 (by decide) (fun c2463 => ?_) (fun c2463 => ?_)
    · rw [if_neg c2463] at h
      refine zw_goto (tgt := 6002) hX dL_law_2485 (by decide) ?_
      refine zw_iinc (v := (i4 + (7 : Int32))) hX dL_law_6002 rfl rfl (by decide) ?_
      refine zw_goto (tgt := 23) hX dL_law_6005 (by decide) ?_
      refine zw_sub (lv' := [(0, .ref a0), (1, .ref a1), (2, .ref a2), (3, .ref a3), (4, .int (i4 + (7 : Int32)))]) (List.forall_mem_cons.mpr ⟨rfl, (List.forall_mem_cons.mpr ⟨rfl, (List.forall_mem_cons.mpr ⟨rfl, (List.forall_mem_cons.mpr ⟨rfl, (List.forall_mem_cons.mpr ⟨rfl, zs_nil⟩)⟩)⟩)⟩)⟩) ?_
      exact hrec _ _ _ _ h
    · rw [if_pos c2463] at h
      refine zw_aload_n hX dL_law_2466 rfl ?_
      refine zw_iconst (v := (0 : Int32)) hX dL_law_2467 (by decide) ?_
      obtain ⟨w374, g, h⟩ := zb_some h
      refine zw_xl hX dL_law_2468 g ?_
      refine zw_iload hX dL_law_2469 rfl ?_
      refine zw_if_eq (tgt := 2478) hX dL_law_2471 (by decide) (fun c2471 => ?_) (fun c2471 => ?_)
      · rw [if_pos c2471] at h
        refine zw_lconst (v := (0 : Int64)) hX dL_law_2478 (by decide) ?_
        refine zw_sub (lv' := [(0, .ref a0), (1, .ref a1), (2, .ref a2), (3, .ref a3), (4, .int i4)]) (List.forall_mem_cons.mpr ⟨rfl, (List.forall_mem_cons.mpr ⟨rfl, (List.forall_mem_cons.mpr ⟨rfl, (List.forall_mem_cons.mpr ⟨rfl, (List.forall_mem_cons.mpr ⟨rfl, zs_nil⟩)⟩)⟩)⟩)⟩) ?_
        exact zt_L_law_J2479 hlt hV hX hr hR hd hf hk hrec h
      · rw [if_neg c2471] at h
        refine zw_lconst (v := (1 : Int64)) hX dL_law_2474 (by decide) ?_
        refine zw_goto (tgt := 2479) hX dL_law_2475 (by decide) ?_
        refine zw_sub (lv' := [(0, .ref a0), (1, .ref a1), (2, .ref a2), (3, .ref a3), (4, .int i4)]) (List.forall_mem_cons.mpr ⟨rfl, (List.forall_mem_cons.mpr ⟨rfl, (List.forall_mem_cons.mpr ⟨rfl, (List.forall_mem_cons.mpr ⟨rfl, (List.forall_mem_cons.mpr ⟨rfl, zs_nil⟩)⟩)⟩)⟩)⟩) ?_
        exact zt_L_law_J2479 hlt hV hX hr hR hd hf hk hrec h
  · rw [if_neg c2456] at h
    refine zw_iconst (v := (0 : Int32)) hX dL_law_2459 (by decide) ?_
    cases h
set_option maxHeartbeats 4000000 in
set_option maxRecDepth 100000 in
theorem zt_L_law_J2412 {p : Program} {l : Launch} {e : Env} {s : State} {m : MethodId} {zb : Nat} {below : List Frame} {meth : Method} {c : Code} {V : zm_V} {d : Nat} {nm : String} (hlt : l.stackTraces = false) (hV : V.2.2.2.1 = s.heap.size) (hX : zm_X p room_1 s m #[Value.ref zb] meth c RL nm cL_law 8 zk_E V 601024 7293034) (hr : meth.sig.returnType = ret) (hR : d ≤ room_1.frames ∧ 64 * d ≤ room_1.locals) (hd : 46 ≤ d) {N : Nat} {k : Nat → Nat → Nat → Nat → Int32 → Nat → Nat → zm_S → Option ((Int32 × zm_S) ⊕ ((Unit) × zm_S))} {rc rs : Nat} {a0 : Nat} {a1 : Nat} {a2 : Nat} {a3 : Nat} {i4 : Int32} {t0 : Nat} {t1 : Int32} {t2 : Int32} {t3 : Int32} {res : (Int32 × zm_S) ⊕ ((Unit) × zm_S)} {out : (Int32 × zm_S)}   (hf : ∀ o, res = .inl o → o = out) (hk : ∀ (S' : zm_S) (rc rs : Nat), res = .inr ((), S') → zw p l e room_1 s m #[Value.ref zb] below meth c (lw_Z below #[Value.ref zb] s) 8 zk_E V 601024 7293034 6008 [] [] S' rc rs) (hrec : ∀ (i4' : Int32) (rc rs : Nat) (S : zm_S), k a0 a1 a2 a3 i4' rc rs S = some res → zw p l e room_1 s m #[Value.ref zb] below meth c (lw_Z below #[Value.ref zb] s) 8 zk_E V 601024 7293034 23 [(0, .ref a0), (1, .ref a1), (2, .ref a2), (3, .ref a3), (4, .int i4')] [] S rc rs) {S : zm_S} (h : zf_L_law_J2412 N k a0 a1 a2 a3 i4 t0 t1 t2 t3 rc rs S = some res) : zw p l e room_1 s m #[Value.ref zb] below meth c (lw_Z below #[Value.ref zb] s) 8 zk_E V 601024 7293034 2412 [(0, .ref a0), (1, .ref a1), (2, .ref a2), (3, .ref a3), (4, .int i4)] [.int t3, .int t2, .int t1, .ref t0] S rc rs := by
  unfold zf_L_law_J2412 at h
  refine zw_aload_n hX dL_law_2412 rfl ?_
  by_cases hb2413 : 2 ≤ rc ∧ 12 ≤ rs
  · rw [if_pos hb2413] at h
    obtain ⟨r366, g, h⟩ := zb_some h
    refine zc_SH (as := [.ref t0, .int t1, .int t2, .int t3, .ref a3]) hX (zt_L_airlock hlt (d := d - 1) (by omega) g) zl_L_377 dL_law_2413 ⟨rfl, rfl, Nat.le_of_ble_eq_true rfl⟩ ⟨by omega, by omega⟩ hb2413 ?_ ?_
    · rintro _ _ ⟨rfl, rfl⟩
      refine zw_istore hX dL_law_2416 (by decide) ?_
      refine zw_aload_n hX dL_law_2418 rfl ?_
      refine zw_aload_n hX dL_law_2419 rfl ?_
      refine zw_iload hX dL_law_2420 rfl ?_
      refine zw_iconst (v := (1 : Int32)) hX dL_law_2422 (by decide) ?_
      refine zw_iadd hX dL_law_2423 ?_
      obtain ⟨v367, g, h⟩ := zb_some h
      refine zw_xi hX dL_law_2424 g ?_
      refine zw_aload_n hX dL_law_2425 rfl ?_
      refine zw_iload hX dL_law_2426 rfl ?_
      refine zw_iconst (v := (2 : Int32)) hX dL_law_2428 (by decide) ?_
      refine zw_iadd hX dL_law_2429 ?_
      obtain ⟨v368, g, h⟩ := zb_some h
      refine zw_xi hX dL_law_2430 g ?_
      refine zw_aload_n hX dL_law_2431 rfl ?_
      refine zw_iload hX dL_law_2432 rfl ?_
      refine zw_iconst (v := (3 : Int32)) hX dL_law_2434 (by decide) ?_
      refine zw_iadd hX dL_law_2435 ?_
      obtain ⟨v369, g, h⟩ := zb_some h
      refine zw_xi hX dL_law_2436 g ?_
      refine zw_if_eq (tgt := 2444) hX dL_law_2437 (by decide) (fun c2437 => ?_) (fun c2437 => ?_)
      · rw [if_pos c2437] at h
        refine zw_iconst (v := (0 : Int32)) hX dL_law_2444 (by decide) ?_
        refine zw_sub (lv' := [(0, .ref a0), (1, .ref a1), (2, .ref a2), (3, .ref a3), (4, .int i4), (5, .int r366.1)]) (List.forall_mem_cons.mpr ⟨rfl, (List.forall_mem_cons.mpr ⟨rfl, (List.forall_mem_cons.mpr ⟨rfl, (List.forall_mem_cons.mpr ⟨rfl, (List.forall_mem_cons.mpr ⟨rfl, (List.forall_mem_cons.mpr ⟨rfl, zs_nil⟩)⟩)⟩)⟩)⟩)⟩) ?_
        exact zt_L_law_J2445 hlt hV hX hr hR hd hf hk hrec h
      · rw [if_neg c2437] at h
        refine zw_iconst (v := (1 : Int32)) hX dL_law_2440 (by decide) ?_
        refine zw_goto (tgt := 2445) hX dL_law_2441 (by decide) ?_
        refine zw_sub (lv' := [(0, .ref a0), (1, .ref a1), (2, .ref a2), (3, .ref a3), (4, .int i4), (5, .int r366.1)]) (List.forall_mem_cons.mpr ⟨rfl, (List.forall_mem_cons.mpr ⟨rfl, (List.forall_mem_cons.mpr ⟨rfl, (List.forall_mem_cons.mpr ⟨rfl, (List.forall_mem_cons.mpr ⟨rfl, (List.forall_mem_cons.mpr ⟨rfl, zs_nil⟩)⟩)⟩)⟩)⟩)⟩) ?_
        exact zt_L_law_J2445 hlt hV hX hr hR hd hf hk hrec h
    · intro _ _ hx
      exact hx.elim
  · rw [if_neg hb2413] at h
    cases h
set_option maxHeartbeats 4000000 in
set_option maxRecDepth 100000 in
theorem zt_L_law_J2385 {p : Program} {l : Launch} {e : Env} {s : State} {m : MethodId} {zb : Nat} {below : List Frame} {meth : Method} {c : Code} {V : zm_V} {d : Nat} {nm : String} (hlt : l.stackTraces = false) (hV : V.2.2.2.1 = s.heap.size) (hX : zm_X p room_1 s m #[Value.ref zb] meth c RL nm cL_law 8 zk_E V 601024 7293034) (hr : meth.sig.returnType = ret) (hR : d ≤ room_1.frames ∧ 64 * d ≤ room_1.locals) (hd : 46 ≤ d) {N : Nat} {k : Nat → Nat → Nat → Nat → Int32 → Nat → Nat → zm_S → Option ((Int32 × zm_S) ⊕ ((Unit) × zm_S))} {rc rs : Nat} {a0 : Nat} {a1 : Nat} {a2 : Nat} {a3 : Nat} {i4 : Int32} {res : (Int32 × zm_S) ⊕ ((Unit) × zm_S)} {out : (Int32 × zm_S)}   (hf : ∀ o, res = .inl o → o = out) (hk : ∀ (S' : zm_S) (rc rs : Nat), res = .inr ((), S') → zw p l e room_1 s m #[Value.ref zb] below meth c (lw_Z below #[Value.ref zb] s) 8 zk_E V 601024 7293034 6008 [] [] S' rc rs) (hrec : ∀ (i4' : Int32) (rc rs : Nat) (S : zm_S), k a0 a1 a2 a3 i4' rc rs S = some res → zw p l e room_1 s m #[Value.ref zb] below meth c (lw_Z below #[Value.ref zb] s) 8 zk_E V 601024 7293034 23 [(0, .ref a0), (1, .ref a1), (2, .ref a2), (3, .ref a3), (4, .int i4')] [] S rc rs) {S : zm_S} (h : zf_L_law_J2385 N k a0 a1 a2 a3 i4 rc rs S = some res) : zw p l e room_1 s m #[Value.ref zb] below meth c (lw_Z below #[Value.ref zb] s) 8 zk_E V 601024 7293034 2385 [(0, .ref a0), (1, .ref a1), (2, .ref a2), (3, .ref a3), (4, .int i4)] [] S rc rs := by
  unfold zf_L_law_J2385 at h
  refine zw_aload_n hX dL_law_2385 rfl ?_
  refine zw_aload_n hX dL_law_2386 rfl ?_
  refine zw_iload hX dL_law_2387 rfl ?_
  refine zw_iconst (v := (1 : Int32)) hX dL_law_2389 (by decide) ?_
  refine zw_iadd hX dL_law_2390 ?_
  obtain ⟨v361, g, h⟩ := zb_some h
  refine zw_xi hX dL_law_2391 g ?_
  refine zw_aload_n hX dL_law_2392 rfl ?_
  refine zw_iload hX dL_law_2393 rfl ?_
  refine zw_iconst (v := (2 : Int32)) hX dL_law_2395 (by decide) ?_
  refine zw_iadd hX dL_law_2396 ?_
  obtain ⟨v362, g, h⟩ := zb_some h
  refine zw_xi hX dL_law_2397 g ?_
  refine zw_aload_n hX dL_law_2398 rfl ?_
  refine zw_iload hX dL_law_2399 rfl ?_
  refine zw_iconst (v := (3 : Int32)) hX dL_law_2401 (by decide) ?_
  refine zw_iadd hX dL_law_2402 ?_
  obtain ⟨v363, g, h⟩ := zb_some h
  refine zw_xi hX dL_law_2403 g ?_
  refine zw_if_eq (tgt := 2411) hX dL_law_2404 (by decide) (fun c2404 => ?_) (fun c2404 => ?_)
  · rw [if_pos c2404] at h
    refine zw_iconst (v := (0 : Int32)) hX dL_law_2411 (by decide) ?_
    refine zw_sub (lv' := [(0, .ref a0), (1, .ref a1), (2, .ref a2), (3, .ref a3), (4, .int i4)]) (List.forall_mem_cons.mpr ⟨rfl, (List.forall_mem_cons.mpr ⟨rfl, (List.forall_mem_cons.mpr ⟨rfl, (List.forall_mem_cons.mpr ⟨rfl, (List.forall_mem_cons.mpr ⟨rfl, zs_nil⟩)⟩)⟩)⟩)⟩) ?_
    exact zt_L_law_J2412 hlt hV hX hr hR hd hf hk hrec h
  · rw [if_neg c2404] at h
    refine zw_iconst (v := (1 : Int32)) hX dL_law_2407 (by decide) ?_
    refine zw_goto (tgt := 2412) hX dL_law_2408 (by decide) ?_
    refine zw_sub (lv' := [(0, .ref a0), (1, .ref a1), (2, .ref a2), (3, .ref a3), (4, .int i4)]) (List.forall_mem_cons.mpr ⟨rfl, (List.forall_mem_cons.mpr ⟨rfl, (List.forall_mem_cons.mpr ⟨rfl, (List.forall_mem_cons.mpr ⟨rfl, (List.forall_mem_cons.mpr ⟨rfl, zs_nil⟩)⟩)⟩)⟩)⟩) ?_
    exact zt_L_law_J2412 hlt hV hX hr hR hd hf hk hrec h
set_option maxHeartbeats 4000000 in
set_option maxRecDepth 100000 in
theorem zt_L_law_J2536 {p : Program} {l : Launch} {e : Env} {s : State} {m : MethodId} {zb : Nat} {below : List Frame} {meth : Method} {c : Code} {V : zm_V} {d : Nat} {nm : String} (hlt : l.stackTraces = false) (hV : V.2.2.2.1 = s.heap.size) (hX : zm_X p room_1 s m #[Value.ref zb] meth c RL nm cL_law 8 zk_E V 601024 7293034) (hr : meth.sig.returnType = ret) (hR : d ≤ room_1.frames ∧ 64 * d ≤ room_1.locals) (hd : 46 ≤ d) {N : Nat} {k : Nat → Nat → Nat → Nat → Int32 → Nat → Nat → zm_S → Option ((Int32 × zm_S) ⊕ ((Unit) × zm_S))} {rc rs : Nat} {a0 : Nat} {a1 : Nat} {a2 : Nat} {a3 : Nat} {i4 : Int32} {i5 : Int32} {t0 : Nat} {t1 : Int32} {t2 : Int32} {res : (Int32 × zm_S) ⊕ ((Unit) × zm_S)} {out : (Int32 × zm_S)}   (hf : ∀ o, res = .inl o → o = out) (hk : ∀ (S' : zm_S) (rc rs : Nat), res = .inr ((), S') → zw p l e room_1 s m #[Value.ref zb] below meth c (lw_Z below #[Value.ref zb] s) 8 zk_E V 601024 7293034 6008 [] [] S' rc rs) (hrec : ∀ (i4' : Int32) (rc rs : Nat) (S : zm_S), k a0 a1 a2 a3 i4' rc rs S = some res → zw p l e room_1 s m #[Value.ref zb] below meth c (lw_Z below #[Value.ref zb] s) 8 zk_E V 601024 7293034 23 [(0, .ref a0), (1, .ref a1), (2, .ref a2), (3, .ref a3), (4, .int i4')] [] S rc rs) {S : zm_S} (h : zf_L_law_J2536 N k a0 a1 a2 a3 i4 i5 t0 t1 t2 rc rs S = some res) : zw p l e room_1 s m #[Value.ref zb] below meth c (lw_Z below #[Value.ref zb] s) 8 zk_E V 601024 7293034 2536 [(0, .ref a0), (1, .ref a1), (2, .ref a2), (3, .ref a3), (4, .int i4), (5, .int i5)] [.int t2, .int t1, .ref t0] S rc rs := by
  unfold zf_L_law_J2536 at h
  obtain ⟨_, gi, h⟩ := zb_some h
  obtain ⟨r383, g, h⟩ := zb_some h
  refine zc_Vi (as := [.int t1, .int t2]) hX gi (zt_X18_stands (d := d - 1) (by omega) g) zl_L_383 rfl dL_law_2536 ⟨rfl, rfl, Nat.le_of_ble_eq_true rfl⟩ ⟨by omega, by omega⟩ ?_
  refine zw_istore hX dL_law_2539 (by decide) ?_
  refine zw_aload_n hX dL_law_2541 rfl ?_
  obtain ⟨_, gi, h⟩ := zb_some h
  obtain ⟨r385, g, h⟩ := zb_some h
  refine zc_Vi (as := []) hX gi (zt_X18_thrown (d := d - 1) (by omega) g) zl_L_281 rfl dL_law_2542 ⟨rfl, rfl, Nat.le_of_ble_eq_true rfl⟩ ⟨by omega, by omega⟩ ?_
  refine zw_iload hX dL_law_2545 rfl ?_
  refine zw_icmp_eq (tgt := 2552) hX dL_law_2547 (by decide) (fun c2547 => ?_) (fun c2547 => ?_)
  · rw [if_pos c2547] at h
    refine zw_iload hX dL_law_2552 rfl ?_
    refine zw_if_ne (tgt := 2569) hX dL_law_2554 (by decide) (fun c2554 => ?_) (fun c2554 => ?_)
    · rw [if_neg c2554] at h
      refine zw_goto (tgt := 6002) hX dL_law_2569 (by decide) ?_
      refine zw_iinc (v := (i4 + (7 : Int32))) hX dL_law_6002 rfl rfl (by decide) ?_
      refine zw_goto (tgt := 23) hX dL_law_6005 (by decide) ?_
      refine zw_sub (lv' := [(0, .ref a0), (1, .ref a1), (2, .ref a2), (3, .ref a3), (4, .int (i4 + (7 : Int32)))]) (List.forall_mem_cons.mpr ⟨rfl, (List.forall_mem_cons.mpr ⟨rfl, (List.forall_mem_cons.mpr ⟨rfl, (List.forall_mem_cons.mpr ⟨rfl, (List.forall_mem_cons.mpr ⟨rfl, zs_nil⟩)⟩)⟩)⟩)⟩) ?_
      exact hrec _ _ _ _ h
    · rw [if_pos c2554] at h
      refine zw_aload_n hX dL_law_2557 rfl ?_
      refine zw_iconst (v := (0 : Int32)) hX dL_law_2558 (by decide) ?_
      obtain ⟨w386, g, h⟩ := zb_some h
      refine zw_xl hX dL_law_2559 g ?_
      refine zw_iload hX dL_law_2560 rfl ?_
      refine zw_i2l hX dL_law_2562 ?_
      refine zw_lcmp hX dL_law_2563 ?_
      refine zw_if_eq (tgt := 2569) hX dL_law_2564 (by decide) (fun c2564 => ?_) (fun c2564 => ?_)
      · rw [if_pos c2564] at h
        refine zw_goto (tgt := 6002) hX dL_law_2569 (by decide) ?_
        refine zw_iinc (v := (i4 + (7 : Int32))) hX dL_law_6002 rfl rfl (by decide) ?_
        refine zw_goto (tgt := 23) hX dL_law_6005 (by decide) ?_
        refine zw_sub (lv' := [(0, .ref a0), (1, .ref a1), (2, .ref a2), (3, .ref a3), (4, .int (i4 + (7 : Int32)))]) (List.forall_mem_cons.mpr ⟨rfl, (List.forall_mem_cons.mpr ⟨rfl, (List.forall_mem_cons.mpr ⟨rfl, (List.forall_mem_cons.mpr ⟨rfl, (List.forall_mem_cons.mpr ⟨rfl, zs_nil⟩)⟩)⟩)⟩)⟩) ?_
        exact hrec _ _ _ _ h
      · rw [if_neg c2564] at h
        refine zw_iconst (v := (0 : Int32)) hX dL_law_2567 (by decide) ?_
        cases h
  · rw [if_neg c2547] at h
    refine zw_iconst (v := (0 : Int32)) hX dL_law_2550 (by decide) ?_
    cases h
set_option maxHeartbeats 4000000 in
set_option maxRecDepth 100000 in
theorem zt_L_law_J2509 {p : Program} {l : Launch} {e : Env} {s : State} {m : MethodId} {zb : Nat} {below : List Frame} {meth : Method} {c : Code} {V : zm_V} {d : Nat} {nm : String} (hlt : l.stackTraces = false) (hV : V.2.2.2.1 = s.heap.size) (hX : zm_X p room_1 s m #[Value.ref zb] meth c RL nm cL_law 8 zk_E V 601024 7293034) (hr : meth.sig.returnType = ret) (hR : d ≤ room_1.frames ∧ 64 * d ≤ room_1.locals) (hd : 46 ≤ d) {N : Nat} {k : Nat → Nat → Nat → Nat → Int32 → Nat → Nat → zm_S → Option ((Int32 × zm_S) ⊕ ((Unit) × zm_S))} {rc rs : Nat} {a0 : Nat} {a1 : Nat} {a2 : Nat} {a3 : Nat} {i4 : Int32} {t0 : Nat} {t1 : Int32} {t2 : Int32} {res : (Int32 × zm_S) ⊕ ((Unit) × zm_S)} {out : (Int32 × zm_S)}   (hf : ∀ o, res = .inl o → o = out) (hk : ∀ (S' : zm_S) (rc rs : Nat), res = .inr ((), S') → zw p l e room_1 s m #[Value.ref zb] below meth c (lw_Z below #[Value.ref zb] s) 8 zk_E V 601024 7293034 6008 [] [] S' rc rs) (hrec : ∀ (i4' : Int32) (rc rs : Nat) (S : zm_S), k a0 a1 a2 a3 i4' rc rs S = some res → zw p l e room_1 s m #[Value.ref zb] below meth c (lw_Z below #[Value.ref zb] s) 8 zk_E V 601024 7293034 23 [(0, .ref a0), (1, .ref a1), (2, .ref a2), (3, .ref a3), (4, .int i4')] [] S rc rs) {S : zm_S} (h : zf_L_law_J2509 N k a0 a1 a2 a3 i4 t0 t1 t2 rc rs S = some res) : zw p l e room_1 s m #[Value.ref zb] below meth c (lw_Z below #[Value.ref zb] s) 8 zk_E V 601024 7293034 2509 [(0, .ref a0), (1, .ref a1), (2, .ref a2), (3, .ref a3), (4, .int i4)] [.int t2, .int t1, .ref t0] S rc rs := by
  unfold zf_L_law_J2509 at h
  refine zw_aload_n hX dL_law_2509 rfl ?_
  by_cases hb2510 : 2 ≤ rc ∧ 12 ≤ rs
  · rw [if_pos hb2510] at h
    obtain ⟨r379, g, h⟩ := zb_some h
    refine zc_SH (as := [.ref t0, .int t1, .int t2, .ref a3]) hX (zt_L_stands hlt (d := d - 1) (by omega) g) zl_L_381 dL_law_2510 ⟨rfl, rfl, Nat.le_of_ble_eq_true rfl⟩ ⟨by omega, by omega⟩ hb2510 ?_ ?_
    · rintro _ _ ⟨rfl, rfl⟩
      refine zw_istore hX dL_law_2513 (by decide) ?_
      refine zw_aload_n hX dL_law_2515 rfl ?_
      refine zw_aload_n hX dL_law_2516 rfl ?_
      refine zw_iload hX dL_law_2517 rfl ?_
      refine zw_iconst (v := (1 : Int32)) hX dL_law_2519 (by decide) ?_
      refine zw_iadd hX dL_law_2520 ?_
      obtain ⟨v380, g, h⟩ := zb_some h
      refine zw_xi hX dL_law_2521 g ?_
      refine zw_aload_n hX dL_law_2522 rfl ?_
      refine zw_iload hX dL_law_2523 rfl ?_
      refine zw_iconst (v := (2 : Int32)) hX dL_law_2525 (by decide) ?_
      refine zw_iadd hX dL_law_2526 ?_
      obtain ⟨v381, g, h⟩ := zb_some h
      refine zw_xi hX dL_law_2527 g ?_
      refine zw_if_eq (tgt := 2535) hX dL_law_2528 (by decide) (fun c2528 => ?_) (fun c2528 => ?_)
      · rw [if_pos c2528] at h
        refine zw_iconst (v := (0 : Int32)) hX dL_law_2535 (by decide) ?_
        refine zw_sub (lv' := [(0, .ref a0), (1, .ref a1), (2, .ref a2), (3, .ref a3), (4, .int i4), (5, .int r379.1)]) (List.forall_mem_cons.mpr ⟨rfl, (List.forall_mem_cons.mpr ⟨rfl, (List.forall_mem_cons.mpr ⟨rfl, (List.forall_mem_cons.mpr ⟨rfl, (List.forall_mem_cons.mpr ⟨rfl, (List.forall_mem_cons.mpr ⟨rfl, zs_nil⟩)⟩)⟩)⟩)⟩)⟩) ?_
        exact zt_L_law_J2536 hlt hV hX hr hR hd hf hk hrec h
      · rw [if_neg c2528] at h
        refine zw_iconst (v := (1 : Int32)) hX dL_law_2531 (by decide) ?_
        refine zw_goto (tgt := 2536) hX dL_law_2532 (by decide) ?_
        refine zw_sub (lv' := [(0, .ref a0), (1, .ref a1), (2, .ref a2), (3, .ref a3), (4, .int i4), (5, .int r379.1)]) (List.forall_mem_cons.mpr ⟨rfl, (List.forall_mem_cons.mpr ⟨rfl, (List.forall_mem_cons.mpr ⟨rfl, (List.forall_mem_cons.mpr ⟨rfl, (List.forall_mem_cons.mpr ⟨rfl, (List.forall_mem_cons.mpr ⟨rfl, zs_nil⟩)⟩)⟩)⟩)⟩)⟩) ?_
        exact zt_L_law_J2536 hlt hV hX hr hR hd hf hk hrec h
    · intro _ _ hx
      exact hx.elim
  · rw [if_neg hb2510] at h
    cases h

