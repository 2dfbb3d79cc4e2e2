/-! ===== THE SMALL MACHINE: Math.min, max, abs; System.arraycopy; what a function makes ===== -/
section ZJ
variable {p : Program} {l : Launch} {e : Env} {R : Room} {s : State} {m : MethodId} {args : Array Value} {below : List Frame} {meth : Method} {c : Code} {Q : State → Prop}
variable {own nm : String} {cc : ByteArray} {nL : Nat} {E : zm_E} {V : zm_V} {mc ms : Nat}
variable {pc rc rs : Nat} {lv : List (Nat × Value)} {st : List Value} {S : zm_S}
theorem zw_mmin (hX : zm_X p R s m args meth c own nm cc nL E V mc ms) {index : Nat} {x y : Int32} (hw : Cond.methodLink own index Lib.Math.min.name ∈ E.2.2.1 ∧ Cond.static Lib.Math.min.name ∈ E.2.2.1 ∧ Cond.initialized "java/lang/Math" ∈ E.2.2.1 ∧ Cond.code Lib.Math.min.name Lib.Math.min.code 2 (some .int) ∈ E.2.2.1) (hd : decode cc pc = .ok (.invokestatic index, 3)) (hst : (st.map fun v => v.category).sum ≤ 8) (hR : 1 ≤ R.frames ∧ 64 ≤ R.locals)
    (kk : zw p l e R s m args below meth c Q nL E V mc ms (pc + 3) lv (.int (zj_min x y) :: st) S rc rs) : zw p l e R s m args below meth c Q nL E V mc ms pc lv (.int y :: .int x :: st) S rc rs := by
  intro ls H locs cells slots hR0 hl hS e1 e2
  obtain ⟨hx, hb, hml, hown, hts, -, -, hG, hmc, hms⟩ := hX
  exact va_mmin (rest := st.map (zm_v (zm_io E V))) hx hb (hml.trans hl.1.symm) hown (hts _ hw.1) (hts _ hw.2.1) (hts _ hw.2.2.1) (hts _ hw.2.2.2) hR.1 (by rw [zm_cs]; omega) (by omega) (by omega) hd (kk ls H locs cells slots hR0 hl hS e1 e2)
theorem zw_mmax (hX : zm_X p R s m args meth c own nm cc nL E V mc ms) {index : Nat} {x y : Int32} (hw : Cond.methodLink own index Lib.Math.max.name ∈ E.2.2.1 ∧ Cond.static Lib.Math.max.name ∈ E.2.2.1 ∧ Cond.initialized "java/lang/Math" ∈ E.2.2.1 ∧ Cond.code Lib.Math.max.name Lib.Math.max.code 2 (some .int) ∈ E.2.2.1) (hd : decode cc pc = .ok (.invokestatic index, 3)) (hst : (st.map fun v => v.category).sum ≤ 8) (hR : 1 ≤ R.frames ∧ 64 ≤ R.locals)
    (kk : zw p l e R s m args below meth c Q nL E V mc ms (pc + 3) lv (.int (zj_max x y) :: st) S rc rs) : zw p l e R s m args below meth c Q nL E V mc ms pc lv (.int y :: .int x :: st) S rc rs := by
  intro ls H locs cells slots hR0 hl hS e1 e2
  obtain ⟨hx, hb, hml, hown, hts, -, -, hG, hmc, hms⟩ := hX
  exact va_mmax (rest := st.map (zm_v (zm_io E V))) hx hb (hml.trans hl.1.symm) hown (hts _ hw.1) (hts _ hw.2.1) (hts _ hw.2.2.1) (hts _ hw.2.2.2) hR.1 (by rw [zm_cs]; omega) (by omega) (by omega) hd (kk ls H locs cells slots hR0 hl hS e1 e2)
theorem zw_mabs (hX : zm_X p R s m args meth c own nm cc nL E V mc ms) {index : Nat} {x : Int32} (hw : Cond.methodLink own index Lib.Math.abs.name ∈ E.2.2.1 ∧ Cond.static Lib.Math.abs.name ∈ E.2.2.1 ∧ Cond.initialized "java/lang/Math" ∈ E.2.2.1 ∧ Cond.code Lib.Math.abs.name Lib.Math.abs.code 1 (some .int) ∈ E.2.2.1) (hd : decode cc pc = .ok (.invokestatic index, 3)) (hst : (st.map fun v => v.category).sum ≤ 8) (hR : 1 ≤ R.frames ∧ 64 ≤ R.locals)
    (kk : zw p l e R s m args below meth c Q nL E V mc ms (pc + 3) lv (.int (zj_abs x) :: st) S rc rs) : zw p l e R s m args below meth c Q nL E V mc ms pc lv (.int x :: st) S rc rs := by
  intro ls H locs cells slots hR0 hl hS e1 e2
  obtain ⟨hx, hb, hml, hown, hts, -, -, hG, hmc, hms⟩ := hX
  exact va_mabs (rest := st.map (zm_v (zm_io E V))) hx hb (hml.trans hl.1.symm) hown (hts _ hw.1) (hts _ hw.2.1) (hts _ hw.2.2.1) (hts _ hw.2.2.2) hR.1 (by rw [zm_cs]; omega) (by omega) (by omega) hd (kk ls H locs cells slots hR0 hl hS e1 e2)
theorem zm_nn (z : Int32) (hz : ¬ z < 0) : z.toInt = (z.toNatClampNeg : Int) := by
  have hz0 : (0 : Int) ≤ z.toInt := by
    have := Int32.not_lt.mp hz
    simpa using Int32.le_iff_toInt_le.mp this
  show z.toInt = ((z.toInt.toNat : Nat) : Int)
  omega
/-- a copy of a run of an array of int -/
theorem zw_cpi (hX : zm_X p R s m args meth c own nm cc nL E V mc ms) {index a0 a t n0 n1 : Nat} {f g : Nat → Int32} {sp dp n : Int32} (ht : E.2.1[t]? = some .int)
    (hw : Cond.methodLink own index arraycopyName ∈ E.2.2.1 ∧ Cond.native arraycopyName ∈ E.2.2.1 ∧ Cond.static arraycopyName ∈ E.2.2.1 ∧ Cond.initialized "java/lang/System" ∈ E.2.2.1) (hd : decode cc pc = .ok (.invokestatic index, 3)) (hst : (st.map fun v => v.category).sum ≤ 8) (hR : 1 ≤ R.frames ∧ 64 ≤ R.locals)
    (ha0 : E.2.2.2.2.2.2 ≤ a0 ∧ a0 < S.2) (hc0 : S.1 a0 = .inr (t, n0, .inl f)) (ha1 : E.2.2.2.2.2.2 ≤ a ∧ a < S.2) (hc1 : S.1 a = .inr (t, n1, .inl g)) (h1 : ¬ sp < 0) (h2 : ¬ dp < 0) (h3 : ¬ n < 0) (h4 : sp.toNatClampNeg + n.toNatClampNeg ≤ n0) (h5 : dp.toNatClampNeg + n.toNatClampNeg ≤ n1)
    (kk : zw p l e R s m args below meth c Q nL E V mc ms (pc + 3) lv st (zm_up S.1 a (.inr (t, n1, .inl (va_cpy f g sp.toNatClampNeg dp.toNatClampNeg n.toNatClampNeg))), S.2) rc rs) : zw p l e R s m args below meth c Q nL E V mc ms pc lv (.int n :: .int dp :: .ref a :: .int sp :: .ref a0 :: st) S rc rs := by
  intro ls H locs cells slots hR0 hl0 hS e1 e2
  obtain ⟨hx, hb, hml, hown, hts, -, -, hG, hmc, hms⟩ := hX
  have g0 : H[zm_io E V a0]? = some (arrV (V.2.1 t) n0 (fun j => .int (f j))) := by
    have h7 := hR0.2.2.2.2 a0 ha0.1 ha0.2
    rw [hc0] at h7
    exact h7
  have g1 : H[zm_io E V a]? = some (arrV (V.2.1 t) n1 (fun j => .int (g j))) := by
    have h7 := hR0.2.2.2.2 a ha1.1 ha1.2
    rw [hc1] at h7
    exact h7
  obtain ⟨-, k0, hk0, cm0, hkk0⟩ := (hG.1.2 t _ (zm_tys_at ht)).1 n0 (fun j => .int (f j))
  obtain ⟨-, k1, hk1, cm1, hkk1⟩ := (hG.1.2 t _ (zm_tys_at ht)).1 n1 (fun j => .int (g j))
  have hpr : refKind FieldType.int = false := rfl
  have hnf : nativeFrameWords "java/lang/System" "arraycopy" 5 ≤ 40 := by decide +kernel
  intro T hT X
  obtain ⟨vm', X', step⟩ := X.arraycopy hx hown (hts _ hw.1) (hts _ hw.2.1) (hts _ hw.2.2.1) (hts _ hw.2.2.2) (src := zm_io E V a0) (dst := zm_io E V a) (cs := arrV (V.2.1 t) n0 (fun j => .int (f j))) (cd := arrV (V.2.1 t) n1 (fun j => .int (g j))) (srcPos := sp) (destPos := dp) (n := n) (by rw [hT]; exact g0) (by rw [hT]; exact g1)
    (fun _ h => by cases h) (fun _ h => by cases h) (fun h => by cases h) (fun h => by cases h) hk0 hk1 hkk0 hkk1 (by simp [hpr]) h1 h2 h3
    (by rw [zm_nn sp h1, zm_nn n h3, arrV_size]; omega)
    (by rw [zm_nn dp h2, zm_nn n h3, arrV_size]; omega)
    (fun vm₁ _ i hi => by
      have e : (arrV (V.2.1 t) n0 (fun j => .int (f j))).slots.getD (sp.toNatClampNeg + i) .null = .int (f (sp.toNatClampNeg + i)) := by
        rw [Array.getD_eq_getD_getElem?, arrV_read _ _ (by omega)]
        rfl
      refine ⟨?_, ?_⟩
      · rw [e]
        rfl
      · rw [e]
        exact trivial)
    (g := F0 m pc ls (.int n :: .int dp :: .ref (zm_io E V a) :: .int sp :: .ref (zm_io E V a0) :: st.map (zm_v (zm_io E V)))) rfl (by rw [hml]; exact hl0.1) (rest := st.map (zm_v (zm_io E V))) rfl (by rw [hb]; exact hd) hR.1 (by rw [zm_cs]; show 2 * 0 + _ + _ ≤ _; omega)
  have q1 : copied (arrV (V.2.1 t) n0 (fun j => .int (f j))) (arrV (V.2.1 t) n1 (fun j => .int (g j))) sp dp n = arrV (V.2.1 t) n1 (fun j => .int (va_cpy f g sp.toNatClampNeg dp.toNatClampNeg n.toNatClampNeg j)) := va_copied (fun z => .int z) (V.2.1 t) (V.2.1 t) f g h4
  rw [q1] at X' step
  have hlt : zm_io E V a < H.size := (Array.getElem?_eq_some_iff.mp g1).1
  have hheap : ((T.setVm vm').setCell (zm_io E V a) (arrV (V.2.1 t) n1 (fun j => .int (va_cpy f g sp.toNatClampNeg dp.toNatClampNeg n.toNatClampNeg j)))).heap = H.setIfInBounds (zm_io E V a) (arrV (V.2.1 t) n1 (fun j => .int (va_cpy f g sp.toNatClampNeg dp.toNatClampNeg n.toNatClampNeg j))) := by rw [← hT]; rfl
  have oq : ∀ q : Nat, q ≠ zm_io E V a → (H.setIfInBounds (zm_io E V a) (arrV (V.2.1 t) n1 (fun j => .int (va_cpy f g sp.toNatClampNeg dp.toNatClampNeg n.toNatClampNeg j))))[q]? = H[q]? := fun q hq => by simp [Array.getElem?_setIfInBounds, Ne.symm hq]
  have hA : V.2.2.2.1 ≤ zm_io E V a := by rw [zm_io, zm_i_new ha1.1]; exact Nat.le_add_right _ _
  obtain ⟨t', a1, b1⟩ := kk ls _ _ cells slots (hR0.put ha1.1 (by simp) oq (show (H.setIfInBounds (zm_io E V a) _)[zm_io E V a]? = some _ by simp only [Array.getElem?_setIfInBounds, if_pos hlt, if_true]; rfl)) hl0 ⟨by simp; exact hS.1, fun q b1 b2 => by
      rw [oq q (fun e => b2 (by rw [e]; exact hA))]
      exact hS.2.1 q b1 b2, fun q hq => by
      rcases List.mem_append.mp hq with h | h
      · exact hS.2.2 q h
      · obtain ⟨z, -, hz⟩ := List.mem_map.mp h
        rw [← hz]
        exact hA⟩ e1 e2 _ hheap X'
  exact ⟨t', step t' a1, b1⟩
/-- a copy of a run of an array of long -/
theorem zw_cpl (hX : zm_X p R s m args meth c own nm cc nL E V mc ms) {index a0 a t n0 n1 : Nat} {f g : Nat → Int64} {sp dp n : Int32} (ht : E.2.1[t]? = some .long)
    (hw : Cond.methodLink own index arraycopyName ∈ E.2.2.1 ∧ Cond.native arraycopyName ∈ E.2.2.1 ∧ Cond.static arraycopyName ∈ E.2.2.1 ∧ Cond.initialized "java/lang/System" ∈ E.2.2.1) (hd : decode cc pc = .ok (.invokestatic index, 3)) (hst : (st.map fun v => v.category).sum ≤ 8) (hR : 1 ≤ R.frames ∧ 64 ≤ R.locals)
    (ha0 : E.2.2.2.2.2.2 ≤ a0 ∧ a0 < S.2) (hc0 : S.1 a0 = .inr (t, n0, .inr (.inl f))) (ha1 : E.2.2.2.2.2.2 ≤ a ∧ a < S.2) (hc1 : S.1 a = .inr (t, n1, .inr (.inl g))) (h1 : ¬ sp < 0) (h2 : ¬ dp < 0) (h3 : ¬ n < 0) (h4 : sp.toNatClampNeg + n.toNatClampNeg ≤ n0) (h5 : dp.toNatClampNeg + n.toNatClampNeg ≤ n1)
    (kk : zw p l e R s m args below meth c Q nL E V mc ms (pc + 3) lv st (zm_up S.1 a (.inr (t, n1, .inr (.inl (va_cpy f g sp.toNatClampNeg dp.toNatClampNeg n.toNatClampNeg)))), S.2) rc rs) : zw p l e R s m args below meth c Q nL E V mc ms pc lv (.int n :: .int dp :: .ref a :: .int sp :: .ref a0 :: st) S rc rs := by
  intro ls H locs cells slots hR0 hl0 hS e1 e2
  obtain ⟨hx, hb, hml, hown, hts, -, -, hG, hmc, hms⟩ := hX
  have g0 : H[zm_io E V a0]? = some (arrV (V.2.1 t) n0 (fun j => .long (f j))) := by
    have h7 := hR0.2.2.2.2 a0 ha0.1 ha0.2
    rw [hc0] at h7
    exact h7
  have g1 : H[zm_io E V a]? = some (arrV (V.2.1 t) n1 (fun j => .long (g j))) := by
    have h7 := hR0.2.2.2.2 a ha1.1 ha1.2
    rw [hc1] at h7
    exact h7
  obtain ⟨-, k0, hk0, cm0, hkk0⟩ := (hG.1.2 t _ (zm_tys_at ht)).1 n0 (fun j => .long (f j))
  obtain ⟨-, k1, hk1, cm1, hkk1⟩ := (hG.1.2 t _ (zm_tys_at ht)).1 n1 (fun j => .long (g j))
  have hpr : refKind FieldType.long = false := rfl
  have hnf : nativeFrameWords "java/lang/System" "arraycopy" 5 ≤ 40 := by decide +kernel
  intro T hT X
  obtain ⟨vm', X', step⟩ := X.arraycopy hx hown (hts _ hw.1) (hts _ hw.2.1) (hts _ hw.2.2.1) (hts _ hw.2.2.2) (src := zm_io E V a0) (dst := zm_io E V a) (cs := arrV (V.2.1 t) n0 (fun j => .long (f j))) (cd := arrV (V.2.1 t) n1 (fun j => .long (g j))) (srcPos := sp) (destPos := dp) (n := n) (by rw [hT]; exact g0) (by rw [hT]; exact g1)
    (fun _ h => by cases h) (fun _ h => by cases h) (fun h => by cases h) (fun h => by cases h) hk0 hk1 hkk0 hkk1 (by simp [hpr]) h1 h2 h3
    (by rw [zm_nn sp h1, zm_nn n h3, arrV_size]; omega)
    (by rw [zm_nn dp h2, zm_nn n h3, arrV_size]; omega)
    (fun vm₁ _ i hi => by
      have e : (arrV (V.2.1 t) n0 (fun j => .long (f j))).slots.getD (sp.toNatClampNeg + i) .null = .long (f (sp.toNatClampNeg + i)) := by
        rw [Array.getD_eq_getD_getElem?, arrV_read _ _ (by omega)]
        rfl
      refine ⟨?_, ?_⟩
      · rw [e]
        rfl
      · rw [e]
        exact trivial)
    (g := F0 m pc ls (.int n :: .int dp :: .ref (zm_io E V a) :: .int sp :: .ref (zm_io E V a0) :: st.map (zm_v (zm_io E V)))) rfl (by rw [hml]; exact hl0.1) (rest := st.map (zm_v (zm_io E V))) rfl (by rw [hb]; exact hd) hR.1 (by rw [zm_cs]; show 2 * 0 + _ + _ ≤ _; omega)
  have q1 : copied (arrV (V.2.1 t) n0 (fun j => .long (f j))) (arrV (V.2.1 t) n1 (fun j => .long (g j))) sp dp n = arrV (V.2.1 t) n1 (fun j => .long (va_cpy f g sp.toNatClampNeg dp.toNatClampNeg n.toNatClampNeg j)) := va_copied (fun z => .long z) (V.2.1 t) (V.2.1 t) f g h4
  rw [q1] at X' step
  have hlt : zm_io E V a < H.size := (Array.getElem?_eq_some_iff.mp g1).1
  have hheap : ((T.setVm vm').setCell (zm_io E V a) (arrV (V.2.1 t) n1 (fun j => .long (va_cpy f g sp.toNatClampNeg dp.toNatClampNeg n.toNatClampNeg j)))).heap = H.setIfInBounds (zm_io E V a) (arrV (V.2.1 t) n1 (fun j => .long (va_cpy f g sp.toNatClampNeg dp.toNatClampNeg n.toNatClampNeg j))) := by rw [← hT]; rfl
  have oq : ∀ q : Nat, q ≠ zm_io E V a → (H.setIfInBounds (zm_io E V a) (arrV (V.2.1 t) n1 (fun j => .long (va_cpy f g sp.toNatClampNeg dp.toNatClampNeg n.toNatClampNeg j))))[q]? = H[q]? := fun q hq => by simp [Array.getElem?_setIfInBounds, Ne.symm hq]
  have hA : V.2.2.2.1 ≤ zm_io E V a := by rw [zm_io, zm_i_new ha1.1]; exact Nat.le_add_right _ _
  obtain ⟨t', a1, b1⟩ := kk ls _ _ cells slots (hR0.put ha1.1 (by simp) oq (show (H.setIfInBounds (zm_io E V a) _)[zm_io E V a]? = some _ by simp only [Array.getElem?_setIfInBounds, if_pos hlt, if_true]; rfl)) hl0 ⟨by simp; exact hS.1, fun q b1 b2 => by
      rw [oq q (fun e => b2 (by rw [e]; exact hA))]
      exact hS.2.1 q b1 b2, fun q hq => by
      rcases List.mem_append.mp hq with h | h
      · exact hS.2.2 q h
      · obtain ⟨z, -, hz⟩ := List.mem_map.mp h
        rw [← hz]
        exact hA⟩ e1 e2 _ hheap X'
  exact ⟨t', step t' a1, b1⟩
end ZJ
section ZJ2
variable {p : Program} {l : Launch} {e : Env} {R : Room} {s : State} {m : MethodId} {args : Array Value} {below : List Frame} {meth : Method} {c : Code} {Q : State → Prop}
variable {own nm : String} {cc : ByteArray} {nL : Nat} {V : zm_V} {mc ms : Nat}
variable {pc rc rs : Nat} {lv : List (Nat × Value)} {st : List Value} {S S' : zm_S}
theorem zw_cp (hX : zm_X p R s m args meth c own nm cc nL zk_E V mc ms) {index a0 a : Nat} {sp dp n : Int32}
    (hw : Cond.methodLink own index arraycopyName ∈ zk_E.2.2.1 ∧ Cond.native arraycopyName ∈ zk_E.2.2.1 ∧ Cond.static arraycopyName ∈ zk_E.2.2.1 ∧ Cond.initialized "java/lang/System" ∈ zk_E.2.2.1) (hd : decode cc pc = .ok (.invokestatic index, 3)) (hst : (st.map fun v => v.category).sum ≤ 8) (hR : 1 ≤ R.frames ∧ 64 ≤ R.locals)
    (g : zs_cp S a0 sp a dp n = some S') (kk : zw p l e R s m args below meth c Q nL zk_E V mc ms (pc + 3) lv st S' rc rs) : zw p l e R s m args below meth c Q nL zk_E V mc ms pc lv (.int n :: .int dp :: .ref a :: .int sp :: .ref a0 :: st) S rc rs := by
  unfold zs_cp at g
  split at g
  · rename_i hh
    obtain ⟨h0, h1, h2, h3, h4⟩ := hh
    split at g
    · rename_i t0 n0 f t1 n1 g' q0 q1
      split at g
      · rename_i hb
        obtain ⟨rfl, rfl, hb1, hb2⟩ := hb
        cases g
        exact zw_cpi hX (t := 0) rfl hw hd hst hR (by rw [zk_k0]; exact h0) q0 (by rw [zk_k0]; exact h1) q1 h2 h3 h4 hb1 hb2 kk
      · cases g
    · rename_i t0 n0 f t1 n1 g' q0 q1
      split at g
      · rename_i hb
        obtain ⟨rfl, rfl, hb1, hb2⟩ := hb
        cases g
        exact zw_cpl hX (t := 1) rfl hw hd hst hR (by rw [zk_k0]; exact h0) q0 (by rw [zk_k0]; exact h1) q1 h2 h3 h4 hb1 hb2 kk
      · cases g
    · cases g
  · cases g
theorem zw_slack (hX : zm_X p R s m args meth c own nm cc nL zk_E V mc ms) {rc2 rs2 : Nat} (h1 : rc2 ≤ rc) (h2 : rs2 ≤ rs) (kk : zw p l e R s m args below meth c Q nL zk_E V mc ms pc lv st S rc2 rs2) : zw p l e R s m args below meth c Q nL zk_E V mc ms pc lv st S rc rs := by
  intro ls H locs cells slots hR hl hS e1 e2
  exact W.widen (k := mc - rc2) (n := ms - rs2) (by omega) (by omega) (kk ls H locs (mc - rc2) (ms - rs2) hR hl hS (by omega) (by omega))
theorem zw_ni (hX : zm_X p R s m args meth c own nm cc nL zk_E V mc ms) {b : Nat} {n : Int32} (hw : Cond.arrayClass .int ∈ zk_E.2.2.1) (hd : decode cc pc = .ok (.newarray .int, 2)) (hrc : 1 ≤ rc) (hrs : b ≤ rs) (hb : b * 8 ≤ 536870912) (g : zn_i S n b = some S')
    (kk : zw p l e R s m args below meth c Q nL zk_E V mc ms (pc + 2) lv (.ref S.2 :: st) S' (rc - 1) (rs - b)) : zw p l e R s m args below meth c Q nL zk_E V mc ms pc lv (.int n :: st) S rc rs := by
  unfold zn_i at g
  split at g
  · rename_i hh
    cases g
    exact zw_newa (t := 0) (ty := .int) hX rfl rfl hw hd (fun _ _ => rfl) hh.1 rfl (by show _ * 4 ≤ _; omega) hrc (Nat.le_trans hh.2 hrs) (fun _ h => by cases h) (zw_slack hX (Nat.le_refl _) (by omega) kk)
  · cases g
theorem zw_nl (hX : zm_X p R s m args meth c own nm cc nL zk_E V mc ms) {b : Nat} {n : Int32} (hw : Cond.arrayClass .long ∈ zk_E.2.2.1) (hd : decode cc pc = .ok (.newarray .long, 2)) (hrc : 1 ≤ rc) (hrs : b ≤ rs) (hb : b * 8 ≤ 536870912) (g : zn_l S n b = some S')
    (kk : zw p l e R s m args below meth c Q nL zk_E V mc ms (pc + 2) lv (.ref S.2 :: st) S' (rc - 1) (rs - b)) : zw p l e R s m args below meth c Q nL zk_E V mc ms pc lv (.int n :: st) S rc rs := by
  unfold zn_l at g
  split at g
  · rename_i hh
    cases g
    exact zw_newa (t := 1) (ty := .long) hX rfl rfl hw hd (fun _ _ => rfl) hh.1 rfl (by show _ * 8 ≤ _; omega) hrc (Nat.le_trans hh.2 hrs) (fun _ h => by cases h) (zw_slack hX (Nat.le_refl _) (by omega) kk)
  · cases g
theorem zw_nb (hX : zm_X p R s m args meth c own nm cc nL zk_E V mc ms) {b : Nat} {n : Int32} (hw : Cond.arrayClass .boolean ∈ zk_E.2.2.1) (hd : decode cc pc = .ok (.newarray .boolean, 2)) (hrc : 1 ≤ rc) (hrs : b ≤ rs) (hb : b * 8 ≤ 536870912) (g : zn_b S n b = some S')
    (kk : zw p l e R s m args below meth c Q nL zk_E V mc ms (pc + 2) lv (.ref S.2 :: st) S' (rc - 1) (rs - b)) : zw p l e R s m args below meth c Q nL zk_E V mc ms pc lv (.int n :: st) S rc rs := by
  unfold zn_b at g
  split at g
  · rename_i hh
    cases g
    exact zw_newa (t := 2) (ty := .boolean) hX rfl rfl hw hd (fun _ _ => rfl) hh.1 rfl (by show _ * 1 ≤ _; omega) hrc (Nat.le_trans hh.2 hrs) (fun _ h => by cases h) (zw_slack hX (Nat.le_refl _) (by omega) kk)
  · cases g
theorem zw_nc (hX : zm_X p R s m args meth c own nm cc nL zk_E V mc ms) {b : Nat} {n : Int32} (hw : Cond.arrayClass .char ∈ zk_E.2.2.1) (hd : decode cc pc = .ok (.newarray .char, 2)) (hrc : 1 ≤ rc) (hrs : b ≤ rs) (hb : b * 8 ≤ 536870912) (g : zn_c S n b = some S')
    (kk : zw p l e R s m args below meth c Q nL zk_E V mc ms (pc + 2) lv (.ref S.2 :: st) S' (rc - 1) (rs - b)) : zw p l e R s m args below meth c Q nL zk_E V mc ms pc lv (.int n :: st) S rc rs := by
  unfold zn_c at g
  split at g
  · rename_i hh
    cases g
    exact zw_newa (t := 3) (ty := .char) hX rfl rfl hw hd (fun _ _ => rfl) hh.1 rfl (by show _ * 2 ≤ _; omega) hrc (Nat.le_trans hh.2 hrs) (fun _ h => by cases h) (zw_slack hX (Nat.le_refl _) (by omega) kk)
  · cases g
theorem zw_newo (hX : zm_X p R s m args meth c own nm cc nL zk_E V mc ms) {index ci n : Nat} {fs : List Value} (hN : zm_N zk_E own index ci fs) (hn : fs.length = n) (hd : decode cc pc = .ok (.new index, 3)) (hrc : 1 ≤ rc) (hrs : n ≤ rs) (g : some (zn_o S ci fs) = some S')
    (kk : zw p l e R s m args below meth c Q nL zk_E V mc ms (pc + 3) lv (.ref S.2 :: st) S' (rc - 1) (rs - n)) : zw p l e R s m args below meth c Q nL zk_E V mc ms pc lv st S rc rs := by
  subst hn
  cases Option.some.inj g
  exact zw_new hX hN hd hrc hrs kk
theorem zw_mnao (hX : zm_X p R s m args meth c own nm cc nL zk_E V mc ms) {index t1 t2 N K : Nat} {n k : Int32} {z : zm_Z} {ty : FieldType} {nmm : String} (ht1 : zk_E.2.1[t1]? = some (.array ty)) (ht2 : zk_E.2.1[t2]? = some ty) (hw1 : Cond.classLink own index nmm ∈ zk_E.2.2.1) (hnm : "[" ++ (FieldType.array ty).toString = nmm) (hw2 : ty = .int ∨ ty = .long) (hw3 : Cond.arrayClass ty ∈ zk_E.2.2.1)
    (hd : decode cc pc = .ok (.multianewarray index 2, 4)) (hz : ∀ io k, zm_zv io z k = defaultValue ty) (hn : ¬ n < 0) (hk : ¬ k < 0) (hN : n.toNatClampNeg = N) (hK : k.toNatClampNeg = K) (hb1 : N * 4 ≤ 536870912) (hb2 : K * componentBytes ty ≤ 536870912) (hb3 : K ≤ 536870912) (hdf : fits ty (defaultValue ty) = true) (hdd : (defaultValue ty).isDefault = true) (hra : ∀ C : String, ty ≠ .object C)
    (hrc : 1 + N ≤ rc) (hrs : N + N * K ≤ rs) (g : some (zn_m S t1 t2 N K z) = some S')
    (kk : zw p l e R s m args below meth c Q nL zk_E V mc ms (pc + 4) lv (.ref S.2 :: st) S' (rc - (1 + N)) (rs - (N + N * K))) : zw p l e R s m args below meth c Q nL zk_E V mc ms pc lv (.int k :: .int n :: st) S rc rs := by
  subst hnm
  cases Option.some.inj g
  exact zw_mna hX ht1 ht2 hw1 hw2 hw3 hd hz hn hk hN hK hb1 hb2 hb3 hdf hdd hra hrc hrs kk
theorem zx_nc (hX : zm_X p R s m args meth c own nm cc nL zk_E V mc ms) : va_Nc "java/lang/IllegalStateException" "java/lang/IllegalArgumentException" s := hX.2.2.2.2.2.2.2.1.2.2.2.2.2.2.2.2.1
end ZJ2

