/-! ===== THE SMALL MACHINE: rows for instructions that read, write or make cells ===== -/
/-- field k of the objects of class ci, as class own names it at the pool's place index -/
def zm_F (E : zm_E) (own : String) (index ci k : Nat) : Prop := ∃ (C : String) (T : u_T) (N : Nat), E.1[ci]? = some (C, T, N) ∧ (∀ w ∈ u_ws C T N, w ∈ E.2.2.1) ∧ k < N ∧ Cond.fieldLink own index (T k).1 (T k).2.1 (T k).2.2.1 ∈ E.2.2.1
/-- the same, between nest mates -/
def zm_FN (E : zm_E) (own : String) (index ci k : Nat) : Prop := ∃ (C : String) (T : u_T) (N : Nat) (host : String), E.1[ci]? = some (C, T, N) ∧ (∀ w ∈ u_ws C T N, w ∈ E.2.2.1) ∧ k < N ∧ Cond.fieldLinkNest own index (T k).1 (T k).2.1 (T k).2.2.1 host ∈ E.2.2.2.1
/-- what a store needs besides: the types, the names apart, final or not -/
def zm_T (E : zm_E) (own : String) (ci k : Nat) (ty : FieldType) (fin : Bool) : Prop := ∃ (C : String) (T : u_T) (N : Nat) (ty0 : Nat → FieldType), E.1[ci]? = some (C, T, N) ∧ (∀ j, j < N → parseFieldDescriptor (T j).2.2.1 = some (ty0 j)) ∧ (∀ a, a < N → ∀ b, b < N → a ≠ b → (T a).2.1 ≠ (T b).2.1) ∧ (T k).2.2.2 = fin ∧ (T k).1 = own ∧ ty0 k = ty
/-- what 'new' needs -/
def zm_N (E : zm_E) (own : String) (index ci : Nat) (fs : List Value) : Prop := ∃ (C : String) (T : u_T) (N : Nat) (ty0 : Nat → FieldType), E.1[ci]? = some (C, T, N) ∧ (∀ w ∈ u_ws C T N, w ∈ E.2.2.1) ∧ (∀ j, j < N → parseFieldDescriptor (T j).2.2.1 = some (ty0 j)) ∧ Cond.classLink own index C ∈ E.2.2.1 ∧ Cond.instantiable C N ∈ E.2.2.1 ∧ Cond.initialized C ∈ E.2.2.1 ∧ fs = (List.range N).map (fun j => defaultValue (ty0 j))
theorem zm_vd (io : Nat → Nat) (t : FieldType) : zm_v io (defaultValue t) = defaultValue t := by cases t <;> rfl
theorem zm_nar (io : Nat → Nat) (ty : FieldType) (v : Value) (h : narrow ty v = v) : narrow ty (zm_v io v) = zm_v io v := by
  cases v <;> first | exact h | (cases ty <;> rfl)
theorem zm_fit (io : Nat → Nat) (ty : FieldType) (v : Value) (h : fits ty v = true) : fits ty (zm_v io v) = true := by
  cases v <;> first | exact h | (cases ty <;> first | rfl | exact h)
theorem zm_vV (io : Nat → Nat) {fs : List Value} {k : Nat} {v : Value} (h : fs[k]? = some v) : vp_V (fs.map (zm_v io)) k = zm_v io v := by
  simp [vp_V, h]
theorem zm_ra {U : State} {cB : ClassId} {ty : FieldType} (h : ∀ C : String, ty ≠ .object C) (h2 : va_RA U cB ty) : U.vm.findClass ("[" ++ ty.toString) = some cB := by
  cases ty <;> first | exact h2 | exact absurd rfl (h _)
section ZH
variable {p : Program} {l : Launch} {e : Env} {R : Room} {s : State} {m : MethodId} {args : Array Value} {below : List Frame} {meth : Method} {c : Code} {Q : State → Prop}
variable {own nm : String} {cc : ByteArray} {nL : Nat} {E : zm_E} {V : zm_V} {mc ms : Nat}
variable {pc rc rs : Nat} {lv : List (Nat × Value)} {st : List Value} {S : zm_S}
theorem zw_get (hX : zm_X p R s m args meth c own nm cc nL E V mc ms) {index ci k a : Nat} {fs : List Value} {v : Value} (hF : zm_F E own index ci k) (hd : decode cc pc = .ok (.getfield index, 3)) (ha : E.2.2.2.2.2.2 ≤ a ∧ a < S.2) (hc : S.1 a = .inl (ci, fs)) (hv : fs[k]? = some v)
    (kk : zw p l e R s m args below meth c Q nL E V mc ms (pc + 3) lv (v :: st) S rc rs) : zw p l e R s m args below meth c Q nL E V mc ms pc lv (.ref a :: st) S rc rs := by
  intro ls H locs cells slots hR hl hS e1 e2
  obtain ⟨C, T, N, hcl, hin, hk, hw⟩ := hF
  obtain ⟨hx, hb, -, hown, hts, -, -, hG, -⟩ := hX
  have h4 := hR.2.2.2.2 a ha.1 ha.2
  rw [hc] at h4
  obtain ⟨cell, q1, q2, q3, q4⟩ := h4 _ hcl
  obtain ⟨hSl, hfc, kC, hkC, hkind⟩ := hG.1.1 ci _ hcl
  obtain ⟨cf, kf, fi, f, hi, hsl⟩ := hSl k hk
  refine W.getf hx hb hown (hts _ hw) hi (u_facts hfc hkC (u_lays hts hin hk) hi).1 q1 (by rw [q3]; exact fun h => by cases h) (v := zm_v _ v) ?_ rfl rfl hd (kk ls H locs cells slots hR hl hS e1 e2)
  rw [hsl, q4 k hk, zm_vV _ hv]
theorem zw_getN (hX : zm_X p R s m args meth c own nm cc nL E V mc ms) {index ci k a : Nat} {fs : List Value} {v : Value} (hF : zm_FN E own index ci k) (hd : decode cc pc = .ok (.getfield index, 3)) (ha : E.2.2.2.2.2.2 ≤ a ∧ a < S.2) (hc : S.1 a = .inl (ci, fs)) (hv : fs[k]? = some v)
    (kk : zw p l e R s m args below meth c Q nL E V mc ms (pc + 3) lv (v :: st) S rc rs) : zw p l e R s m args below meth c Q nL E V mc ms pc lv (.ref a :: st) S rc rs := by
  intro ls H locs cells slots hR hl hS e1 e2
  obtain ⟨C, T, N, host, hcl, hin, hk, hw⟩ := hF
  obtain ⟨hx, hb, -, hown, hts, -, -, hG, -⟩ := hX
  have h4 := hR.2.2.2.2 a ha.1 ha.2
  rw [hc] at h4
  obtain ⟨cell, q1, q2, q3, q4⟩ := h4 _ hcl
  obtain ⟨hSl, hfc, kC, hkC, hkind⟩ := hG.1.1 ci _ hcl
  obtain ⟨cf, kf, fi, f, hi, hsl⟩ := hSl k hk
  refine va_Wgetf hx hb hown (va_Nw.use rfl (hG.2.1 _ hw)) hi (u_facts hfc hkC (u_lays hts hin hk) hi).1 q1 (by rw [q3]; exact fun h => by cases h) (v := zm_v _ v) ?_ rfl rfl hd (kk ls H locs cells slots hR hl hS e1 e2)
  rw [hsl, q4 k hk, zm_vV _ hv]
/-- the cell behind a store into a field -/
theorem zm_stored {H H' : Heap} {a ci k : Nat} {fs : List Value} {v : Value} {C : String} {T : u_T} {N : Nat} {cell : Cell} (hcl : E.1[ci]? = some (C, T, N)) (hR : zm_R E V S H) (ha : E.2.2.2.2.2.2 ≤ a) (hl : k < fs.length) (hk : k < N)
    (q2 : cell.cls = V.1.1 ci) (q3 : cell.vm = .none) (q4 : ∀ k, k < N → cell.slots[V.1.2 ci k]? = some (vp_V (fs.map (zm_v (zm_io E V))) k)) (hap : ∀ x y, x < N → y < N → x ≠ y → (V.1.2 ci) x ≠ (V.1.2 ci) y)
    (e1 : H'[zm_io E V a]? = some (cell.setSlot (V.1.2 ci k) (zm_v (zm_io E V) v))) (z : H'.size = H.size) (e3 : ∀ q, q ≠ zm_io E V a → H'[q]? = H[q]?) : zm_R E V (zm_up S.1 a (.inl (ci, fs.set k v)), S.2) H' := by
  refine hR.put ha z e3 ?_
  intro r hr
  have hr2 : r = (C, T, N) := Option.some.inj (hr.symm.trans hcl)
  subst hr2
  refine t_OB.to (V := updV (vp_V (fs.map (zm_v (zm_io E V)))) k (zm_v (zm_io E V) v)) ⟨_, e1, q2, q3, t_set q4 hap hk _⟩ (fun j _ => ?_)
  rw [vp_updV_set (by rw [List.length_map]; exact hl), List.map_set]
theorem zw_put (hX : zm_X p R s m args meth c own nm cc nL E V mc ms) {index ci k a : Nat} {fs : List Value} {v : Value} {ty : FieldType} {o2 : String} (hF : zm_F E own index ci k) (hT : zm_T E o2 ci k ty false) (hd : decode cc pc = .ok (.putfield index, 3)) (ha : E.2.2.2.2.2.2 ≤ a ∧ a < S.2) (hc : S.1 a = .inl (ci, fs)) (hl0 : k < fs.length) (hn : narrow ty v = v) (hfit : fits ty v = true)
    (kk : zw p l e R s m args below meth c Q nL E V mc ms (pc + 3) lv st (zm_up S.1 a (.inl (ci, fs.set k v)), S.2) rc rs) : zw p l e R s m args below meth c Q nL E V mc ms pc lv (v :: .ref a :: st) S rc rs := by
  intro ls H locs cells slots hR hl hS e1 e2
  obtain ⟨C, T, N, hcl, hin, hk, hw⟩ := hF
  obtain ⟨C2, T2, N2, ty0, hcl2, hty, hnm, hfin, -, hk2⟩ := hT
  cases Option.some.inj (hcl.symm.trans hcl2)
  obtain ⟨hx, hb, -, hown, hts, -, -, hG, -⟩ := hX
  have h4 := hR.2.2.2.2 a ha.1 ha.2
  rw [hc] at h4
  obtain ⟨cell, q1, q2, q3, q4⟩ := h4 _ hcl
  have hap := va_apart (own := own) hts hin ty0 hty hnm hG.1 hcl
  obtain ⟨hSl, hfc, kC, hkC, hkind⟩ := hG.1.1 ci _ hcl
  obtain ⟨cf, kf, fi, f, hi, hsl⟩ := hSl k hk
  have hlay := hts _ (hin _ (u_in_lay hk))
  unfold u_lay at hlay
  rw [if_neg (by rw [hfin]; decide)] at hlay
  have hst := (u_facts hfc hkC (u_lays hts hin hk) hi).1
  have h6 := u_store hfc hkC hkind hlay hi (by rw [hty k hk, hk2]) (zm_nar (zm_io E V) ty v hn) (zm_fit (zm_io E V) ty v hfit)
  refine W.putK hx hb (f := f) ⟨hown, hts _ hw, ⟨_, _, _, hi⟩, hst⟩ (by rw [q2]; exact h6) q1 q3 (by rw [hsl]; exact k2_hasslot (q4 k hk)) rfl rfl hd fun H' g1 g2 g3 => ?_
  rw [hsl] at g1 ⊢
  exact kk ls H' _ cells slots (zm_stored hcl hR ha.1 hl0 hk q2 q3 q4 hap g1 g2 g3) hl (hS.put g2 g3 (by rw [zm_io, zm_i_new ha.1]; exact Nat.le_add_right _ _)) e1 e2
theorem zw_putN (hX : zm_X p R s m args meth c own nm cc nL E V mc ms) {index ci k a : Nat} {fs : List Value} {v : Value} {ty : FieldType} {o2 : String} (hF : zm_FN E own index ci k) (hT : zm_T E o2 ci k ty false) (hd : decode cc pc = .ok (.putfield index, 3)) (ha : E.2.2.2.2.2.2 ≤ a ∧ a < S.2) (hc : S.1 a = .inl (ci, fs)) (hl0 : k < fs.length) (hn : narrow ty v = v) (hfit : fits ty v = true)
    (kk : zw p l e R s m args below meth c Q nL E V mc ms (pc + 3) lv st (zm_up S.1 a (.inl (ci, fs.set k v)), S.2) rc rs) : zw p l e R s m args below meth c Q nL E V mc ms pc lv (v :: .ref a :: st) S rc rs := by
  intro ls H locs cells slots hR hl hS e1 e2
  obtain ⟨C, T, N, host, hcl, hin, hk, hw⟩ := hF
  obtain ⟨C2, T2, N2, ty0, hcl2, hty, hnm, hfin, -, hk2⟩ := hT
  cases Option.some.inj (hcl.symm.trans hcl2)
  obtain ⟨hx, hb, -, hown, hts, -, -, hG, -⟩ := hX
  have h4 := hR.2.2.2.2 a ha.1 ha.2
  rw [hc] at h4
  obtain ⟨cell, q1, q2, q3, q4⟩ := h4 _ hcl
  have hap := va_apart (own := own) hts hin ty0 hty hnm hG.1 hcl
  obtain ⟨hSl, hfc, kC, hkC, hkind⟩ := hG.1.1 ci _ hcl
  obtain ⟨cf, kf, fi, f, hi, hsl⟩ := hSl k hk
  have hlay := hts _ (hin _ (u_in_lay hk))
  unfold u_lay at hlay
  rw [if_neg (by rw [hfin]; decide)] at hlay
  have hst := (u_facts hfc hkC (u_lays hts hin hk) hi).1
  have h6 := u_store hfc hkC hkind hlay hi (by rw [hty k hk, hk2]) (zm_nar (zm_io E V) ty v hn) (zm_fit (zm_io E V) ty v hfit)
  refine va_WputK hx hb (f := f) hown (va_Nw.use rfl (hG.2.1 _ hw)) hi hst (by rw [q2]; exact h6) q1 q3 (by rw [hsl]; exact k2_hasslot (q4 k hk)) rfl rfl hd fun H' g1 g2 g3 => ?_
  rw [hsl] at g1 ⊢
  exact kk ls H' _ cells slots (zm_stored hcl hR ha.1 hl0 hk q2 q3 q4 hap g1 g2 g3) hl (hS.put g2 g3 (by rw [zm_io, zm_i_new ha.1]; exact Nat.le_add_right _ _)) e1 e2
/-- a final field, in its class's constructor -/
theorem zw_putF (hX : zm_X p R s m args meth c own "<init>" cc nL E V mc ms) {index ci k a : Nat} {fs : List Value} {v : Value} {ty : FieldType} (hF : zm_F E own index ci k) (hT : zm_T E own ci k ty true) (hd : decode cc pc = .ok (.putfield index, 3)) (ha : E.2.2.2.2.2.2 ≤ a ∧ a < S.2) (hc : S.1 a = .inl (ci, fs)) (hl0 : k < fs.length) (hn : narrow ty v = v) (hfit : fits ty v = true)
    (kk : zw p l e R s m args below meth c Q nL E V mc ms (pc + 3) lv st (zm_up S.1 a (.inl (ci, fs.set k v)), S.2) rc rs) : zw p l e R s m args below meth c Q nL E V mc ms pc lv (v :: .ref a :: st) S rc rs := by
  intro ls H locs cells slots hR hl hS e1 e2
  obtain ⟨C, T, N, hcl, hin, hk, hw⟩ := hF
  obtain ⟨C2, T2, N2, ty0, hcl2, hty, hnm, hfin, hdecl, hk2⟩ := hT
  cases Option.some.inj (hcl.symm.trans hcl2)
  obtain ⟨hx, hb, -, hown, hts, -, hname, hG, -⟩ := hX
  have h4 := hR.2.2.2.2 a ha.1 ha.2
  rw [hc] at h4
  obtain ⟨cell, q1, q2, q3, q4⟩ := h4 _ hcl
  have hap := va_apart (own := own) hts hin ty0 hty hnm hG.1 hcl
  obtain ⟨hSl, hfc, kC, hkC, hkind⟩ := hG.1.1 ci _ hcl
  obtain ⟨cf, kf, fi, f, hi, hsl⟩ := hSl k hk
  have hlay := hts _ (hin _ (u_in_lay hk))
  unfold u_lay at hlay
  rw [if_pos hfin] at hlay
  have hst := (u_facts hfc hkC (u_lays hts hin hk) hi).1
  have hcf : m.cls = cf := by
    obtain ⟨_, _, c', _, _, _, -, -, hf', -, -, -, hown2, -⟩ := Cond.laysFinal_spec hlay
    have e1 : c' = cf := by have := hi.symm.trans hf'; simp at this; exact this.1.symm
    rw [hdecl] at hown2
    rw [← e1]; exact Option.some.inj (hown.symm.trans hown2)
  have h6 := u_fits hfc hkC hkind (Or.inr hlay) hi (by rw [hty k hk, hk2]) (zm_nar (zm_io E V) ty v hn) (zm_fit (zm_io E V) ty v hfit)
  refine W.putFinK hx hb hown (hts _ hw) hi hst hcf hname (by rw [q2]; exact h6) q1 q3 (by rw [hsl]; exact k2_hasslot (q4 k hk)) rfl rfl hd fun H' g1 g2 g3 => ?_
  rw [hsl] at g1 ⊢
  exact kk ls H' _ cells slots (zm_stored hcl hR ha.1 hl0 hk q2 q3 q4 hap g1 g2 g3) hl (hS.put g2 g3 (by rw [zm_io, zm_i_new ha.1]; exact Nat.le_add_right _ _)) e1 e2
theorem zw_new (hX : zm_X p R s m args meth c own nm cc nL E V mc ms) {index ci : Nat} {fs : List Value} (hN : zm_N E own index ci fs) (hd : decode cc pc = .ok (.new index, 3)) (hrc : 1 ≤ rc) (hrs : fs.length ≤ rs)
    (kk : zw p l e R s m args below meth c Q nL E V mc ms (pc + 3) lv (.ref S.2 :: st) (zm_up S.1 S.2 (.inl (ci, fs)), S.2 + 1) (rc - 1) (rs - fs.length)) : zw p l e R s m args below meth c Q nL E V mc ms pc lv st S rc rs := by
  intro ls H locs cells slots hR hl hS e1 e2
  obtain ⟨C, T, N, ty0, hcl, hin, hty, hlk, hins, hini, rfl⟩ := hN
  obtain ⟨hx, hb, -, hown, hts, -, -, hG, hmc, hms⟩ := hX
  have hlen : ((List.range N).map (fun j => defaultValue (ty0 j))).length = N := by simp
  rw [hlen] at hrs kk
  have hKn := hG.1.1 ci _ hcl
  refine W.newcK hx hb hown (hts _ hlk) (hts _ hins) (hts _ hini) rfl hd (by omega) (by omega) hKn.2.1 rfl fun H1 kC hkC g1 z1 o1 => ?_
  have h5 : zm_R E V (zm_up S.1 S.2 (.inl (ci, (List.range N).map (fun j => defaultValue (ty0 j)))), S.2 + 1) H1 := by
    refine hR.push z1 o1 ?_
    intro r hr
    have hr2 : r = (C, T, N) := Option.some.inj (hr.symm.trans hcl)
    subst hr2
    rw [zm_here hR]
    refine (u_born ty0 hts hin hKn hkC g1 hty).to (fun j hj => ?_)
    have h7 : ((List.range N).map (fun j => defaultValue (ty0 j)))[j]? = some (defaultValue (ty0 j)) := by
      rw [List.getElem?_map, List.getElem?_range hj]
      rfl
    rw [zm_vV _ h7, zm_vd]
  have h8 := kk ls H1 locs (cells + 1) (slots + N) h5 hl ⟨Nat.le_trans hS.1 (by omega), fun x h1 h2 => (o1 x (Nat.lt_of_lt_of_le h1 hS.1)).trans (hS.2.1 x h1 h2), hS.2.2⟩ (by omega) (by omega)
  have h9 : (Value.ref S.2 :: st).map (zm_v (zm_io E V)) = Value.ref H.size :: st.map (zm_v (zm_io E V)) := by
    show Value.ref (zm_io E V S.2) :: _ = _
    rw [zm_here hR]
  rw [h9] at h8
  exact h8
/-- an array, as the machine has it -/
theorem zm_arr {H : Heap} {locs : List Loc} (hG : zm_G E V s) (hR : zm_R E V S H) (hS : va_S (fun q => V.2.2.2.1 ≤ q) s.heap H locs) {a t n : Nat} {z : zm_Z} (ha : a < S.2) (hc : S.1 a = .inr (t, n, z)) {ty : FieldType} (ht : E.2.1[t]? = some ty) :
    ∃ cell : Cell, H[zm_io E V a]? = some cell ∧ s.isArrayOf cell ty ∧ cell.vm ≠ .unknown ∧ n ≤ cell.slots.size ∧ cell.slots.size.toInt32 = Int32.ofNat n ∧ ∀ j : Nat, j < n → cell.slots[j]? = some (zm_zv (zm_io E V) z j) := by
  rcases Nat.lt_or_ge a E.2.2.2.2.2.2 with h | h
  · obtain ⟨ty2, h1, cell, g1, g2, g3, g4, g5, g6, g7⟩ := hG.2.2.2.2.2.2.2.1 a h
    have h2 := hR.2.2.2.1 a h
    rw [hc] at h2
    have h3 : V.2.2.2.2 a = (t, n, z) := (Sum.inr.inj h2).symm
    rw [h3] at h1 g4 g5 g6
    cases Option.some.inj (h1.symm.trans ht)
    refine ⟨cell, ?_, g2, g3, g4, g5, g6⟩
    rw [zm_io, zm_i_old h, hS.2.1 _ (Array.getElem?_eq_some_iff.mp g1).1 g7]
    exact g1
  · have h2 := hR.2.2.2.2 a h ha
    rw [hc] at h2
    have h2 : H[zm_io E V a]? = some (zm_cell (zm_io E V) (V.2.1 t) n z) := h2
    rw [zm_cell_v] at h2
    refine ⟨_, h2, (hG.1.2 t _ (zm_tys_at ht)).1 n _, (fun q => by cases q), by rw [arrV_size]; exact Nat.le_refl _, by rw [arrV_size] <;> rfl, fun j hj => arrV_read _ _ hj⟩
theorem zw_alen (hX : zm_X p R s m args meth c own nm cc nL E V mc ms) {a t n : Nat} {z : zm_Z} {ty : FieldType} {v : Int32} (ht : E.2.1[t]? = some ty) (hd : decode cc pc = .ok (.arraylength, 1)) (ha : a < S.2) (hc : S.1 a = .inr (t, n, z)) (hv : Int32.ofNat n = v)
    (kk : zw p l e R s m args below meth c Q nL E V mc ms (pc + 1) lv (.int v :: st) S rc rs) : zw p l e R s m args below meth c Q nL E V mc ms pc lv (.ref a :: st) S rc rs := by
  intro ls H locs cells slots hR hl hS e1 e2
  obtain ⟨hx, hb, -, hown, hts, -, -, hG, -⟩ := hX
  obtain ⟨cell, g1, g2, g3, g4, g5, g6⟩ := zm_arr hG hR hS ha hc ht
  subst hv
  exact W.alen (n := Int32.ofNat n) hx hb g1 g2 g5 rfl rfl hd (kk ls H locs cells slots hR hl hS e1 e2)
theorem zm_inn {i : Int32} {n : Nat} {cell : Cell} (h4 : n ≤ cell.slots.size) (hin : vp_in i n) : ¬ (i < 0 ∨ cell.slots.size ≤ i.toNatClampNeg) ∧ i.toNatClampNeg < n := by
  have hlt : i.toNatClampNeg < n := Nat.not_le.mp fun q => hin (Or.inr q)
  refine ⟨fun q => ?_, hlt⟩
  rcases q with q | q
  · exact hin (Or.inl q)
  · omega
theorem zw_iald (hX : zm_X p R s m args meth c own nm cc nL E V mc ms) {a t n : Nat} {f : Nat → Int32} {i : Int32} (ht : E.2.1[t]? = some .int) (hd : decode cc pc = .ok (.iaload, 1)) (ha : a < S.2) (hc : S.1 a = .inr (t, n, .inl f)) (hin : vp_in i n)
    (kk : zw p l e R s m args below meth c Q nL E V mc ms (pc + 1) lv (.int (f i.toNatClampNeg) :: st) S rc rs) : zw p l e R s m args below meth c Q nL E V mc ms pc lv (.int i :: .ref a :: st) S rc rs := by
  intro ls H locs cells slots hR hl hS e1 e2
  obtain ⟨hx, hb, -, hown, hts, -, -, hG, -⟩ := hX
  obtain ⟨cell, g1, g2, g3, g4, g5, g6⟩ := zm_arr hG hR hS ha hc ht
  obtain ⟨h1, h2⟩ := zm_inn g4 hin
  exact W.iald hx hb g1 g2 g3 h1 (g6 _ h2) rfl rfl hd (kk ls H locs cells slots hR hl hS e1 e2)
theorem zw_zald (hX : zm_X p R s m args meth c own nm cc nL E V mc ms) {a t n : Nat} {f : Nat → Int32} {i : Int32} (ht : E.2.1[t]? = some .boolean) (hd : decode cc pc = .ok (.baload, 1)) (ha : a < S.2) (hc : S.1 a = .inr (t, n, .inl f)) (hin : vp_in i n)
    (kk : zw p l e R s m args below meth c Q nL E V mc ms (pc + 1) lv (.int (f i.toNatClampNeg) :: st) S rc rs) : zw p l e R s m args below meth c Q nL E V mc ms pc lv (.int i :: .ref a :: st) S rc rs := by
  intro ls H locs cells slots hR hl hS e1 e2
  obtain ⟨hx, hb, -, hown, hts, -, -, hG, -⟩ := hX
  obtain ⟨cell, g1, g2, g3, g4, g5, g6⟩ := zm_arr hG hR hS ha hc ht
  obtain ⟨h1, h2⟩ := zm_inn g4 hin
  exact W.zald hx hb g1 g2 g3 h1 (g6 _ h2) rfl rfl hd (kk ls H locs cells slots hR hl hS e1 e2)
theorem zw_cald (hX : zm_X p R s m args meth c own nm cc nL E V mc ms) {a t n : Nat} {f : Nat → Int32} {i : Int32} (ht : E.2.1[t]? = some .char) (hd : decode cc pc = .ok (.caload, 1)) (ha : a < S.2) (hc : S.1 a = .inr (t, n, .inl f)) (hin : vp_in i n)
    (kk : zw p l e R s m args below meth c Q nL E V mc ms (pc + 1) lv (.int (f i.toNatClampNeg) :: st) S rc rs) : zw p l e R s m args below meth c Q nL E V mc ms pc lv (.int i :: .ref a :: st) S rc rs := by
  intro ls H locs cells slots hR hl hS e1 e2
  obtain ⟨hx, hb, -, hown, hts, -, -, hG, -⟩ := hX
  obtain ⟨cell, g1, g2, g3, g4, g5, g6⟩ := zm_arr hG hR hS ha hc ht
  obtain ⟨h1, h2⟩ := zm_inn g4 hin
  exact W.cald hx hb g1 g2 g3 h1 (g6 _ h2) rfl rfl hd (kk ls H locs cells slots hR hl hS e1 e2)
theorem zw_lald (hX : zm_X p R s m args meth c own nm cc nL E V mc ms) {a t n : Nat} {f : Nat → Int64} {i : Int32} (ht : E.2.1[t]? = some .long) (hd : decode cc pc = .ok (.laload, 1)) (ha : a < S.2) (hc : S.1 a = .inr (t, n, .inr (.inl f))) (hin : vp_in i n)
    (kk : zw p l e R s m args below meth c Q nL E V mc ms (pc + 1) lv (.long (f i.toNatClampNeg) :: st) S rc rs) : zw p l e R s m args below meth c Q nL E V mc ms pc lv (.int i :: .ref a :: st) S rc rs := by
  intro ls H locs cells slots hR hl hS e1 e2
  obtain ⟨hx, hb, -, hown, hts, -, -, hG, -⟩ := hX
  obtain ⟨cell, g1, g2, g3, g4, g5, g6⟩ := zm_arr hG hR hS ha hc ht
  obtain ⟨h1, h2⟩ := zm_inn g4 hin
  exact W.lald hx hb g1 g2 g3 h1 (g6 _ h2) rfl rfl hd (kk ls H locs cells slots hR hl hS e1 e2)
/-- a row of a table of rows -/
theorem zw_aald (hX : zm_X p R s m args meth c own nm cc nL E V mc ms) {a t n b : Nat} {f : Nat → Option Nat} {i : Int32} {ty : FieldType} (ht : E.2.1[t]? = some ty) (hty : ty.isReference = true) (hd : decode cc pc = .ok (.aaload, 1)) (ha : a < S.2) (hc : S.1 a = .inr (t, n, .inr (.inr f))) (hin : vp_in i n) (hf : f i.toNatClampNeg = some b)
    (kk : zw p l e R s m args below meth c Q nL E V mc ms (pc + 1) lv (.ref b :: st) S rc rs) : zw p l e R s m args below meth c Q nL E V mc ms pc lv (.int i :: .ref a :: st) S rc rs := by
  intro ls H locs cells slots hR hl hS e1 e2
  obtain ⟨hx, hb, -, hown, hts, -, -, hG, -⟩ := hX
  obtain ⟨cell, g1, g2, g3, g4, g5, g6⟩ := zm_arr hG hR hS ha hc ht
  obtain ⟨h1, h2⟩ := zm_inn g4 hin
  have h3 := g6 _ h2
  have h4 : zm_zv (zm_io E V) (.inr (.inr f)) i.toNatClampNeg = .ref (zm_io E V b) := by
    show va_rf ((f i.toNatClampNeg).map (zm_io E V)) = _
    rw [hf]
    rfl
  rw [h4] at h3
  exact W.aald hx hb g1 g2 hty g3 h1 h3 rfl rfl hd (kk ls H locs cells slots hR hl hS e1 e2)
theorem zm_pa {H H1 : Heap} (hR : zm_R E V S H) {a t n j : Nat} {z z2 : zm_Z} {v : Value} (ha : E.2.2.2.2.2.2 ≤ a ∧ a < S.2) (hc : S.1 a = .inr (t, n, z)) (hz : ∀ k, zm_zv (zm_io E V) z2 k = updV (zm_zv (zm_io E V) z) j v k)
    {cell : Cell} (h0 : H[zm_io E V a]? = some cell) (e1 : H1[zm_io E V a]? = some (cell.setSlot j v)) (z1 : H1.size = H.size) (oq : ∀ q, q ≠ zm_io E V a → H1[q]? = H[q]?) : zm_R E V (zm_up S.1 a (.inr (t, n, z2)), S.2) H1 := by
  refine hR.put ha.1 z1 oq ?_
  have h2 := hR.2.2.2.2 a ha.1 ha.2
  rw [hc] at h2
  have h2 : H[zm_io E V a]? = some (zm_cell (zm_io E V) (V.2.1 t) n z) := h2
  show H1[zm_io E V a]? = some (zm_cell (zm_io E V) (V.2.1 t) n z2)
  rw [e1, zm_cell_v]
  cases h0.symm.trans h2
  rw [zm_cell_v, arrV_store]
  congr 2
  funext k
  exact (hz k).symm
theorem zw_iast (hX : zm_X p R s m args meth c own nm cc nL E V mc ms) {a t n : Nat} {f : Nat → Int32} {i x : Int32} (ht : E.2.1[t]? = some .int) (hd : decode cc pc = .ok (.iastore, 1)) (ha : E.2.2.2.2.2.2 ≤ a ∧ a < S.2) (hc : S.1 a = .inr (t, n, .inl f)) (hin : vp_in i n)
    (kk : zw p l e R s m args below meth c Q nL E V mc ms (pc + 1) lv st (zm_up S.1 a (.inr (t, n, .inl (upd f i.toNatClampNeg x))), S.2) rc rs) : zw p l e R s m args below meth c Q nL E V mc ms pc lv (.int x :: .int i :: .ref a :: st) S rc rs := by
  intro ls H locs cells slots hR hl hS e1 e2
  obtain ⟨hx, hb, -, hown, hts, -, -, hG, -⟩ := hX
  obtain ⟨cell, g1, g2, g3, g4, g5, g6⟩ := zm_arr hG hR hS ha.2 hc ht
  obtain ⟨h1, h2⟩ := zm_inn g4 hin
  refine W.iast hx hb g1 g2 g3 h1 rfl rfl hd fun H1 e z oq => ?_
  refine kk ls H1 _ cells slots (zm_pa hR ha hc (fun k => ?_) g1 e z oq) hl (hS.put z oq (by rw [zm_io, zm_i_new ha.1]; exact Nat.le_add_right _ _)) e1 e2
  simp only [zm_zv, updV, upd]
  split <;> rfl
theorem zw_last (hX : zm_X p R s m args meth c own nm cc nL E V mc ms) {a t n : Nat} {f : Nat → Int64} {i : Int32} {x : Int64} (ht : E.2.1[t]? = some .long) (hd : decode cc pc = .ok (.lastore, 1)) (ha : E.2.2.2.2.2.2 ≤ a ∧ a < S.2) (hc : S.1 a = .inr (t, n, .inr (.inl f))) (hin : vp_in i n)
    (kk : zw p l e R s m args below meth c Q nL E V mc ms (pc + 1) lv st (zm_up S.1 a (.inr (t, n, .inr (.inl (vp_updL f i.toNatClampNeg x)))), S.2) rc rs) : zw p l e R s m args below meth c Q nL E V mc ms pc lv (.long x :: .int i :: .ref a :: st) S rc rs := by
  intro ls H locs cells slots hR hl hS e1 e2
  obtain ⟨hx, hb, -, hown, hts, -, -, hG, -⟩ := hX
  obtain ⟨cell, g1, g2, g3, g4, g5, g6⟩ := zm_arr hG hR hS ha.2 hc ht
  obtain ⟨h1, h2⟩ := zm_inn g4 hin
  refine W.last hx hb g1 g2 g3 h1 rfl rfl hd fun H1 e z oq => ?_
  refine kk ls H1 _ cells slots (zm_pa hR ha hc (fun k => ?_) g1 e z oq) hl (hS.put z oq (by rw [zm_io, zm_i_new ha.1]; exact Nat.le_add_right _ _)) e1 e2
  simp only [zm_zv, updV, vp_updL]
  split <;> rfl
theorem zw_zast (hX : zm_X p R s m args meth c own nm cc nL E V mc ms) {a t n : Nat} {f : Nat → Int32} {i x : Int32} (ht : E.2.1[t]? = some .boolean) (hd : decode cc pc = .ok (.bastore, 1)) (ha : E.2.2.2.2.2.2 ≤ a ∧ a < S.2) (hc : S.1 a = .inr (t, n, .inl f)) (hin : vp_in i n) (hn : narrow .boolean (.int x) = .int x)
    (kk : zw p l e R s m args below meth c Q nL E V mc ms (pc + 1) lv st (zm_up S.1 a (.inr (t, n, .inl (upd f i.toNatClampNeg x))), S.2) rc rs) : zw p l e R s m args below meth c Q nL E V mc ms pc lv (.int x :: .int i :: .ref a :: st) S rc rs := by
  intro ls H locs cells slots hR hl hS e1 e2
  obtain ⟨hx, hb, -, hown, hts, -, -, hG, -⟩ := hX
  obtain ⟨cell, g1, g2, g3, g4, g5, g6⟩ := zm_arr hG hR hS ha.2 hc ht
  obtain ⟨h1, h2⟩ := zm_inn g4 hin
  refine W.zast hx hb g1 g2 g3 h1 rfl rfl hd fun H1 e z oq => ?_
  rw [hn] at e
  refine kk ls H1 _ cells slots (zm_pa hR ha hc (fun k => ?_) g1 e z oq) hl (hS.put z oq (by rw [zm_io, zm_i_new ha.1]; exact Nat.le_add_right _ _)) e1 e2
  simp only [zm_zv, updV, upd]
  split <;> rfl
theorem zw_cast (hX : zm_X p R s m args meth c own nm cc nL E V mc ms) {a t n : Nat} {f : Nat → Int32} {i x : Int32} (ht : E.2.1[t]? = some .char) (hd : decode cc pc = .ok (.castore, 1)) (ha : E.2.2.2.2.2.2 ≤ a ∧ a < S.2) (hc : S.1 a = .inr (t, n, .inl f)) (hin : vp_in i n)
    (kk : zw p l e R s m args below meth c Q nL E V mc ms (pc + 1) lv st (zm_up S.1 a (.inr (t, n, .inl (upd f i.toNatClampNeg (vp_nar .char x)))), S.2) rc rs) : zw p l e R s m args below meth c Q nL E V mc ms pc lv (.int x :: .int i :: .ref a :: st) S rc rs := by
  intro ls H locs cells slots hR hl hS e1 e2
  obtain ⟨hx, hb, -, hown, hts, -, -, hG, -⟩ := hX
  obtain ⟨cell, g1, g2, g3, g4, g5, g6⟩ := zm_arr hG hR hS ha.2 hc ht
  obtain ⟨h1, h2⟩ := zm_inn g4 hin
  refine W.cast hx hb g1 g2 g3 h1 rfl rfl hd fun H1 e z oq => ?_
  refine kk ls H1 _ cells slots (zm_pa hR ha hc (fun k => ?_) g1 e z oq) hl (hS.put z oq (by rw [zm_io, zm_i_new ha.1]; exact Nat.le_add_right _ _)) e1 e2
  simp only [zm_zv, updV, upd]
  split
  · show Value.int (vp_nar .char x) = _
    simp [vp_nar]
    try rfl
  · rfl
/-- a new row of ints, longs, booleans or chars -/
theorem zw_newa (hX : zm_X p R s m args meth c own nm cc nL E V mc ms) {atype : ArrayType} {t N : Nat} {n : Int32} {z : zm_Z} {ty : FieldType} (hty : newarray.typeOf atype = ty) (ht : E.2.1[t]? = some ty) (hw : Cond.arrayClass ty ∈ E.2.2.1) (hd : decode cc pc = .ok (.newarray atype, 2)) (hz : ∀ io k, zm_zv io z k = defaultValue ty) (hn : ¬ n < 0) (hN : n.toNatClampNeg = N) (hby : N * componentBytes ty ≤ 536870912) (hrc : 1 ≤ rc) (hrs : N ≤ rs)
    (hra : ∀ C : String, ty ≠ .object C)
    (kk : zw p l e R s m args below meth c Q nL E V mc ms (pc + 2) lv (.ref S.2 :: st) (zm_up S.1 S.2 (.inr (t, N, z)), S.2 + 1) (rc - 1) (rs - N)) : zw p l e R s m args below meth c Q nL E V mc ms pc lv (.int n :: st) S rc rs := by
  intro ls H locs cells slots hR hl hS e1 e2
  obtain ⟨hx, hb, -, hown, hts, -, -, hG, hmc, hms⟩ := hX
  subst hty
  refine va_newaK hx hb (hts _ hw) rfl hd rfl hn hN hby (by omega) (by omega) rfl fun H1 cA g1 z1 o1 hAr hNm => ?_
  have hcA : V.2.1 t = cA := Option.some.inj ((zm_ra hra (hG.1.2 t _ (zm_tys_at ht)).2).symm.trans hNm)
  have h5 : zm_R E V (zm_up S.1 S.2 (.inr (t, N, z)), S.2 + 1) H1 := by
    refine hR.push z1 o1 ?_
    show H1[zm_io E V S.2]? = some (zm_cell (zm_io E V) (V.2.1 t) N z)
    rw [zm_here hR, g1, zm_cell_v, hcA]
    congr 2
    funext k
    exact (hz _ k).symm
  have h8 := kk ls H1 locs (cells + 1) (slots + N) h5 hl ⟨Nat.le_trans hS.1 (by omega), fun x h1 h2 => (o1 x (Nat.lt_of_lt_of_le h1 hS.1)).trans (hS.2.1 x h1 h2), hS.2.2⟩ (by omega) (by omega)
  have h9 : (Value.ref S.2 :: st).map (zm_v (zm_io E V)) = Value.ref H.size :: st.map (zm_v (zm_io E V)) := by
    show Value.ref (zm_io E V S.2) :: _ = _
    rw [zm_here hR]
  rw [h9] at h8
  exact h8
/-- a static that holds one of the start's rows -/
theorem zw_gets (hX : zm_X p R s m args meth c own nm cc nL E V mc ms) {C n d : String} {k index : Nat} (hz : (C, n, d, k) ∈ E.2.2.2.2.1) (hk : k < E.2.2.2.2.2.2) (hw : Cond.fieldLink own index C n d ∈ E.2.2.1) (hd : decode cc pc = .ok (.getstatic index, 3))
    (kk : zw p l e R s m args below meth c Q nL E V mc ms (pc + 3) lv (.ref k :: st) S rc rs) : zw p l e R s m args below meth c Q nL E V mc ms pc lv st S rc rs := by
  intro ls H locs cells slots hR hl hS e1 e2
  obtain ⟨hx, hb, -, hown, hts, -, -, hG, -⟩ := hX
  have h8 := kk ls H locs cells slots hR hl hS e1 e2
  have h9 : (Value.ref k :: st).map (zm_v (zm_io E V)) = Value.ref (V.2.2.1 k) :: st.map (zm_v (zm_io E V)) := by
    show Value.ref (zm_io E V k) :: _ = _
    rw [zm_io, zm_i_old hk]
  rw [h9] at h8
  exact va_gets hx hb (hG.2.2.2.1 _ hz) hS hown (hts _ hw) (fun _ h => h) hd h8
theorem zw_objInit (hX : zm_X p R s m args meth c own nm cc nL E V mc ms) {index a : Nat} (hw : Cond.methodLink own index Lib.objectInit ∈ E.2.2.1) (hw2 : Cond.instanceMethod Lib.objectInit ∈ E.2.2.1) (hw3 : Cond.code Lib.objectInit ⟨#[0xb1]⟩ 1 none ∈ E.2.2.1) (hd : decode cc pc = .ok (.invokespecial index, 3)) (hf : 1 ≤ R.frames) (hlo : (st.map fun v => v.category).sum + 12 ≤ R.locals)
    (kk : zw p l e R s m args below meth c Q nL E V mc ms (pc + 3) lv st S rc rs) : zw p l e R s m args below meth c Q nL E V mc ms pc lv (.ref a :: st) S rc rs := by
  intro ls H locs cells slots hR hl hS e1 e2
  obtain ⟨hx, hb, hml, hown, hts, -, -, hG, -⟩ := hX
  have h7 : ((st.map (zm_v (zm_io E V))).map fun v => v.category).sum = (st.map fun v => v.category).sum := by
    rw [List.map_map]
    congr 1
    apply List.map_congr_left
    intro v _
    exact zm_cat _ v
  exact W.objInit hx hb hown (hts _ hw) (hts _ hw2) (hts _ hw3) rfl (hl.1.trans hml.symm) rfl hd hf (by rw [h7]; show 2 * 0 + _ + 12 ≤ _; omega) (kk ls H locs cells slots hR hl hS e1 e2)
end ZH

