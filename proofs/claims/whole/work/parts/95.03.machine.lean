/-! ===== A SMALL MACHINE over the machine: cells by numbers of our own; a judgement zw, a row an instruction ===== -/
/-- numbers into addresses: the first k0 lie where they lay at the start, the others from hs on, in the order of their making -/
def zm_i (k0 : Nat) (ad : Nat → Nat) (hs : Nat) (k : Nat) : Nat := if k < k0 then ad k else hs + (k - k0)
def zm_v (io : Nat → Nat) (v : Value) : Value := match v with
  | .ref a => .ref (io a)
  | w => w
def zm_l (io : Nat → Nat) (q : Nat × Value) : Nat × Value := (q.1, zm_v io q.2)
def zm_cell (io : Nat → Nat) (cA : ClassId) (n : Nat) (z : zm_Z) : Cell := match z with
  | .inl f => arrV cA n (fun j => .int (f j))
  | .inr (.inl f) => arrV cA n (fun j => .long (f j))
  | .inr (.inr f) => arrV cA n (fun j => va_rf ((f j).map io))
/-- place j of an array's contents, as the machine has it -/
def zm_zv (io : Nat → Nat) (z : zm_Z) (j : Nat) : Value := match z with
  | .inl f => .int (f j)
  | .inr (.inl f) => .long (f j)
  | .inr (.inr f) => va_rf ((f j).map io)
theorem zm_cell_v (io : Nat → Nat) (cA : ClassId) (n : Nat) (z : zm_Z) : zm_cell io cA n z = arrV cA n (zm_zv io z) := by
  rcases z with f | f | f <;> rfl
def zm_at (E : zm_E) (V : zm_V) (io : Nat → Nat) (k : Nat) (c : zm_C) (H : Heap) : Prop := match c with
  | .inl o => ∀ r : vw_C, E.1[o.1]? = some r → t_OB (io k) (V.1.1 o.1) r.2.2 (V.1.2 o.1) H (vp_V (o.2.map (zm_v io)))
  | .inr a => H[io k]? = some (zm_cell io (V.2.1 a.1) a.2.1 a.2.2)
def zm_tys (E : zm_E) (V : zm_V) : List (ClassId × FieldType) := E.2.1.mapIdx (fun i t => (V.2.1 i, t))
abbrev zm_io (E : zm_E) (V : zm_V) : Nat → Nat := zm_i E.2.2.2.2.2.2 V.2.2.1 V.2.2.2.1
theorem zm_tys_at {E : zm_E} {V : zm_V} {t : Nat} {ty : FieldType} (h : E.2.1[t]? = some ty) : (zm_tys E V)[t]? = some (V.2.1 t, ty) := by
  unfold zm_tys
  rw [List.getElem?_mapIdx, h]
  rfl
def zm_R (E : zm_E) (V : zm_V) (S : zm_S) (H : Heap) : Prop :=
  E.2.2.2.2.2.2 ≤ S.2 ∧ H.size = V.2.2.2.1 + (S.2 - E.2.2.2.2.2.2) ∧ (∀ k, k < E.2.2.2.2.2.2 → V.2.2.1 k < V.2.2.2.1) ∧ (∀ k, k < E.2.2.2.2.2.2 → S.1 k = .inr (V.2.2.2.2 k)) ∧ ∀ k, E.2.2.2.2.2.2 ≤ k → k < S.2 → zm_at E V (zm_io E V) k (S.1 k) H
theorem zm_at.kept {E : zm_E} {V : zm_V} {io : Nat → Nat} {k : Nat} {c : zm_C} {H H1 : Heap} (h : zm_at E V io k c H) (e : H1[io k]? = H[io k]?) : zm_at E V io k c H1 := by
  cases c with
  | inl o => exact fun r hr => (h r hr).kept e
  | inr a =>
    show H1[io k]? = _
    rw [e]
    exact h
theorem zm_i_old {k0 : Nat} {ad : Nat → Nat} {hs k : Nat} (h : k < k0) : zm_i k0 ad hs k = ad k := if_pos h
theorem zm_i_new {k0 : Nat} {ad : Nat → Nat} {hs k : Nat} (h : k0 ≤ k) : zm_i k0 ad hs k = hs + (k - k0) := if_neg (Nat.not_lt.mpr h)
theorem zm_i_ne {k0 : Nat} {ad : Nat → Nat} {hs k a : Nat} (had : ∀ k, k < k0 → ad k < hs) (ha : k0 ≤ a) (h : k ≠ a) : zm_i k0 ad hs k ≠ zm_i k0 ad hs a := by
  rw [zm_i_new ha]
  rcases Nat.lt_or_ge k k0 with q | q
  · rw [zm_i_old q]
    have := had k q
    omega
  · rw [zm_i_new q]
    omega
theorem zm_R.put {E : zm_E} {V : zm_V} {S : zm_S} {H H1 : Heap} {a : Nat} {c : zm_C} (h : zm_R E V S H) (ha : E.2.2.2.2.2.2 ≤ a) (z : H1.size = H.size)
    (oq : ∀ q : Nat, q ≠ zm_io E V a → H1[q]? = H[q]?) (hc : zm_at E V (zm_io E V) a c H1) : zm_R E V (zm_up S.1 a c, S.2) H1 := by
  obtain ⟨h1, h2, h3, h4, h5⟩ := h
  refine ⟨h1, by rw [z]; exact h2, h3, fun k hk => ?_, fun k hk0 hk => ?_⟩
  · show zm_up S.1 a c k = _
    rw [zm_up_n (by omega)]
    exact h4 k hk
  · by_cases e : k = a
    · subst e
      show zm_at E V (zm_io E V) k (zm_up S.1 k c k) H1
      rw [zm_up_s]
      exact hc
    · show zm_at E V (zm_io E V) k (zm_up S.1 a c k) H1
      rw [zm_up_n e]
      exact (h5 k hk0 hk).kept (oq _ (zm_i_ne h3 ha e))
theorem zm_at.lt {E : zm_E} {V : zm_V} {S : zm_S} {H : Heap} (h : zm_R E V S H) {k : Nat} (hk : k < S.2) : zm_io E V k < H.size := by
  obtain ⟨h1, h2, h3, -, -⟩ := h
  rcases Nat.lt_or_ge k E.2.2.2.2.2.2 with q | q
  · rw [zm_io, zm_i_old q, h2]
    have := h3 k q
    omega
  · rw [zm_io, zm_i_new q, h2]
    omega
theorem zm_R.push {E : zm_E} {V : zm_V} {S : zm_S} {H H1 : Heap} {c : zm_C} (h : zm_R E V S H) (z : H1.size = H.size + 1)
    (oq : ∀ q : Nat, q < H.size → H1[q]? = H[q]?) (hc : zm_at E V (zm_io E V) S.2 c H1) : zm_R E V (zm_up S.1 S.2 c, S.2 + 1) H1 := by
  obtain ⟨h1, h2, h3, h4, h5⟩ := id h
  refine ⟨Nat.le_succ_of_le h1, by show H1.size = V.2.2.2.1 + (S.2 + 1 - E.2.2.2.2.2.2); omega, h3, fun k hk => ?_, fun k hk0 hk => ?_⟩
  · show zm_up S.1 S.2 c k = _
    rw [zm_up_n (by omega)]
    exact h4 k hk
  · have hk : k < S.2 + 1 := hk
    by_cases e : k = S.2
    · subst e
      show zm_at E V (zm_io E V) S.2 (zm_up S.1 S.2 c S.2) H1
      rw [zm_up_s]
      exact hc
    · show zm_at E V (zm_io E V) k (zm_up S.1 S.2 c k) H1
      rw [zm_up_n e]
      have hk2 : k < S.2 := by omega
      exact (h5 k hk0 hk2).kept (oq _ (zm_at.lt h hk2))
theorem zm_here {E : zm_E} {V : zm_V} {S : zm_S} {H : Heap} (h : zm_R E V S H) : zm_io E V S.2 = H.size := by
  rw [zm_io, zm_i_new h.1, h.2.1]
theorem zm_cat (io : Nat → Nat) (v : Value) : (zm_v io v).category = v.category := by cases v <;> rfl
/-- a store into locals -/
def zm_ls (i : Nat) (v : Value) (lv : List (Nat × Value)) : List (Nat × Value) := (i, v) :: lv.filter (fun q => !(q.1 == i) && !(q.1 + 1 == i && q.2.category == 2))
def zm_ll (i : Nat) (v : Value) (lv : List (Nat × Value)) : List (Nat × Value) := (i, v) :: lv.filter (fun q => !(q.1 == i) && (!(q.1 == i + 1) && !(q.1 + 1 == i && q.2.category == 2)))
theorem zm_lsm (io : Nat → Nat) (i : Nat) (v : Value) (lv : List (Nat × Value)) : (i, zm_v io v) :: (lv.map (zm_l io)).filter (fun q => !(q.1 == i) && !(q.1 + 1 == i && q.2.category == 2)) = (zm_ls i v lv).map (zm_l io) := by
  unfold zm_ls
  rw [List.map_cons, List.filter_map]
  congr 2
  apply List.filter_congr
  intro q _
  simp [zm_l, zm_cat]
theorem zm_llm (io : Nat → Nat) (i : Nat) (v : Value) (lv : List (Nat × Value)) : (i, zm_v io v) :: (lv.map (zm_l io)).filter (fun q => !(q.1 == i) && (!(q.1 == i + 1) && !(q.1 + 1 == i && q.2.category == 2))) = (zm_ll i v lv).map (zm_l io) := by
  unfold zm_ll
  rw [List.map_cons, List.filter_map]
  congr 2
  apply List.filter_congr
  intro q _
  simp [zm_l, zm_cat]
def zm_lk (i : Nat) (lv : List (Nat × Value)) : Option Value := match lv with
  | [] => none
  | q :: r => if q.1 = i then some q.2 else zm_lk i r
theorem zm_lk_mem {i : Nat} {v : Value} : ∀ {lv : List (Nat × Value)}, zm_lk i lv = some v → (i, v) ∈ lv
  | [], h => by cases h
  | q :: r, h => by
    unfold zm_lk at h
    split at h
    · rename_i e
      rw [← e, ← Option.some.inj h]
      exact List.mem_cons_self
    · exact List.mem_cons_of_mem _ (zm_lk_mem h)
theorem zm_has {ls : Array Slot} {nL i : Nat} {io : Nat → Nat} {lv : List (Nat × Value)} {v : Value} (h : lv_has ls nL (lv.map (zm_l io))) (hk : zm_lk i lv = some v) : ls[i]? = some (.val (zm_v io v)) :=
  h.2.2 (i, zm_v io v) (List.mem_map.mpr ⟨(i, v), zm_lk_mem hk, rfl⟩)
def zm_pos (i : Nat) (lv : List (Nat × Value)) : Nat := match lv with
  | [] => 0
  | q :: r => if q.1 = i then 0 else zm_pos i r + 1
theorem zm_pos_at {i : Nat} {v : Value} : ∀ {lv : List (Nat × Value)}, zm_lk i lv = some v → lv[zm_pos i lv]? = some (i, v)
  | [], h => by cases h
  | q :: r, h => by
    unfold zm_lk at h
    unfold zm_pos
    split at h
    · rename_i e
      rw [if_pos e, ← e, ← Option.some.inj h]
      rfl
    · rename_i e
      rw [if_neg e]
      exact zm_pos_at h
section ZM
variable {p : Program} {l : Launch} {e : Env} {R : Room} {s : State} {m : MethodId} {args : Array Value} {below : List Frame} {meth : Method} {c : Code} {Q : State → Prop}
variable {own nm : String} {cc : ByteArray} {nL : Nat} {E : zm_E} {V : zm_V} {mc ms : Nat}
/-- what the tables and the start's cells say at a state -/
def zm_G (E : zm_E) (V : zm_V) (U : State) : Prop := va_K V.1 E.1 (zm_tys E V) U ∧ (∀ w ∈ E.2.2.2.1, va_Nw w U) ∧ V.2.2.2.1 ≤ U.heap.size ∧ (∀ z ∈ E.2.2.2.2.1, va_Z z.1 z.2.1 z.2.2.1 (.ref (V.2.2.1 z.2.2.2)) (fun q => V.2.2.2.1 ≤ q) U U.heap) ∧
  vx_Zq Bundle.tN "UNASSIGNED_STACK" Bundle.steD (fun q => V.2.2.2.1 ≤ q) U U.heap ∧ vx_Zq Bundle.tN "SUPPRESSED_SENTINEL" Bundle.listD (fun q => V.2.2.2.1 ≤ q) U U.heap ∧ (∀ z ∈ E.2.2.2.2.2.1, ∃ sa : Nat, vk_R z.1 z.2.1 z.2.2 sa U) ∧
  (∀ k, k < E.2.2.2.2.2.2 → ∃ ty : FieldType, E.2.1[(V.2.2.2.2 k).1]? = some ty ∧ va_T ty (V.2.2.1 k) (V.2.2.2.2 k).2.1 (zm_zv (zm_io E V) (V.2.2.2.2 k).2.2) (fun q => V.2.2.2.1 ≤ q) U U.heap) ∧
  va_Nc "java/lang/IllegalStateException" "java/lang/IllegalArgumentException" U ∧ (Cond.arrayOver (.array .int)).before #[] U = true ∧ (Cond.arrayOver (.array .long)).before #[] U = true
/-- what holds in the whole body of a method -/
def zm_X (p : Program) (R : Room) (s : State) (m : MethodId) (args : Array Value) (meth : Method) (c : Code) (own nm : String) (cc : ByteArray) (nL : Nat) (E : zm_E) (V : zm_V) (mc ms : Nat) : Prop :=
  p.tables.exec = Jvm.exec ∧ c.code = cc ∧ c.maxLocals = nL ∧ s.vm.findClass own = some m.cls ∧ (∀ w ∈ E.2.2.1, w.before args s = true) ∧ meth.locks = false ∧ meth.name = nm ∧ zm_G E V s ∧ mc ≤ R.cells ∧ ms ≤ R.slots
/-- from here the method comes to its end with Q: rc, rs: what is left of the cells and slots it may make -/
def zw (p : Program) (l : Launch) (e : Env) (R : Room) (s : State) (m : MethodId) (args : Array Value) (below : List Frame) (meth : Method) (c : Code) (Q : State → Prop) (nL : Nat) (E : zm_E) (V : zm_V) (mc ms : Nat)
    (pc : Nat) (lv : List (Nat × Value)) (st : List Value) (S : zm_S) (rc rs : Nat) : Prop :=
  ∀ (ls : Array Slot) (H : Heap) (locs : List Loc) (cells slots : Nat), zm_R E V S H → lv_has ls nL (lv.map (zm_l (zm_io E V))) → va_S (fun q => V.2.2.2.1 ≤ q) s.heap H locs → cells + rc = mc → slots + rs = ms →
    W p l e R s m args below meth c H locs cells slots Q (F0 m pc ls (st.map (zm_v (zm_io E V))))
variable {pc rc rs : Nat} {lv : List (Nat × Value)} {st : List Value} {S : zm_S}

theorem zw_iconst (hX : zm_X p R s m args meth c own nm cc nL E V mc ms) {n : Int} {v : Int32} (hd : decode cc pc = .ok (.iconst n, 1)) (hv : Int32.ofInt n = v)
    (k : zw p l e R s m args below meth c Q nL E V mc ms (pc + 1) lv (.int v :: st) S rc rs) : zw p l e R s m args below meth c Q nL E V mc ms pc lv st S rc rs :=
  fun ls H locs cells slots hR hl hS e1 e2 => lv_iconst hX.1 hX.2.1 hd hv (k ls H locs cells slots hR hl hS e1 e2)
theorem zw_bipush (hX : zm_X p R s m args meth c own nm cc nL E V mc ms) {n : Int} {v : Int32} (hd : decode cc pc = .ok (.bipush n, 2)) (hv : (Int8.ofInt n).toInt32 = v)
    (k : zw p l e R s m args below meth c Q nL E V mc ms (pc + 2) lv (.int v :: st) S rc rs) : zw p l e R s m args below meth c Q nL E V mc ms pc lv st S rc rs :=
  fun ls H locs cells slots hR hl hS e1 e2 => lv_bipush hX.1 hX.2.1 hd hv (k ls H locs cells slots hR hl hS e1 e2)
theorem zw_sipush (hX : zm_X p R s m args meth c own nm cc nL E V mc ms) {n : Int} {v : Int32} (hd : decode cc pc = .ok (.sipush n, 3)) (hv : (Int16.ofInt n).toInt32 = v)
    (k : zw p l e R s m args below meth c Q nL E V mc ms (pc + 3) lv (.int v :: st) S rc rs) : zw p l e R s m args below meth c Q nL E V mc ms pc lv st S rc rs :=
  fun ls H locs cells slots hR hl hS e1 e2 => lv_sipush hX.1 hX.2.1 hd hv (k ls H locs cells slots hR hl hS e1 e2)
theorem zw_lconst (hX : zm_X p R s m args meth c own nm cc nL E V mc ms) {n : Fin 2} {v : Int64} (hd : decode cc pc = .ok (.lconst n, 1)) (hv : Int64.ofNat (n : Nat) = v)
    (k : zw p l e R s m args below meth c Q nL E V mc ms (pc + 1) lv (.long v :: st) S rc rs) : zw p l e R s m args below meth c Q nL E V mc ms pc lv st S rc rs :=
  fun ls H locs cells slots hR hl hS e1 e2 => lv_lconst hX.1 hX.2.1 hd hv (k ls H locs cells slots hR hl hS e1 e2)
theorem zw_ldc (hX : zm_X p R s m args meth c own nm cc nL E V mc ms) {index : Nat} {v : Int32} (hd : decode cc pc = .ok (.ldc index, 2)) (hw : Cond.constant own index v ∈ E.2.2.1)
    (k : zw p l e R s m args below meth c Q nL E V mc ms (pc + 2) lv (.int v :: st) S rc rs) : zw p l e R s m args below meth c Q nL E V mc ms pc lv st S rc rs :=
  fun ls H locs cells slots hR hl hS e1 e2 => lv_ldc hX.1 hX.2.1 hX.2.2.2.1 (hX.2.2.2.2.1 _ hw) hd (k ls H locs cells slots hR hl hS e1 e2)
theorem zw_ldcw (hX : zm_X p R s m args meth c own nm cc nL E V mc ms) {index : Nat} {v : Int32} (hd : decode cc pc = .ok (.ldc_w index, 3)) (hw : Cond.constant own index v ∈ E.2.2.1)
    (k : zw p l e R s m args below meth c Q nL E V mc ms (pc + 3) lv (.int v :: st) S rc rs) : zw p l e R s m args below meth c Q nL E V mc ms pc lv st S rc rs :=
  fun ls H locs cells slots hR hl hS e1 e2 => lv_ldcw hX.1 hX.2.1 hX.2.2.2.1 (hX.2.2.2.2.1 _ hw) hd (k ls H locs cells slots hR hl hS e1 e2)
theorem zw_ldc2 (hX : zm_X p R s m args meth c own nm cc nL E V mc ms) {index : Nat} {v : Int64} (hd : decode cc pc = .ok (.ldc2_w index, 3)) (hw : Cond.constantLong own index v ∈ E.2.2.1)
    (k : zw p l e R s m args below meth c Q nL E V mc ms (pc + 3) lv (.long v :: st) S rc rs) : zw p l e R s m args below meth c Q nL E V mc ms pc lv st S rc rs :=
  fun ls H locs cells slots hR hl hS e1 e2 => lv_ldc2 hX.1 hX.2.1 hX.2.2.2.1 (hX.2.2.2.2.1 _ hw) hd (k ls H locs cells slots hR hl hS e1 e2)
theorem zw_iload_n (hX : zm_X p R s m args meth c own nm cc nL E V mc ms) {n : Fin 4} {x : Int32} (hd : decode cc pc = .ok (.iload_n n, 1)) (hk : zm_lk (n : Nat) lv = some (.int x))
    (k : zw p l e R s m args below meth c Q nL E V mc ms (pc + 1) lv (.int x :: st) S rc rs) : zw p l e R s m args below meth c Q nL E V mc ms pc lv st S rc rs :=
  fun ls H locs cells slots hR hl hS e1 e2 => lv_iload_n hX.1 hX.2.1 hd rfl (zm_has hl hk) (k ls H locs cells slots hR hl hS e1 e2)
theorem zw_iload (hX : zm_X p R s m args meth c own nm cc nL E V mc ms) {n : Nat} {x : Int32} (hd : decode cc pc = .ok (.iload n, 2)) (hk : zm_lk n lv = some (.int x))
    (k : zw p l e R s m args below meth c Q nL E V mc ms (pc + 2) lv (.int x :: st) S rc rs) : zw p l e R s m args below meth c Q nL E V mc ms pc lv st S rc rs :=
  fun ls H locs cells slots hR hl hS e1 e2 => lv_iload hX.1 hX.2.1 hd (zm_has hl hk) (k ls H locs cells slots hR hl hS e1 e2)
theorem zw_lload_n (hX : zm_X p R s m args meth c own nm cc nL E V mc ms) {n : Fin 4} {x : Int64} (hd : decode cc pc = .ok (.lload_n n, 1)) (hk : zm_lk (n : Nat) lv = some (.long x))
    (k : zw p l e R s m args below meth c Q nL E V mc ms (pc + 1) lv (.long x :: st) S rc rs) : zw p l e R s m args below meth c Q nL E V mc ms pc lv st S rc rs :=
  fun ls H locs cells slots hR hl hS e1 e2 => lv_lload_n hX.1 hX.2.1 hd rfl (zm_has hl hk) (k ls H locs cells slots hR hl hS e1 e2)
theorem zw_lload (hX : zm_X p R s m args meth c own nm cc nL E V mc ms) {n : Nat} {x : Int64} (hd : decode cc pc = .ok (.lload n, 2)) (hk : zm_lk n lv = some (.long x))
    (k : zw p l e R s m args below meth c Q nL E V mc ms (pc + 2) lv (.long x :: st) S rc rs) : zw p l e R s m args below meth c Q nL E V mc ms pc lv st S rc rs :=
  fun ls H locs cells slots hR hl hS e1 e2 => lv_lload hX.1 hX.2.1 hd (zm_has hl hk) (k ls H locs cells slots hR hl hS e1 e2)
theorem zw_aload_n (hX : zm_X p R s m args meth c own nm cc nL E V mc ms) {n : Fin 4} {x : Nat} (hd : decode cc pc = .ok (.aload_n n, 1)) (hk : zm_lk (n : Nat) lv = some (.ref x))
    (k : zw p l e R s m args below meth c Q nL E V mc ms (pc + 1) lv (.ref x :: st) S rc rs) : zw p l e R s m args below meth c Q nL E V mc ms pc lv st S rc rs :=
  fun ls H locs cells slots hR hl hS e1 e2 => lv_aload_n hX.1 hX.2.1 hd rfl (zm_has hl hk) (k ls H locs cells slots hR hl hS e1 e2)
theorem zw_aload (hX : zm_X p R s m args meth c own nm cc nL E V mc ms) {n : Nat} {x : Nat} (hd : decode cc pc = .ok (.aload n, 2)) (hk : zm_lk n lv = some (.ref x))
    (k : zw p l e R s m args below meth c Q nL E V mc ms (pc + 2) lv (.ref x :: st) S rc rs) : zw p l e R s m args below meth c Q nL E V mc ms pc lv st S rc rs :=
  fun ls H locs cells slots hR hl hS e1 e2 => lv_aload hX.1 hX.2.1 hd (zm_has hl hk) (k ls H locs cells slots hR hl hS e1 e2)
theorem zw_istore_n (hX : zm_X p R s m args meth c own nm cc nL E V mc ms) {n : Fin 4} {x : Int32} (hd : decode cc pc = .ok (.istore_n n, 1)) (hn : (n : Nat) < nL)
    (k : zw p l e R s m args below meth c Q nL E V mc ms (pc + 1) (zm_ls (n : Nat) (.int x) lv) st S rc rs) : zw p l e R s m args below meth c Q nL E V mc ms pc lv (.int x :: st) S rc rs :=
  fun ls H locs cells slots hR hl hS e1 e2 => lv_istore_n hX.1 hX.2.1 hd rfl hl hn (zm_lsm _ _ (.int x) _) (fun ls hl => k ls H locs cells slots hR hl hS e1 e2)
theorem zw_istore (hX : zm_X p R s m args meth c own nm cc nL E V mc ms) {n : Nat} {x : Int32} (hd : decode cc pc = .ok (.istore n, 2)) (hn : n < nL)
    (k : zw p l e R s m args below meth c Q nL E V mc ms (pc + 2) (zm_ls n (.int x) lv) st S rc rs) : zw p l e R s m args below meth c Q nL E V mc ms pc lv (.int x :: st) S rc rs :=
  fun ls H locs cells slots hR hl hS e1 e2 => lv_istore hX.1 hX.2.1 hd hl hn (zm_lsm _ _ (.int x) _) (fun ls hl => k ls H locs cells slots hR hl hS e1 e2)
theorem zw_astore_n (hX : zm_X p R s m args meth c own nm cc nL E V mc ms) {n : Fin 4} {x : Nat} (hd : decode cc pc = .ok (.astore_n n, 1)) (hn : (n : Nat) < nL)
    (k : zw p l e R s m args below meth c Q nL E V mc ms (pc + 1) (zm_ls (n : Nat) (.ref x) lv) st S rc rs) : zw p l e R s m args below meth c Q nL E V mc ms pc lv (.ref x :: st) S rc rs :=
  fun ls H locs cells slots hR hl hS e1 e2 => lv_astore_n hX.1 hX.2.1 hd rfl hl hn (zm_lsm _ _ (.ref x) _) (fun ls hl => k ls H locs cells slots hR hl hS e1 e2)
theorem zw_astore (hX : zm_X p R s m args meth c own nm cc nL E V mc ms) {n : Nat} {x : Nat} (hd : decode cc pc = .ok (.astore n, 2)) (hn : n < nL)
    (k : zw p l e R s m args below meth c Q nL E V mc ms (pc + 2) (zm_ls n (.ref x) lv) st S rc rs) : zw p l e R s m args below meth c Q nL E V mc ms pc lv (.ref x :: st) S rc rs :=
  fun ls H locs cells slots hR hl hS e1 e2 => lv_astore hX.1 hX.2.1 hd hl hn (zm_lsm _ _ (.ref x) _) (fun ls hl => k ls H locs cells slots hR hl hS e1 e2)
theorem zw_lstore_n (hX : zm_X p R s m args meth c own nm cc nL E V mc ms) {n : Fin 4} {x : Int64} (hd : decode cc pc = .ok (.lstore_n n, 1)) (hn : (n : Nat) + 1 < nL)
    (k : zw p l e R s m args below meth c Q nL E V mc ms (pc + 1) (zm_ll (n : Nat) (.long x) lv) st S rc rs) : zw p l e R s m args below meth c Q nL E V mc ms pc lv (.long x :: st) S rc rs :=
  fun ls H locs cells slots hR hl hS e1 e2 => lv_lstore_n hX.1 hX.2.1 hd rfl hl hn (zm_llm _ _ (.long x) _) (fun ls hl => k ls H locs cells slots hR hl hS e1 e2)
theorem zw_lstore (hX : zm_X p R s m args meth c own nm cc nL E V mc ms) {n : Nat} {x : Int64} (hd : decode cc pc = .ok (.lstore n, 2)) (hn : n + 1 < nL)
    (k : zw p l e R s m args below meth c Q nL E V mc ms (pc + 2) (zm_ll n (.long x) lv) st S rc rs) : zw p l e R s m args below meth c Q nL E V mc ms pc lv (.long x :: st) S rc rs :=
  fun ls H locs cells slots hR hl hS e1 e2 => lv_lstore hX.1 hX.2.1 hd hl hn (zm_llm _ _ (.long x) _) (fun ls hl => k ls H locs cells slots hR hl hS e1 e2)
theorem zw_iinc (hX : zm_X p R s m args meth c own nm cc nL E V mc ms) {n : Nat} {d : Int} {x v : Int32} (hd : decode cc pc = .ok (.iinc n d, 3)) (hk : zm_lk n lv = some (.int x)) (hv : x + Int32.ofInt d = v) (hn : n < nL)
    (k : zw p l e R s m args below meth c Q nL E V mc ms (pc + 3) (zm_ls n (.int v) lv) st S rc rs) : zw p l e R s m args below meth c Q nL E V mc ms pc lv st S rc rs :=
  fun ls H locs cells slots hR hl hS e1 e2 => lv_iinc (k := zm_pos n lv) hX.1 hX.2.1 hd hl (by rw [List.getElem?_map, zm_pos_at hk]; rfl) hv hn (zm_lsm _ _ (.int v) _) (fun ls hl => k ls H locs cells slots hR hl hS e1 e2)
theorem zw_iadd (hX : zm_X p R s m args meth c own nm cc nL E V mc ms) {x y : Int32} (hd : decode cc pc = .ok (.iadd, 1)) 
    (k : zw p l e R s m args below meth c Q nL E V mc ms (pc + 1) lv (.int (x + y) :: st) S rc rs) : zw p l e R s m args below meth c Q nL E V mc ms pc lv (.int y :: .int x :: st) S rc rs :=
  fun ls H locs cells slots hR hl hS e1 e2 => lv_iadd hX.1 hX.2.1 hd (k ls H locs cells slots hR hl hS e1 e2)
theorem zw_isub (hX : zm_X p R s m args meth c own nm cc nL E V mc ms) {x y : Int32} (hd : decode cc pc = .ok (.isub, 1)) 
    (k : zw p l e R s m args below meth c Q nL E V mc ms (pc + 1) lv (.int (x - y) :: st) S rc rs) : zw p l e R s m args below meth c Q nL E V mc ms pc lv (.int y :: .int x :: st) S rc rs :=
  fun ls H locs cells slots hR hl hS e1 e2 => lv_isub hX.1 hX.2.1 hd (k ls H locs cells slots hR hl hS e1 e2)
theorem zw_imul (hX : zm_X p R s m args meth c own nm cc nL E V mc ms) {x y : Int32} (hd : decode cc pc = .ok (.imul, 1)) 
    (k : zw p l e R s m args below meth c Q nL E V mc ms (pc + 1) lv (.int (x * y) :: st) S rc rs) : zw p l e R s m args below meth c Q nL E V mc ms pc lv (.int y :: .int x :: st) S rc rs :=
  fun ls H locs cells slots hR hl hS e1 e2 => lv_imul hX.1 hX.2.1 hd (k ls H locs cells slots hR hl hS e1 e2)
theorem zw_iand (hX : zm_X p R s m args meth c own nm cc nL E V mc ms) {x y : Int32} (hd : decode cc pc = .ok (.iand, 1)) 
    (k : zw p l e R s m args below meth c Q nL E V mc ms (pc + 1) lv (.int (x &&& y) :: st) S rc rs) : zw p l e R s m args below meth c Q nL E V mc ms pc lv (.int y :: .int x :: st) S rc rs :=
  fun ls H locs cells slots hR hl hS e1 e2 => lv_iand hX.1 hX.2.1 hd (k ls H locs cells slots hR hl hS e1 e2)
theorem zw_ior (hX : zm_X p R s m args meth c own nm cc nL E V mc ms) {x y : Int32} (hd : decode cc pc = .ok (.ior, 1)) 
    (k : zw p l e R s m args below meth c Q nL E V mc ms (pc + 1) lv (.int (x ||| y) :: st) S rc rs) : zw p l e R s m args below meth c Q nL E V mc ms pc lv (.int y :: .int x :: st) S rc rs :=
  fun ls H locs cells slots hR hl hS e1 e2 => lv_ior hX.1 hX.2.1 hd (k ls H locs cells slots hR hl hS e1 e2)
theorem zw_ixor (hX : zm_X p R s m args meth c own nm cc nL E V mc ms) {x y : Int32} (hd : decode cc pc = .ok (.ixor, 1)) 
    (k : zw p l e R s m args below meth c Q nL E V mc ms (pc + 1) lv (.int (x ^^^ y) :: st) S rc rs) : zw p l e R s m args below meth c Q nL E V mc ms pc lv (.int y :: .int x :: st) S rc rs :=
  fun ls H locs cells slots hR hl hS e1 e2 => lv_ixor hX.1 hX.2.1 hd (k ls H locs cells slots hR hl hS e1 e2)
theorem zw_ishl (hX : zm_X p R s m args meth c own nm cc nL E V mc ms) {x y : Int32} (hd : decode cc pc = .ok (.ishl, 1)) 
    (k : zw p l e R s m args below meth c Q nL E V mc ms (pc + 1) lv (.int (x <<< (y &&& 31)) :: st) S rc rs) : zw p l e R s m args below meth c Q nL E V mc ms pc lv (.int y :: .int x :: st) S rc rs :=
  fun ls H locs cells slots hR hl hS e1 e2 => lv_ishl hX.1 hX.2.1 hd (k ls H locs cells slots hR hl hS e1 e2)
theorem zw_ishr (hX : zm_X p R s m args meth c own nm cc nL E V mc ms) {x y : Int32} (hd : decode cc pc = .ok (.ishr, 1)) 
    (k : zw p l e R s m args below meth c Q nL E V mc ms (pc + 1) lv (.int (x >>> (y &&& 31)) :: st) S rc rs) : zw p l e R s m args below meth c Q nL E V mc ms pc lv (.int y :: .int x :: st) S rc rs :=
  fun ls H locs cells slots hR hl hS e1 e2 => lv_ishr hX.1 hX.2.1 hd (k ls H locs cells slots hR hl hS e1 e2)
theorem zw_ladd (hX : zm_X p R s m args meth c own nm cc nL E V mc ms) {x y : Int64} (hd : decode cc pc = .ok (.ladd, 1)) 
    (k : zw p l e R s m args below meth c Q nL E V mc ms (pc + 1) lv (.long (x + y) :: st) S rc rs) : zw p l e R s m args below meth c Q nL E V mc ms pc lv (.long y :: .long x :: st) S rc rs :=
  fun ls H locs cells slots hR hl hS e1 e2 => lv_ladd hX.1 hX.2.1 hd (k ls H locs cells slots hR hl hS e1 e2)
theorem zw_lsub (hX : zm_X p R s m args meth c own nm cc nL E V mc ms) {x y : Int64} (hd : decode cc pc = .ok (.lsub, 1)) 
    (k : zw p l e R s m args below meth c Q nL E V mc ms (pc + 1) lv (.long (x - y) :: st) S rc rs) : zw p l e R s m args below meth c Q nL E V mc ms pc lv (.long y :: .long x :: st) S rc rs :=
  fun ls H locs cells slots hR hl hS e1 e2 => lv_lsub hX.1 hX.2.1 hd (k ls H locs cells slots hR hl hS e1 e2)
theorem zw_lmul (hX : zm_X p R s m args meth c own nm cc nL E V mc ms) {x y : Int64} (hd : decode cc pc = .ok (.lmul, 1)) 
    (k : zw p l e R s m args below meth c Q nL E V mc ms (pc + 1) lv (.long (x * y) :: st) S rc rs) : zw p l e R s m args below meth c Q nL E V mc ms pc lv (.long y :: .long x :: st) S rc rs :=
  fun ls H locs cells slots hR hl hS e1 e2 => lv_lmul hX.1 hX.2.1 hd (k ls H locs cells slots hR hl hS e1 e2)
theorem zw_land (hX : zm_X p R s m args meth c own nm cc nL E V mc ms) {x y : Int64} (hd : decode cc pc = .ok (.land, 1)) 
    (k : zw p l e R s m args below meth c Q nL E V mc ms (pc + 1) lv (.long (x &&& y) :: st) S rc rs) : zw p l e R s m args below meth c Q nL E V mc ms pc lv (.long y :: .long x :: st) S rc rs :=
  fun ls H locs cells slots hR hl hS e1 e2 => lv_land hX.1 hX.2.1 hd (k ls H locs cells slots hR hl hS e1 e2)
theorem zw_lor (hX : zm_X p R s m args meth c own nm cc nL E V mc ms) {x y : Int64} (hd : decode cc pc = .ok (.lor, 1)) 
    (k : zw p l e R s m args below meth c Q nL E V mc ms (pc + 1) lv (.long (x ||| y) :: st) S rc rs) : zw p l e R s m args below meth c Q nL E V mc ms pc lv (.long y :: .long x :: st) S rc rs :=
  fun ls H locs cells slots hR hl hS e1 e2 => lv_lor hX.1 hX.2.1 hd (k ls H locs cells slots hR hl hS e1 e2)
theorem zw_lxor (hX : zm_X p R s m args meth c own nm cc nL E V mc ms) {x y : Int64} (hd : decode cc pc = .ok (.lxor, 1)) 
    (k : zw p l e R s m args below meth c Q nL E V mc ms (pc + 1) lv (.long (x ^^^ y) :: st) S rc rs) : zw p l e R s m args below meth c Q nL E V mc ms pc lv (.long y :: .long x :: st) S rc rs :=
  fun ls H locs cells slots hR hl hS e1 e2 => lv_lxor hX.1 hX.2.1 hd (k ls H locs cells slots hR hl hS e1 e2)
theorem zw_idiv (hX : zm_X p R s m args meth c own nm cc nL E V mc ms) {x y : Int32} (hd : decode cc pc = .ok (.idiv, 1)) (h0 : ¬ y = 0)
    (k : zw p l e R s m args below meth c Q nL E V mc ms (pc + 1) lv (.int (x / y) :: st) S rc rs) : zw p l e R s m args below meth c Q nL E V mc ms pc lv (.int y :: .int x :: st) S rc rs :=
  fun ls H locs cells slots hR hl hS e1 e2 => lv_idiv hX.1 hX.2.1 hd h0 (k ls H locs cells slots hR hl hS e1 e2)
theorem zw_irem (hX : zm_X p R s m args meth c own nm cc nL E V mc ms) {x y : Int32} (hd : decode cc pc = .ok (.irem, 1)) (h0 : ¬ y = 0)
    (k : zw p l e R s m args below meth c Q nL E V mc ms (pc + 1) lv (.int (x - x / y * y) :: st) S rc rs) : zw p l e R s m args below meth c Q nL E V mc ms pc lv (.int y :: .int x :: st) S rc rs :=
  fun ls H locs cells slots hR hl hS e1 e2 => lv_irem hX.1 hX.2.1 hd h0 (k ls H locs cells slots hR hl hS e1 e2)
theorem zw_ldiv (hX : zm_X p R s m args meth c own nm cc nL E V mc ms) {x y : Int64} (hd : decode cc pc = .ok (.ldiv, 1)) (h0 : ¬ y = 0)
    (k : zw p l e R s m args below meth c Q nL E V mc ms (pc + 1) lv (.long (x / y) :: st) S rc rs) : zw p l e R s m args below meth c Q nL E V mc ms pc lv (.long y :: .long x :: st) S rc rs :=
  fun ls H locs cells slots hR hl hS e1 e2 => lv_ldiv hX.1 hX.2.1 hd h0 (k ls H locs cells slots hR hl hS e1 e2)
theorem zw_lrem (hX : zm_X p R s m args meth c own nm cc nL E V mc ms) {x y : Int64} (hd : decode cc pc = .ok (.lrem, 1)) (h0 : ¬ y = 0)
    (k : zw p l e R s m args below meth c Q nL E V mc ms (pc + 1) lv (.long (x - x / y * y) :: st) S rc rs) : zw p l e R s m args below meth c Q nL E V mc ms pc lv (.long y :: .long x :: st) S rc rs :=
  fun ls H locs cells slots hR hl hS e1 e2 => lv_lrem hX.1 hX.2.1 hd h0 (k ls H locs cells slots hR hl hS e1 e2)
theorem zw_ineg (hX : zm_X p R s m args meth c own nm cc nL E V mc ms) {x : Int32} (hd : decode cc pc = .ok (.ineg, 1)) 
    (k : zw p l e R s m args below meth c Q nL E V mc ms (pc + 1) lv (.int (-x) :: st) S rc rs) : zw p l e R s m args below meth c Q nL E V mc ms pc lv (.int x :: st) S rc rs :=
  fun ls H locs cells slots hR hl hS e1 e2 => lv_ineg hX.1 hX.2.1 hd (k ls H locs cells slots hR hl hS e1 e2)
theorem zw_lneg (hX : zm_X p R s m args meth c own nm cc nL E V mc ms) {x : Int64} (hd : decode cc pc = .ok (.lneg, 1)) 
    (k : zw p l e R s m args below meth c Q nL E V mc ms (pc + 1) lv (.long (-x) :: st) S rc rs) : zw p l e R s m args below meth c Q nL E V mc ms pc lv (.long x :: st) S rc rs :=
  fun ls H locs cells slots hR hl hS e1 e2 => lv_lneg hX.1 hX.2.1 hd (k ls H locs cells slots hR hl hS e1 e2)
theorem zw_i2l (hX : zm_X p R s m args meth c own nm cc nL E V mc ms) {x : Int32} (hd : decode cc pc = .ok (.i2l, 1)) 
    (k : zw p l e R s m args below meth c Q nL E V mc ms (pc + 1) lv (.long x.toInt64 :: st) S rc rs) : zw p l e R s m args below meth c Q nL E V mc ms pc lv (.int x :: st) S rc rs :=
  fun ls H locs cells slots hR hl hS e1 e2 => lv_i2l hX.1 hX.2.1 hd rfl (k ls H locs cells slots hR hl hS e1 e2)
theorem zw_l2i (hX : zm_X p R s m args meth c own nm cc nL E V mc ms) {x : Int64} (hd : decode cc pc = .ok (.l2i, 1)) 
    (k : zw p l e R s m args below meth c Q nL E V mc ms (pc + 1) lv (.int x.toInt32 :: st) S rc rs) : zw p l e R s m args below meth c Q nL E V mc ms pc lv (.long x :: st) S rc rs :=
  fun ls H locs cells slots hR hl hS e1 e2 => lv_l2i hX.1 hX.2.1 hd rfl (k ls H locs cells slots hR hl hS e1 e2)
theorem zw_i2c (hX : zm_X p R s m args meth c own nm cc nL E V mc ms) {x : Int32} (hd : decode cc pc = .ok (.i2c, 1)) 
    (k : zw p l e R s m args below meth c Q nL E V mc ms (pc + 1) lv (.int (x.toUInt32 % 65536).toInt32 :: st) S rc rs) : zw p l e R s m args below meth c Q nL E V mc ms pc lv (.int x :: st) S rc rs :=
  fun ls H locs cells slots hR hl hS e1 e2 => lv_i2c hX.1 hX.2.1 hd rfl (k ls H locs cells slots hR hl hS e1 e2)
theorem zw_iushr (hX : zm_X p R s m args meth c own nm cc nL E V mc ms) {x y : Int32} (hd : decode cc pc = .ok (.iushr, 1)) 
    (k : zw p l e R s m args below meth c Q nL E V mc ms (pc + 1) lv (.int (x.toUInt32 >>> (y.toUInt32 &&& Int32.toUInt32 31)).toInt32 :: st) S rc rs) : zw p l e R s m args below meth c Q nL E V mc ms pc lv (.int y :: .int x :: st) S rc rs :=
  fun ls H locs cells slots hR hl hS e1 e2 => lv_iushr hX.1 hX.2.1 hd rfl (k ls H locs cells slots hR hl hS e1 e2)
theorem zw_lushr (hX : zm_X p R s m args meth c own nm cc nL E V mc ms) {x : Int64} {y : Int32} (hd : decode cc pc = .ok (.lushr, 1)) 
    (k : zw p l e R s m args below meth c Q nL E V mc ms (pc + 1) lv (.long (x.toUInt64 >>> (y.toInt64.toUInt64 &&& Int64.toUInt64 63)).toInt64 :: st) S rc rs) : zw p l e R s m args below meth c Q nL E V mc ms pc lv (.int y :: .long x :: st) S rc rs :=
  fun ls H locs cells slots hR hl hS e1 e2 => lv_lushr hX.1 hX.2.1 hd rfl (k ls H locs cells slots hR hl hS e1 e2)
theorem zw_lshl (hX : zm_X p R s m args meth c own nm cc nL E V mc ms) {x : Int64} {y : Int32} (hd : decode cc pc = .ok (.lshl, 1)) 
    (k : zw p l e R s m args below meth c Q nL E V mc ms (pc + 1) lv (.long (x <<< (y.toInt64 &&& 63)) :: st) S rc rs) : zw p l e R s m args below meth c Q nL E V mc ms pc lv (.int y :: .long x :: st) S rc rs :=
  fun ls H locs cells slots hR hl hS e1 e2 => lv_lshl hX.1 hX.2.1 hd rfl (k ls H locs cells slots hR hl hS e1 e2)
theorem zw_lshr (hX : zm_X p R s m args meth c own nm cc nL E V mc ms) {x : Int64} {y : Int32} (hd : decode cc pc = .ok (.lshr, 1)) 
    (k : zw p l e R s m args below meth c Q nL E V mc ms (pc + 1) lv (.long (x >>> (y.toInt64 &&& 63)) :: st) S rc rs) : zw p l e R s m args below meth c Q nL E V mc ms pc lv (.int y :: .long x :: st) S rc rs :=
  fun ls H locs cells slots hR hl hS e1 e2 => lv_lshr hX.1 hX.2.1 hd rfl (k ls H locs cells slots hR hl hS e1 e2)
theorem zw_lcmp (hX : zm_X p R s m args meth c own nm cc nL E V mc ms) {x y : Int64} (hd : decode cc pc = .ok (.lcmp, 1)) 
    (k : zw p l e R s m args below meth c Q nL E V mc ms (pc + 1) lv (.int (lg_cmp x y) :: st) S rc rs) : zw p l e R s m args below meth c Q nL E V mc ms pc lv (.long y :: .long x :: st) S rc rs :=
  fun ls H locs cells slots hR hl hS e1 e2 => W.lcmp hX.1 hX.2.1 hd (k ls H locs cells slots hR hl hS e1 e2)
theorem zw_dup (hX : zm_X p R s m args meth c own nm cc nL E V mc ms) {v : Value} (hd : decode cc pc = .ok (.dup, 1)) (h1 : v.category = 1)
    (k : zw p l e R s m args below meth c Q nL E V mc ms (pc + 1) lv (v :: v :: st) S rc rs) : zw p l e R s m args below meth c Q nL E V mc ms pc lv (v :: st) S rc rs :=
  fun ls H locs cells slots hR hl hS e1 e2 => lv_dup hX.1 hX.2.1 hd (by rw [zm_cat]; exact h1) (k ls H locs cells slots hR hl hS e1 e2)
theorem zw_pop (hX : zm_X p R s m args meth c own nm cc nL E V mc ms) {v : Value} (hd : decode cc pc = .ok (.pop, 1)) (h1 : v.category = 1)
    (k : zw p l e R s m args below meth c Q nL E V mc ms (pc + 1) lv st S rc rs) : zw p l e R s m args below meth c Q nL E V mc ms pc lv (v :: st) S rc rs :=
  fun ls H locs cells slots hR hl hS e1 e2 => lv_pop hX.1 hX.2.1 hd (by rw [zm_cat]; exact h1) (k ls H locs cells slots hR hl hS e1 e2)
theorem zw_dup2 (hX : zm_X p R s m args meth c own nm cc nL E V mc ms) {v w : Value} (hd : decode cc pc = .ok (.dup2, 1)) (h1 : v.category = 1) (h2 : w.category = 1)
    (k : zw p l e R s m args below meth c Q nL E V mc ms (pc + 1) lv (v :: w :: v :: w :: st) S rc rs) : zw p l e R s m args below meth c Q nL E V mc ms pc lv (v :: w :: st) S rc rs :=
  fun ls H locs cells slots hR hl hS e1 e2 => lv_dup2_11 hX.1 hX.2.1 hd (by rw [zm_cat]; exact h1) (by rw [zm_cat]; exact h2) (k ls H locs cells slots hR hl hS e1 e2)
theorem zw_dup2_l (hX : zm_X p R s m args meth c own nm cc nL E V mc ms) {v : Value} (hd : decode cc pc = .ok (.dup2, 1)) (h1 : v.category = 2)
    (k : zw p l e R s m args below meth c Q nL E V mc ms (pc + 1) lv (v :: v :: st) S rc rs) : zw p l e R s m args below meth c Q nL E V mc ms pc lv (v :: st) S rc rs :=
  fun ls H locs cells slots hR hl hS e1 e2 => lv_dup2_2 hX.1 hX.2.1 hd (by rw [zm_cat]; exact h1) (k ls H locs cells slots hR hl hS e1 e2)
theorem zw_pop2_l (hX : zm_X p R s m args meth c own nm cc nL E V mc ms) {v : Value} (hd : decode cc pc = .ok (.pop2, 1)) (h1 : v.category = 2)
    (k : zw p l e R s m args below meth c Q nL E V mc ms (pc + 1) lv st S rc rs) : zw p l e R s m args below meth c Q nL E V mc ms pc lv (v :: st) S rc rs :=
  fun ls H locs cells slots hR hl hS e1 e2 => lv_pop2_2 hX.1 hX.2.1 hd (by rw [zm_cat]; exact h1) (k ls H locs cells slots hR hl hS e1 e2)
theorem zw_pop2 (hX : zm_X p R s m args meth c own nm cc nL E V mc ms) {v w : Value} (hd : decode cc pc = .ok (.pop2, 1)) (h1 : v.category = 1) (h2 : w.category = 1)
    (k : zw p l e R s m args below meth c Q nL E V mc ms (pc + 1) lv st S rc rs) : zw p l e R s m args below meth c Q nL E V mc ms pc lv (v :: w :: st) S rc rs :=
  fun ls H locs cells slots hR hl hS e1 e2 => lv_pop2_11 hX.1 hX.2.1 hd (by rw [zm_cat]; exact h1) (by rw [zm_cat]; exact h2) (k ls H locs cells slots hR hl hS e1 e2)
theorem zw_dup_x1 (hX : zm_X p R s m args meth c own nm cc nL E V mc ms) {v w : Value} (hd : decode cc pc = .ok (.dup_x1, 1)) (h1 : v.category = 1) (h2 : w.category = 1)
    (k : zw p l e R s m args below meth c Q nL E V mc ms (pc + 1) lv (v :: w :: v :: st) S rc rs) : zw p l e R s m args below meth c Q nL E V mc ms pc lv (v :: w :: st) S rc rs :=
  fun ls H locs cells slots hR hl hS e1 e2 => lv_dup_x1 hX.1 hX.2.1 hd (by rw [zm_cat]; exact h1) (by rw [zm_cat]; exact h2) (k ls H locs cells slots hR hl hS e1 e2)
theorem zw_if_eq (hX : zm_X p R s m args meth c own nm cc nL E V mc ms) {x : Int32} {off : Int} {tgt : Nat} (hd : decode cc pc = .ok (.ifCond .eq off, 3)) (ht : (pc : Int) + off = (tgt : Int)) (kt : x = 0 → zw p l e R s m args below meth c Q nL E V mc ms tgt lv st S rc rs) (kf : ¬ x = 0 → zw p l e R s m args below meth c Q nL E V mc ms (pc + 3) lv st S rc rs) : zw p l e R s m args below meth c Q nL E V mc ms pc lv (.int x :: st) S rc rs :=
  fun ls H locs cells slots hR hl hS e1 e2 => lv_if_eq hX.1 hX.2.1 hd ht (fun h => kt h ls H locs cells slots hR hl hS e1 e2) (fun h => kf h ls H locs cells slots hR hl hS e1 e2)
theorem zw_icmp_eq (hX : zm_X p R s m args meth c own nm cc nL E V mc ms) {x y : Int32} {off : Int} {tgt : Nat} (hd : decode cc pc = .ok (.if_icmp .eq off, 3)) (ht : (pc : Int) + off = (tgt : Int)) (kt : x = y → zw p l e R s m args below meth c Q nL E V mc ms tgt lv st S rc rs) (kf : ¬ x = y → zw p l e R s m args below meth c Q nL E V mc ms (pc + 3) lv st S rc rs) : zw p l e R s m args below meth c Q nL E V mc ms pc lv (.int y :: .int x :: st) S rc rs :=
  fun ls H locs cells slots hR hl hS e1 e2 => lv_icmp_eq hX.1 hX.2.1 hd ht (fun h => kt h ls H locs cells slots hR hl hS e1 e2) (fun h => kf h ls H locs cells slots hR hl hS e1 e2)
theorem zw_if_ne (hX : zm_X p R s m args meth c own nm cc nL E V mc ms) {x : Int32} {off : Int} {tgt : Nat} (hd : decode cc pc = .ok (.ifCond .ne off, 3)) (ht : (pc : Int) + off = (tgt : Int)) (kt : ¬ x = 0 → zw p l e R s m args below meth c Q nL E V mc ms tgt lv st S rc rs) (kf : x = 0 → zw p l e R s m args below meth c Q nL E V mc ms (pc + 3) lv st S rc rs) : zw p l e R s m args below meth c Q nL E V mc ms pc lv (.int x :: st) S rc rs :=
  fun ls H locs cells slots hR hl hS e1 e2 => lv_if_ne hX.1 hX.2.1 hd ht (fun h => kt h ls H locs cells slots hR hl hS e1 e2) (fun h => kf h ls H locs cells slots hR hl hS e1 e2)
theorem zw_icmp_ne (hX : zm_X p R s m args meth c own nm cc nL E V mc ms) {x y : Int32} {off : Int} {tgt : Nat} (hd : decode cc pc = .ok (.if_icmp .ne off, 3)) (ht : (pc : Int) + off = (tgt : Int)) (kt : ¬ x = y → zw p l e R s m args below meth c Q nL E V mc ms tgt lv st S rc rs) (kf : x = y → zw p l e R s m args below meth c Q nL E V mc ms (pc + 3) lv st S rc rs) : zw p l e R s m args below meth c Q nL E V mc ms pc lv (.int y :: .int x :: st) S rc rs :=
  fun ls H locs cells slots hR hl hS e1 e2 => lv_icmp_ne hX.1 hX.2.1 hd ht (fun h => kt h ls H locs cells slots hR hl hS e1 e2) (fun h => kf h ls H locs cells slots hR hl hS e1 e2)
theorem zw_if_lt (hX : zm_X p R s m args meth c own nm cc nL E V mc ms) {x : Int32} {off : Int} {tgt : Nat} (hd : decode cc pc = .ok (.ifCond .lt off, 3)) (ht : (pc : Int) + off = (tgt : Int)) (kt : x < 0 → zw p l e R s m args below meth c Q nL E V mc ms tgt lv st S rc rs) (kf : ¬ x < 0 → zw p l e R s m args below meth c Q nL E V mc ms (pc + 3) lv st S rc rs) : zw p l e R s m args below meth c Q nL E V mc ms pc lv (.int x :: st) S rc rs :=
  fun ls H locs cells slots hR hl hS e1 e2 => lv_if_lt hX.1 hX.2.1 hd ht (fun h => kt h ls H locs cells slots hR hl hS e1 e2) (fun h => kf h ls H locs cells slots hR hl hS e1 e2)
theorem zw_icmp_lt (hX : zm_X p R s m args meth c own nm cc nL E V mc ms) {x y : Int32} {off : Int} {tgt : Nat} (hd : decode cc pc = .ok (.if_icmp .lt off, 3)) (ht : (pc : Int) + off = (tgt : Int)) (kt : x < y → zw p l e R s m args below meth c Q nL E V mc ms tgt lv st S rc rs) (kf : ¬ x < y → zw p l e R s m args below meth c Q nL E V mc ms (pc + 3) lv st S rc rs) : zw p l e R s m args below meth c Q nL E V mc ms pc lv (.int y :: .int x :: st) S rc rs :=
  fun ls H locs cells slots hR hl hS e1 e2 => lv_icmp_lt hX.1 hX.2.1 hd ht (fun h => kt h ls H locs cells slots hR hl hS e1 e2) (fun h => kf h ls H locs cells slots hR hl hS e1 e2)
theorem zw_if_ge (hX : zm_X p R s m args meth c own nm cc nL E V mc ms) {x : Int32} {off : Int} {tgt : Nat} (hd : decode cc pc = .ok (.ifCond .ge off, 3)) (ht : (pc : Int) + off = (tgt : Int)) (kt : 0 ≤ x → zw p l e R s m args below meth c Q nL E V mc ms tgt lv st S rc rs) (kf : ¬ 0 ≤ x → zw p l e R s m args below meth c Q nL E V mc ms (pc + 3) lv st S rc rs) : zw p l e R s m args below meth c Q nL E V mc ms pc lv (.int x :: st) S rc rs :=
  fun ls H locs cells slots hR hl hS e1 e2 => lv_if_ge hX.1 hX.2.1 hd ht (fun h => kt h ls H locs cells slots hR hl hS e1 e2) (fun h => kf h ls H locs cells slots hR hl hS e1 e2)
theorem zw_icmp_ge (hX : zm_X p R s m args meth c own nm cc nL E V mc ms) {x y : Int32} {off : Int} {tgt : Nat} (hd : decode cc pc = .ok (.if_icmp .ge off, 3)) (ht : (pc : Int) + off = (tgt : Int)) (kt : y ≤ x → zw p l e R s m args below meth c Q nL E V mc ms tgt lv st S rc rs) (kf : ¬ y ≤ x → zw p l e R s m args below meth c Q nL E V mc ms (pc + 3) lv st S rc rs) : zw p l e R s m args below meth c Q nL E V mc ms pc lv (.int y :: .int x :: st) S rc rs :=
  fun ls H locs cells slots hR hl hS e1 e2 => lv_icmp_ge hX.1 hX.2.1 hd ht (fun h => kt h ls H locs cells slots hR hl hS e1 e2) (fun h => kf h ls H locs cells slots hR hl hS e1 e2)
theorem zw_if_gt (hX : zm_X p R s m args meth c own nm cc nL E V mc ms) {x : Int32} {off : Int} {tgt : Nat} (hd : decode cc pc = .ok (.ifCond .gt off, 3)) (ht : (pc : Int) + off = (tgt : Int)) (kt : 0 < x → zw p l e R s m args below meth c Q nL E V mc ms tgt lv st S rc rs) (kf : ¬ 0 < x → zw p l e R s m args below meth c Q nL E V mc ms (pc + 3) lv st S rc rs) : zw p l e R s m args below meth c Q nL E V mc ms pc lv (.int x :: st) S rc rs :=
  fun ls H locs cells slots hR hl hS e1 e2 => lv_if_gt hX.1 hX.2.1 hd ht (fun h => kt h ls H locs cells slots hR hl hS e1 e2) (fun h => kf h ls H locs cells slots hR hl hS e1 e2)
theorem zw_icmp_gt (hX : zm_X p R s m args meth c own nm cc nL E V mc ms) {x y : Int32} {off : Int} {tgt : Nat} (hd : decode cc pc = .ok (.if_icmp .gt off, 3)) (ht : (pc : Int) + off = (tgt : Int)) (kt : y < x → zw p l e R s m args below meth c Q nL E V mc ms tgt lv st S rc rs) (kf : ¬ y < x → zw p l e R s m args below meth c Q nL E V mc ms (pc + 3) lv st S rc rs) : zw p l e R s m args below meth c Q nL E V mc ms pc lv (.int y :: .int x :: st) S rc rs :=
  fun ls H locs cells slots hR hl hS e1 e2 => lv_icmp_gt hX.1 hX.2.1 hd ht (fun h => kt h ls H locs cells slots hR hl hS e1 e2) (fun h => kf h ls H locs cells slots hR hl hS e1 e2)
theorem zw_if_le (hX : zm_X p R s m args meth c own nm cc nL E V mc ms) {x : Int32} {off : Int} {tgt : Nat} (hd : decode cc pc = .ok (.ifCond .le off, 3)) (ht : (pc : Int) + off = (tgt : Int)) (kt : x ≤ 0 → zw p l e R s m args below meth c Q nL E V mc ms tgt lv st S rc rs) (kf : ¬ x ≤ 0 → zw p l e R s m args below meth c Q nL E V mc ms (pc + 3) lv st S rc rs) : zw p l e R s m args below meth c Q nL E V mc ms pc lv (.int x :: st) S rc rs :=
  fun ls H locs cells slots hR hl hS e1 e2 => lv_if_le hX.1 hX.2.1 hd ht (fun h => kt h ls H locs cells slots hR hl hS e1 e2) (fun h => kf h ls H locs cells slots hR hl hS e1 e2)
theorem zw_icmp_le (hX : zm_X p R s m args meth c own nm cc nL E V mc ms) {x y : Int32} {off : Int} {tgt : Nat} (hd : decode cc pc = .ok (.if_icmp .le off, 3)) (ht : (pc : Int) + off = (tgt : Int)) (kt : x ≤ y → zw p l e R s m args below meth c Q nL E V mc ms tgt lv st S rc rs) (kf : ¬ x ≤ y → zw p l e R s m args below meth c Q nL E V mc ms (pc + 3) lv st S rc rs) : zw p l e R s m args below meth c Q nL E V mc ms pc lv (.int y :: .int x :: st) S rc rs :=
  fun ls H locs cells slots hR hl hS e1 e2 => lv_icmp_le hX.1 hX.2.1 hd ht (fun h => kt h ls H locs cells slots hR hl hS e1 e2) (fun h => kf h ls H locs cells slots hR hl hS e1 e2)
theorem zw_lookup (hX : zm_X p R s m args meth c own nm cc nL E V mc ms) {dflt : Int} {ps : Array (Int × Int)} {len : Nat} {x : Int32} {off : Int} {tgt : Nat} (hd : decode cc pc = .ok (.lookupswitch dflt ps, len)) (hp : (ps.toList.zip (ps.toList.drop 1)).all (fun (a, next) => a.1 < next.1) = true) (ho : Op.lookupswitch.offset ps.toList dflt x.toInt = off) (ht : (pc : Int) + off = (tgt : Int)) (k : zw p l e R s m args below meth c Q nL E V mc ms tgt lv st S rc rs) : zw p l e R s m args below meth c Q nL E V mc ms pc lv (.int x :: st) S rc rs :=
  fun ls H locs cells slots hR hl hS e1 e2 => lv_lookup hX.1 hX.2.1 hd hp ho ht (k ls H locs cells slots hR hl hS e1 e2)
theorem zw_tableOut (hX : zm_X p R s m args meth c own nm cc nL E V mc ms) {dflt lo hi : Int} {offs : Array Int} {len : Nat} {x : Int32} {tgt : Nat} (hd : decode cc pc = .ok (.tableswitch dflt lo hi offs, len)) (h : x.toInt < lo ∨ hi < x.toInt) (ht : (pc : Int) + dflt = (tgt : Int)) (k : zw p l e R s m args below meth c Q nL E V mc ms tgt lv st S rc rs) : zw p l e R s m args below meth c Q nL E V mc ms pc lv (.int x :: st) S rc rs :=
  fun ls H locs cells slots hR hl hS e1 e2 => lv_tableOut hX.1 hX.2.1 hd h ht (k ls H locs cells slots hR hl hS e1 e2)
theorem zw_tableIn (hX : zm_X p R s m args meth c own nm cc nL E V mc ms) {dflt lo hi : Int} {offs : Array Int} {len : Nat} {x : Int32} {off : Int} {tgt : Nat} (hd : decode cc pc = .ok (.tableswitch dflt lo hi offs, len)) (h1 : ¬ x.toInt < lo) (h2 : ¬ hi < x.toInt) (ho : offs[(x.toInt - lo).toNat]? = some off) (ht : (pc : Int) + off = (tgt : Int)) (k : zw p l e R s m args below meth c Q nL E V mc ms tgt lv st S rc rs) : zw p l e R s m args below meth c Q nL E V mc ms pc lv (.int x :: st) S rc rs :=
  fun ls H locs cells slots hR hl hS e1 e2 => lv_tableIn hX.1 hX.2.1 hd h1 h2 ho ht (k ls H locs cells slots hR hl hS e1 e2)
theorem zw_goto (hX : zm_X p R s m args meth c own nm cc nL E V mc ms) {off : Int} {tgt : Nat} (hd : decode cc pc = .ok (.goto off, 3)) (ht : (pc : Int) + off = (tgt : Int)) (k : zw p l e R s m args below meth c Q nL E V mc ms tgt lv st S rc rs) : zw p l e R s m args below meth c Q nL E V mc ms pc lv st S rc rs :=
  fun ls H locs cells slots hR hl hS e1 e2 => lv_goto hX.1 hX.2.1 hd ht (k ls H locs cells slots hR hl hS e1 e2)
end ZM

