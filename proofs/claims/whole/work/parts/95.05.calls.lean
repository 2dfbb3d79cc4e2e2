/-! ===== THE SMALL MACHINE: contracts, returns, calls, throws ===== -/
/-- tables and start's cells are as they were -/
theorem zm_G.same {E : zm_E} {V : zm_V} {u U : State} (hn : ∀ w ∈ E.2.2.2.1, w.onTables = true) (hvm : u.vm = U.vm) (hh : u.heap = U.heap) (h : zm_G E V u) : zm_G E V U := by
  have hal : u.vm.Alike U.vm := by rw [hvm]; exact Vm.Alike.refl _
  obtain ⟨h1, h2, h3, h4, h5, h6, h7, h8, h9⟩ := h
  rw [hh] at h3 h4 h5 h6 h8
  exact ⟨va_K.moved hal h1, fun w hw => va_Nw.same (hn w hw) hvm (h2 w hw), h3, fun z hz => va_Z.moved hal (h4 z hz), vx_Zq.moved hal h5, vx_Zq.moved hal h6,
    fun z hz => (h7 z hz).elim fun sa q => ⟨sa, vk_R.same hvm.symm q⟩, fun k hk => (h8 k hk).elim fun ty q => ⟨ty, q.1, va_T.moved hal q.2⟩, va_Nc.moved hal h9.1, over_moved hal h9.2.1, over_moved hal h9.2.2⟩
/-- words that stay, but not by the general law: links between nest mates, casts, declared methods -/
def zm_isN (w : Cond) : Bool := match w with
  | .fieldLinkNest _ _ _ _ _ _ => true
  | .methodLinkNest _ _ _ _ => true
  | .castable _ _ => true
  | .declares _ => true
  | _ => false
theorem zm_isN_on {w : Cond} (h : zm_isN w = true) : w.onTables = true := by
  unfold zm_isN at h
  split at h <;> first | rfl | cases h
theorem zm_isN_warm {w : Cond} (h : zm_isN w = true) {s U : State} (hW : s.WarmedH U.vm) (h2 : va_Nw w s) : va_Nw w U := by
  unfold zm_isN at h
  split at h
  · exact va_Nw.warmF hW h2
  · exact va_Nw.warmM hW h2
  · exact va_Nw.warmC hW h2
  · exact va_Nw.warmD hW h2
  · cases h
/-- what is fixed is sound: words that stay, words between mates -/
def zm_ok (E : zm_E) : Prop := (∀ w ∈ E.2.2.1, goodWord w = true) ∧ ∀ w ∈ E.2.2.2.1, zm_isN w = true
theorem zm_G.warm {E : zm_E} {V : zm_V} {s U : State} {H : Heap} {locs : List Loc} (hE : zm_ok E) (hW : s.WarmedH U.vm) (hU : U.heap = H) (hS : va_S (fun q => V.2.2.2.1 ≤ q) s.heap H locs) (h : zm_G E V s) : zm_G E V U := by
  obtain ⟨h1, h2, h3, h4, h5, h6, h7, h8, h9⟩ := h
  have hal := hW.alike
  subst hU
  exact ⟨va_K.moved hal h1, fun w hw => zm_isN_warm (hE.2 w hw) hW (h2 w hw), Nat.le_trans h3 hS.1, fun z hz => va_Z.moved hal ((h4 z hz).kept hS.2.1), vx_Zq.moved hal (h5.kept hS.2.1), vx_Zq.moved hal (h6.kept hS.2.1),
    fun z hz => (h7 z hz).elim fun sa q => ⟨sa, vk_R.warm hW q⟩, fun k hk => (h8 k hk).elim fun ty q => ⟨ty, q.1, va_T.moved hal (q.2.kept hS.2.1)⟩, va_Nc.moved hal h9.1, over_moved hal h9.2.1, over_moved hal h9.2.2⟩
def zm_Pc (E : zm_E) (V : zm_V) (as : List Value) (S : zm_S) : Array Value → State → Prop := fun a U => a = (as.map (zm_v (zm_io E V))).toArray ∧ zm_R E V S U.heap ∧ zm_G E V U
def zm_Qc (E : zm_E) (V : zm_V) (Po : Option Value → zm_S → Prop) : Array Value → State → Outcome → State → Prop := fun _ st oc t => (∃ (v : Option Value) (S' : zm_S), oc = .returned (v.map (zm_v (zm_io E V))) ∧ Po v S' ∧ zm_R E V S' t.heap) ∧ va_F (fun q => V.2.2.2.1 ≤ q) st t
def zm_XC (E : zm_E) (V : zm_V) (Px : String → zm_S → Prop) : String → State → State → Prop := fun X st t => (∃ S' : zm_S, Px X S' ∧ zm_R E V S' t.heap) ∧ va_F (fun q => V.2.2.2.1 ≤ q) st t
/-- THE CONTRACT of a method y (w: its code's word) at arguments and cells: how it may return, how it may throw; at depth d -/
def zm_Met (l : Launch) (E : zm_E) (V : zm_V) (y : MethodName) (w : Cond) (d : Nat) (as : List Value) (S : zm_S) (mc ms : Nat) (Po : Option Value → zm_S → Prop) (Px : String → zm_S → Prop) : Prop :=
  vx_Met l y (w :: E.2.2.1) { frames := d, cells := mc, slots := ms, locals := 64 * d } (zm_Pc E V as S) (zm_Qc E V Po) (zm_XC E V Px) mc ms (fun q => V.2.2.2.1 ≤ q)
theorem zm_blind {E : zm_E} {V : zm_V} (hE : zm_ok E) {as : List Value} {S : zm_S} : FrameBlind (zm_Pc E V as S) := fun _ U _ _ q => ⟨q.1, q.2.1, zm_G.same (u := U) (fun w hw => zm_isN_on (hE.2 w hw)) rfl rfl q.2.2⟩
theorem zm_args (io : Nat → Nat) : ∀ (i : Nat) (vs : List Value), lv_args i (vs.map (zm_v io)) = (lv_args i vs).map (zm_l io)
  | _, [] => rfl
  | i, v :: vs => by
    show (i, zm_v io v) :: lv_args (if (zm_v io v).category = 2 then i + 2 else i + 1) (vs.map (zm_v io)) = (i, zm_v io v) :: (lv_args (if v.category = 2 then i + 2 else i + 1) vs).map (zm_l io)
    rw [zm_cat, zm_args io]
theorem zm_slen (io : Nat → Nat) : ∀ (vs : List Value), (lg_sl (vs.map (zm_v io))).length = (lg_sl vs).length
  | [] => rfl
  | v :: vs => by
    have h := zm_slen io vs
    have e1 : lg_sl ((v :: vs).map (zm_v io)) = (if (zm_v io v).category = 2 then [Slot.val (zm_v io v), .second] else [.val (zm_v io v)]) ++ lg_sl (vs.map (zm_v io)) := rfl
    have e2 : lg_sl (v :: vs) = (if v.category = 2 then [Slot.val v, .second] else [.val v]) ++ lg_sl vs := rfl
    rw [e1, e2, List.length_append, List.length_append, h, zm_cat]
    split <;> rfl
theorem zm_cs (io : Nat → Nat) (st : List Value) : ((st.map (zm_v io)).map fun v => v.category).sum = (st.map fun v => v.category).sum := by
  rw [List.map_map]
  congr 1
  apply List.map_congr_left
  intro v _
  exact zm_cat _ v
section ZC
variable {l : Launch} {E : zm_E} {V : zm_V} {mc ms : Nat} {Po : Option Value → zm_S → Prop} {Px : String → zm_S → Prop}
/-- a contract from its body -/
theorem zm_of {y : MethodName} {cc : ByteArray} {nL d : Nat} {ret : Option FieldType} {as : List Value} {S : zm_S} (hy : plainName y.cls = true) (hsl : (lg_sl as).length ≤ nL)
    (body : ∀ p e (R : Room) s m args below meth c, R = { frames := d, cells := mc, slots := ms, locals := 64 * d } → zm_X p R s m args meth c y.cls y.name cc nL E V mc ms → meth.sig.returnType = ret → (∀ x ∈ c.exceptionTable.toList, False) →
      zw p l e R s m args below meth c (vx_MQ below (zm_Qc E V Po) (zm_XC E V Px) args s mc ms (fun q => V.2.2.2.1 ≤ q)) nL E V mc ms 0 (lv_args 0 as) [] S mc ms) : zm_Met l E V y (.code y cc nL ret) d as S mc ms Po Px := by
  refine vx_ofW (cc := cc) (maxL := nL) (ret := ret) hy rfl ?_
  intro p e s m args below meth c s₁ B hml hxt hv
  obtain ⟨rfl, hR, hG⟩ := hv
  have hts0 : ∀ w ∈ (Cond.code y cc nL ret :: E.2.2.1), w.before _ s = true := atoms_spec (ws := Cond.code y cc nL ret :: E.2.2.1) B.pre
  have hX : zm_X p (headSpec (Cond.code y cc nL ret :: E.2.2.1) { frames := d, cells := mc, slots := ms, locals := 64 * d }).room s m ((as.map (zm_v (zm_io E V))).toArray) meth c y.cls y.name cc nL E V mc ms :=
    ⟨B.exec, B.bytes, hml, findClass_of_methodNamed B.named, fun w hw => hts0 w (List.mem_cons_of_mem _ hw), B.notSynchronized, (name_of_methodNamed B.named B.method).1, hG, Nat.le_refl _, Nat.le_refl _⟩
  have hl := lv_entry (as.map (zm_v (zm_io E V))) (n := nL) (by rw [zm_slen]; exact hsl)
  rw [lg_entry_eq]
  generalize (lg_sl (as.map (zm_v (zm_io E V))) ++ List.replicate (nL - (lg_sl (as.map (zm_v (zm_io E V)))).length) Slot.unset).toArray = ls at hl ⊢
  rw [zm_args] at hl
  exact body p e _ s m _ below meth c rfl hX B.returns hxt ls s.heap [] 0 0 hR hl va_S.rf (Nat.zero_add _) (Nat.zero_add _)
/-- a contract from its body, with handlers -/
theorem zm_ofH {y : MethodName} {cc : ByteArray} {nL d : Nat} {ret : Option FieldType} {hh : List (Nat × Nat × Nat × Nat)} {as : List Value} {S : zm_S} (hy : plainName y.cls = true) (hsl : (lg_sl as).length ≤ nL)
    (body : ∀ p e (R : Room) s m args below meth c, R = { frames := d, cells := mc, slots := ms, locals := 64 * d } → zm_X p R s m args meth c y.cls y.name cc nL E V mc ms → meth.sig.returnType = ret → c.exceptionTable.toList = tableOf hh →
      zw p l e R s m args below meth c (vx_MQ below (zm_Qc E V Po) (zm_XC E V Px) args s mc ms (fun q => V.2.2.2.1 ≤ q)) nL E V mc ms 0 (lv_args 0 as) [] S mc ms) : zm_Met l E V y (.codeWith y cc nL ret hh) d as S mc ms Po Px := by
  refine vx_ofWH (cc := cc) (maxL := nL) (ret := ret) (hh := hh) hy rfl ?_
  intro p e s m args below meth c s₁ B hml hv
  obtain ⟨rfl, hR, hG⟩ := hv
  have hts0 : ∀ w ∈ (Cond.codeWith y cc nL ret hh :: E.2.2.1), w.before _ s = true := atoms_spec (ws := Cond.codeWith y cc nL ret hh :: E.2.2.1) B.pre
  have hX : zm_X p (headSpec (Cond.codeWith y cc nL ret hh :: E.2.2.1) { frames := d, cells := mc, slots := ms, locals := 64 * d }).room s m ((as.map (zm_v (zm_io E V))).toArray) meth c y.cls y.name cc nL E V mc ms :=
    ⟨B.exec, B.bytes, hml, findClass_of_methodNamed B.named, fun w hw => hts0 w (List.mem_cons_of_mem _ hw), B.notSynchronized, (name_of_methodNamed B.named B.method).1, hG, Nat.le_refl _, Nat.le_refl _⟩
  have hl := lv_entry (as.map (zm_v (zm_io E V))) (n := nL) (by rw [zm_slen]; exact hsl)
  rw [lg_entry_eq]
  generalize (lg_sl (as.map (zm_v (zm_io E V))) ++ List.replicate (nL - (lg_sl (as.map (zm_v (zm_io E V)))).length) Slot.unset).toArray = ls at hl ⊢
  rw [zm_args] at hl
  exact body p e _ s m _ below meth c rfl hX B.returns (vx_table (x := y) B (hts0 _ List.mem_cons_self)) ls s.heap [] 0 0 hR hl va_S.rf (Nat.zero_add _) (Nat.zero_add _)
/-- weaker ends -/
theorem zm_Met.mono {y : MethodName} {w : Cond} {d : Nat} {as : List Value} {S : zm_S} {Po2 : Option Value → zm_S → Prop} {Px2 : String → zm_S → Prop} (h : zm_Met l E V y w d as S mc ms Po Px) (h1 : ∀ v T, Po v T → Po2 v T) (h2 : ∀ X T, Px X T → Px2 X T) : zm_Met l E V y w d as S mc ms Po2 Px2 := by
  intro p e h3 h4 h5 s m args below h6 h7 h8 h9
  obtain ⟨n, o, g1, g2, g3, g4⟩ := h p e h3 h4 h5 s m args below h6 h7 h8 h9
  refine ⟨n, o, g1, g2, g3, ?_⟩
  rcases g4 with ⟨⟨⟨v, S', q1, q2, q3⟩, q4⟩, q5⟩ | ⟨q, q1, X, ce, L, ⟨⟨S', q2, q3⟩, q4⟩, q5⟩
  · exact Or.inl ⟨⟨⟨v, S', q1, h1 _ _ q2, q3⟩, q4⟩, q5⟩
  · exact Or.inr ⟨q, q1, X, ce, L, ⟨⟨S', h2 _ _ q2, q3⟩, q4⟩, q5⟩
end ZC
section ZR
variable {p : Program} {l : Launch} {e : Env} {R : Room} {s : State} {m : MethodId} {args : Array Value} {below : List Frame} {meth : Method} {c : Code} {Q : State → Prop}
variable {own nm : String} {cc : ByteArray} {nL : Nat} {E : zm_E} {V : zm_V} {mc ms : Nat}
variable {pc rc rs : Nat} {lv : List (Nat × Value)} {st : List Value} {S : zm_S} {Po : Option Value → zm_S → Prop} {Px : String → zm_S → Prop}
theorem zw_iret (hX : zm_X p R s m args meth c own nm cc nL E V mc ms) {v : Int32} {ty : FieldType} (hr : meth.sig.returnType = some ty) (hd : decode cc pc = .ok (.ireturn, 1)) (hn : narrow ty (.int v) = .int v) (hp : Po (some (.int v)) S) :
    zw p l e R s m args below meth c (vx_MQ below (zm_Qc E V Po) (zm_XC E V Px) args s mc ms (fun q => V.2.2.2.1 ≤ q)) nL E V mc ms pc lv [.int v] S rc rs := by
  intro ls H locs cells slots hR hl hS e1 e2
  obtain ⟨hx, hb, -, -, -, hlk, -, -, -, -⟩ := hX
  refine W.widen (k := mc) (n := ms) (by omega) (by omega) ?_
  exact vx_ret (W.zret hx hb hr hn (fun t ht _ => ⟨⟨some (.int v), S, rfl, hp, by rw [ht]; exact hR⟩, hS.F ht⟩) (fun q hq => hS.2.2 q hq) hd)
theorem zw_lret (hX : zm_X p R s m args meth c own nm cc nL E V mc ms) {v : Int64} (hr : meth.sig.returnType = some .long) (hd : decode cc pc = .ok (.lreturn, 1)) (hp : Po (some (.long v)) S) :
    zw p l e R s m args below meth c (vx_MQ below (zm_Qc E V Po) (zm_XC E V Px) args s mc ms (fun q => V.2.2.2.1 ≤ q)) nL E V mc ms pc lv [.long v] S rc rs := by
  intro ls H locs cells slots hR hl hS e1 e2
  obtain ⟨hx, hb, -, -, -, hlk, -, -, -, -⟩ := hX
  refine W.widen (k := mc) (n := ms) (by omega) (by omega) ?_
  exact vx_ret (W.lret hx hb hr (fun t ht _ => ⟨⟨some (.long v), S, rfl, hp, by rw [ht]; exact hR⟩, hS.F ht⟩) (fun q hq => hS.2.2 q hq) hd)
theorem zw_vret (hX : zm_X p R s m args meth c own nm cc nL E V mc ms) (hr : meth.sig.returnType = none) (hd : decode cc pc = .ok (.return_, 1)) (hp : Po none S) :
    zw p l e R s m args below meth c (vx_MQ below (zm_Qc E V Po) (zm_XC E V Px) args s mc ms (fun q => V.2.2.2.1 ≤ q)) nL E V mc ms pc lv [] S rc rs := by
  intro ls H locs cells slots hR hl hS e1 e2
  obtain ⟨hx, hb, -, -, -, hlk, -, -, -, -⟩ := hX
  refine W.widen (k := mc) (n := ms) (by omega) (by omega) ?_
  exact vx_ret (W.vret hx hb hr (fun t ht _ => ⟨⟨none, S, rfl, hp, by rw [ht]; exact hR⟩, hS.F ht⟩) (fun q hq => hS.2.2 q hq) hd)
theorem zw_aret (hX : zm_X p R s m args meth c own nm cc nL E V mc ms) {a : Nat} {rt : FieldType} (hr : meth.sig.returnType = some rt) (hrt : (∃ n, rt = .object n) ∨ ∃ t, rt = .array t) (hd : decode cc pc = .ok (.areturn, 1)) (hp : Po (some (.ref a)) S) :
    zw p l e R s m args below meth c (vx_MQ below (zm_Qc E V Po) (zm_XC E V Px) args s mc ms (fun q => V.2.2.2.1 ≤ q)) nL E V mc ms pc lv [.ref a] S rc rs := by
  intro ls H locs cells slots hR hl hS e1 e2
  obtain ⟨hx, hb, -, -, -, hlk, -, -, -, -⟩ := hX
  refine W.widen (k := mc) (n := ms) (by omega) (by omega) ?_
  exact vx_ret (W.aret (v := .ref (zm_io E V a)) hx hb hr hrt (Or.inr ⟨_, rfl⟩) (fun t ht _ => ⟨⟨some (.ref a), S, rfl, hp, by rw [ht]; exact hR⟩, hS.F ht⟩) (fun q hq => hS.2.2 q hq) hd)
/-- something of class X is thrown over the frame at pc -/
def zx (p : Program) (l : Launch) (e : Env) (R : Room) (s : State) (m : MethodId) (args : Array Value) (below : List Frame) (meth : Method) (c : Code) (Q : State → Prop) (nL : Nat) (E : zm_E) (V : zm_V) (mc ms : Nat)
    (pc : Nat) (lv : List (Nat × Value)) (st : List Value) (X : String) (S : zm_S) (rc rs : Nat) : Prop :=
  ∀ (ls : Array Slot) (H : Heap) (locs : List Loc) (cells slots : Nat) (q : Addr) (ce : Cell), zm_R E V S H → lv_has ls nL (lv.map (zm_l (zm_io E V))) → va_S (fun q => V.2.2.2.1 ≤ q) s.heap H locs → cells + rc = mc → slots + rs = ms →
    H[q]? = some ce → ce.vm = .none → s.vm.findClass X = some ce.cls → vx_W p l e R s m args below meth c H locs cells slots Q (F0 m pc ls (st.map (zm_v (zm_io E V)))) q
/-- it goes on to the caller -/
theorem zx_out (hX : zm_X p R s m args meth c own nm cc nL E V mc ms) {X : String} (hxt : ∀ x ∈ c.exceptionTable.toList, False) (hp : Px X S) :
    zx p l e R s m args below meth c (vx_MQ below (zm_Qc E V Po) (zm_XC E V Px) args s mc ms (fun q => V.2.2.2.1 ≤ q)) nL E V mc ms pc lv st X S rc rs := by
  intro ls H locs cells slots q ce hR hl hS e1 e2 hce hcv hcl
  exact vx_out (fun x hx => (hxt x hx).elim) hX.2.2.2.2.2.1 hce hcv hcl (fun t ht _ => ⟨⟨S, hp, by rw [ht]; exact hR⟩, hS.F ht⟩) (fun z hz => hS.2.2 z hz) (by omega) (by omega)
/-- it is caught, and put away into a local -/
theorem zx_catch (hX : zm_X p R s m args meth c own nm cc nL E V mc ms) {X name : String} (pre : List ExceptionTableEntry) (x : ExceptionTableEntry) (suf : List ExceptionTableEntry) (hsplit : c.exceptionTable.toList = pre ++ x :: suf)
    (hpass : ∀ z ∈ pre, covers z pc = false ∨ (z.catchType ≠ 0 ∧ ∃ n : String, Cond.classLink own z.catchType n ∈ E.2.2.1 ∧ va_Nc X n s)) (hx : covers x pc = true) (h0 : x.catchType ≠ 0) (hlink : Cond.classLink own x.catchType name ∈ E.2.2.1) (hcast : Cond.castable X name ∈ E.2.2.2.1)
    {i h9 k9 : Nat} (hh9 : x.handlerPc = h9) (hn : i < nL) (hd : decode cc h9 = .ok (.astore i, 2) ∨ ∃ n : Fin 4, (n : Nat) = i ∧ decode cc h9 = .ok (.astore_n n, 1)) (hk9 : (decode cc h9).toOption.map (fun q => q.2) = some k9)
    (kk : zw p l e R s m args below meth c Q nL E V mc ms (h9 + k9) (lv.filter (fun q => !(q.1 == i) && !(q.1 + 1 == i && q.2.category == 2))) [] S rc rs) :
    zx p l e R s m args below meth c Q nL E V mc ms pc lv st X S rc rs := by
  intro ls H locs cells slots q ce hR hl hS e1 e2 hce hcv hcl
  obtain ⟨hx', hb, -, hown, hts, -, -, hG, -⟩ := hX
  refine vx_catch hown pre x suf hsplit (fun z hz => (hpass z hz).elim Or.inl (fun ⟨a1, n, a2, a3⟩ => Or.inr ⟨a1, n, hts _ a2, a3⟩)) hx h0 (hts _ hlink) (va_Nw.use rfl (hG.2.1 _ hcast)) hce hcv hcl ?_
  rw [hh9]
  have fin : ∀ ls2 : Array Slot, lv_has ls2 nL ((i, Value.ref q) :: ((lv.map (zm_l (zm_io E V))).filter (fun q => !(q.1 == i) && !(q.1 + 1 == i && q.2.category == 2)))) → W p l e R s m args below meth c H locs cells slots Q (F0 m (h9 + k9) ls2 []) := by
    intro ls2 hl2
    refine kk ls2 H locs cells slots hR ⟨hl2.1, hl2.2.1, fun z hz => hl2.2.2 z (List.mem_cons_of_mem _ ?_)⟩ hS e1 e2
    have h7 := zm_lsm (zm_io E V) i (.int 0) lv
    unfold zm_ls at h7
    rw [List.map_cons] at h7
    rw [(List.cons.inj h7).2]
    exact hz
  rcases hd with hd | ⟨n, hni, hd⟩
  · have hk : k9 = 2 := by rw [hd] at hk9; exact (Option.some.inj hk9).symm
    subst hk
    exact lv_astore hx' hb hd hl hn rfl fin
  · have hk : k9 = 1 := by rw [hd] at hk9; exact (Option.some.inj hk9).symm
    subst hk
    subst hni
    exact lv_astore_n hx' hb hd rfl hl hn rfl fin
/-- behind a run of a callee -/
theorem zw_run {n : Nat} {ls : Array Slot} {H : Heap} {locs : List Loc} {cells slots mc2 ms2 : Nat} {st0 : List Value} {a : Array Value} {Po2 : Option Value → zm_S → Prop} {Px2 : String → zm_S → Prop}
    (hr : vx_Run p l e R s m args below meth c H locs cells slots mc2 ms2 (F0 m pc ls st0) (st.map (zm_v (zm_io E V))) (zm_Qc E V Po2 a) (zm_XC E V Px2) (fun q => V.2.2.2.1 ≤ q)) (hl : lv_has ls nL (lv.map (zm_l (zm_io E V)))) (hS : va_S (fun q => V.2.2.2.1 ≤ q) s.heap H locs) (e1 : cells + rc = mc) (e2 : slots + rs = ms) (h1 : mc2 ≤ rc) (h2 : ms2 ≤ rs)
    (kk : ∀ (v : Option Value) (S' : zm_S), Po2 v S' → zw p l e R s m args below meth c Q nL E V mc ms (pc + 3) lv (v.toList ++ st) S' (rc - mc2) (rs - ms2))
    (kx : ∀ (X : String) (S' : zm_S), Px2 X S' → zx p l e R s m args below meth c Q nL E V mc ms pc lv st X S' (rc - mc2) (rs - ms2)) : W p l e R s m args below meth c H locs cells slots Q (F0 m pc ls st0) := by
  intro T hT Xs
  rcases hr T hT Xs with ⟨v, st₀, t, T', L, h0, X', hL, g1, g2, ⟨⟨v2, S', hv, hp, hR'⟩, hF⟩, stp⟩ | ⟨q, st₀, t, T', L, X, ce, h0, X', hL, g1, g2, ⟨⟨S', hp, hR'⟩, hF⟩, hce, hcv, hcl, stp⟩
  · have hv2 : v = v2.map (zm_v (zm_io E V)) := by cases hv; rfl
    subst hv2
    obtain ⟨k1, k2, k3⟩ := vx_keep h0 g1 hS (fun q _ h => h) (fun q h => h) hL hF
    obtain ⟨t2, a1, b1⟩ := kk v2 S' hp ls T'.heap (locs ++ L) (cells + mc2) (slots + ms2) (by rw [g1]; exact hR') hl k3 (by omega) (by omega) T' rfl X'
    have h9 : (v2.toList ++ st).map (zm_v (zm_io E V)) = (v2.map (zm_v (zm_io E V))).toList ++ st.map (zm_v (zm_io E V)) := by
      cases v2 <;> rfl
    rw [h9] at a1
    exact ⟨t2, stp t2 a1, b1⟩
  · obtain ⟨k1, k2, k3⟩ := vx_keep h0 g1 hS (fun q _ h => h) (fun q h => h) hL hF
    obtain ⟨t2, a1, b1⟩ := kx X S' hp ls T'.heap (locs ++ L) (cells + mc2) (slots + ms2) q ce (by rw [g1]; exact hR') hl k3 (by omega) (by omega) (by rw [g1]; exact hce) hcv hcl T' rfl X'
    exact ⟨t2, stp.trans a1, b1⟩
/-- what a call's words say: the callee's code, its class ready, the link, its arity -/
def zm_L (E : zm_E) (own : String) (index : Nat) (y : MethodName) (w : Cond) (n : Nat) : Prop := w ∈ E.2.2.1 ∧ Cond.initialized y.cls ∈ E.2.2.1 ∧ Cond.methodLink own index y ∈ E.2.2.1 ∧ y.cls ≠ "java/lang/invoke/MethodHandle" ∧ y.cls ≠ "java/lang/invoke/VarHandle" ∧ (parseMethodDescriptor y.desc).map (fun d => d.parameters.length) = some n
theorem zm_L.good {own : String} {index n : Nat} {y : MethodName} {w : Cond} (hE : zm_ok E) (h : zm_L E own index y w n) : GoodIn E.2.2.1 (w :: E.2.2.1) := fun z hz => by
  rcases List.mem_cons.mp hz with rfl | hz
  · exact ⟨h.1, good_of_word (hE.1 _ h.1)⟩
  · exact ⟨hz, good_of_word (hE.1 _ hz)⟩
theorem zw_callS (hX : zm_X p R s m args meth c own nm cc nL E V mc ms) (hE : zm_ok E) {y : MethodName} {bytes : ByteArray} {maxL index d n mc2 ms2 : Nat} {ret : Option FieldType} {as st0 : List Value} {Po2 : Option Value → zm_S → Prop} {Px2 : String → zm_S → Prop}
    (hM : zm_Met l E V y (.code y bytes maxL ret) d as S mc2 ms2 Po2 Px2) (hL : zm_L E own index y (.code y bytes maxL ret) n) (hs : Cond.static y ∈ E.2.2.1) (hd : decode cc pc = .ok (.invokestatic index, 3)) (hn : as.length = n) (hst : st0 = as.reverse ++ st) (hw : (st.map fun v => v.category).sum ≤ 8)
    (hR1 : d + 1 ≤ R.frames) (hR2 : 8 + (maxL + 11) + 64 * d ≤ R.locals) (h1 : mc2 ≤ rc) (h2 : ms2 ≤ rs)
    (kk : ∀ (v : Option Value) (S' : zm_S), Po2 v S' → zw p l e R s m args below meth c Q nL E V mc ms (pc + 3) lv (v.toList ++ st) S' (rc - mc2) (rs - ms2))
    (kx : ∀ (X : String) (S' : zm_S), Px2 X S' → zx p l e R s m args below meth c Q nL E V mc ms pc lv st X S' (rc - mc2) (rs - ms2)) : zw p l e R s m args below meth c Q nL E V mc ms pc lv st0 S rc rs := by
  intro ls H locs cells slots hR hl hS e1 e2
  obtain ⟨hx, hb, hml, hown, hts, -, -, hG, hmc, hms⟩ := hX
  subst hst
  refine zw_run (n := n) (vx_runS (As := as.map (zm_v (zm_io E V))) (rest := st.map (zm_v (zm_io E V))) ⟨hx, hb, hml, hown, hts⟩ hM
    ⟨callB_of n hts (hL.good hE) rfl rfl rfl (hts _ hL.2.1) (hts _ hL.2.2.1) ⟨hL.2.2.2.1, hL.2.2.2.2.1, hL.2.2.2.2.2⟩ ⟨hR1, hR2⟩, hts _ hs⟩
    ⟨zm_blind hE, fun U hU hW => ⟨rfl, by rw [hU]; exact hR, zm_G.warm hE hW hU hS hG⟩⟩ rfl (by rw [List.length_map]; exact hn) hl.1 (by show ((as.reverse ++ st).map _) = _; rw [List.map_append, List.map_reverse]) (by rw [zm_cs]; show 2 * 0 + _ ≤ 8; omega) hd ⟨by omega, by omega⟩) hl hS e1 e2 h1 h2 kk kx
theorem zw_callSH (hX : zm_X p R s m args meth c own nm cc nL E V mc ms) (hE : zm_ok E) {y : MethodName} {bytes : ByteArray} {maxL index d n mc2 ms2 : Nat} {ret : Option FieldType} {hh : List (Nat × Nat × Nat × Nat)} {as st0 : List Value} {Po2 : Option Value → zm_S → Prop} {Px2 : String → zm_S → Prop}
    (hM : zm_Met l E V y (.codeWith y bytes maxL ret hh) d as S mc2 ms2 Po2 Px2) (hL : zm_L E own index y (.codeWith y bytes maxL ret hh) n) (hs : Cond.static y ∈ E.2.2.1) (hd : decode cc pc = .ok (.invokestatic index, 3)) (hn : as.length = n) (hst : st0 = as.reverse ++ st) (hw : (st.map fun v => v.category).sum ≤ 8)
    (hR1 : d + 1 ≤ R.frames) (hR2 : 8 + (maxL + 11) + 64 * d ≤ R.locals) (h1 : mc2 ≤ rc) (h2 : ms2 ≤ rs)
    (kk : ∀ (v : Option Value) (S' : zm_S), Po2 v S' → zw p l e R s m args below meth c Q nL E V mc ms (pc + 3) lv (v.toList ++ st) S' (rc - mc2) (rs - ms2))
    (kx : ∀ (X : String) (S' : zm_S), Px2 X S' → zx p l e R s m args below meth c Q nL E V mc ms pc lv st X S' (rc - mc2) (rs - ms2)) : zw p l e R s m args below meth c Q nL E V mc ms pc lv st0 S rc rs := by
  intro ls H locs cells slots hR hl hS e1 e2
  obtain ⟨hx, hb, hml, hown, hts, -, -, hG, hmc, hms⟩ := hX
  subst hst
  have hG2 : GoodIn E.2.2.1 (va_wsS own index y (.codeWith y bytes maxL ret hh :: E.2.2.1)) := fun z hz => by
    rcases List.mem_append.mp hz with hz | hz
    · have hz : z = Cond.methodLink own index y ∨ z = Cond.static y ∨ z = Cond.initialized y.cls := by simpa using hz
      rcases hz with rfl | rfl | rfl
      · exact ⟨hL.2.2.1, good_of_word (hE.1 _ hL.2.2.1)⟩
      · exact ⟨hs, good_of_word (hE.1 _ hs)⟩
      · exact ⟨hL.2.1, good_of_word (hE.1 _ hL.2.1)⟩
    · exact hL.good hE z hz
  refine zw_run (n := n) (vx_runSX (As := as.map (zm_v (zm_io E V))) (rest := st.map (zm_v (zm_io E V))) ⟨hx, hb, hml, hown, hts⟩ hM
    (vx_cwSW n hts hG2 rfl rfl rfl ⟨hL.2.2.2.1, hL.2.2.2.2.1, hL.2.2.2.2.2⟩ ⟨hR1, hR2⟩)
    ⟨zm_blind hE, fun U hU hW => ⟨rfl, by rw [hU]; exact hR, zm_G.warm hE hW hU hS hG⟩⟩ rfl (by rw [List.length_map]; exact hn) hl.1 (by show ((as.reverse ++ st).map _) = _; rw [List.map_append, List.map_reverse]) (by rw [zm_cs]; show 2 * 0 + _ ≤ 8; omega) hd ⟨by omega, by omega⟩) hl hS e1 e2 h1 h2 kk kx
/-- the receiver, as the machine has it -/
theorem zm_rec {H : Heap} (hG : zm_G E V s) (hR : zm_R E V S H) {a ci : Nat} {fs : List Value} {C : String} {T : u_T} {N : Nat} (ha : E.2.2.2.2.2.2 ≤ a ∧ a < S.2) (hc : S.1 a = .inl (ci, fs)) (hcl : E.1[ci]? = some (C, T, N)) : ∃ cellB : Cell, H[zm_io E V a]? = some cellB ∧ cellB.vm.isStatics = false ∧ s.vm.findClass C = some cellB.cls := by
  have h4 := hR.2.2.2.2 a ha.1 ha.2
  rw [hc] at h4
  obtain ⟨cell, q1, q2, q3, q4⟩ := h4 _ hcl
  obtain ⟨hSl, hfc, kC, hkC, hkind⟩ := hG.1.1 ci _ hcl
  exact ⟨cell, q1, by rw [q3]; rfl, by rw [q2]; exact hfc⟩
theorem zw_callV (hX : zm_X p R s m args meth c own nm cc nL E V mc ms) (hE : zm_ok E) {y : MethodName} {bytes : ByteArray} {maxL index d n mc2 ms2 a ci : Nat} {ret : Option FieldType} {as st0 fs : List Value} {T : u_T} {N : Nat} {Po2 : Option Value → zm_S → Prop} {Px2 : String → zm_S → Prop}
    (hM : zm_Met l E V y (.code y bytes maxL ret) d (.ref a :: as) S mc2 ms2 Po2 Px2) (hL : zm_L E own index y (.code y bytes maxL ret) n) (hi : Cond.instanceMethod y ∈ E.2.2.1) (hs : Cond.selects y.cls y y ∈ E.2.2.1) (hcl : E.1[ci]? = some (y.cls, T, N)) (hd : decode cc pc = .ok (.invokevirtual index, 3)) (ha : E.2.2.2.2.2.2 ≤ a ∧ a < S.2) (hc : S.1 a = .inl (ci, fs)) (hn : as.length = n) (hst : st0 = as.reverse ++ .ref a :: st) (hw : (st.map fun v => v.category).sum ≤ 8)
    (hR1 : d + 1 ≤ R.frames) (hR2 : 8 + (maxL + 11) + 64 * d ≤ R.locals) (h1 : mc2 ≤ rc) (h2 : ms2 ≤ rs)
    (kk : ∀ (v : Option Value) (S' : zm_S), Po2 v S' → zw p l e R s m args below meth c Q nL E V mc ms (pc + 3) lv (v.toList ++ st) S' (rc - mc2) (rs - ms2))
    (kx : ∀ (X : String) (S' : zm_S), Px2 X S' → zx p l e R s m args below meth c Q nL E V mc ms pc lv st X S' (rc - mc2) (rs - ms2)) : zw p l e R s m args below meth c Q nL E V mc ms pc lv st0 S rc rs := by
  intro ls H locs cells slots hR hl hS e1 e2
  obtain ⟨hx, hb, hml, hown, hts, -, -, hG, hmc, hms⟩ := hX
  subst hst
  refine zw_run (n := n) (vx_runV (b := zm_io E V a) (As := as.map (zm_v (zm_io E V))) (rest := st.map (zm_v (zm_io E V))) ⟨hx, hb, hml, hown, hts⟩ hM
    ⟨callB_of n hts (hL.good hE) rfl rfl rfl (hts _ hL.2.1) (hts _ hL.2.2.1) ⟨hL.2.2.2.1, hL.2.2.2.2.1, hL.2.2.2.2.2⟩ ⟨hR1, hR2⟩, hts _ hi, hts _ hs⟩
    ⟨zm_blind hE, zm_rec hG hR ha hc hcl, fun U hU hW => ⟨rfl, by rw [hU]; exact hR, zm_G.warm hE hW hU hS hG⟩⟩ rfl (by rw [List.length_map]; exact hn) hl.1 (by show ((as.reverse ++ .ref a :: st).map _) = _; rw [List.map_append, List.map_reverse]; rfl) (by rw [zm_cs]; show 2 * 0 + _ ≤ 8; omega) hd ⟨by omega, by omega⟩) hl hS e1 e2 h1 h2 kk kx
theorem zw_callI (hX : zm_X p R s m args meth c own nm cc nL E V mc ms) (hE : zm_ok E) {y : MethodName} {bytes : ByteArray} {maxL index d n mc2 ms2 a : Nat} {as st0 : List Value} {Po2 : Option Value → zm_S → Prop} {Px2 : String → zm_S → Prop}
    (hM : zm_Met l E V y (.code y bytes maxL none) d (.ref a :: as) S mc2 ms2 Po2 Px2) (hL : zm_L E own index y (.code y bytes maxL none) n) (hi : Cond.instanceMethod y ∈ E.2.2.1) (hy1 : y.name = "<init>") (hd : decode cc pc = .ok (.invokespecial index, 3)) (hn : as.length = n) (hst : st0 = as.reverse ++ .ref a :: st) (hw : (st.map fun v => v.category).sum ≤ 8)
    (hR1 : d + 1 ≤ R.frames) (hR2 : 8 + (maxL + 11) + 64 * d ≤ R.locals) (h1 : mc2 ≤ rc) (h2 : ms2 ≤ rs)
    (kk : ∀ (v : Option Value) (S' : zm_S), Po2 v S' → zw p l e R s m args below meth c Q nL E V mc ms (pc + 3) lv (v.toList ++ st) S' (rc - mc2) (rs - ms2))
    (kx : ∀ (X : String) (S' : zm_S), Px2 X S' → zx p l e R s m args below meth c Q nL E V mc ms pc lv st X S' (rc - mc2) (rs - ms2)) : zw p l e R s m args below meth c Q nL E V mc ms pc lv st0 S rc rs := by
  intro ls H locs cells slots hR hl hS e1 e2
  obtain ⟨hx, hb, hml, hown, hts, -, -, hG, hmc, hms⟩ := hX
  subst hst
  refine zw_run (n := n) (vx_runI (b := zm_io E V a) (As := as.map (zm_v (zm_io E V))) (rest := st.map (zm_v (zm_io E V))) ⟨hx, hb, hml, hown, hts⟩ hM
    ⟨callB_of n hts (hL.good hE) rfl rfl rfl (hts _ hL.2.1) (hts _ hL.2.2.1) ⟨hL.2.2.2.1, hL.2.2.2.2.1, hL.2.2.2.2.2⟩ ⟨hR1, hR2⟩, hy1, hts _ hi⟩
    ⟨zm_blind hE, fun U hU hW => ⟨rfl, by rw [hU]; exact hR, zm_G.warm hE hW hU hS hG⟩⟩ rfl (by rw [List.length_map]; exact hn) hl.1 (by show ((as.reverse ++ .ref a :: st).map _) = _; rw [List.map_append, List.map_reverse]; rfl) (by rw [zm_cs]; show 2 * 0 + _ ≤ 8; omega) hd ⟨by omega, by omega⟩) hl hS e1 e2 h1 h2 kk kx
/-- the same, of a private constructor of a nest mate -/
def zm_LN (E : zm_E) (own : String) (index : Nat) (y : MethodName) (w : Cond) (n : Nat) : Prop := w ∈ E.2.2.1 ∧ Cond.initialized y.cls ∈ E.2.2.1 ∧ (∃ host : String, Cond.methodLinkNest own index y host ∈ E.2.2.2.1) ∧ y.cls ≠ "java/lang/invoke/MethodHandle" ∧ y.cls ≠ "java/lang/invoke/VarHandle" ∧ (parseMethodDescriptor y.desc).map (fun d => d.parameters.length) = some n
theorem zw_callIN (hX : zm_X p R s m args meth c own nm cc nL E V mc ms) (hE : zm_ok E) {y : MethodName} {bytes : ByteArray} {maxL index d n mc2 ms2 a : Nat} {as st0 : List Value} {Po2 : Option Value → zm_S → Prop} {Px2 : String → zm_S → Prop}
    (hM : zm_Met l E V y (.code y bytes maxL none) d (.ref a :: as) S mc2 ms2 Po2 Px2) (hL : zm_LN E own index y (.code y bytes maxL none) n) (hi : Cond.instanceMethod y ∈ E.2.2.1) (hy1 : y.name = "<init>") (hd : decode cc pc = .ok (.invokespecial index, 3)) (hn : as.length = n) (hst : st0 = as.reverse ++ .ref a :: st) (hw : (st.map fun v => v.category).sum ≤ 8)
    (hR1 : d + 1 ≤ R.frames) (hR2 : 8 + (maxL + 11) + 64 * d ≤ R.locals) (h1 : mc2 ≤ rc) (h2 : ms2 ≤ rs)
    (kk : ∀ (v : Option Value) (S' : zm_S), Po2 v S' → zw p l e R s m args below meth c Q nL E V mc ms (pc + 3) lv (v.toList ++ st) S' (rc - mc2) (rs - ms2))
    (kx : ∀ (X : String) (S' : zm_S), Px2 X S' → zx p l e R s m args below meth c Q nL E V mc ms pc lv st X S' (rc - mc2) (rs - ms2)) : zw p l e R s m args below meth c Q nL E V mc ms pc lv st0 S rc rs := by
  intro ls H locs cells slots hR hl hS e1 e2
  obtain ⟨hx, hb, hml, hown, hts, -, -, hG, hmc, hms⟩ := hX
  subst hst
  obtain ⟨host, hh⟩ := hL.2.2.1
  have hGd : GoodIn E.2.2.1 (.code y bytes maxL none :: E.2.2.1) := fun z hz => by
    rcases List.mem_cons.mp hz with rfl | hz
    · exact ⟨hL.1, good_of_word (hE.1 _ hL.1)⟩
    · exact ⟨hz, good_of_word (hE.1 _ hz)⟩
  refine zw_run (n := n) (vx_runIN (b := zm_io E V a) (As := as.map (zm_v (zm_io E V))) (rest := st.map (zm_v (zm_io E V))) ⟨hx, hb, hml, hown, hts⟩ hM
    ⟨va_cnB n hts hGd rfl rfl rfl (hG.2.1 _ hh) (hts _ hL.2.1) ⟨hL.2.2.2.1, hL.2.2.2.2.1, hL.2.2.2.2.2⟩ ⟨hR1, hR2⟩, hy1, hts _ hi⟩
    ⟨zm_blind hE, fun U hU hW => ⟨rfl, by rw [hU]; exact hR, zm_G.warm hE hW hU hS hG⟩⟩ rfl (by rw [List.length_map]; exact hn) hl.1 (by show ((as.reverse ++ .ref a :: st).map _) = _; rw [List.map_append, List.map_reverse]; rfl) (by rw [zm_cs]; show 2 * 0 + _ ≤ 8; omega) hd ⟨by omega, by omega⟩) hl hS e1 e2 h1 h2 kk kx
end ZR

