/-! ===== decode through a window of the code ===== -/
section ZD
variable {B C : ByteArray} {o : Nat}
def zd_sub (B C : ByteArray) (o : Nat) : Prop := ∀ k b, C.data.toList[k]? = some b → B.data.toList[k + o]? = some b
theorem zd_sub_of (m : Nat) (h : (B.data.toList.drop o).take m = C.data.toList) : zd_sub B C o := by
  intro k b hk
  rw [← h, List.getElem?_take] at hk
  split at hk
  · rw [List.getElem?_drop, Nat.add_comm] at hk
    exact hk
  · cases hk
def zd (B C : ByteArray) (o : Nat) {α : Type} (r : Decoder α) : Prop := ∀ q a q', r C q = Except.ok (a, q') → r B (q + o) = Except.ok (a, q' + o)
theorem zd_pure {α : Type} (x : α) : zd B C o (pure x : Decoder α) := by
  intro q a q' h
  cases h
  rfl
theorem zd_throw {α : Type} (e : DecodeError) : zd B C o (throw e : Decoder α) := by
  intro q a q' h
  cases h
theorem zd_bind {α β : Type} {r : Decoder α} {f : α → Decoder β} (h1 : zd B C o r) (h2 : ∀ a, zd B C o (f a)) : zd B C o (r >>= f) := by
  intro q b q' h
  have e1 : (r >>= f) C q = (match r C q with
    | .ok (a, p) => f a C p
    | .error e => .error e) := by
    show (ReaderT.bind r f) C q = _
    unfold ReaderT.bind
    show (StateT.bind (r C) (fun a => f a C)) q = _
    unfold StateT.bind
    show Except.bind (r C q) _ = _
    cases r C q <;> rfl
  have e2 : (r >>= f) B (q + o) = (match r B (q + o) with
    | .ok (a, p) => f a B p
    | .error e => .error e) := by
    show (ReaderT.bind r f) B (q + o) = _
    unfold ReaderT.bind
    show (StateT.bind (r B) (fun a => f a B)) (q + o) = _
    unfold StateT.bind
    show Except.bind (r B (q + o)) _ = _
    cases r B (q + o) <;> rfl
  rw [e1] at h
  rw [e2]
  cases hr : r C q with
  | error e => rw [hr] at h; cases h
  | ok v =>
    obtain ⟨a, p⟩ := v
    rw [hr] at h
    rw [h1 q a p hr]
    exact h2 a p b q' h
theorem zd_map {α β : Type} {r : Decoder α} (f : α → β) (h1 : zd B C o r) : zd B C o (f <$> r) := by
  have e : (f <$> r) = (r >>= fun a => pure (f a)) := by
    funext x y
    show (ReaderT.run (f <$> r) x) y = (ReaderT.run (r >>= fun a => pure (f a)) x) y
    simp
  rw [e]
  exact zd_bind h1 (fun a => zd_pure _)
theorem zd_u1 (h : zd_sub B C o) : zd B C o (Reader.u1 : Decoder Nat) := by
  intro q a q' hq
  have key : ∀ (A : ByteArray) (p : Nat), (Reader.u1 : Decoder Nat) A p = (if h : p < A.size then Except.ok (A[p].toNat, p + 1) else Except.error (HasTruncated.truncated p)) := by
    intro A p
    unfold Reader.u1
    by_cases hp : p < A.size
    · rw [dif_pos hp]
      show (if h : p < A.size then _ else _ : Decoder Nat) A p = _
      rw [dif_pos hp]
      rfl
    · rw [dif_neg hp]
      show (if h : p < A.size then _ else _ : Decoder Nat) A p = _
      rw [dif_neg hp]
      rfl
  rw [key] at hq
  rw [key]
  split at hq
  · rename_i hp
    cases hq
    have h1 : C.data.toList[q]? = some C[q] := by
      rw [Array.getElem?_toList]
      exact Array.getElem?_eq_getElem hp
    have h2 := h q _ h1
    rw [Array.getElem?_toList] at h2
    obtain ⟨h3, h4⟩ := Array.getElem?_eq_some_iff.mp h2
    have h5 : q + o < B.size := h3
    rw [dif_pos h5]
    have h6 : B[q + o] = C[q] := h4
    rw [h6]
    congr 2
    omega
  · cases hq
theorem zd_u2 (h : zd_sub B C o) : zd B C o (Reader.u2 : Decoder Nat) := zd_bind (zd_u1 h) (fun _ => zd_bind (zd_u1 h) (fun _ => zd_pure _))
theorem zd_u4 (h : zd_sub B C o) : zd B C o (Reader.u4 : Decoder Nat) := zd_bind (zd_u2 h) (fun _ => zd_bind (zd_u2 h) (fun _ => zd_pure _))
theorem zd_s1 (h : zd_sub B C o) : zd B C o (Reader.s1 : Decoder Int) := zd_map _ (zd_u1 h)
theorem zd_s2 (h : zd_sub B C o) : zd B C o (Reader.s2 : Decoder Int) := zd_map _ (zd_u2 h)
theorem zd_s4 (h : zd_sub B C o) : zd B C o (Reader.s4 : Decoder Int) := zd_map _ (zd_u4 h)
theorem zd_bind1 {α β : Type} {r : Decoder α} {f : α → Decoder β} (h1 : zd B C o r) {q : Nat} (h2 : ∀ a p, r C q = Except.ok (a, p) → zd B C o (f a)) : ∀ b q', (r >>= f) C q = Except.ok (b, q') → (r >>= f) B (q + o) = Except.ok (b, q' + o) := by
  intro b q' h
  have e : ∀ (A : ByteArray) (p : Nat), (r >>= f) A p = (match r A p with
    | .ok (a, p) => f a A p
    | .error e => .error e) := by
    intro A p
    show (ReaderT.bind r f) A p = _
    unfold ReaderT.bind
    show (StateT.bind (r A) (fun a => f a A)) p = _
    unfold StateT.bind
    show Except.bind (r A p) _ = _
    cases r A p <;> rfl
  rw [e] at h
  rw [e]
  cases hr : r C q with
  | error e => rw [hr] at h; cases h
  | ok v =>
    obtain ⟨a, p⟩ := v
    rw [hr] at h
    rw [h1 q a p hr]
    exact h2 a p hr p b q' h
set_option maxHeartbeats 4000000 in
set_option maxRecDepth 1000000 in
theorem zd_instr (h : zd_sub B C o) (pc : Nat) {q : Nat} (hn : ∀ op p, (Reader.u1 : Decoder Nat) C q = Except.ok (op, p) → op ≠ 170 ∧ op ≠ 171 ∧ op ≠ 185 ∧ op ≠ 186 ∧ op ≠ 196) : ∀ a q', Decoder.instr pc C q = Except.ok (a, q') → Decoder.instr pc B (q + o) = Except.ok (a, q' + o) := by
  unfold Decoder.instr
  refine zd_bind1 (zd_u1 h) (fun op p hop => ?_)
  have hn := hn op p hop
  split <;> first
    | exact zd_pure _
    | exact zd_bind (zd_u2 h) (fun _ => zd_pure _)
    | exact zd_bind (zd_u1 h) (fun _ => zd_pure _)
    | exact zd_bind (zd_s2 h) (fun _ => zd_pure _)
    | exact zd_bind (zd_s1 h) (fun _ => zd_pure _)
    | exact zd_bind (zd_s4 h) (fun _ => zd_pure _)
    | exact zd_bind (zd_u1 h) (fun _ => zd_bind (zd_s1 h) (fun _ => zd_pure _))
    | exact zd_throw _
    | exact absurd rfl hn.1
    | exact absurd rfl hn.2.1
    | exact absurd rfl hn.2.2.1
    | exact absurd rfl hn.2.2.2.1
    | exact absurd rfl hn.2.2.2.2
    | (unfold Decoder.newarray; refine zd_bind (zd_u1 h) (fun _ => ?_); split <;> first | exact zd_pure _ | exact zd_throw _)
    | (unfold Decoder.multianewarray; refine zd_bind (zd_u2 h) (fun _ => zd_bind (zd_u1 h) (fun _ => ?_)); split <;> first | exact zd_pure _ | exact zd_throw _ | exact zd_bind (zd_pure _) (fun _ => zd_pure _) | exact zd_bind (zd_throw _) (fun _ => zd_pure _))
def zd_ok (C : ByteArray) (q : Nat) : Bool := match (Reader.u1 : Decoder Nat) C q with
  | .ok (op, _) => decide (op ≠ 170 ∧ op ≠ 171 ∧ op ≠ 185 ∧ op ≠ 186 ∧ op ≠ 196)
  | _ => true
def zd_fit (C : ByteArray) (pc q : Nat) (a : Instr) (n : Nat) : Bool := zd_ok C q && decide ((Decoder.instr pc).runAt C q = Except.ok (a, q + n))
theorem zd_dec (h : zd_sub B C o) {pc q n : Nat} {a : Instr} (hpc : q + o = pc) (hd : zd_fit C pc q a n = true) : decode B pc = Except.ok (a, n) := by
  subst hpc
  unfold zd_fit at hd
  rw [Bool.and_eq_true, decide_eq_true_eq] at hd
  obtain ⟨h1, h2⟩ := hd
  have h3 : Decoder.instr (q + o) B (q + o) = Except.ok (a, q + n + o) := zd_instr h (q + o) (fun op p hop => by
    unfold zd_ok at h1
    rw [hop] at h1
    exact of_decide_eq_true h1) a (q + n) h2
  unfold decode
  have h4 : (Decoder.instr (q + o)).runAt B (q + o) = Except.ok (a, q + n + o) := h3
  rw [h4]
  show Except.ok (a, q + n + o - (q + o)) = _
  rw [show q + n + o - (q + o) = n by omega]
end ZD
section ZE
variable {p : Program} {l : Launch} {e : Env} {R : Room} {s : State} {m : MethodId} {args : Array Value} {below : List Frame} {meth : Method} {c : Code} {Q : State → Prop}
variable {own nm : String} {cc : ByteArray} {nL : Nat} {V : zm_V} {mc ms : Nat}
variable {pc rc rs : Nat} {lv : List (Nat × Value)} {st : List Value} {S : zm_S}
variable {y : MethodName} {bytes : ByteArray} {maxL index d n mc2 ms2 : Nat} {ret : Option FieldType} {as st0 : List Value} {hh : List (Nat × Nat × Nat × Nat)}
/-- a static call of a method with handlers -/
theorem zc_SH (hX : zm_X p R s m args meth c own nm cc nL zk_E V mc ms) {Po2 : Option Value → zm_S → Prop} {Px2 : String → zm_S → Prop} (hM : zm_Met l zk_E V y (.codeWith y bytes maxL ret hh) d as S mc2 ms2 Po2 Px2) (hL : zm_L zk_E own index y (.codeWith y bytes maxL ret hh) n ∧ Cond.static y ∈ zk_E.2.2.1) (hd : decode cc pc = .ok (.invokestatic index, 3)) (hst : st0 = as.reverse ++ st ∧ as.length = n ∧ (st.map fun v => v.category).sum ≤ 8)
    (hR : d + 1 ≤ R.frames ∧ 8 + (maxL + 11) + 64 * d ≤ R.locals) (h1 : mc2 ≤ rc ∧ ms2 ≤ rs)
    (kk : ∀ (v : Option Value) (S' : zm_S), Po2 v S' → zw p l e R s m args below meth c Q nL zk_E V mc ms (pc + 3) lv (v.toList ++ st) S' (rc - mc2) (rs - ms2))
    (kx : ∀ (X : String) (S' : zm_S), Px2 X S' → zx p l e R s m args below meth c Q nL zk_E V mc ms pc lv st X S' (rc - mc2) (rs - ms2)) : zw p l e R s m args below meth c Q nL zk_E V mc ms pc lv st0 S rc rs :=
  zw_callSH hX zk_ok hM hL.1 hL.2 hd hst.2.1 hst.1 hst.2.2 hR.1 hR.2 h1.1 h1.2 kk kx
end ZE

