/-! ===== THE SMALL MACHINE as functions: how a function's end becomes a contract's end; calls, once more, by the callee's function ===== -/
def zo_i (out : Int32 × zm_S) : Option Value → zm_S → Prop := fun v T => v = some (.int out.1) ∧ T = out.2
def zo_l (out : Int64 × zm_S) : Option Value → zm_S → Prop := fun v T => v = some (.long out.1) ∧ T = out.2
def zo_r (out : Nat × zm_S) : Option Value → zm_S → Prop := fun v T => v = some (.ref out.1) ∧ T = out.2
def zo_v (out : Unit × zm_S) : Option Value → zm_S → Prop := fun v T => v = none ∧ T = out.2
def zo_x : String → zm_S → Prop := fun _ _ => False
def zq_i (out : (Int32 ⊕ String) × zm_S) : Option Value → zm_S → Prop := fun v T => ∃ r, out = (.inl r, T) ∧ v = some (.int r)
def zq_l (out : (Int64 ⊕ String) × zm_S) : Option Value → zm_S → Prop := fun v T => ∃ r, out = (.inl r, T) ∧ v = some (.long r)
def zq_v (out : (Unit ⊕ String) × zm_S) : Option Value → zm_S → Prop := fun v T => (∃ r, out = (.inl r, T)) ∧ v = none
def zq_x {α : Type} (out : (α ⊕ String) × zm_S) : String → zm_S → Prop := fun X T => out = (.inr X, T)
section ZE
variable {p : Program} {l : Launch} {e : Env} {R : Room} {s : State} {m : MethodId} {args : Array Value} {below : List Frame} {meth : Method} {c : Code} {Q : State → Prop}
variable {own nm : String} {cc : ByteArray} {nL : Nat} {V : zm_V} {mc ms : Nat}
variable {pc rc rs : Nat} {lv : List (Nat × Value)} {st : List Value} {S : zm_S}
variable {y : MethodName} {bytes : ByteArray} {maxL index d n mc2 ms2 a ci N : Nat} {ret : Option FieldType} {as st0 fs : List Value} {T : u_T}
/-- a static call; what comes behind it is said by its end -/
theorem zc_S (hX : zm_X p R s m args meth c own nm cc nL zk_E V mc ms) {Po2 : Option Value → zm_S → Prop} {Px2 : String → zm_S → Prop} (hM : zm_Met l zk_E V y (.code y bytes maxL ret) d as S mc2 ms2 Po2 Px2) (hL : zm_L zk_E own index y (.code y bytes maxL ret) n ∧ Cond.static y ∈ zk_E.2.2.1) (hd : decode cc pc = .ok (.invokestatic index, 3)) (hst : st0 = as.reverse ++ st ∧ as.length = n ∧ (st.map fun v => v.category).sum ≤ 8)
    (hR : d + 1 ≤ R.frames ∧ 8 + (maxL + 11) + 64 * d ≤ R.locals) (h1 : mc2 ≤ rc ∧ ms2 ≤ rs)
    (kk : ∀ (v : Option Value) (S' : zm_S), Po2 v S' → zw p l e R s m args below meth c Q nL zk_E V mc ms (pc + 3) lv (v.toList ++ st) S' (rc - mc2) (rs - ms2))
    (kx : ∀ (X : String) (S' : zm_S), Px2 X S' → zx p l e R s m args below meth c Q nL zk_E V mc ms pc lv st X S' (rc - mc2) (rs - ms2)) : zw p l e R s m args below meth c Q nL zk_E V mc ms pc lv st0 S rc rs :=
  zw_callS hX zk_ok hM hL.1 hL.2 hd hst.2.1 hst.1 hst.2.2 hR.1 hR.2 h1.1 h1.2 kk kx
/-- a call of a method of an object -/
theorem zc_V (hX : zm_X p R s m args meth c own nm cc nL zk_E V mc ms) {Po2 : Option Value → zm_S → Prop} {Px2 : String → zm_S → Prop} (hM : zm_Met l zk_E V y (.code y bytes maxL ret) d (.ref a :: as) S mc2 ms2 Po2 Px2) (hL : zm_L zk_E own index y (.code y bytes maxL ret) n ∧ Cond.instanceMethod y ∈ zk_E.2.2.1 ∧ Cond.selects y.cls y y ∈ zk_E.2.2.1) (hcl : zk_E.1[ci]? = some (y.cls, T, N)) (hd : decode cc pc = .ok (.invokevirtual index, 3)) (g : (6 ≤ a ∧ a < S.2) ∧ ∃ fs, S.1 a = .inl (ci, fs)) (hst : st0 = as.reverse ++ .ref a :: st ∧ as.length = n ∧ (st.map fun v => v.category).sum ≤ 8)
    (hR : d + 1 ≤ R.frames ∧ 8 + (maxL + 11) + 64 * d ≤ R.locals) (h1 : mc2 ≤ rc ∧ ms2 ≤ rs)
    (kk : ∀ (v : Option Value) (S' : zm_S), Po2 v S' → zw p l e R s m args below meth c Q nL zk_E V mc ms (pc + 3) lv (v.toList ++ st) S' (rc - mc2) (rs - ms2))
    (kx : ∀ (X : String) (S' : zm_S), Px2 X S' → zx p l e R s m args below meth c Q nL zk_E V mc ms pc lv st X S' (rc - mc2) (rs - ms2)) : zw p l e R s m args below meth c Q nL zk_E V mc ms pc lv st0 S rc rs := by
  obtain ⟨ha, fs, hc⟩ := g
  exact zw_callV hX zk_ok hM hL.1 hL.2.1 hL.2.2 hcl hd (by rw [zk_k0]; exact ha) hc hst.2.1 hst.1 hst.2.2 hR.1 hR.2 h1.1 h1.2 kk kx
theorem zi_spec {u : Unit} (h : zi S a ci = some u) : (6 ≤ a ∧ a < S.2) ∧ ∃ fs, S.1 a = .inl (ci, fs) := by
  unfold zi at h
  split at h
  · rename_i ha
    refine ⟨ha, ?_⟩
    split at h
    · rename_i o ho
      split at h
      · rename_i hc
        exact ⟨o.2, by rw [ho, ← hc]⟩
      · cases h
    · cases h
  · cases h
theorem zc_Vi (hX : zm_X p R s m args meth c own nm cc nL zk_E V mc ms) {out : Int32 × zm_S} {u : Unit} (g : zi S a ci = some u) (hM : zm_Met l zk_E V y (.code y bytes maxL ret) d (.ref a :: as) S 0 0 (zo_i out) zo_x) (hL : zm_L zk_E own index y (.code y bytes maxL ret) n ∧ Cond.instanceMethod y ∈ zk_E.2.2.1 ∧ Cond.selects y.cls y y ∈ zk_E.2.2.1) (hcl : zk_E.1[ci]? = some (y.cls, T, N)) (hd : decode cc pc = .ok (.invokevirtual index, 3)) (hst : st0 = as.reverse ++ .ref a :: st ∧ as.length = n ∧ (st.map fun v => v.category).sum ≤ 8)
    (hR : d + 1 ≤ R.frames ∧ 8 + (maxL + 11) + 64 * d ≤ R.locals) (kk : zw p l e R s m args below meth c Q nL zk_E V mc ms (pc + 3) lv (.int out.1 :: st) out.2 rc rs) : zw p l e R s m args below meth c Q nL zk_E V mc ms pc lv st0 S rc rs :=
  zc_V hX hM hL hcl hd (zi_spec g) hst hR ⟨Nat.zero_le _, Nat.zero_le _⟩ (fun v S' h => by obtain ⟨rfl, rfl⟩ := h; exact kk) (fun _ _ h => h.elim)
theorem zc_Vl (hX : zm_X p R s m args meth c own nm cc nL zk_E V mc ms) {out : Int64 × zm_S} {u : Unit} (g : zi S a ci = some u) (hM : zm_Met l zk_E V y (.code y bytes maxL ret) d (.ref a :: as) S 0 0 (zo_l out) zo_x) (hL : zm_L zk_E own index y (.code y bytes maxL ret) n ∧ Cond.instanceMethod y ∈ zk_E.2.2.1 ∧ Cond.selects y.cls y y ∈ zk_E.2.2.1) (hcl : zk_E.1[ci]? = some (y.cls, T, N)) (hd : decode cc pc = .ok (.invokevirtual index, 3)) (hst : st0 = as.reverse ++ .ref a :: st ∧ as.length = n ∧ (st.map fun v => v.category).sum ≤ 8)
    (hR : d + 1 ≤ R.frames ∧ 8 + (maxL + 11) + 64 * d ≤ R.locals) (kk : zw p l e R s m args below meth c Q nL zk_E V mc ms (pc + 3) lv (.long out.1 :: st) out.2 rc rs) : zw p l e R s m args below meth c Q nL zk_E V mc ms pc lv st0 S rc rs :=
  zc_V hX hM hL hcl hd (zi_spec g) hst hR ⟨Nat.zero_le _, Nat.zero_le _⟩ (fun v S' h => by obtain ⟨rfl, rfl⟩ := h; exact kk) (fun _ _ h => h.elim)
theorem zc_Vr (hX : zm_X p R s m args meth c own nm cc nL zk_E V mc ms) {out : Nat × zm_S} {u : Unit} (g : zi S a ci = some u) (hM : zm_Met l zk_E V y (.code y bytes maxL ret) d (.ref a :: as) S 0 0 (zo_r out) zo_x) (hL : zm_L zk_E own index y (.code y bytes maxL ret) n ∧ Cond.instanceMethod y ∈ zk_E.2.2.1 ∧ Cond.selects y.cls y y ∈ zk_E.2.2.1) (hcl : zk_E.1[ci]? = some (y.cls, T, N)) (hd : decode cc pc = .ok (.invokevirtual index, 3)) (hst : st0 = as.reverse ++ .ref a :: st ∧ as.length = n ∧ (st.map fun v => v.category).sum ≤ 8)
    (hR : d + 1 ≤ R.frames ∧ 8 + (maxL + 11) + 64 * d ≤ R.locals) (kk : zw p l e R s m args below meth c Q nL zk_E V mc ms (pc + 3) lv (.ref out.1 :: st) out.2 rc rs) : zw p l e R s m args below meth c Q nL zk_E V mc ms pc lv st0 S rc rs :=
  zc_V hX hM hL hcl hd (zi_spec g) hst hR ⟨Nat.zero_le _, Nat.zero_le _⟩ (fun v S' h => by obtain ⟨rfl, rfl⟩ := h; exact kk) (fun _ _ h => h.elim)
theorem zc_Vv (hX : zm_X p R s m args meth c own nm cc nL zk_E V mc ms) {out : Unit × zm_S} {u : Unit} (g : zi S a ci = some u) (hM : zm_Met l zk_E V y (.code y bytes maxL ret) d (.ref a :: as) S 0 0 (zo_v out) zo_x) (hL : zm_L zk_E own index y (.code y bytes maxL ret) n ∧ Cond.instanceMethod y ∈ zk_E.2.2.1 ∧ Cond.selects y.cls y y ∈ zk_E.2.2.1) (hcl : zk_E.1[ci]? = some (y.cls, T, N)) (hd : decode cc pc = .ok (.invokevirtual index, 3)) (hst : st0 = as.reverse ++ .ref a :: st ∧ as.length = n ∧ (st.map fun v => v.category).sum ≤ 8)
    (hR : d + 1 ≤ R.frames ∧ 8 + (maxL + 11) + 64 * d ≤ R.locals) (kk : zw p l e R s m args below meth c Q nL zk_E V mc ms (pc + 3) lv st out.2 rc rs) : zw p l e R s m args below meth c Q nL zk_E V mc ms pc lv st0 S rc rs :=
  zc_V hX hM hL hcl hd (zi_spec g) hst hR ⟨Nat.zero_le _, Nat.zero_le _⟩ (fun v S' h => by obtain ⟨rfl, rfl⟩ := h; exact kk) (fun _ _ h => h.elim)
theorem zc_Si (hX : zm_X p R s m args meth c own nm cc nL zk_E V mc ms) {out : Int32 × zm_S} (hM : zm_Met l zk_E V y (.code y bytes maxL ret) d as S 0 0 (zo_i out) zo_x) (hL : zm_L zk_E own index y (.code y bytes maxL ret) n ∧ Cond.static y ∈ zk_E.2.2.1) (hd : decode cc pc = .ok (.invokestatic index, 3)) (hst : st0 = as.reverse ++ st ∧ as.length = n ∧ (st.map fun v => v.category).sum ≤ 8)
    (hR : d + 1 ≤ R.frames ∧ 8 + (maxL + 11) + 64 * d ≤ R.locals) (kk : zw p l e R s m args below meth c Q nL zk_E V mc ms (pc + 3) lv (.int out.1 :: st) out.2 rc rs) : zw p l e R s m args below meth c Q nL zk_E V mc ms pc lv st0 S rc rs :=
  zc_S hX hM hL hd hst hR ⟨Nat.zero_le _, Nat.zero_le _⟩ (fun v S' h => by obtain ⟨rfl, rfl⟩ := h; exact kk) (fun _ _ h => h.elim)
theorem zc_Sl (hX : zm_X p R s m args meth c own nm cc nL zk_E V mc ms) {out : Int64 × zm_S} (hM : zm_Met l zk_E V y (.code y bytes maxL ret) d as S 0 0 (zo_l out) zo_x) (hL : zm_L zk_E own index y (.code y bytes maxL ret) n ∧ Cond.static y ∈ zk_E.2.2.1) (hd : decode cc pc = .ok (.invokestatic index, 3)) (hst : st0 = as.reverse ++ st ∧ as.length = n ∧ (st.map fun v => v.category).sum ≤ 8)
    (hR : d + 1 ≤ R.frames ∧ 8 + (maxL + 11) + 64 * d ≤ R.locals) (kk : zw p l e R s m args below meth c Q nL zk_E V mc ms (pc + 3) lv (.long out.1 :: st) out.2 rc rs) : zw p l e R s m args below meth c Q nL zk_E V mc ms pc lv st0 S rc rs :=
  zc_S hX hM hL hd hst hR ⟨Nat.zero_le _, Nat.zero_le _⟩ (fun v S' h => by obtain ⟨rfl, rfl⟩ := h; exact kk) (fun _ _ h => h.elim)
theorem zc_Sr (hX : zm_X p R s m args meth c own nm cc nL zk_E V mc ms) {out : Nat × zm_S} (hM : zm_Met l zk_E V y (.code y bytes maxL ret) d as S 0 0 (zo_r out) zo_x) (hL : zm_L zk_E own index y (.code y bytes maxL ret) n ∧ Cond.static y ∈ zk_E.2.2.1) (hd : decode cc pc = .ok (.invokestatic index, 3)) (hst : st0 = as.reverse ++ st ∧ as.length = n ∧ (st.map fun v => v.category).sum ≤ 8)
    (hR : d + 1 ≤ R.frames ∧ 8 + (maxL + 11) + 64 * d ≤ R.locals) (kk : zw p l e R s m args below meth c Q nL zk_E V mc ms (pc + 3) lv (.ref out.1 :: st) out.2 rc rs) : zw p l e R s m args below meth c Q nL zk_E V mc ms pc lv st0 S rc rs :=
  zc_S hX hM hL hd hst hR ⟨Nat.zero_le _, Nat.zero_le _⟩ (fun v S' h => by obtain ⟨rfl, rfl⟩ := h; exact kk) (fun _ _ h => h.elim)
theorem zc_Sv (hX : zm_X p R s m args meth c own nm cc nL zk_E V mc ms) {out : Unit × zm_S} (hM : zm_Met l zk_E V y (.code y bytes maxL ret) d as S 0 0 (zo_v out) zo_x) (hL : zm_L zk_E own index y (.code y bytes maxL ret) n ∧ Cond.static y ∈ zk_E.2.2.1) (hd : decode cc pc = .ok (.invokestatic index, 3)) (hst : st0 = as.reverse ++ st ∧ as.length = n ∧ (st.map fun v => v.category).sum ≤ 8)
    (hR : d + 1 ≤ R.frames ∧ 8 + (maxL + 11) + 64 * d ≤ R.locals) (kk : zw p l e R s m args below meth c Q nL zk_E V mc ms (pc + 3) lv st out.2 rc rs) : zw p l e R s m args below meth c Q nL zk_E V mc ms pc lv st0 S rc rs :=
  zc_S hX hM hL hd hst hR ⟨Nat.zero_le _, Nat.zero_le _⟩ (fun v S' h => by obtain ⟨rfl, rfl⟩ := h; exact kk) (fun _ _ h => h.elim)
end ZE

