/-! ===== THE SMALL MACHINE as functions: reads and writes that say none where they cannot be ===== -/
theorem zk_k0 : zk_E.2.2.2.2.2.2 = 6 := by simp only [zk_E]
theorem zb_some {α β : Type} {x : Option α} {f : α → Option β} {o : β} (h : x.bind f = some o) : ∃ v, x = some v ∧ f v = some o := by
  cases x with
  | none => cases h
  | some v => exact ⟨v, rfl, h⟩
theorem zg_spec {S : zm_S} {a ci k : Nat} {v : Value} (h : zg S a ci k = some v) : (6 ≤ a ∧ a < S.2) ∧ ∃ fs, S.1 a = .inl (ci, fs) ∧ fs[k]? = some v := by
  unfold zg at h
  split at h
  · rename_i ha
    refine ⟨ha, ?_⟩
    split at h
    · rename_i o ho
      split at h
      · rename_i hc
        refine ⟨o.2, ?_, h⟩
        rw [ho, ← hc]
      · cases h
    · cases h
  · cases h
theorem zg_i_spec {S : zm_S} {a ci k : Nat} {v : Int32} (h : zg_i S a ci k = some v) : zg S a ci k = some (.int v) := by
  unfold zg_i at h
  split at h
  · rename_i w hw
    cases h
    exact hw
  · cases h
theorem zg_l_spec {S : zm_S} {a ci k : Nat} {v : Int64} (h : zg_l S a ci k = some v) : zg S a ci k = some (.long v) := by
  unfold zg_l at h
  split at h
  · rename_i w hw
    cases h
    exact hw
  · cases h
theorem zg_r_spec {S : zm_S} {a ci k : Nat} {v : Nat} (h : zg_r S a ci k = some v) : zg S a ci k = some (.ref v) := by
  unfold zg_r at h
  split at h
  · rename_i w hw
    cases h
    exact hw
  · cases h
theorem zp_spec {S S' : zm_S} {a ci k : Nat} {v : Value} (h : zp S a ci k v = some S') : (6 ≤ a ∧ a < S.2) ∧ ∃ fs, S.1 a = .inl (ci, fs) ∧ k < fs.length ∧ S' = (zm_up S.1 a (.inl (ci, fs.set k v)), S.2) := by
  unfold zp at h
  split at h
  · rename_i ha
    refine ⟨ha, ?_⟩
    split at h
    · rename_i o ho
      split at h
      · rename_i hc
        cases h
        refine ⟨o.2, ?_, hc.2, rfl⟩
        rw [ho, ← hc.1]
      · cases h
    · cases h
  · cases h
theorem zp_z_spec {S S' : zm_S} {a ci k : Nat} {x : Int32} (h : zp_z S a ci k x = some S') : (x = 0 ∨ x = 1) ∧ zp S a ci k (.int x) = some S' := by
  unfold zp_z at h
  split at h
  · rename_i hx
    exact ⟨hx, h⟩
  · cases h
theorem za_x_spec {S : zm_S} {t a : Nat} {i v : Int32} (h : za_x S t a i = some v) : a < S.2 ∧ ∃ n f, S.1 a = .inr (t, n, .inl f) ∧ vp_in i n ∧ v = f i.toNatClampNeg := by
  unfold za_x at h
  split at h
  · rename_i ha
    refine ⟨ha, ?_⟩
    split at h
    · rename_i t2 n f ho
      split at h
      · rename_i ht
        subst ht
        split at h
        · cases h
        · rename_i hi
          cases h
          exact ⟨n, f, ho, hi, rfl⟩
      · cases h
    · cases h
  · cases h
theorem za_l_spec {S : zm_S} {a : Nat} {i : Int32} {v : Int64} (h : za_l S a i = some v) : a < S.2 ∧ ∃ n f, S.1 a = .inr (1, n, .inr (.inl f)) ∧ vp_in i n ∧ v = f i.toNatClampNeg := by
  unfold za_l at h
  split at h
  · rename_i ha
    refine ⟨ha, ?_⟩
    split at h
    · rename_i t2 n f ho
      split at h
      · rename_i ht
        subst ht
        split at h
        · cases h
        · rename_i hi
          cases h
          exact ⟨n, f, ho, hi, rfl⟩
      · cases h
    · cases h
  · cases h
theorem za_r_spec {S : zm_S} {a : Nat} {i : Int32} {v : Nat} (h : za_r S a i = some v) : a < S.2 ∧ ∃ t n f, (t = 4 ∨ t = 5) ∧ S.1 a = .inr (t, n, .inr (.inr f)) ∧ vp_in i n ∧ f i.toNatClampNeg = some v := by
  unfold za_r at h
  split at h
  · rename_i ha
    refine ⟨ha, ?_⟩
    split at h
    · rename_i t2 n f ho
      split at h
      · rename_i ht
        split at h
        · cases h
        · rename_i hi
          exact ⟨t2, n, f, ht, ho, hi, h⟩
      · cases h
    · cases h
  · cases h
theorem za_n_spec {S : zm_S} {a : Nat} {v : Int32} (h : za_n S a = some v) : a < S.2 ∧ ∃ t n z, t < 6 ∧ S.1 a = .inr (t, n, z) ∧ Int32.ofNat n = v := by
  unfold za_n at h
  split at h
  · rename_i ha
    refine ⟨ha, ?_⟩
    split at h
    · cases h
    · rename_i o ho
      split at h
      · rename_i ht
        cases h
        exact ⟨o.1, o.2.1, o.2.2, ht, ho, rfl⟩
      · cases h
  · cases h
theorem zs_i_spec {S S' : zm_S} {a : Nat} {i x : Int32} (h : zs_i S a i x = some S') : (6 ≤ a ∧ a < S.2) ∧ ∃ n f, S.1 a = .inr (0, n, .inl f) ∧ vp_in i n ∧ S' = (zm_up S.1 a (.inr (0, n, .inl (upd f i.toNatClampNeg x))), S.2) := by
  unfold zs_i at h
  split at h
  · rename_i ha
    refine ⟨ha, ?_⟩
    split at h
    · rename_i t2 n f ho
      split at h
      · rename_i ht
        subst ht
        split at h
        · cases h
        · rename_i hi
          cases h
          exact ⟨n, f, ho, hi, rfl⟩
      · cases h
    · cases h
  · cases h
theorem zs_c_spec {S S' : zm_S} {a : Nat} {i x : Int32} (h : zs_c S a i x = some S') : (6 ≤ a ∧ a < S.2) ∧ ∃ n f, S.1 a = .inr (3, n, .inl f) ∧ vp_in i n ∧ S' = (zm_up S.1 a (.inr (3, n, .inl (upd f i.toNatClampNeg (vp_nar .char x)))), S.2) := by
  unfold zs_c at h
  split at h
  · rename_i ha
    refine ⟨ha, ?_⟩
    split at h
    · rename_i t2 n f ho
      split at h
      · rename_i ht
        subst ht
        split at h
        · cases h
        · rename_i hi
          cases h
          exact ⟨n, f, ho, hi, rfl⟩
      · cases h
    · cases h
  · cases h
theorem zs_z_spec {S S' : zm_S} {a : Nat} {i x : Int32} (h : zs_z S a i x = some S') : (6 ≤ a ∧ a < S.2) ∧ (x = 0 ∨ x = 1) ∧ ∃ n f, S.1 a = .inr (2, n, .inl f) ∧ vp_in i n ∧ S' = (zm_up S.1 a (.inr (2, n, .inl (upd f i.toNatClampNeg x))), S.2) := by
  unfold zs_z at h
  split at h
  · rename_i ha
    refine ⟨ha, ?_⟩
    split at h
    · rename_i t2 n f ho
      split at h
      · rename_i ht
        obtain ⟨ht, hx⟩ := ht
        subst ht
        split at h
        · cases h
        · rename_i hi
          cases h
          exact ⟨hx, n, f, ho, hi, rfl⟩
      · cases h
    · cases h
  · cases h
theorem zs_l_spec {S S' : zm_S} {a : Nat} {i : Int32} {x : Int64} (h : zs_l S a i x = some S') : (6 ≤ a ∧ a < S.2) ∧ ∃ n f, S.1 a = .inr (1, n, .inr (.inl f)) ∧ vp_in i n ∧ S' = (zm_up S.1 a (.inr (1, n, .inr (.inl (vp_updL f i.toNatClampNeg x)))), S.2) := by
  unfold zs_l at h
  split at h
  · rename_i ha
    refine ⟨ha, ?_⟩
    split at h
    · rename_i t2 n f ho
      split at h
      · rename_i ht
        subst ht
        split at h
        · cases h
        · rename_i hi
          cases h
          exact ⟨n, f, ho, hi, rfl⟩
      · cases h
    · cases h
  · cases h
theorem zn_z {x : Int32} (h : x = 0 ∨ x = 1) : narrow .boolean (.int x) = .int x := by
  rcases h with rfl | rfl <;> rfl
theorem zf_z {x : Int32} (h : x = 0 ∨ x = 1) : fits .boolean (.int x) = true := by
  rcases h with rfl | rfl <;> decide
theorem zs_nil {P : Nat × Value → Prop} : ∀ q ∈ ([] : List (Nat × Value)), P q := fun _ h => absurd h List.not_mem_nil
section ZF
variable {p : Program} {l : Launch} {e : Env} {R : Room} {s : State} {m : MethodId} {args : Array Value} {below : List Frame} {meth : Method} {c : Code} {Q : State → Prop}
variable {own nm : String} {cc : ByteArray} {nL : Nat} {V : zm_V} {mc ms : Nat}
variable {pc rc rs : Nat} {lv : List (Nat × Value)} {st : List Value} {S S' : zm_S}
/-- fewer locals -/
theorem zw_sub {lv' : List (Nat × Value)} (h : ∀ q ∈ lv', zm_lk q.1 lv = some q.2) (k : zw p l e R s m args below meth c Q nL zk_E V mc ms pc lv' st S rc rs) : zw p l e R s m args below meth c Q nL zk_E V mc ms pc lv st S rc rs := by
  intro ls H locs cells slots hR hl hS e1 e2
  refine k ls H locs cells slots hR ⟨hl.1, hl.2.1, fun q hq => ?_⟩ hS e1 e2
  obtain ⟨z, hz, rfl⟩ := List.mem_map.mp hq
  exact hl.2.2 _ (List.mem_map.mpr ⟨(z.1, z.2), zm_lk_mem (h z hz), rfl⟩)
theorem zw_geti (hX : zm_X p R s m args meth c own nm cc nL zk_E V mc ms) {index ci k a : Nat} {v : Int32} (hF : zm_F zk_E own index ci k) (hd : decode cc pc = .ok (.getfield index, 3)) (g : zg_i S a ci k = some v) (kk : zw p l e R s m args below meth c Q nL zk_E V mc ms (pc + 3) lv (.int v :: st) S rc rs) : zw p l e R s m args below meth c Q nL zk_E V mc ms pc lv (.ref a :: st) S rc rs := by
  obtain ⟨ha, fs, h1, h2⟩ := zg_spec (zg_i_spec g)
  exact zw_get hX hF hd (by rw [zk_k0]; exact ha) h1 h2 kk
theorem zw_getl (hX : zm_X p R s m args meth c own nm cc nL zk_E V mc ms) {index ci k a : Nat} {v : Int64} (hF : zm_F zk_E own index ci k) (hd : decode cc pc = .ok (.getfield index, 3)) (g : zg_l S a ci k = some v) (kk : zw p l e R s m args below meth c Q nL zk_E V mc ms (pc + 3) lv (.long v :: st) S rc rs) : zw p l e R s m args below meth c Q nL zk_E V mc ms pc lv (.ref a :: st) S rc rs := by
  obtain ⟨ha, fs, h1, h2⟩ := zg_spec (zg_l_spec g)
  exact zw_get hX hF hd (by rw [zk_k0]; exact ha) h1 h2 kk
theorem zw_getr (hX : zm_X p R s m args meth c own nm cc nL zk_E V mc ms) {index ci k a v : Nat} (hF : zm_F zk_E own index ci k) (hd : decode cc pc = .ok (.getfield index, 3)) (g : zg_r S a ci k = some v) (kk : zw p l e R s m args below meth c Q nL zk_E V mc ms (pc + 3) lv (.ref v :: st) S rc rs) : zw p l e R s m args below meth c Q nL zk_E V mc ms pc lv (.ref a :: st) S rc rs := by
  obtain ⟨ha, fs, h1, h2⟩ := zg_spec (zg_r_spec g)
  exact zw_get hX hF hd (by rw [zk_k0]; exact ha) h1 h2 kk
theorem zw_getNi (hX : zm_X p R s m args meth c own nm cc nL zk_E V mc ms) {index ci k a : Nat} {v : Int32} (hF : zm_FN zk_E own index ci k) (hd : decode cc pc = .ok (.getfield index, 3)) (g : zg_i S a ci k = some v) (kk : zw p l e R s m args below meth c Q nL zk_E V mc ms (pc + 3) lv (.int v :: st) S rc rs) : zw p l e R s m args below meth c Q nL zk_E V mc ms pc lv (.ref a :: st) S rc rs := by
  obtain ⟨ha, fs, h1, h2⟩ := zg_spec (zg_i_spec g)
  exact zw_getN hX hF hd (by rw [zk_k0]; exact ha) h1 h2 kk
theorem zw_getNl (hX : zm_X p R s m args meth c own nm cc nL zk_E V mc ms) {index ci k a : Nat} {v : Int64} (hF : zm_FN zk_E own index ci k) (hd : decode cc pc = .ok (.getfield index, 3)) (g : zg_l S a ci k = some v) (kk : zw p l e R s m args below meth c Q nL zk_E V mc ms (pc + 3) lv (.long v :: st) S rc rs) : zw p l e R s m args below meth c Q nL zk_E V mc ms pc lv (.ref a :: st) S rc rs := by
  obtain ⟨ha, fs, h1, h2⟩ := zg_spec (zg_l_spec g)
  exact zw_getN hX hF hd (by rw [zk_k0]; exact ha) h1 h2 kk
theorem zw_getNr (hX : zm_X p R s m args meth c own nm cc nL zk_E V mc ms) {index ci k a v : Nat} (hF : zm_FN zk_E own index ci k) (hd : decode cc pc = .ok (.getfield index, 3)) (g : zg_r S a ci k = some v) (kk : zw p l e R s m args below meth c Q nL zk_E V mc ms (pc + 3) lv (.ref v :: st) S rc rs) : zw p l e R s m args below meth c Q nL zk_E V mc ms pc lv (.ref a :: st) S rc rs := by
  obtain ⟨ha, fs, h1, h2⟩ := zg_spec (zg_r_spec g)
  exact zw_getN hX hF hd (by rw [zk_k0]; exact ha) h1 h2 kk
/-- a store into a field: v of a type that takes it -/
theorem zw_putv (hX : zm_X p R s m args meth c own nm cc nL zk_E V mc ms) {index ci k a : Nat} {v : Value} {ty : FieldType} {o2 : String} (hF : zm_F zk_E own index ci k) (hT : zm_T zk_E o2 ci k ty false) (hd : decode cc pc = .ok (.putfield index, 3)) (hn : narrow ty v = v) (hfit : fits ty v = true) (g : zp S a ci k v = some S') (kk : zw p l e R s m args below meth c Q nL zk_E V mc ms (pc + 3) lv st S' rc rs) : zw p l e R s m args below meth c Q nL zk_E V mc ms pc lv (v :: .ref a :: st) S rc rs := by
  obtain ⟨ha, fs, h1, h2, rfl⟩ := zp_spec g
  exact zw_put hX hF hT hd (by rw [zk_k0]; exact ha) h1 h2 hn hfit kk
theorem zw_putvN (hX : zm_X p R s m args meth c own nm cc nL zk_E V mc ms) {index ci k a : Nat} {v : Value} {ty : FieldType} {o2 : String} (hF : zm_FN zk_E own index ci k) (hT : zm_T zk_E o2 ci k ty false) (hd : decode cc pc = .ok (.putfield index, 3)) (hn : narrow ty v = v) (hfit : fits ty v = true) (g : zp S a ci k v = some S') (kk : zw p l e R s m args below meth c Q nL zk_E V mc ms (pc + 3) lv st S' rc rs) : zw p l e R s m args below meth c Q nL zk_E V mc ms pc lv (v :: .ref a :: st) S rc rs := by
  obtain ⟨ha, fs, h1, h2, rfl⟩ := zp_spec g
  exact zw_putN hX hF hT hd (by rw [zk_k0]; exact ha) h1 h2 hn hfit kk
theorem zw_putvF (hX : zm_X p R s m args meth c own "<init>" cc nL zk_E V mc ms) {index ci k a : Nat} {v : Value} {ty : FieldType} (hF : zm_F zk_E own index ci k) (hT : zm_T zk_E own ci k ty true) (hd : decode cc pc = .ok (.putfield index, 3)) (hn : narrow ty v = v) (hfit : fits ty v = true) (g : zp S a ci k v = some S') (kk : zw p l e R s m args below meth c Q nL zk_E V mc ms (pc + 3) lv st S' rc rs) : zw p l e R s m args below meth c Q nL zk_E V mc ms pc lv (v :: .ref a :: st) S rc rs := by
  obtain ⟨ha, fs, h1, h2, rfl⟩ := zp_spec g
  exact zw_putF hX hF hT hd (by rw [zk_k0]; exact ha) h1 h2 hn hfit kk
theorem zw_len (hX : zm_X p R s m args meth c own nm cc nL zk_E V mc ms) {a : Nat} {v : Int32} (hd : decode cc pc = .ok (.arraylength, 1)) (g : za_n S a = some v) (kk : zw p l e R s m args below meth c Q nL zk_E V mc ms (pc + 1) lv (.int v :: st) S rc rs) : zw p l e R s m args below meth c Q nL zk_E V mc ms pc lv (.ref a :: st) S rc rs := by
  obtain ⟨ha, t, n, z, ht, h1, h2⟩ := za_n_spec g
  have h3 : ∃ ty : FieldType, zk_E.2.1[t]? = some ty := by
    match t, ht with
    | 0, _ => exact ⟨_, rfl⟩
    | 1, _ => exact ⟨_, rfl⟩
    | 2, _ => exact ⟨_, rfl⟩
    | 3, _ => exact ⟨_, rfl⟩
    | 4, _ => exact ⟨_, rfl⟩
    | 5, _ => exact ⟨_, rfl⟩
    | t + 6, h => exact absurd h (by omega)
  obtain ⟨ty, h3⟩ := h3
  exact zw_alen hX h3 hd ha h1 h2 kk
theorem zw_xi (hX : zm_X p R s m args meth c own nm cc nL zk_E V mc ms) {a : Nat} {i v : Int32} (hd : decode cc pc = .ok (.iaload, 1)) (g : za_x S 0 a i = some v) (kk : zw p l e R s m args below meth c Q nL zk_E V mc ms (pc + 1) lv (.int v :: st) S rc rs) : zw p l e R s m args below meth c Q nL zk_E V mc ms pc lv (.int i :: .ref a :: st) S rc rs := by
  obtain ⟨ha, n, f, h1, h2, rfl⟩ := za_x_spec g
  exact zw_iald hX rfl hd ha h1 h2 kk
theorem zw_xz (hX : zm_X p R s m args meth c own nm cc nL zk_E V mc ms) {a : Nat} {i v : Int32} (hd : decode cc pc = .ok (.baload, 1)) (g : za_x S 2 a i = some v) (kk : zw p l e R s m args below meth c Q nL zk_E V mc ms (pc + 1) lv (.int v :: st) S rc rs) : zw p l e R s m args below meth c Q nL zk_E V mc ms pc lv (.int i :: .ref a :: st) S rc rs := by
  obtain ⟨ha, n, f, h1, h2, rfl⟩ := za_x_spec g
  exact zw_zald hX rfl hd ha h1 h2 kk
theorem zw_xc (hX : zm_X p R s m args meth c own nm cc nL zk_E V mc ms) {a : Nat} {i v : Int32} (hd : decode cc pc = .ok (.caload, 1)) (g : za_x S 3 a i = some v) (kk : zw p l e R s m args below meth c Q nL zk_E V mc ms (pc + 1) lv (.int v :: st) S rc rs) : zw p l e R s m args below meth c Q nL zk_E V mc ms pc lv (.int i :: .ref a :: st) S rc rs := by
  obtain ⟨ha, n, f, h1, h2, rfl⟩ := za_x_spec g
  exact zw_cald hX rfl hd ha h1 h2 kk
theorem zw_xl (hX : zm_X p R s m args meth c own nm cc nL zk_E V mc ms) {a : Nat} {i : Int32} {v : Int64} (hd : decode cc pc = .ok (.laload, 1)) (g : za_l S a i = some v) (kk : zw p l e R s m args below meth c Q nL zk_E V mc ms (pc + 1) lv (.long v :: st) S rc rs) : zw p l e R s m args below meth c Q nL zk_E V mc ms pc lv (.int i :: .ref a :: st) S rc rs := by
  obtain ⟨ha, n, f, h1, h2, rfl⟩ := za_l_spec g
  exact zw_lald hX rfl hd ha h1 h2 kk
theorem zw_xr (hX : zm_X p R s m args meth c own nm cc nL zk_E V mc ms) {a v : Nat} {i : Int32} (hd : decode cc pc = .ok (.aaload, 1)) (g : za_r S a i = some v) (kk : zw p l e R s m args below meth c Q nL zk_E V mc ms (pc + 1) lv (.ref v :: st) S rc rs) : zw p l e R s m args below meth c Q nL zk_E V mc ms pc lv (.int i :: .ref a :: st) S rc rs := by
  obtain ⟨ha, t, n, f, ht, h1, h2, h3⟩ := za_r_spec g
  rcases ht with rfl | rfl
  · exact zw_aald hX (ty := .array .int) rfl rfl hd ha h1 h2 h3 kk
  · exact zw_aald hX (ty := .array .long) rfl rfl hd ha h1 h2 h3 kk
theorem zw_si (hX : zm_X p R s m args meth c own nm cc nL zk_E V mc ms) {a : Nat} {i x : Int32} (hd : decode cc pc = .ok (.iastore, 1)) (g : zs_i S a i x = some S') (kk : zw p l e R s m args below meth c Q nL zk_E V mc ms (pc + 1) lv st S' rc rs) : zw p l e R s m args below meth c Q nL zk_E V mc ms pc lv (.int x :: .int i :: .ref a :: st) S rc rs := by
  obtain ⟨ha, n, f, h1, h2, rfl⟩ := zs_i_spec g
  exact zw_iast hX rfl hd (by rw [zk_k0]; exact ha) h1 h2 kk
theorem zw_sz (hX : zm_X p R s m args meth c own nm cc nL zk_E V mc ms) {a : Nat} {i x : Int32} (hd : decode cc pc = .ok (.bastore, 1)) (g : zs_z S a i x = some S') (kk : zw p l e R s m args below meth c Q nL zk_E V mc ms (pc + 1) lv st S' rc rs) : zw p l e R s m args below meth c Q nL zk_E V mc ms pc lv (.int x :: .int i :: .ref a :: st) S rc rs := by
  obtain ⟨ha, hx, n, f, h1, h2, rfl⟩ := zs_z_spec g
  exact zw_zast hX rfl hd (by rw [zk_k0]; exact ha) h1 h2 (zn_z hx) kk
theorem zw_sc (hX : zm_X p R s m args meth c own nm cc nL zk_E V mc ms) {a : Nat} {i x : Int32} (hd : decode cc pc = .ok (.castore, 1)) (g : zs_c S a i x = some S') (kk : zw p l e R s m args below meth c Q nL zk_E V mc ms (pc + 1) lv st S' rc rs) : zw p l e R s m args below meth c Q nL zk_E V mc ms pc lv (.int x :: .int i :: .ref a :: st) S rc rs := by
  obtain ⟨ha, n, f, h1, h2, rfl⟩ := zs_c_spec g
  exact zw_cast hX rfl hd (by rw [zk_k0]; exact ha) h1 h2 kk
theorem zw_sl (hX : zm_X p R s m args meth c own nm cc nL zk_E V mc ms) {a : Nat} {i : Int32} {x : Int64} (hd : decode cc pc = .ok (.lastore, 1)) (g : zs_l S a i x = some S') (kk : zw p l e R s m args below meth c Q nL zk_E V mc ms (pc + 1) lv st S' rc rs) : zw p l e R s m args below meth c Q nL zk_E V mc ms pc lv (.long x :: .int i :: .ref a :: st) S rc rs := by
  obtain ⟨ha, n, f, h1, h2, rfl⟩ := zs_l_spec g
  exact zw_last hX rfl hd (by rw [zk_k0]; exact ha) h1 h2 kk
end ZF

