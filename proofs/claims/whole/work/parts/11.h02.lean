/-! ===== functions of methods, by program (wip/whole/tools/gen11.py) ===== -/


def zf_L_law_J3076 (N : Nat) (k : Nat → Nat → Nat → Nat → Int32 → Nat → Nat → zm_S → Option ((Int32 × zm_S) ⊕ ((Unit) × zm_S))) (a0 : Nat) (a1 : Nat) (a2 : Nat) (a3 : Nat) (i4 : Int32) (rc rs : Nat) (S : zm_S) : Option ((Int32 × zm_S) ⊕ ((Unit) × zm_S)) := (za_x S 0 a0 (i4 + (1 : Int32))).bind (fun v473 => (za_x S 0 a0 (i4 + (2 : Int32))).bind (fun v474 => (za_x S 0 a0 (i4 + (3 : Int32))).bind (fun v475 => (za_x S 0 a0 (i4 + (4 : Int32))).bind (fun v476 => (za_x S 0 a0 (i4 + (5 : Int32))).bind (fun v477 => if 2 ≤ rc ∧ 12 ≤ rs then (zf_L_sentence N a1 v473 v474 v475 v476 v477 a3 S).bind (fun r480 => (za_x r480.2 0 a0 (i4 + (1 : Int32))).bind (fun v481 => (za_x r480.2 0 a0 (i4 + (2 : Int32))).bind (fun v482 => (za_x r480.2 0 a0 (i4 + (3 : Int32))).bind (fun v483 => (za_x r480.2 0 a0 (i4 + (4 : Int32))).bind (fun v484 => (za_x r480.2 0 a0 (i4 + (5 : Int32))).bind (fun v485 => (zi r480.2 a2 18).bind (fun _ => (zf_X18_sentence N a2 v481 v482 v483 v484 v485 r480.2).bind (fun r487 => (zi r487.2 a2 18).bind (fun _ => (zf_X18_thrown N a2 r487.2).bind (fun r489 => if r489.1 = r480.1 then if r480.1 = 0 then (za_l r489.2 a3 (0 : Int32)).bind (fun w490 => if (lg_cmp w490 ((r487.1).toInt64)) = 0 then k a0 a1 a2 a3 (i4 + (7 : Int32)) (rc - 2) (rs - 12) r489.2 else none) else k a0 a1 a2 a3 (i4 + (7 : Int32)) (rc - 2) (rs - 12) r489.2 else none)))))))))) else none)))))
set_option maxHeartbeats 4000000 in
set_option maxRecDepth 100000 in
theorem zt_L_law_J3076 {p : Program} {l : Launch} {e : Env} {s : State} {m : MethodId} {zb : Nat} {below : List Frame} {meth : Method} {c : Code} {V : zm_V} {d : Nat} {nm : String} (hlt : l.stackTraces = false) (hV : V.2.2.2.1 = s.heap.size) (hX : zm_X p room_1 s m #[Value.ref zb] meth c RL nm cL_law 8 zk_E V 601024 7293034) (hr : meth.sig.returnType = ret) (hR : d ≤ room_1.frames ∧ 64 * d ≤ room_1.locals) (hd : 46 ≤ d) {N : Nat} {k : Nat → Nat → Nat → Nat → Int32 → Nat → Nat → zm_S → Option ((Int32 × zm_S) ⊕ ((Unit) × zm_S))} {rc rs : Nat} {a0 : Nat} {a1 : Nat} {a2 : Nat} {a3 : Nat} {i4 : Int32} {res : (Int32 × zm_S) ⊕ ((Unit) × zm_S)} {out : (Int32 × zm_S)}   (hf : ∀ o, res = .inl o → o = out) (hk : ∀ (S' : zm_S) (rc rs : Nat), res = .inr ((), S') → zw p l e room_1 s m #[Value.ref zb] below meth c (lw_Z below #[Value.ref zb] s) 8 zk_E V 601024 7293034 6008 [] [] S' rc rs) (hrec : ∀ (i4' : Int32) (rc rs : Nat) (S : zm_S), k a0 a1 a2 a3 i4' rc rs S = some res → zw p l e room_1 s m #[Value.ref zb] below meth c (lw_Z below #[Value.ref zb] s) 8 zk_E V 601024 7293034 23 [(0, .ref a0), (1, .ref a1), (2, .ref a2), (3, .ref a3), (4, .int i4')] [] S rc rs) {S : zm_S} (h : zf_L_law_J3076 N k a0 a1 a2 a3 i4 rc rs S = some res) : zw p l e room_1 s m #[Value.ref zb] below meth c (lw_Z below #[Value.ref zb] s) 8 zk_E V 601024 7293034 3076 [(0, .ref a0), (1, .ref a1), (2, .ref a2), (3, .ref a3), (4, .int i4)] [] S rc rs := by
  unfold zf_L_law_J3076 at h
  refine zw_aload_n hX dL_law_3076 rfl ?_
  refine zw_aload_n hX dL_law_3077 rfl ?_
  refine zw_iload hX dL_law_3078 rfl ?_
  refine zw_iconst (v := (1 : Int32)) hX dL_law_3080 (by decide) ?_
  refine zw_iadd hX dL_law_3081 ?_
  obtain ⟨v473, g, h⟩ := zb_some h
  refine zw_xi hX dL_law_3082 g ?_
  refine zw_aload_n hX dL_law_3083 rfl ?_
  refine zw_iload hX dL_law_3084 rfl ?_
  refine zw_iconst (v := (2 : Int32)) hX dL_law_3086 (by decide) ?_
  refine zw_iadd hX dL_law_3087 ?_
  obtain ⟨v474, g, h⟩ := zb_some h
  refine zw_xi hX dL_law_3088 g ?_
  refine zw_aload_n hX dL_law_3089 rfl ?_
  refine zw_iload hX dL_law_3090 rfl ?_
  refine zw_iconst (v := (3 : Int32)) hX dL_law_3092 (by decide) ?_
  refine zw_iadd hX dL_law_3093 ?_
  obtain ⟨v475, g, h⟩ := zb_some h
  refine zw_xi hX dL_law_3094 g ?_
  refine zw_aload_n hX dL_law_3095 rfl ?_
  refine zw_iload hX dL_law_3096 rfl ?_
  refine zw_iconst (v := (4 : Int32)) hX dL_law_3098 (by decide) ?_
  refine zw_iadd hX dL_law_3099 ?_
  obtain ⟨v476, g, h⟩ := zb_some h
  refine zw_xi hX dL_law_3100 g ?_
  refine zw_aload_n hX dL_law_3101 rfl ?_
  refine zw_iload hX dL_law_3102 rfl ?_
  refine zw_iconst (v := (5 : Int32)) hX dL_law_3104 (by decide) ?_
  refine zw_iadd hX dL_law_3105 ?_
  obtain ⟨v477, g, h⟩ := zb_some h
  refine zw_xi hX dL_law_3106 g ?_
  refine zw_aload_n hX dL_law_3107 rfl ?_
  by_cases hb3108 : 2 ≤ rc ∧ 12 ≤ rs
  · rw [if_pos hb3108] at h
    obtain ⟨r480, g, h⟩ := zb_some h
    refine zc_S (as := [.ref a1, .int v473, .int v474, .int v475, .int v476, .int v477, .ref a3]) hX (zt_L_sentence hlt (d := d - 1) (by omega) g) zl_L_405 dL_law_3108 ⟨rfl, rfl, Nat.le_of_ble_eq_true rfl⟩ ⟨by omega, by omega⟩ hb3108 ?_ ?_
    · rintro _ _ ⟨rfl, rfl⟩
      refine zw_istore hX dL_law_3111 (by decide) ?_
      refine zw_aload_n hX dL_law_3113 rfl ?_
      refine zw_aload_n hX dL_law_3114 rfl ?_
      refine zw_iload hX dL_law_3115 rfl ?_
      refine zw_iconst (v := (1 : Int32)) hX dL_law_3117 (by decide) ?_
      refine zw_iadd hX dL_law_3118 ?_
      obtain ⟨v481, g, h⟩ := zb_some h
      refine zw_xi hX dL_law_3119 g ?_
      refine zw_aload_n hX dL_law_3120 rfl ?_
      refine zw_iload hX dL_law_3121 rfl ?_
      refine zw_iconst (v := (2 : Int32)) hX dL_law_3123 (by decide) ?_
      refine zw_iadd hX dL_law_3124 ?_
      obtain ⟨v482, g, h⟩ := zb_some h
      refine zw_xi hX dL_law_3125 g ?_
      refine zw_aload_n hX dL_law_3126 rfl ?_
      refine zw_iload hX dL_law_3127 rfl ?_
      refine zw_iconst (v := (3 : Int32)) hX dL_law_3129 (by decide) ?_
      refine zw_iadd hX dL_law_3130 ?_
      obtain ⟨v483, g, h⟩ := zb_some h
      refine zw_xi hX dL_law_3131 g ?_
      refine zw_aload_n hX dL_law_3132 rfl ?_
      refine zw_iload hX dL_law_3133 rfl ?_
      refine zw_iconst (v := (4 : Int32)) hX dL_law_3135 (by decide) ?_
      refine zw_iadd hX dL_law_3136 ?_
      obtain ⟨v484, g, h⟩ := zb_some h
      refine zw_xi hX dL_law_3137 g ?_
      refine zw_aload_n hX dL_law_3138 rfl ?_
      refine zw_iload hX dL_law_3139 rfl ?_
      refine zw_iconst (v := (5 : Int32)) hX dL_law_3141 (by decide) ?_
      refine zw_iadd hX dL_law_3142 ?_
      obtain ⟨v485, g, h⟩ := zb_some h
      refine zw_xi hX dL_law_3143 g ?_
      obtain ⟨_, gi, h⟩ := zb_some h
      obtain ⟨r487, g, h⟩ := zb_some h
      refine zc_Vi (as := [.int v481, .int v482, .int v483, .int v484, .int v485]) hX gi (zt_X18_sentence (d := d - 1) (by omega) g) zl_L_407 rfl dL_law_3144 ⟨rfl, rfl, Nat.le_of_ble_eq_true rfl⟩ ⟨by omega, by omega⟩ ?_
      refine zw_istore hX dL_law_3147 (by decide) ?_
      refine zw_aload_n hX dL_law_3149 rfl ?_
      obtain ⟨_, gi, h⟩ := zb_some h
      obtain ⟨r489, g, h⟩ := zb_some h
      refine zc_Vi (as := []) hX gi (zt_X18_thrown (d := d - 1) (by omega) g) zl_L_281 rfl dL_law_3150 ⟨rfl, rfl, Nat.le_of_ble_eq_true rfl⟩ ⟨by omega, by omega⟩ ?_
      refine zw_iload hX dL_law_3153 rfl ?_
      refine zw_icmp_eq (tgt := 3160) hX dL_law_3155 (by decide) (fun c3155 => ?_) (fun c3155 => ?_)
      · rw [if_pos c3155] at h
        refine zw_iload hX dL_law_3160 rfl ?_
        refine zw_if_ne (tgt := 3177) hX dL_law_3162 (by decide) (fun c3162 => ?_) (fun c3162 => ?_)
        · rw [if_neg c3162] at h
          refine zw_goto (tgt := 6002) hX dL_law_3177 (by decide) ?_
          refine zw_iinc (v := (i4 + (7 : Int32))) hX dL_law_6002 rfl rfl (by decide) ?_
          refine zw_goto (tgt := 23) hX dL_law_6005 (by decide) ?_
          refine zw_sub (lv' := [(0, .ref a0), (1, .ref a1), (2, .ref a2), (3, .ref a3), (4, .int (i4 + (7 : Int32)))]) (List.forall_mem_cons.mpr ⟨rfl, (List.forall_mem_cons.mpr ⟨rfl, (List.forall_mem_cons.mpr ⟨rfl, (List.forall_mem_cons.mpr ⟨rfl, (List.forall_mem_cons.mpr ⟨rfl, zs_nil⟩)⟩)⟩)⟩)⟩) ?_
          exact hrec _ _ _ _ h
        · rw [if_pos c3162] at h
          refine zw_aload_n hX dL_law_3165 rfl ?_
          refine zw_iconst (v := (0 : Int32)) hX dL_law_3166 (by decide) ?_
          obtain ⟨w490, g, h⟩ := zb_some h
          refine zw_xl hX dL_law_3167 g ?_
          refine zw_iload hX dL_law_3168 rfl ?_
          refine zw_i2l hX dL_law_3170 ?_
          refine zw_lcmp hX dL_law_3171 ?_
          refine zw_if_eq (tgt := 3177) hX dL_law_3172 (by decide) (fun c3172 => ?_) (fun c3172 => ?_)
          · rw [if_pos c3172] at h
            refine zw_goto (tgt := 6002) hX dL_law_3177 (by decide) ?_
            refine zw_iinc (v := (i4 + (7 : Int32))) hX dL_law_6002 rfl rfl (by decide) ?_
            refine zw_goto (tgt := 23) hX dL_law_6005 (by decide) ?_
            refine zw_sub (lv' := [(0, .ref a0), (1, .ref a1), (2, .ref a2), (3, .ref a3), (4, .int (i4 + (7 : Int32)))]) (List.forall_mem_cons.mpr ⟨rfl, (List.forall_mem_cons.mpr ⟨rfl, (List.forall_mem_cons.mpr ⟨rfl, (List.forall_mem_cons.mpr ⟨rfl, (List.forall_mem_cons.mpr ⟨rfl, zs_nil⟩)⟩)⟩)⟩)⟩) ?_
            exact hrec _ _ _ _ h
          · rw [if_neg c3172] at h
            refine zw_iconst (v := (0 : Int32)) hX dL_law_3175 (by decide) ?_
            cases h
      · rw [if_neg c3155] at h
        refine zw_iconst (v := (0 : Int32)) hX dL_law_3158 (by decide) ?_
        cases h
    · intro _ _ hx
      exact hx.elim
  · rw [if_neg hb3108] at h
    cases h
def zf_L_law_J3180 (N : Nat) (k : Nat → Nat → Nat → Nat → Int32 → Nat → Nat → zm_S → Option ((Int32 × zm_S) ⊕ ((Unit) × zm_S))) (a0 : Nat) (a1 : Nat) (a2 : Nat) (a3 : Nat) (i4 : Int32) (rc rs : Nat) (S : zm_S) : Option ((Int32 × zm_S) ⊕ ((Unit) × zm_S)) := (za_x S 0 a0 (i4 + (1 : Int32))).bind (fun v491 => if 2 ≤ rc ∧ 12 ≤ rs then (zf_L_cutText N a1 v491 a3 S).bind (fun r494 => (za_x r494.2 0 a0 (i4 + (1 : Int32))).bind (fun v495 => (zi r494.2 a2 18).bind (fun _ => (zf_X18_cutText N a2 v495 r494.2).bind (fun r497 => (zi r497.2 a2 18).bind (fun _ => (zf_X18_thrown N a2 r497.2).bind (fun r499 => if r499.1 = r494.1 then if r494.1 = 0 then (za_l r499.2 a3 (0 : Int32)).bind (fun w500 => if (lg_cmp w500 ((r497.1).toInt64)) = 0 then k a0 a1 a2 a3 (i4 + (7 : Int32)) (rc - 2) (rs - 12) r499.2 else none) else k a0 a1 a2 a3 (i4 + (7 : Int32)) (rc - 2) (rs - 12) r499.2 else none)))))) else none)
set_option maxHeartbeats 4000000 in
set_option maxRecDepth 100000 in
theorem zt_L_law_J3180 {p : Program} {l : Launch} {e : Env} {s : State} {m : MethodId} {zb : Nat} {below : List Frame} {meth : Method} {c : Code} {V : zm_V} {d : Nat} {nm : String} (hlt : l.stackTraces = false) (hV : V.2.2.2.1 = s.heap.size) (hX : zm_X p room_1 s m #[Value.ref zb] meth c RL nm cL_law 8 zk_E V 601024 7293034) (hr : meth.sig.returnType = ret) (hR : d ≤ room_1.frames ∧ 64 * d ≤ room_1.locals) (hd : 46 ≤ d) {N : Nat} {k : Nat → Nat → Nat → Nat → Int32 → Nat → Nat → zm_S → Option ((Int32 × zm_S) ⊕ ((Unit) × zm_S))} {rc rs : Nat} {a0 : Nat} {a1 : Nat} {a2 : Nat} {a3 : Nat} {i4 : Int32} {res : (Int32 × zm_S) ⊕ ((Unit) × zm_S)} {out : (Int32 × zm_S)}   (hf : ∀ o, res = .inl o → o = out) (hk : ∀ (S' : zm_S) (rc rs : Nat), res = .inr ((), S') → zw p l e room_1 s m #[Value.ref zb] below meth c (lw_Z below #[Value.ref zb] s) 8 zk_E V 601024 7293034 6008 [] [] S' rc rs) (hrec : ∀ (i4' : Int32) (rc rs : Nat) (S : zm_S), k a0 a1 a2 a3 i4' rc rs S = some res → zw p l e room_1 s m #[Value.ref zb] below meth c (lw_Z below #[Value.ref zb] s) 8 zk_E V 601024 7293034 23 [(0, .ref a0), (1, .ref a1), (2, .ref a2), (3, .ref a3), (4, .int i4')] [] S rc rs) {S : zm_S} (h : zf_L_law_J3180 N k a0 a1 a2 a3 i4 rc rs S = some res) : zw p l e room_1 s m #[Value.ref zb] below meth c (lw_Z below #[Value.ref zb] s) 8 zk_E V 601024 7293034 3180 [(0, .ref a0), (1, .ref a1), (2, .ref a2), (3, .ref a3), (4, .int i4)] [] S rc rs := by
  unfold zf_L_law_J3180 at h
  refine zw_aload_n hX dL_law_3180 rfl ?_
  refine zw_aload_n hX dL_law_3181 rfl ?_
  refine zw_iload hX dL_law_3182 rfl ?_
  refine zw_iconst (v := (1 : Int32)) hX dL_law_3184 (by decide) ?_
  refine zw_iadd hX dL_law_3185 ?_
  obtain ⟨v491, g, h⟩ := zb_some h
  refine zw_xi hX dL_law_3186 g ?_
  refine zw_aload_n hX dL_law_3187 rfl ?_
  by_cases hb3188 : 2 ≤ rc ∧ 12 ≤ rs
  · rw [if_pos hb3188] at h
    obtain ⟨r494, g, h⟩ := zb_some h
    refine zc_S (as := [.ref a1, .int v491, .ref a3]) hX (zt_L_cutText hlt (d := d - 1) (by omega) g) zl_L_408 dL_law_3188 ⟨rfl, rfl, Nat.le_of_ble_eq_true rfl⟩ ⟨by omega, by omega⟩ hb3188 ?_ ?_
    · rintro _ _ ⟨rfl, rfl⟩
      refine zw_istore hX dL_law_3191 (by decide) ?_
      refine zw_aload_n hX dL_law_3193 rfl ?_
      refine zw_aload_n hX dL_law_3194 rfl ?_
      refine zw_iload hX dL_law_3195 rfl ?_
      refine zw_iconst (v := (1 : Int32)) hX dL_law_3197 (by decide) ?_
      refine zw_iadd hX dL_law_3198 ?_
      obtain ⟨v495, g, h⟩ := zb_some h
      refine zw_xi hX dL_law_3199 g ?_
      obtain ⟨_, gi, h⟩ := zb_some h
      obtain ⟨r497, g, h⟩ := zb_some h
      refine zc_Vi (as := [.int v495]) hX gi (zt_X18_cutText (d := d - 1) (by omega) g) zl_L_410 rfl dL_law_3200 ⟨rfl, rfl, Nat.le_of_ble_eq_true rfl⟩ ⟨by omega, by omega⟩ ?_
      refine zw_istore hX dL_law_3203 (by decide) ?_
      refine zw_aload_n hX dL_law_3205 rfl ?_
      obtain ⟨_, gi, h⟩ := zb_some h
      obtain ⟨r499, g, h⟩ := zb_some h
      refine zc_Vi (as := []) hX gi (zt_X18_thrown (d := d - 1) (by omega) g) zl_L_281 rfl dL_law_3206 ⟨rfl, rfl, Nat.le_of_ble_eq_true rfl⟩ ⟨by omega, by omega⟩ ?_
      refine zw_iload hX dL_law_3209 rfl ?_
      refine zw_icmp_eq (tgt := 3216) hX dL_law_3211 (by decide) (fun c3211 => ?_) (fun c3211 => ?_)
      · rw [if_pos c3211] at h
        refine zw_iload hX dL_law_3216 rfl ?_
        refine zw_if_ne (tgt := 3233) hX dL_law_3218 (by decide) (fun c3218 => ?_) (fun c3218 => ?_)
        · rw [if_neg c3218] at h
          refine zw_goto (tgt := 6002) hX dL_law_3233 (by decide) ?_
          refine zw_iinc (v := (i4 + (7 : Int32))) hX dL_law_6002 rfl rfl (by decide) ?_
          refine zw_goto (tgt := 23) hX dL_law_6005 (by decide) ?_
          refine zw_sub (lv' := [(0, .ref a0), (1, .ref a1), (2, .ref a2), (3, .ref a3), (4, .int (i4 + (7 : Int32)))]) (List.forall_mem_cons.mpr ⟨rfl, (List.forall_mem_cons.mpr ⟨rfl, (List.forall_mem_cons.mpr ⟨rfl, (List.forall_mem_cons.mpr ⟨rfl, (List.forall_mem_cons.mpr ⟨rfl, zs_nil⟩)⟩)⟩)⟩)⟩) ?_
          exact hrec _ _ _ _ h
        · rw [if_pos c3218] at h
          refine zw_aload_n hX dL_law_3221 rfl ?_
          refine zw_iconst (v := (0 : Int32)) hX dL_law_3222 (by decide) ?_
          obtain ⟨w500, g, h⟩ := zb_some h
          refine zw_xl hX dL_law_3223 g ?_
          refine zw_iload hX dL_law_3224 rfl ?_
          refine zw_i2l hX dL_law_3226 ?_
          refine zw_lcmp hX dL_law_3227 ?_
          refine zw_if_eq (tgt := 3233) hX dL_law_3228 (by decide) (fun c3228 => ?_) (fun c3228 => ?_)
          · rw [if_pos c3228] at h
            refine zw_goto (tgt := 6002) hX dL_law_3233 (by decide) ?_
            refine zw_iinc (v := (i4 + (7 : Int32))) hX dL_law_6002 rfl rfl (by decide) ?_
            refine zw_goto (tgt := 23) hX dL_law_6005 (by decide) ?_
            refine zw_sub (lv' := [(0, .ref a0), (1, .ref a1), (2, .ref a2), (3, .ref a3), (4, .int (i4 + (7 : Int32)))]) (List.forall_mem_cons.mpr ⟨rfl, (List.forall_mem_cons.mpr ⟨rfl, (List.forall_mem_cons.mpr ⟨rfl, (List.forall_mem_cons.mpr ⟨rfl, (List.forall_mem_cons.mpr ⟨rfl, zs_nil⟩)⟩)⟩)⟩)⟩) ?_
            exact hrec _ _ _ _ h
          · rw [if_neg c3228] at h
            refine zw_iconst (v := (0 : Int32)) hX dL_law_3231 (by decide) ?_
            cases h
      · rw [if_neg c3211] at h
        refine zw_iconst (v := (0 : Int32)) hX dL_law_3214 (by decide) ?_
        cases h
    · intro _ _ hx
      exact hx.elim
  · rw [if_neg hb3188] at h
    cases h
def zf_L_law_J3236 (N : Nat) (k : Nat → Nat → Nat → Nat → Int32 → Nat → Nat → zm_S → Option ((Int32 × zm_S) ⊕ ((Unit) × zm_S))) (a0 : Nat) (a1 : Nat) (a2 : Nat) (a3 : Nat) (i4 : Int32) (rc rs : Nat) (S : zm_S) : Option ((Int32 × zm_S) ⊕ ((Unit) × zm_S)) := if 1 ≤ rc ∧ 6 ≤ rs then (zf_L_matrix N a1 a3 S).bind (fun r503 => (zi r503.2 a2 18).bind (fun _ => (zf_X18_matrix N a2 r503.2).bind (fun r505 => (zi r505.2 a2 18).bind (fun _ => (zf_X18_thrown N a2 r505.2).bind (fun r507 => if r507.1 = r503.1 then if r503.1 = 0 then (za_l r507.2 a3 (0 : Int32)).bind (fun w508 => if (lg_cmp w508 ((r505.1).toInt64)) = 0 then k a0 a1 a2 a3 (i4 + (7 : Int32)) (rc - 1) (rs - 6) r507.2 else none) else k a0 a1 a2 a3 (i4 + (7 : Int32)) (rc - 1) (rs - 6) r507.2 else none))))) else none
set_option maxHeartbeats 4000000 in
set_option maxRecDepth 100000 in
theorem zt_L_law_J3236 {p : Program} {l : Launch} {e : Env} {s : State} {m : MethodId} {zb : Nat} {below : List Frame} {meth : Method} {c : Code} {V : zm_V} {d : Nat} {nm : String} (hlt : l.stackTraces = false) (hV : V.2.2.2.1 = s.heap.size) (hX : zm_X p room_1 s m #[Value.ref zb] meth c RL nm cL_law 8 zk_E V 601024 7293034) (hr : meth.sig.returnType = ret) (hR : d ≤ room_1.frames ∧ 64 * d ≤ room_1.locals) (hd : 46 ≤ d) {N : Nat} {k : Nat → Nat → Nat → Nat → Int32 → Nat → Nat → zm_S → Option ((Int32 × zm_S) ⊕ ((Unit) × zm_S))} {rc rs : Nat} {a0 : Nat} {a1 : Nat} {a2 : Nat} {a3 : Nat} {i4 : Int32} {res : (Int32 × zm_S) ⊕ ((Unit) × zm_S)} {out : (Int32 × zm_S)}   (hf : ∀ o, res = .inl o → o = out) (hk : ∀ (S' : zm_S) (rc rs : Nat), res = .inr ((), S') → zw p l e room_1 s m #[Value.ref zb] below meth c (lw_Z below #[Value.ref zb] s) 8 zk_E V 601024 7293034 6008 [] [] S' rc rs) (hrec : ∀ (i4' : Int32) (rc rs : Nat) (S : zm_S), k a0 a1 a2 a3 i4' rc rs S = some res → zw p l e room_1 s m #[Value.ref zb] below meth c (lw_Z below #[Value.ref zb] s) 8 zk_E V 601024 7293034 23 [(0, .ref a0), (1, .ref a1), (2, .ref a2), (3, .ref a3), (4, .int i4')] [] S rc rs) {S : zm_S} (h : zf_L_law_J3236 N k a0 a1 a2 a3 i4 rc rs S = some res) : zw p l e room_1 s m #[Value.ref zb] below meth c (lw_Z below #[Value.ref zb] s) 8 zk_E V 601024 7293034 3236 [(0, .ref a0), (1, .ref a1), (2, .ref a2), (3, .ref a3), (4, .int i4)] [] S rc rs := by
  unfold zf_L_law_J3236 at h
  refine zw_aload_n hX dL_law_3236 rfl ?_
  refine zw_aload_n hX dL_law_3237 rfl ?_
  by_cases hb3238 : 1 ≤ rc ∧ 6 ≤ rs
  · rw [if_pos hb3238] at h
    obtain ⟨r503, g, h⟩ := zb_some h
    refine zc_S (as := [.ref a1, .ref a3]) hX (zt_L_matrix hlt (d := d - 1) (by omega) g) zl_L_411 dL_law_3238 ⟨rfl, rfl, Nat.le_of_ble_eq_true rfl⟩ ⟨by omega, by omega⟩ hb3238 ?_ ?_
    · rintro _ _ ⟨rfl, rfl⟩
      refine zw_istore hX dL_law_3241 (by decide) ?_
      refine zw_aload_n hX dL_law_3243 rfl ?_
      obtain ⟨_, gi, h⟩ := zb_some h
      obtain ⟨r505, g, h⟩ := zb_some h
      refine zc_Vi (as := []) hX gi (zt_X18_matrix (d := d - 1) (by omega) g) zl_L_413 rfl dL_law_3244 ⟨rfl, rfl, Nat.le_of_ble_eq_true rfl⟩ ⟨by omega, by omega⟩ ?_
      refine zw_istore hX dL_law_3247 (by decide) ?_
      refine zw_aload_n hX dL_law_3249 rfl ?_
      obtain ⟨_, gi, h⟩ := zb_some h
      obtain ⟨r507, g, h⟩ := zb_some h
      refine zc_Vi (as := []) hX gi (zt_X18_thrown (d := d - 1) (by omega) g) zl_L_281 rfl dL_law_3250 ⟨rfl, rfl, Nat.le_of_ble_eq_true rfl⟩ ⟨by omega, by omega⟩ ?_
      refine zw_iload hX dL_law_3253 rfl ?_
      refine zw_icmp_eq (tgt := 3260) hX dL_law_3255 (by decide) (fun c3255 => ?_) (fun c3255 => ?_)
      · rw [if_pos c3255] at h
        refine zw_iload hX dL_law_3260 rfl ?_
        refine zw_if_ne (tgt := 3277) hX dL_law_3262 (by decide) (fun c3262 => ?_) (fun c3262 => ?_)
        · rw [if_neg c3262] at h
          refine zw_goto (tgt := 6002) hX dL_law_3277 (by decide) ?_
          refine zw_iinc (v := (i4 + (7 : Int32))) hX dL_law_6002 rfl rfl (by decide) ?_
          refine zw_goto (tgt := 23) hX dL_law_6005 (by decide) ?_
          refine zw_sub (lv' := [(0, .ref a0), (1, .ref a1), (2, .ref a2), (3, .ref a3), (4, .int (i4 + (7 : Int32)))]) (List.forall_mem_cons.mpr ⟨rfl, (List.forall_mem_cons.mpr ⟨rfl, (List.forall_mem_cons.mpr ⟨rfl, (List.forall_mem_cons.mpr ⟨rfl, (List.forall_mem_cons.mpr ⟨rfl, zs_nil⟩)⟩)⟩)⟩)⟩) ?_
          exact hrec _ _ _ _ h
        · rw [if_pos c3262] at h
          refine zw_aload_n hX dL_law_3265 rfl ?_
          refine zw_iconst (v := (0 : Int32)) hX dL_law_3266 (by decide) ?_
          obtain ⟨w508, g, h⟩ := zb_some h
          refine zw_xl hX dL_law_3267 g ?_
          refine zw_iload hX dL_law_3268 rfl ?_
          refine zw_i2l hX dL_law_3270 ?_
          refine zw_lcmp hX dL_law_3271 ?_
          refine zw_if_eq (tgt := 3277) hX dL_law_3272 (by decide) (fun c3272 => ?_) (fun c3272 => ?_)
          · rw [if_pos c3272] at h
            refine zw_goto (tgt := 6002) hX dL_law_3277 (by decide) ?_
            refine zw_iinc (v := (i4 + (7 : Int32))) hX dL_law_6002 rfl rfl (by decide) ?_
            refine zw_goto (tgt := 23) hX dL_law_6005 (by decide) ?_
            refine zw_sub (lv' := [(0, .ref a0), (1, .ref a1), (2, .ref a2), (3, .ref a3), (4, .int (i4 + (7 : Int32)))]) (List.forall_mem_cons.mpr ⟨rfl, (List.forall_mem_cons.mpr ⟨rfl, (List.forall_mem_cons.mpr ⟨rfl, (List.forall_mem_cons.mpr ⟨rfl, (List.forall_mem_cons.mpr ⟨rfl, zs_nil⟩)⟩)⟩)⟩)⟩) ?_
            exact hrec _ _ _ _ h
          · rw [if_neg c3272] at h
            refine zw_iconst (v := (0 : Int32)) hX dL_law_3275 (by decide) ?_
            cases h
      · rw [if_neg c3255] at h
        refine zw_iconst (v := (0 : Int32)) hX dL_law_3258 (by decide) ?_
        cases h
    · intro _ _ hx
      exact hx.elim
  · rw [if_neg hb3238] at h
    cases h
def zf_L_law_J3280 (N : Nat) (k : Nat → Nat → Nat → Nat → Int32 → Nat → Nat → zm_S → Option ((Int32 × zm_S) ⊕ ((Unit) × zm_S))) (a0 : Nat) (a1 : Nat) (a2 : Nat) (a3 : Nat) (i4 : Int32) (rc rs : Nat) (S : zm_S) : Option ((Int32 × zm_S) ⊕ ((Unit) × zm_S)) := (za_x S 0 a0 (i4 + (1 : Int32))).bind (fun v509 => (za_x S 0 a0 (i4 + (2 : Int32))).bind (fun v510 => if 2 ≤ rc ∧ 12 ≤ rs then (zf_L_signal N a1 v509 v510 a3 S).bind (fun r513 => (za_x r513.2 0 a0 (i4 + (1 : Int32))).bind (fun v514 => (za_x r513.2 0 a0 (i4 + (2 : Int32))).bind (fun v515 => (zi r513.2 a2 18).bind (fun _ => (zf_X18_signal N a2 v514 v515 r513.2).bind (fun r517 => (zi r517.2 a2 18).bind (fun _ => (zf_X18_thrown N a2 r517.2).bind (fun r519 => if r519.1 = r513.1 then if r513.1 = 0 then (za_l r519.2 a3 (0 : Int32)).bind (fun w520 => if (lg_cmp w520 ((r517.1).toInt64)) = 0 then k a0 a1 a2 a3 (i4 + (7 : Int32)) (rc - 2) (rs - 12) r519.2 else none) else k a0 a1 a2 a3 (i4 + (7 : Int32)) (rc - 2) (rs - 12) r519.2 else none))))))) else none))
set_option maxHeartbeats 4000000 in
set_option maxRecDepth 100000 in
theorem zt_L_law_J3280 {p : Program} {l : Launch} {e : Env} {s : State} {m : MethodId} {zb : Nat} {below : List Frame} {meth : Method} {c : Code} {V : zm_V} {d : Nat} {nm : String} (hlt : l.stackTraces = false) (hV : V.2.2.2.1 = s.heap.size) (hX : zm_X p room_1 s m #[Value.ref zb] meth c RL nm cL_law 8 zk_E V 601024 7293034) (hr : meth.sig.returnType = ret) (hR : d ≤ room_1.frames ∧ 64 * d ≤ room_1.locals) (hd : 46 ≤ d) {N : Nat} {k : Nat → Nat → Nat → Nat → Int32 → Nat → Nat → zm_S → Option ((Int32 × zm_S) ⊕ ((Unit) × zm_S))} {rc rs : Nat} {a0 : Nat} {a1 : Nat} {a2 : Nat} {a3 : Nat} {i4 : Int32} {res : (Int32 × zm_S) ⊕ ((Unit) × zm_S)} {out : (Int32 × zm_S)}   (hf : ∀ o, res = .inl o → o = out) (hk : ∀ (S' : zm_S) (rc rs : Nat), res = .inr ((), S') → zw p l e room_1 s m #[Value.ref zb] below meth c (lw_Z below #[Value.ref zb] s) 8 zk_E V 601024 7293034 6008 [] [] S' rc rs) (hrec : ∀ (i4' : Int32) (rc rs : Nat) (S : zm_S), k a0 a1 a2 a3 i4' rc rs S = some res → zw p l e room_1 s m #[Value.ref zb] below meth c (lw_Z below #[Value.ref zb] s) 8 zk_E V 601024 7293034 23 [(0, .ref a0), (1, .ref a1), (2, .ref a2), (3, .ref a3), (4, .int i4')] [] S rc rs) {S : zm_S} (h : zf_L_law_J3280 N k a0 a1 a2 a3 i4 rc rs S = some res) : zw p l e room_1 s m #[Value.ref zb] below meth c (lw_Z below #[Value.ref zb] s) 8 zk_E V 601024 7293034 3280 [(0, .ref a0), (1, .ref a1), (2, .ref a2), (3, .ref a3), (4, .int i4)] [] S rc rs := by
  unfold zf_L_law_J3280 at h
  refine zw_aload_n hX dL_law_3280 rfl ?_
  refine zw_aload_n hX dL_law_3281 rfl ?_
  refine zw_iload hX dL_law_3282 rfl ?_
  refine zw_iconst (v := (1 : Int32)) hX dL_law_3284 (by decide) ?_
  refine zw_iadd hX dL_law_3285 ?_
  obtain ⟨v509, g, h⟩ := zb_some h
  refine zw_xi hX dL_law_3286 g ?_
  refine zw_aload_n hX dL_law_3287 rfl ?_
  refine zw_iload hX dL_law_3288 rfl ?_
  refine zw_iconst (v := (2 : Int32)) hX dL_law_3290 (by decide) ?_
  refine zw_iadd hX dL_law_3291 ?_
  obtain ⟨v510, g, h⟩ := zb_some h
  refine zw_xi hX dL_law_3292 g ?_
  refine zw_aload_n hX dL_law_3293 rfl ?_
  by_cases hb3294 : 2 ≤ rc ∧ 12 ≤ rs
  · rw [if_pos hb3294] at h
    obtain ⟨r513, g, h⟩ := zb_some h
    refine zc_S (as := [.ref a1, .int v509, .int v510, .ref a3]) hX (zt_L_signal hlt (d := d - 1) (by omega) g) zl_L_414 dL_law_3294 ⟨rfl, rfl, Nat.le_of_ble_eq_true rfl⟩ ⟨by omega, by omega⟩ hb3294 ?_ ?_
    · rintro _ _ ⟨rfl, rfl⟩
      refine zw_istore hX dL_law_3297 (by decide) ?_
      refine zw_aload_n hX dL_law_3299 rfl ?_
      refine zw_aload_n hX dL_law_3300 rfl ?_
      refine zw_iload hX dL_law_3301 rfl ?_
      refine zw_iconst (v := (1 : Int32)) hX dL_law_3303 (by decide) ?_
      refine zw_iadd hX dL_law_3304 ?_
      obtain ⟨v514, g, h⟩ := zb_some h
      refine zw_xi hX dL_law_3305 g ?_
      refine zw_aload_n hX dL_law_3306 rfl ?_
      refine zw_iload hX dL_law_3307 rfl ?_
      refine zw_iconst (v := (2 : Int32)) hX dL_law_3309 (by decide) ?_
      refine zw_iadd hX dL_law_3310 ?_
      obtain ⟨v515, g, h⟩ := zb_some h
      refine zw_xi hX dL_law_3311 g ?_
      obtain ⟨_, gi, h⟩ := zb_some h
      obtain ⟨r517, g, h⟩ := zb_some h
      refine zc_Vi (as := [.int v514, .int v515]) hX gi (zt_X18_signal (d := d - 1) (by omega) g) zl_L_416 rfl dL_law_3312 ⟨rfl, rfl, Nat.le_of_ble_eq_true rfl⟩ ⟨by omega, by omega⟩ ?_
      refine zw_istore hX dL_law_3315 (by decide) ?_
      refine zw_aload_n hX dL_law_3317 rfl ?_
      obtain ⟨_, gi, h⟩ := zb_some h
      obtain ⟨r519, g, h⟩ := zb_some h
      refine zc_Vi (as := []) hX gi (zt_X18_thrown (d := d - 1) (by omega) g) zl_L_281 rfl dL_law_3318 ⟨rfl, rfl, Nat.le_of_ble_eq_true rfl⟩ ⟨by omega, by omega⟩ ?_
      refine zw_iload hX dL_law_3321 rfl ?_
      refine zw_icmp_eq (tgt := 3328) hX dL_law_3323 (by decide) (fun c3323 => ?_) (fun c3323 => ?_)
      · rw [if_pos c3323] at h
        refine zw_iload hX dL_law_3328 rfl ?_
        refine zw_if_ne (tgt := 3345) hX dL_law_3330 (by decide) (fun c3330 => ?_) (fun c3330 => ?_)
        · rw [if_neg c3330] at h
          refine zw_goto (tgt := 6002) hX dL_law_3345 (by decide) ?_
          refine zw_iinc (v := (i4 + (7 : Int32))) hX dL_law_6002 rfl rfl (by decide) ?_
          refine zw_goto (tgt := 23) hX dL_law_6005 (by decide) ?_
          refine zw_sub (lv' := [(0, .ref a0), (1, .ref a1), (2, .ref a2), (3, .ref a3), (4, .int (i4 + (7 : Int32)))]) (List.forall_mem_cons.mpr ⟨rfl, (List.forall_mem_cons.mpr ⟨rfl, (List.forall_mem_cons.mpr ⟨rfl, (List.forall_mem_cons.mpr ⟨rfl, (List.forall_mem_cons.mpr ⟨rfl, zs_nil⟩)⟩)⟩)⟩)⟩) ?_
          exact hrec _ _ _ _ h
        · rw [if_pos c3330] at h
          refine zw_aload_n hX dL_law_3333 rfl ?_
          refine zw_iconst (v := (0 : Int32)) hX dL_law_3334 (by decide) ?_
          obtain ⟨w520, g, h⟩ := zb_some h
          refine zw_xl hX dL_law_3335 g ?_
          refine zw_iload hX dL_law_3336 rfl ?_
          refine zw_i2l hX dL_law_3338 ?_
          refine zw_lcmp hX dL_law_3339 ?_
          refine zw_if_eq (tgt := 3345) hX dL_law_3340 (by decide) (fun c3340 => ?_) (fun c3340 => ?_)
          · rw [if_pos c3340] at h
            refine zw_goto (tgt := 6002) hX dL_law_3345 (by decide) ?_
            refine zw_iinc (v := (i4 + (7 : Int32))) hX dL_law_6002 rfl rfl (by decide) ?_
            refine zw_goto (tgt := 23) hX dL_law_6005 (by decide) ?_
            refine zw_sub (lv' := [(0, .ref a0), (1, .ref a1), (2, .ref a2), (3, .ref a3), (4, .int (i4 + (7 : Int32)))]) (List.forall_mem_cons.mpr ⟨rfl, (List.forall_mem_cons.mpr ⟨rfl, (List.forall_mem_cons.mpr ⟨rfl, (List.forall_mem_cons.mpr ⟨rfl, (List.forall_mem_cons.mpr ⟨rfl, zs_nil⟩)⟩)⟩)⟩)⟩) ?_
            exact hrec _ _ _ _ h
          · rw [if_neg c3340] at h
            refine zw_iconst (v := (0 : Int32)) hX dL_law_3343 (by decide) ?_
            cases h
      · rw [if_neg c3323] at h
        refine zw_iconst (v := (0 : Int32)) hX dL_law_3326 (by decide) ?_
        cases h
    · intro _ _ hx
      exact hx.elim
  · rw [if_neg hb3294] at h
    cases h
def zf_L_law_J3430 (N : Nat) (k : Nat → Nat → Nat → Nat → Int32 → Nat → Nat → zm_S → Option ((Int32 × zm_S) ⊕ ((Unit) × zm_S))) (a0 : Nat) (a1 : Nat) (a2 : Nat) (a3 : Nat) (i4 : Int32) (t0 : Int64) (t1 : Int64) (rc rs : Nat) (S : zm_S) : Option ((Int32 × zm_S) ⊕ ((Unit) × zm_S)) := if (lg_cmp t0 t1) = 0 then k a0 a1 a2 a3 (i4 + (7 : Int32)) rc rs S else none
set_option maxHeartbeats 4000000 in
set_option maxRecDepth 100000 in
theorem zt_L_law_J3430 {p : Program} {l : Launch} {e : Env} {s : State} {m : MethodId} {zb : Nat} {below : List Frame} {meth : Method} {c : Code} {V : zm_V} {d : Nat} {nm : String} (hlt : l.stackTraces = false) (hV : V.2.2.2.1 = s.heap.size) (hX : zm_X p room_1 s m #[Value.ref zb] meth c RL nm cL_law 8 zk_E V 601024 7293034) (hr : meth.sig.returnType = ret) (hR : d ≤ room_1.frames ∧ 64 * d ≤ room_1.locals) (hd : 46 ≤ d) {N : Nat} {k : Nat → Nat → Nat → Nat → Int32 → Nat → Nat → zm_S → Option ((Int32 × zm_S) ⊕ ((Unit) × zm_S))} {rc rs : Nat} {a0 : Nat} {a1 : Nat} {a2 : Nat} {a3 : Nat} {i4 : Int32} {t0 : Int64} {t1 : Int64} {res : (Int32 × zm_S) ⊕ ((Unit) × zm_S)} {out : (Int32 × zm_S)}   (hf : ∀ o, res = .inl o → o = out) (hk : ∀ (S' : zm_S) (rc rs : Nat), res = .inr ((), S') → zw p l e room_1 s m #[Value.ref zb] below meth c (lw_Z below #[Value.ref zb] s) 8 zk_E V 601024 7293034 6008 [] [] S' rc rs) (hrec : ∀ (i4' : Int32) (rc rs : Nat) (S : zm_S), k a0 a1 a2 a3 i4' rc rs S = some res → zw p l e room_1 s m #[Value.ref zb] below meth c (lw_Z below #[Value.ref zb] s) 8 zk_E V 601024 7293034 23 [(0, .ref a0), (1, .ref a1), (2, .ref a2), (3, .ref a3), (4, .int i4')] [] S rc rs) {S : zm_S} (h : zf_L_law_J3430 N k a0 a1 a2 a3 i4 t0 t1 rc rs S = some res) : zw p l e room_1 s m #[Value.ref zb] below meth c (lw_Z below #[Value.ref zb] s) 8 zk_E V 601024 7293034 3430 [(0, .ref a0), (1, .ref a1), (2, .ref a2), (3, .ref a3), (4, .int i4)] [.long t1, .long t0] S rc rs := by
  unfold zf_L_law_J3430 at h
  refine zw_lcmp hX dL_law_3430 ?_
  refine zw_if_eq (tgt := 3436) hX dL_law_3431 (by decide) (fun c3431 => ?_) (fun c3431 => ?_)
  · rw [if_pos c3431] at h
    refine zw_goto (tgt := 6002) hX dL_law_3436 (by decide) ?_
    refine zw_iinc (v := (i4 + (7 : Int32))) hX dL_law_6002 rfl rfl (by decide) ?_
    refine zw_goto (tgt := 23) hX dL_law_6005 (by decide) ?_
    refine zw_sub (lv' := [(0, .ref a0), (1, .ref a1), (2, .ref a2), (3, .ref a3), (4, .int (i4 + (7 : Int32)))]) (List.forall_mem_cons.mpr ⟨rfl, (List.forall_mem_cons.mpr ⟨rfl, (List.forall_mem_cons.mpr ⟨rfl, (List.forall_mem_cons.mpr ⟨rfl, (List.forall_mem_cons.mpr ⟨rfl, zs_nil⟩)⟩)⟩)⟩)⟩) ?_
    exact hrec _ _ _ _ h
  · rw [if_neg c3431] at h
    refine zw_iconst (v := (0 : Int32)) hX dL_law_3434 (by decide) ?_
    cases h
def zf_L_law_J3396 (N : Nat) (k : Nat → Nat → Nat → Nat → Int32 → Nat → Nat → zm_S → Option ((Int32 × zm_S) ⊕ ((Unit) × zm_S))) (a0 : Nat) (a1 : Nat) (a2 : Nat) (a3 : Nat) (i4 : Int32) (i5 : Int32) (t0 : Nat) (t1 : Int32) (t2 : Int32) (rc rs : Nat) (S : zm_S) : Option ((Int32 × zm_S) ⊕ ((Unit) × zm_S)) := (zi S t0 18).bind (fun _ => (zf_X18_fault N t0 t1 t2 S).bind (fun r529 => (zi r529.2 a2 18).bind (fun _ => (zf_X18_thrown N a2 r529.2).bind (fun r531 => if r531.1 = i5 then if i5 = 0 then (za_l r531.2 a3 (0 : Int32)).bind (fun w532 => if r529.1 = 0 then zf_L_law_J3430 N (k) a0 a1 a2 a3 i4 w532 (0 : Int64) rc rs r531.2 else zf_L_law_J3430 N (k) a0 a1 a2 a3 i4 w532 (1 : Int64) rc rs r531.2) else k a0 a1 a2 a3 (i4 + (7 : Int32)) rc rs r531.2 else none))))
set_option maxHeartbeats 4000000 in
set_option maxRecDepth 100000 in
theorem zt_L_law_J3396 {p : Program} {l : Launch} {e : Env} {s : State} {m : MethodId} {zb : Nat} {below : List Frame} {meth : Method} {c : Code} {V : zm_V} {d : Nat} {nm : String} (hlt : l.stackTraces = false) (hV : V.2.2.2.1 = s.heap.size) (hX : zm_X p room_1 s m #[Value.ref zb] meth c RL nm cL_law 8 zk_E V 601024 7293034) (hr : meth.sig.returnType = ret) (hR : d ≤ room_1.frames ∧ 64 * d ≤ room_1.locals) (hd : 46 ≤ d) {N : Nat} {k : Nat → Nat → Nat → Nat → Int32 → Nat → Nat → zm_S → Option ((Int32 × zm_S) ⊕ ((Unit) × zm_S))} {rc rs : Nat} {a0 : Nat} {a1 : Nat} {a2 : Nat} {a3 : Nat} {i4 : Int32} {i5 : Int32} {t0 : Nat} {t1 : Int32} {t2 : Int32} {res : (Int32 × zm_S) ⊕ ((Unit) × zm_S)} {out : (Int32 × zm_S)}   (hf : ∀ o, res = .inl o → o = out) (hk : ∀ (S' : zm_S) (rc rs : Nat), res = .inr ((), S') → zw p l e room_1 s m #[Value.ref zb] below meth c (lw_Z below #[Value.ref zb] s) 8 zk_E V 601024 7293034 6008 [] [] S' rc rs) (hrec : ∀ (i4' : Int32) (rc rs : Nat) (S : zm_S), k a0 a1 a2 a3 i4' rc rs S = some res → zw p l e room_1 s m #[Value.ref zb] below meth c (lw_Z below #[Value.ref zb] s) 8 zk_E V 601024 7293034 23 [(0, .ref a0), (1, .ref a1), (2, .ref a2), (3, .ref a3), (4, .int i4')] [] S rc rs) {S : zm_S} (h : zf_L_law_J3396 N k a0 a1 a2 a3 i4 i5 t0 t1 t2 rc rs S = some res) : zw p l e room_1 s m #[Value.ref zb] below meth c (lw_Z below #[Value.ref zb] s) 8 zk_E V 601024 7293034 3396 [(0, .ref a0), (1, .ref a1), (2, .ref a2), (3, .ref a3), (4, .int i4), (5, .int i5)] [.int t2, .int t1, .ref t0] S rc rs := by
  unfold zf_L_law_J3396 at h
  obtain ⟨_, gi, h⟩ := zb_some h
  obtain ⟨r529, g, h⟩ := zb_some h
  refine zc_Vi (as := [.int t1, .int t2]) hX gi (zt_X18_fault (d := d - 1) (by omega) g) zl_L_419 rfl dL_law_3396 ⟨rfl, rfl, Nat.le_of_ble_eq_true rfl⟩ ⟨by omega, by omega⟩ ?_
  refine zw_istore hX dL_law_3399 (by decide) ?_
  refine zw_aload_n hX dL_law_3401 rfl ?_
  obtain ⟨_, gi, h⟩ := zb_some h
  obtain ⟨r531, g, h⟩ := zb_some h
  refine zc_Vi (as := []) hX gi (zt_X18_thrown (d := d - 1) (by omega) g) zl_L_281 rfl dL_law_3402 ⟨rfl, rfl, Nat.le_of_ble_eq_true rfl⟩ ⟨by omega, by omega⟩ ?_
  refine zw_iload hX dL_law_3405 rfl ?_
  refine zw_icmp_eq (tgt := 3412) hX dL_law_3407 (by decide) (fun c3407 => ?_) (fun c3407 => ?_)
  · rw [if_pos c3407] at h
    refine zw_iload hX dL_law_3412 rfl ?_
    refine zw_if_ne (tgt := 3436) hX dL_law_3414 (by decide) (fun c3414 => ?_) (fun c3414 => ?_)
    · rw [if_neg c3414] at h
      refine zw_goto (tgt := 6002) hX dL_law_3436 (by decide) ?_
      refine zw_iinc (v := (i4 + (7 : Int32))) hX dL_law_6002 rfl rfl (by decide) ?_
      refine zw_goto (tgt := 23) hX dL_law_6005 (by decide) ?_
      refine zw_sub (lv' := [(0, .ref a0), (1, .ref a1), (2, .ref a2), (3, .ref a3), (4, .int (i4 + (7 : Int32)))]) (List.forall_mem_cons.mpr ⟨rfl, (List.forall_mem_cons.mpr ⟨rfl, (List.forall_mem_cons.mpr ⟨rfl, (List.forall_mem_cons.mpr ⟨rfl, (List.forall_mem_cons.mpr ⟨rfl, zs_nil⟩)⟩)⟩)⟩)⟩) ?_
      exact hrec _ _ _ _ h
    · rw [if_pos c3414] at h
      refine zw_aload_n hX dL_law_3417 rfl ?_
      refine zw_iconst (v := (0 : Int32)) hX dL_law_3418 (by decide) ?_
      obtain ⟨w532, g, h⟩ := zb_some h
      refine zw_xl hX dL_law_3419 g ?_
      refine zw_iload hX dL_law_3420 rfl ?_
      refine zw_if_eq (tgt := 3429) hX dL_law_3422 (by decide) (fun c3422 => ?_) (fun c3422 => ?_)
      · rw [if_pos c3422] at h
        refine zw_lconst (v := (0 : Int64)) hX dL_law_3429 (by decide) ?_
        refine zw_sub (lv' := [(0, .ref a0), (1, .ref a1), (2, .ref a2), (3, .ref a3), (4, .int i4)]) (List.forall_mem_cons.mpr ⟨rfl, (List.forall_mem_cons.mpr ⟨rfl, (List.forall_mem_cons.mpr ⟨rfl, (List.forall_mem_cons.mpr ⟨rfl, (List.forall_mem_cons.mpr ⟨rfl, zs_nil⟩)⟩)⟩)⟩)⟩) ?_
        exact zt_L_law_J3430 hlt hV hX hr hR hd hf hk hrec h
      · rw [if_neg c3422] at h
        refine zw_lconst (v := (1 : Int64)) hX dL_law_3425 (by decide) ?_
        refine zw_goto (tgt := 3430) hX dL_law_3426 (by decide) ?_
        refine zw_sub (lv' := [(0, .ref a0), (1, .ref a1), (2, .ref a2), (3, .ref a3), (4, .int i4)]) (List.forall_mem_cons.mpr ⟨rfl, (List.forall_mem_cons.mpr ⟨rfl, (List.forall_mem_cons.mpr ⟨rfl, (List.forall_mem_cons.mpr ⟨rfl, (List.forall_mem_cons.mpr ⟨rfl, zs_nil⟩)⟩)⟩)⟩)⟩) ?_
        exact zt_L_law_J3430 hlt hV hX hr hR hd hf hk hrec h
  · rw [if_neg c3407] at h
    refine zw_iconst (v := (0 : Int32)) hX dL_law_3410 (by decide) ?_
    cases h
def zf_L_law_J3369 (N : Nat) (k : Nat → Nat → Nat → Nat → Int32 → Nat → Nat → zm_S → Option ((Int32 × zm_S) ⊕ ((Unit) × zm_S))) (a0 : Nat) (a1 : Nat) (a2 : Nat) (a3 : Nat) (i4 : Int32) (t0 : Nat) (t1 : Int32) (t2 : Int32) (rc rs : Nat) (S : zm_S) : Option ((Int32 × zm_S) ⊕ ((Unit) × zm_S)) := if 2 ≤ rc ∧ 12 ≤ rs then (zf_L_fault N t0 t1 t2 a3 S).bind (fun r525 => (za_x r525.2 0 a0 (i4 + (1 : Int32))).bind (fun v526 => (za_x r525.2 0 a0 (i4 + (2 : Int32))).bind (fun v527 => if v527 = 0 then zf_L_law_J3396 N (k) a0 a1 a2 a3 i4 r525.1 a2 v526 (0 : Int32) (rc - 2) (rs - 12) r525.2 else zf_L_law_J3396 N (k) a0 a1 a2 a3 i4 r525.1 a2 v526 (1 : Int32) (rc - 2) (rs - 12) r525.2))) else none
set_option maxHeartbeats 4000000 in
set_option maxRecDepth 100000 in
theorem zt_L_law_J3369 {p : Program} {l : Launch} {e : Env} {s : State} {m : MethodId} {zb : Nat} {below : List Frame} {meth : Method} {c : Code} {V : zm_V} {d : Nat} {nm : String} (hlt : l.stackTraces = false) (hV : V.2.2.2.1 = s.heap.size) (hX : zm_X p room_1 s m #[Value.ref zb] meth c RL nm cL_law 8 zk_E V 601024 7293034) (hr : meth.sig.returnType = ret) (hR : d ≤ room_1.frames ∧ 64 * d ≤ room_1.locals) (hd : 46 ≤ d) {N : Nat} {k : Nat → Nat → Nat → Nat → Int32 → Nat → Nat → zm_S → Option ((Int32 × zm_S) ⊕ ((Unit) × zm_S))} {rc rs : Nat} {a0 : Nat} {a1 : Nat} {a2 : Nat} {a3 : Nat} {i4 : Int32} {t0 : Nat} {t1 : Int32} {t2 : Int32} {res : (Int32 × zm_S) ⊕ ((Unit) × zm_S)} {out : (Int32 × zm_S)}   (hf : ∀ o, res = .inl o → o = out) (hk : ∀ (S' : zm_S) (rc rs : Nat), res = .inr ((), S') → zw p l e room_1 s m #[Value.ref zb] below meth c (lw_Z below #[Value.ref zb] s) 8 zk_E V 601024 7293034 6008 [] [] S' rc rs) (hrec : ∀ (i4' : Int32) (rc rs : Nat) (S : zm_S), k a0 a1 a2 a3 i4' rc rs S = some res → zw p l e room_1 s m #[Value.ref zb] below meth c (lw_Z below #[Value.ref zb] s) 8 zk_E V 601024 7293034 23 [(0, .ref a0), (1, .ref a1), (2, .ref a2), (3, .ref a3), (4, .int i4')] [] S rc rs) {S : zm_S} (h : zf_L_law_J3369 N k a0 a1 a2 a3 i4 t0 t1 t2 rc rs S = some res) : zw p l e room_1 s m #[Value.ref zb] below meth c (lw_Z below #[Value.ref zb] s) 8 zk_E V 601024 7293034 3369 [(0, .ref a0), (1, .ref a1), (2, .ref a2), (3, .ref a3), (4, .int i4)] [.int t2, .int t1, .ref t0] S rc rs := by
  unfold zf_L_law_J3369 at h
  refine zw_aload_n hX dL_law_3369 rfl ?_
  by_cases hb3370 : 2 ≤ rc ∧ 12 ≤ rs
  · rw [if_pos hb3370] at h
    obtain ⟨r525, g, h⟩ := zb_some h
    refine zc_S (as := [.ref t0, .int t1, .int t2, .ref a3]) hX (zt_L_fault hlt (d := d - 1) (by omega) g) zl_L_417 dL_law_3370 ⟨rfl, rfl, Nat.le_of_ble_eq_true rfl⟩ ⟨by omega, by omega⟩ hb3370 ?_ ?_
    · rintro _ _ ⟨rfl, rfl⟩
      refine zw_istore hX dL_law_3373 (by decide) ?_
      refine zw_aload_n hX dL_law_3375 rfl ?_
      refine zw_aload_n hX dL_law_3376 rfl ?_
      refine zw_iload hX dL_law_3377 rfl ?_
      refine zw_iconst (v := (1 : Int32)) hX dL_law_3379 (by decide) ?_
      refine zw_iadd hX dL_law_3380 ?_
      obtain ⟨v526, g, h⟩ := zb_some h
      refine zw_xi hX dL_law_3381 g ?_
      refine zw_aload_n hX dL_law_3382 rfl ?_
      refine zw_iload hX dL_law_3383 rfl ?_
      refine zw_iconst (v := (2 : Int32)) hX dL_law_3385 (by decide) ?_
      refine zw_iadd hX dL_law_3386 ?_
      obtain ⟨v527, g, h⟩ := zb_some h
      refine zw_xi hX dL_law_3387 g ?_
      refine zw_if_eq (tgt := 3395) hX dL_law_3388 (by decide) (fun c3388 => ?_) (fun c3388 => ?_)
      · rw [if_pos c3388] at h
        refine zw_iconst (v := (0 : Int32)) hX dL_law_3395 (by decide) ?_
        refine zw_sub (lv' := [(0, .ref a0), (1, .ref a1), (2, .ref a2), (3, .ref a3), (4, .int i4), (5, .int r525.1)]) (List.forall_mem_cons.mpr ⟨rfl, (List.forall_mem_cons.mpr ⟨rfl, (List.forall_mem_cons.mpr ⟨rfl, (List.forall_mem_cons.mpr ⟨rfl, (List.forall_mem_cons.mpr ⟨rfl, (List.forall_mem_cons.mpr ⟨rfl, zs_nil⟩)⟩)⟩)⟩)⟩)⟩) ?_
        exact zt_L_law_J3396 hlt hV hX hr hR hd hf hk hrec h
      · rw [if_neg c3388] at h
        refine zw_iconst (v := (1 : Int32)) hX dL_law_3391 (by decide) ?_
        refine zw_goto (tgt := 3396) hX dL_law_3392 (by decide) ?_
        refine zw_sub (lv' := [(0, .ref a0), (1, .ref a1), (2, .ref a2), (3, .ref a3), (4, .int i4), (5, .int r525.1)]) (List.forall_mem_cons.mpr ⟨rfl, (List.forall_mem_cons.mpr ⟨rfl, (List.forall_mem_cons.mpr ⟨rfl, (List.forall_mem_cons.mpr ⟨rfl, (List.forall_mem_cons.mpr ⟨rfl, (List.forall_mem_cons.mpr ⟨rfl, zs_nil⟩)⟩)⟩)⟩)⟩)⟩) ?_
        exact zt_L_law_J3396 hlt hV hX hr hR hd hf hk hrec h
    · intro _ _ hx
      exact hx.elim
  · rw [if_neg hb3370] at h
    cases h
def zf_L_law_J3348 (N : Nat) (k : Nat → Nat → Nat → Nat → Int32 → Nat → Nat → zm_S → Option ((Int32 × zm_S) ⊕ ((Unit) × zm_S))) (a0 : Nat) (a1 : Nat) (a2 : Nat) (a3 : Nat) (i4 : Int32) (rc rs : Nat) (S : zm_S) : Option ((Int32 × zm_S) ⊕ ((Unit) × zm_S)) := (za_x S 0 a0 (i4 + (1 : Int32))).bind (fun v521 => (za_x S 0 a0 (i4 + (2 : Int32))).bind (fun v522 => if v522 = 0 then zf_L_law_J3369 N (k) a0 a1 a2 a3 i4 a1 v521 (0 : Int32) rc rs S else zf_L_law_J3369 N (k) a0 a1 a2 a3 i4 a1 v521 (1 : Int32) rc rs S))
set_option maxHeartbeats 4000000 in
set_option maxRecDepth 100000 in
theorem zt_L_law_J3348 {p : Program} {l : Launch} {e : Env} {s : State} {m : MethodId} {zb : Nat} {below : List Frame} {meth : Method} {c : Code} {V : zm_V} {d : Nat} {nm : String} (hlt : l.stackTraces = false) (hV : V.2.2.2.1 = s.heap.size) (hX : zm_X p room_1 s m #[Value.ref zb] meth c RL nm cL_law 8 zk_E V 601024 7293034) (hr : meth.sig.returnType = ret) (hR : d ≤ room_1.frames ∧ 64 * d ≤ room_1.locals) (hd : 46 ≤ d) {N : Nat} {k : Nat → Nat → Nat → Nat → Int32 → Nat → Nat → zm_S → Option ((Int32 × zm_S) ⊕ ((Unit) × zm_S))} {rc rs : Nat} {a0 : Nat} {a1 : Nat} {a2 : Nat} {a3 : Nat} {i4 : Int32} {res : (Int32 × zm_S) ⊕ ((Unit) × zm_S)} {out : (Int32 × zm_S)}   (hf : ∀ o, res = .inl o → o = out) (hk : ∀ (S' : zm_S) (rc rs : Nat), res = .inr ((), S') → zw p l e room_1 s m #[Value.ref zb] below meth c (lw_Z below #[Value.ref zb] s) 8 zk_E V 601024 7293034 6008 [] [] S' rc rs) (hrec : ∀ (i4' : Int32) (rc rs : Nat) (S : zm_S), k a0 a1 a2 a3 i4' rc rs S = some res → zw p l e room_1 s m #[Value.ref zb] below meth c (lw_Z below #[Value.ref zb] s) 8 zk_E V 601024 7293034 23 [(0, .ref a0), (1, .ref a1), (2, .ref a2), (3, .ref a3), (4, .int i4')] [] S rc rs) {S : zm_S} (h : zf_L_law_J3348 N k a0 a1 a2 a3 i4 rc rs S = some res) : zw p l e room_1 s m #[Value.ref zb] below meth c (lw_Z below #[Value.ref zb] s) 8 zk_E V 601024 7293034 3348 [(0, .ref a0), (1, .ref a1), (2, .ref a2), (3, .ref a3), (4, .int i4)] [] S rc rs := by
  unfold zf_L_law_J3348 at h
  refine zw_aload_n hX dL_law_3348 rfl ?_
  refine zw_aload_n hX dL_law_3349 rfl ?_
  refine zw_iload hX dL_law_3350 rfl ?_
  refine zw_iconst (v := (1 : Int32)) hX dL_law_3352 (by decide) ?_
  refine zw_iadd hX dL_law_3353 ?_
  obtain ⟨v521, g, h⟩ := zb_some h
  refine zw_xi hX dL_law_3354 g ?_
  refine zw_aload_n hX dL_law_3355 rfl ?_
  refine zw_iload hX dL_law_3356 rfl ?_
  refine zw_iconst (v := (2 : Int32)) hX dL_law_3358 (by decide) ?_
  refine zw_iadd hX dL_law_3359 ?_
  obtain ⟨v522, g, h⟩ := zb_some h
  refine zw_xi hX dL_law_3360 g ?_
  refine zw_if_eq (tgt := 3368) hX dL_law_3361 (by decide) (fun c3361 => ?_) (fun c3361 => ?_)
  · rw [if_pos c3361] at h
    refine zw_iconst (v := (0 : Int32)) hX dL_law_3368 (by decide) ?_
    refine zw_sub (lv' := [(0, .ref a0), (1, .ref a1), (2, .ref a2), (3, .ref a3), (4, .int i4)]) (List.forall_mem_cons.mpr ⟨rfl, (List.forall_mem_cons.mpr ⟨rfl, (List.forall_mem_cons.mpr ⟨rfl, (List.forall_mem_cons.mpr ⟨rfl, (List.forall_mem_cons.mpr ⟨rfl, zs_nil⟩)⟩)⟩)⟩)⟩) ?_
    exact zt_L_law_J3369 hlt hV hX hr hR hd hf hk hrec h
  · rw [if_neg c3361] at h
    refine zw_iconst (v := (1 : Int32)) hX dL_law_3364 (by decide) ?_
    refine zw_goto (tgt := 3369) hX dL_law_3365 (by decide) ?_
    refine zw_sub (lv' := [(0, .ref a0), (1, .ref a1), (2, .ref a2), (3, .ref a3), (4, .int i4)]) (List.forall_mem_cons.mpr ⟨rfl, (List.forall_mem_cons.mpr ⟨rfl, (List.forall_mem_cons.mpr ⟨rfl, (List.forall_mem_cons.mpr ⟨rfl, (List.forall_mem_cons.mpr ⟨rfl, zs_nil⟩)⟩)⟩)⟩)⟩) ?_
    exact zt_L_law_J3369 hlt hV hX hr hR hd hf hk hrec h
def zf_L_law_J3439 (N : Nat) (k : Nat → Nat → Nat → Nat → Int32 → Nat → Nat → zm_S → Option ((Int32 × zm_S) ⊕ ((Unit) × zm_S))) (a0 : Nat) (a1 : Nat) (a2 : Nat) (a3 : Nat) (i4 : Int32) (rc rs : Nat) (S : zm_S) : Option ((Int32 × zm_S) ⊕ ((Unit) × zm_S)) := (za_x S 0 a0 (i4 + (1 : Int32))).bind (fun v533 => (za_x S 0 a0 (i4 + (2 : Int32))).bind (fun v534 => if 2 ≤ rc ∧ 12 ≤ rs then (zf_L_disable N a1 v533 v534 a3 S).bind (fun r537 => (za_x r537.2 0 a0 (i4 + (1 : Int32))).bind (fun v538 => (za_x r537.2 0 a0 (i4 + (2 : Int32))).bind (fun v539 => (zi r537.2 a2 18).bind (fun _ => (zf_X18_disable N a2 v538 v539 r537.2).bind (fun r541 => (zi r541.2 a2 18).bind (fun _ => (zf_X18_thrown N a2 r541.2).bind (fun r543 => if r543.1 = r537.1 then if r537.1 = 0 then (za_l r543.2 a3 (0 : Int32)).bind (fun w544 => if (lg_cmp w544 ((r541.1).toInt64)) = 0 then k a0 a1 a2 a3 (i4 + (7 : Int32)) (rc - 2) (rs - 12) r543.2 else none) else k a0 a1 a2 a3 (i4 + (7 : Int32)) (rc - 2) (rs - 12) r543.2 else none))))))) else none))
set_option maxHeartbeats 4000000 in
set_option maxRecDepth 100000 in
theorem zt_L_law_J3439 {p : Program} {l : Launch} {e : Env} {s : State} {m : MethodId} {zb : Nat} {below : List Frame} {meth : Method} {c : Code} {V : zm_V} {d : Nat} {nm : String} (hlt : l.stackTraces = false) (hV : V.2.2.2.1 = s.heap.size) (hX : zm_X p room_1 s m #[Value.ref zb] meth c RL nm cL_law 8 zk_E V 601024 7293034) (hr : meth.sig.returnType = ret) (hR : d ≤ room_1.frames ∧ 64 * d ≤ room_1.locals) (hd : 46 ≤ d) {N : Nat} {k : Nat → Nat → Nat → Nat → Int32 → Nat → Nat → zm_S → Option ((Int32 × zm_S) ⊕ ((Unit) × zm_S))} {rc rs : Nat} {a0 : Nat} {a1 : Nat} {a2 : Nat} {a3 : Nat} {i4 : Int32} {res : (Int32 × zm_S) ⊕ ((Unit) × zm_S)} {out : (Int32 × zm_S)}   (hf : ∀ o, res = .inl o → o = out) (hk : ∀ (S' : zm_S) (rc rs : Nat), res = .inr ((), S') → zw p l e room_1 s m #[Value.ref zb] below meth c (lw_Z below #[Value.ref zb] s) 8 zk_E V 601024 7293034 6008 [] [] S' rc rs) (hrec : ∀ (i4' : Int32) (rc rs : Nat) (S : zm_S), k a0 a1 a2 a3 i4' rc rs S = some res → zw p l e room_1 s m #[Value.ref zb] below meth c (lw_Z below #[Value.ref zb] s) 8 zk_E V 601024 7293034 23 [(0, .ref a0), (1, .ref a1), (2, .ref a2), (3, .ref a3), (4, .int i4')] [] S rc rs) {S : zm_S} (h : zf_L_law_J3439 N k a0 a1 a2 a3 i4 rc rs S = some res) : zw p l e room_1 s m #[Value.ref zb] below meth c (lw_Z below #[Value.ref zb] s) 8 zk_E V 601024 7293034 3439 [(0, .ref a0), (1, .ref a1), (2, .ref a2), (3, .ref a3), (4, .int i4)] [] S rc rs := by
  unfold zf_L_law_J3439 at h
  refine zw_aload_n hX dL_law_3439 rfl ?_
  refine zw_aload_n hX dL_law_3440 rfl ?_
  refine zw_iload hX dL_law_3441 rfl ?_
  refine zw_iconst (v := (1 : Int32)) hX dL_law_3443 (by decide) ?_
  refine zw_iadd hX dL_law_3444 ?_
  obtain ⟨v533, g, h⟩ := zb_some h
  refine zw_xi hX dL_law_3445 g ?_
  refine zw_aload_n hX dL_law_3446 rfl ?_
  refine zw_iload hX dL_law_3447 rfl ?_
  refine zw_iconst (v := (2 : Int32)) hX dL_law_3449 (by decide) ?_
  refine zw_iadd hX dL_law_3450 ?_
  obtain ⟨v534, g, h⟩ := zb_some h
  refine zw_xi hX dL_law_3451 g ?_
  refine zw_aload_n hX dL_law_3452 rfl ?_
  by_cases hb3453 : 2 ≤ rc ∧ 12 ≤ rs
  · rw [if_pos hb3453] at h
    obtain ⟨r537, g, h⟩ := zb_some h
    refine zc_S (as := [.ref a1, .int v533, .int v534, .ref a3]) hX (zt_L_disable hlt (d := d - 1) (by omega) g) zl_L_420 dL_law_3453 ⟨rfl, rfl, Nat.le_of_ble_eq_true rfl⟩ ⟨by omega, by omega⟩ hb3453 ?_ ?_
    · rintro _ _ ⟨rfl, rfl⟩
      refine zw_istore hX dL_law_3456 (by decide) ?_
      refine zw_aload_n hX dL_law_3458 rfl ?_
      refine zw_aload_n hX dL_law_3459 rfl ?_
      refine zw_iload hX dL_law_3460 rfl ?_
      refine zw_iconst (v := (1 : Int32)) hX dL_law_3462 (by decide) ?_
      refine zw_iadd hX dL_law_3463 ?_
      obtain ⟨v538, g, h⟩ := zb_some h
      refine zw_xi hX dL_law_3464 g ?_
      refine zw_aload_n hX dL_law_3465 rfl ?_
      refine zw_iload hX dL_law_3466 rfl ?_
      refine zw_iconst (v := (2 : Int32)) hX dL_law_3468 (by decide) ?_
      refine zw_iadd hX dL_law_3469 ?_
      obtain ⟨v539, g, h⟩ := zb_some h
      refine zw_xi hX dL_law_3470 g ?_
      obtain ⟨_, gi, h⟩ := zb_some h
      obtain ⟨r541, g, h⟩ := zb_some h
      refine zc_Vi (as := [.int v538, .int v539]) hX gi (zt_X18_disable (d := d - 1) (by omega) g) zl_L_422 rfl dL_law_3471 ⟨rfl, rfl, Nat.le_of_ble_eq_true rfl⟩ ⟨by omega, by omega⟩ ?_
      refine zw_istore hX dL_law_3474 (by decide) ?_
      refine zw_aload_n hX dL_law_3476 rfl ?_
      obtain ⟨_, gi, h⟩ := zb_some h
      obtain ⟨r543, g, h⟩ := zb_some h
      refine zc_Vi (as := []) hX gi (zt_X18_thrown (d := d - 1) (by omega) g) zl_L_281 rfl dL_law_3477 ⟨rfl, rfl, Nat.le_of_ble_eq_true rfl⟩ ⟨by omega, by omega⟩ ?_
      refine zw_iload hX dL_law_3480 rfl ?_
      refine zw_icmp_eq (tgt := 3487) hX dL_law_3482 (by decide) (fun c3482 => ?_) (fun c3482 => ?_)
      · rw [if_pos c3482] at h
        refine zw_iload hX dL_law_3487 rfl ?_
        refine zw_if_ne (tgt := 3504) hX dL_law_3489 (by decide) (fun c3489 => ?_) (fun c3489 => ?_)
        · rw [if_neg c3489] at h
          refine zw_goto (tgt := 6002) hX dL_law_3504 (by decide) ?_
          refine zw_iinc (v := (i4 + (7 : Int32))) hX dL_law_6002 rfl rfl (by decide) ?_
          refine zw_goto (tgt := 23) hX dL_law_6005 (by decide) ?_
          refine zw_sub (lv' := [(0, .ref a0), (1, .ref a1), (2, .ref a2), (3, .ref a3), (4, .int (i4 + (7 : Int32)))]) (List.forall_mem_cons.mpr ⟨rfl, (List.forall_mem_cons.mpr ⟨rfl, (List.forall_mem_cons.mpr ⟨rfl, (List.forall_mem_cons.mpr ⟨rfl, (List.forall_mem_cons.mpr ⟨rfl, zs_nil⟩)⟩)⟩)⟩)⟩) ?_
          exact hrec _ _ _ _ h
        · rw [if_pos c3489] at h
          refine zw_aload_n hX dL_law_3492 rfl ?_
          refine zw_iconst (v := (0 : Int32)) hX dL_law_3493 (by decide) ?_
          obtain ⟨w544, g, h⟩ := zb_some h
          refine zw_xl hX dL_law_3494 g ?_
          refine zw_iload hX dL_law_3495 rfl ?_
          refine zw_i2l hX dL_law_3497 ?_
          refine zw_lcmp hX dL_law_3498 ?_
          refine zw_if_eq (tgt := 3504) hX dL_law_3499 (by decide) (fun c3499 => ?_) (fun c3499 => ?_)
          · rw [if_pos c3499] at h
            refine zw_goto (tgt := 6002) hX dL_law_3504 (by decide) ?_
            refine zw_iinc (v := (i4 + (7 : Int32))) hX dL_law_6002 rfl rfl (by decide) ?_
            refine zw_goto (tgt := 23) hX dL_law_6005 (by decide) ?_
            refine zw_sub (lv' := [(0, .ref a0), (1, .ref a1), (2, .ref a2), (3, .ref a3), (4, .int (i4 + (7 : Int32)))]) (List.forall_mem_cons.mpr ⟨rfl, (List.forall_mem_cons.mpr ⟨rfl, (List.forall_mem_cons.mpr ⟨rfl, (List.forall_mem_cons.mpr ⟨rfl, (List.forall_mem_cons.mpr ⟨rfl, zs_nil⟩)⟩)⟩)⟩)⟩) ?_
            exact hrec _ _ _ _ h
          · rw [if_neg c3499] at h
            refine zw_iconst (v := (0 : Int32)) hX dL_law_3502 (by decide) ?_
            cases h
      · rw [if_neg c3482] at h
        refine zw_iconst (v := (0 : Int32)) hX dL_law_3485 (by decide) ?_
        cases h
    · intro _ _ hx
      exact hx.elim
  · rw [if_neg hb3453] at h
    cases h
def zf_L_law_J3507 (N : Nat) (k : Nat → Nat → Nat → Nat → Int32 → Nat → Nat → zm_S → Option ((Int32 × zm_S) ⊕ ((Unit) × zm_S))) (a0 : Nat) (a1 : Nat) (a2 : Nat) (a3 : Nat) (i4 : Int32) (rc rs : Nat) (S : zm_S) : Option ((Int32 × zm_S) ⊕ ((Unit) × zm_S)) := (za_x S 0 a0 (i4 + (1 : Int32))).bind (fun v545 => if 2 ≤ rc ∧ 12 ≤ rs then (zf_L_attend N a1 v545 a3 S).bind (fun r548 => (za_x r548.2 0 a0 (i4 + (1 : Int32))).bind (fun v549 => (zi r548.2 a2 18).bind (fun _ => (zf_X18_attend N a2 v549 r548.2).bind (fun r551 => (zi r551.2 a2 18).bind (fun _ => (zf_X18_thrown N a2 r551.2).bind (fun r553 => if r553.1 = r548.1 then if r548.1 = 0 then (za_l r553.2 a3 (0 : Int32)).bind (fun w554 => if (lg_cmp w554 ((r551.1).toInt64)) = 0 then k a0 a1 a2 a3 (i4 + (7 : Int32)) (rc - 2) (rs - 12) r553.2 else none) else k a0 a1 a2 a3 (i4 + (7 : Int32)) (rc - 2) (rs - 12) r553.2 else none)))))) else none)
set_option maxHeartbeats 4000000 in
set_option maxRecDepth 100000 in
theorem zt_L_law_J3507 {p : Program} {l : Launch} {e : Env} {s : State} {m : MethodId} {zb : Nat} {below : List Frame} {meth : Method} {c : Code} {V : zm_V} {d : Nat} {nm : String} (hlt : l.stackTraces = false) (hV : V.2.2.2.1 = s.heap.size) (hX : zm_X p room_1 s m #[Value.ref zb] meth c RL nm cL_law 8 zk_E V 601024 7293034) (hr : meth.sig.returnType = ret) (hR : d ≤ room_1.frames ∧ 64 * d ≤ room_1.locals) (hd : 46 ≤ d) {N : Nat} {k : Nat → Nat → Nat → Nat → Int32 → Nat → Nat → zm_S → Option ((Int32 × zm_S) ⊕ ((Unit) × zm_S))} {rc rs : Nat} {a0 : Nat} {a1 : Nat} {a2 : Nat} {a3 : Nat} {i4 : Int32} {res : (Int32 × zm_S) ⊕ ((Unit) × zm_S)} {out : (Int32 × zm_S)}   (hf : ∀ o, res = .inl o → o = out) (hk : ∀ (S' : zm_S) (rc rs : Nat), res = .inr ((), S') → zw p l e room_1 s m #[Value.ref zb] below meth c (lw_Z below #[Value.ref zb] s) 8 zk_E V 601024 7293034 6008 [] [] S' rc rs) (hrec : ∀ (i4' : Int32) (rc rs : Nat) (S : zm_S), k a0 a1 a2 a3 i4' rc rs S = some res → zw p l e room_1 s m #[Value.ref zb] below meth c (lw_Z below #[Value.ref zb] s) 8 zk_E V 601024 7293034 23 [(0, .ref a0), (1, .ref a1), (2, .ref a2), (3, .ref a3), (4, .int i4')] [] S rc rs) {S : zm_S} (h : zf_L_law_J3507 N k a0 a1 a2 a3 i4 rc rs S = some res) : zw p l e room_1 s m #[Value.ref zb] below meth c (lw_Z below #[Value.ref zb] s) 8 zk_E V 601024 7293034 3507 [(0, .ref a0), (1, .ref a1), (2, .ref a2), (3, .ref a3), (4, .int i4)] [] S rc rs := by
  unfold zf_L_law_J3507 at h
  refine zw_aload_n hX dL_law_3507 rfl ?_
  refine zw_aload_n hX dL_law_3508 rfl ?_
  refine zw_iload hX dL_law_3509 rfl ?_
  refine zw_iconst (v := (1 : Int32)) hX dL_law_3511 (by decide) ?_
  refine zw_iadd hX dL_law_3512 ?_
  obtain ⟨v545, g, h⟩ := zb_some h
  refine zw_xi hX dL_law_3513 g ?_
  refine zw_aload_n hX dL_law_3514 rfl ?_
  by_cases hb3515 : 2 ≤ rc ∧ 12 ≤ rs
  · rw [if_pos hb3515] at h
    obtain ⟨r548, g, h⟩ := zb_some h
    refine zc_S (as := [.ref a1, .int v545, .ref a3]) hX (zt_L_attend hlt (d := d - 1) (by omega) g) zl_L_423 dL_law_3515 ⟨rfl, rfl, Nat.le_of_ble_eq_true rfl⟩ ⟨by omega, by omega⟩ hb3515 ?_ ?_
    · rintro _ _ ⟨rfl, rfl⟩
      refine zw_istore hX dL_law_3518 (by decide) ?_
      refine zw_aload_n hX dL_law_3520 rfl ?_
      refine zw_aload_n hX dL_law_3521 rfl ?_
      refine zw_iload hX dL_law_3522 rfl ?_
      refine zw_iconst (v := (1 : Int32)) hX dL_law_3524 (by decide) ?_
      refine zw_iadd hX dL_law_3525 ?_
      obtain ⟨v549, g, h⟩ := zb_some h
      refine zw_xi hX dL_law_3526 g ?_
      obtain ⟨_, gi, h⟩ := zb_some h
      obtain ⟨r551, g, h⟩ := zb_some h
      refine zc_Vi (as := [.int v549]) hX gi (zt_X18_attend (d := d - 1) (by omega) g) zl_L_425 rfl dL_law_3527 ⟨rfl, rfl, Nat.le_of_ble_eq_true rfl⟩ ⟨by omega, by omega⟩ ?_
      refine zw_istore hX dL_law_3530 (by decide) ?_
      refine zw_aload_n hX dL_law_3532 rfl ?_
      obtain ⟨_, gi, h⟩ := zb_some h
      obtain ⟨r553, g, h⟩ := zb_some h
      refine zc_Vi (as := []) hX gi (zt_X18_thrown (d := d - 1) (by omega) g) zl_L_281 rfl dL_law_3533 ⟨rfl, rfl, Nat.le_of_ble_eq_true rfl⟩ ⟨by omega, by omega⟩ ?_
      refine zw_iload hX dL_law_3536 rfl ?_
      refine zw_icmp_eq (tgt := 3543) hX dL_law_3538 (by decide) (fun c3538 => ?_) (fun c3538 => ?_)
      · rw [if_pos c3538] at h
        refine zw_iload hX dL_law_3543 rfl ?_
        refine zw_if_ne (tgt := 3560) hX dL_law_3545 (by decide) (fun c3545 => ?_) (fun c3545 => ?_)
        · rw [if_neg c3545] at h
          refine zw_goto (tgt := 6002) hX dL_law_3560 (by decide) ?_
          refine zw_iinc (v := (i4 + (7 : Int32))) hX dL_law_6002 rfl rfl (by decide) ?_
          refine zw_goto (tgt := 23) hX dL_law_6005 (by decide) ?_
          refine zw_sub (lv' := [(0, .ref a0), (1, .ref a1), (2, .ref a2), (3, .ref a3), (4, .int (i4 + (7 : Int32)))]) (List.forall_mem_cons.mpr ⟨rfl, (List.forall_mem_cons.mpr ⟨rfl, (List.forall_mem_cons.mpr ⟨rfl, (List.forall_mem_cons.mpr ⟨rfl, (List.forall_mem_cons.mpr ⟨rfl, zs_nil⟩)⟩)⟩)⟩)⟩) ?_
          exact hrec _ _ _ _ h
        · rw [if_pos c3545] at h
          refine zw_aload_n hX dL_law_3548 rfl ?_
          refine zw_iconst (v := (0 : Int32)) hX dL_law_3549 (by decide) ?_
          obtain ⟨w554, g, h⟩ := zb_some h
          refine zw_xl hX dL_law_3550 g ?_
          refine zw_iload hX dL_law_3551 rfl ?_
          refine zw_i2l hX dL_law_3553 ?_
          refine zw_lcmp hX dL_law_3554 ?_
          refine zw_if_eq (tgt := 3560) hX dL_law_3555 (by decide) (fun c3555 => ?_) (fun c3555 => ?_)
          · rw [if_pos c3555] at h
            refine zw_goto (tgt := 6002) hX dL_law_3560 (by decide) ?_
            refine zw_iinc (v := (i4 + (7 : Int32))) hX dL_law_6002 rfl rfl (by decide) ?_
            refine zw_goto (tgt := 23) hX dL_law_6005 (by decide) ?_
            refine zw_sub (lv' := [(0, .ref a0), (1, .ref a1), (2, .ref a2), (3, .ref a3), (4, .int (i4 + (7 : Int32)))]) (List.forall_mem_cons.mpr ⟨rfl, (List.forall_mem_cons.mpr ⟨rfl, (List.forall_mem_cons.mpr ⟨rfl, (List.forall_mem_cons.mpr ⟨rfl, (List.forall_mem_cons.mpr ⟨rfl, zs_nil⟩)⟩)⟩)⟩)⟩) ?_
            exact hrec _ _ _ _ h
          · rw [if_neg c3555] at h
            refine zw_iconst (v := (0 : Int32)) hX dL_law_3558 (by decide) ?_
            cases h
      · rw [if_neg c3538] at h
        refine zw_iconst (v := (0 : Int32)) hX dL_law_3541 (by decide) ?_
        cases h
    · intro _ _ hx
      exact hx.elim
  · rw [if_neg hb3515] at h
    cases h
def zf_L_law_J3563 (N : Nat) (k : Nat → Nat → Nat → Nat → Int32 → Nat → Nat → zm_S → Option ((Int32 × zm_S) ⊕ ((Unit) × zm_S))) (a0 : Nat) (a1 : Nat) (a2 : Nat) (a3 : Nat) (i4 : Int32) (rc rs : Nat) (S : zm_S) : Option ((Int32 × zm_S) ⊕ ((Unit) × zm_S)) := if 1 ≤ rc ∧ 6 ≤ rs then (zf_L_reset N a1 a3 S).bind (fun r557 => (zi r557.2 a2 18).bind (fun _ => (zf_X18_reset N a2 r557.2).bind (fun r559 => (zi r559.2 a2 18).bind (fun _ => (zf_X18_thrown N a2 r559.2).bind (fun r561 => if r561.1 = r557.1 then if r557.1 = 0 then (za_l r561.2 a3 (0 : Int32)).bind (fun w562 => if (lg_cmp w562 ((r559.1).toInt64)) = 0 then k a0 a1 a2 a3 (i4 + (7 : Int32)) (rc - 1) (rs - 6) r561.2 else none) else k a0 a1 a2 a3 (i4 + (7 : Int32)) (rc - 1) (rs - 6) r561.2 else none))))) else none
set_option maxHeartbeats 4000000 in
set_option maxRecDepth 100000 in
theorem zt_L_law_J3563 {p : Program} {l : Launch} {e : Env} {s : State} {m : MethodId} {zb : Nat} {below : List Frame} {meth : Method} {c : Code} {V : zm_V} {d : Nat} {nm : String} (hlt : l.stackTraces = false) (hV : V.2.2.2.1 = s.heap.size) (hX : zm_X p room_1 s m #[Value.ref zb] meth c RL nm cL_law 8 zk_E V 601024 7293034) (hr : meth.sig.returnType = ret) (hR : d ≤ room_1.frames ∧ 64 * d ≤ room_1.locals) (hd : 46 ≤ d) {N : Nat} {k : Nat → Nat → Nat → Nat → Int32 → Nat → Nat → zm_S → Option ((Int32 × zm_S) ⊕ ((Unit) × zm_S))} {rc rs : Nat} {a0 : Nat} {a1 : Nat} {a2 : Nat} {a3 : Nat} {i4 : Int32} {res : (Int32 × zm_S) ⊕ ((Unit) × zm_S)} {out : (Int32 × zm_S)}   (hf : ∀ o, res = .inl o → o = out) (hk : ∀ (S' : zm_S) (rc rs : Nat), res = .inr ((), S') → zw p l e room_1 s m #[Value.ref zb] below meth c (lw_Z below #[Value.ref zb] s) 8 zk_E V 601024 7293034 6008 [] [] S' rc rs) (hrec : ∀ (i4' : Int32) (rc rs : Nat) (S : zm_S), k a0 a1 a2 a3 i4' rc rs S = some res → zw p l e room_1 s m #[Value.ref zb] below meth c (lw_Z below #[Value.ref zb] s) 8 zk_E V 601024 7293034 23 [(0, .ref a0), (1, .ref a1), (2, .ref a2), (3, .ref a3), (4, .int i4')] [] S rc rs) {S : zm_S} (h : zf_L_law_J3563 N k a0 a1 a2 a3 i4 rc rs S = some res) : zw p l e room_1 s m #[Value.ref zb] below meth c (lw_Z below #[Value.ref zb] s) 8 zk_E V 601024 7293034 3563 [(0, .ref a0), (1, .ref a1), (2, .ref a2), (3, .ref a3), (4, .int i4)] [] S rc rs := by
  unfold zf_L_law_J3563 at h
  refine zw_aload_n hX dL_law_3563 rfl ?_
  refine zw_aload_n hX dL_law_3564 rfl ?_
  by_cases hb3565 : 1 ≤ rc ∧ 6 ≤ rs
  · rw [if_pos hb3565] at h
    obtain ⟨r557, g, h⟩ := zb_some h
    refine zc_S (as := [.ref a1, .ref a3]) hX (zt_L_reset hlt (d := d - 1) (by omega) g) zl_L_426 dL_law_3565 ⟨rfl, rfl, Nat.le_of_ble_eq_true rfl⟩ ⟨by omega, by omega⟩ hb3565 ?_ ?_
    · rintro _ _ ⟨rfl, rfl⟩
      refine zw_istore hX dL_law_3568 (by decide) ?_
      refine zw_aload_n hX dL_law_3570 rfl ?_
      obtain ⟨_, gi, h⟩ := zb_some h
      obtain ⟨r559, g, h⟩ := zb_some h
      refine zc_Vi (as := []) hX gi (zt_X18_reset (d := d - 1) (by omega) g) zl_L_428 rfl dL_law_3571 ⟨rfl, rfl, Nat.le_of_ble_eq_true rfl⟩ ⟨by omega, by omega⟩ ?_
      refine zw_istore hX dL_law_3574 (by decide) ?_
      refine zw_aload_n hX dL_law_3576 rfl ?_
      obtain ⟨_, gi, h⟩ := zb_some h
      obtain ⟨r561, g, h⟩ := zb_some h
      refine zc_Vi (as := []) hX gi (zt_X18_thrown (d := d - 1) (by omega) g) zl_L_281 rfl dL_law_3577 ⟨rfl, rfl, Nat.le_of_ble_eq_true rfl⟩ ⟨by omega, by omega⟩ ?_
      refine zw_iload hX dL_law_3580 rfl ?_
      refine zw_icmp_eq (tgt := 3587) hX dL_law_3582 (by decide) (fun c3582 => ?_) (fun c3582 => ?_)
      · rw [if_pos c3582] at h
        refine zw_iload hX dL_law_3587 rfl ?_
        refine zw_if_ne (tgt := 3604) hX dL_law_3589 (by decide) (fun c3589 => ?_) (fun c3589 => ?_)
        · rw [if_neg c3589] at h
          refine zw_goto (tgt := 6002) hX dL_law_3604 (by decide) ?_
          refine zw_iinc (v := (i4 + (7 : Int32))) hX dL_law_6002 rfl rfl (by decide) ?_
          refine zw_goto (tgt := 23) hX dL_law_6005 (by decide) ?_
          refine zw_sub (lv' := [(0, .ref a0), (1, .ref a1), (2, .ref a2), (3, .ref a3), (4, .int (i4 + (7 : Int32)))]) (List.forall_mem_cons.mpr ⟨rfl, (List.forall_mem_cons.mpr ⟨rfl, (List.forall_mem_cons.mpr ⟨rfl, (List.forall_mem_cons.mpr ⟨rfl, (List.forall_mem_cons.mpr ⟨rfl, zs_nil⟩)⟩)⟩)⟩)⟩) ?_
          exact hrec _ _ _ _ h
        · rw [if_pos c3589] at h
          refine zw_aload_n hX dL_law_3592 rfl ?_
          refine zw_iconst (v := (0 : Int32)) hX dL_law_3593 (by decide) ?_
          obtain ⟨w562, g, h⟩ := zb_some h
          refine zw_xl hX dL_law_3594 g ?_
          refine zw_iload hX dL_law_3595 rfl ?_
          refine zw_i2l hX dL_law_3597 ?_
          refine zw_lcmp hX dL_law_3598 ?_
          refine zw_if_eq (tgt := 3604) hX dL_law_3599 (by decide) (fun c3599 => ?_) (fun c3599 => ?_)
          · rw [if_pos c3599] at h
            refine zw_goto (tgt := 6002) hX dL_law_3604 (by decide) ?_
            refine zw_iinc (v := (i4 + (7 : Int32))) hX dL_law_6002 rfl rfl (by decide) ?_
            refine zw_goto (tgt := 23) hX dL_law_6005 (by decide) ?_
            refine zw_sub (lv' := [(0, .ref a0), (1, .ref a1), (2, .ref a2), (3, .ref a3), (4, .int (i4 + (7 : Int32)))]) (List.forall_mem_cons.mpr ⟨rfl, (List.forall_mem_cons.mpr ⟨rfl, (List.forall_mem_cons.mpr ⟨rfl, (List.forall_mem_cons.mpr ⟨rfl, (List.forall_mem_cons.mpr ⟨rfl, zs_nil⟩)⟩)⟩)⟩)⟩) ?_
            exact hrec _ _ _ _ h
          · rw [if_neg c3599] at h
            refine zw_iconst (v := (0 : Int32)) hX dL_law_3602 (by decide) ?_
            cases h
      · rw [if_neg c3582] at h
        refine zw_iconst (v := (0 : Int32)) hX dL_law_3585 (by decide) ?_
        cases h
    · intro _ _ hx
      exact hx.elim
  · rw [if_neg hb3565] at h
    cases h
def zf_L_law_J3607 (N : Nat) (k : Nat → Nat → Nat → Nat → Int32 → Nat → Nat → zm_S → Option ((Int32 × zm_S) ⊕ ((Unit) × zm_S))) (a0 : Nat) (a1 : Nat) (a2 : Nat) (a3 : Nat) (i4 : Int32) (rc rs : Nat) (S : zm_S) : Option ((Int32 × zm_S) ⊕ ((Unit) × zm_S)) := (za_x S 0 a0 (i4 + (1 : Int32))).bind (fun v563 => (za_x S 0 a0 (i4 + (2 : Int32))).bind (fun v564 => if 2 ≤ rc ∧ 12 ≤ rs then (zf_L_act N a1 v563 v564 a3 S).bind (fun r567 => (za_x r567.2 0 a0 (i4 + (1 : Int32))).bind (fun v568 => (za_x r567.2 0 a0 (i4 + (2 : Int32))).bind (fun v569 => (zi r567.2 a2 18).bind (fun _ => (zf_X18_act N a2 v568 v569 r567.2).bind (fun r571 => (zi r571.2 a2 18).bind (fun _ => (zf_X18_thrown N a2 r571.2).bind (fun r573 => if r573.1 = r567.1 then if r567.1 = 0 then (za_l r573.2 a3 (0 : Int32)).bind (fun w574 => if (lg_cmp w574 ((r571.1).toInt64)) = 0 then k a0 a1 a2 a3 (i4 + (7 : Int32)) (rc - 2) (rs - 12) r573.2 else none) else k a0 a1 a2 a3 (i4 + (7 : Int32)) (rc - 2) (rs - 12) r573.2 else none))))))) else none))
set_option maxHeartbeats 4000000 in
set_option maxRecDepth 100000 in
theorem zt_L_law_J3607 {p : Program} {l : Launch} {e : Env} {s : State} {m : MethodId} {zb : Nat} {below : List Frame} {meth : Method} {c : Code} {V : zm_V} {d : Nat} {nm : String} (hlt : l.stackTraces = false) (hV : V.2.2.2.1 = s.heap.size) (hX : zm_X p room_1 s m #[Value.ref zb] meth c RL nm cL_law 8 zk_E V 601024 7293034) (hr : meth.sig.returnType = ret) (hR : d ≤ room_1.frames ∧ 64 * d ≤ room_1.locals) (hd : 46 ≤ d) {N : Nat} {k : Nat → Nat → Nat → Nat → Int32 → Nat → Nat → zm_S → Option ((Int32 × zm_S) ⊕ ((Unit) × zm_S))} {rc rs : Nat} {a0 : Nat} {a1 : Nat} {a2 : Nat} {a3 : Nat} {i4 : Int32} {res : (Int32 × zm_S) ⊕ ((Unit) × zm_S)} {out : (Int32 × zm_S)}   (hf : ∀ o, res = .inl o → o = out) (hk : ∀ (S' : zm_S) (rc rs : Nat), res = .inr ((), S') → zw p l e room_1 s m #[Value.ref zb] below meth c (lw_Z below #[Value.ref zb] s) 8 zk_E V 601024 7293034 6008 [] [] S' rc rs) (hrec : ∀ (i4' : Int32) (rc rs : Nat) (S : zm_S), k a0 a1 a2 a3 i4' rc rs S = some res → zw p l e room_1 s m #[Value.ref zb] below meth c (lw_Z below #[Value.ref zb] s) 8 zk_E V 601024 7293034 23 [(0, .ref a0), (1, .ref a1), (2, .ref a2), (3, .ref a3), (4, .int i4')] [] S rc rs) {S : zm_S} (h : zf_L_law_J3607 N k a0 a1 a2 a3 i4 rc rs S = some res) : zw p l e room_1 s m #[Value.ref zb] below meth c (lw_Z below #[Value.ref zb] s) 8 zk_E V 601024 7293034 3607 [(0, .ref a0), (1, .ref a1), (2, .ref a2), (3, .ref a3), (4, .int i4)] [] S rc rs := by
  unfold zf_L_law_J3607 at h
  refine zw_aload_n hX dL_law_3607 rfl ?_
  refine zw_aload_n hX dL_law_3608 rfl ?_
  refine zw_iload hX dL_law_3609 rfl ?_
  refine zw_iconst (v := (1 : Int32)) hX dL_law_3611 (by decide) ?_
  refine zw_iadd hX dL_law_3612 ?_
  obtain ⟨v563, g, h⟩ := zb_some h
  refine zw_xi hX dL_law_3613 g ?_
  refine zw_aload_n hX dL_law_3614 rfl ?_
  refine zw_iload hX dL_law_3615 rfl ?_
  refine zw_iconst (v := (2 : Int32)) hX dL_law_3617 (by decide) ?_
  refine zw_iadd hX dL_law_3618 ?_
  obtain ⟨v564, g, h⟩ := zb_some h
  refine zw_xi hX dL_law_3619 g ?_
  refine zw_aload_n hX dL_law_3620 rfl ?_
  by_cases hb3621 : 2 ≤ rc ∧ 12 ≤ rs
  · rw [if_pos hb3621] at h
    obtain ⟨r567, g, h⟩ := zb_some h
    refine zc_S (as := [.ref a1, .int v563, .int v564, .ref a3]) hX (zt_L_act hlt (d := d - 1) (by omega) g) zl_L_429 dL_law_3621 ⟨rfl, rfl, Nat.le_of_ble_eq_true rfl⟩ ⟨by omega, by omega⟩ hb3621 ?_ ?_
    · rintro _ _ ⟨rfl, rfl⟩
      refine zw_istore hX dL_law_3624 (by decide) ?_
      refine zw_aload_n hX dL_law_3626 rfl ?_
      refine zw_aload_n hX dL_law_3627 rfl ?_
      refine zw_iload hX dL_law_3628 rfl ?_
      refine zw_iconst (v := (1 : Int32)) hX dL_law_3630 (by decide) ?_
      refine zw_iadd hX dL_law_3631 ?_
      obtain ⟨v568, g, h⟩ := zb_some h
      refine zw_xi hX dL_law_3632 g ?_
      refine zw_aload_n hX dL_law_3633 rfl ?_
      refine zw_iload hX dL_law_3634 rfl ?_
      refine zw_iconst (v := (2 : Int32)) hX dL_law_3636 (by decide) ?_
      refine zw_iadd hX dL_law_3637 ?_
      obtain ⟨v569, g, h⟩ := zb_some h
      refine zw_xi hX dL_law_3638 g ?_
      obtain ⟨_, gi, h⟩ := zb_some h
      obtain ⟨r571, g, h⟩ := zb_some h
      refine zc_Vi (as := [.int v568, .int v569]) hX gi (zt_X18_act (d := d - 1) (by omega) g) zl_L_431 rfl dL_law_3639 ⟨rfl, rfl, Nat.le_of_ble_eq_true rfl⟩ ⟨by omega, by omega⟩ ?_
      refine zw_istore hX dL_law_3642 (by decide) ?_
      refine zw_aload_n hX dL_law_3644 rfl ?_
      obtain ⟨_, gi, h⟩ := zb_some h
      obtain ⟨r573, g, h⟩ := zb_some h
      refine zc_Vi (as := []) hX gi (zt_X18_thrown (d := d - 1) (by omega) g) zl_L_281 rfl dL_law_3645 ⟨rfl, rfl, Nat.le_of_ble_eq_true rfl⟩ ⟨by omega, by omega⟩ ?_
      refine zw_iload hX dL_law_3648 rfl ?_
      refine zw_icmp_eq (tgt := 3655) hX dL_law_3650 (by decide) (fun c3650 => ?_) (fun c3650 => ?_)
      · rw [if_pos c3650] at h
        refine zw_iload hX dL_law_3655 rfl ?_
        refine zw_if_ne (tgt := 3672) hX dL_law_3657 (by decide) (fun c3657 => ?_) (fun c3657 => ?_)
        · rw [if_neg c3657] at h
          refine zw_goto (tgt := 6002) hX dL_law_3672 (by decide) ?_
          refine zw_iinc (v := (i4 + (7 : Int32))) hX dL_law_6002 rfl rfl (by decide) ?_
          refine zw_goto (tgt := 23) hX dL_law_6005 (by decide) ?_
          refine zw_sub (lv' := [(0, .ref a0), (1, .ref a1), (2, .ref a2), (3, .ref a3), (4, .int (i4 + (7 : Int32)))]) (List.forall_mem_cons.mpr ⟨rfl, (List.forall_mem_cons.mpr ⟨rfl, (List.forall_mem_cons.mpr ⟨rfl, (List.forall_mem_cons.mpr ⟨rfl, (List.forall_mem_cons.mpr ⟨rfl, zs_nil⟩)⟩)⟩)⟩)⟩) ?_
          exact hrec _ _ _ _ h
        · rw [if_pos c3657] at h
          refine zw_aload_n hX dL_law_3660 rfl ?_
          refine zw_iconst (v := (0 : Int32)) hX dL_law_3661 (by decide) ?_
          obtain ⟨w574, g, h⟩ := zb_some h
          refine zw_xl hX dL_law_3662 g ?_
          refine zw_iload hX dL_law_3663 rfl ?_
          refine zw_i2l hX dL_law_3665 ?_
          refine zw_lcmp hX dL_law_3666 ?_
          refine zw_if_eq (tgt := 3672) hX dL_law_3667 (by decide) (fun c3667 => ?_) (fun c3667 => ?_)
          · rw [if_pos c3667] at h
            refine zw_goto (tgt := 6002) hX dL_law_3672 (by decide) ?_
            refine zw_iinc (v := (i4 + (7 : Int32))) hX dL_law_6002 rfl rfl (by decide) ?_
            refine zw_goto (tgt := 23) hX dL_law_6005 (by decide) ?_
            refine zw_sub (lv' := [(0, .ref a0), (1, .ref a1), (2, .ref a2), (3, .ref a3), (4, .int (i4 + (7 : Int32)))]) (List.forall_mem_cons.mpr ⟨rfl, (List.forall_mem_cons.mpr ⟨rfl, (List.forall_mem_cons.mpr ⟨rfl, (List.forall_mem_cons.mpr ⟨rfl, (List.forall_mem_cons.mpr ⟨rfl, zs_nil⟩)⟩)⟩)⟩)⟩) ?_
            exact hrec _ _ _ _ h
          · rw [if_neg c3667] at h
            refine zw_iconst (v := (0 : Int32)) hX dL_law_3670 (by decide) ?_
            cases h
      · rw [if_neg c3650] at h
        refine zw_iconst (v := (0 : Int32)) hX dL_law_3653 (by decide) ?_
        cases h
    · intro _ _ hx
      exact hx.elim
  · rw [if_neg hb3621] at h
    cases h
def zf_L_law_J3675 (N : Nat) (k : Nat → Nat → Nat → Nat → Int32 → Nat → Nat → zm_S → Option ((Int32 × zm_S) ⊕ ((Unit) × zm_S))) (a0 : Nat) (a1 : Nat) (a2 : Nat) (a3 : Nat) (i4 : Int32) (rc rs : Nat) (S : zm_S) : Option ((Int32 × zm_S) ⊕ ((Unit) × zm_S)) := (za_x S 0 a0 (i4 + (1 : Int32))).bind (fun v575 => (za_x S 0 a0 (i4 + (2 : Int32))).bind (fun v576 => if 2 ≤ rc ∧ 12 ≤ rs then (zf_L_zone N a1 v575 v576 a3 S).bind (fun r579 => (za_x r579.2 0 a0 (i4 + (1 : Int32))).bind (fun v580 => (za_x r579.2 0 a0 (i4 + (2 : Int32))).bind (fun v581 => (zi r579.2 a2 18).bind (fun _ => (zf_X18_zone N a2 v580 v581 r579.2).bind (fun r583 => (zi r583.2 a2 18).bind (fun _ => (zf_X18_thrown N a2 r583.2).bind (fun r585 => if r585.1 = r579.1 then if r579.1 = 0 then (za_l r585.2 a3 (0 : Int32)).bind (fun w586 => if (lg_cmp w586 ((r583.1).toInt64)) = 0 then k a0 a1 a2 a3 (i4 + (7 : Int32)) (rc - 2) (rs - 12) r585.2 else none) else k a0 a1 a2 a3 (i4 + (7 : Int32)) (rc - 2) (rs - 12) r585.2 else none))))))) else none))
set_option maxHeartbeats 4000000 in
set_option maxRecDepth 100000 in
theorem zt_L_law_J3675 {p : Program} {l : Launch} {e : Env} {s : State} {m : MethodId} {zb : Nat} {below : List Frame} {meth : Method} {c : Code} {V : zm_V} {d : Nat} {nm : String} (hlt : l.stackTraces = false) (hV : V.2.2.2.1 = s.heap.size) (hX : zm_X p room_1 s m #[Value.ref zb] meth c RL nm cL_law 8 zk_E V 601024 7293034) (hr : meth.sig.returnType = ret) (hR : d ≤ room_1.frames ∧ 64 * d ≤ room_1.locals) (hd : 46 ≤ d) {N : Nat} {k : Nat → Nat → Nat → Nat → Int32 → Nat → Nat → zm_S → Option ((Int32 × zm_S) ⊕ ((Unit) × zm_S))} {rc rs : Nat} {a0 : Nat} {a1 : Nat} {a2 : Nat} {a3 : Nat} {i4 : Int32} {res : (Int32 × zm_S) ⊕ ((Unit) × zm_S)} {out : (Int32 × zm_S)}   (hf : ∀ o, res = .inl o → o = out) (hk : ∀ (S' : zm_S) (rc rs : Nat), res = .inr ((), S') → zw p l e room_1 s m #[Value.ref zb] below meth c (lw_Z below #[Value.ref zb] s) 8 zk_E V 601024 7293034 6008 [] [] S' rc rs) (hrec : ∀ (i4' : Int32) (rc rs : Nat) (S : zm_S), k a0 a1 a2 a3 i4' rc rs S = some res → zw p l e room_1 s m #[Value.ref zb] below meth c (lw_Z below #[Value.ref zb] s) 8 zk_E V 601024 7293034 23 [(0, .ref a0), (1, .ref a1), (2, .ref a2), (3, .ref a3), (4, .int i4')] [] S rc rs) {S : zm_S} (h : zf_L_law_J3675 N k a0 a1 a2 a3 i4 rc rs S = some res) : zw p l e room_1 s m #[Value.ref zb] below meth c (lw_Z below #[Value.ref zb] s) 8 zk_E V 601024 7293034 3675 [(0, .ref a0), (1, .ref a1), (2, .ref a2), (3, .ref a3), (4, .int i4)] [] S rc rs := by
  unfold zf_L_law_J3675 at h
  refine zw_aload_n hX dL_law_3675 rfl ?_
  refine zw_aload_n hX dL_law_3676 rfl ?_
  refine zw_iload hX dL_law_3677 rfl ?_
  refine zw_iconst (v := (1 : Int32)) hX dL_law_3679 (by decide) ?_
  refine zw_iadd hX dL_law_3680 ?_
  obtain ⟨v575, g, h⟩ := zb_some h
  refine zw_xi hX dL_law_3681 g ?_
  refine zw_aload_n hX dL_law_3682 rfl ?_
  refine zw_iload hX dL_law_3683 rfl ?_
  refine zw_iconst (v := (2 : Int32)) hX dL_law_3685 (by decide) ?_
  refine zw_iadd hX dL_law_3686 ?_
  obtain ⟨v576, g, h⟩ := zb_some h
  refine zw_xi hX dL_law_3687 g ?_
  refine zw_aload_n hX dL_law_3688 rfl ?_
  by_cases hb3689 : 2 ≤ rc ∧ 12 ≤ rs
  · rw [if_pos hb3689] at h
    obtain ⟨r579, g, h⟩ := zb_some h
    refine zc_S (as := [.ref a1, .int v575, .int v576, .ref a3]) hX (zt_L_zone hlt (d := d - 1) (by omega) g) zl_L_432 dL_law_3689 ⟨rfl, rfl, Nat.le_of_ble_eq_true rfl⟩ ⟨by omega, by omega⟩ hb3689 ?_ ?_
    · rintro _ _ ⟨rfl, rfl⟩
      refine zw_istore hX dL_law_3692 (by decide) ?_
      refine zw_aload_n hX dL_law_3694 rfl ?_
      refine zw_aload_n hX dL_law_3695 rfl ?_
      refine zw_iload hX dL_law_3696 rfl ?_
      refine zw_iconst (v := (1 : Int32)) hX dL_law_3698 (by decide) ?_
      refine zw_iadd hX dL_law_3699 ?_
      obtain ⟨v580, g, h⟩ := zb_some h
      refine zw_xi hX dL_law_3700 g ?_
      refine zw_aload_n hX dL_law_3701 rfl ?_
      refine zw_iload hX dL_law_3702 rfl ?_
      refine zw_iconst (v := (2 : Int32)) hX dL_law_3704 (by decide) ?_
      refine zw_iadd hX dL_law_3705 ?_
      obtain ⟨v581, g, h⟩ := zb_some h
      refine zw_xi hX dL_law_3706 g ?_
      obtain ⟨_, gi, h⟩ := zb_some h
      obtain ⟨r583, g, h⟩ := zb_some h
      refine zc_Vi (as := [.int v580, .int v581]) hX gi (zt_X18_zone (d := d - 1) (by omega) g) zl_L_434 rfl dL_law_3707 ⟨rfl, rfl, Nat.le_of_ble_eq_true rfl⟩ ⟨by omega, by omega⟩ ?_
      refine zw_istore hX dL_law_3710 (by decide) ?_
      refine zw_aload_n hX dL_law_3712 rfl ?_
      obtain ⟨_, gi, h⟩ := zb_some h
      obtain ⟨r585, g, h⟩ := zb_some h
      refine zc_Vi (as := []) hX gi (zt_X18_thrown (d := d - 1) (by omega) g) zl_L_281 rfl dL_law_3713 ⟨rfl, rfl, Nat.le_of_ble_eq_true rfl⟩ ⟨by omega, by omega⟩ ?_
      refine zw_iload hX dL_law_3716 rfl ?_
      refine zw_icmp_eq (tgt := 3723) hX dL_law_3718 (by decide) (fun c3718 => ?_) (fun c3718 => ?_)
      · rw [if_pos c3718] at h
        refine zw_iload hX dL_law_3723 rfl ?_
        refine zw_if_ne (tgt := 3740) hX dL_law_3725 (by decide) (fun c3725 => ?_) (fun c3725 => ?_)
        · rw [if_neg c3725] at h
          refine zw_goto (tgt := 6002) hX dL_law_3740 (by decide) ?_
          refine zw_iinc (v := (i4 + (7 : Int32))) hX dL_law_6002 rfl rfl (by decide) ?_
          refine zw_goto (tgt := 23) hX dL_law_6005 (by decide) ?_
          refine zw_sub (lv' := [(0, .ref a0), (1, .ref a1), (2, .ref a2), (3, .ref a3), (4, .int (i4 + (7 : Int32)))]) (List.forall_mem_cons.mpr ⟨rfl, (List.forall_mem_cons.mpr ⟨rfl, (List.forall_mem_cons.mpr ⟨rfl, (List.forall_mem_cons.mpr ⟨rfl, (List.forall_mem_cons.mpr ⟨rfl, zs_nil⟩)⟩)⟩)⟩)⟩) ?_
          exact hrec _ _ _ _ h
        · rw [if_pos c3725] at h
          refine zw_aload_n hX dL_law_3728 rfl ?_
          refine zw_iconst (v := (0 : Int32)) hX dL_law_3729 (by decide) ?_
          obtain ⟨w586, g, h⟩ := zb_some h
          refine zw_xl hX dL_law_3730 g ?_
          refine zw_iload hX dL_law_3731 rfl ?_
          refine zw_i2l hX dL_law_3733 ?_
          refine zw_lcmp hX dL_law_3734 ?_
          refine zw_if_eq (tgt := 3740) hX dL_law_3735 (by decide) (fun c3735 => ?_) (fun c3735 => ?_)
          · rw [if_pos c3735] at h
            refine zw_goto (tgt := 6002) hX dL_law_3740 (by decide) ?_
            refine zw_iinc (v := (i4 + (7 : Int32))) hX dL_law_6002 rfl rfl (by decide) ?_
            refine zw_goto (tgt := 23) hX dL_law_6005 (by decide) ?_
            refine zw_sub (lv' := [(0, .ref a0), (1, .ref a1), (2, .ref a2), (3, .ref a3), (4, .int (i4 + (7 : Int32)))]) (List.forall_mem_cons.mpr ⟨rfl, (List.forall_mem_cons.mpr ⟨rfl, (List.forall_mem_cons.mpr ⟨rfl, (List.forall_mem_cons.mpr ⟨rfl, (List.forall_mem_cons.mpr ⟨rfl, zs_nil⟩)⟩)⟩)⟩)⟩) ?_
            exact hrec _ _ _ _ h
          · rw [if_neg c3735] at h
            refine zw_iconst (v := (0 : Int32)) hX dL_law_3738 (by decide) ?_
            cases h
      · rw [if_neg c3718] at h
        refine zw_iconst (v := (0 : Int32)) hX dL_law_3721 (by decide) ?_
        cases h
    · intro _ _ hx
      exact hx.elim
  · rw [if_neg hb3689] at h
    cases h
def zf_L_law_J3743 (N : Nat) (k : Nat → Nat → Nat → Nat → Int32 → Nat → Nat → zm_S → Option ((Int32 × zm_S) ⊕ ((Unit) × zm_S))) (a0 : Nat) (a1 : Nat) (a2 : Nat) (a3 : Nat) (i4 : Int32) (rc rs : Nat) (S : zm_S) : Option ((Int32 × zm_S) ⊕ ((Unit) × zm_S)) := (za_x S 0 a0 (i4 + (1 : Int32))).bind (fun v587 => (za_x S 0 a0 (i4 + (2 : Int32))).bind (fun v588 => if 2 ≤ rc ∧ 12 ≤ rs then (zf_L_event N a1 v587 v588 a3 S).bind (fun r591 => (za_x r591.2 0 a0 (i4 + (1 : Int32))).bind (fun v592 => (za_x r591.2 0 a0 (i4 + (2 : Int32))).bind (fun v593 => (zi r591.2 a2 18).bind (fun _ => (zf_X18_event N a2 v592 v593 r591.2).bind (fun r595 => (zi r595.2 a2 18).bind (fun _ => (zf_X18_thrown N a2 r595.2).bind (fun r597 => if r597.1 = r591.1 then if r591.1 = 0 then (za_l r597.2 a3 (0 : Int32)).bind (fun w598 => if (lg_cmp w598 ((r595.1).toInt64)) = 0 then k a0 a1 a2 a3 (i4 + (7 : Int32)) (rc - 2) (rs - 12) r597.2 else none) else k a0 a1 a2 a3 (i4 + (7 : Int32)) (rc - 2) (rs - 12) r597.2 else none))))))) else none))
set_option maxHeartbeats 4000000 in
set_option maxRecDepth 100000 in
theorem zt_L_law_J3743 {p : Program} {l : Launch} {e : Env} {s : State} {m : MethodId} {zb : Nat} {below : List Frame} {meth : Method} {c : Code} {V : zm_V} {d : Nat} {nm : String} (hlt : l.stackTraces = false) (hV : V.2.2.2.1 = s.heap.size) (hX : zm_X p room_1 s m #[Value.ref zb] meth c RL nm cL_law 8 zk_E V 601024 7293034) (hr : meth.sig.returnType = ret) (hR : d ≤ room_1.frames ∧ 64 * d ≤ room_1.locals) (hd : 46 ≤ d) {N : Nat} {k : Nat → Nat → Nat → Nat → Int32 → Nat → Nat → zm_S → Option ((Int32 × zm_S) ⊕ ((Unit) × zm_S))} {rc rs : Nat} {a0 : Nat} {a1 : Nat} {a2 : Nat} {a3 : Nat} {i4 : Int32} {res : (Int32 × zm_S) ⊕ ((Unit) × zm_S)} {out : (Int32 × zm_S)}   (hf : ∀ o, res = .inl o → o = out) (hk : ∀ (S' : zm_S) (rc rs : Nat), res = .inr ((), S') → zw p l e room_1 s m #[Value.ref zb] below meth c (lw_Z below #[Value.ref zb] s) 8 zk_E V 601024 7293034 6008 [] [] S' rc rs) (hrec : ∀ (i4' : Int32) (rc rs : Nat) (S : zm_S), k a0 a1 a2 a3 i4' rc rs S = some res → zw p l e room_1 s m #[Value.ref zb] below meth c (lw_Z below #[Value.ref zb] s) 8 zk_E V 601024 7293034 23 [(0, .ref a0), (1, .ref a1), (2, .ref a2), (3, .ref a3), (4, .int i4')] [] S rc rs) {S : zm_S} (h : zf_L_law_J3743 N k a0 a1 a2 a3 i4 rc rs S = some res) : zw p l e room_1 s m #[Value.ref zb] below meth c (lw_Z below #[Value.ref zb] s) 8 zk_E V 601024 7293034 3743 [(0, .ref a0), (1, .ref a1), (2, .ref a2), (3, .ref a3), (4, .int i4)] [] S rc rs := by
  unfold zf_L_law_J3743 at h
  refine zw_aload_n hX dL_law_3743 rfl ?_
  refine zw_aload_n hX dL_law_3744 rfl ?_
  refine zw_iload hX dL_law_3745 rfl ?_
  refine zw_iconst (v := (1 : Int32)) hX dL_law_3747 (by decide) ?_
  refine zw_iadd hX dL_law_3748 ?_
  obtain ⟨v587, g, h⟩ := zb_some h
  refine zw_xi hX dL_law_3749 g ?_
  refine zw_aload_n hX dL_law_3750 rfl ?_
  refine zw_iload hX dL_law_3751 rfl ?_
  refine zw_iconst (v := (2 : Int32)) hX dL_law_3753 (by decide) ?_
  refine zw_iadd hX dL_law_3754 ?_
  obtain ⟨v588, g, h⟩ := zb_some h
  refine zw_xi hX dL_law_3755 g ?_
  refine zw_aload_n hX dL_law_3756 rfl ?_
  by_cases hb3757 : 2 ≤ rc ∧ 12 ≤ rs
  · rw [if_pos hb3757] at h
    obtain ⟨r591, g, h⟩ := zb_some h
    refine zc_S (as := [.ref a1, .int v587, .int v588, .ref a3]) hX (zt_L_event hlt (d := d - 1) (by omega) g) zl_L_435 dL_law_3757 ⟨rfl, rfl, Nat.le_of_ble_eq_true rfl⟩ ⟨by omega, by omega⟩ hb3757 ?_ ?_
    · rintro _ _ ⟨rfl, rfl⟩
      refine zw_istore hX dL_law_3760 (by decide) ?_
      refine zw_aload_n hX dL_law_3762 rfl ?_
      refine zw_aload_n hX dL_law_3763 rfl ?_
      refine zw_iload hX dL_law_3764 rfl ?_
      refine zw_iconst (v := (1 : Int32)) hX dL_law_3766 (by decide) ?_
      refine zw_iadd hX dL_law_3767 ?_
      obtain ⟨v592, g, h⟩ := zb_some h
      refine zw_xi hX dL_law_3768 g ?_
      refine zw_aload_n hX dL_law_3769 rfl ?_
      refine zw_iload hX dL_law_3770 rfl ?_
      refine zw_iconst (v := (2 : Int32)) hX dL_law_3772 (by decide) ?_
      refine zw_iadd hX dL_law_3773 ?_
      obtain ⟨v593, g, h⟩ := zb_some h
      refine zw_xi hX dL_law_3774 g ?_
      obtain ⟨_, gi, h⟩ := zb_some h
      obtain ⟨r595, g, h⟩ := zb_some h
      refine zc_Vi (as := [.int v592, .int v593]) hX gi (zt_X18_event (d := d - 1) (by omega) g) zl_L_437 rfl dL_law_3775 ⟨rfl, rfl, Nat.le_of_ble_eq_true rfl⟩ ⟨by omega, by omega⟩ ?_
      refine zw_istore hX dL_law_3778 (by decide) ?_
      refine zw_aload_n hX dL_law_3780 rfl ?_
      obtain ⟨_, gi, h⟩ := zb_some h
      obtain ⟨r597, g, h⟩ := zb_some h
      refine zc_Vi (as := []) hX gi (zt_X18_thrown (d := d - 1) (by omega) g) zl_L_281 rfl dL_law_3781 ⟨rfl, rfl, Nat.le_of_ble_eq_true rfl⟩ ⟨by omega, by omega⟩ ?_
      refine zw_iload hX dL_law_3784 rfl ?_
      refine zw_icmp_eq (tgt := 3791) hX dL_law_3786 (by decide) (fun c3786 => ?_) (fun c3786 => ?_)
      · rw [if_pos c3786] at h
        refine zw_iload hX dL_law_3791 rfl ?_
        refine zw_if_ne (tgt := 3808) hX dL_law_3793 (by decide) (fun c3793 => ?_) (fun c3793 => ?_)
        · rw [if_neg c3793] at h
          refine zw_goto (tgt := 6002) hX dL_law_3808 (by decide) ?_
          refine zw_iinc (v := (i4 + (7 : Int32))) hX dL_law_6002 rfl rfl (by decide) ?_
          refine zw_goto (tgt := 23) hX dL_law_6005 (by decide) ?_
          refine zw_sub (lv' := [(0, .ref a0), (1, .ref a1), (2, .ref a2), (3, .ref a3), (4, .int (i4 + (7 : Int32)))]) (List.forall_mem_cons.mpr ⟨rfl, (List.forall_mem_cons.mpr ⟨rfl, (List.forall_mem_cons.mpr ⟨rfl, (List.forall_mem_cons.mpr ⟨rfl, (List.forall_mem_cons.mpr ⟨rfl, zs_nil⟩)⟩)⟩)⟩)⟩) ?_
          exact hrec _ _ _ _ h
        · rw [if_pos c3793] at h
          refine zw_aload_n hX dL_law_3796 rfl ?_
          refine zw_iconst (v := (0 : Int32)) hX dL_law_3797 (by decide) ?_
          obtain ⟨w598, g, h⟩ := zb_some h
          refine zw_xl hX dL_law_3798 g ?_
          refine zw_iload hX dL_law_3799 rfl ?_
          refine zw_i2l hX dL_law_3801 ?_
          refine zw_lcmp hX dL_law_3802 ?_
          refine zw_if_eq (tgt := 3808) hX dL_law_3803 (by decide) (fun c3803 => ?_) (fun c3803 => ?_)
          · rw [if_pos c3803] at h
            refine zw_goto (tgt := 6002) hX dL_law_3808 (by decide) ?_
            refine zw_iinc (v := (i4 + (7 : Int32))) hX dL_law_6002 rfl rfl (by decide) ?_
            refine zw_goto (tgt := 23) hX dL_law_6005 (by decide) ?_
            refine zw_sub (lv' := [(0, .ref a0), (1, .ref a1), (2, .ref a2), (3, .ref a3), (4, .int (i4 + (7 : Int32)))]) (List.forall_mem_cons.mpr ⟨rfl, (List.forall_mem_cons.mpr ⟨rfl, (List.forall_mem_cons.mpr ⟨rfl, (List.forall_mem_cons.mpr ⟨rfl, (List.forall_mem_cons.mpr ⟨rfl, zs_nil⟩)⟩)⟩)⟩)⟩) ?_
            exact hrec _ _ _ _ h
          · rw [if_neg c3803] at h
            refine zw_iconst (v := (0 : Int32)) hX dL_law_3806 (by decide) ?_
            cases h
      · rw [if_neg c3786] at h
        refine zw_iconst (v := (0 : Int32)) hX dL_law_3789 (by decide) ?_
        cases h
    · intro _ _ hx
      exact hx.elim
  · rw [if_neg hb3757] at h
    cases h
def zf_L_law_J3811 (N : Nat) (k : Nat → Nat → Nat → Nat → Int32 → Nat → Nat → zm_S → Option ((Int32 × zm_S) ⊕ ((Unit) × zm_S))) (a0 : Nat) (a1 : Nat) (a2 : Nat) (a3 : Nat) (i4 : Int32) (rc rs : Nat) (S : zm_S) : Option ((Int32 × zm_S) ⊕ ((Unit) × zm_S)) := (za_x S 0 a0 (i4 + (1 : Int32))).bind (fun v599 => if 2 ≤ rc ∧ 12 ≤ rs then (zf_L_block N a1 v599 a3 S).bind (fun r602 => (za_x r602.2 0 a0 (i4 + (1 : Int32))).bind (fun v603 => (zi r602.2 a2 18).bind (fun _ => (zf_X18_block N a2 v603 r602.2).bind (fun r605 => (zi r605.2 a2 18).bind (fun _ => (zf_X18_thrown N a2 r605.2).bind (fun r607 => if r607.1 = r602.1 then if r602.1 = 0 then (za_l r607.2 a3 (0 : Int32)).bind (fun w608 => if (lg_cmp w608 ((r605.1).toInt64)) = 0 then k a0 a1 a2 a3 (i4 + (7 : Int32)) (rc - 2) (rs - 12) r607.2 else none) else k a0 a1 a2 a3 (i4 + (7 : Int32)) (rc - 2) (rs - 12) r607.2 else none)))))) else none)
set_option maxHeartbeats 4000000 in
set_option maxRecDepth 100000 in
theorem zt_L_law_J3811 {p : Program} {l : Launch} {e : Env} {s : State} {m : MethodId} {zb : Nat} {below : List Frame} {meth : Method} {c : Code} {V : zm_V} {d : Nat} {nm : String} (hlt : l.stackTraces = false) (hV : V.2.2.2.1 = s.heap.size) (hX : zm_X p room_1 s m #[Value.ref zb] meth c RL nm cL_law 8 zk_E V 601024 7293034) (hr : meth.sig.returnType = ret) (hR : d ≤ room_1.frames ∧ 64 * d ≤ room_1.locals) (hd : 46 ≤ d) {N : Nat} {k : Nat → Nat → Nat → Nat → Int32 → Nat → Nat → zm_S → Option ((Int32 × zm_S) ⊕ ((Unit) × zm_S))} {rc rs : Nat} {a0 : Nat} {a1 : Nat} {a2 : Nat} {a3 : Nat} {i4 : Int32} {res : (Int32 × zm_S) ⊕ ((Unit) × zm_S)} {out : (Int32 × zm_S)}   (hf : ∀ o, res = .inl o → o = out) (hk : ∀ (S' : zm_S) (rc rs : Nat), res = .inr ((), S') → zw p l e room_1 s m #[Value.ref zb] below meth c (lw_Z below #[Value.ref zb] s) 8 zk_E V 601024 7293034 6008 [] [] S' rc rs) (hrec : ∀ (i4' : Int32) (rc rs : Nat) (S : zm_S), k a0 a1 a2 a3 i4' rc rs S = some res → zw p l e room_1 s m #[Value.ref zb] below meth c (lw_Z below #[Value.ref zb] s) 8 zk_E V 601024 7293034 23 [(0, .ref a0), (1, .ref a1), (2, .ref a2), (3, .ref a3), (4, .int i4')] [] S rc rs) {S : zm_S} (h : zf_L_law_J3811 N k a0 a1 a2 a3 i4 rc rs S = some res) : zw p l e room_1 s m #[Value.ref zb] below meth c (lw_Z below #[Value.ref zb] s) 8 zk_E V 601024 7293034 3811 [(0, .ref a0), (1, .ref a1), (2, .ref a2), (3, .ref a3), (4, .int i4)] [] S rc rs := by
  unfold zf_L_law_J3811 at h
  refine zw_aload_n hX dL_law_3811 rfl ?_
  refine zw_aload_n hX dL_law_3812 rfl ?_
  refine zw_iload hX dL_law_3813 rfl ?_
  refine zw_iconst (v := (1 : Int32)) hX dL_law_3815 (by decide) ?_
  refine zw_iadd hX dL_law_3816 ?_
  obtain ⟨v599, g, h⟩ := zb_some h
  refine zw_xi hX dL_law_3817 g ?_
  refine zw_aload_n hX dL_law_3818 rfl ?_
  by_cases hb3819 : 2 ≤ rc ∧ 12 ≤ rs
  · rw [if_pos hb3819] at h
    obtain ⟨r602, g, h⟩ := zb_some h
    refine zc_S (as := [.ref a1, .int v599, .ref a3]) hX (zt_L_block hlt (d := d - 1) (by omega) g) zl_L_438 dL_law_3819 ⟨rfl, rfl, Nat.le_of_ble_eq_true rfl⟩ ⟨by omega, by omega⟩ hb3819 ?_ ?_
    · rintro _ _ ⟨rfl, rfl⟩
      refine zw_istore hX dL_law_3822 (by decide) ?_
      refine zw_aload_n hX dL_law_3824 rfl ?_
      refine zw_aload_n hX dL_law_3825 rfl ?_
      refine zw_iload hX dL_law_3826 rfl ?_
      refine zw_iconst (v := (1 : Int32)) hX dL_law_3828 (by decide) ?_
      refine zw_iadd hX dL_law_3829 ?_
      obtain ⟨v603, g, h⟩ := zb_some h
      refine zw_xi hX dL_law_3830 g ?_
      obtain ⟨_, gi, h⟩ := zb_some h
      obtain ⟨r605, g, h⟩ := zb_some h
      refine zc_Vi (as := [.int v603]) hX gi (zt_X18_block (d := d - 1) (by omega) g) zl_L_440 rfl dL_law_3831 ⟨rfl, rfl, Nat.le_of_ble_eq_true rfl⟩ ⟨by omega, by omega⟩ ?_
      refine zw_istore hX dL_law_3834 (by decide) ?_
      refine zw_aload_n hX dL_law_3836 rfl ?_
      obtain ⟨_, gi, h⟩ := zb_some h
      obtain ⟨r607, g, h⟩ := zb_some h
      refine zc_Vi (as := []) hX gi (zt_X18_thrown (d := d - 1) (by omega) g) zl_L_281 rfl dL_law_3837 ⟨rfl, rfl, Nat.le_of_ble_eq_true rfl⟩ ⟨by omega, by omega⟩ ?_
      refine zw_iload hX dL_law_3840 rfl ?_
      refine zw_icmp_eq (tgt := 3847) hX dL_law_3842 (by decide) (fun c3842 => ?_) (fun c3842 => ?_)
      · rw [if_pos c3842] at h
        refine zw_iload hX dL_law_3847 rfl ?_
        refine zw_if_ne (tgt := 3864) hX dL_law_3849 (by decide) (fun c3849 => ?_) (fun c3849 => ?_)
        · rw [if_neg c3849] at h
          refine zw_goto (tgt := 6002) hX dL_law_3864 (by decide) ?_
          refine zw_iinc (v := (i4 + (7 : Int32))) hX dL_law_6002 rfl rfl (by decide) ?_
          refine zw_goto (tgt := 23) hX dL_law_6005 (by decide) ?_
          refine zw_sub (lv' := [(0, .ref a0), (1, .ref a1), (2, .ref a2), (3, .ref a3), (4, .int (i4 + (7 : Int32)))]) (List.forall_mem_cons.mpr ⟨rfl, (List.forall_mem_cons.mpr ⟨rfl, (List.forall_mem_cons.mpr ⟨rfl, (List.forall_mem_cons.mpr ⟨rfl, (List.forall_mem_cons.mpr ⟨rfl, zs_nil⟩)⟩)⟩)⟩)⟩) ?_
          exact hrec _ _ _ _ h
        · rw [if_pos c3849] at h
          refine zw_aload_n hX dL_law_3852 rfl ?_
          refine zw_iconst (v := (0 : Int32)) hX dL_law_3853 (by decide) ?_
          obtain ⟨w608, g, h⟩ := zb_some h
          refine zw_xl hX dL_law_3854 g ?_
          refine zw_iload hX dL_law_3855 rfl ?_
          refine zw_i2l hX dL_law_3857 ?_
          refine zw_lcmp hX dL_law_3858 ?_
          refine zw_if_eq (tgt := 3864) hX dL_law_3859 (by decide) (fun c3859 => ?_) (fun c3859 => ?_)
          · rw [if_pos c3859] at h
            refine zw_goto (tgt := 6002) hX dL_law_3864 (by decide) ?_
            refine zw_iinc (v := (i4 + (7 : Int32))) hX dL_law_6002 rfl rfl (by decide) ?_
            refine zw_goto (tgt := 23) hX dL_law_6005 (by decide) ?_
            refine zw_sub (lv' := [(0, .ref a0), (1, .ref a1), (2, .ref a2), (3, .ref a3), (4, .int (i4 + (7 : Int32)))]) (List.forall_mem_cons.mpr ⟨rfl, (List.forall_mem_cons.mpr ⟨rfl, (List.forall_mem_cons.mpr ⟨rfl, (List.forall_mem_cons.mpr ⟨rfl, (List.forall_mem_cons.mpr ⟨rfl, zs_nil⟩)⟩)⟩)⟩)⟩) ?_
            exact hrec _ _ _ _ h
          · rw [if_neg c3859] at h
            refine zw_iconst (v := (0 : Int32)) hX dL_law_3862 (by decide) ?_
            cases h
      · rw [if_neg c3842] at h
        refine zw_iconst (v := (0 : Int32)) hX dL_law_3845 (by decide) ?_
        cases h
    · intro _ _ hx
      exact hx.elim
  · rw [if_neg hb3819] at h
    cases h
def zf_L_law_J3867 (N : Nat) (k : Nat → Nat → Nat → Nat → Int32 → Nat → Nat → zm_S → Option ((Int32 × zm_S) ⊕ ((Unit) × zm_S))) (a0 : Nat) (a1 : Nat) (a2 : Nat) (a3 : Nat) (i4 : Int32) (rc rs : Nat) (S : zm_S) : Option ((Int32 × zm_S) ⊕ ((Unit) × zm_S)) := (za_x S 0 a0 (i4 + (1 : Int32))).bind (fun v609 => (za_x S 0 a0 (i4 + (2 : Int32))).bind (fun v610 => (za_x S 0 a0 (i4 + (3 : Int32))).bind (fun v611 => if 2 ≤ rc ∧ 12 ≤ rs then (zf_L_wire N a1 v609 v610 v611 a3 S).bind (fun r614 => (za_x r614.2 0 a0 (i4 + (1 : Int32))).bind (fun v615 => (za_x r614.2 0 a0 (i4 + (2 : Int32))).bind (fun v616 => (za_x r614.2 0 a0 (i4 + (3 : Int32))).bind (fun v617 => (zi r614.2 a2 18).bind (fun _ => (zf_X18_wire N a2 v615 v616 v617 r614.2).bind (fun r619 => (zi r619.2 a2 18).bind (fun _ => (zf_X18_thrown N a2 r619.2).bind (fun r621 => if r621.1 = r614.1 then if r614.1 = 0 then (za_l r621.2 a3 (0 : Int32)).bind (fun w622 => if (lg_cmp w622 ((r619.1).toInt64)) = 0 then k a0 a1 a2 a3 (i4 + (7 : Int32)) (rc - 2) (rs - 12) r621.2 else none) else k a0 a1 a2 a3 (i4 + (7 : Int32)) (rc - 2) (rs - 12) r621.2 else none)))))))) else none)))
set_option maxHeartbeats 4000000 in
set_option maxRecDepth 100000 in
theorem zt_L_law_J3867 {p : Program} {l : Launch} {e : Env} {s : State} {m : MethodId} {zb : Nat} {below : List Frame} {meth : Method} {c : Code} {V : zm_V} {d : Nat} {nm : String} (hlt : l.stackTraces = false) (hV : V.2.2.2.1 = s.heap.size) (hX : zm_X p room_1 s m #[Value.ref zb] meth c RL nm cL_law 8 zk_E V 601024 7293034) (hr : meth.sig.returnType = ret) (hR : d ≤ room_1.frames ∧ 64 * d ≤ room_1.locals) (hd : 46 ≤ d) {N : Nat} {k : Nat → Nat → Nat → Nat → Int32 → Nat → Nat → zm_S → Option ((Int32 × zm_S) ⊕ ((Unit) × zm_S))} {rc rs : Nat} {a0 : Nat} {a1 : Nat} {a2 : Nat} {a3 : Nat} {i4 : Int32} {res : (Int32 × zm_S) ⊕ ((Unit) × zm_S)} {out : (Int32 × zm_S)}   (hf : ∀ o, res = .inl o → o = out) (hk : ∀ (S' : zm_S) (rc rs : Nat), res = .inr ((), S') → zw p l e room_1 s m #[Value.ref zb] below meth c (lw_Z below #[Value.ref zb] s) 8 zk_E V 601024 7293034 6008 [] [] S' rc rs) (hrec : ∀ (i4' : Int32) (rc rs : Nat) (S : zm_S), k a0 a1 a2 a3 i4' rc rs S = some res → zw p l e room_1 s m #[Value.ref zb] below meth c (lw_Z below #[Value.ref zb] s) 8 zk_E V 601024 7293034 23 [(0, .ref a0), (1, .ref a1), (2, .ref a2), (3, .ref a3), (4, .int i4')] [] S rc rs) {S : zm_S} (h : zf_L_law_J3867 N k a0 a1 a2 a3 i4 rc rs S = some res) : zw p l e room_1 s m #[Value.ref zb] below meth c (lw_Z below #[Value.ref zb] s) 8 zk_E V 601024 7293034 3867 [(0, .ref a0), (1, .ref a1), (2, .ref a2), (3, .ref a3), (4, .int i4)] [] S rc rs := by
  unfold zf_L_law_J3867 at h
  refine zw_aload_n hX dL_law_3867 rfl ?_
  refine zw_aload_n hX dL_law_3868 rfl ?_
  refine zw_iload hX dL_law_3869 rfl ?_
  refine zw_iconst (v := (1 : Int32)) hX dL_law_3871 (by decide) ?_
  refine zw_iadd hX dL_law_3872 ?_
  obtain ⟨v609, g, h⟩ := zb_some h
  refine zw_xi hX dL_law_3873 g ?_
  refine zw_aload_n hX dL_law_3874 rfl ?_
  refine zw_iload hX dL_law_3875 rfl ?_
  refine zw_iconst (v := (2 : Int32)) hX dL_law_3877 (by decide) ?_
  refine zw_iadd hX dL_law_3878 ?_
  obtain ⟨v610, g, h⟩ := zb_some h
  refine zw_xi hX dL_law_3879 g ?_
  refine zw_aload_n hX dL_law_3880 rfl ?_
  refine zw_iload hX dL_law_3881 rfl ?_
  refine zw_iconst (v := (3 : Int32)) hX dL_law_3883 (by decide) ?_
  refine zw_iadd hX dL_law_3884 ?_
  obtain ⟨v611, g, h⟩ := zb_some h
  refine zw_xi hX dL_law_3885 g ?_
  refine zw_aload_n hX dL_law_3886 rfl ?_
  by_cases hb3887 : 2 ≤ rc ∧ 12 ≤ rs
  · rw [if_pos hb3887] at h
    obtain ⟨r614, g, h⟩ := zb_some h
    refine zc_S (as := [.ref a1, .int v609, .int v610, .int v611, .ref a3]) hX (zt_L_wire hlt (d := d - 1) (by omega) g) zl_L_441 dL_law_3887 ⟨rfl, rfl, Nat.le_of_ble_eq_true rfl⟩ ⟨by omega, by omega⟩ hb3887 ?_ ?_
    · rintro _ _ ⟨rfl, rfl⟩
      refine zw_istore hX dL_law_3890 (by decide) ?_
      refine zw_aload_n hX dL_law_3892 rfl ?_
      refine zw_aload_n hX dL_law_3893 rfl ?_
      refine zw_iload hX dL_law_3894 rfl ?_
      refine zw_iconst (v := (1 : Int32)) hX dL_law_3896 (by decide) ?_
      refine zw_iadd hX dL_law_3897 ?_
      obtain ⟨v615, g, h⟩ := zb_some h
      refine zw_xi hX dL_law_3898 g ?_
      refine zw_aload_n hX dL_law_3899 rfl ?_
      refine zw_iload hX dL_law_3900 rfl ?_
      refine zw_iconst (v := (2 : Int32)) hX dL_law_3902 (by decide) ?_
      refine zw_iadd hX dL_law_3903 ?_
      obtain ⟨v616, g, h⟩ := zb_some h
      refine zw_xi hX dL_law_3904 g ?_
      refine zw_aload_n hX dL_law_3905 rfl ?_
      refine zw_iload hX dL_law_3906 rfl ?_
      refine zw_iconst (v := (3 : Int32)) hX dL_law_3908 (by decide) ?_
      refine zw_iadd hX dL_law_3909 ?_
      obtain ⟨v617, g, h⟩ := zb_some h
      refine zw_xi hX dL_law_3910 g ?_
      obtain ⟨_, gi, h⟩ := zb_some h
      obtain ⟨r619, g, h⟩ := zb_some h
      refine zc_Vi (as := [.int v615, .int v616, .int v617]) hX gi (zt_X18_wire (d := d - 1) (by omega) g) zl_L_443 rfl dL_law_3911 ⟨rfl, rfl, Nat.le_of_ble_eq_true rfl⟩ ⟨by omega, by omega⟩ ?_
      refine zw_istore hX dL_law_3914 (by decide) ?_
      refine zw_aload_n hX dL_law_3916 rfl ?_
      obtain ⟨_, gi, h⟩ := zb_some h
      obtain ⟨r621, g, h⟩ := zb_some h
      refine zc_Vi (as := []) hX gi (zt_X18_thrown (d := d - 1) (by omega) g) zl_L_281 rfl dL_law_3917 ⟨rfl, rfl, Nat.le_of_ble_eq_true rfl⟩ ⟨by omega, by omega⟩ ?_
      refine zw_iload hX dL_law_3920 rfl ?_
      refine zw_icmp_eq (tgt := 3927) hX dL_law_3922 (by decide) (fun c3922 => ?_) (fun c3922 => ?_)
      · rw [if_pos c3922] at h
        refine zw_iload hX dL_law_3927 rfl ?_
        refine zw_if_ne (tgt := 3944) hX dL_law_3929 (by decide) (fun c3929 => ?_) (fun c3929 => ?_)
        · rw [if_neg c3929] at h
          refine zw_goto (tgt := 6002) hX dL_law_3944 (by decide) ?_
          refine zw_iinc (v := (i4 + (7 : Int32))) hX dL_law_6002 rfl rfl (by decide) ?_
          refine zw_goto (tgt := 23) hX dL_law_6005 (by decide) ?_
          refine zw_sub (lv' := [(0, .ref a0), (1, .ref a1), (2, .ref a2), (3, .ref a3), (4, .int (i4 + (7 : Int32)))]) (List.forall_mem_cons.mpr ⟨rfl, (List.forall_mem_cons.mpr ⟨rfl, (List.forall_mem_cons.mpr ⟨rfl, (List.forall_mem_cons.mpr ⟨rfl, (List.forall_mem_cons.mpr ⟨rfl, zs_nil⟩)⟩)⟩)⟩)⟩) ?_
          exact hrec _ _ _ _ h
        · rw [if_pos c3929] at h
          refine zw_aload_n hX dL_law_3932 rfl ?_
          refine zw_iconst (v := (0 : Int32)) hX dL_law_3933 (by decide) ?_
          obtain ⟨w622, g, h⟩ := zb_some h
          refine zw_xl hX dL_law_3934 g ?_
          refine zw_iload hX dL_law_3935 rfl ?_
          refine zw_i2l hX dL_law_3937 ?_
          refine zw_lcmp hX dL_law_3938 ?_
          refine zw_if_eq (tgt := 3944) hX dL_law_3939 (by decide) (fun c3939 => ?_) (fun c3939 => ?_)
          · rw [if_pos c3939] at h
            refine zw_goto (tgt := 6002) hX dL_law_3944 (by decide) ?_
            refine zw_iinc (v := (i4 + (7 : Int32))) hX dL_law_6002 rfl rfl (by decide) ?_
            refine zw_goto (tgt := 23) hX dL_law_6005 (by decide) ?_
            refine zw_sub (lv' := [(0, .ref a0), (1, .ref a1), (2, .ref a2), (3, .ref a3), (4, .int (i4 + (7 : Int32)))]) (List.forall_mem_cons.mpr ⟨rfl, (List.forall_mem_cons.mpr ⟨rfl, (List.forall_mem_cons.mpr ⟨rfl, (List.forall_mem_cons.mpr ⟨rfl, (List.forall_mem_cons.mpr ⟨rfl, zs_nil⟩)⟩)⟩)⟩)⟩) ?_
            exact hrec _ _ _ _ h
          · rw [if_neg c3939] at h
            refine zw_iconst (v := (0 : Int32)) hX dL_law_3942 (by decide) ?_
            cases h
      · rw [if_neg c3922] at h
        refine zw_iconst (v := (0 : Int32)) hX dL_law_3925 (by decide) ?_
        cases h
    · intro _ _ hx
      exact hx.elim
  · rw [if_neg hb3887] at h
    cases h
def zf_L_law_J3947 (N : Nat) (k : Nat → Nat → Nat → Nat → Int32 → Nat → Nat → zm_S → Option ((Int32 × zm_S) ⊕ ((Unit) × zm_S))) (a0 : Nat) (a1 : Nat) (a2 : Nat) (a3 : Nat) (i4 : Int32) (rc rs : Nat) (S : zm_S) : Option ((Int32 × zm_S) ⊕ ((Unit) × zm_S)) := (za_x S 0 a0 (i4 + (1 : Int32))).bind (fun v623 => (za_x S 0 a0 (i4 + (2 : Int32))).bind (fun v624 => (za_x S 0 a0 (i4 + (3 : Int32))).bind (fun v625 => if 2 ≤ rc ∧ 12 ≤ rs then (zf_L_numbers N a1 v623 v624 v625 S).bind (fun r628 => (za_x r628.2 0 a0 (i4 + (1 : Int32))).bind (fun v629 => (za_x r628.2 0 a0 (i4 + (2 : Int32))).bind (fun v630 => (za_x r628.2 0 a0 (i4 + (3 : Int32))).bind (fun v631 => (zi r628.2 a2 18).bind (fun _ => (zf_X18_numbers N a2 v629 v630 v631 r628.2).bind (fun r633 => (zi r633.2 a2 18).bind (fun _ => (zf_X18_thrown N a2 r633.2).bind (fun r635 => if r635.1 = r628.1 then k a0 a1 a2 a3 (i4 + (7 : Int32)) (rc - 2) (rs - 12) r635.2 else none)))))))) else none)))
set_option maxHeartbeats 4000000 in
set_option maxRecDepth 100000 in
theorem zt_L_law_J3947 {p : Program} {l : Launch} {e : Env} {s : State} {m : MethodId} {zb : Nat} {below : List Frame} {meth : Method} {c : Code} {V : zm_V} {d : Nat} {nm : String} (hlt : l.stackTraces = false) (hV : V.2.2.2.1 = s.heap.size) (hX : zm_X p room_1 s m #[Value.ref zb] meth c RL nm cL_law 8 zk_E V 601024 7293034) (hr : meth.sig.returnType = ret) (hR : d ≤ room_1.frames ∧ 64 * d ≤ room_1.locals) (hd : 46 ≤ d) {N : Nat} {k : Nat → Nat → Nat → Nat → Int32 → Nat → Nat → zm_S → Option ((Int32 × zm_S) ⊕ ((Unit) × zm_S))} {rc rs : Nat} {a0 : Nat} {a1 : Nat} {a2 : Nat} {a3 : Nat} {i4 : Int32} {res : (Int32 × zm_S) ⊕ ((Unit) × zm_S)} {out : (Int32 × zm_S)}   (hf : ∀ o, res = .inl o → o = out) (hk : ∀ (S' : zm_S) (rc rs : Nat), res = .inr ((), S') → zw p l e room_1 s m #[Value.ref zb] below meth c (lw_Z below #[Value.ref zb] s) 8 zk_E V 601024 7293034 6008 [] [] S' rc rs) (hrec : ∀ (i4' : Int32) (rc rs : Nat) (S : zm_S), k a0 a1 a2 a3 i4' rc rs S = some res → zw p l e room_1 s m #[Value.ref zb] below meth c (lw_Z below #[Value.ref zb] s) 8 zk_E V 601024 7293034 23 [(0, .ref a0), (1, .ref a1), (2, .ref a2), (3, .ref a3), (4, .int i4')] [] S rc rs) {S : zm_S} (h : zf_L_law_J3947 N k a0 a1 a2 a3 i4 rc rs S = some res) : zw p l e room_1 s m #[Value.ref zb] below meth c (lw_Z below #[Value.ref zb] s) 8 zk_E V 601024 7293034 3947 [(0, .ref a0), (1, .ref a1), (2, .ref a2), (3, .ref a3), (4, .int i4)] [] S rc rs := by
  unfold zf_L_law_J3947 at h
  refine zw_aload_n hX dL_law_3947 rfl ?_
  refine zw_aload_n hX dL_law_3948 rfl ?_
  refine zw_iload hX dL_law_3949 rfl ?_
  refine zw_iconst (v := (1 : Int32)) hX dL_law_3951 (by decide) ?_
  refine zw_iadd hX dL_law_3952 ?_
  obtain ⟨v623, g, h⟩ := zb_some h
  refine zw_xi hX dL_law_3953 g ?_
  refine zw_aload_n hX dL_law_3954 rfl ?_
  refine zw_iload hX dL_law_3955 rfl ?_
  refine zw_iconst (v := (2 : Int32)) hX dL_law_3957 (by decide) ?_
  refine zw_iadd hX dL_law_3958 ?_
  obtain ⟨v624, g, h⟩ := zb_some h
  refine zw_xi hX dL_law_3959 g ?_
  refine zw_aload_n hX dL_law_3960 rfl ?_
  refine zw_iload hX dL_law_3961 rfl ?_
  refine zw_iconst (v := (3 : Int32)) hX dL_law_3963 (by decide) ?_
  refine zw_iadd hX dL_law_3964 ?_
  obtain ⟨v625, g, h⟩ := zb_some h
  refine zw_xi hX dL_law_3965 g ?_
  by_cases hb3966 : 2 ≤ rc ∧ 12 ≤ rs
  · rw [if_pos hb3966] at h
    obtain ⟨r628, g, h⟩ := zb_some h
    refine zc_S (as := [.ref a1, .int v623, .int v624, .int v625]) hX (zt_L_numbers hlt (d := d - 1) (by omega) g) zl_L_444 dL_law_3966 ⟨rfl, rfl, Nat.le_of_ble_eq_true rfl⟩ ⟨by omega, by omega⟩ hb3966 ?_ ?_
    · rintro _ _ ⟨rfl, rfl⟩
      refine zw_istore hX dL_law_3969 (by decide) ?_
      refine zw_aload_n hX dL_law_3971 rfl ?_
      refine zw_aload_n hX dL_law_3972 rfl ?_
      refine zw_iload hX dL_law_3973 rfl ?_
      refine zw_iconst (v := (1 : Int32)) hX dL_law_3975 (by decide) ?_
      refine zw_iadd hX dL_law_3976 ?_
      obtain ⟨v629, g, h⟩ := zb_some h
      refine zw_xi hX dL_law_3977 g ?_
      refine zw_aload_n hX dL_law_3978 rfl ?_
      refine zw_iload hX dL_law_3979 rfl ?_
      refine zw_iconst (v := (2 : Int32)) hX dL_law_3981 (by decide) ?_
      refine zw_iadd hX dL_law_3982 ?_
      obtain ⟨v630, g, h⟩ := zb_some h
      refine zw_xi hX dL_law_3983 g ?_
      refine zw_aload_n hX dL_law_3984 rfl ?_
      refine zw_iload hX dL_law_3985 rfl ?_
      refine zw_iconst (v := (3 : Int32)) hX dL_law_3987 (by decide) ?_
      refine zw_iadd hX dL_law_3988 ?_
      obtain ⟨v631, g, h⟩ := zb_some h
      refine zw_xi hX dL_law_3989 g ?_
      obtain ⟨_, gi, h⟩ := zb_some h
      obtain ⟨r633, g, h⟩ := zb_some h
      refine zc_Vv (as := [.int v629, .int v630, .int v631]) hX gi (zt_X18_numbers (d := d - 1) (by omega) g) zl_L_447 rfl dL_law_3990 ⟨rfl, rfl, Nat.le_of_ble_eq_true rfl⟩ ⟨by omega, by omega⟩ ?_
      refine zw_aload_n hX dL_law_3993 rfl ?_
      obtain ⟨_, gi, h⟩ := zb_some h
      obtain ⟨r635, g, h⟩ := zb_some h
      refine zc_Vi (as := []) hX gi (zt_X18_thrown (d := d - 1) (by omega) g) zl_L_281 rfl dL_law_3994 ⟨rfl, rfl, Nat.le_of_ble_eq_true rfl⟩ ⟨by omega, by omega⟩ ?_
      refine zw_iload hX dL_law_3997 rfl ?_
      refine zw_icmp_eq (tgt := 4004) hX dL_law_3999 (by decide) (fun c3999 => ?_) (fun c3999 => ?_)
      · rw [if_pos c3999] at h
        refine zw_goto (tgt := 6002) hX dL_law_4004 (by decide) ?_
        refine zw_iinc (v := (i4 + (7 : Int32))) hX dL_law_6002 rfl rfl (by decide) ?_
        refine zw_goto (tgt := 23) hX dL_law_6005 (by decide) ?_
        refine zw_sub (lv' := [(0, .ref a0), (1, .ref a1), (2, .ref a2), (3, .ref a3), (4, .int (i4 + (7 : Int32)))]) (List.forall_mem_cons.mpr ⟨rfl, (List.forall_mem_cons.mpr ⟨rfl, (List.forall_mem_cons.mpr ⟨rfl, (List.forall_mem_cons.mpr ⟨rfl, (List.forall_mem_cons.mpr ⟨rfl, zs_nil⟩)⟩)⟩)⟩)⟩) ?_
        exact hrec _ _ _ _ h
      · rw [if_neg c3999] at h
        refine zw_iconst (v := (0 : Int32)) hX dL_law_4002 (by decide) ?_
        cases h
    · intro _ _ hx
      exact hx.elim
  · rw [if_neg hb3966] at h
    cases h
def zf_L_law_J4007 (N : Nat) (k : Nat → Nat → Nat → Nat → Int32 → Nat → Nat → zm_S → Option ((Int32 × zm_S) ⊕ ((Unit) × zm_S))) (a0 : Nat) (a1 : Nat) (a2 : Nat) (a3 : Nat) (i4 : Int32) (rc rs : Nat) (S : zm_S) : Option ((Int32 × zm_S) ⊕ ((Unit) × zm_S)) := (za_x S 0 a0 (i4 + (1 : Int32))).bind (fun v636 => (za_x S 0 a0 (i4 + (2 : Int32))).bind (fun v637 => (za_x S 0 a0 (i4 + (3 : Int32))).bind (fun v638 => if 2 ≤ rc ∧ 12 ≤ rs then (zf_L_row N a1 v636 v637 v638 a3 S).bind (fun r641 => (za_x r641.2 0 a0 (i4 + (1 : Int32))).bind (fun v642 => (za_x r641.2 0 a0 (i4 + (2 : Int32))).bind (fun v643 => (za_x r641.2 0 a0 (i4 + (3 : Int32))).bind (fun v644 => (zi r641.2 a2 18).bind (fun _ => (zf_X18_row N a2 v642 v643 v644 r641.2).bind (fun r646 => (zi r646.2 a2 18).bind (fun _ => (zf_X18_thrown N a2 r646.2).bind (fun r648 => if r648.1 = r641.1 then if r641.1 = 0 then (za_l r648.2 a3 (0 : Int32)).bind (fun w649 => if (lg_cmp w649 ((r646.1).toInt64)) = 0 then k a0 a1 a2 a3 (i4 + (7 : Int32)) (rc - 2) (rs - 12) r648.2 else none) else k a0 a1 a2 a3 (i4 + (7 : Int32)) (rc - 2) (rs - 12) r648.2 else none)))))))) else none)))
set_option maxHeartbeats 4000000 in
set_option maxRecDepth 100000 in
theorem zt_L_law_J4007 {p : Program} {l : Launch} {e : Env} {s : State} {m : MethodId} {zb : Nat} {below : List Frame} {meth : Method} {c : Code} {V : zm_V} {d : Nat} {nm : String} (hlt : l.stackTraces = false) (hV : V.2.2.2.1 = s.heap.size) (hX : zm_X p room_1 s m #[Value.ref zb] meth c RL nm cL_law 8 zk_E V 601024 7293034) (hr : meth.sig.returnType = ret) (hR : d ≤ room_1.frames ∧ 64 * d ≤ room_1.locals) (hd : 46 ≤ d) {N : Nat} {k : Nat → Nat → Nat → Nat → Int32 → Nat → Nat → zm_S → Option ((Int32 × zm_S) ⊕ ((Unit) × zm_S))} {rc rs : Nat} {a0 : Nat} {a1 : Nat} {a2 : Nat} {a3 : Nat} {i4 : Int32} {res : (Int32 × zm_S) ⊕ ((Unit) × zm_S)} {out : (Int32 × zm_S)}   (hf : ∀ o, res = .inl o → o = out) (hk : ∀ (S' : zm_S) (rc rs : Nat), res = .inr ((), S') → zw p l e room_1 s m #[Value.ref zb] below meth c (lw_Z below #[Value.ref zb] s) 8 zk_E V 601024 7293034 6008 [] [] S' rc rs) (hrec : ∀ (i4' : Int32) (rc rs : Nat) (S : zm_S), k a0 a1 a2 a3 i4' rc rs S = some res → zw p l e room_1 s m #[Value.ref zb] below meth c (lw_Z below #[Value.ref zb] s) 8 zk_E V 601024 7293034 23 [(0, .ref a0), (1, .ref a1), (2, .ref a2), (3, .ref a3), (4, .int i4')] [] S rc rs) {S : zm_S} (h : zf_L_law_J4007 N k a0 a1 a2 a3 i4 rc rs S = some res) : zw p l e room_1 s m #[Value.ref zb] below meth c (lw_Z below #[Value.ref zb] s) 8 zk_E V 601024 7293034 4007 [(0, .ref a0), (1, .ref a1), (2, .ref a2), (3, .ref a3), (4, .int i4)] [] S rc rs := by
  unfold zf_L_law_J4007 at h
  refine zw_aload_n hX dL_law_4007 rfl ?_
  refine zw_aload_n hX dL_law_4008 rfl ?_
  refine zw_iload hX dL_law_4009 rfl ?_
  refine zw_iconst (v := (1 : Int32)) hX dL_law_4011 (by decide) ?_
  refine zw_iadd hX dL_law_4012 ?_
  obtain ⟨v636, g, h⟩ := zb_some h
  refine zw_xi hX dL_law_4013 g ?_
  refine zw_aload_n hX dL_law_4014 rfl ?_
  refine zw_iload hX dL_law_4015 rfl ?_
  refine zw_iconst (v := (2 : Int32)) hX dL_law_4017 (by decide) ?_
  refine zw_iadd hX dL_law_4018 ?_
  obtain ⟨v637, g, h⟩ := zb_some h
  refine zw_xi hX dL_law_4019 g ?_
  refine zw_aload_n hX dL_law_4020 rfl ?_
  refine zw_iload hX dL_law_4021 rfl ?_
  refine zw_iconst (v := (3 : Int32)) hX dL_law_4023 (by decide) ?_
  refine zw_iadd hX dL_law_4024 ?_
  obtain ⟨v638, g, h⟩ := zb_some h
  refine zw_xi hX dL_law_4025 g ?_
  refine zw_aload_n hX dL_law_4026 rfl ?_
  by_cases hb4027 : 2 ≤ rc ∧ 12 ≤ rs
  · rw [if_pos hb4027] at h
    obtain ⟨r641, g, h⟩ := zb_some h
    refine zc_S (as := [.ref a1, .int v636, .int v637, .int v638, .ref a3]) hX (zt_L_row hlt (d := d - 1) (by omega) g) zl_L_448 dL_law_4027 ⟨rfl, rfl, Nat.le_of_ble_eq_true rfl⟩ ⟨by omega, by omega⟩ hb4027 ?_ ?_
    · rintro _ _ ⟨rfl, rfl⟩
      refine zw_istore hX dL_law_4030 (by decide) ?_
      refine zw_aload_n hX dL_law_4032 rfl ?_
      refine zw_aload_n hX dL_law_4033 rfl ?_
      refine zw_iload hX dL_law_4034 rfl ?_
      refine zw_iconst (v := (1 : Int32)) hX dL_law_4036 (by decide) ?_
      refine zw_iadd hX dL_law_4037 ?_
      obtain ⟨v642, g, h⟩ := zb_some h
      refine zw_xi hX dL_law_4038 g ?_
      refine zw_aload_n hX dL_law_4039 rfl ?_
      refine zw_iload hX dL_law_4040 rfl ?_
      refine zw_iconst (v := (2 : Int32)) hX dL_law_4042 (by decide) ?_
      refine zw_iadd hX dL_law_4043 ?_
      obtain ⟨v643, g, h⟩ := zb_some h
      refine zw_xi hX dL_law_4044 g ?_
      refine zw_aload_n hX dL_law_4045 rfl ?_
      refine zw_iload hX dL_law_4046 rfl ?_
      refine zw_iconst (v := (3 : Int32)) hX dL_law_4048 (by decide) ?_
      refine zw_iadd hX dL_law_4049 ?_
      obtain ⟨v644, g, h⟩ := zb_some h
      refine zw_xi hX dL_law_4050 g ?_
      obtain ⟨_, gi, h⟩ := zb_some h
      obtain ⟨r646, g, h⟩ := zb_some h
      refine zc_Vi (as := [.int v642, .int v643, .int v644]) hX gi (zt_X18_row (d := d - 1) (by omega) g) zl_L_450 rfl dL_law_4051 ⟨rfl, rfl, Nat.le_of_ble_eq_true rfl⟩ ⟨by omega, by omega⟩ ?_
      refine zw_istore hX dL_law_4054 (by decide) ?_
      refine zw_aload_n hX dL_law_4056 rfl ?_
      obtain ⟨_, gi, h⟩ := zb_some h
      obtain ⟨r648, g, h⟩ := zb_some h
      refine zc_Vi (as := []) hX gi (zt_X18_thrown (d := d - 1) (by omega) g) zl_L_281 rfl dL_law_4057 ⟨rfl, rfl, Nat.le_of_ble_eq_true rfl⟩ ⟨by omega, by omega⟩ ?_
      refine zw_iload hX dL_law_4060 rfl ?_
      refine zw_icmp_eq (tgt := 4067) hX dL_law_4062 (by decide) (fun c4062 => ?_) (fun c4062 => ?_)
      · rw [if_pos c4062] at h
        refine zw_iload hX dL_law_4067 rfl ?_
        refine zw_if_ne (tgt := 4084) hX dL_law_4069 (by decide) (fun c4069 => ?_) (fun c4069 => ?_)
        · rw [if_neg c4069] at h
          refine zw_goto (tgt := 6002) hX dL_law_4084 (by decide) ?_
          refine zw_iinc (v := (i4 + (7 : Int32))) hX dL_law_6002 rfl rfl (by decide) ?_
          refine zw_goto (tgt := 23) hX dL_law_6005 (by decide) ?_
          refine zw_sub (lv' := [(0, .ref a0), (1, .ref a1), (2, .ref a2), (3, .ref a3), (4, .int (i4 + (7 : Int32)))]) (List.forall_mem_cons.mpr ⟨rfl, (List.forall_mem_cons.mpr ⟨rfl, (List.forall_mem_cons.mpr ⟨rfl, (List.forall_mem_cons.mpr ⟨rfl, (List.forall_mem_cons.mpr ⟨rfl, zs_nil⟩)⟩)⟩)⟩)⟩) ?_
          exact hrec _ _ _ _ h
        · rw [if_pos c4069] at h
          refine zw_aload_n hX dL_law_4072 rfl ?_
          refine zw_iconst (v := (0 : Int32)) hX dL_law_4073 (by decide) ?_
          obtain ⟨w649, g, h⟩ := zb_some h
          refine zw_xl hX dL_law_4074 g ?_
          refine zw_iload hX dL_law_4075 rfl ?_
          refine zw_i2l hX dL_law_4077 ?_
          refine zw_lcmp hX dL_law_4078 ?_
          refine zw_if_eq (tgt := 4084) hX dL_law_4079 (by decide) (fun c4079 => ?_) (fun c4079 => ?_)
          · rw [if_pos c4079] at h
            refine zw_goto (tgt := 6002) hX dL_law_4084 (by decide) ?_
            refine zw_iinc (v := (i4 + (7 : Int32))) hX dL_law_6002 rfl rfl (by decide) ?_
            refine zw_goto (tgt := 23) hX dL_law_6005 (by decide) ?_
            refine zw_sub (lv' := [(0, .ref a0), (1, .ref a1), (2, .ref a2), (3, .ref a3), (4, .int (i4 + (7 : Int32)))]) (List.forall_mem_cons.mpr ⟨rfl, (List.forall_mem_cons.mpr ⟨rfl, (List.forall_mem_cons.mpr ⟨rfl, (List.forall_mem_cons.mpr ⟨rfl, (List.forall_mem_cons.mpr ⟨rfl, zs_nil⟩)⟩)⟩)⟩)⟩) ?_
            exact hrec _ _ _ _ h
          · rw [if_neg c4079] at h
            refine zw_iconst (v := (0 : Int32)) hX dL_law_4082 (by decide) ?_
            cases h
      · rw [if_neg c4062] at h
        refine zw_iconst (v := (0 : Int32)) hX dL_law_4065 (by decide) ?_
        cases h
    · intro _ _ hx
      exact hx.elim
  · rw [if_neg hb4027] at h
    cases h
def zf_L_law_J4087 (N : Nat) (k : Nat → Nat → Nat → Nat → Int32 → Nat → Nat → zm_S → Option ((Int32 × zm_S) ⊕ ((Unit) × zm_S))) (a0 : Nat) (a1 : Nat) (a2 : Nat) (a3 : Nat) (i4 : Int32) (rc rs : Nat) (S : zm_S) : Option ((Int32 × zm_S) ⊕ ((Unit) × zm_S)) := (za_x S 0 a0 (i4 + (1 : Int32))).bind (fun v650 => (za_x S 0 a0 (i4 + (2 : Int32))).bind (fun v651 => if 2 ≤ rc ∧ 12 ≤ rs then (zf_L_safe N a1 v650 v651 a3 S).bind (fun r654 => (za_x r654.2 0 a0 (i4 + (1 : Int32))).bind (fun v655 => (za_x r654.2 0 a0 (i4 + (2 : Int32))).bind (fun v656 => (zi r654.2 a2 18).bind (fun _ => (zf_X18_safe N a2 v655 v656 r654.2).bind (fun r658 => (zi r658.2 a2 18).bind (fun _ => (zf_X18_thrown N a2 r658.2).bind (fun r660 => if r660.1 = r654.1 then if r654.1 = 0 then (za_l r660.2 a3 (0 : Int32)).bind (fun w661 => if (lg_cmp w661 ((r658.1).toInt64)) = 0 then k a0 a1 a2 a3 (i4 + (7 : Int32)) (rc - 2) (rs - 12) r660.2 else none) else k a0 a1 a2 a3 (i4 + (7 : Int32)) (rc - 2) (rs - 12) r660.2 else none))))))) else none))
set_option maxHeartbeats 4000000 in
set_option maxRecDepth 100000 in
theorem zt_L_law_J4087 {p : Program} {l : Launch} {e : Env} {s : State} {m : MethodId} {zb : Nat} {below : List Frame} {meth : Method} {c : Code} {V : zm_V} {d : Nat} {nm : String} (hlt : l.stackTraces = false) (hV : V.2.2.2.1 = s.heap.size) (hX : zm_X p room_1 s m #[Value.ref zb] meth c RL nm cL_law 8 zk_E V 601024 7293034) (hr : meth.sig.returnType = ret) (hR : d ≤ room_1.frames ∧ 64 * d ≤ room_1.locals) (hd : 46 ≤ d) {N : Nat} {k : Nat → Nat → Nat → Nat → Int32 → Nat → Nat → zm_S → Option ((Int32 × zm_S) ⊕ ((Unit) × zm_S))} {rc rs : Nat} {a0 : Nat} {a1 : Nat} {a2 : Nat} {a3 : Nat} {i4 : Int32} {res : (Int32 × zm_S) ⊕ ((Unit) × zm_S)} {out : (Int32 × zm_S)}   (hf : ∀ o, res = .inl o → o = out) (hk : ∀ (S' : zm_S) (rc rs : Nat), res = .inr ((), S') → zw p l e room_1 s m #[Value.ref zb] below meth c (lw_Z below #[Value.ref zb] s) 8 zk_E V 601024 7293034 6008 [] [] S' rc rs) (hrec : ∀ (i4' : Int32) (rc rs : Nat) (S : zm_S), k a0 a1 a2 a3 i4' rc rs S = some res → zw p l e room_1 s m #[Value.ref zb] below meth c (lw_Z below #[Value.ref zb] s) 8 zk_E V 601024 7293034 23 [(0, .ref a0), (1, .ref a1), (2, .ref a2), (3, .ref a3), (4, .int i4')] [] S rc rs) {S : zm_S} (h : zf_L_law_J4087 N k a0 a1 a2 a3 i4 rc rs S = some res) : zw p l e room_1 s m #[Value.ref zb] below meth c (lw_Z below #[Value.ref zb] s) 8 zk_E V 601024 7293034 4087 [(0, .ref a0), (1, .ref a1), (2, .ref a2), (3, .ref a3), (4, .int i4)] [] S rc rs := by
  unfold zf_L_law_J4087 at h
  refine zw_aload_n hX dL_law_4087 rfl ?_
  refine zw_aload_n hX dL_law_4088 rfl ?_
  refine zw_iload hX dL_law_4089 rfl ?_
  refine zw_iconst (v := (1 : Int32)) hX dL_law_4091 (by decide) ?_
  refine zw_iadd hX dL_law_4092 ?_
  obtain ⟨v650, g, h⟩ := zb_some h
  refine zw_xi hX dL_law_4093 g ?_
  refine zw_aload_n hX dL_law_4094 rfl ?_
  refine zw_iload hX dL_law_4095 rfl ?_
  refine zw_iconst (v := (2 : Int32)) hX dL_law_4097 (by decide) ?_
  refine zw_iadd hX dL_law_4098 ?_
  obtain ⟨v651, g, h⟩ := zb_some h
  refine zw_xi hX dL_law_4099 g ?_
  refine zw_aload_n hX dL_law_4100 rfl ?_
  by_cases hb4101 : 2 ≤ rc ∧ 12 ≤ rs
  · rw [if_pos hb4101] at h
    obtain ⟨r654, g, h⟩ := zb_some h
    refine zc_S (as := [.ref a1, .int v650, .int v651, .ref a3]) hX (zt_L_safe hlt (d := d - 1) (by omega) g) zl_L_451 dL_law_4101 ⟨rfl, rfl, Nat.le_of_ble_eq_true rfl⟩ ⟨by omega, by omega⟩ hb4101 ?_ ?_
    · rintro _ _ ⟨rfl, rfl⟩
      refine zw_istore hX dL_law_4104 (by decide) ?_
      refine zw_aload_n hX dL_law_4106 rfl ?_
      refine zw_aload_n hX dL_law_4107 rfl ?_
      refine zw_iload hX dL_law_4108 rfl ?_
      refine zw_iconst (v := (1 : Int32)) hX dL_law_4110 (by decide) ?_
      refine zw_iadd hX dL_law_4111 ?_
      obtain ⟨v655, g, h⟩ := zb_some h
      refine zw_xi hX dL_law_4112 g ?_
      refine zw_aload_n hX dL_law_4113 rfl ?_
      refine zw_iload hX dL_law_4114 rfl ?_
      refine zw_iconst (v := (2 : Int32)) hX dL_law_4116 (by decide) ?_
      refine zw_iadd hX dL_law_4117 ?_
      obtain ⟨v656, g, h⟩ := zb_some h
      refine zw_xi hX dL_law_4118 g ?_
      obtain ⟨_, gi, h⟩ := zb_some h
      obtain ⟨r658, g, h⟩ := zb_some h
      refine zc_Vi (as := [.int v655, .int v656]) hX gi (zt_X18_safe (d := d - 1) (by omega) g) zl_L_453 rfl dL_law_4119 ⟨rfl, rfl, Nat.le_of_ble_eq_true rfl⟩ ⟨by omega, by omega⟩ ?_
      refine zw_istore hX dL_law_4122 (by decide) ?_
      refine zw_aload_n hX dL_law_4124 rfl ?_
      obtain ⟨_, gi, h⟩ := zb_some h
      obtain ⟨r660, g, h⟩ := zb_some h
      refine zc_Vi (as := []) hX gi (zt_X18_thrown (d := d - 1) (by omega) g) zl_L_281 rfl dL_law_4125 ⟨rfl, rfl, Nat.le_of_ble_eq_true rfl⟩ ⟨by omega, by omega⟩ ?_
      refine zw_iload hX dL_law_4128 rfl ?_
      refine zw_icmp_eq (tgt := 4135) hX dL_law_4130 (by decide) (fun c4130 => ?_) (fun c4130 => ?_)
      · rw [if_pos c4130] at h
        refine zw_iload hX dL_law_4135 rfl ?_
        refine zw_if_ne (tgt := 4152) hX dL_law_4137 (by decide) (fun c4137 => ?_) (fun c4137 => ?_)
        · rw [if_neg c4137] at h
          refine zw_goto (tgt := 6002) hX dL_law_4152 (by decide) ?_
          refine zw_iinc (v := (i4 + (7 : Int32))) hX dL_law_6002 rfl rfl (by decide) ?_
          refine zw_goto (tgt := 23) hX dL_law_6005 (by decide) ?_
          refine zw_sub (lv' := [(0, .ref a0), (1, .ref a1), (2, .ref a2), (3, .ref a3), (4, .int (i4 + (7 : Int32)))]) (List.forall_mem_cons.mpr ⟨rfl, (List.forall_mem_cons.mpr ⟨rfl, (List.forall_mem_cons.mpr ⟨rfl, (List.forall_mem_cons.mpr ⟨rfl, (List.forall_mem_cons.mpr ⟨rfl, zs_nil⟩)⟩)⟩)⟩)⟩) ?_
          exact hrec _ _ _ _ h
        · rw [if_pos c4137] at h
          refine zw_aload_n hX dL_law_4140 rfl ?_
          refine zw_iconst (v := (0 : Int32)) hX dL_law_4141 (by decide) ?_
          obtain ⟨w661, g, h⟩ := zb_some h
          refine zw_xl hX dL_law_4142 g ?_
          refine zw_iload hX dL_law_4143 rfl ?_
          refine zw_i2l hX dL_law_4145 ?_
          refine zw_lcmp hX dL_law_4146 ?_
          refine zw_if_eq (tgt := 4152) hX dL_law_4147 (by decide) (fun c4147 => ?_) (fun c4147 => ?_)
          · rw [if_pos c4147] at h
            refine zw_goto (tgt := 6002) hX dL_law_4152 (by decide) ?_
            refine zw_iinc (v := (i4 + (7 : Int32))) hX dL_law_6002 rfl rfl (by decide) ?_
            refine zw_goto (tgt := 23) hX dL_law_6005 (by decide) ?_
            refine zw_sub (lv' := [(0, .ref a0), (1, .ref a1), (2, .ref a2), (3, .ref a3), (4, .int (i4 + (7 : Int32)))]) (List.forall_mem_cons.mpr ⟨rfl, (List.forall_mem_cons.mpr ⟨rfl, (List.forall_mem_cons.mpr ⟨rfl, (List.forall_mem_cons.mpr ⟨rfl, (List.forall_mem_cons.mpr ⟨rfl, zs_nil⟩)⟩)⟩)⟩)⟩) ?_
            exact hrec _ _ _ _ h
          · rw [if_neg c4147] at h
            refine zw_iconst (v := (0 : Int32)) hX dL_law_4150 (by decide) ?_
            cases h
      · rw [if_neg c4130] at h
        refine zw_iconst (v := (0 : Int32)) hX dL_law_4133 (by decide) ?_
        cases h
    · intro _ _ hx
      exact hx.elim
  · rw [if_neg hb4101] at h
    cases h
def zf_L_law_J4249 (N : Nat) (k : Nat → Nat → Nat → Nat → Int32 → Nat → Nat → zm_S → Option ((Int32 × zm_S) ⊕ ((Unit) × zm_S))) (a0 : Nat) (a1 : Nat) (a2 : Nat) (a3 : Nat) (i4 : Int32) (t0 : Int64) (t1 : Int64) (rc rs : Nat) (S : zm_S) : Option ((Int32 × zm_S) ⊕ ((Unit) × zm_S)) := if (lg_cmp t0 t1) = 0 then k a0 a1 a2 a3 (i4 + (7 : Int32)) rc rs S else none
set_option maxHeartbeats 4000000 in
set_option maxRecDepth 100000 in
theorem zt_L_law_J4249 {p : Program} {l : Launch} {e : Env} {s : State} {m : MethodId} {zb : Nat} {below : List Frame} {meth : Method} {c : Code} {V : zm_V} {d : Nat} {nm : String} (hlt : l.stackTraces = false) (hV : V.2.2.2.1 = s.heap.size) (hX : zm_X p room_1 s m #[Value.ref zb] meth c RL nm cL_law 8 zk_E V 601024 7293034) (hr : meth.sig.returnType = ret) (hR : d ≤ room_1.frames ∧ 64 * d ≤ room_1.locals) (hd : 46 ≤ d) {N : Nat} {k : Nat → Nat → Nat → Nat → Int32 → Nat → Nat → zm_S → Option ((Int32 × zm_S) ⊕ ((Unit) × zm_S))} {rc rs : Nat} {a0 : Nat} {a1 : Nat} {a2 : Nat} {a3 : Nat} {i4 : Int32} {t0 : Int64} {t1 : Int64} {res : (Int32 × zm_S) ⊕ ((Unit) × zm_S)} {out : (Int32 × zm_S)}   (hf : ∀ o, res = .inl o → o = out) (hk : ∀ (S' : zm_S) (rc rs : Nat), res = .inr ((), S') → zw p l e room_1 s m #[Value.ref zb] below meth c (lw_Z below #[Value.ref zb] s) 8 zk_E V 601024 7293034 6008 [] [] S' rc rs) (hrec : ∀ (i4' : Int32) (rc rs : Nat) (S : zm_S), k a0 a1 a2 a3 i4' rc rs S = some res → zw p l e room_1 s m #[Value.ref zb] below meth c (lw_Z below #[Value.ref zb] s) 8 zk_E V 601024 7293034 23 [(0, .ref a0), (1, .ref a1), (2, .ref a2), (3, .ref a3), (4, .int i4')] [] S rc rs) {S : zm_S} (h : zf_L_law_J4249 N k a0 a1 a2 a3 i4 t0 t1 rc rs S = some res) : zw p l e room_1 s m #[Value.ref zb] below meth c (lw_Z below #[Value.ref zb] s) 8 zk_E V 601024 7293034 4249 [(0, .ref a0), (1, .ref a1), (2, .ref a2), (3, .ref a3), (4, .int i4)] [.long t1, .long t0] S rc rs := by
  unfold zf_L_law_J4249 at h
  refine zw_lcmp hX dL_law_4249 ?_
  refine zw_if_eq (tgt := 4255) hX dL_law_4250 (by decide) (fun c4250 => ?_) (fun c4250 => ?_)
  · rw [if_pos c4250] at h
    refine zw_goto (tgt := 6002) hX dL_law_4255 (by decide) ?_
    refine zw_iinc (v := (i4 + (7 : Int32))) hX dL_law_6002 rfl rfl (by decide) ?_
    refine zw_goto (tgt := 23) hX dL_law_6005 (by decide) ?_
    refine zw_sub (lv' := [(0, .ref a0), (1, .ref a1), (2, .ref a2), (3, .ref a3), (4, .int (i4 + (7 : Int32)))]) (List.forall_mem_cons.mpr ⟨rfl, (List.forall_mem_cons.mpr ⟨rfl, (List.forall_mem_cons.mpr ⟨rfl, (List.forall_mem_cons.mpr ⟨rfl, (List.forall_mem_cons.mpr ⟨rfl, zs_nil⟩)⟩)⟩)⟩)⟩) ?_
    exact hrec _ _ _ _ h
  · rw [if_neg c4250] at h
    refine zw_iconst (v := (0 : Int32)) hX dL_law_4253 (by decide) ?_
    cases h
def zf_L_law_J4209 (N : Nat) (k : Nat → Nat → Nat → Nat → Int32 → Nat → Nat → zm_S → Option ((Int32 × zm_S) ⊕ ((Unit) × zm_S))) (a0 : Nat) (a1 : Nat) (a2 : Nat) (a3 : Nat) (i4 : Int32) (i5 : Int32) (t0 : Nat) (t1 : Int32) (t2 : Int32) (rc rs : Nat) (S : zm_S) : Option ((Int32 × zm_S) ⊕ ((Unit) × zm_S)) := (za_x S 0 a0 (i4 + (3 : Int32))).bind (fun v670 => (zi S t0 18).bind (fun _ => (zf_X18_hand N t0 t1 t2 v670 S).bind (fun r672 => (zi r672.2 a2 18).bind (fun _ => (zf_X18_thrown N a2 r672.2).bind (fun r674 => if r674.1 = i5 then if i5 = 0 then (za_l r674.2 a3 (0 : Int32)).bind (fun w675 => if r672.1 = 0 then zf_L_law_J4249 N (k) a0 a1 a2 a3 i4 w675 (0 : Int64) rc rs r674.2 else zf_L_law_J4249 N (k) a0 a1 a2 a3 i4 w675 (1 : Int64) rc rs r674.2) else k a0 a1 a2 a3 (i4 + (7 : Int32)) rc rs r674.2 else none)))))
set_option maxHeartbeats 4000000 in
set_option maxRecDepth 100000 in
theorem zt_L_law_J4209 {p : Program} {l : Launch} {e : Env} {s : State} {m : MethodId} {zb : Nat} {below : List Frame} {meth : Method} {c : Code} {V : zm_V} {d : Nat} {nm : String} (hlt : l.stackTraces = false) (hV : V.2.2.2.1 = s.heap.size) (hX : zm_X p room_1 s m #[Value.ref zb] meth c RL nm cL_law 8 zk_E V 601024 7293034) (hr : meth.sig.returnType = ret) (hR : d ≤ room_1.frames ∧ 64 * d ≤ room_1.locals) (hd : 46 ≤ d) {N : Nat} {k : Nat → Nat → Nat → Nat → Int32 → Nat → Nat → zm_S → Option ((Int32 × zm_S) ⊕ ((Unit) × zm_S))} {rc rs : Nat} {a0 : Nat} {a1 : Nat} {a2 : Nat} {a3 : Nat} {i4 : Int32} {i5 : Int32} {t0 : Nat} {t1 : Int32} {t2 : Int32} {res : (Int32 × zm_S) ⊕ ((Unit) × zm_S)} {out : (Int32 × zm_S)}   (hf : ∀ o, res = .inl o → o = out) (hk : ∀ (S' : zm_S) (rc rs : Nat), res = .inr ((), S') → zw p l e room_1 s m #[Value.ref zb] below meth c (lw_Z below #[Value.ref zb] s) 8 zk_E V 601024 7293034 6008 [] [] S' rc rs) (hrec : ∀ (i4' : Int32) (rc rs : Nat) (S : zm_S), k a0 a1 a2 a3 i4' rc rs S = some res → zw p l e room_1 s m #[Value.ref zb] below meth c (lw_Z below #[Value.ref zb] s) 8 zk_E V 601024 7293034 23 [(0, .ref a0), (1, .ref a1), (2, .ref a2), (3, .ref a3), (4, .int i4')] [] S rc rs) {S : zm_S} (h : zf_L_law_J4209 N k a0 a1 a2 a3 i4 i5 t0 t1 t2 rc rs S = some res) : zw p l e room_1 s m #[Value.ref zb] below meth c (lw_Z below #[Value.ref zb] s) 8 zk_E V 601024 7293034 4209 [(0, .ref a0), (1, .ref a1), (2, .ref a2), (3, .ref a3), (4, .int i4), (5, .int i5)] [.int t2, .int t1, .ref t0] S rc rs := by
  unfold zf_L_law_J4209 at h
  refine zw_aload_n hX dL_law_4209 rfl ?_
  refine zw_iload hX dL_law_4210 rfl ?_
  refine zw_iconst (v := (3 : Int32)) hX dL_law_4212 (by decide) ?_
  refine zw_iadd hX dL_law_4213 ?_
  obtain ⟨v670, g, h⟩ := zb_some h
  refine zw_xi hX dL_law_4214 g ?_
  obtain ⟨_, gi, h⟩ := zb_some h
  obtain ⟨r672, g, h⟩ := zb_some h
  refine zc_Vi (as := [.int t1, .int t2, .int v670]) hX gi (zt_X18_hand (d := d - 1) (by omega) g) zl_L_457 rfl dL_law_4215 ⟨rfl, rfl, Nat.le_of_ble_eq_true rfl⟩ ⟨by omega, by omega⟩ ?_
  refine zw_istore hX dL_law_4218 (by decide) ?_
  refine zw_aload_n hX dL_law_4220 rfl ?_
  obtain ⟨_, gi, h⟩ := zb_some h
  obtain ⟨r674, g, h⟩ := zb_some h
  refine zc_Vi (as := []) hX gi (zt_X18_thrown (d := d - 1) (by omega) g) zl_L_281 rfl dL_law_4221 ⟨rfl, rfl, Nat.le_of_ble_eq_true rfl⟩ ⟨by omega, by omega⟩ ?_
  refine zw_iload hX dL_law_4224 rfl ?_
  refine zw_icmp_eq (tgt := 4231) hX dL_law_4226 (by decide) (fun c4226 => ?_) (fun c4226 => ?_)
  · rw [if_pos c4226] at h
    refine zw_iload hX dL_law_4231 rfl ?_
    refine zw_if_ne (tgt := 4255) hX dL_law_4233 (by decide) (fun c4233 => ?_) (fun c4233 => ?_)
    · rw [if_neg c4233] at h
      refine zw_goto (tgt := 6002) hX dL_law_4255 (by decide) ?_
      refine zw_iinc (v := (i4 + (7 : Int32))) hX dL_law_6002 rfl rfl (by decide) ?_
      refine zw_goto (tgt := 23) hX dL_law_6005 (by decide) ?_
      refine zw_sub (lv' := [(0, .ref a0), (1, .ref a1), (2, .ref a2), (3, .ref a3), (4, .int (i4 + (7 : Int32)))]) (List.forall_mem_cons.mpr ⟨rfl, (List.forall_mem_cons.mpr ⟨rfl, (List.forall_mem_cons.mpr ⟨rfl, (List.forall_mem_cons.mpr ⟨rfl, (List.forall_mem_cons.mpr ⟨rfl, zs_nil⟩)⟩)⟩)⟩)⟩) ?_
      exact hrec _ _ _ _ h
    · rw [if_pos c4233] at h
      refine zw_aload_n hX dL_law_4236 rfl ?_
      refine zw_iconst (v := (0 : Int32)) hX dL_law_4237 (by decide) ?_
      obtain ⟨w675, g, h⟩ := zb_some h
      refine zw_xl hX dL_law_4238 g ?_
      refine zw_iload hX dL_law_4239 rfl ?_
      refine zw_if_eq (tgt := 4248) hX dL_law_4241 (by decide) (fun c4241 => ?_) (fun c4241 => ?_)
      · rw [if_pos c4241] at h
        refine zw_lconst (v := (0 : Int64)) hX dL_law_4248 (by decide) ?_
        refine zw_sub (lv' := [(0, .ref a0), (1, .ref a1), (2, .ref a2), (3, .ref a3), (4, .int i4)]) (List.forall_mem_cons.mpr ⟨rfl, (List.forall_mem_cons.mpr ⟨rfl, (List.forall_mem_cons.mpr ⟨rfl, (List.forall_mem_cons.mpr ⟨rfl, (List.forall_mem_cons.mpr ⟨rfl, zs_nil⟩)⟩)⟩)⟩)⟩) ?_
        exact zt_L_law_J4249 hlt hV hX hr hR hd hf hk hrec h
      · rw [if_neg c4241] at h
        refine zw_lconst (v := (1 : Int64)) hX dL_law_4244 (by decide) ?_
        refine zw_goto (tgt := 4249) hX dL_law_4245 (by decide) ?_
        refine zw_sub (lv' := [(0, .ref a0), (1, .ref a1), (2, .ref a2), (3, .ref a3), (4, .int i4)]) (List.forall_mem_cons.mpr ⟨rfl, (List.forall_mem_cons.mpr ⟨rfl, (List.forall_mem_cons.mpr ⟨rfl, (List.forall_mem_cons.mpr ⟨rfl, (List.forall_mem_cons.mpr ⟨rfl, zs_nil⟩)⟩)⟩)⟩)⟩) ?_
        exact zt_L_law_J4249 hlt hV hX hr hR hd hf hk hrec h
  · rw [if_neg c4226] at h
    refine zw_iconst (v := (0 : Int32)) hX dL_law_4229 (by decide) ?_
    cases h
def zf_L_law_J4176 (N : Nat) (k : Nat → Nat → Nat → Nat → Int32 → Nat → Nat → zm_S → Option ((Int32 × zm_S) ⊕ ((Unit) × zm_S))) (a0 : Nat) (a1 : Nat) (a2 : Nat) (a3 : Nat) (i4 : Int32) (t0 : Nat) (t1 : Int32) (t2 : Int32) (rc rs : Nat) (S : zm_S) : Option ((Int32 × zm_S) ⊕ ((Unit) × zm_S)) := (za_x S 0 a0 (i4 + (3 : Int32))).bind (fun v664 => if 2 ≤ rc ∧ 12 ≤ rs then (zf_L_hand N t0 t1 t2 v664 a3 S).bind (fun r667 => (za_x r667.2 0 a0 (i4 + (1 : Int32))).bind (fun v668 => (za_x r667.2 0 a0 (i4 + (2 : Int32))).bind (fun v669 => if v669 = 0 then zf_L_law_J4209 N (k) a0 a1 a2 a3 i4 r667.1 a2 v668 (0 : Int32) (rc - 2) (rs - 12) r667.2 else zf_L_law_J4209 N (k) a0 a1 a2 a3 i4 r667.1 a2 v668 (1 : Int32) (rc - 2) (rs - 12) r667.2))) else none)
set_option maxHeartbeats 4000000 in
set_option maxRecDepth 100000 in
theorem zt_L_law_J4176 {p : Program} {l : Launch} {e : Env} {s : State} {m : MethodId} {zb : Nat} {below : List Frame} {meth : Method} {c : Code} {V : zm_V} {d : Nat} {nm : String} (hlt : l.stackTraces = false) (hV : V.2.2.2.1 = s.heap.size) (hX : zm_X p room_1 s m #[Value.ref zb] meth c RL nm cL_law 8 zk_E V 601024 7293034) (hr : meth.sig.returnType = ret) (hR : d ≤ room_1.frames ∧ 64 * d ≤ room_1.locals) (hd : 46 ≤ d) {N : Nat} {k : Nat → Nat → Nat → Nat → Int32 → Nat → Nat → zm_S → Option ((Int32 × zm_S) ⊕ ((Unit) × zm_S))} {rc rs : Nat} {a0 : Nat} {a1 : Nat} {a2 : Nat} {a3 : Nat} {i4 : Int32} {t0 : Nat} {t1 : Int32} {t2 : Int32} {res : (Int32 × zm_S) ⊕ ((Unit) × zm_S)} {out : (Int32 × zm_S)}   (hf : ∀ o, res = .inl o → o = out) (hk : ∀ (S' : zm_S) (rc rs : Nat), res = .inr ((), S') → zw p l e room_1 s m #[Value.ref zb] below meth c (lw_Z below #[Value.ref zb] s) 8 zk_E V 601024 7293034 6008 [] [] S' rc rs) (hrec : ∀ (i4' : Int32) (rc rs : Nat) (S : zm_S), k a0 a1 a2 a3 i4' rc rs S = some res → zw p l e room_1 s m #[Value.ref zb] below meth c (lw_Z below #[Value.ref zb] s) 8 zk_E V 601024 7293034 23 [(0, .ref a0), (1, .ref a1), (2, .ref a2), (3, .ref a3), (4, .int i4')] [] S rc rs) {S : zm_S} (h : zf_L_law_J4176 N k a0 a1 a2 a3 i4 t0 t1 t2 rc rs S = some res) : zw p l e room_1 s m #[Value.ref zb] below meth c (lw_Z below #[Value.ref zb] s) 8 zk_E V 601024 7293034 4176 [(0, .ref a0), (1, .ref a1), (2, .ref a2), (3, .ref a3), (4, .int i4)] [.int t2, .int t1, .ref t0] S rc rs := by
  unfold zf_L_law_J4176 at h
  refine zw_aload_n hX dL_law_4176 rfl ?_
  refine zw_iload hX dL_law_4177 rfl ?_
  refine zw_iconst (v := (3 : Int32)) hX dL_law_4179 (by decide) ?_
  refine zw_iadd hX dL_law_4180 ?_
  obtain ⟨v664, g, h⟩ := zb_some h
  refine zw_xi hX dL_law_4181 g ?_
  refine zw_aload_n hX dL_law_4182 rfl ?_
  by_cases hb4183 : 2 ≤ rc ∧ 12 ≤ rs
  · rw [if_pos hb4183] at h
    obtain ⟨r667, g, h⟩ := zb_some h
    refine zc_S (as := [.ref t0, .int t1, .int t2, .int v664, .ref a3]) hX (zt_L_hand hlt (d := d - 1) (by omega) g) zl_L_454 dL_law_4183 ⟨rfl, rfl, Nat.le_of_ble_eq_true rfl⟩ ⟨by omega, by omega⟩ hb4183 ?_ ?_
    · rintro _ _ ⟨rfl, rfl⟩
      refine zw_istore hX dL_law_4186 (by decide) ?_
      refine zw_aload_n hX dL_law_4188 rfl ?_
      refine zw_aload_n hX dL_law_4189 rfl ?_
      refine zw_iload hX dL_law_4190 rfl ?_
      refine zw_iconst (v := (1 : Int32)) hX dL_law_4192 (by decide) ?_
      refine zw_iadd hX dL_law_4193 ?_
      obtain ⟨v668, g, h⟩ := zb_some h
      refine zw_xi hX dL_law_4194 g ?_
      refine zw_aload_n hX dL_law_4195 rfl ?_
      refine zw_iload hX dL_law_4196 rfl ?_
      refine zw_iconst (v := (2 : Int32)) hX dL_law_4198 (by decide) ?_
      refine zw_iadd hX dL_law_4199 ?_
      obtain ⟨v669, g, h⟩ := zb_some h
      refine zw_xi hX dL_law_4200 g ?_
      refine zw_if_eq (tgt := 4208) hX dL_law_4201 (by decide) (fun c4201 => ?_) (fun c4201 => ?_)
      · rw [if_pos c4201] at h
        refine zw_iconst (v := (0 : Int32)) hX dL_law_4208 (by decide) ?_
        refine zw_sub (lv' := [(0, .ref a0), (1, .ref a1), (2, .ref a2), (3, .ref a3), (4, .int i4), (5, .int r667.1)]) (List.forall_mem_cons.mpr ⟨rfl, (List.forall_mem_cons.mpr ⟨rfl, (List.forall_mem_cons.mpr ⟨rfl, (List.forall_mem_cons.mpr ⟨rfl, (List.forall_mem_cons.mpr ⟨rfl, (List.forall_mem_cons.mpr ⟨rfl, zs_nil⟩)⟩)⟩)⟩)⟩)⟩) ?_
        exact zt_L_law_J4209 hlt hV hX hr hR hd hf hk hrec h
      · rw [if_neg c4201] at h
        refine zw_iconst (v := (1 : Int32)) hX dL_law_4204 (by decide) ?_
        refine zw_goto (tgt := 4209) hX dL_law_4205 (by decide) ?_
        refine zw_sub (lv' := [(0, .ref a0), (1, .ref a1), (2, .ref a2), (3, .ref a3), (4, .int i4), (5, .int r667.1)]) (List.forall_mem_cons.mpr ⟨rfl, (List.forall_mem_cons.mpr ⟨rfl, (List.forall_mem_cons.mpr ⟨rfl, (List.forall_mem_cons.mpr ⟨rfl, (List.forall_mem_cons.mpr ⟨rfl, (List.forall_mem_cons.mpr ⟨rfl, zs_nil⟩)⟩)⟩)⟩)⟩)⟩) ?_
        exact zt_L_law_J4209 hlt hV hX hr hR hd hf hk hrec h
    · intro _ _ hx
      exact hx.elim
  · rw [if_neg hb4183] at h
    cases h
def zf_L_law_J4155 (N : Nat) (k : Nat → Nat → Nat → Nat → Int32 → Nat → Nat → zm_S → Option ((Int32 × zm_S) ⊕ ((Unit) × zm_S))) (a0 : Nat) (a1 : Nat) (a2 : Nat) (a3 : Nat) (i4 : Int32) (rc rs : Nat) (S : zm_S) : Option ((Int32 × zm_S) ⊕ ((Unit) × zm_S)) := (za_x S 0 a0 (i4 + (1 : Int32))).bind (fun v662 => (za_x S 0 a0 (i4 + (2 : Int32))).bind (fun v663 => if v663 = 0 then zf_L_law_J4176 N (k) a0 a1 a2 a3 i4 a1 v662 (0 : Int32) rc rs S else zf_L_law_J4176 N (k) a0 a1 a2 a3 i4 a1 v662 (1 : Int32) rc rs S))
set_option maxHeartbeats 4000000 in
set_option maxRecDepth 100000 in
theorem zt_L_law_J4155 {p : Program} {l : Launch} {e : Env} {s : State} {m : MethodId} {zb : Nat} {below : List Frame} {meth : Method} {c : Code} {V : zm_V} {d : Nat} {nm : String} (hlt : l.stackTraces = false) (hV : V.2.2.2.1 = s.heap.size) (hX : zm_X p room_1 s m #[Value.ref zb] meth c RL nm cL_law 8 zk_E V 601024 7293034) (hr : meth.sig.returnType = ret) (hR : d ≤ room_1.frames ∧ 64 * d ≤ room_1.locals) (hd : 46 ≤ d) {N : Nat} {k : Nat → Nat → Nat → Nat → Int32 → Nat → Nat → zm_S → Option ((Int32 × zm_S) ⊕ ((Unit) × zm_S))} {rc rs : Nat} {a0 : Nat} {a1 : Nat} {a2 : Nat} {a3 : Nat} {i4 : Int32} {res : (Int32 × zm_S) ⊕ ((Unit) × zm_S)} {out : (Int32 × zm_S)}   (hf : ∀ o, res = .inl o → o = out) (hk : ∀ (S' : zm_S) (rc rs : Nat), res = .inr ((), S') → zw p l e room_1 s m #[Value.ref zb] below meth c (lw_Z below #[Value.ref zb] s) 8 zk_E V 601024 7293034 6008 [] [] S' rc rs) (hrec : ∀ (i4' : Int32) (rc rs : Nat) (S : zm_S), k a0 a1 a2 a3 i4' rc rs S = some res → zw p l e room_1 s m #[Value.ref zb] below meth c (lw_Z below #[Value.ref zb] s) 8 zk_E V 601024 7293034 23 [(0, .ref a0), (1, .ref a1), (2, .ref a2), (3, .ref a3), (4, .int i4')] [] S rc rs) {S : zm_S} (h : zf_L_law_J4155 N k a0 a1 a2 a3 i4 rc rs S = some res) : zw p l e room_1 s m #[Value.ref zb] below meth c (lw_Z below #[Value.ref zb] s) 8 zk_E V 601024 7293034 4155 [(0, .ref a0), (1, .ref a1), (2, .ref a2), (3, .ref a3), (4, .int i4)] [] S rc rs := by
  unfold zf_L_law_J4155 at h
  refine zw_aload_n hX dL_law_4155 rfl ?_
  refine zw_aload_n hX dL_law_4156 rfl ?_
  refine zw_iload hX dL_law_4157 rfl ?_
  refine zw_iconst (v := (1 : Int32)) hX dL_law_4159 (by decide) ?_
  refine zw_iadd hX dL_law_4160 ?_
  obtain ⟨v662, g, h⟩ := zb_some h
  refine zw_xi hX dL_law_4161 g ?_
  refine zw_aload_n hX dL_law_4162 rfl ?_
  refine zw_iload hX dL_law_4163 rfl ?_
  refine zw_iconst (v := (2 : Int32)) hX dL_law_4165 (by decide) ?_
  refine zw_iadd hX dL_law_4166 ?_
  obtain ⟨v663, g, h⟩ := zb_some h
  refine zw_xi hX dL_law_4167 g ?_
  refine zw_if_eq (tgt := 4175) hX dL_law_4168 (by decide) (fun c4168 => ?_) (fun c4168 => ?_)
  · rw [if_pos c4168] at h
    refine zw_iconst (v := (0 : Int32)) hX dL_law_4175 (by decide) ?_
    refine zw_sub (lv' := [(0, .ref a0), (1, .ref a1), (2, .ref a2), (3, .ref a3), (4, .int i4)]) (List.forall_mem_cons.mpr ⟨rfl, (List.forall_mem_cons.mpr ⟨rfl, (List.forall_mem_cons.mpr ⟨rfl, (List.forall_mem_cons.mpr ⟨rfl, (List.forall_mem_cons.mpr ⟨rfl, zs_nil⟩)⟩)⟩)⟩)⟩) ?_
    exact zt_L_law_J4176 hlt hV hX hr hR hd hf hk hrec h
  · rw [if_neg c4168] at h
    refine zw_iconst (v := (1 : Int32)) hX dL_law_4171 (by decide) ?_
    refine zw_goto (tgt := 4176) hX dL_law_4172 (by decide) ?_
    refine zw_sub (lv' := [(0, .ref a0), (1, .ref a1), (2, .ref a2), (3, .ref a3), (4, .int i4)]) (List.forall_mem_cons.mpr ⟨rfl, (List.forall_mem_cons.mpr ⟨rfl, (List.forall_mem_cons.mpr ⟨rfl, (List.forall_mem_cons.mpr ⟨rfl, (List.forall_mem_cons.mpr ⟨rfl, zs_nil⟩)⟩)⟩)⟩)⟩) ?_
    exact zt_L_law_J4176 hlt hV hX hr hR hd hf hk hrec h
def zf_L_law_J4258 (N : Nat) (k : Nat → Nat → Nat → Nat → Int32 → Nat → Nat → zm_S → Option ((Int32 × zm_S) ⊕ ((Unit) × zm_S))) (a0 : Nat) (a1 : Nat) (a2 : Nat) (a3 : Nat) (i4 : Int32) (rc rs : Nat) (S : zm_S) : Option ((Int32 × zm_S) ⊕ ((Unit) × zm_S)) := (za_x S 0 a0 (i4 + (1 : Int32))).bind (fun v676 => (za_x S 0 a0 (i4 + (2 : Int32))).bind (fun v677 => if 2 ≤ rc ∧ 12 ≤ rs then (zf_L_bind N a1 v676 v677 a3 S).bind (fun r680 => (za_x r680.2 0 a0 (i4 + (1 : Int32))).bind (fun v681 => (za_x r680.2 0 a0 (i4 + (2 : Int32))).bind (fun v682 => (zi r680.2 a2 18).bind (fun _ => (zf_X18_bind N a2 v681 v682 r680.2).bind (fun r684 => (zi r684.2 a2 18).bind (fun _ => (zf_X18_thrown N a2 r684.2).bind (fun r686 => if r686.1 = r680.1 then if r680.1 = 0 then (za_l r686.2 a3 (0 : Int32)).bind (fun w687 => if (lg_cmp w687 ((r684.1).toInt64)) = 0 then k a0 a1 a2 a3 (i4 + (7 : Int32)) (rc - 2) (rs - 12) r686.2 else none) else k a0 a1 a2 a3 (i4 + (7 : Int32)) (rc - 2) (rs - 12) r686.2 else none))))))) else none))
set_option maxHeartbeats 4000000 in
set_option maxRecDepth 100000 in
theorem zt_L_law_J4258 {p : Program} {l : Launch} {e : Env} {s : State} {m : MethodId} {zb : Nat} {below : List Frame} {meth : Method} {c : Code} {V : zm_V} {d : Nat} {nm : String} (hlt : l.stackTraces = false) (hV : V.2.2.2.1 = s.heap.size) (hX : zm_X p room_1 s m #[Value.ref zb] meth c RL nm cL_law 8 zk_E V 601024 7293034) (hr : meth.sig.returnType = ret) (hR : d ≤ room_1.frames ∧ 64 * d ≤ room_1.locals) (hd : 46 ≤ d) {N : Nat} {k : Nat → Nat → Nat → Nat → Int32 → Nat → Nat → zm_S → Option ((Int32 × zm_S) ⊕ ((Unit) × zm_S))} {rc rs : Nat} {a0 : Nat} {a1 : Nat} {a2 : Nat} {a3 : Nat} {i4 : Int32} {res : (Int32 × zm_S) ⊕ ((Unit) × zm_S)} {out : (Int32 × zm_S)}   (hf : ∀ o, res = .inl o → o = out) (hk : ∀ (S' : zm_S) (rc rs : Nat), res = .inr ((), S') → zw p l e room_1 s m #[Value.ref zb] below meth c (lw_Z below #[Value.ref zb] s) 8 zk_E V 601024 7293034 6008 [] [] S' rc rs) (hrec : ∀ (i4' : Int32) (rc rs : Nat) (S : zm_S), k a0 a1 a2 a3 i4' rc rs S = some res → zw p l e room_1 s m #[Value.ref zb] below meth c (lw_Z below #[Value.ref zb] s) 8 zk_E V 601024 7293034 23 [(0, .ref a0), (1, .ref a1), (2, .ref a2), (3, .ref a3), (4, .int i4')] [] S rc rs) {S : zm_S} (h : zf_L_law_J4258 N k a0 a1 a2 a3 i4 rc rs S = some res) : zw p l e room_1 s m #[Value.ref zb] below meth c (lw_Z below #[Value.ref zb] s) 8 zk_E V 601024 7293034 4258 [(0, .ref a0), (1, .ref a1), (2, .ref a2), (3, .ref a3), (4, .int i4)] [] S rc rs := by
  unfold zf_L_law_J4258 at h
  refine zw_aload_n hX dL_law_4258 rfl ?_
  refine zw_aload_n hX dL_law_4259 rfl ?_
  refine zw_iload hX dL_law_4260 rfl ?_
  refine zw_iconst (v := (1 : Int32)) hX dL_law_4262 (by decide) ?_
  refine zw_iadd hX dL_law_4263 ?_
  obtain ⟨v676, g, h⟩ := zb_some h
  refine zw_xi hX dL_law_4264 g ?_
  refine zw_aload_n hX dL_law_4265 rfl ?_
  refine zw_iload hX dL_law_4266 rfl ?_
  refine zw_iconst (v := (2 : Int32)) hX dL_law_4268 (by decide) ?_
  refine zw_iadd hX dL_law_4269 ?_
  obtain ⟨v677, g, h⟩ := zb_some h
  refine zw_xi hX dL_law_4270 g ?_
  refine zw_aload_n hX dL_law_4271 rfl ?_
  by_cases hb4272 : 2 ≤ rc ∧ 12 ≤ rs
  · rw [if_pos hb4272] at h
    obtain ⟨r680, g, h⟩ := zb_some h
    refine zc_S (as := [.ref a1, .int v676, .int v677, .ref a3]) hX (zt_L_bind hlt (d := d - 1) (by omega) g) zl_L_458 dL_law_4272 ⟨rfl, rfl, Nat.le_of_ble_eq_true rfl⟩ ⟨by omega, by omega⟩ hb4272 ?_ ?_
    · rintro _ _ ⟨rfl, rfl⟩
      refine zw_istore hX dL_law_4275 (by decide) ?_
      refine zw_aload_n hX dL_law_4277 rfl ?_
      refine zw_aload_n hX dL_law_4278 rfl ?_
      refine zw_iload hX dL_law_4279 rfl ?_
      refine zw_iconst (v := (1 : Int32)) hX dL_law_4281 (by decide) ?_
      refine zw_iadd hX dL_law_4282 ?_
      obtain ⟨v681, g, h⟩ := zb_some h
      refine zw_xi hX dL_law_4283 g ?_
      refine zw_aload_n hX dL_law_4284 rfl ?_
      refine zw_iload hX dL_law_4285 rfl ?_
      refine zw_iconst (v := (2 : Int32)) hX dL_law_4287 (by decide) ?_
      refine zw_iadd hX dL_law_4288 ?_
      obtain ⟨v682, g, h⟩ := zb_some h
      refine zw_xi hX dL_law_4289 g ?_
      obtain ⟨_, gi, h⟩ := zb_some h
      obtain ⟨r684, g, h⟩ := zb_some h
      refine zc_Vi (as := [.int v681, .int v682]) hX gi (zt_X18_bind (d := d - 1) (by omega) g) zl_L_460 rfl dL_law_4290 ⟨rfl, rfl, Nat.le_of_ble_eq_true rfl⟩ ⟨by omega, by omega⟩ ?_
      refine zw_istore hX dL_law_4293 (by decide) ?_
      refine zw_aload_n hX dL_law_4295 rfl ?_
      obtain ⟨_, gi, h⟩ := zb_some h
      obtain ⟨r686, g, h⟩ := zb_some h
      refine zc_Vi (as := []) hX gi (zt_X18_thrown (d := d - 1) (by omega) g) zl_L_281 rfl dL_law_4296 ⟨rfl, rfl, Nat.le_of_ble_eq_true rfl⟩ ⟨by omega, by omega⟩ ?_
      refine zw_iload hX dL_law_4299 rfl ?_
      refine zw_icmp_eq (tgt := 4306) hX dL_law_4301 (by decide) (fun c4301 => ?_) (fun c4301 => ?_)
      · rw [if_pos c4301] at h
        refine zw_iload hX dL_law_4306 rfl ?_
        refine zw_if_ne (tgt := 4323) hX dL_law_4308 (by decide) (fun c4308 => ?_) (fun c4308 => ?_)
        · rw [if_neg c4308] at h
          refine zw_goto (tgt := 6002) hX dL_law_4323 (by decide) ?_
          refine zw_iinc (v := (i4 + (7 : Int32))) hX dL_law_6002 rfl rfl (by decide) ?_
          refine zw_goto (tgt := 23) hX dL_law_6005 (by decide) ?_
          refine zw_sub (lv' := [(0, .ref a0), (1, .ref a1), (2, .ref a2), (3, .ref a3), (4, .int (i4 + (7 : Int32)))]) (List.forall_mem_cons.mpr ⟨rfl, (List.forall_mem_cons.mpr ⟨rfl, (List.forall_mem_cons.mpr ⟨rfl, (List.forall_mem_cons.mpr ⟨rfl, (List.forall_mem_cons.mpr ⟨rfl, zs_nil⟩)⟩)⟩)⟩)⟩) ?_
          exact hrec _ _ _ _ h
        · rw [if_pos c4308] at h
          refine zw_aload_n hX dL_law_4311 rfl ?_
          refine zw_iconst (v := (0 : Int32)) hX dL_law_4312 (by decide) ?_
          obtain ⟨w687, g, h⟩ := zb_some h
          refine zw_xl hX dL_law_4313 g ?_
          refine zw_iload hX dL_law_4314 rfl ?_
          refine zw_i2l hX dL_law_4316 ?_
          refine zw_lcmp hX dL_law_4317 ?_
          refine zw_if_eq (tgt := 4323) hX dL_law_4318 (by decide) (fun c4318 => ?_) (fun c4318 => ?_)
          · rw [if_pos c4318] at h
            refine zw_goto (tgt := 6002) hX dL_law_4323 (by decide) ?_
            refine zw_iinc (v := (i4 + (7 : Int32))) hX dL_law_6002 rfl rfl (by decide) ?_
            refine zw_goto (tgt := 23) hX dL_law_6005 (by decide) ?_
            refine zw_sub (lv' := [(0, .ref a0), (1, .ref a1), (2, .ref a2), (3, .ref a3), (4, .int (i4 + (7 : Int32)))]) (List.forall_mem_cons.mpr ⟨rfl, (List.forall_mem_cons.mpr ⟨rfl, (List.forall_mem_cons.mpr ⟨rfl, (List.forall_mem_cons.mpr ⟨rfl, (List.forall_mem_cons.mpr ⟨rfl, zs_nil⟩)⟩)⟩)⟩)⟩) ?_
            exact hrec _ _ _ _ h
          · rw [if_neg c4318] at h
            refine zw_iconst (v := (0 : Int32)) hX dL_law_4321 (by decide) ?_
            cases h
      · rw [if_neg c4301] at h
        refine zw_iconst (v := (0 : Int32)) hX dL_law_4304 (by decide) ?_
        cases h
    · intro _ _ hx
      exact hx.elim
  · rw [if_neg hb4272] at h
    cases h
def zf_L_law_J4326 (N : Nat) (k : Nat → Nat → Nat → Nat → Int32 → Nat → Nat → zm_S → Option ((Int32 × zm_S) ⊕ ((Unit) × zm_S))) (a0 : Nat) (a1 : Nat) (a2 : Nat) (a3 : Nat) (i4 : Int32) (rc rs : Nat) (S : zm_S) : Option ((Int32 × zm_S) ⊕ ((Unit) × zm_S)) := (za_x S 0 a0 (i4 + (1 : Int32))).bind (fun v688 => (za_x S 0 a0 (i4 + (2 : Int32))).bind (fun v689 => if 2 ≤ rc ∧ 12 ≤ rs then (zf_L_point N a1 v688 v689 a3 S).bind (fun r692 => (za_x r692.2 0 a0 (i4 + (1 : Int32))).bind (fun v693 => (za_x r692.2 0 a0 (i4 + (2 : Int32))).bind (fun v694 => (zi r692.2 a2 18).bind (fun _ => (zf_X18_point N a2 v693 v694 r692.2).bind (fun r696 => (zi r696.2 a2 18).bind (fun _ => (zf_X18_thrown N a2 r696.2).bind (fun r698 => if r698.1 = r692.1 then if r692.1 = 0 then (za_l r698.2 a3 (0 : Int32)).bind (fun w699 => if (lg_cmp w699 ((r696.1).toInt64)) = 0 then k a0 a1 a2 a3 (i4 + (7 : Int32)) (rc - 2) (rs - 12) r698.2 else none) else k a0 a1 a2 a3 (i4 + (7 : Int32)) (rc - 2) (rs - 12) r698.2 else none))))))) else none))
set_option maxHeartbeats 4000000 in
set_option maxRecDepth 100000 in
theorem zt_L_law_J4326 {p : Program} {l : Launch} {e : Env} {s : State} {m : MethodId} {zb : Nat} {below : List Frame} {meth : Method} {c : Code} {V : zm_V} {d : Nat} {nm : String} (hlt : l.stackTraces = false) (hV : V.2.2.2.1 = s.heap.size) (hX : zm_X p room_1 s m #[Value.ref zb] meth c RL nm cL_law 8 zk_E V 601024 7293034) (hr : meth.sig.returnType = ret) (hR : d ≤ room_1.frames ∧ 64 * d ≤ room_1.locals) (hd : 46 ≤ d) {N : Nat} {k : Nat → Nat → Nat → Nat → Int32 → Nat → Nat → zm_S → Option ((Int32 × zm_S) ⊕ ((Unit) × zm_S))} {rc rs : Nat} {a0 : Nat} {a1 : Nat} {a2 : Nat} {a3 : Nat} {i4 : Int32} {res : (Int32 × zm_S) ⊕ ((Unit) × zm_S)} {out : (Int32 × zm_S)}   (hf : ∀ o, res = .inl o → o = out) (hk : ∀ (S' : zm_S) (rc rs : Nat), res = .inr ((), S') → zw p l e room_1 s m #[Value.ref zb] below meth c (lw_Z below #[Value.ref zb] s) 8 zk_E V 601024 7293034 6008 [] [] S' rc rs) (hrec : ∀ (i4' : Int32) (rc rs : Nat) (S : zm_S), k a0 a1 a2 a3 i4' rc rs S = some res → zw p l e room_1 s m #[Value.ref zb] below meth c (lw_Z below #[Value.ref zb] s) 8 zk_E V 601024 7293034 23 [(0, .ref a0), (1, .ref a1), (2, .ref a2), (3, .ref a3), (4, .int i4')] [] S rc rs) {S : zm_S} (h : zf_L_law_J4326 N k a0 a1 a2 a3 i4 rc rs S = some res) : zw p l e room_1 s m #[Value.ref zb] below meth c (lw_Z below #[Value.ref zb] s) 8 zk_E V 601024 7293034 4326 [(0, .ref a0), (1, .ref a1), (2, .ref a2), (3, .ref a3), (4, .int i4)] [] S rc rs := by
  unfold zf_L_law_J4326 at h
  refine zw_aload_n hX dL_law_4326 rfl ?_
  refine zw_aload_n hX dL_law_4327 rfl ?_
  refine zw_iload hX dL_law_4328 rfl ?_
  refine zw_iconst (v := (1 : Int32)) hX dL_law_4330 (by decide) ?_
  refine zw_iadd hX dL_law_4331 ?_
  obtain ⟨v688, g, h⟩ := zb_some h
  refine zw_xi hX dL_law_4332 g ?_
  refine zw_aload_n hX dL_law_4333 rfl ?_
  refine zw_iload hX dL_law_4334 rfl ?_
  refine zw_iconst (v := (2 : Int32)) hX dL_law_4336 (by decide) ?_
  refine zw_iadd hX dL_law_4337 ?_
  obtain ⟨v689, g, h⟩ := zb_some h
  refine zw_xi hX dL_law_4338 g ?_
  refine zw_aload_n hX dL_law_4339 rfl ?_
  by_cases hb4340 : 2 ≤ rc ∧ 12 ≤ rs
  · rw [if_pos hb4340] at h
    obtain ⟨r692, g, h⟩ := zb_some h
    refine zc_S (as := [.ref a1, .int v688, .int v689, .ref a3]) hX (zt_L_point hlt (d := d - 1) (by omega) g) zl_L_461 dL_law_4340 ⟨rfl, rfl, Nat.le_of_ble_eq_true rfl⟩ ⟨by omega, by omega⟩ hb4340 ?_ ?_
    · rintro _ _ ⟨rfl, rfl⟩
      refine zw_istore hX dL_law_4343 (by decide) ?_
      refine zw_aload_n hX dL_law_4345 rfl ?_
      refine zw_aload_n hX dL_law_4346 rfl ?_
      refine zw_iload hX dL_law_4347 rfl ?_
      refine zw_iconst (v := (1 : Int32)) hX dL_law_4349 (by decide) ?_
      refine zw_iadd hX dL_law_4350 ?_
      obtain ⟨v693, g, h⟩ := zb_some h
      refine zw_xi hX dL_law_4351 g ?_
      refine zw_aload_n hX dL_law_4352 rfl ?_
      refine zw_iload hX dL_law_4353 rfl ?_
      refine zw_iconst (v := (2 : Int32)) hX dL_law_4355 (by decide) ?_
      refine zw_iadd hX dL_law_4356 ?_
      obtain ⟨v694, g, h⟩ := zb_some h
      refine zw_xi hX dL_law_4357 g ?_
      obtain ⟨_, gi, h⟩ := zb_some h
      obtain ⟨r696, g, h⟩ := zb_some h
      refine zc_Vi (as := [.int v693, .int v694]) hX gi (zt_X18_point (d := d - 1) (by omega) g) zl_L_463 rfl dL_law_4358 ⟨rfl, rfl, Nat.le_of_ble_eq_true rfl⟩ ⟨by omega, by omega⟩ ?_
      refine zw_istore hX dL_law_4361 (by decide) ?_
      refine zw_aload_n hX dL_law_4363 rfl ?_
      obtain ⟨_, gi, h⟩ := zb_some h
      obtain ⟨r698, g, h⟩ := zb_some h
      refine zc_Vi (as := []) hX gi (zt_X18_thrown (d := d - 1) (by omega) g) zl_L_281 rfl dL_law_4364 ⟨rfl, rfl, Nat.le_of_ble_eq_true rfl⟩ ⟨by omega, by omega⟩ ?_
      refine zw_iload hX dL_law_4367 rfl ?_
      refine zw_icmp_eq (tgt := 4374) hX dL_law_4369 (by decide) (fun c4369 => ?_) (fun c4369 => ?_)
      · rw [if_pos c4369] at h
        refine zw_iload hX dL_law_4374 rfl ?_
        refine zw_if_ne (tgt := 4391) hX dL_law_4376 (by decide) (fun c4376 => ?_) (fun c4376 => ?_)
        · rw [if_neg c4376] at h
          refine zw_goto (tgt := 6002) hX dL_law_4391 (by decide) ?_
          refine zw_iinc (v := (i4 + (7 : Int32))) hX dL_law_6002 rfl rfl (by decide) ?_
          refine zw_goto (tgt := 23) hX dL_law_6005 (by decide) ?_
          refine zw_sub (lv' := [(0, .ref a0), (1, .ref a1), (2, .ref a2), (3, .ref a3), (4, .int (i4 + (7 : Int32)))]) (List.forall_mem_cons.mpr ⟨rfl, (List.forall_mem_cons.mpr ⟨rfl, (List.forall_mem_cons.mpr ⟨rfl, (List.forall_mem_cons.mpr ⟨rfl, (List.forall_mem_cons.mpr ⟨rfl, zs_nil⟩)⟩)⟩)⟩)⟩) ?_
          exact hrec _ _ _ _ h
        · rw [if_pos c4376] at h
          refine zw_aload_n hX dL_law_4379 rfl ?_
          refine zw_iconst (v := (0 : Int32)) hX dL_law_4380 (by decide) ?_
          obtain ⟨w699, g, h⟩ := zb_some h
          refine zw_xl hX dL_law_4381 g ?_
          refine zw_iload hX dL_law_4382 rfl ?_
          refine zw_i2l hX dL_law_4384 ?_
          refine zw_lcmp hX dL_law_4385 ?_
          refine zw_if_eq (tgt := 4391) hX dL_law_4386 (by decide) (fun c4386 => ?_) (fun c4386 => ?_)
          · rw [if_pos c4386] at h
            refine zw_goto (tgt := 6002) hX dL_law_4391 (by decide) ?_
            refine zw_iinc (v := (i4 + (7 : Int32))) hX dL_law_6002 rfl rfl (by decide) ?_
            refine zw_goto (tgt := 23) hX dL_law_6005 (by decide) ?_
            refine zw_sub (lv' := [(0, .ref a0), (1, .ref a1), (2, .ref a2), (3, .ref a3), (4, .int (i4 + (7 : Int32)))]) (List.forall_mem_cons.mpr ⟨rfl, (List.forall_mem_cons.mpr ⟨rfl, (List.forall_mem_cons.mpr ⟨rfl, (List.forall_mem_cons.mpr ⟨rfl, (List.forall_mem_cons.mpr ⟨rfl, zs_nil⟩)⟩)⟩)⟩)⟩) ?_
            exact hrec _ _ _ _ h
          · rw [if_neg c4386] at h
            refine zw_iconst (v := (0 : Int32)) hX dL_law_4389 (by decide) ?_
            cases h
      · rw [if_neg c4369] at h
        refine zw_iconst (v := (0 : Int32)) hX dL_law_4372 (by decide) ?_
        cases h
    · intro _ _ hx
      exact hx.elim
  · rw [if_neg hb4340] at h
    cases h
def zf_L_law_J4394 (N : Nat) (k : Nat → Nat → Nat → Nat → Int32 → Nat → Nat → zm_S → Option ((Int32 × zm_S) ⊕ ((Unit) × zm_S))) (a0 : Nat) (a1 : Nat) (a2 : Nat) (a3 : Nat) (i4 : Int32) (rc rs : Nat) (S : zm_S) : Option ((Int32 × zm_S) ⊕ ((Unit) × zm_S)) := (za_x S 0 a0 (i4 + (1 : Int32))).bind (fun v700 => if 2 ≤ rc ∧ 12 ≤ rs then (zf_L_pointAt N a1 v700 a3 S).bind (fun r703 => (za_x r703.2 0 a0 (i4 + (1 : Int32))).bind (fun v704 => (zi r703.2 a2 18).bind (fun _ => (zf_X18_pointAt N a2 v704 r703.2).bind (fun r706 => (zi r706.2 a2 18).bind (fun _ => (zf_X18_thrown N a2 r706.2).bind (fun r708 => if r708.1 = r703.1 then if r703.1 = 0 then (za_l r708.2 a3 (0 : Int32)).bind (fun w709 => if (lg_cmp w709 ((r706.1).toInt64)) = 0 then k a0 a1 a2 a3 (i4 + (7 : Int32)) (rc - 2) (rs - 12) r708.2 else none) else k a0 a1 a2 a3 (i4 + (7 : Int32)) (rc - 2) (rs - 12) r708.2 else none)))))) else none)
set_option maxHeartbeats 4000000 in
set_option maxRecDepth 100000 in
theorem zt_L_law_J4394 {p : Program} {l : Launch} {e : Env} {s : State} {m : MethodId} {zb : Nat} {below : List Frame} {meth : Method} {c : Code} {V : zm_V} {d : Nat} {nm : String} (hlt : l.stackTraces = false) (hV : V.2.2.2.1 = s.heap.size) (hX : zm_X p room_1 s m #[Value.ref zb] meth c RL nm cL_law 8 zk_E V 601024 7293034) (hr : meth.sig.returnType = ret) (hR : d ≤ room_1.frames ∧ 64 * d ≤ room_1.locals) (hd : 46 ≤ d) {N : Nat} {k : Nat → Nat → Nat → Nat → Int32 → Nat → Nat → zm_S → Option ((Int32 × zm_S) ⊕ ((Unit) × zm_S))} {rc rs : Nat} {a0 : Nat} {a1 : Nat} {a2 : Nat} {a3 : Nat} {i4 : Int32} {res : (Int32 × zm_S) ⊕ ((Unit) × zm_S)} {out : (Int32 × zm_S)}   (hf : ∀ o, res = .inl o → o = out) (hk : ∀ (S' : zm_S) (rc rs : Nat), res = .inr ((), S') → zw p l e room_1 s m #[Value.ref zb] below meth c (lw_Z below #[Value.ref zb] s) 8 zk_E V 601024 7293034 6008 [] [] S' rc rs) (hrec : ∀ (i4' : Int32) (rc rs : Nat) (S : zm_S), k a0 a1 a2 a3 i4' rc rs S = some res → zw p l e room_1 s m #[Value.ref zb] below meth c (lw_Z below #[Value.ref zb] s) 8 zk_E V 601024 7293034 23 [(0, .ref a0), (1, .ref a1), (2, .ref a2), (3, .ref a3), (4, .int i4')] [] S rc rs) {S : zm_S} (h : zf_L_law_J4394 N k a0 a1 a2 a3 i4 rc rs S = some res) : zw p l e room_1 s m #[Value.ref zb] below meth c (lw_Z below #[Value.ref zb] s) 8 zk_E V 601024 7293034 4394 [(0, .ref a0), (1, .ref a1), (2, .ref a2), (3, .ref a3), (4, .int i4)] [] S rc rs := by
  unfold zf_L_law_J4394 at h
  refine zw_aload_n hX dL_law_4394 rfl ?_
  refine zw_aload_n hX dL_law_4395 rfl ?_
  refine zw_iload hX dL_law_4396 rfl ?_
  refine zw_iconst (v := (1 : Int32)) hX dL_law_4398 (by decide) ?_
  refine zw_iadd hX dL_law_4399 ?_
  obtain ⟨v700, g, h⟩ := zb_some h
  refine zw_xi hX dL_law_4400 g ?_
  refine zw_aload_n hX dL_law_4401 rfl ?_
  by_cases hb4402 : 2 ≤ rc ∧ 12 ≤ rs
  · rw [if_pos hb4402] at h
    obtain ⟨r703, g, h⟩ := zb_some h
    refine zc_S (as := [.ref a1, .int v700, .ref a3]) hX (zt_L_pointAt hlt (d := d - 1) (by omega) g) zl_L_464 dL_law_4402 ⟨rfl, rfl, Nat.le_of_ble_eq_true rfl⟩ ⟨by omega, by omega⟩ hb4402 ?_ ?_
    · rintro _ _ ⟨rfl, rfl⟩
      refine zw_istore hX dL_law_4405 (by decide) ?_
      refine zw_aload_n hX dL_law_4407 rfl ?_
      refine zw_aload_n hX dL_law_4408 rfl ?_
      refine zw_iload hX dL_law_4409 rfl ?_
      refine zw_iconst (v := (1 : Int32)) hX dL_law_4411 (by decide) ?_
      refine zw_iadd hX dL_law_4412 ?_
      obtain ⟨v704, g, h⟩ := zb_some h
      refine zw_xi hX dL_law_4413 g ?_
      obtain ⟨_, gi, h⟩ := zb_some h
      obtain ⟨r706, g, h⟩ := zb_some h
      refine zc_Vi (as := [.int v704]) hX gi (zt_X18_pointAt (d := d - 1) (by omega) g) zl_L_466 rfl dL_law_4414 ⟨rfl, rfl, Nat.le_of_ble_eq_true rfl⟩ ⟨by omega, by omega⟩ ?_
      refine zw_istore hX dL_law_4417 (by decide) ?_
      refine zw_aload_n hX dL_law_4419 rfl ?_
      obtain ⟨_, gi, h⟩ := zb_some h
      obtain ⟨r708, g, h⟩ := zb_some h
      refine zc_Vi (as := []) hX gi (zt_X18_thrown (d := d - 1) (by omega) g) zl_L_281 rfl dL_law_4420 ⟨rfl, rfl, Nat.le_of_ble_eq_true rfl⟩ ⟨by omega, by omega⟩ ?_
      refine zw_iload hX dL_law_4423 rfl ?_
      refine zw_icmp_eq (tgt := 4430) hX dL_law_4425 (by decide) (fun c4425 => ?_) (fun c4425 => ?_)
      · rw [if_pos c4425] at h
        refine zw_iload hX dL_law_4430 rfl ?_
        refine zw_if_ne (tgt := 4447) hX dL_law_4432 (by decide) (fun c4432 => ?_) (fun c4432 => ?_)
        · rw [if_neg c4432] at h
          refine zw_goto (tgt := 6002) hX dL_law_4447 (by decide) ?_
          refine zw_iinc (v := (i4 + (7 : Int32))) hX dL_law_6002 rfl rfl (by decide) ?_
          refine zw_goto (tgt := 23) hX dL_law_6005 (by decide) ?_
          refine zw_sub (lv' := [(0, .ref a0), (1, .ref a1), (2, .ref a2), (3, .ref a3), (4, .int (i4 + (7 : Int32)))]) (List.forall_mem_cons.mpr ⟨rfl, (List.forall_mem_cons.mpr ⟨rfl, (List.forall_mem_cons.mpr ⟨rfl, (List.forall_mem_cons.mpr ⟨rfl, (List.forall_mem_cons.mpr ⟨rfl, zs_nil⟩)⟩)⟩)⟩)⟩) ?_
          exact hrec _ _ _ _ h
        · rw [if_pos c4432] at h
          refine zw_aload_n hX dL_law_4435 rfl ?_
          refine zw_iconst (v := (0 : Int32)) hX dL_law_4436 (by decide) ?_
          obtain ⟨w709, g, h⟩ := zb_some h
          refine zw_xl hX dL_law_4437 g ?_
          refine zw_iload hX dL_law_4438 rfl ?_
          refine zw_i2l hX dL_law_4440 ?_
          refine zw_lcmp hX dL_law_4441 ?_
          refine zw_if_eq (tgt := 4447) hX dL_law_4442 (by decide) (fun c4442 => ?_) (fun c4442 => ?_)
          · rw [if_pos c4442] at h
            refine zw_goto (tgt := 6002) hX dL_law_4447 (by decide) ?_
            refine zw_iinc (v := (i4 + (7 : Int32))) hX dL_law_6002 rfl rfl (by decide) ?_
            refine zw_goto (tgt := 23) hX dL_law_6005 (by decide) ?_
            refine zw_sub (lv' := [(0, .ref a0), (1, .ref a1), (2, .ref a2), (3, .ref a3), (4, .int (i4 + (7 : Int32)))]) (List.forall_mem_cons.mpr ⟨rfl, (List.forall_mem_cons.mpr ⟨rfl, (List.forall_mem_cons.mpr ⟨rfl, (List.forall_mem_cons.mpr ⟨rfl, (List.forall_mem_cons.mpr ⟨rfl, zs_nil⟩)⟩)⟩)⟩)⟩) ?_
            exact hrec _ _ _ _ h
          · rw [if_neg c4442] at h
            refine zw_iconst (v := (0 : Int32)) hX dL_law_4445 (by decide) ?_
            cases h
      · rw [if_neg c4425] at h
        refine zw_iconst (v := (0 : Int32)) hX dL_law_4428 (by decide) ?_
        cases h
    · intro _ _ hx
      exact hx.elim
  · rw [if_neg hb4402] at h
    cases h
def zf_L_law_J4450 (N : Nat) (k : Nat → Nat → Nat → Nat → Int32 → Nat → Nat → zm_S → Option ((Int32 × zm_S) ⊕ ((Unit) × zm_S))) (a0 : Nat) (a1 : Nat) (a2 : Nat) (a3 : Nat) (i4 : Int32) (rc rs : Nat) (S : zm_S) : Option ((Int32 × zm_S) ⊕ ((Unit) × zm_S)) := if 1 ≤ rc ∧ 6 ≤ rs then (zf_L_order N a1 a3 S).bind (fun r712 => (zi r712.2 a2 18).bind (fun _ => (zf_X18_order N a2 r712.2).bind (fun r714 => (zi r714.2 a2 18).bind (fun _ => (zf_X18_thrown N a2 r714.2).bind (fun r716 => if r716.1 = r712.1 then if r712.1 = 0 then (za_l r716.2 a3 (0 : Int32)).bind (fun w717 => if (lg_cmp w717 ((r714.1).toInt64)) = 0 then k a0 a1 a2 a3 (i4 + (7 : Int32)) (rc - 1) (rs - 6) r716.2 else none) else k a0 a1 a2 a3 (i4 + (7 : Int32)) (rc - 1) (rs - 6) r716.2 else none))))) else none
set_option maxHeartbeats 4000000 in
set_option maxRecDepth 100000 in
theorem zt_L_law_J4450 {p : Program} {l : Launch} {e : Env} {s : State} {m : MethodId} {zb : Nat} {below : List Frame} {meth : Method} {c : Code} {V : zm_V} {d : Nat} {nm : String} (hlt : l.stackTraces = false) (hV : V.2.2.2.1 = s.heap.size) (hX : zm_X p room_1 s m #[Value.ref zb] meth c RL nm cL_law 8 zk_E V 601024 7293034) (hr : meth.sig.returnType = ret) (hR : d ≤ room_1.frames ∧ 64 * d ≤ room_1.locals) (hd : 46 ≤ d) {N : Nat} {k : Nat → Nat → Nat → Nat → Int32 → Nat → Nat → zm_S → Option ((Int32 × zm_S) ⊕ ((Unit) × zm_S))} {rc rs : Nat} {a0 : Nat} {a1 : Nat} {a2 : Nat} {a3 : Nat} {i4 : Int32} {res : (Int32 × zm_S) ⊕ ((Unit) × zm_S)} {out : (Int32 × zm_S)}   (hf : ∀ o, res = .inl o → o = out) (hk : ∀ (S' : zm_S) (rc rs : Nat), res = .inr ((), S') → zw p l e room_1 s m #[Value.ref zb] below meth c (lw_Z below #[Value.ref zb] s) 8 zk_E V 601024 7293034 6008 [] [] S' rc rs) (hrec : ∀ (i4' : Int32) (rc rs : Nat) (S : zm_S), k a0 a1 a2 a3 i4' rc rs S = some res → zw p l e room_1 s m #[Value.ref zb] below meth c (lw_Z below #[Value.ref zb] s) 8 zk_E V 601024 7293034 23 [(0, .ref a0), (1, .ref a1), (2, .ref a2), (3, .ref a3), (4, .int i4')] [] S rc rs) {S : zm_S} (h : zf_L_law_J4450 N k a0 a1 a2 a3 i4 rc rs S = some res) : zw p l e room_1 s m #[Value.ref zb] below meth c (lw_Z below #[Value.ref zb] s) 8 zk_E V 601024 7293034 4450 [(0, .ref a0), (1, .ref a1), (2, .ref a2), (3, .ref a3), (4, .int i4)] [] S rc rs := by
  unfold zf_L_law_J4450 at h
  refine zw_aload_n hX dL_law_4450 rfl ?_
  refine zw_aload_n hX dL_law_4451 rfl ?_
  by_cases hb4452 : 1 ≤ rc ∧ 6 ≤ rs
  · rw [if_pos hb4452] at h
    obtain ⟨r712, g, h⟩ := zb_some h
    refine zc_S (as := [.ref a1, .ref a3]) hX (zt_L_order hlt (d := d - 1) (by omega) g) zl_L_467 dL_law_4452 ⟨rfl, rfl, Nat.le_of_ble_eq_true rfl⟩ ⟨by omega, by omega⟩ hb4452 ?_ ?_
    · rintro _ _ ⟨rfl, rfl⟩
      refine zw_istore hX dL_law_4455 (by decide) ?_
      refine zw_aload_n hX dL_law_4457 rfl ?_
      obtain ⟨_, gi, h⟩ := zb_some h
      obtain ⟨r714, g, h⟩ := zb_some h
      refine zc_Vi (as := []) hX gi (zt_X18_order (d := d - 1) (by omega) g) zl_L_469 rfl dL_law_4458 ⟨rfl, rfl, Nat.le_of_ble_eq_true rfl⟩ ⟨by omega, by omega⟩ ?_
      refine zw_istore hX dL_law_4461 (by decide) ?_
      refine zw_aload_n hX dL_law_4463 rfl ?_
      obtain ⟨_, gi, h⟩ := zb_some h
      obtain ⟨r716, g, h⟩ := zb_some h
      refine zc_Vi (as := []) hX gi (zt_X18_thrown (d := d - 1) (by omega) g) zl_L_281 rfl dL_law_4464 ⟨rfl, rfl, Nat.le_of_ble_eq_true rfl⟩ ⟨by omega, by omega⟩ ?_
      refine zw_iload hX dL_law_4467 rfl ?_
      refine zw_icmp_eq (tgt := 4474) hX dL_law_4469 (by decide) (fun c4469 => ?_) (fun c4469 => ?_)
      · rw [if_pos c4469] at h
        refine zw_iload hX dL_law_4474 rfl ?_
        refine zw_if_ne (tgt := 4491) hX dL_law_4476 (by decide) (fun c4476 => ?_) (fun c4476 => ?_)
        · rw [if_neg c4476] at h
          refine zw_goto (tgt := 6002) hX dL_law_4491 (by decide) ?_
          refine zw_iinc (v := (i4 + (7 : Int32))) hX dL_law_6002 rfl rfl (by decide) ?_
          refine zw_goto (tgt := 23) hX dL_law_6005 (by decide) ?_
          refine zw_sub (lv' := [(0, .ref a0), (1, .ref a1), (2, .ref a2), (3, .ref a3), (4, .int (i4 + (7 : Int32)))]) (List.forall_mem_cons.mpr ⟨rfl, (List.forall_mem_cons.mpr ⟨rfl, (List.forall_mem_cons.mpr ⟨rfl, (List.forall_mem_cons.mpr ⟨rfl, (List.forall_mem_cons.mpr ⟨rfl, zs_nil⟩)⟩)⟩)⟩)⟩) ?_
          exact hrec _ _ _ _ h
        · rw [if_pos c4476] at h
          refine zw_aload_n hX dL_law_4479 rfl ?_
          refine zw_iconst (v := (0 : Int32)) hX dL_law_4480 (by decide) ?_
          obtain ⟨w717, g, h⟩ := zb_some h
          refine zw_xl hX dL_law_4481 g ?_
          refine zw_iload hX dL_law_4482 rfl ?_
          refine zw_i2l hX dL_law_4484 ?_
          refine zw_lcmp hX dL_law_4485 ?_
          refine zw_if_eq (tgt := 4491) hX dL_law_4486 (by decide) (fun c4486 => ?_) (fun c4486 => ?_)
          · rw [if_pos c4486] at h
            refine zw_goto (tgt := 6002) hX dL_law_4491 (by decide) ?_
            refine zw_iinc (v := (i4 + (7 : Int32))) hX dL_law_6002 rfl rfl (by decide) ?_
            refine zw_goto (tgt := 23) hX dL_law_6005 (by decide) ?_
            refine zw_sub (lv' := [(0, .ref a0), (1, .ref a1), (2, .ref a2), (3, .ref a3), (4, .int (i4 + (7 : Int32)))]) (List.forall_mem_cons.mpr ⟨rfl, (List.forall_mem_cons.mpr ⟨rfl, (List.forall_mem_cons.mpr ⟨rfl, (List.forall_mem_cons.mpr ⟨rfl, (List.forall_mem_cons.mpr ⟨rfl, zs_nil⟩)⟩)⟩)⟩)⟩) ?_
            exact hrec _ _ _ _ h
          · rw [if_neg c4486] at h
            refine zw_iconst (v := (0 : Int32)) hX dL_law_4489 (by decide) ?_
            cases h
      · rw [if_neg c4469] at h
        refine zw_iconst (v := (0 : Int32)) hX dL_law_4472 (by decide) ?_
        cases h
    · intro _ _ hx
      exact hx.elim
  · rw [if_neg hb4452] at h
    cases h
def zf_L_law_J4494 (N : Nat) (k : Nat → Nat → Nat → Nat → Int32 → Nat → Nat → zm_S → Option ((Int32 × zm_S) ⊕ ((Unit) × zm_S))) (a0 : Nat) (a1 : Nat) (a2 : Nat) (a3 : Nat) (i4 : Int32) (rc rs : Nat) (S : zm_S) : Option ((Int32 × zm_S) ⊕ ((Unit) × zm_S)) := (za_x S 0 a0 (i4 + (1 : Int32))).bind (fun v718 => (za_x S 0 a0 (i4 + (2 : Int32))).bind (fun v719 => if 2 ≤ rc ∧ 12 ≤ rs then (zf_L_out N a1 v718 v719 a3 S).bind (fun r722 => (za_x r722.2 0 a0 (i4 + (1 : Int32))).bind (fun v723 => (za_x r722.2 0 a0 (i4 + (2 : Int32))).bind (fun v724 => (zi r722.2 a2 18).bind (fun _ => (zf_X18_out N a2 v723 v724 r722.2).bind (fun r726 => (zi r726.2 a2 18).bind (fun _ => (zf_X18_thrown N a2 r726.2).bind (fun r728 => if r728.1 = r722.1 then if r722.1 = 0 then (za_l r728.2 a3 (0 : Int32)).bind (fun w729 => if (lg_cmp w729 ((r726.1).toInt64)) = 0 then k a0 a1 a2 a3 (i4 + (7 : Int32)) (rc - 2) (rs - 12) r728.2 else none) else k a0 a1 a2 a3 (i4 + (7 : Int32)) (rc - 2) (rs - 12) r728.2 else none))))))) else none))
set_option maxHeartbeats 4000000 in
set_option maxRecDepth 100000 in
theorem zt_L_law_J4494 {p : Program} {l : Launch} {e : Env} {s : State} {m : MethodId} {zb : Nat} {below : List Frame} {meth : Method} {c : Code} {V : zm_V} {d : Nat} {nm : String} (hlt : l.stackTraces = false) (hV : V.2.2.2.1 = s.heap.size) (hX : zm_X p room_1 s m #[Value.ref zb] meth c RL nm cL_law 8 zk_E V 601024 7293034) (hr : meth.sig.returnType = ret) (hR : d ≤ room_1.frames ∧ 64 * d ≤ room_1.locals) (hd : 46 ≤ d) {N : Nat} {k : Nat → Nat → Nat → Nat → Int32 → Nat → Nat → zm_S → Option ((Int32 × zm_S) ⊕ ((Unit) × zm_S))} {rc rs : Nat} {a0 : Nat} {a1 : Nat} {a2 : Nat} {a3 : Nat} {i4 : Int32} {res : (Int32 × zm_S) ⊕ ((Unit) × zm_S)} {out : (Int32 × zm_S)}   (hf : ∀ o, res = .inl o → o = out) (hk : ∀ (S' : zm_S) (rc rs : Nat), res = .inr ((), S') → zw p l e room_1 s m #[Value.ref zb] below meth c (lw_Z below #[Value.ref zb] s) 8 zk_E V 601024 7293034 6008 [] [] S' rc rs) (hrec : ∀ (i4' : Int32) (rc rs : Nat) (S : zm_S), k a0 a1 a2 a3 i4' rc rs S = some res → zw p l e room_1 s m #[Value.ref zb] below meth c (lw_Z below #[Value.ref zb] s) 8 zk_E V 601024 7293034 23 [(0, .ref a0), (1, .ref a1), (2, .ref a2), (3, .ref a3), (4, .int i4')] [] S rc rs) {S : zm_S} (h : zf_L_law_J4494 N k a0 a1 a2 a3 i4 rc rs S = some res) : zw p l e room_1 s m #[Value.ref zb] below meth c (lw_Z below #[Value.ref zb] s) 8 zk_E V 601024 7293034 4494 [(0, .ref a0), (1, .ref a1), (2, .ref a2), (3, .ref a3), (4, .int i4)] [] S rc rs := by
  unfold zf_L_law_J4494 at h
  refine zw_aload_n hX dL_law_4494 rfl ?_
  refine zw_aload_n hX dL_law_4495 rfl ?_
  refine zw_iload hX dL_law_4496 rfl ?_
  refine zw_iconst (v := (1 : Int32)) hX dL_law_4498 (by decide) ?_
  refine zw_iadd hX dL_law_4499 ?_
  obtain ⟨v718, g, h⟩ := zb_some h
  refine zw_xi hX dL_law_4500 g ?_
  refine zw_aload_n hX dL_law_4501 rfl ?_
  refine zw_iload hX dL_law_4502 rfl ?_
  refine zw_iconst (v := (2 : Int32)) hX dL_law_4504 (by decide) ?_
  refine zw_iadd hX dL_law_4505 ?_
  obtain ⟨v719, g, h⟩ := zb_some h
  refine zw_xi hX dL_law_4506 g ?_
  refine zw_aload_n hX dL_law_4507 rfl ?_
  by_cases hb4508 : 2 ≤ rc ∧ 12 ≤ rs
  · rw [if_pos hb4508] at h
    obtain ⟨r722, g, h⟩ := zb_some h
    refine zc_S (as := [.ref a1, .int v718, .int v719, .ref a3]) hX (zt_L_out hlt (d := d - 1) (by omega) g) zl_L_470 dL_law_4508 ⟨rfl, rfl, Nat.le_of_ble_eq_true rfl⟩ ⟨by omega, by omega⟩ hb4508 ?_ ?_
    · rintro _ _ ⟨rfl, rfl⟩
      refine zw_istore hX dL_law_4511 (by decide) ?_
      refine zw_aload_n hX dL_law_4513 rfl ?_
      refine zw_aload_n hX dL_law_4514 rfl ?_
      refine zw_iload hX dL_law_4515 rfl ?_
      refine zw_iconst (v := (1 : Int32)) hX dL_law_4517 (by decide) ?_
      refine zw_iadd hX dL_law_4518 ?_
      obtain ⟨v723, g, h⟩ := zb_some h
      refine zw_xi hX dL_law_4519 g ?_
      refine zw_aload_n hX dL_law_4520 rfl ?_
      refine zw_iload hX dL_law_4521 rfl ?_
      refine zw_iconst (v := (2 : Int32)) hX dL_law_4523 (by decide) ?_
      refine zw_iadd hX dL_law_4524 ?_
      obtain ⟨v724, g, h⟩ := zb_some h
      refine zw_xi hX dL_law_4525 g ?_
      obtain ⟨_, gi, h⟩ := zb_some h
      obtain ⟨r726, g, h⟩ := zb_some h
      refine zc_Vi (as := [.int v723, .int v724]) hX gi (zt_X18_out (d := d - 1) (by omega) g) zl_L_472 rfl dL_law_4526 ⟨rfl, rfl, Nat.le_of_ble_eq_true rfl⟩ ⟨by omega, by omega⟩ ?_
      refine zw_istore hX dL_law_4529 (by decide) ?_
      refine zw_aload_n hX dL_law_4531 rfl ?_
      obtain ⟨_, gi, h⟩ := zb_some h
      obtain ⟨r728, g, h⟩ := zb_some h
      refine zc_Vi (as := []) hX gi (zt_X18_thrown (d := d - 1) (by omega) g) zl_L_281 rfl dL_law_4532 ⟨rfl, rfl, Nat.le_of_ble_eq_true rfl⟩ ⟨by omega, by omega⟩ ?_
      refine zw_iload hX dL_law_4535 rfl ?_
      refine zw_icmp_eq (tgt := 4542) hX dL_law_4537 (by decide) (fun c4537 => ?_) (fun c4537 => ?_)
      · rw [if_pos c4537] at h
        refine zw_iload hX dL_law_4542 rfl ?_
        refine zw_if_ne (tgt := 4559) hX dL_law_4544 (by decide) (fun c4544 => ?_) (fun c4544 => ?_)
        · rw [if_neg c4544] at h
          refine zw_goto (tgt := 6002) hX dL_law_4559 (by decide) ?_
          refine zw_iinc (v := (i4 + (7 : Int32))) hX dL_law_6002 rfl rfl (by decide) ?_
          refine zw_goto (tgt := 23) hX dL_law_6005 (by decide) ?_
          refine zw_sub (lv' := [(0, .ref a0), (1, .ref a1), (2, .ref a2), (3, .ref a3), (4, .int (i4 + (7 : Int32)))]) (List.forall_mem_cons.mpr ⟨rfl, (List.forall_mem_cons.mpr ⟨rfl, (List.forall_mem_cons.mpr ⟨rfl, (List.forall_mem_cons.mpr ⟨rfl, (List.forall_mem_cons.mpr ⟨rfl, zs_nil⟩)⟩)⟩)⟩)⟩) ?_
          exact hrec _ _ _ _ h
        · rw [if_pos c4544] at h
          refine zw_aload_n hX dL_law_4547 rfl ?_
          refine zw_iconst (v := (0 : Int32)) hX dL_law_4548 (by decide) ?_
          obtain ⟨w729, g, h⟩ := zb_some h
          refine zw_xl hX dL_law_4549 g ?_
          refine zw_iload hX dL_law_4550 rfl ?_
          refine zw_i2l hX dL_law_4552 ?_
          refine zw_lcmp hX dL_law_4553 ?_
          refine zw_if_eq (tgt := 4559) hX dL_law_4554 (by decide) (fun c4554 => ?_) (fun c4554 => ?_)
          · rw [if_pos c4554] at h
            refine zw_goto (tgt := 6002) hX dL_law_4559 (by decide) ?_
            refine zw_iinc (v := (i4 + (7 : Int32))) hX dL_law_6002 rfl rfl (by decide) ?_
            refine zw_goto (tgt := 23) hX dL_law_6005 (by decide) ?_
            refine zw_sub (lv' := [(0, .ref a0), (1, .ref a1), (2, .ref a2), (3, .ref a3), (4, .int (i4 + (7 : Int32)))]) (List.forall_mem_cons.mpr ⟨rfl, (List.forall_mem_cons.mpr ⟨rfl, (List.forall_mem_cons.mpr ⟨rfl, (List.forall_mem_cons.mpr ⟨rfl, (List.forall_mem_cons.mpr ⟨rfl, zs_nil⟩)⟩)⟩)⟩)⟩) ?_
            exact hrec _ _ _ _ h
          · rw [if_neg c4554] at h
            refine zw_iconst (v := (0 : Int32)) hX dL_law_4557 (by decide) ?_
            cases h
      · rw [if_neg c4537] at h
        refine zw_iconst (v := (0 : Int32)) hX dL_law_4540 (by decide) ?_
        cases h
    · intro _ _ hx
      exact hx.elim
  · rw [if_neg hb4508] at h
    cases h
def zf_L_law_J4562 (N : Nat) (k : Nat → Nat → Nat → Nat → Int32 → Nat → Nat → zm_S → Option ((Int32 × zm_S) ⊕ ((Unit) × zm_S))) (a0 : Nat) (a1 : Nat) (a2 : Nat) (a3 : Nat) (i4 : Int32) (rc rs : Nat) (S : zm_S) : Option ((Int32 × zm_S) ⊕ ((Unit) × zm_S)) := (za_x S 0 a0 (i4 + (1 : Int32))).bind (fun v730 => if 2 ≤ rc ∧ 12 ≤ rs then (zf_L_failed N a1 v730 a3 S).bind (fun r733 => (za_x r733.2 0 a0 (i4 + (1 : Int32))).bind (fun v734 => (zi r733.2 a2 18).bind (fun _ => (zf_X18_failed N a2 v734 r733.2).bind (fun r736 => (zi r736.2 a2 18).bind (fun _ => (zf_X18_thrown N a2 r736.2).bind (fun r738 => if r738.1 = r733.1 then if r733.1 = 0 then (za_l r738.2 a3 (0 : Int32)).bind (fun w739 => if (lg_cmp w739 ((r736.1).toInt64)) = 0 then k a0 a1 a2 a3 (i4 + (7 : Int32)) (rc - 2) (rs - 12) r738.2 else none) else k a0 a1 a2 a3 (i4 + (7 : Int32)) (rc - 2) (rs - 12) r738.2 else none)))))) else none)
set_option maxHeartbeats 4000000 in
set_option maxRecDepth 100000 in
theorem zt_L_law_J4562 {p : Program} {l : Launch} {e : Env} {s : State} {m : MethodId} {zb : Nat} {below : List Frame} {meth : Method} {c : Code} {V : zm_V} {d : Nat} {nm : String} (hlt : l.stackTraces = false) (hV : V.2.2.2.1 = s.heap.size) (hX : zm_X p room_1 s m #[Value.ref zb] meth c RL nm cL_law 8 zk_E V 601024 7293034) (hr : meth.sig.returnType = ret) (hR : d ≤ room_1.frames ∧ 64 * d ≤ room_1.locals) (hd : 46 ≤ d) {N : Nat} {k : Nat → Nat → Nat → Nat → Int32 → Nat → Nat → zm_S → Option ((Int32 × zm_S) ⊕ ((Unit) × zm_S))} {rc rs : Nat} {a0 : Nat} {a1 : Nat} {a2 : Nat} {a3 : Nat} {i4 : Int32} {res : (Int32 × zm_S) ⊕ ((Unit) × zm_S)} {out : (Int32 × zm_S)}   (hf : ∀ o, res = .inl o → o = out) (hk : ∀ (S' : zm_S) (rc rs : Nat), res = .inr ((), S') → zw p l e room_1 s m #[Value.ref zb] below meth c (lw_Z below #[Value.ref zb] s) 8 zk_E V 601024 7293034 6008 [] [] S' rc rs) (hrec : ∀ (i4' : Int32) (rc rs : Nat) (S : zm_S), k a0 a1 a2 a3 i4' rc rs S = some res → zw p l e room_1 s m #[Value.ref zb] below meth c (lw_Z below #[Value.ref zb] s) 8 zk_E V 601024 7293034 23 [(0, .ref a0), (1, .ref a1), (2, .ref a2), (3, .ref a3), (4, .int i4')] [] S rc rs) {S : zm_S} (h : zf_L_law_J4562 N k a0 a1 a2 a3 i4 rc rs S = some res) : zw p l e room_1 s m #[Value.ref zb] below meth c (lw_Z below #[Value.ref zb] s) 8 zk_E V 601024 7293034 4562 [(0, .ref a0), (1, .ref a1), (2, .ref a2), (3, .ref a3), (4, .int i4)] [] S rc rs := by
  unfold zf_L_law_J4562 at h
  refine zw_aload_n hX dL_law_4562 rfl ?_
  refine zw_aload_n hX dL_law_4563 rfl ?_
  refine zw_iload hX dL_law_4564 rfl ?_
  refine zw_iconst (v := (1 : Int32)) hX dL_law_4566 (by decide) ?_
  refine zw_iadd hX dL_law_4567 ?_
  obtain ⟨v730, g, h⟩ := zb_some h
  refine zw_xi hX dL_law_4568 g ?_
  refine zw_aload_n hX dL_law_4569 rfl ?_
  by_cases hb4570 : 2 ≤ rc ∧ 12 ≤ rs
  · rw [if_pos hb4570] at h
    obtain ⟨r733, g, h⟩ := zb_some h
    refine zc_S (as := [.ref a1, .int v730, .ref a3]) hX (zt_L_failed hlt (d := d - 1) (by omega) g) zl_L_473 dL_law_4570 ⟨rfl, rfl, Nat.le_of_ble_eq_true rfl⟩ ⟨by omega, by omega⟩ hb4570 ?_ ?_
    · rintro _ _ ⟨rfl, rfl⟩
      refine zw_istore hX dL_law_4573 (by decide) ?_
      refine zw_aload_n hX dL_law_4575 rfl ?_
      refine zw_aload_n hX dL_law_4576 rfl ?_
      refine zw_iload hX dL_law_4577 rfl ?_
      refine zw_iconst (v := (1 : Int32)) hX dL_law_4579 (by decide) ?_
      refine zw_iadd hX dL_law_4580 ?_
      obtain ⟨v734, g, h⟩ := zb_some h
      refine zw_xi hX dL_law_4581 g ?_
      obtain ⟨_, gi, h⟩ := zb_some h
      obtain ⟨r736, g, h⟩ := zb_some h
      refine zc_Vi (as := [.int v734]) hX gi (zt_X18_failed (d := d - 1) (by omega) g) zl_L_475 rfl dL_law_4582 ⟨rfl, rfl, Nat.le_of_ble_eq_true rfl⟩ ⟨by omega, by omega⟩ ?_
      refine zw_istore hX dL_law_4585 (by decide) ?_
      refine zw_aload_n hX dL_law_4587 rfl ?_
      obtain ⟨_, gi, h⟩ := zb_some h
      obtain ⟨r738, g, h⟩ := zb_some h
      refine zc_Vi (as := []) hX gi (zt_X18_thrown (d := d - 1) (by omega) g) zl_L_281 rfl dL_law_4588 ⟨rfl, rfl, Nat.le_of_ble_eq_true rfl⟩ ⟨by omega, by omega⟩ ?_
      refine zw_iload hX dL_law_4591 rfl ?_
      refine zw_icmp_eq (tgt := 4598) hX dL_law_4593 (by decide) (fun c4593 => ?_) (fun c4593 => ?_)
      · rw [if_pos c4593] at h
        refine zw_iload hX dL_law_4598 rfl ?_
        refine zw_if_ne (tgt := 4615) hX dL_law_4600 (by decide) (fun c4600 => ?_) (fun c4600 => ?_)
        · rw [if_neg c4600] at h
          refine zw_goto (tgt := 6002) hX dL_law_4615 (by decide) ?_
          refine zw_iinc (v := (i4 + (7 : Int32))) hX dL_law_6002 rfl rfl (by decide) ?_
          refine zw_goto (tgt := 23) hX dL_law_6005 (by decide) ?_
          refine zw_sub (lv' := [(0, .ref a0), (1, .ref a1), (2, .ref a2), (3, .ref a3), (4, .int (i4 + (7 : Int32)))]) (List.forall_mem_cons.mpr ⟨rfl, (List.forall_mem_cons.mpr ⟨rfl, (List.forall_mem_cons.mpr ⟨rfl, (List.forall_mem_cons.mpr ⟨rfl, (List.forall_mem_cons.mpr ⟨rfl, zs_nil⟩)⟩)⟩)⟩)⟩) ?_
          exact hrec _ _ _ _ h
        · rw [if_pos c4600] at h
          refine zw_aload_n hX dL_law_4603 rfl ?_
          refine zw_iconst (v := (0 : Int32)) hX dL_law_4604 (by decide) ?_
          obtain ⟨w739, g, h⟩ := zb_some h
          refine zw_xl hX dL_law_4605 g ?_
          refine zw_iload hX dL_law_4606 rfl ?_
          refine zw_i2l hX dL_law_4608 ?_
          refine zw_lcmp hX dL_law_4609 ?_
          refine zw_if_eq (tgt := 4615) hX dL_law_4610 (by decide) (fun c4610 => ?_) (fun c4610 => ?_)
          · rw [if_pos c4610] at h
            refine zw_goto (tgt := 6002) hX dL_law_4615 (by decide) ?_
            refine zw_iinc (v := (i4 + (7 : Int32))) hX dL_law_6002 rfl rfl (by decide) ?_
            refine zw_goto (tgt := 23) hX dL_law_6005 (by decide) ?_
            refine zw_sub (lv' := [(0, .ref a0), (1, .ref a1), (2, .ref a2), (3, .ref a3), (4, .int (i4 + (7 : Int32)))]) (List.forall_mem_cons.mpr ⟨rfl, (List.forall_mem_cons.mpr ⟨rfl, (List.forall_mem_cons.mpr ⟨rfl, (List.forall_mem_cons.mpr ⟨rfl, (List.forall_mem_cons.mpr ⟨rfl, zs_nil⟩)⟩)⟩)⟩)⟩) ?_
            exact hrec _ _ _ _ h
          · rw [if_neg c4610] at h
            refine zw_iconst (v := (0 : Int32)) hX dL_law_4613 (by decide) ?_
            cases h
      · rw [if_neg c4593] at h
        refine zw_iconst (v := (0 : Int32)) hX dL_law_4596 (by decide) ?_
        cases h
    · intro _ _ hx
      exact hx.elim
  · rw [if_neg hb4570] at h
    cases h
def zf_L_law_J4618 (N : Nat) (k : Nat → Nat → Nat → Nat → Int32 → Nat → Nat → zm_S → Option ((Int32 × zm_S) ⊕ ((Unit) × zm_S))) (a0 : Nat) (a1 : Nat) (a2 : Nat) (a3 : Nat) (i4 : Int32) (rc rs : Nat) (S : zm_S) : Option ((Int32 × zm_S) ⊕ ((Unit) × zm_S)) := (za_x S 0 a0 (i4 + (1 : Int32))).bind (fun v740 => (za_x S 0 a0 (i4 + (2 : Int32))).bind (fun v741 => if 2 ≤ rc ∧ 12 ≤ rs then (zf_L_address N a1 v740 v741 a3 S).bind (fun r744 => (za_x r744.2 0 a0 (i4 + (1 : Int32))).bind (fun v745 => (za_x r744.2 0 a0 (i4 + (2 : Int32))).bind (fun v746 => (zi r744.2 a2 18).bind (fun _ => (zf_X18_address N a2 v745 v746 r744.2).bind (fun r748 => (zi r748.2 a2 18).bind (fun _ => (zf_X18_thrown N a2 r748.2).bind (fun r750 => if r750.1 = r744.1 then if r744.1 = 0 then (za_l r750.2 a3 (0 : Int32)).bind (fun w751 => if (lg_cmp w751 ((r748.1).toInt64)) = 0 then k a0 a1 a2 a3 (i4 + (7 : Int32)) (rc - 2) (rs - 12) r750.2 else none) else k a0 a1 a2 a3 (i4 + (7 : Int32)) (rc - 2) (rs - 12) r750.2 else none))))))) else none))
set_option maxHeartbeats 4000000 in
set_option maxRecDepth 100000 in
theorem zt_L_law_J4618 {p : Program} {l : Launch} {e : Env} {s : State} {m : MethodId} {zb : Nat} {below : List Frame} {meth : Method} {c : Code} {V : zm_V} {d : Nat} {nm : String} (hlt : l.stackTraces = false) (hV : V.2.2.2.1 = s.heap.size) (hX : zm_X p room_1 s m #[Value.ref zb] meth c RL nm cL_law 8 zk_E V 601024 7293034) (hr : meth.sig.returnType = ret) (hR : d ≤ room_1.frames ∧ 64 * d ≤ room_1.locals) (hd : 46 ≤ d) {N : Nat} {k : Nat → Nat → Nat → Nat → Int32 → Nat → Nat → zm_S → Option ((Int32 × zm_S) ⊕ ((Unit) × zm_S))} {rc rs : Nat} {a0 : Nat} {a1 : Nat} {a2 : Nat} {a3 : Nat} {i4 : Int32} {res : (Int32 × zm_S) ⊕ ((Unit) × zm_S)} {out : (Int32 × zm_S)}   (hf : ∀ o, res = .inl o → o = out) (hk : ∀ (S' : zm_S) (rc rs : Nat), res = .inr ((), S') → zw p l e room_1 s m #[Value.ref zb] below meth c (lw_Z below #[Value.ref zb] s) 8 zk_E V 601024 7293034 6008 [] [] S' rc rs) (hrec : ∀ (i4' : Int32) (rc rs : Nat) (S : zm_S), k a0 a1 a2 a3 i4' rc rs S = some res → zw p l e room_1 s m #[Value.ref zb] below meth c (lw_Z below #[Value.ref zb] s) 8 zk_E V 601024 7293034 23 [(0, .ref a0), (1, .ref a1), (2, .ref a2), (3, .ref a3), (4, .int i4')] [] S rc rs) {S : zm_S} (h : zf_L_law_J4618 N k a0 a1 a2 a3 i4 rc rs S = some res) : zw p l e room_1 s m #[Value.ref zb] below meth c (lw_Z below #[Value.ref zb] s) 8 zk_E V 601024 7293034 4618 [(0, .ref a0), (1, .ref a1), (2, .ref a2), (3, .ref a3), (4, .int i4)] [] S rc rs := by
  unfold zf_L_law_J4618 at h
  refine zw_aload_n hX dL_law_4618 rfl ?_
  refine zw_aload_n hX dL_law_4619 rfl ?_
  refine zw_iload hX dL_law_4620 rfl ?_
  refine zw_iconst (v := (1 : Int32)) hX dL_law_4622 (by decide) ?_
  refine zw_iadd hX dL_law_4623 ?_
  obtain ⟨v740, g, h⟩ := zb_some h
  refine zw_xi hX dL_law_4624 g ?_
  refine zw_aload_n hX dL_law_4625 rfl ?_
  refine zw_iload hX dL_law_4626 rfl ?_
  refine zw_iconst (v := (2 : Int32)) hX dL_law_4628 (by decide) ?_
  refine zw_iadd hX dL_law_4629 ?_
  obtain ⟨v741, g, h⟩ := zb_some h
  refine zw_xi hX dL_law_4630 g ?_
  refine zw_aload_n hX dL_law_4631 rfl ?_
  by_cases hb4632 : 2 ≤ rc ∧ 12 ≤ rs
  · rw [if_pos hb4632] at h
    obtain ⟨r744, g, h⟩ := zb_some h
    refine zc_S (as := [.ref a1, .int v740, .int v741, .ref a3]) hX (zt_L_address hlt (d := d - 1) (by omega) g) zl_L_476 dL_law_4632 ⟨rfl, rfl, Nat.le_of_ble_eq_true rfl⟩ ⟨by omega, by omega⟩ hb4632 ?_ ?_
    · rintro _ _ ⟨rfl, rfl⟩
      refine zw_istore hX dL_law_4635 (by decide) ?_
      refine zw_aload_n hX dL_law_4637 rfl ?_
      refine zw_aload_n hX dL_law_4638 rfl ?_
      refine zw_iload hX dL_law_4639 rfl ?_
      refine zw_iconst (v := (1 : Int32)) hX dL_law_4641 (by decide) ?_
      refine zw_iadd hX dL_law_4642 ?_
      obtain ⟨v745, g, h⟩ := zb_some h
      refine zw_xi hX dL_law_4643 g ?_
      refine zw_aload_n hX dL_law_4644 rfl ?_
      refine zw_iload hX dL_law_4645 rfl ?_
      refine zw_iconst (v := (2 : Int32)) hX dL_law_4647 (by decide) ?_
      refine zw_iadd hX dL_law_4648 ?_
      obtain ⟨v746, g, h⟩ := zb_some h
      refine zw_xi hX dL_law_4649 g ?_
      obtain ⟨_, gi, h⟩ := zb_some h
      obtain ⟨r748, g, h⟩ := zb_some h
      refine zc_Vi (as := [.int v745, .int v746]) hX gi (zt_X18_address (d := d - 1) (by omega) g) zl_L_478 rfl dL_law_4650 ⟨rfl, rfl, Nat.le_of_ble_eq_true rfl⟩ ⟨by omega, by omega⟩ ?_
      refine zw_istore hX dL_law_4653 (by decide) ?_
      refine zw_aload_n hX dL_law_4655 rfl ?_
      obtain ⟨_, gi, h⟩ := zb_some h
      obtain ⟨r750, g, h⟩ := zb_some h
      refine zc_Vi (as := []) hX gi (zt_X18_thrown (d := d - 1) (by omega) g) zl_L_281 rfl dL_law_4656 ⟨rfl, rfl, Nat.le_of_ble_eq_true rfl⟩ ⟨by omega, by omega⟩ ?_
      refine zw_iload hX dL_law_4659 rfl ?_
      refine zw_icmp_eq (tgt := 4666) hX dL_law_4661 (by decide) (fun c4661 => ?_) (fun c4661 => ?_)
      · rw [if_pos c4661] at h
        refine zw_iload hX dL_law_4666 rfl ?_
        refine zw_if_ne (tgt := 4683) hX dL_law_4668 (by decide) (fun c4668 => ?_) (fun c4668 => ?_)
        · rw [if_neg c4668] at h
          refine zw_goto (tgt := 6002) hX dL_law_4683 (by decide) ?_
          refine zw_iinc (v := (i4 + (7 : Int32))) hX dL_law_6002 rfl rfl (by decide) ?_
          refine zw_goto (tgt := 23) hX dL_law_6005 (by decide) ?_
          refine zw_sub (lv' := [(0, .ref a0), (1, .ref a1), (2, .ref a2), (3, .ref a3), (4, .int (i4 + (7 : Int32)))]) (List.forall_mem_cons.mpr ⟨rfl, (List.forall_mem_cons.mpr ⟨rfl, (List.forall_mem_cons.mpr ⟨rfl, (List.forall_mem_cons.mpr ⟨rfl, (List.forall_mem_cons.mpr ⟨rfl, zs_nil⟩)⟩)⟩)⟩)⟩) ?_
          exact hrec _ _ _ _ h
        · rw [if_pos c4668] at h
          refine zw_aload_n hX dL_law_4671 rfl ?_
          refine zw_iconst (v := (0 : Int32)) hX dL_law_4672 (by decide) ?_
          obtain ⟨w751, g, h⟩ := zb_some h
          refine zw_xl hX dL_law_4673 g ?_
          refine zw_iload hX dL_law_4674 rfl ?_
          refine zw_i2l hX dL_law_4676 ?_
          refine zw_lcmp hX dL_law_4677 ?_
          refine zw_if_eq (tgt := 4683) hX dL_law_4678 (by decide) (fun c4678 => ?_) (fun c4678 => ?_)
          · rw [if_pos c4678] at h
            refine zw_goto (tgt := 6002) hX dL_law_4683 (by decide) ?_
            refine zw_iinc (v := (i4 + (7 : Int32))) hX dL_law_6002 rfl rfl (by decide) ?_
            refine zw_goto (tgt := 23) hX dL_law_6005 (by decide) ?_
            refine zw_sub (lv' := [(0, .ref a0), (1, .ref a1), (2, .ref a2), (3, .ref a3), (4, .int (i4 + (7 : Int32)))]) (List.forall_mem_cons.mpr ⟨rfl, (List.forall_mem_cons.mpr ⟨rfl, (List.forall_mem_cons.mpr ⟨rfl, (List.forall_mem_cons.mpr ⟨rfl, (List.forall_mem_cons.mpr ⟨rfl, zs_nil⟩)⟩)⟩)⟩)⟩) ?_
            exact hrec _ _ _ _ h
          · rw [if_neg c4678] at h
            refine zw_iconst (v := (0 : Int32)) hX dL_law_4681 (by decide) ?_
            cases h
      · rw [if_neg c4661] at h
        refine zw_iconst (v := (0 : Int32)) hX dL_law_4664 (by decide) ?_
        cases h
    · intro _ _ hx
      exact hx.elim
  · rw [if_neg hb4632] at h
    cases h
def zf_L_law_J4780 (N : Nat) (k : Nat → Nat → Nat → Nat → Int32 → Nat → Nat → zm_S → Option ((Int32 × zm_S) ⊕ ((Unit) × zm_S))) (a0 : Nat) (a1 : Nat) (a2 : Nat) (a3 : Nat) (i4 : Int32) (t0 : Int64) (t1 : Int64) (rc rs : Nat) (S : zm_S) : Option ((Int32 × zm_S) ⊕ ((Unit) × zm_S)) := if (lg_cmp t0 t1) = 0 then k a0 a1 a2 a3 (i4 + (7 : Int32)) rc rs S else none
set_option maxHeartbeats 4000000 in
set_option maxRecDepth 100000 in
theorem zt_L_law_J4780 {p : Program} {l : Launch} {e : Env} {s : State} {m : MethodId} {zb : Nat} {below : List Frame} {meth : Method} {c : Code} {V : zm_V} {d : Nat} {nm : String} (hlt : l.stackTraces = false) (hV : V.2.2.2.1 = s.heap.size) (hX : zm_X p room_1 s m #[Value.ref zb] meth c RL nm cL_law 8 zk_E V 601024 7293034) (hr : meth.sig.returnType = ret) (hR : d ≤ room_1.frames ∧ 64 * d ≤ room_1.locals) (hd : 46 ≤ d) {N : Nat} {k : Nat → Nat → Nat → Nat → Int32 → Nat → Nat → zm_S → Option ((Int32 × zm_S) ⊕ ((Unit) × zm_S))} {rc rs : Nat} {a0 : Nat} {a1 : Nat} {a2 : Nat} {a3 : Nat} {i4 : Int32} {t0 : Int64} {t1 : Int64} {res : (Int32 × zm_S) ⊕ ((Unit) × zm_S)} {out : (Int32 × zm_S)}   (hf : ∀ o, res = .inl o → o = out) (hk : ∀ (S' : zm_S) (rc rs : Nat), res = .inr ((), S') → zw p l e room_1 s m #[Value.ref zb] below meth c (lw_Z below #[Value.ref zb] s) 8 zk_E V 601024 7293034 6008 [] [] S' rc rs) (hrec : ∀ (i4' : Int32) (rc rs : Nat) (S : zm_S), k a0 a1 a2 a3 i4' rc rs S = some res → zw p l e room_1 s m #[Value.ref zb] below meth c (lw_Z below #[Value.ref zb] s) 8 zk_E V 601024 7293034 23 [(0, .ref a0), (1, .ref a1), (2, .ref a2), (3, .ref a3), (4, .int i4')] [] S rc rs) {S : zm_S} (h : zf_L_law_J4780 N k a0 a1 a2 a3 i4 t0 t1 rc rs S = some res) : zw p l e room_1 s m #[Value.ref zb] below meth c (lw_Z below #[Value.ref zb] s) 8 zk_E V 601024 7293034 4780 [(0, .ref a0), (1, .ref a1), (2, .ref a2), (3, .ref a3), (4, .int i4)] [.long t1, .long t0] S rc rs := by
  unfold zf_L_law_J4780 at h
  refine zw_lcmp hX dL_law_4780 ?_
  refine zw_if_eq (tgt := 4786) hX dL_law_4781 (by decide) (fun c4781 => ?_) (fun c4781 => ?_)
  · rw [if_pos c4781] at h
    refine zw_goto (tgt := 6002) hX dL_law_4786 (by decide) ?_
    refine zw_iinc (v := (i4 + (7 : Int32))) hX dL_law_6002 rfl rfl (by decide) ?_
    refine zw_goto (tgt := 23) hX dL_law_6005 (by decide) ?_
    refine zw_sub (lv' := [(0, .ref a0), (1, .ref a1), (2, .ref a2), (3, .ref a3), (4, .int (i4 + (7 : Int32)))]) (List.forall_mem_cons.mpr ⟨rfl, (List.forall_mem_cons.mpr ⟨rfl, (List.forall_mem_cons.mpr ⟨rfl, (List.forall_mem_cons.mpr ⟨rfl, (List.forall_mem_cons.mpr ⟨rfl, zs_nil⟩)⟩)⟩)⟩)⟩) ?_
    exact hrec _ _ _ _ h
  · rw [if_neg c4781] at h
    refine zw_iconst (v := (0 : Int32)) hX dL_law_4784 (by decide) ?_
    cases h
def zf_L_law_J4746 (N : Nat) (k : Nat → Nat → Nat → Nat → Int32 → Nat → Nat → zm_S → Option ((Int32 × zm_S) ⊕ ((Unit) × zm_S))) (a0 : Nat) (a1 : Nat) (a2 : Nat) (a3 : Nat) (i4 : Int32) (i5 : Int32) (t0 : Nat) (t1 : Int32) (t2 : Int32) (t3 : Int32) (rc rs : Nat) (S : zm_S) : Option ((Int32 × zm_S) ⊕ ((Unit) × zm_S)) := (zi S t0 18).bind (fun _ => (zf_X18_listen N t0 t1 t2 t3 S).bind (fun r762 => (zi r762.2 a2 18).bind (fun _ => (zf_X18_thrown N a2 r762.2).bind (fun r764 => if r764.1 = i5 then if i5 = 0 then (za_l r764.2 a3 (0 : Int32)).bind (fun w765 => if r762.1 = 0 then zf_L_law_J4780 N (k) a0 a1 a2 a3 i4 w765 (0 : Int64) rc rs r764.2 else zf_L_law_J4780 N (k) a0 a1 a2 a3 i4 w765 (1 : Int64) rc rs r764.2) else k a0 a1 a2 a3 (i4 + (7 : Int32)) rc rs r764.2 else none))))
set_option maxHeartbeats 4000000 in
set_option maxRecDepth 100000 in
theorem zt_L_law_J4746 {p : Program} {l : Launch} {e : Env} {s : State} {m : MethodId} {zb : Nat} {below : List Frame} {meth : Method} {c : Code} {V : zm_V} {d : Nat} {nm : String} (hlt : l.stackTraces = false) (hV : V.2.2.2.1 = s.heap.size) (hX : zm_X p room_1 s m #[Value.ref zb] meth c RL nm cL_law 8 zk_E V 601024 7293034) (hr : meth.sig.returnType = ret) (hR : d ≤ room_1.frames ∧ 64 * d ≤ room_1.locals) (hd : 46 ≤ d) {N : Nat} {k : Nat → Nat → Nat → Nat → Int32 → Nat → Nat → zm_S → Option ((Int32 × zm_S) ⊕ ((Unit) × zm_S))} {rc rs : Nat} {a0 : Nat} {a1 : Nat} {a2 : Nat} {a3 : Nat} {i4 : Int32} {i5 : Int32} {t0 : Nat} {t1 : Int32} {t2 : Int32} {t3 : Int32} {res : (Int32 × zm_S) ⊕ ((Unit) × zm_S)} {out : (Int32 × zm_S)}   (hf : ∀ o, res = .inl o → o = out) (hk : ∀ (S' : zm_S) (rc rs : Nat), res = .inr ((), S') → zw p l e room_1 s m #[Value.ref zb] below meth c (lw_Z below #[Value.ref zb] s) 8 zk_E V 601024 7293034 6008 [] [] S' rc rs) (hrec : ∀ (i4' : Int32) (rc rs : Nat) (S : zm_S), k a0 a1 a2 a3 i4' rc rs S = some res → zw p l e room_1 s m #[Value.ref zb] below meth c (lw_Z below #[Value.ref zb] s) 8 zk_E V 601024 7293034 23 [(0, .ref a0), (1, .ref a1), (2, .ref a2), (3, .ref a3), (4, .int i4')] [] S rc rs) {S : zm_S} (h : zf_L_law_J4746 N k a0 a1 a2 a3 i4 i5 t0 t1 t2 t3 rc rs S = some res) : zw p l e room_1 s m #[Value.ref zb] below meth c (lw_Z below #[Value.ref zb] s) 8 zk_E V 601024 7293034 4746 [(0, .ref a0), (1, .ref a1), (2, .ref a2), (3, .ref a3), (4, .int i4), (5, .int i5)] [.int t3, .int t2, .int t1, .ref t0] S rc rs := by
  unfold zf_L_law_J4746 at h
  obtain ⟨_, gi, h⟩ := zb_some h
  obtain ⟨r762, g, h⟩ := zb_some h
  refine zc_Vi (as := [.int t1, .int t2, .int t3]) hX gi (zt_X18_listen (d := d - 1) (by omega) g) zl_L_481 rfl dL_law_4746 ⟨rfl, rfl, Nat.le_of_ble_eq_true rfl⟩ ⟨by omega, by omega⟩ ?_
  refine zw_istore hX dL_law_4749 (by decide) ?_
  refine zw_aload_n hX dL_law_4751 rfl ?_
  obtain ⟨_, gi, h⟩ := zb_some h
  obtain ⟨r764, g, h⟩ := zb_some h
  refine zc_Vi (as := []) hX gi (zt_X18_thrown (d := d - 1) (by omega) g) zl_L_281 rfl dL_law_4752 ⟨rfl, rfl, Nat.le_of_ble_eq_true rfl⟩ ⟨by omega, by omega⟩ ?_
  refine zw_iload hX dL_law_4755 rfl ?_
  refine zw_icmp_eq (tgt := 4762) hX dL_law_4757 (by decide) (fun c4757 => ?_) (fun c4757 => ?_)
  · rw [if_pos c4757] at h
    refine zw_iload hX dL_law_4762 rfl ?_
    refine zw_if_ne (tgt := 4786) hX dL_law_4764 (by decide) (fun c4764 => ?_) (fun c4764 => ?_)
    · rw [if_neg c4764] at h
      refine zw_goto (tgt := 6002) hX dL_law_4786 (by decide) ?_
      refine zw_iinc (v := (i4 + (7 : Int32))) hX dL_law_6002 rfl rfl (by decide) ?_
      refine zw_goto (tgt := 23) hX dL_law_6005 (by decide) ?_
      refine zw_sub (lv' := [(0, .ref a0), (1, .ref a1), (2, .ref a2), (3, .ref a3), (4, .int (i4 + (7 : Int32)))]) (List.forall_mem_cons.mpr ⟨rfl, (List.forall_mem_cons.mpr ⟨rfl, (List.forall_mem_cons.mpr ⟨rfl, (List.forall_mem_cons.mpr ⟨rfl, (List.forall_mem_cons.mpr ⟨rfl, zs_nil⟩)⟩)⟩)⟩)⟩) ?_
      exact hrec _ _ _ _ h
    · rw [if_pos c4764] at h
      refine zw_aload_n hX dL_law_4767 rfl ?_
      refine zw_iconst (v := (0 : Int32)) hX dL_law_4768 (by decide) ?_
      obtain ⟨w765, g, h⟩ := zb_some h
      refine zw_xl hX dL_law_4769 g ?_
      refine zw_iload hX dL_law_4770 rfl ?_
      refine zw_if_eq (tgt := 4779) hX dL_law_4772 (by decide) (fun c4772 => ?_) (fun c4772 => ?_)
      · rw [if_pos c4772] at h
        refine zw_lconst (v := (0 : Int64)) hX dL_law_4779 (by decide) ?_
        refine zw_sub (lv' := [(0, .ref a0), (1, .ref a1), (2, .ref a2), (3, .ref a3), (4, .int i4)]) (List.forall_mem_cons.mpr ⟨rfl, (List.forall_mem_cons.mpr ⟨rfl, (List.forall_mem_cons.mpr ⟨rfl, (List.forall_mem_cons.mpr ⟨rfl, (List.forall_mem_cons.mpr ⟨rfl, zs_nil⟩)⟩)⟩)⟩)⟩) ?_
        exact zt_L_law_J4780 hlt hV hX hr hR hd hf hk hrec h
      · rw [if_neg c4772] at h
        refine zw_lconst (v := (1 : Int64)) hX dL_law_4775 (by decide) ?_
        refine zw_goto (tgt := 4780) hX dL_law_4776 (by decide) ?_
        refine zw_sub (lv' := [(0, .ref a0), (1, .ref a1), (2, .ref a2), (3, .ref a3), (4, .int i4)]) (List.forall_mem_cons.mpr ⟨rfl, (List.forall_mem_cons.mpr ⟨rfl, (List.forall_mem_cons.mpr ⟨rfl, (List.forall_mem_cons.mpr ⟨rfl, (List.forall_mem_cons.mpr ⟨rfl, zs_nil⟩)⟩)⟩)⟩)⟩) ?_
        exact zt_L_law_J4780 hlt hV hX hr hR hd hf hk hrec h
  · rw [if_neg c4757] at h
    refine zw_iconst (v := (0 : Int32)) hX dL_law_4760 (by decide) ?_
    cases h
def zf_L_law_J4713 (N : Nat) (k : Nat → Nat → Nat → Nat → Int32 → Nat → Nat → zm_S → Option ((Int32 × zm_S) ⊕ ((Unit) × zm_S))) (a0 : Nat) (a1 : Nat) (a2 : Nat) (a3 : Nat) (i4 : Int32) (t0 : Nat) (t1 : Int32) (t2 : Int32) (t3 : Int32) (rc rs : Nat) (S : zm_S) : Option ((Int32 × zm_S) ⊕ ((Unit) × zm_S)) := if 2 ≤ rc ∧ 12 ≤ rs then (zf_L_listen N t0 t1 t2 t3 a3 S).bind (fun r757 => (za_x r757.2 0 a0 (i4 + (1 : Int32))).bind (fun v758 => (za_x r757.2 0 a0 (i4 + (2 : Int32))).bind (fun v759 => (za_x r757.2 0 a0 (i4 + (3 : Int32))).bind (fun v760 => if v760 = 0 then zf_L_law_J4746 N (k) a0 a1 a2 a3 i4 r757.1 a2 v758 v759 (0 : Int32) (rc - 2) (rs - 12) r757.2 else zf_L_law_J4746 N (k) a0 a1 a2 a3 i4 r757.1 a2 v758 v759 (1 : Int32) (rc - 2) (rs - 12) r757.2)))) else none
set_option maxHeartbeats 4000000 in
set_option maxRecDepth 100000 in
theorem zt_L_law_J4713 {p : Program} {l : Launch} {e : Env} {s : State} {m : MethodId} {zb : Nat} {below : List Frame} {meth : Method} {c : Code} {V : zm_V} {d : Nat} {nm : String} (hlt : l.stackTraces = false) (hV : V.2.2.2.1 = s.heap.size) (hX : zm_X p room_1 s m #[Value.ref zb] meth c RL nm cL_law 8 zk_E V 601024 7293034) (hr : meth.sig.returnType = ret) (hR : d ≤ room_1.frames ∧ 64 * d ≤ room_1.locals) (hd : 46 ≤ d) {N : Nat} {k : Nat → Nat → Nat → Nat → Int32 → Nat → Nat → zm_S → Option ((Int32 × zm_S) ⊕ ((Unit) × zm_S))} {rc rs : Nat} {a0 : Nat} {a1 : Nat} {a2 : Nat} {a3 : Nat} {i4 : Int32} {t0 : Nat} {t1 : Int32} {t2 : Int32} {t3 : Int32} {res : (Int32 × zm_S) ⊕ ((Unit) × zm_S)} {out : (Int32 × zm_S)}   (hf : ∀ o, res = .inl o → o = out) (hk : ∀ (S' : zm_S) (rc rs : Nat), res = .inr ((), S') → zw p l e room_1 s m #[Value.ref zb] below meth c (lw_Z below #[Value.ref zb] s) 8 zk_E V 601024 7293034 6008 [] [] S' rc rs) (hrec : ∀ (i4' : Int32) (rc rs : Nat) (S : zm_S), k a0 a1 a2 a3 i4' rc rs S = some res → zw p l e room_1 s m #[Value.ref zb] below meth c (lw_Z below #[Value.ref zb] s) 8 zk_E V 601024 7293034 23 [(0, .ref a0), (1, .ref a1), (2, .ref a2), (3, .ref a3), (4, .int i4')] [] S rc rs) {S : zm_S} (h : zf_L_law_J4713 N k a0 a1 a2 a3 i4 t0 t1 t2 t3 rc rs S = some res) : zw p l e room_1 s m #[Value.ref zb] below meth c (lw_Z below #[Value.ref zb] s) 8 zk_E V 601024 7293034 4713 [(0, .ref a0), (1, .ref a1), (2, .ref a2), (3, .ref a3), (4, .int i4)] [.int t3, .int t2, .int t1, .ref t0] S rc rs := by
  unfold zf_L_law_J4713 at h
  refine zw_aload_n hX dL_law_4713 rfl ?_
  by_cases hb4714 : 2 ≤ rc ∧ 12 ≤ rs
  · rw [if_pos hb4714] at h
    obtain ⟨r757, g, h⟩ := zb_some h
    refine zc_S (as := [.ref t0, .int t1, .int t2, .int t3, .ref a3]) hX (zt_L_listen hlt (d := d - 1) (by omega) g) zl_L_479 dL_law_4714 ⟨rfl, rfl, Nat.le_of_ble_eq_true rfl⟩ ⟨by omega, by omega⟩ hb4714 ?_ ?_
    · rintro _ _ ⟨rfl, rfl⟩
      refine zw_istore hX dL_law_4717 (by decide) ?_
      refine zw_aload_n hX dL_law_4719 rfl ?_
      refine zw_aload_n hX dL_law_4720 rfl ?_
      refine zw_iload hX dL_law_4721 rfl ?_
      refine zw_iconst (v := (1 : Int32)) hX dL_law_4723 (by decide) ?_
      refine zw_iadd hX dL_law_4724 ?_
      obtain ⟨v758, g, h⟩ := zb_some h
      refine zw_xi hX dL_law_4725 g ?_
      refine zw_aload_n hX dL_law_4726 rfl ?_
      refine zw_iload hX dL_law_4727 rfl ?_
      refine zw_iconst (v := (2 : Int32)) hX dL_law_4729 (by decide) ?_
      refine zw_iadd hX dL_law_4730 ?_
      obtain ⟨v759, g, h⟩ := zb_some h
      refine zw_xi hX dL_law_4731 g ?_
      refine zw_aload_n hX dL_law_4732 rfl ?_
      refine zw_iload hX dL_law_4733 rfl ?_
      refine zw_iconst (v := (3 : Int32)) hX dL_law_4735 (by decide) ?_
      refine zw_iadd hX dL_law_4736 ?_
      obtain ⟨v760, g, h⟩ := zb_some h
      refine zw_xi hX dL_law_4737 g ?_
      refine zw_if_eq (tgt := 4745) hX dL_law_4738 (by decide) (fun c4738 => ?_) (fun c4738 => ?_)
      · rw [if_pos c4738] at h
        refine zw_iconst (v := (0 : Int32)) hX dL_law_4745 (by decide) ?_
        refine zw_sub (lv' := [(0, .ref a0), (1, .ref a1), (2, .ref a2), (3, .ref a3), (4, .int i4), (5, .int r757.1)]) (List.forall_mem_cons.mpr ⟨rfl, (List.forall_mem_cons.mpr ⟨rfl, (List.forall_mem_cons.mpr ⟨rfl, (List.forall_mem_cons.mpr ⟨rfl, (List.forall_mem_cons.mpr ⟨rfl, (List.forall_mem_cons.mpr ⟨rfl, zs_nil⟩)⟩)⟩)⟩)⟩)⟩) ?_
        exact zt_L_law_J4746 hlt hV hX hr hR hd hf hk hrec h
      · rw [if_neg c4738] at h
        refine zw_iconst (v := (1 : Int32)) hX dL_law_4741 (by decide) ?_
        refine zw_goto (tgt := 4746) hX dL_law_4742 (by decide) ?_
        refine zw_sub (lv' := [(0, .ref a0), (1, .ref a1), (2, .ref a2), (3, .ref a3), (4, .int i4), (5, .int r757.1)]) (List.forall_mem_cons.mpr ⟨rfl, (List.forall_mem_cons.mpr ⟨rfl, (List.forall_mem_cons.mpr ⟨rfl, (List.forall_mem_cons.mpr ⟨rfl, (List.forall_mem_cons.mpr ⟨rfl, (List.forall_mem_cons.mpr ⟨rfl, zs_nil⟩)⟩)⟩)⟩)⟩)⟩) ?_
        exact zt_L_law_J4746 hlt hV hX hr hR hd hf hk hrec h
    · intro _ _ hx
      exact hx.elim
  · rw [if_neg hb4714] at h
    cases h
def zf_L_law_J4686 (N : Nat) (k : Nat → Nat → Nat → Nat → Int32 → Nat → Nat → zm_S → Option ((Int32 × zm_S) ⊕ ((Unit) × zm_S))) (a0 : Nat) (a1 : Nat) (a2 : Nat) (a3 : Nat) (i4 : Int32) (rc rs : Nat) (S : zm_S) : Option ((Int32 × zm_S) ⊕ ((Unit) × zm_S)) := (za_x S 0 a0 (i4 + (1 : Int32))).bind (fun v752 => (za_x S 0 a0 (i4 + (2 : Int32))).bind (fun v753 => (za_x S 0 a0 (i4 + (3 : Int32))).bind (fun v754 => if v754 = 0 then zf_L_law_J4713 N (k) a0 a1 a2 a3 i4 a1 v752 v753 (0 : Int32) rc rs S else zf_L_law_J4713 N (k) a0 a1 a2 a3 i4 a1 v752 v753 (1 : Int32) rc rs S)))
set_option maxHeartbeats 4000000 in
set_option maxRecDepth 100000 in
theorem zt_L_law_J4686 {p : Program} {l : Launch} {e : Env} {s : State} {m : MethodId} {zb : Nat} {below : List Frame} {meth : Method} {c : Code} {V : zm_V} {d : Nat} {nm : String} (hlt : l.stackTraces = false) (hV : V.2.2.2.1 = s.heap.size) (hX : zm_X p room_1 s m #[Value.ref zb] meth c RL nm cL_law 8 zk_E V 601024 7293034) (hr : meth.sig.returnType = ret) (hR : d ≤ room_1.frames ∧ 64 * d ≤ room_1.locals) (hd : 46 ≤ d) {N : Nat} {k : Nat → Nat → Nat → Nat → Int32 → Nat → Nat → zm_S → Option ((Int32 × zm_S) ⊕ ((Unit) × zm_S))} {rc rs : Nat} {a0 : Nat} {a1 : Nat} {a2 : Nat} {a3 : Nat} {i4 : Int32} {res : (Int32 × zm_S) ⊕ ((Unit) × zm_S)} {out : (Int32 × zm_S)}   (hf : ∀ o, res = .inl o → o = out) (hk : ∀ (S' : zm_S) (rc rs : Nat), res = .inr ((), S') → zw p l e room_1 s m #[Value.ref zb] below meth c (lw_Z below #[Value.ref zb] s) 8 zk_E V 601024 7293034 6008 [] [] S' rc rs) (hrec : ∀ (i4' : Int32) (rc rs : Nat) (S : zm_S), k a0 a1 a2 a3 i4' rc rs S = some res → zw p l e room_1 s m #[Value.ref zb] below meth c (lw_Z below #[Value.ref zb] s) 8 zk_E V 601024 7293034 23 [(0, .ref a0), (1, .ref a1), (2, .ref a2), (3, .ref a3), (4, .int i4')] [] S rc rs) {S : zm_S} (h : zf_L_law_J4686 N k a0 a1 a2 a3 i4 rc rs S = some res) : zw p l e room_1 s m #[Value.ref zb] below meth c (lw_Z below #[Value.ref zb] s) 8 zk_E V 601024 7293034 4686 [(0, .ref a0), (1, .ref a1), (2, .ref a2), (3, .ref a3), (4, .int i4)] [] S rc rs := by
  unfold zf_L_law_J4686 at h
  refine zw_aload_n hX dL_law_4686 rfl ?_
  refine zw_aload_n hX dL_law_4687 rfl ?_
  refine zw_iload hX dL_law_4688 rfl ?_
  refine zw_iconst (v := (1 : Int32)) hX dL_law_4690 (by decide) ?_
  refine zw_iadd hX dL_law_4691 ?_
  obtain ⟨v752, g, h⟩ := zb_some h
  refine zw_xi hX dL_law_4692 g ?_
  refine zw_aload_n hX dL_law_4693 rfl ?_
  refine zw_iload hX dL_law_4694 rfl ?_
  refine zw_iconst (v := (2 : Int32)) hX dL_law_4696 (by decide) ?_
  refine zw_iadd hX dL_law_4697 ?_
  obtain ⟨v753, g, h⟩ := zb_some h
  refine zw_xi hX dL_law_4698 g ?_
  refine zw_aload_n hX dL_law_4699 rfl ?_
  refine zw_iload hX dL_law_4700 rfl ?_
  refine zw_iconst (v := (3 : Int32)) hX dL_law_4702 (by decide) ?_
  refine zw_iadd hX dL_law_4703 ?_
  obtain ⟨v754, g, h⟩ := zb_some h
  refine zw_xi hX dL_law_4704 g ?_
  refine zw_if_eq (tgt := 4712) hX dL_law_4705 (by decide) (fun c4705 => ?_) (fun c4705 => ?_)
  · rw [if_pos c4705] at h
    refine zw_iconst (v := (0 : Int32)) hX dL_law_4712 (by decide) ?_
    refine zw_sub (lv' := [(0, .ref a0), (1, .ref a1), (2, .ref a2), (3, .ref a3), (4, .int i4)]) (List.forall_mem_cons.mpr ⟨rfl, (List.forall_mem_cons.mpr ⟨rfl, (List.forall_mem_cons.mpr ⟨rfl, (List.forall_mem_cons.mpr ⟨rfl, (List.forall_mem_cons.mpr ⟨rfl, zs_nil⟩)⟩)⟩)⟩)⟩) ?_
    exact zt_L_law_J4713 hlt hV hX hr hR hd hf hk hrec h
  · rw [if_neg c4705] at h
    refine zw_iconst (v := (1 : Int32)) hX dL_law_4708 (by decide) ?_
    refine zw_goto (tgt := 4713) hX dL_law_4709 (by decide) ?_
    refine zw_sub (lv' := [(0, .ref a0), (1, .ref a1), (2, .ref a2), (3, .ref a3), (4, .int i4)]) (List.forall_mem_cons.mpr ⟨rfl, (List.forall_mem_cons.mpr ⟨rfl, (List.forall_mem_cons.mpr ⟨rfl, (List.forall_mem_cons.mpr ⟨rfl, (List.forall_mem_cons.mpr ⟨rfl, zs_nil⟩)⟩)⟩)⟩)⟩) ?_
    exact zt_L_law_J4713 hlt hV hX hr hR hd hf hk hrec h
def zf_L_law_J4871 (N : Nat) (k : Nat → Nat → Nat → Nat → Int32 → Nat → Nat → zm_S → Option ((Int32 × zm_S) ⊕ ((Unit) × zm_S))) (a0 : Nat) (a1 : Nat) (a2 : Nat) (a3 : Nat) (i4 : Int32) (t0 : Int64) (t1 : Int64) (rc rs : Nat) (S : zm_S) : Option ((Int32 × zm_S) ⊕ ((Unit) × zm_S)) := if (lg_cmp t0 t1) = 0 then k a0 a1 a2 a3 (i4 + (7 : Int32)) rc rs S else none
set_option maxHeartbeats 4000000 in
set_option maxRecDepth 100000 in
theorem zt_L_law_J4871 {p : Program} {l : Launch} {e : Env} {s : State} {m : MethodId} {zb : Nat} {below : List Frame} {meth : Method} {c : Code} {V : zm_V} {d : Nat} {nm : String} (hlt : l.stackTraces = false) (hV : V.2.2.2.1 = s.heap.size) (hX : zm_X p room_1 s m #[Value.ref zb] meth c RL nm cL_law 8 zk_E V 601024 7293034) (hr : meth.sig.returnType = ret) (hR : d ≤ room_1.frames ∧ 64 * d ≤ room_1.locals) (hd : 46 ≤ d) {N : Nat} {k : Nat → Nat → Nat → Nat → Int32 → Nat → Nat → zm_S → Option ((Int32 × zm_S) ⊕ ((Unit) × zm_S))} {rc rs : Nat} {a0 : Nat} {a1 : Nat} {a2 : Nat} {a3 : Nat} {i4 : Int32} {t0 : Int64} {t1 : Int64} {res : (Int32 × zm_S) ⊕ ((Unit) × zm_S)} {out : (Int32 × zm_S)}   (hf : ∀ o, res = .inl o → o = out) (hk : ∀ (S' : zm_S) (rc rs : Nat), res = .inr ((), S') → zw p l e room_1 s m #[Value.ref zb] below meth c (lw_Z below #[Value.ref zb] s) 8 zk_E V 601024 7293034 6008 [] [] S' rc rs) (hrec : ∀ (i4' : Int32) (rc rs : Nat) (S : zm_S), k a0 a1 a2 a3 i4' rc rs S = some res → zw p l e room_1 s m #[Value.ref zb] below meth c (lw_Z below #[Value.ref zb] s) 8 zk_E V 601024 7293034 23 [(0, .ref a0), (1, .ref a1), (2, .ref a2), (3, .ref a3), (4, .int i4')] [] S rc rs) {S : zm_S} (h : zf_L_law_J4871 N k a0 a1 a2 a3 i4 t0 t1 rc rs S = some res) : zw p l e room_1 s m #[Value.ref zb] below meth c (lw_Z below #[Value.ref zb] s) 8 zk_E V 601024 7293034 4871 [(0, .ref a0), (1, .ref a1), (2, .ref a2), (3, .ref a3), (4, .int i4)] [.long t1, .long t0] S rc rs := by
  unfold zf_L_law_J4871 at h
  refine zw_lcmp hX dL_law_4871 ?_
  refine zw_if_eq (tgt := 4877) hX dL_law_4872 (by decide) (fun c4872 => ?_) (fun c4872 => ?_)
  · rw [if_pos c4872] at h
    refine zw_goto (tgt := 6002) hX dL_law_4877 (by decide) ?_
    refine zw_iinc (v := (i4 + (7 : Int32))) hX dL_law_6002 rfl rfl (by decide) ?_
    refine zw_goto (tgt := 23) hX dL_law_6005 (by decide) ?_
    refine zw_sub (lv' := [(0, .ref a0), (1, .ref a1), (2, .ref a2), (3, .ref a3), (4, .int (i4 + (7 : Int32)))]) (List.forall_mem_cons.mpr ⟨rfl, (List.forall_mem_cons.mpr ⟨rfl, (List.forall_mem_cons.mpr ⟨rfl, (List.forall_mem_cons.mpr ⟨rfl, (List.forall_mem_cons.mpr ⟨rfl, zs_nil⟩)⟩)⟩)⟩)⟩) ?_
    exact hrec _ _ _ _ h
  · rw [if_neg c4872] at h
    refine zw_iconst (v := (0 : Int32)) hX dL_law_4875 (by decide) ?_
    cases h
def zf_L_law_J4837 (N : Nat) (k : Nat → Nat → Nat → Nat → Int32 → Nat → Nat → zm_S → Option ((Int32 × zm_S) ⊕ ((Unit) × zm_S))) (a0 : Nat) (a1 : Nat) (a2 : Nat) (a3 : Nat) (i4 : Int32) (i5 : Int32) (t0 : Nat) (t1 : Int32) (t2 : Int32) (rc rs : Nat) (S : zm_S) : Option ((Int32 × zm_S) ⊕ ((Unit) × zm_S)) := (zi S t0 18).bind (fun _ => (zf_X18_busy N t0 t1 t2 S).bind (fun r774 => (zi r774.2 a2 18).bind (fun _ => (zf_X18_thrown N a2 r774.2).bind (fun r776 => if r776.1 = i5 then if i5 = 0 then (za_l r776.2 a3 (0 : Int32)).bind (fun w777 => if r774.1 = 0 then zf_L_law_J4871 N (k) a0 a1 a2 a3 i4 w777 (0 : Int64) rc rs r776.2 else zf_L_law_J4871 N (k) a0 a1 a2 a3 i4 w777 (1 : Int64) rc rs r776.2) else k a0 a1 a2 a3 (i4 + (7 : Int32)) rc rs r776.2 else none))))
set_option maxHeartbeats 4000000 in
set_option maxRecDepth 100000 in
theorem zt_L_law_J4837 {p : Program} {l : Launch} {e : Env} {s : State} {m : MethodId} {zb : Nat} {below : List Frame} {meth : Method} {c : Code} {V : zm_V} {d : Nat} {nm : String} (hlt : l.stackTraces = false) (hV : V.2.2.2.1 = s.heap.size) (hX : zm_X p room_1 s m #[Value.ref zb] meth c RL nm cL_law 8 zk_E V 601024 7293034) (hr : meth.sig.returnType = ret) (hR : d ≤ room_1.frames ∧ 64 * d ≤ room_1.locals) (hd : 46 ≤ d) {N : Nat} {k : Nat → Nat → Nat → Nat → Int32 → Nat → Nat → zm_S → Option ((Int32 × zm_S) ⊕ ((Unit) × zm_S))} {rc rs : Nat} {a0 : Nat} {a1 : Nat} {a2 : Nat} {a3 : Nat} {i4 : Int32} {i5 : Int32} {t0 : Nat} {t1 : Int32} {t2 : Int32} {res : (Int32 × zm_S) ⊕ ((Unit) × zm_S)} {out : (Int32 × zm_S)}   (hf : ∀ o, res = .inl o → o = out) (hk : ∀ (S' : zm_S) (rc rs : Nat), res = .inr ((), S') → zw p l e room_1 s m #[Value.ref zb] below meth c (lw_Z below #[Value.ref zb] s) 8 zk_E V 601024 7293034 6008 [] [] S' rc rs) (hrec : ∀ (i4' : Int32) (rc rs : Nat) (S : zm_S), k a0 a1 a2 a3 i4' rc rs S = some res → zw p l e room_1 s m #[Value.ref zb] below meth c (lw_Z below #[Value.ref zb] s) 8 zk_E V 601024 7293034 23 [(0, .ref a0), (1, .ref a1), (2, .ref a2), (3, .ref a3), (4, .int i4')] [] S rc rs) {S : zm_S} (h : zf_L_law_J4837 N k a0 a1 a2 a3 i4 i5 t0 t1 t2 rc rs S = some res) : zw p l e room_1 s m #[Value.ref zb] below meth c (lw_Z below #[Value.ref zb] s) 8 zk_E V 601024 7293034 4837 [(0, .ref a0), (1, .ref a1), (2, .ref a2), (3, .ref a3), (4, .int i4), (5, .int i5)] [.int t2, .int t1, .ref t0] S rc rs := by
  unfold zf_L_law_J4837 at h
  obtain ⟨_, gi, h⟩ := zb_some h
  obtain ⟨r774, g, h⟩ := zb_some h
  refine zc_Vi (as := [.int t1, .int t2]) hX gi (zt_X18_busy (d := d - 1) (by omega) g) zl_L_484 rfl dL_law_4837 ⟨rfl, rfl, Nat.le_of_ble_eq_true rfl⟩ ⟨by omega, by omega⟩ ?_
  refine zw_istore hX dL_law_4840 (by decide) ?_
  refine zw_aload_n hX dL_law_4842 rfl ?_
  obtain ⟨_, gi, h⟩ := zb_some h
  obtain ⟨r776, g, h⟩ := zb_some h
  refine zc_Vi (as := []) hX gi (zt_X18_thrown (d := d - 1) (by omega) g) zl_L_281 rfl dL_law_4843 ⟨rfl, rfl, Nat.le_of_ble_eq_true rfl⟩ ⟨by omega, by omega⟩ ?_
  refine zw_iload hX dL_law_4846 rfl ?_
  refine zw_icmp_eq (tgt := 4853) hX dL_law_4848 (by decide) (fun c4848 => ?_) (fun c4848 => ?_)
  · rw [if_pos c4848] at h
    refine zw_iload hX dL_law_4853 rfl ?_
    refine zw_if_ne (tgt := 4877) hX dL_law_4855 (by decide) (fun c4855 => ?_) (fun c4855 => ?_)
    · rw [if_neg c4855] at h
      refine zw_goto (tgt := 6002) hX dL_law_4877 (by decide) ?_
      refine zw_iinc (v := (i4 + (7 : Int32))) hX dL_law_6002 rfl rfl (by decide) ?_
      refine zw_goto (tgt := 23) hX dL_law_6005 (by decide) ?_
      refine zw_sub (lv' := [(0, .ref a0), (1, .ref a1), (2, .ref a2), (3, .ref a3), (4, .int (i4 + (7 : Int32)))]) (List.forall_mem_cons.mpr ⟨rfl, (List.forall_mem_cons.mpr ⟨rfl, (List.forall_mem_cons.mpr ⟨rfl, (List.forall_mem_cons.mpr ⟨rfl, (List.forall_mem_cons.mpr ⟨rfl, zs_nil⟩)⟩)⟩)⟩)⟩) ?_
      exact hrec _ _ _ _ h
    · rw [if_pos c4855] at h
      refine zw_aload_n hX dL_law_4858 rfl ?_
      refine zw_iconst (v := (0 : Int32)) hX dL_law_4859 (by decide) ?_
      obtain ⟨w777, g, h⟩ := zb_some h
      refine zw_xl hX dL_law_4860 g ?_
      refine zw_iload hX dL_law_4861 rfl ?_
      refine zw_if_eq (tgt := 4870) hX dL_law_4863 (by decide) (fun c4863 => ?_) (fun c4863 => ?_)
      · rw [if_pos c4863] at h
        refine zw_lconst (v := (0 : Int64)) hX dL_law_4870 (by decide) ?_
        refine zw_sub (lv' := [(0, .ref a0), (1, .ref a1), (2, .ref a2), (3, .ref a3), (4, .int i4)]) (List.forall_mem_cons.mpr ⟨rfl, (List.forall_mem_cons.mpr ⟨rfl, (List.forall_mem_cons.mpr ⟨rfl, (List.forall_mem_cons.mpr ⟨rfl, (List.forall_mem_cons.mpr ⟨rfl, zs_nil⟩)⟩)⟩)⟩)⟩) ?_
        exact zt_L_law_J4871 hlt hV hX hr hR hd hf hk hrec h
      · rw [if_neg c4863] at h
        refine zw_lconst (v := (1 : Int64)) hX dL_law_4866 (by decide) ?_
        refine zw_goto (tgt := 4871) hX dL_law_4867 (by decide) ?_
        refine zw_sub (lv' := [(0, .ref a0), (1, .ref a1), (2, .ref a2), (3, .ref a3), (4, .int i4)]) (List.forall_mem_cons.mpr ⟨rfl, (List.forall_mem_cons.mpr ⟨rfl, (List.forall_mem_cons.mpr ⟨rfl, (List.forall_mem_cons.mpr ⟨rfl, (List.forall_mem_cons.mpr ⟨rfl, zs_nil⟩)⟩)⟩)⟩)⟩) ?_
        exact zt_L_law_J4871 hlt hV hX hr hR hd hf hk hrec h
  · rw [if_neg c4848] at h
    refine zw_iconst (v := (0 : Int32)) hX dL_law_4851 (by decide) ?_
    cases h
def zf_L_law_J4810 (N : Nat) (k : Nat → Nat → Nat → Nat → Int32 → Nat → Nat → zm_S → Option ((Int32 × zm_S) ⊕ ((Unit) × zm_S))) (a0 : Nat) (a1 : Nat) (a2 : Nat) (a3 : Nat) (i4 : Int32) (t0 : Nat) (t1 : Int32) (t2 : Int32) (rc rs : Nat) (S : zm_S) : Option ((Int32 × zm_S) ⊕ ((Unit) × zm_S)) := if 2 ≤ rc ∧ 12 ≤ rs then (zf_L_busy N t0 t1 t2 a3 S).bind (fun r770 => (za_x r770.2 0 a0 (i4 + (1 : Int32))).bind (fun v771 => (za_x r770.2 0 a0 (i4 + (2 : Int32))).bind (fun v772 => if v772 = 0 then zf_L_law_J4837 N (k) a0 a1 a2 a3 i4 r770.1 a2 v771 (0 : Int32) (rc - 2) (rs - 12) r770.2 else zf_L_law_J4837 N (k) a0 a1 a2 a3 i4 r770.1 a2 v771 (1 : Int32) (rc - 2) (rs - 12) r770.2))) else none
set_option maxHeartbeats 4000000 in
set_option maxRecDepth 100000 in
theorem zt_L_law_J4810 {p : Program} {l : Launch} {e : Env} {s : State} {m : MethodId} {zb : Nat} {below : List Frame} {meth : Method} {c : Code} {V : zm_V} {d : Nat} {nm : String} (hlt : l.stackTraces = false) (hV : V.2.2.2.1 = s.heap.size) (hX : zm_X p room_1 s m #[Value.ref zb] meth c RL nm cL_law 8 zk_E V 601024 7293034) (hr : meth.sig.returnType = ret) (hR : d ≤ room_1.frames ∧ 64 * d ≤ room_1.locals) (hd : 46 ≤ d) {N : Nat} {k : Nat → Nat → Nat → Nat → Int32 → Nat → Nat → zm_S → Option ((Int32 × zm_S) ⊕ ((Unit) × zm_S))} {rc rs : Nat} {a0 : Nat} {a1 : Nat} {a2 : Nat} {a3 : Nat} {i4 : Int32} {t0 : Nat} {t1 : Int32} {t2 : Int32} {res : (Int32 × zm_S) ⊕ ((Unit) × zm_S)} {out : (Int32 × zm_S)}   (hf : ∀ o, res = .inl o → o = out) (hk : ∀ (S' : zm_S) (rc rs : Nat), res = .inr ((), S') → zw p l e room_1 s m #[Value.ref zb] below meth c (lw_Z below #[Value.ref zb] s) 8 zk_E V 601024 7293034 6008 [] [] S' rc rs) (hrec : ∀ (i4' : Int32) (rc rs : Nat) (S : zm_S), k a0 a1 a2 a3 i4' rc rs S = some res → zw p l e room_1 s m #[Value.ref zb] below meth c (lw_Z below #[Value.ref zb] s) 8 zk_E V 601024 7293034 23 [(0, .ref a0), (1, .ref a1), (2, .ref a2), (3, .ref a3), (4, .int i4')] [] S rc rs) {S : zm_S} (h : zf_L_law_J4810 N k a0 a1 a2 a3 i4 t0 t1 t2 rc rs S = some res) : zw p l e room_1 s m #[Value.ref zb] below meth c (lw_Z below #[Value.ref zb] s) 8 zk_E V 601024 7293034 4810 [(0, .ref a0), (1, .ref a1), (2, .ref a2), (3, .ref a3), (4, .int i4)] [.int t2, .int t1, .ref t0] S rc rs := by
  unfold zf_L_law_J4810 at h
  refine zw_aload_n hX dL_law_4810 rfl ?_
  by_cases hb4811 : 2 ≤ rc ∧ 12 ≤ rs
  · rw [if_pos hb4811] at h
    obtain ⟨r770, g, h⟩ := zb_some h
    refine zc_S (as := [.ref t0, .int t1, .int t2, .ref a3]) hX (zt_L_busy hlt (d := d - 1) (by omega) g) zl_L_482 dL_law_4811 ⟨rfl, rfl, Nat.le_of_ble_eq_true rfl⟩ ⟨by omega, by omega⟩ hb4811 ?_ ?_
    · rintro _ _ ⟨rfl, rfl⟩
      refine zw_istore hX dL_law_4814 (by decide) ?_
      refine zw_aload_n hX dL_law_4816 rfl ?_
      refine zw_aload_n hX dL_law_4817 rfl ?_
      refine zw_iload hX dL_law_4818 rfl ?_
      refine zw_iconst (v := (1 : Int32)) hX dL_law_4820 (by decide) ?_
      refine zw_iadd hX dL_law_4821 ?_
      obtain ⟨v771, g, h⟩ := zb_some h
      refine zw_xi hX dL_law_4822 g ?_
      refine zw_aload_n hX dL_law_4823 rfl ?_
      refine zw_iload hX dL_law_4824 rfl ?_
      refine zw_iconst (v := (2 : Int32)) hX dL_law_4826 (by decide) ?_
      refine zw_iadd hX dL_law_4827 ?_
      obtain ⟨v772, g, h⟩ := zb_some h
      refine zw_xi hX dL_law_4828 g ?_
      refine zw_if_eq (tgt := 4836) hX dL_law_4829 (by decide) (fun c4829 => ?_) (fun c4829 => ?_)
      · rw [if_pos c4829] at h
        refine zw_iconst (v := (0 : Int32)) hX dL_law_4836 (by decide) ?_
        refine zw_sub (lv' := [(0, .ref a0), (1, .ref a1), (2, .ref a2), (3, .ref a3), (4, .int i4), (5, .int r770.1)]) (List.forall_mem_cons.mpr ⟨rfl, (List.forall_mem_cons.mpr ⟨rfl, (List.forall_mem_cons.mpr ⟨rfl, (List.forall_mem_cons.mpr ⟨rfl, (List.forall_mem_cons.mpr ⟨rfl, (List.forall_mem_cons.mpr ⟨rfl, zs_nil⟩)⟩)⟩)⟩)⟩)⟩) ?_
        exact zt_L_law_J4837 hlt hV hX hr hR hd hf hk hrec h
      · rw [if_neg c4829] at h
        refine zw_iconst (v := (1 : Int32)) hX dL_law_4832 (by decide) ?_
        refine zw_goto (tgt := 4837) hX dL_law_4833 (by decide) ?_
        refine zw_sub (lv' := [(0, .ref a0), (1, .ref a1), (2, .ref a2), (3, .ref a3), (4, .int i4), (5, .int r770.1)]) (List.forall_mem_cons.mpr ⟨rfl, (List.forall_mem_cons.mpr ⟨rfl, (List.forall_mem_cons.mpr ⟨rfl, (List.forall_mem_cons.mpr ⟨rfl, (List.forall_mem_cons.mpr ⟨rfl, (List.forall_mem_cons.mpr ⟨rfl, zs_nil⟩)⟩)⟩)⟩)⟩)⟩) ?_
        exact zt_L_law_J4837 hlt hV hX hr hR hd hf hk hrec h
    · intro _ _ hx
      exact hx.elim
  · rw [if_neg hb4811] at h
    cases h
def zf_L_law_J4789 (N : Nat) (k : Nat → Nat → Nat → Nat → Int32 → Nat → Nat → zm_S → Option ((Int32 × zm_S) ⊕ ((Unit) × zm_S))) (a0 : Nat) (a1 : Nat) (a2 : Nat) (a3 : Nat) (i4 : Int32) (rc rs : Nat) (S : zm_S) : Option ((Int32 × zm_S) ⊕ ((Unit) × zm_S)) := (za_x S 0 a0 (i4 + (1 : Int32))).bind (fun v766 => (za_x S 0 a0 (i4 + (2 : Int32))).bind (fun v767 => if v767 = 0 then zf_L_law_J4810 N (k) a0 a1 a2 a3 i4 a1 v766 (0 : Int32) rc rs S else zf_L_law_J4810 N (k) a0 a1 a2 a3 i4 a1 v766 (1 : Int32) rc rs S))
set_option maxHeartbeats 4000000 in
set_option maxRecDepth 100000 in
theorem zt_L_law_J4789 {p : Program} {l : Launch} {e : Env} {s : State} {m : MethodId} {zb : Nat} {below : List Frame} {meth : Method} {c : Code} {V : zm_V} {d : Nat} {nm : String} (hlt : l.stackTraces = false) (hV : V.2.2.2.1 = s.heap.size) (hX : zm_X p room_1 s m #[Value.ref zb] meth c RL nm cL_law 8 zk_E V 601024 7293034) (hr : meth.sig.returnType = ret) (hR : d ≤ room_1.frames ∧ 64 * d ≤ room_1.locals) (hd : 46 ≤ d) {N : Nat} {k : Nat → Nat → Nat → Nat → Int32 → Nat → Nat → zm_S → Option ((Int32 × zm_S) ⊕ ((Unit) × zm_S))} {rc rs : Nat} {a0 : Nat} {a1 : Nat} {a2 : Nat} {a3 : Nat} {i4 : Int32} {res : (Int32 × zm_S) ⊕ ((Unit) × zm_S)} {out : (Int32 × zm_S)}   (hf : ∀ o, res = .inl o → o = out) (hk : ∀ (S' : zm_S) (rc rs : Nat), res = .inr ((), S') → zw p l e room_1 s m #[Value.ref zb] below meth c (lw_Z below #[Value.ref zb] s) 8 zk_E V 601024 7293034 6008 [] [] S' rc rs) (hrec : ∀ (i4' : Int32) (rc rs : Nat) (S : zm_S), k a0 a1 a2 a3 i4' rc rs S = some res → zw p l e room_1 s m #[Value.ref zb] below meth c (lw_Z below #[Value.ref zb] s) 8 zk_E V 601024 7293034 23 [(0, .ref a0), (1, .ref a1), (2, .ref a2), (3, .ref a3), (4, .int i4')] [] S rc rs) {S : zm_S} (h : zf_L_law_J4789 N k a0 a1 a2 a3 i4 rc rs S = some res) : zw p l e room_1 s m #[Value.ref zb] below meth c (lw_Z below #[Value.ref zb] s) 8 zk_E V 601024 7293034 4789 [(0, .ref a0), (1, .ref a1), (2, .ref a2), (3, .ref a3), (4, .int i4)] [] S rc rs := by
  unfold zf_L_law_J4789 at h
  refine zw_aload_n hX dL_law_4789 rfl ?_
  refine zw_aload_n hX dL_law_4790 rfl ?_
  refine zw_iload hX dL_law_4791 rfl ?_
  refine zw_iconst (v := (1 : Int32)) hX dL_law_4793 (by decide) ?_
  refine zw_iadd hX dL_law_4794 ?_
  obtain ⟨v766, g, h⟩ := zb_some h
  refine zw_xi hX dL_law_4795 g ?_
  refine zw_aload_n hX dL_law_4796 rfl ?_
  refine zw_iload hX dL_law_4797 rfl ?_
  refine zw_iconst (v := (2 : Int32)) hX dL_law_4799 (by decide) ?_
  refine zw_iadd hX dL_law_4800 ?_
  obtain ⟨v767, g, h⟩ := zb_some h
  refine zw_xi hX dL_law_4801 g ?_
  refine zw_if_eq (tgt := 4809) hX dL_law_4802 (by decide) (fun c4802 => ?_) (fun c4802 => ?_)
  · rw [if_pos c4802] at h
    refine zw_iconst (v := (0 : Int32)) hX dL_law_4809 (by decide) ?_
    refine zw_sub (lv' := [(0, .ref a0), (1, .ref a1), (2, .ref a2), (3, .ref a3), (4, .int i4)]) (List.forall_mem_cons.mpr ⟨rfl, (List.forall_mem_cons.mpr ⟨rfl, (List.forall_mem_cons.mpr ⟨rfl, (List.forall_mem_cons.mpr ⟨rfl, (List.forall_mem_cons.mpr ⟨rfl, zs_nil⟩)⟩)⟩)⟩)⟩) ?_
    exact zt_L_law_J4810 hlt hV hX hr hR hd hf hk hrec h
  · rw [if_neg c4802] at h
    refine zw_iconst (v := (1 : Int32)) hX dL_law_4805 (by decide) ?_
    refine zw_goto (tgt := 4810) hX dL_law_4806 (by decide) ?_
    refine zw_sub (lv' := [(0, .ref a0), (1, .ref a1), (2, .ref a2), (3, .ref a3), (4, .int i4)]) (List.forall_mem_cons.mpr ⟨rfl, (List.forall_mem_cons.mpr ⟨rfl, (List.forall_mem_cons.mpr ⟨rfl, (List.forall_mem_cons.mpr ⟨rfl, (List.forall_mem_cons.mpr ⟨rfl, zs_nil⟩)⟩)⟩)⟩)⟩) ?_
    exact zt_L_law_J4810 hlt hV hX hr hR hd hf hk hrec h
def zf_L_law_J4965 (N : Nat) (k : Nat → Nat → Nat → Nat → Int32 → Nat → Nat → zm_S → Option ((Int32 × zm_S) ⊕ ((Unit) × zm_S))) (a0 : Nat) (a1 : Nat) (a2 : Nat) (a3 : Nat) (i4 : Int32) (i5 : Int32) (t0 : Nat) (t1 : Int32) (t2 : Int32) (t3 : Int32) (t4 : Int32) (rc rs : Nat) (S : zm_S) : Option ((Int32 × zm_S) ⊕ ((Unit) × zm_S)) := (za_x S 0 a0 (i4 + (5 : Int32))).bind (fun v791 => (za_x S 0 a0 (i4 + (6 : Int32))).bind (fun v792 => (zi S t0 18).bind (fun _ => (zf_X18_send N t0 t1 t2 t3 t4 v791 v792 S).bind (fun r794 => (zi r794.2 a2 18).bind (fun _ => (zf_X18_thrown N a2 r794.2).bind (fun r796 => if r796.1 = i5 then if i5 = 0 then (za_l r796.2 a3 (0 : Int32)).bind (fun w797 => if (lg_cmp w797 ((r794.1).toInt64)) = 0 then k a0 a1 a2 a3 (i4 + (7 : Int32)) rc rs r796.2 else none) else k a0 a1 a2 a3 (i4 + (7 : Int32)) rc rs r796.2 else none))))))
set_option maxHeartbeats 4000000 in
set_option maxRecDepth 100000 in
theorem zt_L_law_J4965 {p : Program} {l : Launch} {e : Env} {s : State} {m : MethodId} {zb : Nat} {below : List Frame} {meth : Method} {c : Code} {V : zm_V} {d : Nat} {nm : String} (hlt : l.stackTraces = false) (hV : V.2.2.2.1 = s.heap.size) (hX : zm_X p room_1 s m #[Value.ref zb] meth c RL nm cL_law 8 zk_E V 601024 7293034) (hr : meth.sig.returnType = ret) (hR : d ≤ room_1.frames ∧ 64 * d ≤ room_1.locals) (hd : 46 ≤ d) {N : Nat} {k : Nat → Nat → Nat → Nat → Int32 → Nat → Nat → zm_S → Option ((Int32 × zm_S) ⊕ ((Unit) × zm_S))} {rc rs : Nat} {a0 : Nat} {a1 : Nat} {a2 : Nat} {a3 : Nat} {i4 : Int32} {i5 : Int32} {t0 : Nat} {t1 : Int32} {t2 : Int32} {t3 : Int32} {t4 : Int32} {res : (Int32 × zm_S) ⊕ ((Unit) × zm_S)} {out : (Int32 × zm_S)}   (hf : ∀ o, res = .inl o → o = out) (hk : ∀ (S' : zm_S) (rc rs : Nat), res = .inr ((), S') → zw p l e room_1 s m #[Value.ref zb] below meth c (lw_Z below #[Value.ref zb] s) 8 zk_E V 601024 7293034 6008 [] [] S' rc rs) (hrec : ∀ (i4' : Int32) (rc rs : Nat) (S : zm_S), k a0 a1 a2 a3 i4' rc rs S = some res → zw p l e room_1 s m #[Value.ref zb] below meth c (lw_Z below #[Value.ref zb] s) 8 zk_E V 601024 7293034 23 [(0, .ref a0), (1, .ref a1), (2, .ref a2), (3, .ref a3), (4, .int i4')] [] S rc rs) {S : zm_S} (h : zf_L_law_J4965 N k a0 a1 a2 a3 i4 i5 t0 t1 t2 t3 t4 rc rs S = some res) : zw p l e room_1 s m #[Value.ref zb] below meth c (lw_Z below #[Value.ref zb] s) 8 zk_E V 601024 7293034 4965 [(0, .ref a0), (1, .ref a1), (2, .ref a2), (3, .ref a3), (4, .int i4), (5, .int i5)] [.int t4, .int t3, .int t2, .int t1, .ref t0] S rc rs := by
  unfold zf_L_law_J4965 at h
  refine zw_aload_n hX dL_law_4965 rfl ?_
  refine zw_iload hX dL_law_4966 rfl ?_
  refine zw_iconst (v := (5 : Int32)) hX dL_law_4968 (by decide) ?_
  refine zw_iadd hX dL_law_4969 ?_
  obtain ⟨v791, g, h⟩ := zb_some h
  refine zw_xi hX dL_law_4970 g ?_
  refine zw_aload_n hX dL_law_4971 rfl ?_
  refine zw_iload hX dL_law_4972 rfl ?_
  refine zw_bipush (v := (6 : Int32)) hX dL_law_4974 (by decide) ?_
  refine zw_iadd hX dL_law_4976 ?_
  obtain ⟨v792, g, h⟩ := zb_some h
  refine zw_xi hX dL_law_4977 g ?_
  obtain ⟨_, gi, h⟩ := zb_some h
  obtain ⟨r794, g, h⟩ := zb_some h
  refine zc_Vi (as := [.int t1, .int t2, .int t3, .int t4, .int v791, .int v792]) hX gi (zt_X18_send (d := d - 1) (by omega) g) zl_L_488 rfl dL_law_4978 ⟨rfl, rfl, Nat.le_of_ble_eq_true rfl⟩ ⟨by omega, by omega⟩ ?_
  refine zw_istore hX dL_law_4981 (by decide) ?_
  refine zw_aload_n hX dL_law_4983 rfl ?_
  obtain ⟨_, gi, h⟩ := zb_some h
  obtain ⟨r796, g, h⟩ := zb_some h
  refine zc_Vi (as := []) hX gi (zt_X18_thrown (d := d - 1) (by omega) g) zl_L_281 rfl dL_law_4984 ⟨rfl, rfl, Nat.le_of_ble_eq_true rfl⟩ ⟨by omega, by omega⟩ ?_
  refine zw_iload hX dL_law_4987 rfl ?_
  refine zw_icmp_eq (tgt := 4994) hX dL_law_4989 (by decide) (fun c4989 => ?_) (fun c4989 => ?_)
  · rw [if_pos c4989] at h
    refine zw_iload hX dL_law_4994 rfl ?_
    refine zw_if_ne (tgt := 5011) hX dL_law_4996 (by decide) (fun c4996 => ?_) (fun c4996 => ?_)
    · rw [if_neg c4996] at h
      refine zw_goto (tgt := 6002) hX dL_law_5011 (by decide) ?_
      refine zw_iinc (v := (i4 + (7 : Int32))) hX dL_law_6002 rfl rfl (by decide) ?_
      refine zw_goto (tgt := 23) hX dL_law_6005 (by decide) ?_
      refine zw_sub (lv' := [(0, .ref a0), (1, .ref a1), (2, .ref a2), (3, .ref a3), (4, .int (i4 + (7 : Int32)))]) (List.forall_mem_cons.mpr ⟨rfl, (List.forall_mem_cons.mpr ⟨rfl, (List.forall_mem_cons.mpr ⟨rfl, (List.forall_mem_cons.mpr ⟨rfl, (List.forall_mem_cons.mpr ⟨rfl, zs_nil⟩)⟩)⟩)⟩)⟩) ?_
      exact hrec _ _ _ _ h
    · rw [if_pos c4996] at h
      refine zw_aload_n hX dL_law_4999 rfl ?_
      refine zw_iconst (v := (0 : Int32)) hX dL_law_5000 (by decide) ?_
      obtain ⟨w797, g, h⟩ := zb_some h
      refine zw_xl hX dL_law_5001 g ?_
      refine zw_iload hX dL_law_5002 rfl ?_
      refine zw_i2l hX dL_law_5004 ?_
      refine zw_lcmp hX dL_law_5005 ?_
      refine zw_if_eq (tgt := 5011) hX dL_law_5006 (by decide) (fun c5006 => ?_) (fun c5006 => ?_)
      · rw [if_pos c5006] at h
        refine zw_goto (tgt := 6002) hX dL_law_5011 (by decide) ?_
        refine zw_iinc (v := (i4 + (7 : Int32))) hX dL_law_6002 rfl rfl (by decide) ?_
        refine zw_goto (tgt := 23) hX dL_law_6005 (by decide) ?_
        refine zw_sub (lv' := [(0, .ref a0), (1, .ref a1), (2, .ref a2), (3, .ref a3), (4, .int (i4 + (7 : Int32)))]) (List.forall_mem_cons.mpr ⟨rfl, (List.forall_mem_cons.mpr ⟨rfl, (List.forall_mem_cons.mpr ⟨rfl, (List.forall_mem_cons.mpr ⟨rfl, (List.forall_mem_cons.mpr ⟨rfl, zs_nil⟩)⟩)⟩)⟩)⟩) ?_
        exact hrec _ _ _ _ h
      · rw [if_neg c5006] at h
        refine zw_iconst (v := (0 : Int32)) hX dL_law_5009 (by decide) ?_
        cases h
  · rw [if_neg c4989] at h
    refine zw_iconst (v := (0 : Int32)) hX dL_law_4992 (by decide) ?_
    cases h
def zf_L_law_J4913 (N : Nat) (k : Nat → Nat → Nat → Nat → Int32 → Nat → Nat → zm_S → Option ((Int32 × zm_S) ⊕ ((Unit) × zm_S))) (a0 : Nat) (a1 : Nat) (a2 : Nat) (a3 : Nat) (i4 : Int32) (t0 : Nat) (t1 : Int32) (t2 : Int32) (t3 : Int32) (t4 : Int32) (rc rs : Nat) (S : zm_S) : Option ((Int32 × zm_S) ⊕ ((Unit) × zm_S)) := (za_x S 0 a0 (i4 + (5 : Int32))).bind (fun v782 => (za_x S 0 a0 (i4 + (6 : Int32))).bind (fun v783 => if 3 ≤ rc ∧ 18 ≤ rs then (zf_L_send N t0 t1 t2 t3 t4 v782 v783 a3 S).bind (fun r786 => (za_x r786.2 0 a0 (i4 + (1 : Int32))).bind (fun v787 => (za_x r786.2 0 a0 (i4 + (2 : Int32))).bind (fun v788 => (za_x r786.2 0 a0 (i4 + (3 : Int32))).bind (fun v789 => (za_x r786.2 0 a0 (i4 + (4 : Int32))).bind (fun v790 => if v790 = 0 then zf_L_law_J4965 N (k) a0 a1 a2 a3 i4 r786.1 a2 v787 v788 v789 (0 : Int32) (rc - 3) (rs - 18) r786.2 else zf_L_law_J4965 N (k) a0 a1 a2 a3 i4 r786.1 a2 v787 v788 v789 (1 : Int32) (rc - 3) (rs - 18) r786.2))))) else none))
set_option maxHeartbeats 4000000 in
set_option maxRecDepth 100000 in
theorem zt_L_law_J4913 {p : Program} {l : Launch} {e : Env} {s : State} {m : MethodId} {zb : Nat} {below : List Frame} {meth : Method} {c : Code} {V : zm_V} {d : Nat} {nm : String} (hlt : l.stackTraces = false) (hV : V.2.2.2.1 = s.heap.size) (hX : zm_X p room_1 s m #[Value.ref zb] meth c RL nm cL_law 8 zk_E V 601024 7293034) (hr : meth.sig.returnType = ret) (hR : d ≤ room_1.frames ∧ 64 * d ≤ room_1.locals) (hd : 46 ≤ d) {N : Nat} {k : Nat → Nat → Nat → Nat → Int32 → Nat → Nat → zm_S → Option ((Int32 × zm_S) ⊕ ((Unit) × zm_S))} {rc rs : Nat} {a0 : Nat} {a1 : Nat} {a2 : Nat} {a3 : Nat} {i4 : Int32} {t0 : Nat} {t1 : Int32} {t2 : Int32} {t3 : Int32} {t4 : Int32} {res : (Int32 × zm_S) ⊕ ((Unit) × zm_S)} {out : (Int32 × zm_S)}   (hf : ∀ o, res = .inl o → o = out) (hk : ∀ (S' : zm_S) (rc rs : Nat), res = .inr ((), S') → zw p l e room_1 s m #[Value.ref zb] below meth c (lw_Z below #[Value.ref zb] s) 8 zk_E V 601024 7293034 6008 [] [] S' rc rs) (hrec : ∀ (i4' : Int32) (rc rs : Nat) (S : zm_S), k a0 a1 a2 a3 i4' rc rs S = some res → zw p l e room_1 s m #[Value.ref zb] below meth c (lw_Z below #[Value.ref zb] s) 8 zk_E V 601024 7293034 23 [(0, .ref a0), (1, .ref a1), (2, .ref a2), (3, .ref a3), (4, .int i4')] [] S rc rs) {S : zm_S} (h : zf_L_law_J4913 N k a0 a1 a2 a3 i4 t0 t1 t2 t3 t4 rc rs S = some res) : zw p l e room_1 s m #[Value.ref zb] below meth c (lw_Z below #[Value.ref zb] s) 8 zk_E V 601024 7293034 4913 [(0, .ref a0), (1, .ref a1), (2, .ref a2), (3, .ref a3), (4, .int i4)] [.int t4, .int t3, .int t2, .int t1, .ref t0] S rc rs := by
  unfold zf_L_law_J4913 at h
  refine zw_aload_n hX dL_law_4913 rfl ?_
  refine zw_iload hX dL_law_4914 rfl ?_
  refine zw_iconst (v := (5 : Int32)) hX dL_law_4916 (by decide) ?_
  refine zw_iadd hX dL_law_4917 ?_
  obtain ⟨v782, g, h⟩ := zb_some h
  refine zw_xi hX dL_law_4918 g ?_
  refine zw_aload_n hX dL_law_4919 rfl ?_
  refine zw_iload hX dL_law_4920 rfl ?_
  refine zw_bipush (v := (6 : Int32)) hX dL_law_4922 (by decide) ?_
  refine zw_iadd hX dL_law_4924 ?_
  obtain ⟨v783, g, h⟩ := zb_some h
  refine zw_xi hX dL_law_4925 g ?_
  refine zw_aload_n hX dL_law_4926 rfl ?_
  by_cases hb4927 : 3 ≤ rc ∧ 18 ≤ rs
  · rw [if_pos hb4927] at h
    obtain ⟨r786, g, h⟩ := zb_some h
    refine zc_S (as := [.ref t0, .int t1, .int t2, .int t3, .int t4, .int v782, .int v783, .ref a3]) hX (zt_L_send hlt (d := d - 1) (by omega) g) zl_L_485 dL_law_4927 ⟨rfl, rfl, Nat.le_of_ble_eq_true rfl⟩ ⟨by omega, by omega⟩ hb4927 ?_ ?_
    · rintro _ _ ⟨rfl, rfl⟩
      refine zw_istore hX dL_law_4930 (by decide) ?_
      refine zw_aload_n hX dL_law_4932 rfl ?_
      refine zw_aload_n hX dL_law_4933 rfl ?_
      refine zw_iload hX dL_law_4934 rfl ?_
      refine zw_iconst (v := (1 : Int32)) hX dL_law_4936 (by decide) ?_
      refine zw_iadd hX dL_law_4937 ?_
      obtain ⟨v787, g, h⟩ := zb_some h
      refine zw_xi hX dL_law_4938 g ?_
      refine zw_aload_n hX dL_law_4939 rfl ?_
      refine zw_iload hX dL_law_4940 rfl ?_
      refine zw_iconst (v := (2 : Int32)) hX dL_law_4942 (by decide) ?_
      refine zw_iadd hX dL_law_4943 ?_
      obtain ⟨v788, g, h⟩ := zb_some h
      refine zw_xi hX dL_law_4944 g ?_
      refine zw_aload_n hX dL_law_4945 rfl ?_
      refine zw_iload hX dL_law_4946 rfl ?_
      refine zw_iconst (v := (3 : Int32)) hX dL_law_4948 (by decide) ?_
      refine zw_iadd hX dL_law_4949 ?_
      obtain ⟨v789, g, h⟩ := zb_some h
      refine zw_xi hX dL_law_4950 g ?_
      refine zw_aload_n hX dL_law_4951 rfl ?_
      refine zw_iload hX dL_law_4952 rfl ?_
      refine zw_iconst (v := (4 : Int32)) hX dL_law_4954 (by decide) ?_
      refine zw_iadd hX dL_law_4955 ?_
      obtain ⟨v790, g, h⟩ := zb_some h
      refine zw_xi hX dL_law_4956 g ?_
      refine zw_if_eq (tgt := 4964) hX dL_law_4957 (by decide) (fun c4957 => ?_) (fun c4957 => ?_)
      · rw [if_pos c4957] at h
        refine zw_iconst (v := (0 : Int32)) hX dL_law_4964 (by decide) ?_
        refine zw_sub (lv' := [(0, .ref a0), (1, .ref a1), (2, .ref a2), (3, .ref a3), (4, .int i4), (5, .int r786.1)]) (List.forall_mem_cons.mpr ⟨rfl, (List.forall_mem_cons.mpr ⟨rfl, (List.forall_mem_cons.mpr ⟨rfl, (List.forall_mem_cons.mpr ⟨rfl, (List.forall_mem_cons.mpr ⟨rfl, (List.forall_mem_cons.mpr ⟨rfl, zs_nil⟩)⟩)⟩)⟩)⟩)⟩) ?_
        exact zt_L_law_J4965 hlt hV hX hr hR hd hf hk hrec h
      · rw [if_neg c4957] at h
        refine zw_iconst (v := (1 : Int32)) hX dL_law_4960 (by decide) ?_
        refine zw_goto (tgt := 4965) hX dL_law_4961 (by decide) ?_
        refine zw_sub (lv' := [(0, .ref a0), (1, .ref a1), (2, .ref a2), (3, .ref a3), (4, .int i4), (5, .int r786.1)]) (List.forall_mem_cons.mpr ⟨rfl, (List.forall_mem_cons.mpr ⟨rfl, (List.forall_mem_cons.mpr ⟨rfl, (List.forall_mem_cons.mpr ⟨rfl, (List.forall_mem_cons.mpr ⟨rfl, (List.forall_mem_cons.mpr ⟨rfl, zs_nil⟩)⟩)⟩)⟩)⟩)⟩) ?_
        exact zt_L_law_J4965 hlt hV hX hr hR hd hf hk hrec h
    · intro _ _ hx
      exact hx.elim
  · rw [if_neg hb4927] at h
    cases h
def zf_L_law_J4880 (N : Nat) (k : Nat → Nat → Nat → Nat → Int32 → Nat → Nat → zm_S → Option ((Int32 × zm_S) ⊕ ((Unit) × zm_S))) (a0 : Nat) (a1 : Nat) (a2 : Nat) (a3 : Nat) (i4 : Int32) (rc rs : Nat) (S : zm_S) : Option ((Int32 × zm_S) ⊕ ((Unit) × zm_S)) := (za_x S 0 a0 (i4 + (1 : Int32))).bind (fun v778 => (za_x S 0 a0 (i4 + (2 : Int32))).bind (fun v779 => (za_x S 0 a0 (i4 + (3 : Int32))).bind (fun v780 => (za_x S 0 a0 (i4 + (4 : Int32))).bind (fun v781 => if v781 = 0 then zf_L_law_J4913 N (k) a0 a1 a2 a3 i4 a1 v778 v779 v780 (0 : Int32) rc rs S else zf_L_law_J4913 N (k) a0 a1 a2 a3 i4 a1 v778 v779 v780 (1 : Int32) rc rs S))))
set_option maxHeartbeats 4000000 in
set_option maxRecDepth 100000 in
theorem zt_L_law_J4880 {p : Program} {l : Launch} {e : Env} {s : State} {m : MethodId} {zb : Nat} {below : List Frame} {meth : Method} {c : Code} {V : zm_V} {d : Nat} {nm : String} (hlt : l.stackTraces = false) (hV : V.2.2.2.1 = s.heap.size) (hX : zm_X p room_1 s m #[Value.ref zb] meth c RL nm cL_law 8 zk_E V 601024 7293034) (hr : meth.sig.returnType = ret) (hR : d ≤ room_1.frames ∧ 64 * d ≤ room_1.locals) (hd : 46 ≤ d) {N : Nat} {k : Nat → Nat → Nat → Nat → Int32 → Nat → Nat → zm_S → Option ((Int32 × zm_S) ⊕ ((Unit) × zm_S))} {rc rs : Nat} {a0 : Nat} {a1 : Nat} {a2 : Nat} {a3 : Nat} {i4 : Int32} {res : (Int32 × zm_S) ⊕ ((Unit) × zm_S)} {out : (Int32 × zm_S)}   (hf : ∀ o, res = .inl o → o = out) (hk : ∀ (S' : zm_S) (rc rs : Nat), res = .inr ((), S') → zw p l e room_1 s m #[Value.ref zb] below meth c (lw_Z below #[Value.ref zb] s) 8 zk_E V 601024 7293034 6008 [] [] S' rc rs) (hrec : ∀ (i4' : Int32) (rc rs : Nat) (S : zm_S), k a0 a1 a2 a3 i4' rc rs S = some res → zw p l e room_1 s m #[Value.ref zb] below meth c (lw_Z below #[Value.ref zb] s) 8 zk_E V 601024 7293034 23 [(0, .ref a0), (1, .ref a1), (2, .ref a2), (3, .ref a3), (4, .int i4')] [] S rc rs) {S : zm_S} (h : zf_L_law_J4880 N k a0 a1 a2 a3 i4 rc rs S = some res) : zw p l e room_1 s m #[Value.ref zb] below meth c (lw_Z below #[Value.ref zb] s) 8 zk_E V 601024 7293034 4880 [(0, .ref a0), (1, .ref a1), (2, .ref a2), (3, .ref a3), (4, .int i4)] [] S rc rs := by
  unfold zf_L_law_J4880 at h
  refine zw_aload_n hX dL_law_4880 rfl ?_
  refine zw_aload_n hX dL_law_4881 rfl ?_
  refine zw_iload hX dL_law_4882 rfl ?_
  refine zw_iconst (v := (1 : Int32)) hX dL_law_4884 (by decide) ?_
  refine zw_iadd hX dL_law_4885 ?_
  obtain ⟨v778, g, h⟩ := zb_some h
  refine zw_xi hX dL_law_4886 g ?_
  refine zw_aload_n hX dL_law_4887 rfl ?_
  refine zw_iload hX dL_law_4888 rfl ?_
  refine zw_iconst (v := (2 : Int32)) hX dL_law_4890 (by decide) ?_
  refine zw_iadd hX dL_law_4891 ?_
  obtain ⟨v779, g, h⟩ := zb_some h
  refine zw_xi hX dL_law_4892 g ?_
  refine zw_aload_n hX dL_law_4893 rfl ?_
  refine zw_iload hX dL_law_4894 rfl ?_
  refine zw_iconst (v := (3 : Int32)) hX dL_law_4896 (by decide) ?_
  refine zw_iadd hX dL_law_4897 ?_
  obtain ⟨v780, g, h⟩ := zb_some h
  refine zw_xi hX dL_law_4898 g ?_
  refine zw_aload_n hX dL_law_4899 rfl ?_
  refine zw_iload hX dL_law_4900 rfl ?_
  refine zw_iconst (v := (4 : Int32)) hX dL_law_4902 (by decide) ?_
  refine zw_iadd hX dL_law_4903 ?_
  obtain ⟨v781, g, h⟩ := zb_some h
  refine zw_xi hX dL_law_4904 g ?_
  refine zw_if_eq (tgt := 4912) hX dL_law_4905 (by decide) (fun c4905 => ?_) (fun c4905 => ?_)
  · rw [if_pos c4905] at h
    refine zw_iconst (v := (0 : Int32)) hX dL_law_4912 (by decide) ?_
    refine zw_sub (lv' := [(0, .ref a0), (1, .ref a1), (2, .ref a2), (3, .ref a3), (4, .int i4)]) (List.forall_mem_cons.mpr ⟨rfl, (List.forall_mem_cons.mpr ⟨rfl, (List.forall_mem_cons.mpr ⟨rfl, (List.forall_mem_cons.mpr ⟨rfl, (List.forall_mem_cons.mpr ⟨rfl, zs_nil⟩)⟩)⟩)⟩)⟩) ?_
    exact zt_L_law_J4913 hlt hV hX hr hR hd hf hk hrec h
  · rw [if_neg c4905] at h
    refine zw_iconst (v := (1 : Int32)) hX dL_law_4908 (by decide) ?_
    refine zw_goto (tgt := 4913) hX dL_law_4909 (by decide) ?_
    refine zw_sub (lv' := [(0, .ref a0), (1, .ref a1), (2, .ref a2), (3, .ref a3), (4, .int i4)]) (List.forall_mem_cons.mpr ⟨rfl, (List.forall_mem_cons.mpr ⟨rfl, (List.forall_mem_cons.mpr ⟨rfl, (List.forall_mem_cons.mpr ⟨rfl, (List.forall_mem_cons.mpr ⟨rfl, zs_nil⟩)⟩)⟩)⟩)⟩) ?_
    exact zt_L_law_J4913 hlt hV hX hr hR hd hf hk hrec h
def zf_L_law_J5068 (N : Nat) (k : Nat → Nat → Nat → Nat → Int32 → Nat → Nat → zm_S → Option ((Int32 × zm_S) ⊕ ((Unit) × zm_S))) (a0 : Nat) (a1 : Nat) (a2 : Nat) (a3 : Nat) (i4 : Int32) (t0 : Int64) (t1 : Int64) (rc rs : Nat) (S : zm_S) : Option ((Int32 × zm_S) ⊕ ((Unit) × zm_S)) := if (lg_cmp t0 t1) = 0 then k a0 a1 a2 a3 (i4 + (7 : Int32)) rc rs S else none
set_option maxHeartbeats 4000000 in
set_option maxRecDepth 100000 in
theorem zt_L_law_J5068 {p : Program} {l : Launch} {e : Env} {s : State} {m : MethodId} {zb : Nat} {below : List Frame} {meth : Method} {c : Code} {V : zm_V} {d : Nat} {nm : String} (hlt : l.stackTraces = false) (hV : V.2.2.2.1 = s.heap.size) (hX : zm_X p room_1 s m #[Value.ref zb] meth c RL nm cL_law 8 zk_E V 601024 7293034) (hr : meth.sig.returnType = ret) (hR : d ≤ room_1.frames ∧ 64 * d ≤ room_1.locals) (hd : 46 ≤ d) {N : Nat} {k : Nat → Nat → Nat → Nat → Int32 → Nat → Nat → zm_S → Option ((Int32 × zm_S) ⊕ ((Unit) × zm_S))} {rc rs : Nat} {a0 : Nat} {a1 : Nat} {a2 : Nat} {a3 : Nat} {i4 : Int32} {t0 : Int64} {t1 : Int64} {res : (Int32 × zm_S) ⊕ ((Unit) × zm_S)} {out : (Int32 × zm_S)}   (hf : ∀ o, res = .inl o → o = out) (hk : ∀ (S' : zm_S) (rc rs : Nat), res = .inr ((), S') → zw p l e room_1 s m #[Value.ref zb] below meth c (lw_Z below #[Value.ref zb] s) 8 zk_E V 601024 7293034 6008 [] [] S' rc rs) (hrec : ∀ (i4' : Int32) (rc rs : Nat) (S : zm_S), k a0 a1 a2 a3 i4' rc rs S = some res → zw p l e room_1 s m #[Value.ref zb] below meth c (lw_Z below #[Value.ref zb] s) 8 zk_E V 601024 7293034 23 [(0, .ref a0), (1, .ref a1), (2, .ref a2), (3, .ref a3), (4, .int i4')] [] S rc rs) {S : zm_S} (h : zf_L_law_J5068 N k a0 a1 a2 a3 i4 t0 t1 rc rs S = some res) : zw p l e room_1 s m #[Value.ref zb] below meth c (lw_Z below #[Value.ref zb] s) 8 zk_E V 601024 7293034 5068 [(0, .ref a0), (1, .ref a1), (2, .ref a2), (3, .ref a3), (4, .int i4)] [.long t1, .long t0] S rc rs := by
  unfold zf_L_law_J5068 at h
  refine zw_lcmp hX dL_law_5068 ?_
  refine zw_if_eq (tgt := 5074) hX dL_law_5069 (by decide) (fun c5069 => ?_) (fun c5069 => ?_)
  · rw [if_pos c5069] at h
    refine zw_goto (tgt := 6002) hX dL_law_5074 (by decide) ?_
    refine zw_iinc (v := (i4 + (7 : Int32))) hX dL_law_6002 rfl rfl (by decide) ?_
    refine zw_goto (tgt := 23) hX dL_law_6005 (by decide) ?_
    refine zw_sub (lv' := [(0, .ref a0), (1, .ref a1), (2, .ref a2), (3, .ref a3), (4, .int (i4 + (7 : Int32)))]) (List.forall_mem_cons.mpr ⟨rfl, (List.forall_mem_cons.mpr ⟨rfl, (List.forall_mem_cons.mpr ⟨rfl, (List.forall_mem_cons.mpr ⟨rfl, (List.forall_mem_cons.mpr ⟨rfl, zs_nil⟩)⟩)⟩)⟩)⟩) ?_
    exact hrec _ _ _ _ h
  · rw [if_neg c5069] at h
    refine zw_iconst (v := (0 : Int32)) hX dL_law_5072 (by decide) ?_
    cases h
def zf_L_law_J5014 (N : Nat) (k : Nat → Nat → Nat → Nat → Int32 → Nat → Nat → zm_S → Option ((Int32 × zm_S) ⊕ ((Unit) × zm_S))) (a0 : Nat) (a1 : Nat) (a2 : Nat) (a3 : Nat) (i4 : Int32) (rc rs : Nat) (S : zm_S) : Option ((Int32 × zm_S) ⊕ ((Unit) × zm_S)) := (za_x S 0 a0 (i4 + (1 : Int32))).bind (fun v798 => if 2 ≤ rc ∧ 12 ≤ rs then (zf_L_disturb N a1 v798 a3 S).bind (fun r801 => (za_x r801.2 0 a0 (i4 + (1 : Int32))).bind (fun v802 => (zi r801.2 a2 18).bind (fun _ => (zf_X18_disturb N a2 v802 r801.2).bind (fun r804 => (zi r804.2 a2 18).bind (fun _ => (zf_X18_thrown N a2 r804.2).bind (fun r806 => if r806.1 = r801.1 then if r801.1 = 0 then (za_l r806.2 a3 (0 : Int32)).bind (fun w807 => if r804.1 = 0 then zf_L_law_J5068 N (k) a0 a1 a2 a3 i4 w807 (0 : Int64) (rc - 2) (rs - 12) r806.2 else zf_L_law_J5068 N (k) a0 a1 a2 a3 i4 w807 (1 : Int64) (rc - 2) (rs - 12) r806.2) else k a0 a1 a2 a3 (i4 + (7 : Int32)) (rc - 2) (rs - 12) r806.2 else none)))))) else none)
set_option maxHeartbeats 4000000 in
set_option maxRecDepth 100000 in
theorem zt_L_law_J5014 {p : Program} {l : Launch} {e : Env} {s : State} {m : MethodId} {zb : Nat} {below : List Frame} {meth : Method} {c : Code} {V : zm_V} {d : Nat} {nm : String} (hlt : l.stackTraces = false) (hV : V.2.2.2.1 = s.heap.size) (hX : zm_X p room_1 s m #[Value.ref zb] meth c RL nm cL_law 8 zk_E V 601024 7293034) (hr : meth.sig.returnType = ret) (hR : d ≤ room_1.frames ∧ 64 * d ≤ room_1.locals) (hd : 46 ≤ d) {N : Nat} {k : Nat → Nat → Nat → Nat → Int32 → Nat → Nat → zm_S → Option ((Int32 × zm_S) ⊕ ((Unit) × zm_S))} {rc rs : Nat} {a0 : Nat} {a1 : Nat} {a2 : Nat} {a3 : Nat} {i4 : Int32} {res : (Int32 × zm_S) ⊕ ((Unit) × zm_S)} {out : (Int32 × zm_S)}   (hf : ∀ o, res = .inl o → o = out) (hk : ∀ (S' : zm_S) (rc rs : Nat), res = .inr ((), S') → zw p l e room_1 s m #[Value.ref zb] below meth c (lw_Z below #[Value.ref zb] s) 8 zk_E V 601024 7293034 6008 [] [] S' rc rs) (hrec : ∀ (i4' : Int32) (rc rs : Nat) (S : zm_S), k a0 a1 a2 a3 i4' rc rs S = some res → zw p l e room_1 s m #[Value.ref zb] below meth c (lw_Z below #[Value.ref zb] s) 8 zk_E V 601024 7293034 23 [(0, .ref a0), (1, .ref a1), (2, .ref a2), (3, .ref a3), (4, .int i4')] [] S rc rs) {S : zm_S} (h : zf_L_law_J5014 N k a0 a1 a2 a3 i4 rc rs S = some res) : zw p l e room_1 s m #[Value.ref zb] below meth c (lw_Z below #[Value.ref zb] s) 8 zk_E V 601024 7293034 5014 [(0, .ref a0), (1, .ref a1), (2, .ref a2), (3, .ref a3), (4, .int i4)] [] S rc rs := by
  unfold zf_L_law_J5014 at h
  refine zw_aload_n hX dL_law_5014 rfl ?_
  refine zw_aload_n hX dL_law_5015 rfl ?_
  refine zw_iload hX dL_law_5016 rfl ?_
  refine zw_iconst (v := (1 : Int32)) hX dL_law_5018 (by decide) ?_
  refine zw_iadd hX dL_law_5019 ?_
  obtain ⟨v798, g, h⟩ := zb_some h
  refine zw_xi hX dL_law_5020 g ?_
  refine zw_aload_n hX dL_law_5021 rfl ?_
  by_cases hb5022 : 2 ≤ rc ∧ 12 ≤ rs
  · rw [if_pos hb5022] at h
    obtain ⟨r801, g, h⟩ := zb_some h
    refine zc_S (as := [.ref a1, .int v798, .ref a3]) hX (zt_L_disturb hlt (d := d - 1) (by omega) g) zl_L_489 dL_law_5022 ⟨rfl, rfl, Nat.le_of_ble_eq_true rfl⟩ ⟨by omega, by omega⟩ hb5022 ?_ ?_
    · rintro _ _ ⟨rfl, rfl⟩
      refine zw_istore hX dL_law_5025 (by decide) ?_
      refine zw_aload_n hX dL_law_5027 rfl ?_
      refine zw_aload_n hX dL_law_5028 rfl ?_
      refine zw_iload hX dL_law_5029 rfl ?_
      refine zw_iconst (v := (1 : Int32)) hX dL_law_5031 (by decide) ?_
      refine zw_iadd hX dL_law_5032 ?_
      obtain ⟨v802, g, h⟩ := zb_some h
      refine zw_xi hX dL_law_5033 g ?_
      obtain ⟨_, gi, h⟩ := zb_some h
      obtain ⟨r804, g, h⟩ := zb_some h
      refine zc_Vi (as := [.int v802]) hX gi (zt_X18_disturb (d := d - 1) (by omega) g) zl_L_491 rfl dL_law_5034 ⟨rfl, rfl, Nat.le_of_ble_eq_true rfl⟩ ⟨by omega, by omega⟩ ?_
      refine zw_istore hX dL_law_5037 (by decide) ?_
      refine zw_aload_n hX dL_law_5039 rfl ?_
      obtain ⟨_, gi, h⟩ := zb_some h
      obtain ⟨r806, g, h⟩ := zb_some h
      refine zc_Vi (as := []) hX gi (zt_X18_thrown (d := d - 1) (by omega) g) zl_L_281 rfl dL_law_5040 ⟨rfl, rfl, Nat.le_of_ble_eq_true rfl⟩ ⟨by omega, by omega⟩ ?_
      refine zw_iload hX dL_law_5043 rfl ?_
      refine zw_icmp_eq (tgt := 5050) hX dL_law_5045 (by decide) (fun c5045 => ?_) (fun c5045 => ?_)
      · rw [if_pos c5045] at h
        refine zw_iload hX dL_law_5050 rfl ?_
        refine zw_if_ne (tgt := 5074) hX dL_law_5052 (by decide) (fun c5052 => ?_) (fun c5052 => ?_)
        · rw [if_neg c5052] at h
          refine zw_goto (tgt := 6002) hX dL_law_5074 (by decide) ?_
          refine zw_iinc (v := (i4 + (7 : Int32))) hX dL_law_6002 rfl rfl (by decide) ?_
          refine zw_goto (tgt := 23) hX dL_law_6005 (by decide) ?_
          refine zw_sub (lv' := [(0, .ref a0), (1, .ref a1), (2, .ref a2), (3, .ref a3), (4, .int (i4 + (7 : Int32)))]) (List.forall_mem_cons.mpr ⟨rfl, (List.forall_mem_cons.mpr ⟨rfl, (List.forall_mem_cons.mpr ⟨rfl, (List.forall_mem_cons.mpr ⟨rfl, (List.forall_mem_cons.mpr ⟨rfl, zs_nil⟩)⟩)⟩)⟩)⟩) ?_
          exact hrec _ _ _ _ h
        · rw [if_pos c5052] at h
          refine zw_aload_n hX dL_law_5055 rfl ?_
          refine zw_iconst (v := (0 : Int32)) hX dL_law_5056 (by decide) ?_
          obtain ⟨w807, g, h⟩ := zb_some h
          refine zw_xl hX dL_law_5057 g ?_
          refine zw_iload hX dL_law_5058 rfl ?_
          refine zw_if_eq (tgt := 5067) hX dL_law_5060 (by decide) (fun c5060 => ?_) (fun c5060 => ?_)
          · rw [if_pos c5060] at h
            refine zw_lconst (v := (0 : Int64)) hX dL_law_5067 (by decide) ?_
            refine zw_sub (lv' := [(0, .ref a0), (1, .ref a1), (2, .ref a2), (3, .ref a3), (4, .int i4)]) (List.forall_mem_cons.mpr ⟨rfl, (List.forall_mem_cons.mpr ⟨rfl, (List.forall_mem_cons.mpr ⟨rfl, (List.forall_mem_cons.mpr ⟨rfl, (List.forall_mem_cons.mpr ⟨rfl, zs_nil⟩)⟩)⟩)⟩)⟩) ?_
            exact zt_L_law_J5068 hlt hV hX hr hR hd hf hk hrec h
          · rw [if_neg c5060] at h
            refine zw_lconst (v := (1 : Int64)) hX dL_law_5063 (by decide) ?_
            refine zw_goto (tgt := 5068) hX dL_law_5064 (by decide) ?_
            refine zw_sub (lv' := [(0, .ref a0), (1, .ref a1), (2, .ref a2), (3, .ref a3), (4, .int i4)]) (List.forall_mem_cons.mpr ⟨rfl, (List.forall_mem_cons.mpr ⟨rfl, (List.forall_mem_cons.mpr ⟨rfl, (List.forall_mem_cons.mpr ⟨rfl, (List.forall_mem_cons.mpr ⟨rfl, zs_nil⟩)⟩)⟩)⟩)⟩) ?_
            exact zt_L_law_J5068 hlt hV hX hr hR hd hf hk hrec h
      · rw [if_neg c5045] at h
        refine zw_iconst (v := (0 : Int32)) hX dL_law_5048 (by decide) ?_
        cases h
    · intro _ _ hx
      exact hx.elim
  · rw [if_neg hb5022] at h
    cases h
def zf_L_law_J5077 (N : Nat) (k : Nat → Nat → Nat → Nat → Int32 → Nat → Nat → zm_S → Option ((Int32 × zm_S) ⊕ ((Unit) × zm_S))) (a0 : Nat) (a1 : Nat) (a2 : Nat) (a3 : Nat) (i4 : Int32) (rc rs : Nat) (S : zm_S) : Option ((Int32 × zm_S) ⊕ ((Unit) × zm_S)) := (za_x S 0 a0 (i4 + (1 : Int32))).bind (fun v808 => (za_x S 0 a0 (i4 + (2 : Int32))).bind (fun v809 => if 2 ≤ rc ∧ 12 ≤ rs then (zf_L_station N a1 v808 v809 a3 S).bind (fun r812 => (za_x r812.2 0 a0 (i4 + (1 : Int32))).bind (fun v813 => (za_x r812.2 0 a0 (i4 + (2 : Int32))).bind (fun v814 => (zi r812.2 a2 18).bind (fun _ => (zf_X18_station N a2 v813 v814 r812.2).bind (fun r816 => (zi r816.2 a2 18).bind (fun _ => (zf_X18_thrown N a2 r816.2).bind (fun r818 => if r818.1 = r812.1 then if r812.1 = 0 then (za_l r818.2 a3 (0 : Int32)).bind (fun w819 => if (lg_cmp w819 ((r816.1).toInt64)) = 0 then k a0 a1 a2 a3 (i4 + (7 : Int32)) (rc - 2) (rs - 12) r818.2 else none) else k a0 a1 a2 a3 (i4 + (7 : Int32)) (rc - 2) (rs - 12) r818.2 else none))))))) else none))
set_option maxHeartbeats 4000000 in
set_option maxRecDepth 100000 in
theorem zt_L_law_J5077 {p : Program} {l : Launch} {e : Env} {s : State} {m : MethodId} {zb : Nat} {below : List Frame} {meth : Method} {c : Code} {V : zm_V} {d : Nat} {nm : String} (hlt : l.stackTraces = false) (hV : V.2.2.2.1 = s.heap.size) (hX : zm_X p room_1 s m #[Value.ref zb] meth c RL nm cL_law 8 zk_E V 601024 7293034) (hr : meth.sig.returnType = ret) (hR : d ≤ room_1.frames ∧ 64 * d ≤ room_1.locals) (hd : 46 ≤ d) {N : Nat} {k : Nat → Nat → Nat → Nat → Int32 → Nat → Nat → zm_S → Option ((Int32 × zm_S) ⊕ ((Unit) × zm_S))} {rc rs : Nat} {a0 : Nat} {a1 : Nat} {a2 : Nat} {a3 : Nat} {i4 : Int32} {res : (Int32 × zm_S) ⊕ ((Unit) × zm_S)} {out : (Int32 × zm_S)}   (hf : ∀ o, res = .inl o → o = out) (hk : ∀ (S' : zm_S) (rc rs : Nat), res = .inr ((), S') → zw p l e room_1 s m #[Value.ref zb] below meth c (lw_Z below #[Value.ref zb] s) 8 zk_E V 601024 7293034 6008 [] [] S' rc rs) (hrec : ∀ (i4' : Int32) (rc rs : Nat) (S : zm_S), k a0 a1 a2 a3 i4' rc rs S = some res → zw p l e room_1 s m #[Value.ref zb] below meth c (lw_Z below #[Value.ref zb] s) 8 zk_E V 601024 7293034 23 [(0, .ref a0), (1, .ref a1), (2, .ref a2), (3, .ref a3), (4, .int i4')] [] S rc rs) {S : zm_S} (h : zf_L_law_J5077 N k a0 a1 a2 a3 i4 rc rs S = some res) : zw p l e room_1 s m #[Value.ref zb] below meth c (lw_Z below #[Value.ref zb] s) 8 zk_E V 601024 7293034 5077 [(0, .ref a0), (1, .ref a1), (2, .ref a2), (3, .ref a3), (4, .int i4)] [] S rc rs := by
  unfold zf_L_law_J5077 at h
  refine zw_aload_n hX dL_law_5077 rfl ?_
  refine zw_aload_n hX dL_law_5078 rfl ?_
  refine zw_iload hX dL_law_5079 rfl ?_
  refine zw_iconst (v := (1 : Int32)) hX dL_law_5081 (by decide) ?_
  refine zw_iadd hX dL_law_5082 ?_
  obtain ⟨v808, g, h⟩ := zb_some h
  refine zw_xi hX dL_law_5083 g ?_
  refine zw_aload_n hX dL_law_5084 rfl ?_
  refine zw_iload hX dL_law_5085 rfl ?_
  refine zw_iconst (v := (2 : Int32)) hX dL_law_5087 (by decide) ?_
  refine zw_iadd hX dL_law_5088 ?_
  obtain ⟨v809, g, h⟩ := zb_some h
  refine zw_xi hX dL_law_5089 g ?_
  refine zw_aload_n hX dL_law_5090 rfl ?_
  by_cases hb5091 : 2 ≤ rc ∧ 12 ≤ rs
  · rw [if_pos hb5091] at h
    obtain ⟨r812, g, h⟩ := zb_some h
    refine zc_S (as := [.ref a1, .int v808, .int v809, .ref a3]) hX (zt_L_station hlt (d := d - 1) (by omega) g) zl_L_492 dL_law_5091 ⟨rfl, rfl, Nat.le_of_ble_eq_true rfl⟩ ⟨by omega, by omega⟩ hb5091 ?_ ?_
    · rintro _ _ ⟨rfl, rfl⟩
      refine zw_istore hX dL_law_5094 (by decide) ?_
      refine zw_aload_n hX dL_law_5096 rfl ?_
      refine zw_aload_n hX dL_law_5097 rfl ?_
      refine zw_iload hX dL_law_5098 rfl ?_
      refine zw_iconst (v := (1 : Int32)) hX dL_law_5100 (by decide) ?_
      refine zw_iadd hX dL_law_5101 ?_
      obtain ⟨v813, g, h⟩ := zb_some h
      refine zw_xi hX dL_law_5102 g ?_
      refine zw_aload_n hX dL_law_5103 rfl ?_
      refine zw_iload hX dL_law_5104 rfl ?_
      refine zw_iconst (v := (2 : Int32)) hX dL_law_5106 (by decide) ?_
      refine zw_iadd hX dL_law_5107 ?_
      obtain ⟨v814, g, h⟩ := zb_some h
      refine zw_xi hX dL_law_5108 g ?_
      obtain ⟨_, gi, h⟩ := zb_some h
      obtain ⟨r816, g, h⟩ := zb_some h
      refine zc_Vi (as := [.int v813, .int v814]) hX gi (zt_X18_station (d := d - 1) (by omega) g) zl_L_494 rfl dL_law_5109 ⟨rfl, rfl, Nat.le_of_ble_eq_true rfl⟩ ⟨by omega, by omega⟩ ?_
      refine zw_istore hX dL_law_5112 (by decide) ?_
      refine zw_aload_n hX dL_law_5114 rfl ?_
      obtain ⟨_, gi, h⟩ := zb_some h
      obtain ⟨r818, g, h⟩ := zb_some h
      refine zc_Vi (as := []) hX gi (zt_X18_thrown (d := d - 1) (by omega) g) zl_L_281 rfl dL_law_5115 ⟨rfl, rfl, Nat.le_of_ble_eq_true rfl⟩ ⟨by omega, by omega⟩ ?_
      refine zw_iload hX dL_law_5118 rfl ?_
      refine zw_icmp_eq (tgt := 5125) hX dL_law_5120 (by decide) (fun c5120 => ?_) (fun c5120 => ?_)
      · rw [if_pos c5120] at h
        refine zw_iload hX dL_law_5125 rfl ?_
        refine zw_if_ne (tgt := 5142) hX dL_law_5127 (by decide) (fun c5127 => ?_) (fun c5127 => ?_)
        · rw [if_neg c5127] at h
          refine zw_goto (tgt := 6002) hX dL_law_5142 (by decide) ?_
          refine zw_iinc (v := (i4 + (7 : Int32))) hX dL_law_6002 rfl rfl (by decide) ?_
          refine zw_goto (tgt := 23) hX dL_law_6005 (by decide) ?_
          refine zw_sub (lv' := [(0, .ref a0), (1, .ref a1), (2, .ref a2), (3, .ref a3), (4, .int (i4 + (7 : Int32)))]) (List.forall_mem_cons.mpr ⟨rfl, (List.forall_mem_cons.mpr ⟨rfl, (List.forall_mem_cons.mpr ⟨rfl, (List.forall_mem_cons.mpr ⟨rfl, (List.forall_mem_cons.mpr ⟨rfl, zs_nil⟩)⟩)⟩)⟩)⟩) ?_
          exact hrec _ _ _ _ h
        · rw [if_pos c5127] at h
          refine zw_aload_n hX dL_law_5130 rfl ?_
          refine zw_iconst (v := (0 : Int32)) hX dL_law_5131 (by decide) ?_
          obtain ⟨w819, g, h⟩ := zb_some h
          refine zw_xl hX dL_law_5132 g ?_
          refine zw_iload hX dL_law_5133 rfl ?_
          refine zw_i2l hX dL_law_5135 ?_
          refine zw_lcmp hX dL_law_5136 ?_
          refine zw_if_eq (tgt := 5142) hX dL_law_5137 (by decide) (fun c5137 => ?_) (fun c5137 => ?_)
          · rw [if_pos c5137] at h
            refine zw_goto (tgt := 6002) hX dL_law_5142 (by decide) ?_
            refine zw_iinc (v := (i4 + (7 : Int32))) hX dL_law_6002 rfl rfl (by decide) ?_
            refine zw_goto (tgt := 23) hX dL_law_6005 (by decide) ?_
            refine zw_sub (lv' := [(0, .ref a0), (1, .ref a1), (2, .ref a2), (3, .ref a3), (4, .int (i4 + (7 : Int32)))]) (List.forall_mem_cons.mpr ⟨rfl, (List.forall_mem_cons.mpr ⟨rfl, (List.forall_mem_cons.mpr ⟨rfl, (List.forall_mem_cons.mpr ⟨rfl, (List.forall_mem_cons.mpr ⟨rfl, zs_nil⟩)⟩)⟩)⟩)⟩) ?_
            exact hrec _ _ _ _ h
          · rw [if_neg c5137] at h
            refine zw_iconst (v := (0 : Int32)) hX dL_law_5140 (by decide) ?_
            cases h
      · rw [if_neg c5120] at h
        refine zw_iconst (v := (0 : Int32)) hX dL_law_5123 (by decide) ?_
        cases h
    · intro _ _ hx
      exact hx.elim
  · rw [if_neg hb5091] at h
    cases h
def zf_L_law_J5145 (N : Nat) (k : Nat → Nat → Nat → Nat → Int32 → Nat → Nat → zm_S → Option ((Int32 × zm_S) ⊕ ((Unit) × zm_S))) (a0 : Nat) (a1 : Nat) (a2 : Nat) (a3 : Nat) (i4 : Int32) (rc rs : Nat) (S : zm_S) : Option ((Int32 × zm_S) ⊕ ((Unit) × zm_S)) := (za_x S 0 a0 (i4 + (1 : Int32))).bind (fun v820 => if 2 ≤ rc ∧ 12 ≤ rs then (zf_L_heard N a1 v820 a3 S).bind (fun r823 => (za_x r823.2 0 a0 (i4 + (1 : Int32))).bind (fun v824 => (zi r823.2 a2 18).bind (fun _ => (zf_X18_heard N a2 v824 r823.2).bind (fun r826 => (zi r826.2 a2 18).bind (fun _ => (zf_X18_thrown N a2 r826.2).bind (fun r828 => if r828.1 = r823.1 then if r823.1 = 0 then (za_l r828.2 a3 (0 : Int32)).bind (fun w829 => if (lg_cmp w829 ((r826.1).toInt64)) = 0 then k a0 a1 a2 a3 (i4 + (7 : Int32)) (rc - 2) (rs - 12) r828.2 else none) else k a0 a1 a2 a3 (i4 + (7 : Int32)) (rc - 2) (rs - 12) r828.2 else none)))))) else none)
set_option maxHeartbeats 4000000 in
set_option maxRecDepth 100000 in
theorem zt_L_law_J5145 {p : Program} {l : Launch} {e : Env} {s : State} {m : MethodId} {zb : Nat} {below : List Frame} {meth : Method} {c : Code} {V : zm_V} {d : Nat} {nm : String} (hlt : l.stackTraces = false) (hV : V.2.2.2.1 = s.heap.size) (hX : zm_X p room_1 s m #[Value.ref zb] meth c RL nm cL_law 8 zk_E V 601024 7293034) (hr : meth.sig.returnType = ret) (hR : d ≤ room_1.frames ∧ 64 * d ≤ room_1.locals) (hd : 46 ≤ d) {N : Nat} {k : Nat → Nat → Nat → Nat → Int32 → Nat → Nat → zm_S → Option ((Int32 × zm_S) ⊕ ((Unit) × zm_S))} {rc rs : Nat} {a0 : Nat} {a1 : Nat} {a2 : Nat} {a3 : Nat} {i4 : Int32} {res : (Int32 × zm_S) ⊕ ((Unit) × zm_S)} {out : (Int32 × zm_S)}   (hf : ∀ o, res = .inl o → o = out) (hk : ∀ (S' : zm_S) (rc rs : Nat), res = .inr ((), S') → zw p l e room_1 s m #[Value.ref zb] below meth c (lw_Z below #[Value.ref zb] s) 8 zk_E V 601024 7293034 6008 [] [] S' rc rs) (hrec : ∀ (i4' : Int32) (rc rs : Nat) (S : zm_S), k a0 a1 a2 a3 i4' rc rs S = some res → zw p l e room_1 s m #[Value.ref zb] below meth c (lw_Z below #[Value.ref zb] s) 8 zk_E V 601024 7293034 23 [(0, .ref a0), (1, .ref a1), (2, .ref a2), (3, .ref a3), (4, .int i4')] [] S rc rs) {S : zm_S} (h : zf_L_law_J5145 N k a0 a1 a2 a3 i4 rc rs S = some res) : zw p l e room_1 s m #[Value.ref zb] below meth c (lw_Z below #[Value.ref zb] s) 8 zk_E V 601024 7293034 5145 [(0, .ref a0), (1, .ref a1), (2, .ref a2), (3, .ref a3), (4, .int i4)] [] S rc rs := by
  unfold zf_L_law_J5145 at h
  refine zw_aload_n hX dL_law_5145 rfl ?_
  refine zw_aload_n hX dL_law_5146 rfl ?_
  refine zw_iload hX dL_law_5147 rfl ?_
  refine zw_iconst (v := (1 : Int32)) hX dL_law_5149 (by decide) ?_
  refine zw_iadd hX dL_law_5150 ?_
  obtain ⟨v820, g, h⟩ := zb_some h
  refine zw_xi hX dL_law_5151 g ?_
  refine zw_aload_n hX dL_law_5152 rfl ?_
  by_cases hb5153 : 2 ≤ rc ∧ 12 ≤ rs
  · rw [if_pos hb5153] at h
    obtain ⟨r823, g, h⟩ := zb_some h
    refine zc_S (as := [.ref a1, .int v820, .ref a3]) hX (zt_L_heard hlt (d := d - 1) (by omega) g) zl_L_495 dL_law_5153 ⟨rfl, rfl, Nat.le_of_ble_eq_true rfl⟩ ⟨by omega, by omega⟩ hb5153 ?_ ?_
    · rintro _ _ ⟨rfl, rfl⟩
      refine zw_istore hX dL_law_5156 (by decide) ?_
      refine zw_aload_n hX dL_law_5158 rfl ?_
      refine zw_aload_n hX dL_law_5159 rfl ?_
      refine zw_iload hX dL_law_5160 rfl ?_
      refine zw_iconst (v := (1 : Int32)) hX dL_law_5162 (by decide) ?_
      refine zw_iadd hX dL_law_5163 ?_
      obtain ⟨v824, g, h⟩ := zb_some h
      refine zw_xi hX dL_law_5164 g ?_
      obtain ⟨_, gi, h⟩ := zb_some h
      obtain ⟨r826, g, h⟩ := zb_some h
      refine zc_Vi (as := [.int v824]) hX gi (zt_X18_heard (d := d - 1) (by omega) g) zl_L_497 rfl dL_law_5165 ⟨rfl, rfl, Nat.le_of_ble_eq_true rfl⟩ ⟨by omega, by omega⟩ ?_
      refine zw_istore hX dL_law_5168 (by decide) ?_
      refine zw_aload_n hX dL_law_5170 rfl ?_
      obtain ⟨_, gi, h⟩ := zb_some h
      obtain ⟨r828, g, h⟩ := zb_some h
      refine zc_Vi (as := []) hX gi (zt_X18_thrown (d := d - 1) (by omega) g) zl_L_281 rfl dL_law_5171 ⟨rfl, rfl, Nat.le_of_ble_eq_true rfl⟩ ⟨by omega, by omega⟩ ?_
      refine zw_iload hX dL_law_5174 rfl ?_
      refine zw_icmp_eq (tgt := 5181) hX dL_law_5176 (by decide) (fun c5176 => ?_) (fun c5176 => ?_)
      · rw [if_pos c5176] at h
        refine zw_iload hX dL_law_5181 rfl ?_
        refine zw_if_ne (tgt := 5198) hX dL_law_5183 (by decide) (fun c5183 => ?_) (fun c5183 => ?_)
        · rw [if_neg c5183] at h
          refine zw_goto (tgt := 6002) hX dL_law_5198 (by decide) ?_
          refine zw_iinc (v := (i4 + (7 : Int32))) hX dL_law_6002 rfl rfl (by decide) ?_
          refine zw_goto (tgt := 23) hX dL_law_6005 (by decide) ?_
          refine zw_sub (lv' := [(0, .ref a0), (1, .ref a1), (2, .ref a2), (3, .ref a3), (4, .int (i4 + (7 : Int32)))]) (List.forall_mem_cons.mpr ⟨rfl, (List.forall_mem_cons.mpr ⟨rfl, (List.forall_mem_cons.mpr ⟨rfl, (List.forall_mem_cons.mpr ⟨rfl, (List.forall_mem_cons.mpr ⟨rfl, zs_nil⟩)⟩)⟩)⟩)⟩) ?_
          exact hrec _ _ _ _ h
        · rw [if_pos c5183] at h
          refine zw_aload_n hX dL_law_5186 rfl ?_
          refine zw_iconst (v := (0 : Int32)) hX dL_law_5187 (by decide) ?_
          obtain ⟨w829, g, h⟩ := zb_some h
          refine zw_xl hX dL_law_5188 g ?_
          refine zw_iload hX dL_law_5189 rfl ?_
          refine zw_i2l hX dL_law_5191 ?_
          refine zw_lcmp hX dL_law_5192 ?_
          refine zw_if_eq (tgt := 5198) hX dL_law_5193 (by decide) (fun c5193 => ?_) (fun c5193 => ?_)
          · rw [if_pos c5193] at h
            refine zw_goto (tgt := 6002) hX dL_law_5198 (by decide) ?_
            refine zw_iinc (v := (i4 + (7 : Int32))) hX dL_law_6002 rfl rfl (by decide) ?_
            refine zw_goto (tgt := 23) hX dL_law_6005 (by decide) ?_
            refine zw_sub (lv' := [(0, .ref a0), (1, .ref a1), (2, .ref a2), (3, .ref a3), (4, .int (i4 + (7 : Int32)))]) (List.forall_mem_cons.mpr ⟨rfl, (List.forall_mem_cons.mpr ⟨rfl, (List.forall_mem_cons.mpr ⟨rfl, (List.forall_mem_cons.mpr ⟨rfl, (List.forall_mem_cons.mpr ⟨rfl, zs_nil⟩)⟩)⟩)⟩)⟩) ?_
            exact hrec _ _ _ _ h
          · rw [if_neg c5193] at h
            refine zw_iconst (v := (0 : Int32)) hX dL_law_5196 (by decide) ?_
            cases h
      · rw [if_neg c5176] at h
        refine zw_iconst (v := (0 : Int32)) hX dL_law_5179 (by decide) ?_
        cases h
    · intro _ _ hx
      exact hx.elim
  · rw [if_neg hb5153] at h
    cases h
def zf_L_law_J5201 (N : Nat) (k : Nat → Nat → Nat → Nat → Int32 → Nat → Nat → zm_S → Option ((Int32 × zm_S) ⊕ ((Unit) × zm_S))) (a0 : Nat) (a1 : Nat) (a2 : Nat) (a3 : Nat) (i4 : Int32) (rc rs : Nat) (S : zm_S) : Option ((Int32 × zm_S) ⊕ ((Unit) × zm_S)) := (za_x S 0 a0 (i4 + (1 : Int32))).bind (fun v830 => if 2 ≤ rc ∧ 12 ≤ rs then (zf_L_byteAt N a1 v830 a3 S).bind (fun r833 => (za_x r833.2 0 a0 (i4 + (1 : Int32))).bind (fun v834 => (zi r833.2 a2 18).bind (fun _ => (zf_X18_byteAt N a2 v834 r833.2).bind (fun r836 => (zi r836.2 a2 18).bind (fun _ => (zf_X18_thrown N a2 r836.2).bind (fun r838 => if r838.1 = r833.1 then if r833.1 = 0 then (za_l r838.2 a3 (0 : Int32)).bind (fun w839 => if (lg_cmp w839 ((r836.1).toInt64)) = 0 then k a0 a1 a2 a3 (i4 + (7 : Int32)) (rc - 2) (rs - 12) r838.2 else none) else k a0 a1 a2 a3 (i4 + (7 : Int32)) (rc - 2) (rs - 12) r838.2 else none)))))) else none)
set_option maxHeartbeats 4000000 in
set_option maxRecDepth 100000 in
theorem zt_L_law_J5201 {p : Program} {l : Launch} {e : Env} {s : State} {m : MethodId} {zb : Nat} {below : List Frame} {meth : Method} {c : Code} {V : zm_V} {d : Nat} {nm : String} (hlt : l.stackTraces = false) (hV : V.2.2.2.1 = s.heap.size) (hX : zm_X p room_1 s m #[Value.ref zb] meth c RL nm cL_law 8 zk_E V 601024 7293034) (hr : meth.sig.returnType = ret) (hR : d ≤ room_1.frames ∧ 64 * d ≤ room_1.locals) (hd : 46 ≤ d) {N : Nat} {k : Nat → Nat → Nat → Nat → Int32 → Nat → Nat → zm_S → Option ((Int32 × zm_S) ⊕ ((Unit) × zm_S))} {rc rs : Nat} {a0 : Nat} {a1 : Nat} {a2 : Nat} {a3 : Nat} {i4 : Int32} {res : (Int32 × zm_S) ⊕ ((Unit) × zm_S)} {out : (Int32 × zm_S)}   (hf : ∀ o, res = .inl o → o = out) (hk : ∀ (S' : zm_S) (rc rs : Nat), res = .inr ((), S') → zw p l e room_1 s m #[Value.ref zb] below meth c (lw_Z below #[Value.ref zb] s) 8 zk_E V 601024 7293034 6008 [] [] S' rc rs) (hrec : ∀ (i4' : Int32) (rc rs : Nat) (S : zm_S), k a0 a1 a2 a3 i4' rc rs S = some res → zw p l e room_1 s m #[Value.ref zb] below meth c (lw_Z below #[Value.ref zb] s) 8 zk_E V 601024 7293034 23 [(0, .ref a0), (1, .ref a1), (2, .ref a2), (3, .ref a3), (4, .int i4')] [] S rc rs) {S : zm_S} (h : zf_L_law_J5201 N k a0 a1 a2 a3 i4 rc rs S = some res) : zw p l e room_1 s m #[Value.ref zb] below meth c (lw_Z below #[Value.ref zb] s) 8 zk_E V 601024 7293034 5201 [(0, .ref a0), (1, .ref a1), (2, .ref a2), (3, .ref a3), (4, .int i4)] [] S rc rs := by
  unfold zf_L_law_J5201 at h
  refine zw_aload_n hX dL_law_5201 rfl ?_
  refine zw_aload_n hX dL_law_5202 rfl ?_
  refine zw_iload hX dL_law_5203 rfl ?_
  refine zw_iconst (v := (1 : Int32)) hX dL_law_5205 (by decide) ?_
  refine zw_iadd hX dL_law_5206 ?_
  obtain ⟨v830, g, h⟩ := zb_some h
  refine zw_xi hX dL_law_5207 g ?_
  refine zw_aload_n hX dL_law_5208 rfl ?_
  by_cases hb5209 : 2 ≤ rc ∧ 12 ≤ rs
  · rw [if_pos hb5209] at h
    obtain ⟨r833, g, h⟩ := zb_some h
    refine zc_S (as := [.ref a1, .int v830, .ref a3]) hX (zt_L_byteAt hlt (d := d - 1) (by omega) g) zl_L_498 dL_law_5209 ⟨rfl, rfl, Nat.le_of_ble_eq_true rfl⟩ ⟨by omega, by omega⟩ hb5209 ?_ ?_
    · rintro _ _ ⟨rfl, rfl⟩
      refine zw_istore hX dL_law_5212 (by decide) ?_
      refine zw_aload_n hX dL_law_5214 rfl ?_
      refine zw_aload_n hX dL_law_5215 rfl ?_
      refine zw_iload hX dL_law_5216 rfl ?_
      refine zw_iconst (v := (1 : Int32)) hX dL_law_5218 (by decide) ?_
      refine zw_iadd hX dL_law_5219 ?_
      obtain ⟨v834, g, h⟩ := zb_some h
      refine zw_xi hX dL_law_5220 g ?_
      obtain ⟨_, gi, h⟩ := zb_some h
      obtain ⟨r836, g, h⟩ := zb_some h
      refine zc_Vi (as := [.int v834]) hX gi (zt_X18_byteAt (d := d - 1) (by omega) g) zl_L_500 rfl dL_law_5221 ⟨rfl, rfl, Nat.le_of_ble_eq_true rfl⟩ ⟨by omega, by omega⟩ ?_
      refine zw_istore hX dL_law_5224 (by decide) ?_
      refine zw_aload_n hX dL_law_5226 rfl ?_
      obtain ⟨_, gi, h⟩ := zb_some h
      obtain ⟨r838, g, h⟩ := zb_some h
      refine zc_Vi (as := []) hX gi (zt_X18_thrown (d := d - 1) (by omega) g) zl_L_281 rfl dL_law_5227 ⟨rfl, rfl, Nat.le_of_ble_eq_true rfl⟩ ⟨by omega, by omega⟩ ?_
      refine zw_iload hX dL_law_5230 rfl ?_
      refine zw_icmp_eq (tgt := 5237) hX dL_law_5232 (by decide) (fun c5232 => ?_) (fun c5232 => ?_)
      · rw [if_pos c5232] at h
        refine zw_iload hX dL_law_5237 rfl ?_
        refine zw_if_ne (tgt := 5254) hX dL_law_5239 (by decide) (fun c5239 => ?_) (fun c5239 => ?_)
        · rw [if_neg c5239] at h
          refine zw_goto (tgt := 6002) hX dL_law_5254 (by decide) ?_
          refine zw_iinc (v := (i4 + (7 : Int32))) hX dL_law_6002 rfl rfl (by decide) ?_
          refine zw_goto (tgt := 23) hX dL_law_6005 (by decide) ?_
          refine zw_sub (lv' := [(0, .ref a0), (1, .ref a1), (2, .ref a2), (3, .ref a3), (4, .int (i4 + (7 : Int32)))]) (List.forall_mem_cons.mpr ⟨rfl, (List.forall_mem_cons.mpr ⟨rfl, (List.forall_mem_cons.mpr ⟨rfl, (List.forall_mem_cons.mpr ⟨rfl, (List.forall_mem_cons.mpr ⟨rfl, zs_nil⟩)⟩)⟩)⟩)⟩) ?_
          exact hrec _ _ _ _ h
        · rw [if_pos c5239] at h
          refine zw_aload_n hX dL_law_5242 rfl ?_
          refine zw_iconst (v := (0 : Int32)) hX dL_law_5243 (by decide) ?_
          obtain ⟨w839, g, h⟩ := zb_some h
          refine zw_xl hX dL_law_5244 g ?_
          refine zw_iload hX dL_law_5245 rfl ?_
          refine zw_i2l hX dL_law_5247 ?_
          refine zw_lcmp hX dL_law_5248 ?_
          refine zw_if_eq (tgt := 5254) hX dL_law_5249 (by decide) (fun c5249 => ?_) (fun c5249 => ?_)
          · rw [if_pos c5249] at h
            refine zw_goto (tgt := 6002) hX dL_law_5254 (by decide) ?_
            refine zw_iinc (v := (i4 + (7 : Int32))) hX dL_law_6002 rfl rfl (by decide) ?_
            refine zw_goto (tgt := 23) hX dL_law_6005 (by decide) ?_
            refine zw_sub (lv' := [(0, .ref a0), (1, .ref a1), (2, .ref a2), (3, .ref a3), (4, .int (i4 + (7 : Int32)))]) (List.forall_mem_cons.mpr ⟨rfl, (List.forall_mem_cons.mpr ⟨rfl, (List.forall_mem_cons.mpr ⟨rfl, (List.forall_mem_cons.mpr ⟨rfl, (List.forall_mem_cons.mpr ⟨rfl, zs_nil⟩)⟩)⟩)⟩)⟩) ?_
            exact hrec _ _ _ _ h
          · rw [if_neg c5249] at h
            refine zw_iconst (v := (0 : Int32)) hX dL_law_5252 (by decide) ?_
            cases h
      · rw [if_neg c5232] at h
        refine zw_iconst (v := (0 : Int32)) hX dL_law_5235 (by decide) ?_
        cases h
    · intro _ _ hx
      exact hx.elim
  · rw [if_neg hb5209] at h
    cases h
def zf_L_law_J5257 (N : Nat) (k : Nat → Nat → Nat → Nat → Int32 → Nat → Nat → zm_S → Option ((Int32 × zm_S) ⊕ ((Unit) × zm_S))) (a0 : Nat) (a1 : Nat) (a2 : Nat) (a3 : Nat) (i4 : Int32) (rc rs : Nat) (S : zm_S) : Option ((Int32 × zm_S) ⊕ ((Unit) × zm_S)) := (za_x S 0 a0 (i4 + (1 : Int32))).bind (fun v840 => (za_x S 0 a0 (i4 + (2 : Int32))).bind (fun v841 => if 2 ≤ rc ∧ 12 ≤ rs then (zf_L_car N a1 v840 v841 a3 S).bind (fun r844 => (za_x r844.2 0 a0 (i4 + (1 : Int32))).bind (fun v845 => (za_x r844.2 0 a0 (i4 + (2 : Int32))).bind (fun v846 => (zi r844.2 a2 18).bind (fun _ => (zf_X18_car N a2 v845 v846 r844.2).bind (fun r848 => (zi r848.2 a2 18).bind (fun _ => (zf_X18_thrown N a2 r848.2).bind (fun r850 => if r850.1 = r844.1 then if r844.1 = 0 then (za_l r850.2 a3 (0 : Int32)).bind (fun w851 => if (lg_cmp w851 ((r848.1).toInt64)) = 0 then k a0 a1 a2 a3 (i4 + (7 : Int32)) (rc - 2) (rs - 12) r850.2 else none) else k a0 a1 a2 a3 (i4 + (7 : Int32)) (rc - 2) (rs - 12) r850.2 else none))))))) else none))
set_option maxHeartbeats 4000000 in
set_option maxRecDepth 100000 in
theorem zt_L_law_J5257 {p : Program} {l : Launch} {e : Env} {s : State} {m : MethodId} {zb : Nat} {below : List Frame} {meth : Method} {c : Code} {V : zm_V} {d : Nat} {nm : String} (hlt : l.stackTraces = false) (hV : V.2.2.2.1 = s.heap.size) (hX : zm_X p room_1 s m #[Value.ref zb] meth c RL nm cL_law 8 zk_E V 601024 7293034) (hr : meth.sig.returnType = ret) (hR : d ≤ room_1.frames ∧ 64 * d ≤ room_1.locals) (hd : 46 ≤ d) {N : Nat} {k : Nat → Nat → Nat → Nat → Int32 → Nat → Nat → zm_S → Option ((Int32 × zm_S) ⊕ ((Unit) × zm_S))} {rc rs : Nat} {a0 : Nat} {a1 : Nat} {a2 : Nat} {a3 : Nat} {i4 : Int32} {res : (Int32 × zm_S) ⊕ ((Unit) × zm_S)} {out : (Int32 × zm_S)}   (hf : ∀ o, res = .inl o → o = out) (hk : ∀ (S' : zm_S) (rc rs : Nat), res = .inr ((), S') → zw p l e room_1 s m #[Value.ref zb] below meth c (lw_Z below #[Value.ref zb] s) 8 zk_E V 601024 7293034 6008 [] [] S' rc rs) (hrec : ∀ (i4' : Int32) (rc rs : Nat) (S : zm_S), k a0 a1 a2 a3 i4' rc rs S = some res → zw p l e room_1 s m #[Value.ref zb] below meth c (lw_Z below #[Value.ref zb] s) 8 zk_E V 601024 7293034 23 [(0, .ref a0), (1, .ref a1), (2, .ref a2), (3, .ref a3), (4, .int i4')] [] S rc rs) {S : zm_S} (h : zf_L_law_J5257 N k a0 a1 a2 a3 i4 rc rs S = some res) : zw p l e room_1 s m #[Value.ref zb] below meth c (lw_Z below #[Value.ref zb] s) 8 zk_E V 601024 7293034 5257 [(0, .ref a0), (1, .ref a1), (2, .ref a2), (3, .ref a3), (4, .int i4)] [] S rc rs := by
  unfold zf_L_law_J5257 at h
  refine zw_aload_n hX dL_law_5257 rfl ?_
  refine zw_aload_n hX dL_law_5258 rfl ?_
  refine zw_iload hX dL_law_5259 rfl ?_
  refine zw_iconst (v := (1 : Int32)) hX dL_law_5261 (by decide) ?_
  refine zw_iadd hX dL_law_5262 ?_
  obtain ⟨v840, g, h⟩ := zb_some h
  refine zw_xi hX dL_law_5263 g ?_
  refine zw_aload_n hX dL_law_5264 rfl ?_
  refine zw_iload hX dL_law_5265 rfl ?_
  refine zw_iconst (v := (2 : Int32)) hX dL_law_5267 (by decide) ?_
  refine zw_iadd hX dL_law_5268 ?_
  obtain ⟨v841, g, h⟩ := zb_some h
  refine zw_xi hX dL_law_5269 g ?_
  refine zw_aload_n hX dL_law_5270 rfl ?_
  by_cases hb5271 : 2 ≤ rc ∧ 12 ≤ rs
  · rw [if_pos hb5271] at h
    obtain ⟨r844, g, h⟩ := zb_some h
    refine zc_S (as := [.ref a1, .int v840, .int v841, .ref a3]) hX (zt_L_car hlt (d := d - 1) (by omega) g) zl_L_501 dL_law_5271 ⟨rfl, rfl, Nat.le_of_ble_eq_true rfl⟩ ⟨by omega, by omega⟩ hb5271 ?_ ?_
    · rintro _ _ ⟨rfl, rfl⟩
      refine zw_istore hX dL_law_5274 (by decide) ?_
      refine zw_aload_n hX dL_law_5276 rfl ?_
      refine zw_aload_n hX dL_law_5277 rfl ?_
      refine zw_iload hX dL_law_5278 rfl ?_
      refine zw_iconst (v := (1 : Int32)) hX dL_law_5280 (by decide) ?_
      refine zw_iadd hX dL_law_5281 ?_
      obtain ⟨v845, g, h⟩ := zb_some h
      refine zw_xi hX dL_law_5282 g ?_
      refine zw_aload_n hX dL_law_5283 rfl ?_
      refine zw_iload hX dL_law_5284 rfl ?_
      refine zw_iconst (v := (2 : Int32)) hX dL_law_5286 (by decide) ?_
      refine zw_iadd hX dL_law_5287 ?_
      obtain ⟨v846, g, h⟩ := zb_some h
      refine zw_xi hX dL_law_5288 g ?_
      obtain ⟨_, gi, h⟩ := zb_some h
      obtain ⟨r848, g, h⟩ := zb_some h
      refine zc_Vi (as := [.int v845, .int v846]) hX gi (zt_X18_car (d := d - 1) (by omega) g) zl_L_503 rfl dL_law_5289 ⟨rfl, rfl, Nat.le_of_ble_eq_true rfl⟩ ⟨by omega, by omega⟩ ?_
      refine zw_istore hX dL_law_5292 (by decide) ?_
      refine zw_aload_n hX dL_law_5294 rfl ?_
      obtain ⟨_, gi, h⟩ := zb_some h
      obtain ⟨r850, g, h⟩ := zb_some h
      refine zc_Vi (as := []) hX gi (zt_X18_thrown (d := d - 1) (by omega) g) zl_L_281 rfl dL_law_5295 ⟨rfl, rfl, Nat.le_of_ble_eq_true rfl⟩ ⟨by omega, by omega⟩ ?_
      refine zw_iload hX dL_law_5298 rfl ?_
      refine zw_icmp_eq (tgt := 5305) hX dL_law_5300 (by decide) (fun c5300 => ?_) (fun c5300 => ?_)
      · rw [if_pos c5300] at h
        refine zw_iload hX dL_law_5305 rfl ?_
        refine zw_if_ne (tgt := 5322) hX dL_law_5307 (by decide) (fun c5307 => ?_) (fun c5307 => ?_)
        · rw [if_neg c5307] at h
          refine zw_goto (tgt := 6002) hX dL_law_5322 (by decide) ?_
          refine zw_iinc (v := (i4 + (7 : Int32))) hX dL_law_6002 rfl rfl (by decide) ?_
          refine zw_goto (tgt := 23) hX dL_law_6005 (by decide) ?_
          refine zw_sub (lv' := [(0, .ref a0), (1, .ref a1), (2, .ref a2), (3, .ref a3), (4, .int (i4 + (7 : Int32)))]) (List.forall_mem_cons.mpr ⟨rfl, (List.forall_mem_cons.mpr ⟨rfl, (List.forall_mem_cons.mpr ⟨rfl, (List.forall_mem_cons.mpr ⟨rfl, (List.forall_mem_cons.mpr ⟨rfl, zs_nil⟩)⟩)⟩)⟩)⟩) ?_
          exact hrec _ _ _ _ h
        · rw [if_pos c5307] at h
          refine zw_aload_n hX dL_law_5310 rfl ?_
          refine zw_iconst (v := (0 : Int32)) hX dL_law_5311 (by decide) ?_
          obtain ⟨w851, g, h⟩ := zb_some h
          refine zw_xl hX dL_law_5312 g ?_
          refine zw_iload hX dL_law_5313 rfl ?_
          refine zw_i2l hX dL_law_5315 ?_
          refine zw_lcmp hX dL_law_5316 ?_
          refine zw_if_eq (tgt := 5322) hX dL_law_5317 (by decide) (fun c5317 => ?_) (fun c5317 => ?_)
          · rw [if_pos c5317] at h
            refine zw_goto (tgt := 6002) hX dL_law_5322 (by decide) ?_
            refine zw_iinc (v := (i4 + (7 : Int32))) hX dL_law_6002 rfl rfl (by decide) ?_
            refine zw_goto (tgt := 23) hX dL_law_6005 (by decide) ?_
            refine zw_sub (lv' := [(0, .ref a0), (1, .ref a1), (2, .ref a2), (3, .ref a3), (4, .int (i4 + (7 : Int32)))]) (List.forall_mem_cons.mpr ⟨rfl, (List.forall_mem_cons.mpr ⟨rfl, (List.forall_mem_cons.mpr ⟨rfl, (List.forall_mem_cons.mpr ⟨rfl, (List.forall_mem_cons.mpr ⟨rfl, zs_nil⟩)⟩)⟩)⟩)⟩) ?_
            exact hrec _ _ _ _ h
          · rw [if_neg c5317] at h
            refine zw_iconst (v := (0 : Int32)) hX dL_law_5320 (by decide) ?_
            cases h
      · rw [if_neg c5300] at h
        refine zw_iconst (v := (0 : Int32)) hX dL_law_5303 (by decide) ?_
        cases h
    · intro _ _ hx
      exact hx.elim
  · rw [if_neg hb5271] at h
    cases h
def zf_L_law_J5325 (N : Nat) (k : Nat → Nat → Nat → Nat → Int32 → Nat → Nat → zm_S → Option ((Int32 × zm_S) ⊕ ((Unit) × zm_S))) (a0 : Nat) (a1 : Nat) (a2 : Nat) (a3 : Nat) (i4 : Int32) (rc rs : Nat) (S : zm_S) : Option ((Int32 × zm_S) ⊕ ((Unit) × zm_S)) := (za_x S 0 a0 (i4 + (1 : Int32))).bind (fun v852 => (za_x S 0 a0 (i4 + (2 : Int32))).bind (fun v853 => (za_x S 0 a0 (i4 + (3 : Int32))).bind (fun v854 => if 2 ≤ rc ∧ 12 ≤ rs then (zf_L_free N a1 v852 v853 v854 S).bind (fun r857 => (za_x r857.2 0 a0 (i4 + (1 : Int32))).bind (fun v858 => (za_x r857.2 0 a0 (i4 + (2 : Int32))).bind (fun v859 => (za_x r857.2 0 a0 (i4 + (3 : Int32))).bind (fun v860 => (zi r857.2 a2 18).bind (fun _ => (zf_X18_free N a2 v858 v859 v860 r857.2).bind (fun r862 => (zi r862.2 a2 18).bind (fun _ => (zf_X18_thrown N a2 r862.2).bind (fun r864 => if r864.1 = r857.1 then k a0 a1 a2 a3 (i4 + (7 : Int32)) (rc - 2) (rs - 12) r864.2 else none)))))))) else none)))
set_option maxHeartbeats 4000000 in
set_option maxRecDepth 100000 in
theorem zt_L_law_J5325 {p : Program} {l : Launch} {e : Env} {s : State} {m : MethodId} {zb : Nat} {below : List Frame} {meth : Method} {c : Code} {V : zm_V} {d : Nat} {nm : String} (hlt : l.stackTraces = false) (hV : V.2.2.2.1 = s.heap.size) (hX : zm_X p room_1 s m #[Value.ref zb] meth c RL nm cL_law 8 zk_E V 601024 7293034) (hr : meth.sig.returnType = ret) (hR : d ≤ room_1.frames ∧ 64 * d ≤ room_1.locals) (hd : 46 ≤ d) {N : Nat} {k : Nat → Nat → Nat → Nat → Int32 → Nat → Nat → zm_S → Option ((Int32 × zm_S) ⊕ ((Unit) × zm_S))} {rc rs : Nat} {a0 : Nat} {a1 : Nat} {a2 : Nat} {a3 : Nat} {i4 : Int32} {res : (Int32 × zm_S) ⊕ ((Unit) × zm_S)} {out : (Int32 × zm_S)}   (hf : ∀ o, res = .inl o → o = out) (hk : ∀ (S' : zm_S) (rc rs : Nat), res = .inr ((), S') → zw p l e room_1 s m #[Value.ref zb] below meth c (lw_Z below #[Value.ref zb] s) 8 zk_E V 601024 7293034 6008 [] [] S' rc rs) (hrec : ∀ (i4' : Int32) (rc rs : Nat) (S : zm_S), k a0 a1 a2 a3 i4' rc rs S = some res → zw p l e room_1 s m #[Value.ref zb] below meth c (lw_Z below #[Value.ref zb] s) 8 zk_E V 601024 7293034 23 [(0, .ref a0), (1, .ref a1), (2, .ref a2), (3, .ref a3), (4, .int i4')] [] S rc rs) {S : zm_S} (h : zf_L_law_J5325 N k a0 a1 a2 a3 i4 rc rs S = some res) : zw p l e room_1 s m #[Value.ref zb] below meth c (lw_Z below #[Value.ref zb] s) 8 zk_E V 601024 7293034 5325 [(0, .ref a0), (1, .ref a1), (2, .ref a2), (3, .ref a3), (4, .int i4)] [] S rc rs := by
  unfold zf_L_law_J5325 at h
  refine zw_aload_n hX dL_law_5325 rfl ?_
  refine zw_aload_n hX dL_law_5326 rfl ?_
  refine zw_iload hX dL_law_5327 rfl ?_
  refine zw_iconst (v := (1 : Int32)) hX dL_law_5329 (by decide) ?_
  refine zw_iadd hX dL_law_5330 ?_
  obtain ⟨v852, g, h⟩ := zb_some h
  refine zw_xi hX dL_law_5331 g ?_
  refine zw_aload_n hX dL_law_5332 rfl ?_
  refine zw_iload hX dL_law_5333 rfl ?_
  refine zw_iconst (v := (2 : Int32)) hX dL_law_5335 (by decide) ?_
  refine zw_iadd hX dL_law_5336 ?_
  obtain ⟨v853, g, h⟩ := zb_some h
  refine zw_xi hX dL_law_5337 g ?_
  refine zw_aload_n hX dL_law_5338 rfl ?_
  refine zw_iload hX dL_law_5339 rfl ?_
  refine zw_iconst (v := (3 : Int32)) hX dL_law_5341 (by decide) ?_
  refine zw_iadd hX dL_law_5342 ?_
  obtain ⟨v854, g, h⟩ := zb_some h
  refine zw_xi hX dL_law_5343 g ?_
  by_cases hb5344 : 2 ≤ rc ∧ 12 ≤ rs
  · rw [if_pos hb5344] at h
    obtain ⟨r857, g, h⟩ := zb_some h
    refine zc_S (as := [.ref a1, .int v852, .int v853, .int v854]) hX (zt_L_free hlt (d := d - 1) (by omega) g) zl_L_504 dL_law_5344 ⟨rfl, rfl, Nat.le_of_ble_eq_true rfl⟩ ⟨by omega, by omega⟩ hb5344 ?_ ?_
    · rintro _ _ ⟨rfl, rfl⟩
      refine zw_istore hX dL_law_5347 (by decide) ?_
      refine zw_aload_n hX dL_law_5349 rfl ?_
      refine zw_aload_n hX dL_law_5350 rfl ?_
      refine zw_iload hX dL_law_5351 rfl ?_
      refine zw_iconst (v := (1 : Int32)) hX dL_law_5353 (by decide) ?_
      refine zw_iadd hX dL_law_5354 ?_
      obtain ⟨v858, g, h⟩ := zb_some h
      refine zw_xi hX dL_law_5355 g ?_
      refine zw_aload_n hX dL_law_5356 rfl ?_
      refine zw_iload hX dL_law_5357 rfl ?_
      refine zw_iconst (v := (2 : Int32)) hX dL_law_5359 (by decide) ?_
      refine zw_iadd hX dL_law_5360 ?_
      obtain ⟨v859, g, h⟩ := zb_some h
      refine zw_xi hX dL_law_5361 g ?_
      refine zw_aload_n hX dL_law_5362 rfl ?_
      refine zw_iload hX dL_law_5363 rfl ?_
      refine zw_iconst (v := (3 : Int32)) hX dL_law_5365 (by decide) ?_
      refine zw_iadd hX dL_law_5366 ?_
      obtain ⟨v860, g, h⟩ := zb_some h
      refine zw_xi hX dL_law_5367 g ?_
      obtain ⟨_, gi, h⟩ := zb_some h
      obtain ⟨r862, g, h⟩ := zb_some h
      refine zc_Vv (as := [.int v858, .int v859, .int v860]) hX gi (zt_X18_free (d := d - 1) (by omega) g) zl_L_506 rfl dL_law_5368 ⟨rfl, rfl, Nat.le_of_ble_eq_true rfl⟩ ⟨by omega, by omega⟩ ?_
      refine zw_aload_n hX dL_law_5371 rfl ?_
      obtain ⟨_, gi, h⟩ := zb_some h
      obtain ⟨r864, g, h⟩ := zb_some h
      refine zc_Vi (as := []) hX gi (zt_X18_thrown (d := d - 1) (by omega) g) zl_L_281 rfl dL_law_5372 ⟨rfl, rfl, Nat.le_of_ble_eq_true rfl⟩ ⟨by omega, by omega⟩ ?_
      refine zw_iload hX dL_law_5375 rfl ?_
      refine zw_icmp_eq (tgt := 5382) hX dL_law_5377 (by decide) (fun c5377 => ?_) (fun c5377 => ?_)
      · rw [if_pos c5377] at h
        refine zw_goto (tgt := 6002) hX dL_law_5382 (by decide) ?_
        refine zw_iinc (v := (i4 + (7 : Int32))) hX dL_law_6002 rfl rfl (by decide) ?_
        refine zw_goto (tgt := 23) hX dL_law_6005 (by decide) ?_
        refine zw_sub (lv' := [(0, .ref a0), (1, .ref a1), (2, .ref a2), (3, .ref a3), (4, .int (i4 + (7 : Int32)))]) (List.forall_mem_cons.mpr ⟨rfl, (List.forall_mem_cons.mpr ⟨rfl, (List.forall_mem_cons.mpr ⟨rfl, (List.forall_mem_cons.mpr ⟨rfl, (List.forall_mem_cons.mpr ⟨rfl, zs_nil⟩)⟩)⟩)⟩)⟩) ?_
        exact hrec _ _ _ _ h
      · rw [if_neg c5377] at h
        refine zw_iconst (v := (0 : Int32)) hX dL_law_5380 (by decide) ?_
        cases h
    · intro _ _ hx
      exact hx.elim
  · rw [if_neg hb5344] at h
    cases h
def zf_L_law_J5385 (N : Nat) (k : Nat → Nat → Nat → Nat → Int32 → Nat → Nat → zm_S → Option ((Int32 × zm_S) ⊕ ((Unit) × zm_S))) (a0 : Nat) (a1 : Nat) (a2 : Nat) (a3 : Nat) (i4 : Int32) (rc rs : Nat) (S : zm_S) : Option ((Int32 × zm_S) ⊕ ((Unit) × zm_S)) := (za_x S 0 a0 (i4 + (1 : Int32))).bind (fun v865 => (za_x S 0 a0 (i4 + (2 : Int32))).bind (fun v866 => (za_x S 0 a0 (i4 + (3 : Int32))).bind (fun v867 => if 2 ≤ rc ∧ 12 ≤ rs then (zf_L_span N a1 v865 v866 v867 S).bind (fun r870 => (za_x r870.2 0 a0 (i4 + (1 : Int32))).bind (fun v871 => (za_x r870.2 0 a0 (i4 + (2 : Int32))).bind (fun v872 => (za_x r870.2 0 a0 (i4 + (3 : Int32))).bind (fun v873 => (zi r870.2 a2 18).bind (fun _ => (zf_X18_span N a2 v871 v872 v873 r870.2).bind (fun r875 => (zi r875.2 a2 18).bind (fun _ => (zf_X18_thrown N a2 r875.2).bind (fun r877 => if r877.1 = r870.1 then k a0 a1 a2 a3 (i4 + (7 : Int32)) (rc - 2) (rs - 12) r877.2 else none)))))))) else none)))
set_option maxHeartbeats 4000000 in
set_option maxRecDepth 100000 in
theorem zt_L_law_J5385 {p : Program} {l : Launch} {e : Env} {s : State} {m : MethodId} {zb : Nat} {below : List Frame} {meth : Method} {c : Code} {V : zm_V} {d : Nat} {nm : String} (hlt : l.stackTraces = false) (hV : V.2.2.2.1 = s.heap.size) (hX : zm_X p room_1 s m #[Value.ref zb] meth c RL nm cL_law 8 zk_E V 601024 7293034) (hr : meth.sig.returnType = ret) (hR : d ≤ room_1.frames ∧ 64 * d ≤ room_1.locals) (hd : 46 ≤ d) {N : Nat} {k : Nat → Nat → Nat → Nat → Int32 → Nat → Nat → zm_S → Option ((Int32 × zm_S) ⊕ ((Unit) × zm_S))} {rc rs : Nat} {a0 : Nat} {a1 : Nat} {a2 : Nat} {a3 : Nat} {i4 : Int32} {res : (Int32 × zm_S) ⊕ ((Unit) × zm_S)} {out : (Int32 × zm_S)}   (hf : ∀ o, res = .inl o → o = out) (hk : ∀ (S' : zm_S) (rc rs : Nat), res = .inr ((), S') → zw p l e room_1 s m #[Value.ref zb] below meth c (lw_Z below #[Value.ref zb] s) 8 zk_E V 601024 7293034 6008 [] [] S' rc rs) (hrec : ∀ (i4' : Int32) (rc rs : Nat) (S : zm_S), k a0 a1 a2 a3 i4' rc rs S = some res → zw p l e room_1 s m #[Value.ref zb] below meth c (lw_Z below #[Value.ref zb] s) 8 zk_E V 601024 7293034 23 [(0, .ref a0), (1, .ref a1), (2, .ref a2), (3, .ref a3), (4, .int i4')] [] S rc rs) {S : zm_S} (h : zf_L_law_J5385 N k a0 a1 a2 a3 i4 rc rs S = some res) : zw p l e room_1 s m #[Value.ref zb] below meth c (lw_Z below #[Value.ref zb] s) 8 zk_E V 601024 7293034 5385 [(0, .ref a0), (1, .ref a1), (2, .ref a2), (3, .ref a3), (4, .int i4)] [] S rc rs := by
  unfold zf_L_law_J5385 at h
  refine zw_aload_n hX dL_law_5385 rfl ?_
  refine zw_aload_n hX dL_law_5386 rfl ?_
  refine zw_iload hX dL_law_5387 rfl ?_
  refine zw_iconst (v := (1 : Int32)) hX dL_law_5389 (by decide) ?_
  refine zw_iadd hX dL_law_5390 ?_
  obtain ⟨v865, g, h⟩ := zb_some h
  refine zw_xi hX dL_law_5391 g ?_
  refine zw_aload_n hX dL_law_5392 rfl ?_
  refine zw_iload hX dL_law_5393 rfl ?_
  refine zw_iconst (v := (2 : Int32)) hX dL_law_5395 (by decide) ?_
  refine zw_iadd hX dL_law_5396 ?_
  obtain ⟨v866, g, h⟩ := zb_some h
  refine zw_xi hX dL_law_5397 g ?_
  refine zw_aload_n hX dL_law_5398 rfl ?_
  refine zw_iload hX dL_law_5399 rfl ?_
  refine zw_iconst (v := (3 : Int32)) hX dL_law_5401 (by decide) ?_
  refine zw_iadd hX dL_law_5402 ?_
  obtain ⟨v867, g, h⟩ := zb_some h
  refine zw_xi hX dL_law_5403 g ?_
  by_cases hb5404 : 2 ≤ rc ∧ 12 ≤ rs
  · rw [if_pos hb5404] at h
    obtain ⟨r870, g, h⟩ := zb_some h
    refine zc_S (as := [.ref a1, .int v865, .int v866, .int v867]) hX (zt_L_span hlt (d := d - 1) (by omega) g) zl_L_507 dL_law_5404 ⟨rfl, rfl, Nat.le_of_ble_eq_true rfl⟩ ⟨by omega, by omega⟩ hb5404 ?_ ?_
    · rintro _ _ ⟨rfl, rfl⟩
      refine zw_istore hX dL_law_5407 (by decide) ?_
      refine zw_aload_n hX dL_law_5409 rfl ?_
      refine zw_aload_n hX dL_law_5410 rfl ?_
      refine zw_iload hX dL_law_5411 rfl ?_
      refine zw_iconst (v := (1 : Int32)) hX dL_law_5413 (by decide) ?_
      refine zw_iadd hX dL_law_5414 ?_
      obtain ⟨v871, g, h⟩ := zb_some h
      refine zw_xi hX dL_law_5415 g ?_
      refine zw_aload_n hX dL_law_5416 rfl ?_
      refine zw_iload hX dL_law_5417 rfl ?_
      refine zw_iconst (v := (2 : Int32)) hX dL_law_5419 (by decide) ?_
      refine zw_iadd hX dL_law_5420 ?_
      obtain ⟨v872, g, h⟩ := zb_some h
      refine zw_xi hX dL_law_5421 g ?_
      refine zw_aload_n hX dL_law_5422 rfl ?_
      refine zw_iload hX dL_law_5423 rfl ?_
      refine zw_iconst (v := (3 : Int32)) hX dL_law_5425 (by decide) ?_
      refine zw_iadd hX dL_law_5426 ?_
      obtain ⟨v873, g, h⟩ := zb_some h
      refine zw_xi hX dL_law_5427 g ?_
      obtain ⟨_, gi, h⟩ := zb_some h
      obtain ⟨r875, g, h⟩ := zb_some h
      refine zc_Vv (as := [.int v871, .int v872, .int v873]) hX gi (zt_X18_span (d := d - 1) (by omega) g) zl_L_509 rfl dL_law_5428 ⟨rfl, rfl, Nat.le_of_ble_eq_true rfl⟩ ⟨by omega, by omega⟩ ?_
      refine zw_aload_n hX dL_law_5431 rfl ?_
      obtain ⟨_, gi, h⟩ := zb_some h
      obtain ⟨r877, g, h⟩ := zb_some h
      refine zc_Vi (as := []) hX gi (zt_X18_thrown (d := d - 1) (by omega) g) zl_L_281 rfl dL_law_5432 ⟨rfl, rfl, Nat.le_of_ble_eq_true rfl⟩ ⟨by omega, by omega⟩ ?_
      refine zw_iload hX dL_law_5435 rfl ?_
      refine zw_icmp_eq (tgt := 5442) hX dL_law_5437 (by decide) (fun c5437 => ?_) (fun c5437 => ?_)
      · rw [if_pos c5437] at h
        refine zw_goto (tgt := 6002) hX dL_law_5442 (by decide) ?_
        refine zw_iinc (v := (i4 + (7 : Int32))) hX dL_law_6002 rfl rfl (by decide) ?_
        refine zw_goto (tgt := 23) hX dL_law_6005 (by decide) ?_
        refine zw_sub (lv' := [(0, .ref a0), (1, .ref a1), (2, .ref a2), (3, .ref a3), (4, .int (i4 + (7 : Int32)))]) (List.forall_mem_cons.mpr ⟨rfl, (List.forall_mem_cons.mpr ⟨rfl, (List.forall_mem_cons.mpr ⟨rfl, (List.forall_mem_cons.mpr ⟨rfl, (List.forall_mem_cons.mpr ⟨rfl, zs_nil⟩)⟩)⟩)⟩)⟩) ?_
        exact hrec _ _ _ _ h
      · rw [if_neg c5437] at h
        refine zw_iconst (v := (0 : Int32)) hX dL_law_5440 (by decide) ?_
        cases h
    · intro _ _ hx
      exact hx.elim
  · rw [if_neg hb5404] at h
    cases h
def zf_L_law_J5445 (N : Nat) (k : Nat → Nat → Nat → Nat → Int32 → Nat → Nat → zm_S → Option ((Int32 × zm_S) ⊕ ((Unit) × zm_S))) (a0 : Nat) (a1 : Nat) (a2 : Nat) (a3 : Nat) (i4 : Int32) (rc rs : Nat) (S : zm_S) : Option ((Int32 × zm_S) ⊕ ((Unit) × zm_S)) := (za_x S 0 a0 (i4 + (1 : Int32))).bind (fun v878 => (za_x S 0 a0 (i4 + (2 : Int32))).bind (fun v879 => if 2 ≤ rc ∧ 12 ≤ rs then (zf_L_call N a1 v878 v879 a3 S).bind (fun r882 => (za_x r882.2 0 a0 (i4 + (1 : Int32))).bind (fun v883 => (za_x r882.2 0 a0 (i4 + (2 : Int32))).bind (fun v884 => (zi r882.2 a2 18).bind (fun _ => (zf_X18_call N a2 v883 v884 r882.2).bind (fun r886 => (zi r886.2 a2 18).bind (fun _ => (zf_X18_thrown N a2 r886.2).bind (fun r888 => if r888.1 = r882.1 then if r882.1 = 0 then (za_l r888.2 a3 (0 : Int32)).bind (fun w889 => if (lg_cmp w889 ((r886.1).toInt64)) = 0 then k a0 a1 a2 a3 (i4 + (7 : Int32)) (rc - 2) (rs - 12) r888.2 else none) else k a0 a1 a2 a3 (i4 + (7 : Int32)) (rc - 2) (rs - 12) r888.2 else none))))))) else none))
set_option maxHeartbeats 4000000 in
set_option maxRecDepth 100000 in
theorem zt_L_law_J5445 {p : Program} {l : Launch} {e : Env} {s : State} {m : MethodId} {zb : Nat} {below : List Frame} {meth : Method} {c : Code} {V : zm_V} {d : Nat} {nm : String} (hlt : l.stackTraces = false) (hV : V.2.2.2.1 = s.heap.size) (hX : zm_X p room_1 s m #[Value.ref zb] meth c RL nm cL_law 8 zk_E V 601024 7293034) (hr : meth.sig.returnType = ret) (hR : d ≤ room_1.frames ∧ 64 * d ≤ room_1.locals) (hd : 46 ≤ d) {N : Nat} {k : Nat → Nat → Nat → Nat → Int32 → Nat → Nat → zm_S → Option ((Int32 × zm_S) ⊕ ((Unit) × zm_S))} {rc rs : Nat} {a0 : Nat} {a1 : Nat} {a2 : Nat} {a3 : Nat} {i4 : Int32} {res : (Int32 × zm_S) ⊕ ((Unit) × zm_S)} {out : (Int32 × zm_S)}   (hf : ∀ o, res = .inl o → o = out) (hk : ∀ (S' : zm_S) (rc rs : Nat), res = .inr ((), S') → zw p l e room_1 s m #[Value.ref zb] below meth c (lw_Z below #[Value.ref zb] s) 8 zk_E V 601024 7293034 6008 [] [] S' rc rs) (hrec : ∀ (i4' : Int32) (rc rs : Nat) (S : zm_S), k a0 a1 a2 a3 i4' rc rs S = some res → zw p l e room_1 s m #[Value.ref zb] below meth c (lw_Z below #[Value.ref zb] s) 8 zk_E V 601024 7293034 23 [(0, .ref a0), (1, .ref a1), (2, .ref a2), (3, .ref a3), (4, .int i4')] [] S rc rs) {S : zm_S} (h : zf_L_law_J5445 N k a0 a1 a2 a3 i4 rc rs S = some res) : zw p l e room_1 s m #[Value.ref zb] below meth c (lw_Z below #[Value.ref zb] s) 8 zk_E V 601024 7293034 5445 [(0, .ref a0), (1, .ref a1), (2, .ref a2), (3, .ref a3), (4, .int i4)] [] S rc rs := by
  unfold zf_L_law_J5445 at h
  refine zw_aload_n hX dL_law_5445 rfl ?_
  refine zw_aload_n hX dL_law_5446 rfl ?_
  refine zw_iload hX dL_law_5447 rfl ?_
  refine zw_iconst (v := (1 : Int32)) hX dL_law_5449 (by decide) ?_
  refine zw_iadd hX dL_law_5450 ?_
  obtain ⟨v878, g, h⟩ := zb_some h
  refine zw_xi hX dL_law_5451 g ?_
  refine zw_aload_n hX dL_law_5452 rfl ?_
  refine zw_iload hX dL_law_5453 rfl ?_
  refine zw_iconst (v := (2 : Int32)) hX dL_law_5455 (by decide) ?_
  refine zw_iadd hX dL_law_5456 ?_
  obtain ⟨v879, g, h⟩ := zb_some h
  refine zw_xi hX dL_law_5457 g ?_
  refine zw_aload_n hX dL_law_5458 rfl ?_
  by_cases hb5459 : 2 ≤ rc ∧ 12 ≤ rs
  · rw [if_pos hb5459] at h
    obtain ⟨r882, g, h⟩ := zb_some h
    refine zc_S (as := [.ref a1, .int v878, .int v879, .ref a3]) hX (zt_L_call hlt (d := d - 1) (by omega) g) zl_L_510 dL_law_5459 ⟨rfl, rfl, Nat.le_of_ble_eq_true rfl⟩ ⟨by omega, by omega⟩ hb5459 ?_ ?_
    · rintro _ _ ⟨rfl, rfl⟩
      refine zw_istore hX dL_law_5462 (by decide) ?_
      refine zw_aload_n hX dL_law_5464 rfl ?_
      refine zw_aload_n hX dL_law_5465 rfl ?_
      refine zw_iload hX dL_law_5466 rfl ?_
      refine zw_iconst (v := (1 : Int32)) hX dL_law_5468 (by decide) ?_
      refine zw_iadd hX dL_law_5469 ?_
      obtain ⟨v883, g, h⟩ := zb_some h
      refine zw_xi hX dL_law_5470 g ?_
      refine zw_aload_n hX dL_law_5471 rfl ?_
      refine zw_iload hX dL_law_5472 rfl ?_
      refine zw_iconst (v := (2 : Int32)) hX dL_law_5474 (by decide) ?_
      refine zw_iadd hX dL_law_5475 ?_
      obtain ⟨v884, g, h⟩ := zb_some h
      refine zw_xi hX dL_law_5476 g ?_
      obtain ⟨_, gi, h⟩ := zb_some h
      obtain ⟨r886, g, h⟩ := zb_some h
      refine zc_Vi (as := [.int v883, .int v884]) hX gi (zt_X18_call (d := d - 1) (by omega) g) zl_L_512 rfl dL_law_5477 ⟨rfl, rfl, Nat.le_of_ble_eq_true rfl⟩ ⟨by omega, by omega⟩ ?_
      refine zw_istore hX dL_law_5480 (by decide) ?_
      refine zw_aload_n hX dL_law_5482 rfl ?_
      obtain ⟨_, gi, h⟩ := zb_some h
      obtain ⟨r888, g, h⟩ := zb_some h
      refine zc_Vi (as := []) hX gi (zt_X18_thrown (d := d - 1) (by omega) g) zl_L_281 rfl dL_law_5483 ⟨rfl, rfl, Nat.le_of_ble_eq_true rfl⟩ ⟨by omega, by omega⟩ ?_
      refine zw_iload hX dL_law_5486 rfl ?_
      refine zw_icmp_eq (tgt := 5493) hX dL_law_5488 (by decide) (fun c5488 => ?_) (fun c5488 => ?_)
      · rw [if_pos c5488] at h
        refine zw_iload hX dL_law_5493 rfl ?_
        refine zw_if_ne (tgt := 5510) hX dL_law_5495 (by decide) (fun c5495 => ?_) (fun c5495 => ?_)
        · rw [if_neg c5495] at h
          refine zw_goto (tgt := 6002) hX dL_law_5510 (by decide) ?_
          refine zw_iinc (v := (i4 + (7 : Int32))) hX dL_law_6002 rfl rfl (by decide) ?_
          refine zw_goto (tgt := 23) hX dL_law_6005 (by decide) ?_
          refine zw_sub (lv' := [(0, .ref a0), (1, .ref a1), (2, .ref a2), (3, .ref a3), (4, .int (i4 + (7 : Int32)))]) (List.forall_mem_cons.mpr ⟨rfl, (List.forall_mem_cons.mpr ⟨rfl, (List.forall_mem_cons.mpr ⟨rfl, (List.forall_mem_cons.mpr ⟨rfl, (List.forall_mem_cons.mpr ⟨rfl, zs_nil⟩)⟩)⟩)⟩)⟩) ?_
          exact hrec _ _ _ _ h
        · rw [if_pos c5495] at h
          refine zw_aload_n hX dL_law_5498 rfl ?_
          refine zw_iconst (v := (0 : Int32)) hX dL_law_5499 (by decide) ?_
          obtain ⟨w889, g, h⟩ := zb_some h
          refine zw_xl hX dL_law_5500 g ?_
          refine zw_iload hX dL_law_5501 rfl ?_
          refine zw_i2l hX dL_law_5503 ?_
          refine zw_lcmp hX dL_law_5504 ?_
          refine zw_if_eq (tgt := 5510) hX dL_law_5505 (by decide) (fun c5505 => ?_) (fun c5505 => ?_)
          · rw [if_pos c5505] at h
            refine zw_goto (tgt := 6002) hX dL_law_5510 (by decide) ?_
            refine zw_iinc (v := (i4 + (7 : Int32))) hX dL_law_6002 rfl rfl (by decide) ?_
            refine zw_goto (tgt := 23) hX dL_law_6005 (by decide) ?_
            refine zw_sub (lv' := [(0, .ref a0), (1, .ref a1), (2, .ref a2), (3, .ref a3), (4, .int (i4 + (7 : Int32)))]) (List.forall_mem_cons.mpr ⟨rfl, (List.forall_mem_cons.mpr ⟨rfl, (List.forall_mem_cons.mpr ⟨rfl, (List.forall_mem_cons.mpr ⟨rfl, (List.forall_mem_cons.mpr ⟨rfl, zs_nil⟩)⟩)⟩)⟩)⟩) ?_
            exact hrec _ _ _ _ h
          · rw [if_neg c5505] at h
            refine zw_iconst (v := (0 : Int32)) hX dL_law_5508 (by decide) ?_
            cases h
      · rw [if_neg c5488] at h
        refine zw_iconst (v := (0 : Int32)) hX dL_law_5491 (by decide) ?_
        cases h
    · intro _ _ hx
      exact hx.elim
  · rw [if_neg hb5459] at h
    cases h
def zf_L_law_J5579 (N : Nat) (k : Nat → Nat → Nat → Nat → Int32 → Nat → Nat → zm_S → Option ((Int32 × zm_S) ⊕ ((Unit) × zm_S))) (a0 : Nat) (a1 : Nat) (a2 : Nat) (a3 : Nat) (i4 : Int32) (t0 : Int64) (t1 : Int64) (rc rs : Nat) (S : zm_S) : Option ((Int32 × zm_S) ⊕ ((Unit) × zm_S)) := if (lg_cmp t0 t1) = 0 then k a0 a1 a2 a3 (i4 + (7 : Int32)) rc rs S else none
set_option maxHeartbeats 4000000 in
set_option maxRecDepth 100000 in
theorem zt_L_law_J5579 {p : Program} {l : Launch} {e : Env} {s : State} {m : MethodId} {zb : Nat} {below : List Frame} {meth : Method} {c : Code} {V : zm_V} {d : Nat} {nm : String} (hlt : l.stackTraces = false) (hV : V.2.2.2.1 = s.heap.size) (hX : zm_X p room_1 s m #[Value.ref zb] meth c RL nm cL_law 8 zk_E V 601024 7293034) (hr : meth.sig.returnType = ret) (hR : d ≤ room_1.frames ∧ 64 * d ≤ room_1.locals) (hd : 46 ≤ d) {N : Nat} {k : Nat → Nat → Nat → Nat → Int32 → Nat → Nat → zm_S → Option ((Int32 × zm_S) ⊕ ((Unit) × zm_S))} {rc rs : Nat} {a0 : Nat} {a1 : Nat} {a2 : Nat} {a3 : Nat} {i4 : Int32} {t0 : Int64} {t1 : Int64} {res : (Int32 × zm_S) ⊕ ((Unit) × zm_S)} {out : (Int32 × zm_S)}   (hf : ∀ o, res = .inl o → o = out) (hk : ∀ (S' : zm_S) (rc rs : Nat), res = .inr ((), S') → zw p l e room_1 s m #[Value.ref zb] below meth c (lw_Z below #[Value.ref zb] s) 8 zk_E V 601024 7293034 6008 [] [] S' rc rs) (hrec : ∀ (i4' : Int32) (rc rs : Nat) (S : zm_S), k a0 a1 a2 a3 i4' rc rs S = some res → zw p l e room_1 s m #[Value.ref zb] below meth c (lw_Z below #[Value.ref zb] s) 8 zk_E V 601024 7293034 23 [(0, .ref a0), (1, .ref a1), (2, .ref a2), (3, .ref a3), (4, .int i4')] [] S rc rs) {S : zm_S} (h : zf_L_law_J5579 N k a0 a1 a2 a3 i4 t0 t1 rc rs S = some res) : zw p l e room_1 s m #[Value.ref zb] below meth c (lw_Z below #[Value.ref zb] s) 8 zk_E V 601024 7293034 5579 [(0, .ref a0), (1, .ref a1), (2, .ref a2), (3, .ref a3), (4, .int i4)] [.long t1, .long t0] S rc rs := by
  unfold zf_L_law_J5579 at h
  refine zw_lcmp hX dL_law_5579 ?_
  refine zw_if_eq (tgt := 5585) hX dL_law_5580 (by decide) (fun c5580 => ?_) (fun c5580 => ?_)
  · rw [if_pos c5580] at h
    refine zw_goto (tgt := 6002) hX dL_law_5585 (by decide) ?_
    refine zw_iinc (v := (i4 + (7 : Int32))) hX dL_law_6002 rfl rfl (by decide) ?_
    refine zw_goto (tgt := 23) hX dL_law_6005 (by decide) ?_
    refine zw_sub (lv' := [(0, .ref a0), (1, .ref a1), (2, .ref a2), (3, .ref a3), (4, .int (i4 + (7 : Int32)))]) (List.forall_mem_cons.mpr ⟨rfl, (List.forall_mem_cons.mpr ⟨rfl, (List.forall_mem_cons.mpr ⟨rfl, (List.forall_mem_cons.mpr ⟨rfl, (List.forall_mem_cons.mpr ⟨rfl, zs_nil⟩)⟩)⟩)⟩)⟩) ?_
    exact hrec _ _ _ _ h
  · rw [if_neg c5580] at h
    refine zw_iconst (v := (0 : Int32)) hX dL_law_5583 (by decide) ?_
    cases h
def zf_L_law_J5513 (N : Nat) (k : Nat → Nat → Nat → Nat → Int32 → Nat → Nat → zm_S → Option ((Int32 × zm_S) ⊕ ((Unit) × zm_S))) (a0 : Nat) (a1 : Nat) (a2 : Nat) (a3 : Nat) (i4 : Int32) (rc rs : Nat) (S : zm_S) : Option ((Int32 × zm_S) ⊕ ((Unit) × zm_S)) := (za_x S 0 a0 (i4 + (1 : Int32))).bind (fun v890 => (za_x S 0 a0 (i4 + (2 : Int32))).bind (fun v891 => if 2 ≤ rc ∧ 12 ≤ rs then (zf_L_begin N a1 v890 v891 a3 S).bind (fun r894 => (za_x r894.2 0 a0 (i4 + (1 : Int32))).bind (fun v895 => (za_x r894.2 0 a0 (i4 + (2 : Int32))).bind (fun v896 => (zi r894.2 a2 18).bind (fun _ => (zf_X18_begin N a2 v895 v896 r894.2).bind (fun r898 => (zi r898.2 a2 18).bind (fun _ => (zf_X18_thrown N a2 r898.2).bind (fun r900 => if r900.1 = r894.1 then if r894.1 = 0 then (za_l r900.2 a3 (0 : Int32)).bind (fun w901 => if r898.1 = 0 then zf_L_law_J5579 N (k) a0 a1 a2 a3 i4 w901 (0 : Int64) (rc - 2) (rs - 12) r900.2 else zf_L_law_J5579 N (k) a0 a1 a2 a3 i4 w901 (1 : Int64) (rc - 2) (rs - 12) r900.2) else k a0 a1 a2 a3 (i4 + (7 : Int32)) (rc - 2) (rs - 12) r900.2 else none))))))) else none))
set_option maxHeartbeats 4000000 in
set_option maxRecDepth 100000 in
theorem zt_L_law_J5513 {p : Program} {l : Launch} {e : Env} {s : State} {m : MethodId} {zb : Nat} {below : List Frame} {meth : Method} {c : Code} {V : zm_V} {d : Nat} {nm : String} (hlt : l.stackTraces = false) (hV : V.2.2.2.1 = s.heap.size) (hX : zm_X p room_1 s m #[Value.ref zb] meth c RL nm cL_law 8 zk_E V 601024 7293034) (hr : meth.sig.returnType = ret) (hR : d ≤ room_1.frames ∧ 64 * d ≤ room_1.locals) (hd : 46 ≤ d) {N : Nat} {k : Nat → Nat → Nat → Nat → Int32 → Nat → Nat → zm_S → Option ((Int32 × zm_S) ⊕ ((Unit) × zm_S))} {rc rs : Nat} {a0 : Nat} {a1 : Nat} {a2 : Nat} {a3 : Nat} {i4 : Int32} {res : (Int32 × zm_S) ⊕ ((Unit) × zm_S)} {out : (Int32 × zm_S)}   (hf : ∀ o, res = .inl o → o = out) (hk : ∀ (S' : zm_S) (rc rs : Nat), res = .inr ((), S') → zw p l e room_1 s m #[Value.ref zb] below meth c (lw_Z below #[Value.ref zb] s) 8 zk_E V 601024 7293034 6008 [] [] S' rc rs) (hrec : ∀ (i4' : Int32) (rc rs : Nat) (S : zm_S), k a0 a1 a2 a3 i4' rc rs S = some res → zw p l e room_1 s m #[Value.ref zb] below meth c (lw_Z below #[Value.ref zb] s) 8 zk_E V 601024 7293034 23 [(0, .ref a0), (1, .ref a1), (2, .ref a2), (3, .ref a3), (4, .int i4')] [] S rc rs) {S : zm_S} (h : zf_L_law_J5513 N k a0 a1 a2 a3 i4 rc rs S = some res) : zw p l e room_1 s m #[Value.ref zb] below meth c (lw_Z below #[Value.ref zb] s) 8 zk_E V 601024 7293034 5513 [(0, .ref a0), (1, .ref a1), (2, .ref a2), (3, .ref a3), (4, .int i4)] [] S rc rs := by
  unfold zf_L_law_J5513 at h
  refine zw_aload_n hX dL_law_5513 rfl ?_
  refine zw_aload_n hX dL_law_5514 rfl ?_
  refine zw_iload hX dL_law_5515 rfl ?_
  refine zw_iconst (v := (1 : Int32)) hX dL_law_5517 (by decide) ?_
  refine zw_iadd hX dL_law_5518 ?_
  obtain ⟨v890, g, h⟩ := zb_some h
  refine zw_xi hX dL_law_5519 g ?_
  refine zw_aload_n hX dL_law_5520 rfl ?_
  refine zw_iload hX dL_law_5521 rfl ?_
  refine zw_iconst (v := (2 : Int32)) hX dL_law_5523 (by decide) ?_
  refine zw_iadd hX dL_law_5524 ?_
  obtain ⟨v891, g, h⟩ := zb_some h
  refine zw_xi hX dL_law_5525 g ?_
  refine zw_aload_n hX dL_law_5526 rfl ?_
  by_cases hb5527 : 2 ≤ rc ∧ 12 ≤ rs
  · rw [if_pos hb5527] at h
    obtain ⟨r894, g, h⟩ := zb_some h
    refine zc_S (as := [.ref a1, .int v890, .int v891, .ref a3]) hX (zt_L_begin hlt (d := d - 1) (by omega) g) zl_L_513 dL_law_5527 ⟨rfl, rfl, Nat.le_of_ble_eq_true rfl⟩ ⟨by omega, by omega⟩ hb5527 ?_ ?_
    · rintro _ _ ⟨rfl, rfl⟩
      refine zw_istore hX dL_law_5530 (by decide) ?_
      refine zw_aload_n hX dL_law_5532 rfl ?_
      refine zw_aload_n hX dL_law_5533 rfl ?_
      refine zw_iload hX dL_law_5534 rfl ?_
      refine zw_iconst (v := (1 : Int32)) hX dL_law_5536 (by decide) ?_
      refine zw_iadd hX dL_law_5537 ?_
      obtain ⟨v895, g, h⟩ := zb_some h
      refine zw_xi hX dL_law_5538 g ?_
      refine zw_aload_n hX dL_law_5539 rfl ?_
      refine zw_iload hX dL_law_5540 rfl ?_
      refine zw_iconst (v := (2 : Int32)) hX dL_law_5542 (by decide) ?_
      refine zw_iadd hX dL_law_5543 ?_
      obtain ⟨v896, g, h⟩ := zb_some h
      refine zw_xi hX dL_law_5544 g ?_
      obtain ⟨_, gi, h⟩ := zb_some h
      obtain ⟨r898, g, h⟩ := zb_some h
      refine zc_Vi (as := [.int v895, .int v896]) hX gi (zt_X18_begin (d := d - 1) (by omega) g) zl_L_515 rfl dL_law_5545 ⟨rfl, rfl, Nat.le_of_ble_eq_true rfl⟩ ⟨by omega, by omega⟩ ?_
      refine zw_istore hX dL_law_5548 (by decide) ?_
      refine zw_aload_n hX dL_law_5550 rfl ?_
      obtain ⟨_, gi, h⟩ := zb_some h
      obtain ⟨r900, g, h⟩ := zb_some h
      refine zc_Vi (as := []) hX gi (zt_X18_thrown (d := d - 1) (by omega) g) zl_L_281 rfl dL_law_5551 ⟨rfl, rfl, Nat.le_of_ble_eq_true rfl⟩ ⟨by omega, by omega⟩ ?_
      refine zw_iload hX dL_law_5554 rfl ?_
      refine zw_icmp_eq (tgt := 5561) hX dL_law_5556 (by decide) (fun c5556 => ?_) (fun c5556 => ?_)
      · rw [if_pos c5556] at h
        refine zw_iload hX dL_law_5561 rfl ?_
        refine zw_if_ne (tgt := 5585) hX dL_law_5563 (by decide) (fun c5563 => ?_) (fun c5563 => ?_)
        · rw [if_neg c5563] at h
          refine zw_goto (tgt := 6002) hX dL_law_5585 (by decide) ?_
          refine zw_iinc (v := (i4 + (7 : Int32))) hX dL_law_6002 rfl rfl (by decide) ?_
          refine zw_goto (tgt := 23) hX dL_law_6005 (by decide) ?_
          refine zw_sub (lv' := [(0, .ref a0), (1, .ref a1), (2, .ref a2), (3, .ref a3), (4, .int (i4 + (7 : Int32)))]) (List.forall_mem_cons.mpr ⟨rfl, (List.forall_mem_cons.mpr ⟨rfl, (List.forall_mem_cons.mpr ⟨rfl, (List.forall_mem_cons.mpr ⟨rfl, (List.forall_mem_cons.mpr ⟨rfl, zs_nil⟩)⟩)⟩)⟩)⟩) ?_
          exact hrec _ _ _ _ h
        · rw [if_pos c5563] at h
          refine zw_aload_n hX dL_law_5566 rfl ?_
          refine zw_iconst (v := (0 : Int32)) hX dL_law_5567 (by decide) ?_
          obtain ⟨w901, g, h⟩ := zb_some h
          refine zw_xl hX dL_law_5568 g ?_
          refine zw_iload hX dL_law_5569 rfl ?_
          refine zw_if_eq (tgt := 5578) hX dL_law_5571 (by decide) (fun c5571 => ?_) (fun c5571 => ?_)
          · rw [if_pos c5571] at h
            refine zw_lconst (v := (0 : Int64)) hX dL_law_5578 (by decide) ?_
            refine zw_sub (lv' := [(0, .ref a0), (1, .ref a1), (2, .ref a2), (3, .ref a3), (4, .int i4)]) (List.forall_mem_cons.mpr ⟨rfl, (List.forall_mem_cons.mpr ⟨rfl, (List.forall_mem_cons.mpr ⟨rfl, (List.forall_mem_cons.mpr ⟨rfl, (List.forall_mem_cons.mpr ⟨rfl, zs_nil⟩)⟩)⟩)⟩)⟩) ?_
            exact zt_L_law_J5579 hlt hV hX hr hR hd hf hk hrec h
          · rw [if_neg c5571] at h
            refine zw_lconst (v := (1 : Int64)) hX dL_law_5574 (by decide) ?_
            refine zw_goto (tgt := 5579) hX dL_law_5575 (by decide) ?_
            refine zw_sub (lv' := [(0, .ref a0), (1, .ref a1), (2, .ref a2), (3, .ref a3), (4, .int i4)]) (List.forall_mem_cons.mpr ⟨rfl, (List.forall_mem_cons.mpr ⟨rfl, (List.forall_mem_cons.mpr ⟨rfl, (List.forall_mem_cons.mpr ⟨rfl, (List.forall_mem_cons.mpr ⟨rfl, zs_nil⟩)⟩)⟩)⟩)⟩) ?_
            exact zt_L_law_J5579 hlt hV hX hr hR hd hf hk hrec h
      · rw [if_neg c5556] at h
        refine zw_iconst (v := (0 : Int32)) hX dL_law_5559 (by decide) ?_
        cases h
    · intro _ _ hx
      exact hx.elim
  · rw [if_neg hb5527] at h
    cases h
def zf_L_law_J5588 (N : Nat) (k : Nat → Nat → Nat → Nat → Int32 → Nat → Nat → zm_S → Option ((Int32 × zm_S) ⊕ ((Unit) × zm_S))) (a0 : Nat) (a1 : Nat) (a2 : Nat) (a3 : Nat) (i4 : Int32) (rc rs : Nat) (S : zm_S) : Option ((Int32 × zm_S) ⊕ ((Unit) × zm_S)) := (za_x S 0 a0 (i4 + (1 : Int32))).bind (fun v902 => if 2 ≤ rc ∧ 12 ≤ rs then (zf_L_done N a1 v902 S).bind (fun r905 => (za_x r905.2 0 a0 (i4 + (1 : Int32))).bind (fun v906 => (zi r905.2 a2 18).bind (fun _ => (zf_X18_done N a2 v906 r905.2).bind (fun r908 => (zi r908.2 a2 18).bind (fun _ => (zf_X18_thrown N a2 r908.2).bind (fun r910 => if r910.1 = r905.1 then k a0 a1 a2 a3 (i4 + (7 : Int32)) (rc - 2) (rs - 12) r910.2 else none)))))) else none)
set_option maxHeartbeats 4000000 in
set_option maxRecDepth 100000 in
theorem zt_L_law_J5588 {p : Program} {l : Launch} {e : Env} {s : State} {m : MethodId} {zb : Nat} {below : List Frame} {meth : Method} {c : Code} {V : zm_V} {d : Nat} {nm : String} (hlt : l.stackTraces = false) (hV : V.2.2.2.1 = s.heap.size) (hX : zm_X p room_1 s m #[Value.ref zb] meth c RL nm cL_law 8 zk_E V 601024 7293034) (hr : meth.sig.returnType = ret) (hR : d ≤ room_1.frames ∧ 64 * d ≤ room_1.locals) (hd : 46 ≤ d) {N : Nat} {k : Nat → Nat → Nat → Nat → Int32 → Nat → Nat → zm_S → Option ((Int32 × zm_S) ⊕ ((Unit) × zm_S))} {rc rs : Nat} {a0 : Nat} {a1 : Nat} {a2 : Nat} {a3 : Nat} {i4 : Int32} {res : (Int32 × zm_S) ⊕ ((Unit) × zm_S)} {out : (Int32 × zm_S)}   (hf : ∀ o, res = .inl o → o = out) (hk : ∀ (S' : zm_S) (rc rs : Nat), res = .inr ((), S') → zw p l e room_1 s m #[Value.ref zb] below meth c (lw_Z below #[Value.ref zb] s) 8 zk_E V 601024 7293034 6008 [] [] S' rc rs) (hrec : ∀ (i4' : Int32) (rc rs : Nat) (S : zm_S), k a0 a1 a2 a3 i4' rc rs S = some res → zw p l e room_1 s m #[Value.ref zb] below meth c (lw_Z below #[Value.ref zb] s) 8 zk_E V 601024 7293034 23 [(0, .ref a0), (1, .ref a1), (2, .ref a2), (3, .ref a3), (4, .int i4')] [] S rc rs) {S : zm_S} (h : zf_L_law_J5588 N k a0 a1 a2 a3 i4 rc rs S = some res) : zw p l e room_1 s m #[Value.ref zb] below meth c (lw_Z below #[Value.ref zb] s) 8 zk_E V 601024 7293034 5588 [(0, .ref a0), (1, .ref a1), (2, .ref a2), (3, .ref a3), (4, .int i4)] [] S rc rs := by
  unfold zf_L_law_J5588 at h
  refine zw_aload_n hX dL_law_5588 rfl ?_
  refine zw_aload_n hX dL_law_5589 rfl ?_
  refine zw_iload hX dL_law_5590 rfl ?_
  refine zw_iconst (v := (1 : Int32)) hX dL_law_5592 (by decide) ?_
  refine zw_iadd hX dL_law_5593 ?_
  obtain ⟨v902, g, h⟩ := zb_some h
  refine zw_xi hX dL_law_5594 g ?_
  by_cases hb5595 : 2 ≤ rc ∧ 12 ≤ rs
  · rw [if_pos hb5595] at h
    obtain ⟨r905, g, h⟩ := zb_some h
    refine zc_S (as := [.ref a1, .int v902]) hX (zt_L_done hlt (d := d - 1) (by omega) g) zl_L_516 dL_law_5595 ⟨rfl, rfl, Nat.le_of_ble_eq_true rfl⟩ ⟨by omega, by omega⟩ hb5595 ?_ ?_
    · rintro _ _ ⟨rfl, rfl⟩
      refine zw_istore hX dL_law_5598 (by decide) ?_
      refine zw_aload_n hX dL_law_5600 rfl ?_
      refine zw_aload_n hX dL_law_5601 rfl ?_
      refine zw_iload hX dL_law_5602 rfl ?_
      refine zw_iconst (v := (1 : Int32)) hX dL_law_5604 (by decide) ?_
      refine zw_iadd hX dL_law_5605 ?_
      obtain ⟨v906, g, h⟩ := zb_some h
      refine zw_xi hX dL_law_5606 g ?_
      obtain ⟨_, gi, h⟩ := zb_some h
      obtain ⟨r908, g, h⟩ := zb_some h
      refine zc_Vv (as := [.int v906]) hX gi (zt_X18_done (d := d - 1) (by omega) g) zl_L_519 rfl dL_law_5607 ⟨rfl, rfl, Nat.le_of_ble_eq_true rfl⟩ ⟨by omega, by omega⟩ ?_
      refine zw_aload_n hX dL_law_5610 rfl ?_
      obtain ⟨_, gi, h⟩ := zb_some h
      obtain ⟨r910, g, h⟩ := zb_some h
      refine zc_Vi (as := []) hX gi (zt_X18_thrown (d := d - 1) (by omega) g) zl_L_281 rfl dL_law_5611 ⟨rfl, rfl, Nat.le_of_ble_eq_true rfl⟩ ⟨by omega, by omega⟩ ?_
      refine zw_iload hX dL_law_5614 rfl ?_
      refine zw_icmp_eq (tgt := 5621) hX dL_law_5616 (by decide) (fun c5616 => ?_) (fun c5616 => ?_)
      · rw [if_pos c5616] at h
        refine zw_goto (tgt := 6002) hX dL_law_5621 (by decide) ?_
        refine zw_iinc (v := (i4 + (7 : Int32))) hX dL_law_6002 rfl rfl (by decide) ?_
        refine zw_goto (tgt := 23) hX dL_law_6005 (by decide) ?_
        refine zw_sub (lv' := [(0, .ref a0), (1, .ref a1), (2, .ref a2), (3, .ref a3), (4, .int (i4 + (7 : Int32)))]) (List.forall_mem_cons.mpr ⟨rfl, (List.forall_mem_cons.mpr ⟨rfl, (List.forall_mem_cons.mpr ⟨rfl, (List.forall_mem_cons.mpr ⟨rfl, (List.forall_mem_cons.mpr ⟨rfl, zs_nil⟩)⟩)⟩)⟩)⟩) ?_
        exact hrec _ _ _ _ h
      · rw [if_neg c5616] at h
        refine zw_iconst (v := (0 : Int32)) hX dL_law_5619 (by decide) ?_
        cases h
    · intro _ _ hx
      exact hx.elim
  · rw [if_neg hb5595] at h
    cases h
