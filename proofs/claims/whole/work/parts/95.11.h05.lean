/-! ===== functions of methods, by program (wip/whole/tools/gen11.py) ===== -/


set_option maxHeartbeats 4000000 in
set_option maxRecDepth 100000 in
theorem zt_L_law_J376 {p : Program} {l : Launch} {e : Env} {s : State} {m : MethodId} {zb : Nat} {below : List Frame} {meth : Method} {c : Code} {V : zm_V} {d : Nat} {nm : String} (hlt : l.stackTraces = false) (hV : V.2.2.2.1 = s.heap.size) (hX : zm_X p room_1 s m #[Value.ref zb] meth c RL nm cL_law 8 zk_E V 601024 7293034) (hr : meth.sig.returnType = ret) (hR : d ≤ room_1.frames ∧ 64 * d ≤ room_1.locals) (hd : 46 ≤ d) {N : Nat} {k : Nat → Nat → Nat → Nat → Int32 → Nat → Nat → zm_S → Option ((Int32 × zm_S) ⊕ ((Unit) × zm_S))} {rc rs : Nat} {a0 : Nat} {a1 : Nat} {a2 : Nat} {a3 : Nat} {i4 : Int32} {res : (Int32 × zm_S) ⊕ ((Unit) × zm_S)} {out : (Int32 × zm_S)}   (hf : ∀ o, res = .inl o → o = out) (hk : ∀ (S' : zm_S) (rc rs : Nat), res = .inr ((), S') → zw p l e room_1 s m #[Value.ref zb] below meth c (lw_Z below #[Value.ref zb] s) 8 zk_E V 601024 7293034 6008 [] [] S' rc rs) (hrec : ∀ (i4' : Int32) (rc rs : Nat) (S : zm_S), k a0 a1 a2 a3 i4' rc rs S = some res → zw p l e room_1 s m #[Value.ref zb] below meth c (lw_Z below #[Value.ref zb] s) 8 zk_E V 601024 7293034 23 [(0, .ref a0), (1, .ref a1), (2, .ref a2), (3, .ref a3), (4, .int i4')] [] S rc rs) {S : zm_S} (h : zf_L_law_J376 N k a0 a1 a2 a3 i4 rc rs S = some res) : zw p l e room_1 s m #[Value.ref zb] below meth c (lw_Z below #[Value.ref zb] s) 8 zk_E V 601024 7293034 376 [(0, .ref a0), (1, .ref a1), (2, .ref a2), (3, .ref a3), (4, .int i4)] [] S rc rs := by
  unfold zf_L_law_J376 at h
  refine zw_aload_n hX dL_law_376 rfl ?_
  refine zw_aload_n hX dL_law_377 rfl ?_
  refine zw_iload hX dL_law_378 rfl ?_
  refine zw_iconst (v := (1 : Int32)) hX dL_law_380 (by decide) ?_
  refine zw_iadd hX dL_law_381 ?_
  obtain ⟨v12, g, h⟩ := zb_some h
  refine zw_xi hX dL_law_382 g ?_
  refine zw_aload_n hX dL_law_383 rfl ?_
  refine zw_iload hX dL_law_384 rfl ?_
  refine zw_iconst (v := (2 : Int32)) hX dL_law_386 (by decide) ?_
  refine zw_iadd hX dL_law_387 ?_
  obtain ⟨v13, g, h⟩ := zb_some h
  refine zw_xi hX dL_law_388 g ?_
  refine zw_aload_n hX dL_law_389 rfl ?_
  refine zw_iload hX dL_law_390 rfl ?_
  refine zw_iconst (v := (3 : Int32)) hX dL_law_392 (by decide) ?_
  refine zw_iadd hX dL_law_393 ?_
  obtain ⟨v14, g, h⟩ := zb_some h
  refine zw_xi hX dL_law_394 g ?_
  refine zw_aload_n hX dL_law_395 rfl ?_
  refine zw_iload hX dL_law_396 rfl ?_
  refine zw_iconst (v := (4 : Int32)) hX dL_law_398 (by decide) ?_
  refine zw_iadd hX dL_law_399 ?_
  obtain ⟨v15, g, h⟩ := zb_some h
  refine zw_xi hX dL_law_400 g ?_
  refine zw_aload_n hX dL_law_401 rfl ?_
  by_cases hb402 : 3 ≤ rc ∧ 18 ≤ rs
  · rw [if_pos hb402] at h
    obtain ⟨r18, g, h⟩ := zb_some h
    refine zc_SH (as := [.ref a1, .int v12, .int v13, .int v14, .int v15, .ref a3]) hX (zt_L_line hlt (d := d - 1) (by omega) g) zl_L_275 dL_law_402 ⟨rfl, rfl, Nat.le_of_ble_eq_true rfl⟩ ⟨by omega, by omega⟩ hb402 ?_ ?_
    · rintro _ _ ⟨rfl, rfl⟩
      refine zw_istore hX dL_law_405 (by decide) ?_
      refine zw_aload_n hX dL_law_407 rfl ?_
      refine zw_aload_n hX dL_law_408 rfl ?_
      refine zw_iload hX dL_law_409 rfl ?_
      refine zw_iconst (v := (1 : Int32)) hX dL_law_411 (by decide) ?_
      refine zw_iadd hX dL_law_412 ?_
      obtain ⟨v19, g, h⟩ := zb_some h
      refine zw_xi hX dL_law_413 g ?_
      refine zw_aload_n hX dL_law_414 rfl ?_
      refine zw_iload hX dL_law_415 rfl ?_
      refine zw_iconst (v := (2 : Int32)) hX dL_law_417 (by decide) ?_
      refine zw_iadd hX dL_law_418 ?_
      obtain ⟨v20, g, h⟩ := zb_some h
      refine zw_xi hX dL_law_419 g ?_
      refine zw_aload_n hX dL_law_420 rfl ?_
      refine zw_iload hX dL_law_421 rfl ?_
      refine zw_iconst (v := (3 : Int32)) hX dL_law_423 (by decide) ?_
      refine zw_iadd hX dL_law_424 ?_
      obtain ⟨v21, g, h⟩ := zb_some h
      refine zw_xi hX dL_law_425 g ?_
      refine zw_aload_n hX dL_law_426 rfl ?_
      refine zw_iload hX dL_law_427 rfl ?_
      refine zw_iconst (v := (4 : Int32)) hX dL_law_429 (by decide) ?_
      refine zw_iadd hX dL_law_430 ?_
      obtain ⟨v22, g, h⟩ := zb_some h
      refine zw_xi hX dL_law_431 g ?_
      obtain ⟨_, gi, h⟩ := zb_some h
      obtain ⟨r24, g, h⟩ := zb_some h
      refine zc_Vi (as := [.int v19, .int v20, .int v21, .int v22]) hX gi (zt_X18_line (d := d - 1) (by omega) g) zl_L_280 rfl dL_law_432 ⟨rfl, rfl, Nat.le_of_ble_eq_true rfl⟩ ⟨by omega, by omega⟩ ?_
      refine zw_istore hX dL_law_435 (by decide) ?_
      refine zw_aload_n hX dL_law_437 rfl ?_
      obtain ⟨_, gi, h⟩ := zb_some h
      obtain ⟨r26, g, h⟩ := zb_some h
      refine zc_Vi (as := []) hX gi (zt_X18_thrown (d := d - 1) (by omega) g) zl_L_281 rfl dL_law_438 ⟨rfl, rfl, Nat.le_of_ble_eq_true rfl⟩ ⟨by omega, by omega⟩ ?_
      refine zw_iload hX dL_law_441 rfl ?_
      refine zw_icmp_eq (tgt := 448) hX dL_law_443 (by decide) (fun c443 => ?_) (fun c443 => ?_)
      · rw [if_pos c443] at h
        refine zw_iload hX dL_law_448 rfl ?_
        refine zw_if_ne (tgt := 465) hX dL_law_450 (by decide) (fun c450 => ?_) (fun c450 => ?_)
        · rw [if_neg c450] at h
          refine zw_goto (tgt := 6002) hX dL_law_465 (by decide) ?_
          refine zw_iinc (v := (i4 + (7 : Int32))) hX dL_law_6002 rfl rfl (by decide) ?_
          refine zw_goto (tgt := 23) hX dL_law_6005 (by decide) ?_
          refine zw_sub (lv' := [(0, .ref a0), (1, .ref a1), (2, .ref a2), (3, .ref a3), (4, .int (i4 + (7 : Int32)))]) (List.forall_mem_cons.mpr ⟨rfl, (List.forall_mem_cons.mpr ⟨rfl, (List.forall_mem_cons.mpr ⟨rfl, (List.forall_mem_cons.mpr ⟨rfl, (List.forall_mem_cons.mpr ⟨rfl, zs_nil⟩)⟩)⟩)⟩)⟩) ?_
          exact hrec _ _ _ _ h
        · rw [if_pos c450] at h
          refine zw_aload_n hX dL_law_453 rfl ?_
          refine zw_iconst (v := (0 : Int32)) hX dL_law_454 (by decide) ?_
          obtain ⟨w27, g, h⟩ := zb_some h
          refine zw_xl hX dL_law_455 g ?_
          refine zw_iload hX dL_law_456 rfl ?_
          refine zw_i2l hX dL_law_458 ?_
          refine zw_lcmp hX dL_law_459 ?_
          refine zw_if_eq (tgt := 465) hX dL_law_460 (by decide) (fun c460 => ?_) (fun c460 => ?_)
          · rw [if_pos c460] at h
            refine zw_goto (tgt := 6002) hX dL_law_465 (by decide) ?_
            refine zw_iinc (v := (i4 + (7 : Int32))) hX dL_law_6002 rfl rfl (by decide) ?_
            refine zw_goto (tgt := 23) hX dL_law_6005 (by decide) ?_
            refine zw_sub (lv' := [(0, .ref a0), (1, .ref a1), (2, .ref a2), (3, .ref a3), (4, .int (i4 + (7 : Int32)))]) (List.forall_mem_cons.mpr ⟨rfl, (List.forall_mem_cons.mpr ⟨rfl, (List.forall_mem_cons.mpr ⟨rfl, (List.forall_mem_cons.mpr ⟨rfl, (List.forall_mem_cons.mpr ⟨rfl, zs_nil⟩)⟩)⟩)⟩)⟩) ?_
            exact hrec _ _ _ _ h
          · rw [if_neg c460] at h
            refine zw_iconst (v := (0 : Int32)) hX dL_law_463 (by decide) ?_
            cases h
      · rw [if_neg c443] at h
        refine zw_iconst (v := (0 : Int32)) hX dL_law_446 (by decide) ?_
        cases h
    · intro _ _ hx
      exact hx.elim
  · rw [if_neg hb402] at h
    cases h
set_option maxHeartbeats 4000000 in
set_option maxRecDepth 100000 in
theorem zt_L_law_J546 {p : Program} {l : Launch} {e : Env} {s : State} {m : MethodId} {zb : Nat} {below : List Frame} {meth : Method} {c : Code} {V : zm_V} {d : Nat} {nm : String} (hlt : l.stackTraces = false) (hV : V.2.2.2.1 = s.heap.size) (hX : zm_X p room_1 s m #[Value.ref zb] meth c RL nm cL_law 8 zk_E V 601024 7293034) (hr : meth.sig.returnType = ret) (hR : d ≤ room_1.frames ∧ 64 * d ≤ room_1.locals) (hd : 46 ≤ d) {N : Nat} {k : Nat → Nat → Nat → Nat → Int32 → Nat → Nat → zm_S → Option ((Int32 × zm_S) ⊕ ((Unit) × zm_S))} {rc rs : Nat} {a0 : Nat} {a1 : Nat} {a2 : Nat} {a3 : Nat} {i4 : Int32} {t0 : Int64} {t1 : Int64} {res : (Int32 × zm_S) ⊕ ((Unit) × zm_S)} {out : (Int32 × zm_S)}   (hf : ∀ o, res = .inl o → o = out) (hk : ∀ (S' : zm_S) (rc rs : Nat), res = .inr ((), S') → zw p l e room_1 s m #[Value.ref zb] below meth c (lw_Z below #[Value.ref zb] s) 8 zk_E V 601024 7293034 6008 [] [] S' rc rs) (hrec : ∀ (i4' : Int32) (rc rs : Nat) (S : zm_S), k a0 a1 a2 a3 i4' rc rs S = some res → zw p l e room_1 s m #[Value.ref zb] below meth c (lw_Z below #[Value.ref zb] s) 8 zk_E V 601024 7293034 23 [(0, .ref a0), (1, .ref a1), (2, .ref a2), (3, .ref a3), (4, .int i4')] [] S rc rs) {S : zm_S} (h : zf_L_law_J546 N k a0 a1 a2 a3 i4 t0 t1 rc rs S = some res) : zw p l e room_1 s m #[Value.ref zb] below meth c (lw_Z below #[Value.ref zb] s) 8 zk_E V 601024 7293034 546 [(0, .ref a0), (1, .ref a1), (2, .ref a2), (3, .ref a3), (4, .int i4)] [.long t1, .long t0] S rc rs := by
  unfold zf_L_law_J546 at h
  refine zw_lcmp hX dL_law_546 ?_
  refine zw_if_eq (tgt := 552) hX dL_law_547 (by decide) (fun c547 => ?_) (fun c547 => ?_)
  · rw [if_pos c547] at h
    refine zw_goto (tgt := 6002) hX dL_law_552 (by decide) ?_
    refine zw_iinc (v := (i4 + (7 : Int32))) hX dL_law_6002 rfl rfl (by decide) ?_
    refine zw_goto (tgt := 23) hX dL_law_6005 (by decide) ?_
    refine zw_sub (lv' := [(0, .ref a0), (1, .ref a1), (2, .ref a2), (3, .ref a3), (4, .int (i4 + (7 : Int32)))]) (List.forall_mem_cons.mpr ⟨rfl, (List.forall_mem_cons.mpr ⟨rfl, (List.forall_mem_cons.mpr ⟨rfl, (List.forall_mem_cons.mpr ⟨rfl, (List.forall_mem_cons.mpr ⟨rfl, zs_nil⟩)⟩)⟩)⟩)⟩) ?_
    exact hrec _ _ _ _ h
  · rw [if_neg c547] at h
    refine zw_iconst (v := (0 : Int32)) hX dL_law_550 (by decide) ?_
    cases h
set_option maxHeartbeats 4000000 in
set_option maxRecDepth 100000 in
theorem zt_L_law_J468 {p : Program} {l : Launch} {e : Env} {s : State} {m : MethodId} {zb : Nat} {below : List Frame} {meth : Method} {c : Code} {V : zm_V} {d : Nat} {nm : String} (hlt : l.stackTraces = false) (hV : V.2.2.2.1 = s.heap.size) (hX : zm_X p room_1 s m #[Value.ref zb] meth c RL nm cL_law 8 zk_E V 601024 7293034) (hr : meth.sig.returnType = ret) (hR : d ≤ room_1.frames ∧ 64 * d ≤ room_1.locals) (hd : 46 ≤ d) {N : Nat} {k : Nat → Nat → Nat → Nat → Int32 → Nat → Nat → zm_S → Option ((Int32 × zm_S) ⊕ ((Unit) × zm_S))} {rc rs : Nat} {a0 : Nat} {a1 : Nat} {a2 : Nat} {a3 : Nat} {i4 : Int32} {res : (Int32 × zm_S) ⊕ ((Unit) × zm_S)} {out : (Int32 × zm_S)}   (hf : ∀ o, res = .inl o → o = out) (hk : ∀ (S' : zm_S) (rc rs : Nat), res = .inr ((), S') → zw p l e room_1 s m #[Value.ref zb] below meth c (lw_Z below #[Value.ref zb] s) 8 zk_E V 601024 7293034 6008 [] [] S' rc rs) (hrec : ∀ (i4' : Int32) (rc rs : Nat) (S : zm_S), k a0 a1 a2 a3 i4' rc rs S = some res → zw p l e room_1 s m #[Value.ref zb] below meth c (lw_Z below #[Value.ref zb] s) 8 zk_E V 601024 7293034 23 [(0, .ref a0), (1, .ref a1), (2, .ref a2), (3, .ref a3), (4, .int i4')] [] S rc rs) {S : zm_S} (h : zf_L_law_J468 N k a0 a1 a2 a3 i4 rc rs S = some res) : zw p l e room_1 s m #[Value.ref zb] below meth c (lw_Z below #[Value.ref zb] s) 8 zk_E V 601024 7293034 468 [(0, .ref a0), (1, .ref a1), (2, .ref a2), (3, .ref a3), (4, .int i4)] [] S rc rs := by
  unfold zf_L_law_J468 at h
  refine zw_aload_n hX dL_law_468 rfl ?_
  refine zw_aload_n hX dL_law_469 rfl ?_
  refine zw_iload hX dL_law_470 rfl ?_
  refine zw_iconst (v := (1 : Int32)) hX dL_law_472 (by decide) ?_
  refine zw_iadd hX dL_law_473 ?_
  obtain ⟨v28, g, h⟩ := zb_some h
  refine zw_xi hX dL_law_474 g ?_
  refine zw_aload_n hX dL_law_475 rfl ?_
  refine zw_iload hX dL_law_476 rfl ?_
  refine zw_iconst (v := (2 : Int32)) hX dL_law_478 (by decide) ?_
  refine zw_iadd hX dL_law_479 ?_
  obtain ⟨v29, g, h⟩ := zb_some h
  refine zw_xi hX dL_law_480 g ?_
  refine zw_aload_n hX dL_law_481 rfl ?_
  refine zw_iload hX dL_law_482 rfl ?_
  refine zw_iconst (v := (3 : Int32)) hX dL_law_484 (by decide) ?_
  refine zw_iadd hX dL_law_485 ?_
  obtain ⟨v30, g, h⟩ := zb_some h
  refine zw_xi hX dL_law_486 g ?_
  refine zw_aload_n hX dL_law_487 rfl ?_
  by_cases hb488 : 2 ≤ rc ∧ 12 ≤ rs
  · rw [if_pos hb488] at h
    obtain ⟨r33, g, h⟩ := zb_some h
    refine zc_SH (as := [.ref a1, .int v28, .int v29, .int v30, .ref a3]) hX (zt_L_move hlt (d := d - 1) (by omega) g) zl_L_284 dL_law_488 ⟨rfl, rfl, Nat.le_of_ble_eq_true rfl⟩ ⟨by omega, by omega⟩ hb488 ?_ ?_
    · rintro _ _ ⟨rfl, rfl⟩
      refine zw_istore hX dL_law_491 (by decide) ?_
      refine zw_aload_n hX dL_law_493 rfl ?_
      refine zw_aload_n hX dL_law_494 rfl ?_
      refine zw_iload hX dL_law_495 rfl ?_
      refine zw_iconst (v := (1 : Int32)) hX dL_law_497 (by decide) ?_
      refine zw_iadd hX dL_law_498 ?_
      obtain ⟨v34, g, h⟩ := zb_some h
      refine zw_xi hX dL_law_499 g ?_
      refine zw_aload_n hX dL_law_500 rfl ?_
      refine zw_iload hX dL_law_501 rfl ?_
      refine zw_iconst (v := (2 : Int32)) hX dL_law_503 (by decide) ?_
      refine zw_iadd hX dL_law_504 ?_
      obtain ⟨v35, g, h⟩ := zb_some h
      refine zw_xi hX dL_law_505 g ?_
      refine zw_aload_n hX dL_law_506 rfl ?_
      refine zw_iload hX dL_law_507 rfl ?_
      refine zw_iconst (v := (3 : Int32)) hX dL_law_509 (by decide) ?_
      refine zw_iadd hX dL_law_510 ?_
      obtain ⟨v36, g, h⟩ := zb_some h
      refine zw_xi hX dL_law_511 g ?_
      obtain ⟨_, gi, h⟩ := zb_some h
      obtain ⟨r38, g, h⟩ := zb_some h
      refine zc_Vi (as := [.int v34, .int v35, .int v36]) hX gi (zt_X18_move (d := d - 1) (by omega) g) zl_L_287 rfl dL_law_512 ⟨rfl, rfl, Nat.le_of_ble_eq_true rfl⟩ ⟨by omega, by omega⟩ ?_
      refine zw_istore hX dL_law_515 (by decide) ?_
      refine zw_aload_n hX dL_law_517 rfl ?_
      obtain ⟨_, gi, h⟩ := zb_some h
      obtain ⟨r40, g, h⟩ := zb_some h
      refine zc_Vi (as := []) hX gi (zt_X18_thrown (d := d - 1) (by omega) g) zl_L_281 rfl dL_law_518 ⟨rfl, rfl, Nat.le_of_ble_eq_true rfl⟩ ⟨by omega, by omega⟩ ?_
      refine zw_iload hX dL_law_521 rfl ?_
      refine zw_icmp_eq (tgt := 528) hX dL_law_523 (by decide) (fun c523 => ?_) (fun c523 => ?_)
      · rw [if_pos c523] at h
        refine zw_iload hX dL_law_528 rfl ?_
        refine zw_if_ne (tgt := 552) hX dL_law_530 (by decide) (fun c530 => ?_) (fun c530 => ?_)
        · rw [if_neg c530] at h
          refine zw_goto (tgt := 6002) hX dL_law_552 (by decide) ?_
          refine zw_iinc (v := (i4 + (7 : Int32))) hX dL_law_6002 rfl rfl (by decide) ?_
          refine zw_goto (tgt := 23) hX dL_law_6005 (by decide) ?_
          refine zw_sub (lv' := [(0, .ref a0), (1, .ref a1), (2, .ref a2), (3, .ref a3), (4, .int (i4 + (7 : Int32)))]) (List.forall_mem_cons.mpr ⟨rfl, (List.forall_mem_cons.mpr ⟨rfl, (List.forall_mem_cons.mpr ⟨rfl, (List.forall_mem_cons.mpr ⟨rfl, (List.forall_mem_cons.mpr ⟨rfl, zs_nil⟩)⟩)⟩)⟩)⟩) ?_
          exact hrec _ _ _ _ h
        · rw [if_pos c530] at h
          refine zw_aload_n hX dL_law_533 rfl ?_
          refine zw_iconst (v := (0 : Int32)) hX dL_law_534 (by decide) ?_
          obtain ⟨w41, g, h⟩ := zb_some h
          refine zw_xl hX dL_law_535 g ?_
          refine zw_iload hX dL_law_536 rfl ?_
          refine zw_if_eq (tgt := 545) hX dL_law_538 (by decide) (fun c538 => ?_) (fun c538 => ?_)
          · rw [if_pos c538] at h
            refine zw_lconst (v := (0 : Int64)) hX dL_law_545 (by decide) ?_
            refine zw_sub (lv' := [(0, .ref a0), (1, .ref a1), (2, .ref a2), (3, .ref a3), (4, .int i4)]) (List.forall_mem_cons.mpr ⟨rfl, (List.forall_mem_cons.mpr ⟨rfl, (List.forall_mem_cons.mpr ⟨rfl, (List.forall_mem_cons.mpr ⟨rfl, (List.forall_mem_cons.mpr ⟨rfl, zs_nil⟩)⟩)⟩)⟩)⟩) ?_
            exact zt_L_law_J546 hlt hV hX hr hR hd hf hk hrec h
          · rw [if_neg c538] at h
            refine zw_lconst (v := (1 : Int64)) hX dL_law_541 (by decide) ?_
            refine zw_goto (tgt := 546) hX dL_law_542 (by decide) ?_
            refine zw_sub (lv' := [(0, .ref a0), (1, .ref a1), (2, .ref a2), (3, .ref a3), (4, .int i4)]) (List.forall_mem_cons.mpr ⟨rfl, (List.forall_mem_cons.mpr ⟨rfl, (List.forall_mem_cons.mpr ⟨rfl, (List.forall_mem_cons.mpr ⟨rfl, (List.forall_mem_cons.mpr ⟨rfl, zs_nil⟩)⟩)⟩)⟩)⟩) ?_
            exact zt_L_law_J546 hlt hV hX hr hR hd hf hk hrec h
      · rw [if_neg c523] at h
        refine zw_iconst (v := (0 : Int32)) hX dL_law_526 (by decide) ?_
        cases h
    · intro _ _ hx
      exact hx.elim
  · rw [if_neg hb488] at h
    cases h
set_option maxHeartbeats 4000000 in
set_option maxRecDepth 100000 in
theorem zt_L_law_J555 {p : Program} {l : Launch} {e : Env} {s : State} {m : MethodId} {zb : Nat} {below : List Frame} {meth : Method} {c : Code} {V : zm_V} {d : Nat} {nm : String} (hlt : l.stackTraces = false) (hV : V.2.2.2.1 = s.heap.size) (hX : zm_X p room_1 s m #[Value.ref zb] meth c RL nm cL_law 8 zk_E V 601024 7293034) (hr : meth.sig.returnType = ret) (hR : d ≤ room_1.frames ∧ 64 * d ≤ room_1.locals) (hd : 46 ≤ d) {N : Nat} {k : Nat → Nat → Nat → Nat → Int32 → Nat → Nat → zm_S → Option ((Int32 × zm_S) ⊕ ((Unit) × zm_S))} {rc rs : Nat} {a0 : Nat} {a1 : Nat} {a2 : Nat} {a3 : Nat} {i4 : Int32} {res : (Int32 × zm_S) ⊕ ((Unit) × zm_S)} {out : (Int32 × zm_S)}   (hf : ∀ o, res = .inl o → o = out) (hk : ∀ (S' : zm_S) (rc rs : Nat), res = .inr ((), S') → zw p l e room_1 s m #[Value.ref zb] below meth c (lw_Z below #[Value.ref zb] s) 8 zk_E V 601024 7293034 6008 [] [] S' rc rs) (hrec : ∀ (i4' : Int32) (rc rs : Nat) (S : zm_S), k a0 a1 a2 a3 i4' rc rs S = some res → zw p l e room_1 s m #[Value.ref zb] below meth c (lw_Z below #[Value.ref zb] s) 8 zk_E V 601024 7293034 23 [(0, .ref a0), (1, .ref a1), (2, .ref a2), (3, .ref a3), (4, .int i4')] [] S rc rs) {S : zm_S} (h : zf_L_law_J555 N k a0 a1 a2 a3 i4 rc rs S = some res) : zw p l e room_1 s m #[Value.ref zb] below meth c (lw_Z below #[Value.ref zb] s) 8 zk_E V 601024 7293034 555 [(0, .ref a0), (1, .ref a1), (2, .ref a2), (3, .ref a3), (4, .int i4)] [] S rc rs := by
  unfold zf_L_law_J555 at h
  refine zw_aload_n hX dL_law_555 rfl ?_
  refine zw_aload_n hX dL_law_556 rfl ?_
  refine zw_iload hX dL_law_557 rfl ?_
  refine zw_iconst (v := (1 : Int32)) hX dL_law_559 (by decide) ?_
  refine zw_iadd hX dL_law_560 ?_
  obtain ⟨v42, g, h⟩ := zb_some h
  refine zw_xi hX dL_law_561 g ?_
  refine zw_aload_n hX dL_law_562 rfl ?_
  refine zw_iload hX dL_law_563 rfl ?_
  refine zw_iconst (v := (2 : Int32)) hX dL_law_565 (by decide) ?_
  refine zw_iadd hX dL_law_566 ?_
  obtain ⟨v43, g, h⟩ := zb_some h
  refine zw_xi hX dL_law_567 g ?_
  refine zw_aload_n hX dL_law_568 rfl ?_
  refine zw_iload hX dL_law_569 rfl ?_
  refine zw_iconst (v := (3 : Int32)) hX dL_law_571 (by decide) ?_
  refine zw_iadd hX dL_law_572 ?_
  obtain ⟨v44, g, h⟩ := zb_some h
  refine zw_xi hX dL_law_573 g ?_
  refine zw_aload_n hX dL_law_574 rfl ?_
  refine zw_iload hX dL_law_575 rfl ?_
  refine zw_iconst (v := (4 : Int32)) hX dL_law_577 (by decide) ?_
  refine zw_iadd hX dL_law_578 ?_
  obtain ⟨v45, g, h⟩ := zb_some h
  refine zw_xi hX dL_law_579 g ?_
  refine zw_aload_n hX dL_law_580 rfl ?_
  by_cases hb581 : 3 ≤ rc ∧ 18 ≤ rs
  · rw [if_pos hb581] at h
    obtain ⟨r48, g, h⟩ := zb_some h
    refine zc_SH (as := [.ref a1, .int v42, .int v43, .int v44, .int v45, .ref a3]) hX (zt_L_door hlt (d := d - 1) (by omega) g) zl_L_288 dL_law_581 ⟨rfl, rfl, Nat.le_of_ble_eq_true rfl⟩ ⟨by omega, by omega⟩ hb581 ?_ ?_
    · rintro _ _ ⟨rfl, rfl⟩
      refine zw_istore hX dL_law_584 (by decide) ?_
      refine zw_aload_n hX dL_law_586 rfl ?_
      refine zw_aload_n hX dL_law_587 rfl ?_
      refine zw_iload hX dL_law_588 rfl ?_
      refine zw_iconst (v := (1 : Int32)) hX dL_law_590 (by decide) ?_
      refine zw_iadd hX dL_law_591 ?_
      obtain ⟨v49, g, h⟩ := zb_some h
      refine zw_xi hX dL_law_592 g ?_
      refine zw_aload_n hX dL_law_593 rfl ?_
      refine zw_iload hX dL_law_594 rfl ?_
      refine zw_iconst (v := (2 : Int32)) hX dL_law_596 (by decide) ?_
      refine zw_iadd hX dL_law_597 ?_
      obtain ⟨v50, g, h⟩ := zb_some h
      refine zw_xi hX dL_law_598 g ?_
      refine zw_aload_n hX dL_law_599 rfl ?_
      refine zw_iload hX dL_law_600 rfl ?_
      refine zw_iconst (v := (3 : Int32)) hX dL_law_602 (by decide) ?_
      refine zw_iadd hX dL_law_603 ?_
      obtain ⟨v51, g, h⟩ := zb_some h
      refine zw_xi hX dL_law_604 g ?_
      refine zw_aload_n hX dL_law_605 rfl ?_
      refine zw_iload hX dL_law_606 rfl ?_
      refine zw_iconst (v := (4 : Int32)) hX dL_law_608 (by decide) ?_
      refine zw_iadd hX dL_law_609 ?_
      obtain ⟨v52, g, h⟩ := zb_some h
      refine zw_xi hX dL_law_610 g ?_
      obtain ⟨_, gi, h⟩ := zb_some h
      obtain ⟨r54, g, h⟩ := zb_some h
      refine zc_Vi (as := [.int v49, .int v50, .int v51, .int v52]) hX gi (zt_X18_door (d := d - 1) (by omega) g) zl_L_290 rfl dL_law_611 ⟨rfl, rfl, Nat.le_of_ble_eq_true rfl⟩ ⟨by omega, by omega⟩ ?_
      refine zw_istore hX dL_law_614 (by decide) ?_
      refine zw_aload_n hX dL_law_616 rfl ?_
      obtain ⟨_, gi, h⟩ := zb_some h
      obtain ⟨r56, g, h⟩ := zb_some h
      refine zc_Vi (as := []) hX gi (zt_X18_thrown (d := d - 1) (by omega) g) zl_L_281 rfl dL_law_617 ⟨rfl, rfl, Nat.le_of_ble_eq_true rfl⟩ ⟨by omega, by omega⟩ ?_
      refine zw_iload hX dL_law_620 rfl ?_
      refine zw_icmp_eq (tgt := 627) hX dL_law_622 (by decide) (fun c622 => ?_) (fun c622 => ?_)
      · rw [if_pos c622] at h
        refine zw_iload hX dL_law_627 rfl ?_
        refine zw_if_ne (tgt := 644) hX dL_law_629 (by decide) (fun c629 => ?_) (fun c629 => ?_)
        · rw [if_neg c629] at h
          refine zw_goto (tgt := 6002) hX dL_law_644 (by decide) ?_
          refine zw_iinc (v := (i4 + (7 : Int32))) hX dL_law_6002 rfl rfl (by decide) ?_
          refine zw_goto (tgt := 23) hX dL_law_6005 (by decide) ?_
          refine zw_sub (lv' := [(0, .ref a0), (1, .ref a1), (2, .ref a2), (3, .ref a3), (4, .int (i4 + (7 : Int32)))]) (List.forall_mem_cons.mpr ⟨rfl, (List.forall_mem_cons.mpr ⟨rfl, (List.forall_mem_cons.mpr ⟨rfl, (List.forall_mem_cons.mpr ⟨rfl, (List.forall_mem_cons.mpr ⟨rfl, zs_nil⟩)⟩)⟩)⟩)⟩) ?_
          exact hrec _ _ _ _ h
        · rw [if_pos c629] at h
          refine zw_aload_n hX dL_law_632 rfl ?_
          refine zw_iconst (v := (0 : Int32)) hX dL_law_633 (by decide) ?_
          obtain ⟨w57, g, h⟩ := zb_some h
          refine zw_xl hX dL_law_634 g ?_
          refine zw_iload hX dL_law_635 rfl ?_
          refine zw_i2l hX dL_law_637 ?_
          refine zw_lcmp hX dL_law_638 ?_
          refine zw_if_eq (tgt := 644) hX dL_law_639 (by decide) (fun c639 => ?_) (fun c639 => ?_)
          · rw [if_pos c639] at h
            refine zw_goto (tgt := 6002) hX dL_law_644 (by decide) ?_
            refine zw_iinc (v := (i4 + (7 : Int32))) hX dL_law_6002 rfl rfl (by decide) ?_
            refine zw_goto (tgt := 23) hX dL_law_6005 (by decide) ?_
            refine zw_sub (lv' := [(0, .ref a0), (1, .ref a1), (2, .ref a2), (3, .ref a3), (4, .int (i4 + (7 : Int32)))]) (List.forall_mem_cons.mpr ⟨rfl, (List.forall_mem_cons.mpr ⟨rfl, (List.forall_mem_cons.mpr ⟨rfl, (List.forall_mem_cons.mpr ⟨rfl, (List.forall_mem_cons.mpr ⟨rfl, zs_nil⟩)⟩)⟩)⟩)⟩) ?_
            exact hrec _ _ _ _ h
          · rw [if_neg c639] at h
            refine zw_iconst (v := (0 : Int32)) hX dL_law_642 (by decide) ?_
            cases h
      · rw [if_neg c622] at h
        refine zw_iconst (v := (0 : Int32)) hX dL_law_625 (by decide) ?_
        cases h
    · intro _ _ hx
      exact hx.elim
  · rw [if_neg hb581] at h
    cases h
set_option maxHeartbeats 4000000 in
set_option maxRecDepth 100000 in
theorem zt_L_law_J647 {p : Program} {l : Launch} {e : Env} {s : State} {m : MethodId} {zb : Nat} {below : List Frame} {meth : Method} {c : Code} {V : zm_V} {d : Nat} {nm : String} (hlt : l.stackTraces = false) (hV : V.2.2.2.1 = s.heap.size) (hX : zm_X p room_1 s m #[Value.ref zb] meth c RL nm cL_law 8 zk_E V 601024 7293034) (hr : meth.sig.returnType = ret) (hR : d ≤ room_1.frames ∧ 64 * d ≤ room_1.locals) (hd : 46 ≤ d) {N : Nat} {k : Nat → Nat → Nat → Nat → Int32 → Nat → Nat → zm_S → Option ((Int32 × zm_S) ⊕ ((Unit) × zm_S))} {rc rs : Nat} {a0 : Nat} {a1 : Nat} {a2 : Nat} {a3 : Nat} {i4 : Int32} {res : (Int32 × zm_S) ⊕ ((Unit) × zm_S)} {out : (Int32 × zm_S)}   (hf : ∀ o, res = .inl o → o = out) (hk : ∀ (S' : zm_S) (rc rs : Nat), res = .inr ((), S') → zw p l e room_1 s m #[Value.ref zb] below meth c (lw_Z below #[Value.ref zb] s) 8 zk_E V 601024 7293034 6008 [] [] S' rc rs) (hrec : ∀ (i4' : Int32) (rc rs : Nat) (S : zm_S), k a0 a1 a2 a3 i4' rc rs S = some res → zw p l e room_1 s m #[Value.ref zb] below meth c (lw_Z below #[Value.ref zb] s) 8 zk_E V 601024 7293034 23 [(0, .ref a0), (1, .ref a1), (2, .ref a2), (3, .ref a3), (4, .int i4')] [] S rc rs) {S : zm_S} (h : zf_L_law_J647 N k a0 a1 a2 a3 i4 rc rs S = some res) : zw p l e room_1 s m #[Value.ref zb] below meth c (lw_Z below #[Value.ref zb] s) 8 zk_E V 601024 7293034 647 [(0, .ref a0), (1, .ref a1), (2, .ref a2), (3, .ref a3), (4, .int i4)] [] S rc rs := by
  unfold zf_L_law_J647 at h
  refine zw_aload_n hX dL_law_647 rfl ?_
  refine zw_aload_n hX dL_law_648 rfl ?_
  by_cases hb649 : 1 ≤ rc ∧ 6 ≤ rs
  · rw [if_pos hb649] at h
    obtain ⟨r60, g, h⟩ := zb_some h
    refine zc_SH (as := [.ref a1, .ref a3]) hX (zt_L_find hlt (d := d - 1) (by omega) g) zl_L_291 dL_law_649 ⟨rfl, rfl, Nat.le_of_ble_eq_true rfl⟩ ⟨by omega, by omega⟩ hb649 ?_ ?_
    · rintro _ _ ⟨rfl, rfl⟩
      refine zw_istore hX dL_law_652 (by decide) ?_
      refine zw_aload_n hX dL_law_654 rfl ?_
      obtain ⟨_, gi, h⟩ := zb_some h
      obtain ⟨r62, g, h⟩ := zb_some h
      refine zc_Vi (as := []) hX gi (zt_X18_find (d := d - 1) (by omega) g) zl_L_294 rfl dL_law_655 ⟨rfl, rfl, Nat.le_of_ble_eq_true rfl⟩ ⟨by omega, by omega⟩ ?_
      refine zw_istore hX dL_law_658 (by decide) ?_
      refine zw_aload_n hX dL_law_660 rfl ?_
      obtain ⟨_, gi, h⟩ := zb_some h
      obtain ⟨r64, g, h⟩ := zb_some h
      refine zc_Vi (as := []) hX gi (zt_X18_thrown (d := d - 1) (by omega) g) zl_L_281 rfl dL_law_661 ⟨rfl, rfl, Nat.le_of_ble_eq_true rfl⟩ ⟨by omega, by omega⟩ ?_
      refine zw_iload hX dL_law_664 rfl ?_
      refine zw_icmp_eq (tgt := 671) hX dL_law_666 (by decide) (fun c666 => ?_) (fun c666 => ?_)
      · rw [if_pos c666] at h
        refine zw_iload hX dL_law_671 rfl ?_
        refine zw_if_ne (tgt := 688) hX dL_law_673 (by decide) (fun c673 => ?_) (fun c673 => ?_)
        · rw [if_neg c673] at h
          refine zw_goto (tgt := 6002) hX dL_law_688 (by decide) ?_
          refine zw_iinc (v := (i4 + (7 : Int32))) hX dL_law_6002 rfl rfl (by decide) ?_
          refine zw_goto (tgt := 23) hX dL_law_6005 (by decide) ?_
          refine zw_sub (lv' := [(0, .ref a0), (1, .ref a1), (2, .ref a2), (3, .ref a3), (4, .int (i4 + (7 : Int32)))]) (List.forall_mem_cons.mpr ⟨rfl, (List.forall_mem_cons.mpr ⟨rfl, (List.forall_mem_cons.mpr ⟨rfl, (List.forall_mem_cons.mpr ⟨rfl, (List.forall_mem_cons.mpr ⟨rfl, zs_nil⟩)⟩)⟩)⟩)⟩) ?_
          exact hrec _ _ _ _ h
        · rw [if_pos c673] at h
          refine zw_aload_n hX dL_law_676 rfl ?_
          refine zw_iconst (v := (0 : Int32)) hX dL_law_677 (by decide) ?_
          obtain ⟨w65, g, h⟩ := zb_some h
          refine zw_xl hX dL_law_678 g ?_
          refine zw_iload hX dL_law_679 rfl ?_
          refine zw_i2l hX dL_law_681 ?_
          refine zw_lcmp hX dL_law_682 ?_
          refine zw_if_eq (tgt := 688) hX dL_law_683 (by decide) (fun c683 => ?_) (fun c683 => ?_)
          · rw [if_pos c683] at h
            refine zw_goto (tgt := 6002) hX dL_law_688 (by decide) ?_
            refine zw_iinc (v := (i4 + (7 : Int32))) hX dL_law_6002 rfl rfl (by decide) ?_
            refine zw_goto (tgt := 23) hX dL_law_6005 (by decide) ?_
            refine zw_sub (lv' := [(0, .ref a0), (1, .ref a1), (2, .ref a2), (3, .ref a3), (4, .int (i4 + (7 : Int32)))]) (List.forall_mem_cons.mpr ⟨rfl, (List.forall_mem_cons.mpr ⟨rfl, (List.forall_mem_cons.mpr ⟨rfl, (List.forall_mem_cons.mpr ⟨rfl, (List.forall_mem_cons.mpr ⟨rfl, zs_nil⟩)⟩)⟩)⟩)⟩) ?_
            exact hrec _ _ _ _ h
          · rw [if_neg c683] at h
            refine zw_iconst (v := (0 : Int32)) hX dL_law_686 (by decide) ?_
            cases h
      · rw [if_neg c666] at h
        refine zw_iconst (v := (0 : Int32)) hX dL_law_669 (by decide) ?_
        cases h
    · intro _ _ hx
      exact hx.elim
  · rw [if_neg hb649] at h
    cases h
set_option maxHeartbeats 4000000 in
set_option maxRecDepth 100000 in
theorem zt_L_law_J691 {p : Program} {l : Launch} {e : Env} {s : State} {m : MethodId} {zb : Nat} {below : List Frame} {meth : Method} {c : Code} {V : zm_V} {d : Nat} {nm : String} (hlt : l.stackTraces = false) (hV : V.2.2.2.1 = s.heap.size) (hX : zm_X p room_1 s m #[Value.ref zb] meth c RL nm cL_law 8 zk_E V 601024 7293034) (hr : meth.sig.returnType = ret) (hR : d ≤ room_1.frames ∧ 64 * d ≤ room_1.locals) (hd : 46 ≤ d) {N : Nat} {k : Nat → Nat → Nat → Nat → Int32 → Nat → Nat → zm_S → Option ((Int32 × zm_S) ⊕ ((Unit) × zm_S))} {rc rs : Nat} {a0 : Nat} {a1 : Nat} {a2 : Nat} {a3 : Nat} {i4 : Int32} {res : (Int32 × zm_S) ⊕ ((Unit) × zm_S)} {out : (Int32 × zm_S)}   (hf : ∀ o, res = .inl o → o = out) (hk : ∀ (S' : zm_S) (rc rs : Nat), res = .inr ((), S') → zw p l e room_1 s m #[Value.ref zb] below meth c (lw_Z below #[Value.ref zb] s) 8 zk_E V 601024 7293034 6008 [] [] S' rc rs) (hrec : ∀ (i4' : Int32) (rc rs : Nat) (S : zm_S), k a0 a1 a2 a3 i4' rc rs S = some res → zw p l e room_1 s m #[Value.ref zb] below meth c (lw_Z below #[Value.ref zb] s) 8 zk_E V 601024 7293034 23 [(0, .ref a0), (1, .ref a1), (2, .ref a2), (3, .ref a3), (4, .int i4')] [] S rc rs) {S : zm_S} (h : zf_L_law_J691 N k a0 a1 a2 a3 i4 rc rs S = some res) : zw p l e room_1 s m #[Value.ref zb] below meth c (lw_Z below #[Value.ref zb] s) 8 zk_E V 601024 7293034 691 [(0, .ref a0), (1, .ref a1), (2, .ref a2), (3, .ref a3), (4, .int i4)] [] S rc rs := by
  unfold zf_L_law_J691 at h
  refine zw_aload_n hX dL_law_691 rfl ?_
  refine zw_aload_n hX dL_law_692 rfl ?_
  refine zw_iload hX dL_law_693 rfl ?_
  refine zw_iconst (v := (1 : Int32)) hX dL_law_695 (by decide) ?_
  refine zw_iadd hX dL_law_696 ?_
  obtain ⟨v66, g, h⟩ := zb_some h
  refine zw_xi hX dL_law_697 g ?_
  refine zw_aload_n hX dL_law_698 rfl ?_
  by_cases hb699 : 2 ≤ rc ∧ 12 ≤ rs
  · rw [if_pos hb699] at h
    obtain ⟨r69, g, h⟩ := zb_some h
    refine zc_SH (as := [.ref a1, .int v66, .ref a3]) hX (zt_L_count hlt (d := d - 1) (by omega) g) zl_L_295 dL_law_699 ⟨rfl, rfl, Nat.le_of_ble_eq_true rfl⟩ ⟨by omega, by omega⟩ hb699 ?_ ?_
    · rintro _ _ ⟨rfl, rfl⟩
      refine zw_istore hX dL_law_702 (by decide) ?_
      refine zw_aload_n hX dL_law_704 rfl ?_
      refine zw_aload_n hX dL_law_705 rfl ?_
      refine zw_iload hX dL_law_706 rfl ?_
      refine zw_iconst (v := (1 : Int32)) hX dL_law_708 (by decide) ?_
      refine zw_iadd hX dL_law_709 ?_
      obtain ⟨v70, g, h⟩ := zb_some h
      refine zw_xi hX dL_law_710 g ?_
      obtain ⟨_, gi, h⟩ := zb_some h
      obtain ⟨r72, g, h⟩ := zb_some h
      refine zc_Vi (as := [.int v70]) hX gi (zt_X18_count (d := d - 1) (by omega) g) zl_L_298 rfl dL_law_711 ⟨rfl, rfl, Nat.le_of_ble_eq_true rfl⟩ ⟨by omega, by omega⟩ ?_
      refine zw_istore hX dL_law_714 (by decide) ?_
      refine zw_aload_n hX dL_law_716 rfl ?_
      obtain ⟨_, gi, h⟩ := zb_some h
      obtain ⟨r74, g, h⟩ := zb_some h
      refine zc_Vi (as := []) hX gi (zt_X18_thrown (d := d - 1) (by omega) g) zl_L_281 rfl dL_law_717 ⟨rfl, rfl, Nat.le_of_ble_eq_true rfl⟩ ⟨by omega, by omega⟩ ?_
      refine zw_iload hX dL_law_720 rfl ?_
      refine zw_icmp_eq (tgt := 727) hX dL_law_722 (by decide) (fun c722 => ?_) (fun c722 => ?_)
      · rw [if_pos c722] at h
        refine zw_iload hX dL_law_727 rfl ?_
        refine zw_if_ne (tgt := 744) hX dL_law_729 (by decide) (fun c729 => ?_) (fun c729 => ?_)
        · rw [if_neg c729] at h
          refine zw_goto (tgt := 6002) hX dL_law_744 (by decide) ?_
          refine zw_iinc (v := (i4 + (7 : Int32))) hX dL_law_6002 rfl rfl (by decide) ?_
          refine zw_goto (tgt := 23) hX dL_law_6005 (by decide) ?_
          refine zw_sub (lv' := [(0, .ref a0), (1, .ref a1), (2, .ref a2), (3, .ref a3), (4, .int (i4 + (7 : Int32)))]) (List.forall_mem_cons.mpr ⟨rfl, (List.forall_mem_cons.mpr ⟨rfl, (List.forall_mem_cons.mpr ⟨rfl, (List.forall_mem_cons.mpr ⟨rfl, (List.forall_mem_cons.mpr ⟨rfl, zs_nil⟩)⟩)⟩)⟩)⟩) ?_
          exact hrec _ _ _ _ h
        · rw [if_pos c729] at h
          refine zw_aload_n hX dL_law_732 rfl ?_
          refine zw_iconst (v := (0 : Int32)) hX dL_law_733 (by decide) ?_
          obtain ⟨w75, g, h⟩ := zb_some h
          refine zw_xl hX dL_law_734 g ?_
          refine zw_iload hX dL_law_735 rfl ?_
          refine zw_i2l hX dL_law_737 ?_
          refine zw_lcmp hX dL_law_738 ?_
          refine zw_if_eq (tgt := 744) hX dL_law_739 (by decide) (fun c739 => ?_) (fun c739 => ?_)
          · rw [if_pos c739] at h
            refine zw_goto (tgt := 6002) hX dL_law_744 (by decide) ?_
            refine zw_iinc (v := (i4 + (7 : Int32))) hX dL_law_6002 rfl rfl (by decide) ?_
            refine zw_goto (tgt := 23) hX dL_law_6005 (by decide) ?_
            refine zw_sub (lv' := [(0, .ref a0), (1, .ref a1), (2, .ref a2), (3, .ref a3), (4, .int (i4 + (7 : Int32)))]) (List.forall_mem_cons.mpr ⟨rfl, (List.forall_mem_cons.mpr ⟨rfl, (List.forall_mem_cons.mpr ⟨rfl, (List.forall_mem_cons.mpr ⟨rfl, (List.forall_mem_cons.mpr ⟨rfl, zs_nil⟩)⟩)⟩)⟩)⟩) ?_
            exact hrec _ _ _ _ h
          · rw [if_neg c739] at h
            refine zw_iconst (v := (0 : Int32)) hX dL_law_742 (by decide) ?_
            cases h
      · rw [if_neg c722] at h
        refine zw_iconst (v := (0 : Int32)) hX dL_law_725 (by decide) ?_
        cases h
    · intro _ _ hx
      exact hx.elim
  · rw [if_neg hb699] at h
    cases h
set_option maxHeartbeats 4000000 in
set_option maxRecDepth 100000 in
theorem zt_L_law_J747 {p : Program} {l : Launch} {e : Env} {s : State} {m : MethodId} {zb : Nat} {below : List Frame} {meth : Method} {c : Code} {V : zm_V} {d : Nat} {nm : String} (hlt : l.stackTraces = false) (hV : V.2.2.2.1 = s.heap.size) (hX : zm_X p room_1 s m #[Value.ref zb] meth c RL nm cL_law 8 zk_E V 601024 7293034) (hr : meth.sig.returnType = ret) (hR : d ≤ room_1.frames ∧ 64 * d ≤ room_1.locals) (hd : 46 ≤ d) {N : Nat} {k : Nat → Nat → Nat → Nat → Int32 → Nat → Nat → zm_S → Option ((Int32 × zm_S) ⊕ ((Unit) × zm_S))} {rc rs : Nat} {a0 : Nat} {a1 : Nat} {a2 : Nat} {a3 : Nat} {i4 : Int32} {res : (Int32 × zm_S) ⊕ ((Unit) × zm_S)} {out : (Int32 × zm_S)}   (hf : ∀ o, res = .inl o → o = out) (hk : ∀ (S' : zm_S) (rc rs : Nat), res = .inr ((), S') → zw p l e room_1 s m #[Value.ref zb] below meth c (lw_Z below #[Value.ref zb] s) 8 zk_E V 601024 7293034 6008 [] [] S' rc rs) (hrec : ∀ (i4' : Int32) (rc rs : Nat) (S : zm_S), k a0 a1 a2 a3 i4' rc rs S = some res → zw p l e room_1 s m #[Value.ref zb] below meth c (lw_Z below #[Value.ref zb] s) 8 zk_E V 601024 7293034 23 [(0, .ref a0), (1, .ref a1), (2, .ref a2), (3, .ref a3), (4, .int i4')] [] S rc rs) {S : zm_S} (h : zf_L_law_J747 N k a0 a1 a2 a3 i4 rc rs S = some res) : zw p l e room_1 s m #[Value.ref zb] below meth c (lw_Z below #[Value.ref zb] s) 8 zk_E V 601024 7293034 747 [(0, .ref a0), (1, .ref a1), (2, .ref a2), (3, .ref a3), (4, .int i4)] [] S rc rs := by
  unfold zf_L_law_J747 at h
  refine zw_aload_n hX dL_law_747 rfl ?_
  refine zw_aload_n hX dL_law_748 rfl ?_
  refine zw_iload hX dL_law_749 rfl ?_
  refine zw_iconst (v := (1 : Int32)) hX dL_law_751 (by decide) ?_
  refine zw_iadd hX dL_law_752 ?_
  obtain ⟨v76, g, h⟩ := zb_some h
  refine zw_xi hX dL_law_753 g ?_
  refine zw_aload_n hX dL_law_754 rfl ?_
  refine zw_iload hX dL_law_755 rfl ?_
  refine zw_iconst (v := (2 : Int32)) hX dL_law_757 (by decide) ?_
  refine zw_iadd hX dL_law_758 ?_
  obtain ⟨v77, g, h⟩ := zb_some h
  refine zw_xi hX dL_law_759 g ?_
  refine zw_aload_n hX dL_law_760 rfl ?_
  by_cases hb761 : 2 ≤ rc ∧ 12 ≤ rs
  · rw [if_pos hb761] at h
    obtain ⟨r80, g, h⟩ := zb_some h
    refine zc_SH (as := [.ref a1, .int v76, .int v77, .ref a3]) hX (zt_L_sides hlt (d := d - 1) (by omega) g) zl_L_299 dL_law_761 ⟨rfl, rfl, Nat.le_of_ble_eq_true rfl⟩ ⟨by omega, by omega⟩ hb761 ?_ ?_
    · rintro _ _ ⟨rfl, rfl⟩
      refine zw_istore hX dL_law_764 (by decide) ?_
      refine zw_aload_n hX dL_law_766 rfl ?_
      refine zw_aload_n hX dL_law_767 rfl ?_
      refine zw_iload hX dL_law_768 rfl ?_
      refine zw_iconst (v := (1 : Int32)) hX dL_law_770 (by decide) ?_
      refine zw_iadd hX dL_law_771 ?_
      obtain ⟨v81, g, h⟩ := zb_some h
      refine zw_xi hX dL_law_772 g ?_
      refine zw_aload_n hX dL_law_773 rfl ?_
      refine zw_iload hX dL_law_774 rfl ?_
      refine zw_iconst (v := (2 : Int32)) hX dL_law_776 (by decide) ?_
      refine zw_iadd hX dL_law_777 ?_
      obtain ⟨v82, g, h⟩ := zb_some h
      refine zw_xi hX dL_law_778 g ?_
      obtain ⟨_, gi, h⟩ := zb_some h
      obtain ⟨r84, g, h⟩ := zb_some h
      refine zc_Vi (as := [.int v81, .int v82]) hX gi (zt_X18_sides (d := d - 1) (by omega) g) zl_L_302 rfl dL_law_779 ⟨rfl, rfl, Nat.le_of_ble_eq_true rfl⟩ ⟨by omega, by omega⟩ ?_
      refine zw_istore hX dL_law_782 (by decide) ?_
      refine zw_aload_n hX dL_law_784 rfl ?_
      obtain ⟨_, gi, h⟩ := zb_some h
      obtain ⟨r86, g, h⟩ := zb_some h
      refine zc_Vi (as := []) hX gi (zt_X18_thrown (d := d - 1) (by omega) g) zl_L_281 rfl dL_law_785 ⟨rfl, rfl, Nat.le_of_ble_eq_true rfl⟩ ⟨by omega, by omega⟩ ?_
      refine zw_iload hX dL_law_788 rfl ?_
      refine zw_icmp_eq (tgt := 795) hX dL_law_790 (by decide) (fun c790 => ?_) (fun c790 => ?_)
      · rw [if_pos c790] at h
        refine zw_iload hX dL_law_795 rfl ?_
        refine zw_if_ne (tgt := 812) hX dL_law_797 (by decide) (fun c797 => ?_) (fun c797 => ?_)
        · rw [if_neg c797] at h
          refine zw_goto (tgt := 6002) hX dL_law_812 (by decide) ?_
          refine zw_iinc (v := (i4 + (7 : Int32))) hX dL_law_6002 rfl rfl (by decide) ?_
          refine zw_goto (tgt := 23) hX dL_law_6005 (by decide) ?_
          refine zw_sub (lv' := [(0, .ref a0), (1, .ref a1), (2, .ref a2), (3, .ref a3), (4, .int (i4 + (7 : Int32)))]) (List.forall_mem_cons.mpr ⟨rfl, (List.forall_mem_cons.mpr ⟨rfl, (List.forall_mem_cons.mpr ⟨rfl, (List.forall_mem_cons.mpr ⟨rfl, (List.forall_mem_cons.mpr ⟨rfl, zs_nil⟩)⟩)⟩)⟩)⟩) ?_
          exact hrec _ _ _ _ h
        · rw [if_pos c797] at h
          refine zw_aload_n hX dL_law_800 rfl ?_
          refine zw_iconst (v := (0 : Int32)) hX dL_law_801 (by decide) ?_
          obtain ⟨w87, g, h⟩ := zb_some h
          refine zw_xl hX dL_law_802 g ?_
          refine zw_iload hX dL_law_803 rfl ?_
          refine zw_i2l hX dL_law_805 ?_
          refine zw_lcmp hX dL_law_806 ?_
          refine zw_if_eq (tgt := 812) hX dL_law_807 (by decide) (fun c807 => ?_) (fun c807 => ?_)
          · rw [if_pos c807] at h
            refine zw_goto (tgt := 6002) hX dL_law_812 (by decide) ?_
            refine zw_iinc (v := (i4 + (7 : Int32))) hX dL_law_6002 rfl rfl (by decide) ?_
            refine zw_goto (tgt := 23) hX dL_law_6005 (by decide) ?_
            refine zw_sub (lv' := [(0, .ref a0), (1, .ref a1), (2, .ref a2), (3, .ref a3), (4, .int (i4 + (7 : Int32)))]) (List.forall_mem_cons.mpr ⟨rfl, (List.forall_mem_cons.mpr ⟨rfl, (List.forall_mem_cons.mpr ⟨rfl, (List.forall_mem_cons.mpr ⟨rfl, (List.forall_mem_cons.mpr ⟨rfl, zs_nil⟩)⟩)⟩)⟩)⟩) ?_
            exact hrec _ _ _ _ h
          · rw [if_neg c807] at h
            refine zw_iconst (v := (0 : Int32)) hX dL_law_810 (by decide) ?_
            cases h
      · rw [if_neg c790] at h
        refine zw_iconst (v := (0 : Int32)) hX dL_law_793 (by decide) ?_
        cases h
    · intro _ _ hx
      exact hx.elim
  · rw [if_neg hb761] at h
    cases h
set_option maxHeartbeats 4000000 in
set_option maxRecDepth 100000 in
theorem zt_L_law_J815 {p : Program} {l : Launch} {e : Env} {s : State} {m : MethodId} {zb : Nat} {below : List Frame} {meth : Method} {c : Code} {V : zm_V} {d : Nat} {nm : String} (hlt : l.stackTraces = false) (hV : V.2.2.2.1 = s.heap.size) (hX : zm_X p room_1 s m #[Value.ref zb] meth c RL nm cL_law 8 zk_E V 601024 7293034) (hr : meth.sig.returnType = ret) (hR : d ≤ room_1.frames ∧ 64 * d ≤ room_1.locals) (hd : 46 ≤ d) {N : Nat} {k : Nat → Nat → Nat → Nat → Int32 → Nat → Nat → zm_S → Option ((Int32 × zm_S) ⊕ ((Unit) × zm_S))} {rc rs : Nat} {a0 : Nat} {a1 : Nat} {a2 : Nat} {a3 : Nat} {i4 : Int32} {res : (Int32 × zm_S) ⊕ ((Unit) × zm_S)} {out : (Int32 × zm_S)}   (hf : ∀ o, res = .inl o → o = out) (hk : ∀ (S' : zm_S) (rc rs : Nat), res = .inr ((), S') → zw p l e room_1 s m #[Value.ref zb] below meth c (lw_Z below #[Value.ref zb] s) 8 zk_E V 601024 7293034 6008 [] [] S' rc rs) (hrec : ∀ (i4' : Int32) (rc rs : Nat) (S : zm_S), k a0 a1 a2 a3 i4' rc rs S = some res → zw p l e room_1 s m #[Value.ref zb] below meth c (lw_Z below #[Value.ref zb] s) 8 zk_E V 601024 7293034 23 [(0, .ref a0), (1, .ref a1), (2, .ref a2), (3, .ref a3), (4, .int i4')] [] S rc rs) {S : zm_S} (h : zf_L_law_J815 N k a0 a1 a2 a3 i4 rc rs S = some res) : zw p l e room_1 s m #[Value.ref zb] below meth c (lw_Z below #[Value.ref zb] s) 8 zk_E V 601024 7293034 815 [(0, .ref a0), (1, .ref a1), (2, .ref a2), (3, .ref a3), (4, .int i4)] [] S rc rs := by
  unfold zf_L_law_J815 at h
  refine zw_aload_n hX dL_law_815 rfl ?_
  refine zw_aload_n hX dL_law_816 rfl ?_
  refine zw_iload hX dL_law_817 rfl ?_
  refine zw_iconst (v := (1 : Int32)) hX dL_law_819 (by decide) ?_
  refine zw_iadd hX dL_law_820 ?_
  obtain ⟨v88, g, h⟩ := zb_some h
  refine zw_xi hX dL_law_821 g ?_
  refine zw_aload_n hX dL_law_822 rfl ?_
  refine zw_iload hX dL_law_823 rfl ?_
  refine zw_iconst (v := (2 : Int32)) hX dL_law_825 (by decide) ?_
  refine zw_iadd hX dL_law_826 ?_
  obtain ⟨v89, g, h⟩ := zb_some h
  refine zw_xi hX dL_law_827 g ?_
  refine zw_aload_n hX dL_law_828 rfl ?_
  refine zw_iload hX dL_law_829 rfl ?_
  refine zw_iconst (v := (3 : Int32)) hX dL_law_831 (by decide) ?_
  refine zw_iadd hX dL_law_832 ?_
  obtain ⟨v90, g, h⟩ := zb_some h
  refine zw_xi hX dL_law_833 g ?_
  refine zw_aload_n hX dL_law_834 rfl ?_
  refine zw_iload hX dL_law_835 rfl ?_
  refine zw_iconst (v := (4 : Int32)) hX dL_law_837 (by decide) ?_
  refine zw_iadd hX dL_law_838 ?_
  obtain ⟨v91, g, h⟩ := zb_some h
  refine zw_xi hX dL_law_839 g ?_
  refine zw_aload_n hX dL_law_840 rfl ?_
  by_cases hb841 : 2 ≤ rc ∧ 12 ≤ rs
  · rw [if_pos hb841] at h
    obtain ⟨r94, g, h⟩ := zb_some h
    refine zc_SH (as := [.ref a1, .int v88, .int v89, .int v90, .int v91, .ref a3]) hX (zt_L_side hlt (d := d - 1) (by omega) g) zl_L_303 dL_law_841 ⟨rfl, rfl, Nat.le_of_ble_eq_true rfl⟩ ⟨by omega, by omega⟩ hb841 ?_ ?_
    · rintro _ _ ⟨rfl, rfl⟩
      refine zw_istore hX dL_law_844 (by decide) ?_
      refine zw_aload_n hX dL_law_846 rfl ?_
      refine zw_aload_n hX dL_law_847 rfl ?_
      refine zw_iload hX dL_law_848 rfl ?_
      refine zw_iconst (v := (1 : Int32)) hX dL_law_850 (by decide) ?_
      refine zw_iadd hX dL_law_851 ?_
      obtain ⟨v95, g, h⟩ := zb_some h
      refine zw_xi hX dL_law_852 g ?_
      refine zw_aload_n hX dL_law_853 rfl ?_
      refine zw_iload hX dL_law_854 rfl ?_
      refine zw_iconst (v := (2 : Int32)) hX dL_law_856 (by decide) ?_
      refine zw_iadd hX dL_law_857 ?_
      obtain ⟨v96, g, h⟩ := zb_some h
      refine zw_xi hX dL_law_858 g ?_
      refine zw_aload_n hX dL_law_859 rfl ?_
      refine zw_iload hX dL_law_860 rfl ?_
      refine zw_iconst (v := (3 : Int32)) hX dL_law_862 (by decide) ?_
      refine zw_iadd hX dL_law_863 ?_
      obtain ⟨v97, g, h⟩ := zb_some h
      refine zw_xi hX dL_law_864 g ?_
      refine zw_aload_n hX dL_law_865 rfl ?_
      refine zw_iload hX dL_law_866 rfl ?_
      refine zw_iconst (v := (4 : Int32)) hX dL_law_868 (by decide) ?_
      refine zw_iadd hX dL_law_869 ?_
      obtain ⟨v98, g, h⟩ := zb_some h
      refine zw_xi hX dL_law_870 g ?_
      obtain ⟨_, gi, h⟩ := zb_some h
      obtain ⟨r100, g, h⟩ := zb_some h
      refine zc_Vi (as := [.int v95, .int v96, .int v97, .int v98]) hX gi (zt_X18_side (d := d - 1) (by omega) g) zl_L_305 rfl dL_law_871 ⟨rfl, rfl, Nat.le_of_ble_eq_true rfl⟩ ⟨by omega, by omega⟩ ?_
      refine zw_istore hX dL_law_874 (by decide) ?_
      refine zw_aload_n hX dL_law_876 rfl ?_
      obtain ⟨_, gi, h⟩ := zb_some h
      obtain ⟨r102, g, h⟩ := zb_some h
      refine zc_Vi (as := []) hX gi (zt_X18_thrown (d := d - 1) (by omega) g) zl_L_281 rfl dL_law_877 ⟨rfl, rfl, Nat.le_of_ble_eq_true rfl⟩ ⟨by omega, by omega⟩ ?_
      refine zw_iload hX dL_law_880 rfl ?_
      refine zw_icmp_eq (tgt := 887) hX dL_law_882 (by decide) (fun c882 => ?_) (fun c882 => ?_)
      · rw [if_pos c882] at h
        refine zw_iload hX dL_law_887 rfl ?_
        refine zw_if_ne (tgt := 904) hX dL_law_889 (by decide) (fun c889 => ?_) (fun c889 => ?_)
        · rw [if_neg c889] at h
          refine zw_goto (tgt := 6002) hX dL_law_904 (by decide) ?_
          refine zw_iinc (v := (i4 + (7 : Int32))) hX dL_law_6002 rfl rfl (by decide) ?_
          refine zw_goto (tgt := 23) hX dL_law_6005 (by decide) ?_
          refine zw_sub (lv' := [(0, .ref a0), (1, .ref a1), (2, .ref a2), (3, .ref a3), (4, .int (i4 + (7 : Int32)))]) (List.forall_mem_cons.mpr ⟨rfl, (List.forall_mem_cons.mpr ⟨rfl, (List.forall_mem_cons.mpr ⟨rfl, (List.forall_mem_cons.mpr ⟨rfl, (List.forall_mem_cons.mpr ⟨rfl, zs_nil⟩)⟩)⟩)⟩)⟩) ?_
          exact hrec _ _ _ _ h
        · rw [if_pos c889] at h
          refine zw_aload_n hX dL_law_892 rfl ?_
          refine zw_iconst (v := (0 : Int32)) hX dL_law_893 (by decide) ?_
          obtain ⟨w103, g, h⟩ := zb_some h
          refine zw_xl hX dL_law_894 g ?_
          refine zw_iload hX dL_law_895 rfl ?_
          refine zw_i2l hX dL_law_897 ?_
          refine zw_lcmp hX dL_law_898 ?_
          refine zw_if_eq (tgt := 904) hX dL_law_899 (by decide) (fun c899 => ?_) (fun c899 => ?_)
          · rw [if_pos c899] at h
            refine zw_goto (tgt := 6002) hX dL_law_904 (by decide) ?_
            refine zw_iinc (v := (i4 + (7 : Int32))) hX dL_law_6002 rfl rfl (by decide) ?_
            refine zw_goto (tgt := 23) hX dL_law_6005 (by decide) ?_
            refine zw_sub (lv' := [(0, .ref a0), (1, .ref a1), (2, .ref a2), (3, .ref a3), (4, .int (i4 + (7 : Int32)))]) (List.forall_mem_cons.mpr ⟨rfl, (List.forall_mem_cons.mpr ⟨rfl, (List.forall_mem_cons.mpr ⟨rfl, (List.forall_mem_cons.mpr ⟨rfl, (List.forall_mem_cons.mpr ⟨rfl, zs_nil⟩)⟩)⟩)⟩)⟩) ?_
            exact hrec _ _ _ _ h
          · rw [if_neg c899] at h
            refine zw_iconst (v := (0 : Int32)) hX dL_law_902 (by decide) ?_
            cases h
      · rw [if_neg c882] at h
        refine zw_iconst (v := (0 : Int32)) hX dL_law_885 (by decide) ?_
        cases h
    · intro _ _ hx
      exact hx.elim
  · rw [if_neg hb841] at h
    cases h
set_option maxHeartbeats 4000000 in
set_option maxRecDepth 100000 in
theorem zt_L_law_J907 {p : Program} {l : Launch} {e : Env} {s : State} {m : MethodId} {zb : Nat} {below : List Frame} {meth : Method} {c : Code} {V : zm_V} {d : Nat} {nm : String} (hlt : l.stackTraces = false) (hV : V.2.2.2.1 = s.heap.size) (hX : zm_X p room_1 s m #[Value.ref zb] meth c RL nm cL_law 8 zk_E V 601024 7293034) (hr : meth.sig.returnType = ret) (hR : d ≤ room_1.frames ∧ 64 * d ≤ room_1.locals) (hd : 46 ≤ d) {N : Nat} {k : Nat → Nat → Nat → Nat → Int32 → Nat → Nat → zm_S → Option ((Int32 × zm_S) ⊕ ((Unit) × zm_S))} {rc rs : Nat} {a0 : Nat} {a1 : Nat} {a2 : Nat} {a3 : Nat} {i4 : Int32} {res : (Int32 × zm_S) ⊕ ((Unit) × zm_S)} {out : (Int32 × zm_S)}   (hf : ∀ o, res = .inl o → o = out) (hk : ∀ (S' : zm_S) (rc rs : Nat), res = .inr ((), S') → zw p l e room_1 s m #[Value.ref zb] below meth c (lw_Z below #[Value.ref zb] s) 8 zk_E V 601024 7293034 6008 [] [] S' rc rs) (hrec : ∀ (i4' : Int32) (rc rs : Nat) (S : zm_S), k a0 a1 a2 a3 i4' rc rs S = some res → zw p l e room_1 s m #[Value.ref zb] below meth c (lw_Z below #[Value.ref zb] s) 8 zk_E V 601024 7293034 23 [(0, .ref a0), (1, .ref a1), (2, .ref a2), (3, .ref a3), (4, .int i4')] [] S rc rs) {S : zm_S} (h : zf_L_law_J907 N k a0 a1 a2 a3 i4 rc rs S = some res) : zw p l e room_1 s m #[Value.ref zb] below meth c (lw_Z below #[Value.ref zb] s) 8 zk_E V 601024 7293034 907 [(0, .ref a0), (1, .ref a1), (2, .ref a2), (3, .ref a3), (4, .int i4)] [] S rc rs := by
  unfold zf_L_law_J907 at h
  refine zw_aload_n hX dL_law_907 rfl ?_
  refine zw_aload_n hX dL_law_908 rfl ?_
  refine zw_iload hX dL_law_909 rfl ?_
  refine zw_iconst (v := (1 : Int32)) hX dL_law_911 (by decide) ?_
  refine zw_iadd hX dL_law_912 ?_
  obtain ⟨v104, g, h⟩ := zb_some h
  refine zw_xi hX dL_law_913 g ?_
  refine zw_aload_n hX dL_law_914 rfl ?_
  refine zw_iload hX dL_law_915 rfl ?_
  refine zw_iconst (v := (2 : Int32)) hX dL_law_917 (by decide) ?_
  refine zw_iadd hX dL_law_918 ?_
  obtain ⟨v105, g, h⟩ := zb_some h
  refine zw_xi hX dL_law_919 g ?_
  refine zw_aload_n hX dL_law_920 rfl ?_
  by_cases hb921 : 2 ≤ rc ∧ 12 ≤ rs
  · rw [if_pos hb921] at h
    obtain ⟨r108, g, h⟩ := zb_some h
    refine zc_SH (as := [.ref a1, .int v104, .int v105, .ref a3]) hX (zt_L_size hlt (d := d - 1) (by omega) g) zl_L_306 dL_law_921 ⟨rfl, rfl, Nat.le_of_ble_eq_true rfl⟩ ⟨by omega, by omega⟩ hb921 ?_ ?_
    · rintro _ _ ⟨rfl, rfl⟩
      refine zw_istore hX dL_law_924 (by decide) ?_
      refine zw_aload_n hX dL_law_926 rfl ?_
      refine zw_aload_n hX dL_law_927 rfl ?_
      refine zw_iload hX dL_law_928 rfl ?_
      refine zw_iconst (v := (1 : Int32)) hX dL_law_930 (by decide) ?_
      refine zw_iadd hX dL_law_931 ?_
      obtain ⟨v109, g, h⟩ := zb_some h
      refine zw_xi hX dL_law_932 g ?_
      refine zw_aload_n hX dL_law_933 rfl ?_
      refine zw_iload hX dL_law_934 rfl ?_
      refine zw_iconst (v := (2 : Int32)) hX dL_law_936 (by decide) ?_
      refine zw_iadd hX dL_law_937 ?_
      obtain ⟨v110, g, h⟩ := zb_some h
      refine zw_xi hX dL_law_938 g ?_
      obtain ⟨_, gi, h⟩ := zb_some h
      obtain ⟨r112, g, h⟩ := zb_some h
      refine zc_Vi (as := [.int v109, .int v110]) hX gi (zt_X18_size (d := d - 1) (by omega) g) zl_L_308 rfl dL_law_939 ⟨rfl, rfl, Nat.le_of_ble_eq_true rfl⟩ ⟨by omega, by omega⟩ ?_
      refine zw_istore hX dL_law_942 (by decide) ?_
      refine zw_aload_n hX dL_law_944 rfl ?_
      obtain ⟨_, gi, h⟩ := zb_some h
      obtain ⟨r114, g, h⟩ := zb_some h
      refine zc_Vi (as := []) hX gi (zt_X18_thrown (d := d - 1) (by omega) g) zl_L_281 rfl dL_law_945 ⟨rfl, rfl, Nat.le_of_ble_eq_true rfl⟩ ⟨by omega, by omega⟩ ?_
      refine zw_iload hX dL_law_948 rfl ?_
      refine zw_icmp_eq (tgt := 955) hX dL_law_950 (by decide) (fun c950 => ?_) (fun c950 => ?_)
      · rw [if_pos c950] at h
        refine zw_iload hX dL_law_955 rfl ?_
        refine zw_if_ne (tgt := 972) hX dL_law_957 (by decide) (fun c957 => ?_) (fun c957 => ?_)
        · rw [if_neg c957] at h
          refine zw_goto (tgt := 6002) hX dL_law_972 (by decide) ?_
          refine zw_iinc (v := (i4 + (7 : Int32))) hX dL_law_6002 rfl rfl (by decide) ?_
          refine zw_goto (tgt := 23) hX dL_law_6005 (by decide) ?_
          refine zw_sub (lv' := [(0, .ref a0), (1, .ref a1), (2, .ref a2), (3, .ref a3), (4, .int (i4 + (7 : Int32)))]) (List.forall_mem_cons.mpr ⟨rfl, (List.forall_mem_cons.mpr ⟨rfl, (List.forall_mem_cons.mpr ⟨rfl, (List.forall_mem_cons.mpr ⟨rfl, (List.forall_mem_cons.mpr ⟨rfl, zs_nil⟩)⟩)⟩)⟩)⟩) ?_
          exact hrec _ _ _ _ h
        · rw [if_pos c957] at h
          refine zw_aload_n hX dL_law_960 rfl ?_
          refine zw_iconst (v := (0 : Int32)) hX dL_law_961 (by decide) ?_
          obtain ⟨w115, g, h⟩ := zb_some h
          refine zw_xl hX dL_law_962 g ?_
          refine zw_iload hX dL_law_963 rfl ?_
          refine zw_i2l hX dL_law_965 ?_
          refine zw_lcmp hX dL_law_966 ?_
          refine zw_if_eq (tgt := 972) hX dL_law_967 (by decide) (fun c967 => ?_) (fun c967 => ?_)
          · rw [if_pos c967] at h
            refine zw_goto (tgt := 6002) hX dL_law_972 (by decide) ?_
            refine zw_iinc (v := (i4 + (7 : Int32))) hX dL_law_6002 rfl rfl (by decide) ?_
            refine zw_goto (tgt := 23) hX dL_law_6005 (by decide) ?_
            refine zw_sub (lv' := [(0, .ref a0), (1, .ref a1), (2, .ref a2), (3, .ref a3), (4, .int (i4 + (7 : Int32)))]) (List.forall_mem_cons.mpr ⟨rfl, (List.forall_mem_cons.mpr ⟨rfl, (List.forall_mem_cons.mpr ⟨rfl, (List.forall_mem_cons.mpr ⟨rfl, (List.forall_mem_cons.mpr ⟨rfl, zs_nil⟩)⟩)⟩)⟩)⟩) ?_
            exact hrec _ _ _ _ h
          · rw [if_neg c967] at h
            refine zw_iconst (v := (0 : Int32)) hX dL_law_970 (by decide) ?_
            cases h
      · rw [if_neg c950] at h
        refine zw_iconst (v := (0 : Int32)) hX dL_law_953 (by decide) ?_
        cases h
    · intro _ _ hx
      exact hx.elim
  · rw [if_neg hb921] at h
    cases h
set_option maxHeartbeats 4000000 in
set_option maxRecDepth 100000 in
theorem zt_L_law_J975 {p : Program} {l : Launch} {e : Env} {s : State} {m : MethodId} {zb : Nat} {below : List Frame} {meth : Method} {c : Code} {V : zm_V} {d : Nat} {nm : String} (hlt : l.stackTraces = false) (hV : V.2.2.2.1 = s.heap.size) (hX : zm_X p room_1 s m #[Value.ref zb] meth c RL nm cL_law 8 zk_E V 601024 7293034) (hr : meth.sig.returnType = ret) (hR : d ≤ room_1.frames ∧ 64 * d ≤ room_1.locals) (hd : 46 ≤ d) {N : Nat} {k : Nat → Nat → Nat → Nat → Int32 → Nat → Nat → zm_S → Option ((Int32 × zm_S) ⊕ ((Unit) × zm_S))} {rc rs : Nat} {a0 : Nat} {a1 : Nat} {a2 : Nat} {a3 : Nat} {i4 : Int32} {res : (Int32 × zm_S) ⊕ ((Unit) × zm_S)} {out : (Int32 × zm_S)}   (hf : ∀ o, res = .inl o → o = out) (hk : ∀ (S' : zm_S) (rc rs : Nat), res = .inr ((), S') → zw p l e room_1 s m #[Value.ref zb] below meth c (lw_Z below #[Value.ref zb] s) 8 zk_E V 601024 7293034 6008 [] [] S' rc rs) (hrec : ∀ (i4' : Int32) (rc rs : Nat) (S : zm_S), k a0 a1 a2 a3 i4' rc rs S = some res → zw p l e room_1 s m #[Value.ref zb] below meth c (lw_Z below #[Value.ref zb] s) 8 zk_E V 601024 7293034 23 [(0, .ref a0), (1, .ref a1), (2, .ref a2), (3, .ref a3), (4, .int i4')] [] S rc rs) {S : zm_S} (h : zf_L_law_J975 N k a0 a1 a2 a3 i4 rc rs S = some res) : zw p l e room_1 s m #[Value.ref zb] below meth c (lw_Z below #[Value.ref zb] s) 8 zk_E V 601024 7293034 975 [(0, .ref a0), (1, .ref a1), (2, .ref a2), (3, .ref a3), (4, .int i4)] [] S rc rs := by
  unfold zf_L_law_J975 at h
  refine zw_aload_n hX dL_law_975 rfl ?_
  refine zw_aload_n hX dL_law_976 rfl ?_
  refine zw_iload hX dL_law_977 rfl ?_
  refine zw_iconst (v := (1 : Int32)) hX dL_law_979 (by decide) ?_
  refine zw_iadd hX dL_law_980 ?_
  obtain ⟨v116, g, h⟩ := zb_some h
  refine zw_xi hX dL_law_981 g ?_
  refine zw_aload_n hX dL_law_982 rfl ?_
  refine zw_iload hX dL_law_983 rfl ?_
  refine zw_iconst (v := (2 : Int32)) hX dL_law_985 (by decide) ?_
  refine zw_iadd hX dL_law_986 ?_
  obtain ⟨v117, g, h⟩ := zb_some h
  refine zw_xi hX dL_law_987 g ?_
  refine zw_aload_n hX dL_law_988 rfl ?_
  by_cases hb989 : 2 ≤ rc ∧ 12 ≤ rs
  · rw [if_pos hb989] at h
    obtain ⟨r120, g, h⟩ := zb_some h
    refine zc_SH (as := [.ref a1, .int v116, .int v117, .ref a3]) hX (zt_L_at hlt (d := d - 1) (by omega) g) zl_L_309 dL_law_989 ⟨rfl, rfl, Nat.le_of_ble_eq_true rfl⟩ ⟨by omega, by omega⟩ hb989 ?_ ?_
    · rintro _ _ ⟨rfl, rfl⟩
      refine zw_istore hX dL_law_992 (by decide) ?_
      refine zw_aload_n hX dL_law_994 rfl ?_
      refine zw_aload_n hX dL_law_995 rfl ?_
      refine zw_iload hX dL_law_996 rfl ?_
      refine zw_iconst (v := (1 : Int32)) hX dL_law_998 (by decide) ?_
      refine zw_iadd hX dL_law_999 ?_
      obtain ⟨v121, g, h⟩ := zb_some h
      refine zw_xi hX dL_law_1000 g ?_
      refine zw_aload_n hX dL_law_1001 rfl ?_
      refine zw_iload hX dL_law_1002 rfl ?_
      refine zw_iconst (v := (2 : Int32)) hX dL_law_1004 (by decide) ?_
      refine zw_iadd hX dL_law_1005 ?_
      obtain ⟨v122, g, h⟩ := zb_some h
      refine zw_xi hX dL_law_1006 g ?_
      obtain ⟨_, gi, h⟩ := zb_some h
      obtain ⟨r124, g, h⟩ := zb_some h
      refine zc_Vi (as := [.int v121, .int v122]) hX gi (zt_X18_at (d := d - 1) (by omega) g) zl_L_311 rfl dL_law_1007 ⟨rfl, rfl, Nat.le_of_ble_eq_true rfl⟩ ⟨by omega, by omega⟩ ?_
      refine zw_istore hX dL_law_1010 (by decide) ?_
      refine zw_aload_n hX dL_law_1012 rfl ?_
      obtain ⟨_, gi, h⟩ := zb_some h
      obtain ⟨r126, g, h⟩ := zb_some h
      refine zc_Vi (as := []) hX gi (zt_X18_thrown (d := d - 1) (by omega) g) zl_L_281 rfl dL_law_1013 ⟨rfl, rfl, Nat.le_of_ble_eq_true rfl⟩ ⟨by omega, by omega⟩ ?_
      refine zw_iload hX dL_law_1016 rfl ?_
      refine zw_icmp_eq (tgt := 1023) hX dL_law_1018 (by decide) (fun c1018 => ?_) (fun c1018 => ?_)
      · rw [if_pos c1018] at h
        refine zw_iload hX dL_law_1023 rfl ?_
        refine zw_if_ne (tgt := 1040) hX dL_law_1025 (by decide) (fun c1025 => ?_) (fun c1025 => ?_)
        · rw [if_neg c1025] at h
          refine zw_goto (tgt := 6002) hX dL_law_1040 (by decide) ?_
          refine zw_iinc (v := (i4 + (7 : Int32))) hX dL_law_6002 rfl rfl (by decide) ?_
          refine zw_goto (tgt := 23) hX dL_law_6005 (by decide) ?_
          refine zw_sub (lv' := [(0, .ref a0), (1, .ref a1), (2, .ref a2), (3, .ref a3), (4, .int (i4 + (7 : Int32)))]) (List.forall_mem_cons.mpr ⟨rfl, (List.forall_mem_cons.mpr ⟨rfl, (List.forall_mem_cons.mpr ⟨rfl, (List.forall_mem_cons.mpr ⟨rfl, (List.forall_mem_cons.mpr ⟨rfl, zs_nil⟩)⟩)⟩)⟩)⟩) ?_
          exact hrec _ _ _ _ h
        · rw [if_pos c1025] at h
          refine zw_aload_n hX dL_law_1028 rfl ?_
          refine zw_iconst (v := (0 : Int32)) hX dL_law_1029 (by decide) ?_
          obtain ⟨w127, g, h⟩ := zb_some h
          refine zw_xl hX dL_law_1030 g ?_
          refine zw_iload hX dL_law_1031 rfl ?_
          refine zw_i2l hX dL_law_1033 ?_
          refine zw_lcmp hX dL_law_1034 ?_
          refine zw_if_eq (tgt := 1040) hX dL_law_1035 (by decide) (fun c1035 => ?_) (fun c1035 => ?_)
          · rw [if_pos c1035] at h
            refine zw_goto (tgt := 6002) hX dL_law_1040 (by decide) ?_
            refine zw_iinc (v := (i4 + (7 : Int32))) hX dL_law_6002 rfl rfl (by decide) ?_
            refine zw_goto (tgt := 23) hX dL_law_6005 (by decide) ?_
            refine zw_sub (lv' := [(0, .ref a0), (1, .ref a1), (2, .ref a2), (3, .ref a3), (4, .int (i4 + (7 : Int32)))]) (List.forall_mem_cons.mpr ⟨rfl, (List.forall_mem_cons.mpr ⟨rfl, (List.forall_mem_cons.mpr ⟨rfl, (List.forall_mem_cons.mpr ⟨rfl, (List.forall_mem_cons.mpr ⟨rfl, zs_nil⟩)⟩)⟩)⟩)⟩) ?_
            exact hrec _ _ _ _ h
          · rw [if_neg c1035] at h
            refine zw_iconst (v := (0 : Int32)) hX dL_law_1038 (by decide) ?_
            cases h
      · rw [if_neg c1018] at h
        refine zw_iconst (v := (0 : Int32)) hX dL_law_1021 (by decide) ?_
        cases h
    · intro _ _ hx
      exact hx.elim
  · rw [if_neg hb989] at h
    cases h
set_option maxHeartbeats 4000000 in
set_option maxRecDepth 100000 in
theorem zt_L_law_J1043 {p : Program} {l : Launch} {e : Env} {s : State} {m : MethodId} {zb : Nat} {below : List Frame} {meth : Method} {c : Code} {V : zm_V} {d : Nat} {nm : String} (hlt : l.stackTraces = false) (hV : V.2.2.2.1 = s.heap.size) (hX : zm_X p room_1 s m #[Value.ref zb] meth c RL nm cL_law 8 zk_E V 601024 7293034) (hr : meth.sig.returnType = ret) (hR : d ≤ room_1.frames ∧ 64 * d ≤ room_1.locals) (hd : 46 ≤ d) {N : Nat} {k : Nat → Nat → Nat → Nat → Int32 → Nat → Nat → zm_S → Option ((Int32 × zm_S) ⊕ ((Unit) × zm_S))} {rc rs : Nat} {a0 : Nat} {a1 : Nat} {a2 : Nat} {a3 : Nat} {i4 : Int32} {res : (Int32 × zm_S) ⊕ ((Unit) × zm_S)} {out : (Int32 × zm_S)}   (hf : ∀ o, res = .inl o → o = out) (hk : ∀ (S' : zm_S) (rc rs : Nat), res = .inr ((), S') → zw p l e room_1 s m #[Value.ref zb] below meth c (lw_Z below #[Value.ref zb] s) 8 zk_E V 601024 7293034 6008 [] [] S' rc rs) (hrec : ∀ (i4' : Int32) (rc rs : Nat) (S : zm_S), k a0 a1 a2 a3 i4' rc rs S = some res → zw p l e room_1 s m #[Value.ref zb] below meth c (lw_Z below #[Value.ref zb] s) 8 zk_E V 601024 7293034 23 [(0, .ref a0), (1, .ref a1), (2, .ref a2), (3, .ref a3), (4, .int i4')] [] S rc rs) {S : zm_S} (h : zf_L_law_J1043 N k a0 a1 a2 a3 i4 rc rs S = some res) : zw p l e room_1 s m #[Value.ref zb] below meth c (lw_Z below #[Value.ref zb] s) 8 zk_E V 601024 7293034 1043 [(0, .ref a0), (1, .ref a1), (2, .ref a2), (3, .ref a3), (4, .int i4)] [] S rc rs := by
  unfold zf_L_law_J1043 at h
  refine zw_aload_n hX dL_law_1043 rfl ?_
  refine zw_aload_n hX dL_law_1044 rfl ?_
  refine zw_iload hX dL_law_1045 rfl ?_
  refine zw_iconst (v := (1 : Int32)) hX dL_law_1047 (by decide) ?_
  refine zw_iadd hX dL_law_1048 ?_
  obtain ⟨v128, g, h⟩ := zb_some h
  refine zw_xi hX dL_law_1049 g ?_
  refine zw_aload_n hX dL_law_1050 rfl ?_
  refine zw_iload hX dL_law_1051 rfl ?_
  refine zw_iconst (v := (2 : Int32)) hX dL_law_1053 (by decide) ?_
  refine zw_iadd hX dL_law_1054 ?_
  obtain ⟨v129, g, h⟩ := zb_some h
  refine zw_xi hX dL_law_1055 g ?_
  refine zw_aload_n hX dL_law_1056 rfl ?_
  by_cases hb1057 : 2 ≤ rc ∧ 12 ≤ rs
  · rw [if_pos hb1057] at h
    obtain ⟨r132, g, h⟩ := zb_some h
    refine zc_SH (as := [.ref a1, .int v128, .int v129, .ref a3]) hX (zt_L_between hlt (d := d - 1) (by omega) g) zl_L_312 dL_law_1057 ⟨rfl, rfl, Nat.le_of_ble_eq_true rfl⟩ ⟨by omega, by omega⟩ hb1057 ?_ ?_
    · rintro _ _ ⟨rfl, rfl⟩
      refine zw_istore hX dL_law_1060 (by decide) ?_
      refine zw_aload_n hX dL_law_1062 rfl ?_
      refine zw_aload_n hX dL_law_1063 rfl ?_
      refine zw_iload hX dL_law_1064 rfl ?_
      refine zw_iconst (v := (1 : Int32)) hX dL_law_1066 (by decide) ?_
      refine zw_iadd hX dL_law_1067 ?_
      obtain ⟨v133, g, h⟩ := zb_some h
      refine zw_xi hX dL_law_1068 g ?_
      refine zw_aload_n hX dL_law_1069 rfl ?_
      refine zw_iload hX dL_law_1070 rfl ?_
      refine zw_iconst (v := (2 : Int32)) hX dL_law_1072 (by decide) ?_
      refine zw_iadd hX dL_law_1073 ?_
      obtain ⟨v134, g, h⟩ := zb_some h
      refine zw_xi hX dL_law_1074 g ?_
      obtain ⟨_, gi, h⟩ := zb_some h
      obtain ⟨r136, g, h⟩ := zb_some h
      refine zc_Vi (as := [.int v133, .int v134]) hX gi (zt_X18_between (d := d - 1) (by omega) g) zl_L_314 rfl dL_law_1075 ⟨rfl, rfl, Nat.le_of_ble_eq_true rfl⟩ ⟨by omega, by omega⟩ ?_
      refine zw_istore hX dL_law_1078 (by decide) ?_
      refine zw_aload_n hX dL_law_1080 rfl ?_
      obtain ⟨_, gi, h⟩ := zb_some h
      obtain ⟨r138, g, h⟩ := zb_some h
      refine zc_Vi (as := []) hX gi (zt_X18_thrown (d := d - 1) (by omega) g) zl_L_281 rfl dL_law_1081 ⟨rfl, rfl, Nat.le_of_ble_eq_true rfl⟩ ⟨by omega, by omega⟩ ?_
      refine zw_iload hX dL_law_1084 rfl ?_
      refine zw_icmp_eq (tgt := 1091) hX dL_law_1086 (by decide) (fun c1086 => ?_) (fun c1086 => ?_)
      · rw [if_pos c1086] at h
        refine zw_iload hX dL_law_1091 rfl ?_
        refine zw_if_ne (tgt := 1108) hX dL_law_1093 (by decide) (fun c1093 => ?_) (fun c1093 => ?_)
        · rw [if_neg c1093] at h
          refine zw_goto (tgt := 6002) hX dL_law_1108 (by decide) ?_
          refine zw_iinc (v := (i4 + (7 : Int32))) hX dL_law_6002 rfl rfl (by decide) ?_
          refine zw_goto (tgt := 23) hX dL_law_6005 (by decide) ?_
          refine zw_sub (lv' := [(0, .ref a0), (1, .ref a1), (2, .ref a2), (3, .ref a3), (4, .int (i4 + (7 : Int32)))]) (List.forall_mem_cons.mpr ⟨rfl, (List.forall_mem_cons.mpr ⟨rfl, (List.forall_mem_cons.mpr ⟨rfl, (List.forall_mem_cons.mpr ⟨rfl, (List.forall_mem_cons.mpr ⟨rfl, zs_nil⟩)⟩)⟩)⟩)⟩) ?_
          exact hrec _ _ _ _ h
        · rw [if_pos c1093] at h
          refine zw_aload_n hX dL_law_1096 rfl ?_
          refine zw_iconst (v := (0 : Int32)) hX dL_law_1097 (by decide) ?_
          obtain ⟨w139, g, h⟩ := zb_some h
          refine zw_xl hX dL_law_1098 g ?_
          refine zw_iload hX dL_law_1099 rfl ?_
          refine zw_i2l hX dL_law_1101 ?_
          refine zw_lcmp hX dL_law_1102 ?_
          refine zw_if_eq (tgt := 1108) hX dL_law_1103 (by decide) (fun c1103 => ?_) (fun c1103 => ?_)
          · rw [if_pos c1103] at h
            refine zw_goto (tgt := 6002) hX dL_law_1108 (by decide) ?_
            refine zw_iinc (v := (i4 + (7 : Int32))) hX dL_law_6002 rfl rfl (by decide) ?_
            refine zw_goto (tgt := 23) hX dL_law_6005 (by decide) ?_
            refine zw_sub (lv' := [(0, .ref a0), (1, .ref a1), (2, .ref a2), (3, .ref a3), (4, .int (i4 + (7 : Int32)))]) (List.forall_mem_cons.mpr ⟨rfl, (List.forall_mem_cons.mpr ⟨rfl, (List.forall_mem_cons.mpr ⟨rfl, (List.forall_mem_cons.mpr ⟨rfl, (List.forall_mem_cons.mpr ⟨rfl, zs_nil⟩)⟩)⟩)⟩)⟩) ?_
            exact hrec _ _ _ _ h
          · rw [if_neg c1103] at h
            refine zw_iconst (v := (0 : Int32)) hX dL_law_1106 (by decide) ?_
            cases h
      · rw [if_neg c1086] at h
        refine zw_iconst (v := (0 : Int32)) hX dL_law_1089 (by decide) ?_
        cases h
    · intro _ _ hx
      exact hx.elim
  · rw [if_neg hb1057] at h
    cases h
set_option maxHeartbeats 4000000 in
set_option maxRecDepth 100000 in
theorem zt_L_law_J1111 {p : Program} {l : Launch} {e : Env} {s : State} {m : MethodId} {zb : Nat} {below : List Frame} {meth : Method} {c : Code} {V : zm_V} {d : Nat} {nm : String} (hlt : l.stackTraces = false) (hV : V.2.2.2.1 = s.heap.size) (hX : zm_X p room_1 s m #[Value.ref zb] meth c RL nm cL_law 8 zk_E V 601024 7293034) (hr : meth.sig.returnType = ret) (hR : d ≤ room_1.frames ∧ 64 * d ≤ room_1.locals) (hd : 46 ≤ d) {N : Nat} {k : Nat → Nat → Nat → Nat → Int32 → Nat → Nat → zm_S → Option ((Int32 × zm_S) ⊕ ((Unit) × zm_S))} {rc rs : Nat} {a0 : Nat} {a1 : Nat} {a2 : Nat} {a3 : Nat} {i4 : Int32} {res : (Int32 × zm_S) ⊕ ((Unit) × zm_S)} {out : (Int32 × zm_S)}   (hf : ∀ o, res = .inl o → o = out) (hk : ∀ (S' : zm_S) (rc rs : Nat), res = .inr ((), S') → zw p l e room_1 s m #[Value.ref zb] below meth c (lw_Z below #[Value.ref zb] s) 8 zk_E V 601024 7293034 6008 [] [] S' rc rs) (hrec : ∀ (i4' : Int32) (rc rs : Nat) (S : zm_S), k a0 a1 a2 a3 i4' rc rs S = some res → zw p l e room_1 s m #[Value.ref zb] below meth c (lw_Z below #[Value.ref zb] s) 8 zk_E V 601024 7293034 23 [(0, .ref a0), (1, .ref a1), (2, .ref a2), (3, .ref a3), (4, .int i4')] [] S rc rs) {S : zm_S} (h : zf_L_law_J1111 N k a0 a1 a2 a3 i4 rc rs S = some res) : zw p l e room_1 s m #[Value.ref zb] below meth c (lw_Z below #[Value.ref zb] s) 8 zk_E V 601024 7293034 1111 [(0, .ref a0), (1, .ref a1), (2, .ref a2), (3, .ref a3), (4, .int i4)] [] S rc rs := by
  unfold zf_L_law_J1111 at h
  refine zw_aload_n hX dL_law_1111 rfl ?_
  refine zw_aload_n hX dL_law_1112 rfl ?_
  refine zw_iload hX dL_law_1113 rfl ?_
  refine zw_iconst (v := (1 : Int32)) hX dL_law_1115 (by decide) ?_
  refine zw_iadd hX dL_law_1116 ?_
  obtain ⟨v140, g, h⟩ := zb_some h
  refine zw_xi hX dL_law_1117 g ?_
  refine zw_aload_n hX dL_law_1118 rfl ?_
  refine zw_iload hX dL_law_1119 rfl ?_
  refine zw_iconst (v := (2 : Int32)) hX dL_law_1121 (by decide) ?_
  refine zw_iadd hX dL_law_1122 ?_
  obtain ⟨v141, g, h⟩ := zb_some h
  refine zw_xi hX dL_law_1123 g ?_
  refine zw_aload_n hX dL_law_1124 rfl ?_
  by_cases hb1125 : 2 ≤ rc ∧ 12 ≤ rs
  · rw [if_pos hb1125] at h
    obtain ⟨r144, g, h⟩ := zb_some h
    refine zc_SH (as := [.ref a1, .int v140, .int v141, .ref a3]) hX (zt_L_way hlt (d := d - 1) (by omega) g) zl_L_315 dL_law_1125 ⟨rfl, rfl, Nat.le_of_ble_eq_true rfl⟩ ⟨by omega, by omega⟩ hb1125 ?_ ?_
    · rintro _ _ ⟨rfl, rfl⟩
      refine zw_istore hX dL_law_1128 (by decide) ?_
      refine zw_aload_n hX dL_law_1130 rfl ?_
      refine zw_aload_n hX dL_law_1131 rfl ?_
      refine zw_iload hX dL_law_1132 rfl ?_
      refine zw_iconst (v := (1 : Int32)) hX dL_law_1134 (by decide) ?_
      refine zw_iadd hX dL_law_1135 ?_
      obtain ⟨v145, g, h⟩ := zb_some h
      refine zw_xi hX dL_law_1136 g ?_
      refine zw_aload_n hX dL_law_1137 rfl ?_
      refine zw_iload hX dL_law_1138 rfl ?_
      refine zw_iconst (v := (2 : Int32)) hX dL_law_1140 (by decide) ?_
      refine zw_iadd hX dL_law_1141 ?_
      obtain ⟨v146, g, h⟩ := zb_some h
      refine zw_xi hX dL_law_1142 g ?_
      obtain ⟨_, gi, h⟩ := zb_some h
      obtain ⟨r148, g, h⟩ := zb_some h
      refine zc_Vi (as := [.int v145, .int v146]) hX gi (zt_X18_way (d := d - 1) (by omega) g) zl_L_317 rfl dL_law_1143 ⟨rfl, rfl, Nat.le_of_ble_eq_true rfl⟩ ⟨by omega, by omega⟩ ?_
      refine zw_istore hX dL_law_1146 (by decide) ?_
      refine zw_aload_n hX dL_law_1148 rfl ?_
      obtain ⟨_, gi, h⟩ := zb_some h
      obtain ⟨r150, g, h⟩ := zb_some h
      refine zc_Vi (as := []) hX gi (zt_X18_thrown (d := d - 1) (by omega) g) zl_L_281 rfl dL_law_1149 ⟨rfl, rfl, Nat.le_of_ble_eq_true rfl⟩ ⟨by omega, by omega⟩ ?_
      refine zw_iload hX dL_law_1152 rfl ?_
      refine zw_icmp_eq (tgt := 1159) hX dL_law_1154 (by decide) (fun c1154 => ?_) (fun c1154 => ?_)
      · rw [if_pos c1154] at h
        refine zw_iload hX dL_law_1159 rfl ?_
        refine zw_if_ne (tgt := 1176) hX dL_law_1161 (by decide) (fun c1161 => ?_) (fun c1161 => ?_)
        · rw [if_neg c1161] at h
          refine zw_goto (tgt := 6002) hX dL_law_1176 (by decide) ?_
          refine zw_iinc (v := (i4 + (7 : Int32))) hX dL_law_6002 rfl rfl (by decide) ?_
          refine zw_goto (tgt := 23) hX dL_law_6005 (by decide) ?_
          refine zw_sub (lv' := [(0, .ref a0), (1, .ref a1), (2, .ref a2), (3, .ref a3), (4, .int (i4 + (7 : Int32)))]) (List.forall_mem_cons.mpr ⟨rfl, (List.forall_mem_cons.mpr ⟨rfl, (List.forall_mem_cons.mpr ⟨rfl, (List.forall_mem_cons.mpr ⟨rfl, (List.forall_mem_cons.mpr ⟨rfl, zs_nil⟩)⟩)⟩)⟩)⟩) ?_
          exact hrec _ _ _ _ h
        · rw [if_pos c1161] at h
          refine zw_aload_n hX dL_law_1164 rfl ?_
          refine zw_iconst (v := (0 : Int32)) hX dL_law_1165 (by decide) ?_
          obtain ⟨w151, g, h⟩ := zb_some h
          refine zw_xl hX dL_law_1166 g ?_
          refine zw_iload hX dL_law_1167 rfl ?_
          refine zw_i2l hX dL_law_1169 ?_
          refine zw_lcmp hX dL_law_1170 ?_
          refine zw_if_eq (tgt := 1176) hX dL_law_1171 (by decide) (fun c1171 => ?_) (fun c1171 => ?_)
          · rw [if_pos c1171] at h
            refine zw_goto (tgt := 6002) hX dL_law_1176 (by decide) ?_
            refine zw_iinc (v := (i4 + (7 : Int32))) hX dL_law_6002 rfl rfl (by decide) ?_
            refine zw_goto (tgt := 23) hX dL_law_6005 (by decide) ?_
            refine zw_sub (lv' := [(0, .ref a0), (1, .ref a1), (2, .ref a2), (3, .ref a3), (4, .int (i4 + (7 : Int32)))]) (List.forall_mem_cons.mpr ⟨rfl, (List.forall_mem_cons.mpr ⟨rfl, (List.forall_mem_cons.mpr ⟨rfl, (List.forall_mem_cons.mpr ⟨rfl, (List.forall_mem_cons.mpr ⟨rfl, zs_nil⟩)⟩)⟩)⟩)⟩) ?_
            exact hrec _ _ _ _ h
          · rw [if_neg c1171] at h
            refine zw_iconst (v := (0 : Int32)) hX dL_law_1174 (by decide) ?_
            cases h
      · rw [if_neg c1154] at h
        refine zw_iconst (v := (0 : Int32)) hX dL_law_1157 (by decide) ?_
        cases h
    · intro _ _ hx
      exact hx.elim
  · rw [if_neg hb1125] at h
    cases h
set_option maxHeartbeats 4000000 in
set_option maxRecDepth 100000 in
theorem zt_L_law_J1179 {p : Program} {l : Launch} {e : Env} {s : State} {m : MethodId} {zb : Nat} {below : List Frame} {meth : Method} {c : Code} {V : zm_V} {d : Nat} {nm : String} (hlt : l.stackTraces = false) (hV : V.2.2.2.1 = s.heap.size) (hX : zm_X p room_1 s m #[Value.ref zb] meth c RL nm cL_law 8 zk_E V 601024 7293034) (hr : meth.sig.returnType = ret) (hR : d ≤ room_1.frames ∧ 64 * d ≤ room_1.locals) (hd : 46 ≤ d) {N : Nat} {k : Nat → Nat → Nat → Nat → Int32 → Nat → Nat → zm_S → Option ((Int32 × zm_S) ⊕ ((Unit) × zm_S))} {rc rs : Nat} {a0 : Nat} {a1 : Nat} {a2 : Nat} {a3 : Nat} {i4 : Int32} {res : (Int32 × zm_S) ⊕ ((Unit) × zm_S)} {out : (Int32 × zm_S)}   (hf : ∀ o, res = .inl o → o = out) (hk : ∀ (S' : zm_S) (rc rs : Nat), res = .inr ((), S') → zw p l e room_1 s m #[Value.ref zb] below meth c (lw_Z below #[Value.ref zb] s) 8 zk_E V 601024 7293034 6008 [] [] S' rc rs) (hrec : ∀ (i4' : Int32) (rc rs : Nat) (S : zm_S), k a0 a1 a2 a3 i4' rc rs S = some res → zw p l e room_1 s m #[Value.ref zb] below meth c (lw_Z below #[Value.ref zb] s) 8 zk_E V 601024 7293034 23 [(0, .ref a0), (1, .ref a1), (2, .ref a2), (3, .ref a3), (4, .int i4')] [] S rc rs) {S : zm_S} (h : zf_L_law_J1179 N k a0 a1 a2 a3 i4 rc rs S = some res) : zw p l e room_1 s m #[Value.ref zb] below meth c (lw_Z below #[Value.ref zb] s) 8 zk_E V 601024 7293034 1179 [(0, .ref a0), (1, .ref a1), (2, .ref a2), (3, .ref a3), (4, .int i4)] [] S rc rs := by
  unfold zf_L_law_J1179 at h
  refine zw_aload_n hX dL_law_1179 rfl ?_
  refine zw_aload_n hX dL_law_1180 rfl ?_
  refine zw_iload hX dL_law_1181 rfl ?_
  refine zw_iconst (v := (1 : Int32)) hX dL_law_1183 (by decide) ?_
  refine zw_iadd hX dL_law_1184 ?_
  obtain ⟨v152, g, h⟩ := zb_some h
  refine zw_xi hX dL_law_1185 g ?_
  refine zw_aload_n hX dL_law_1186 rfl ?_
  refine zw_iload hX dL_law_1187 rfl ?_
  refine zw_iconst (v := (2 : Int32)) hX dL_law_1189 (by decide) ?_
  refine zw_iadd hX dL_law_1190 ?_
  obtain ⟨v153, g, h⟩ := zb_some h
  refine zw_xi hX dL_law_1191 g ?_
  refine zw_aload_n hX dL_law_1192 rfl ?_
  by_cases hb1193 : 2 ≤ rc ∧ 12 ≤ rs
  · rw [if_pos hb1193] at h
    obtain ⟨r156, g, h⟩ := zb_some h
    refine zc_SH (as := [.ref a1, .int v152, .int v153, .ref a3]) hX (zt_L_name hlt (d := d - 1) (by omega) g) zl_L_318 dL_law_1193 ⟨rfl, rfl, Nat.le_of_ble_eq_true rfl⟩ ⟨by omega, by omega⟩ hb1193 ?_ ?_
    · rintro _ _ ⟨rfl, rfl⟩
      refine zw_istore hX dL_law_1196 (by decide) ?_
      refine zw_aload_n hX dL_law_1198 rfl ?_
      refine zw_aload_n hX dL_law_1199 rfl ?_
      refine zw_iload hX dL_law_1200 rfl ?_
      refine zw_iconst (v := (1 : Int32)) hX dL_law_1202 (by decide) ?_
      refine zw_iadd hX dL_law_1203 ?_
      obtain ⟨v157, g, h⟩ := zb_some h
      refine zw_xi hX dL_law_1204 g ?_
      refine zw_aload_n hX dL_law_1205 rfl ?_
      refine zw_iload hX dL_law_1206 rfl ?_
      refine zw_iconst (v := (2 : Int32)) hX dL_law_1208 (by decide) ?_
      refine zw_iadd hX dL_law_1209 ?_
      obtain ⟨v158, g, h⟩ := zb_some h
      refine zw_xi hX dL_law_1210 g ?_
      obtain ⟨_, gi, h⟩ := zb_some h
      obtain ⟨r160, g, h⟩ := zb_some h
      refine zc_Vi (as := [.int v157, .int v158]) hX gi (zt_X18_name (d := d - 1) (by omega) g) zl_L_320 rfl dL_law_1211 ⟨rfl, rfl, Nat.le_of_ble_eq_true rfl⟩ ⟨by omega, by omega⟩ ?_
      refine zw_istore hX dL_law_1214 (by decide) ?_
      refine zw_aload_n hX dL_law_1216 rfl ?_
      obtain ⟨_, gi, h⟩ := zb_some h
      obtain ⟨r162, g, h⟩ := zb_some h
      refine zc_Vi (as := []) hX gi (zt_X18_thrown (d := d - 1) (by omega) g) zl_L_281 rfl dL_law_1217 ⟨rfl, rfl, Nat.le_of_ble_eq_true rfl⟩ ⟨by omega, by omega⟩ ?_
      refine zw_iload hX dL_law_1220 rfl ?_
      refine zw_icmp_eq (tgt := 1227) hX dL_law_1222 (by decide) (fun c1222 => ?_) (fun c1222 => ?_)
      · rw [if_pos c1222] at h
        refine zw_iload hX dL_law_1227 rfl ?_
        refine zw_if_ne (tgt := 1244) hX dL_law_1229 (by decide) (fun c1229 => ?_) (fun c1229 => ?_)
        · rw [if_neg c1229] at h
          refine zw_goto (tgt := 6002) hX dL_law_1244 (by decide) ?_
          refine zw_iinc (v := (i4 + (7 : Int32))) hX dL_law_6002 rfl rfl (by decide) ?_
          refine zw_goto (tgt := 23) hX dL_law_6005 (by decide) ?_
          refine zw_sub (lv' := [(0, .ref a0), (1, .ref a1), (2, .ref a2), (3, .ref a3), (4, .int (i4 + (7 : Int32)))]) (List.forall_mem_cons.mpr ⟨rfl, (List.forall_mem_cons.mpr ⟨rfl, (List.forall_mem_cons.mpr ⟨rfl, (List.forall_mem_cons.mpr ⟨rfl, (List.forall_mem_cons.mpr ⟨rfl, zs_nil⟩)⟩)⟩)⟩)⟩) ?_
          exact hrec _ _ _ _ h
        · rw [if_pos c1229] at h
          refine zw_aload_n hX dL_law_1232 rfl ?_
          refine zw_iconst (v := (0 : Int32)) hX dL_law_1233 (by decide) ?_
          obtain ⟨w163, g, h⟩ := zb_some h
          refine zw_xl hX dL_law_1234 g ?_
          refine zw_iload hX dL_law_1235 rfl ?_
          refine zw_i2l hX dL_law_1237 ?_
          refine zw_lcmp hX dL_law_1238 ?_
          refine zw_if_eq (tgt := 1244) hX dL_law_1239 (by decide) (fun c1239 => ?_) (fun c1239 => ?_)
          · rw [if_pos c1239] at h
            refine zw_goto (tgt := 6002) hX dL_law_1244 (by decide) ?_
            refine zw_iinc (v := (i4 + (7 : Int32))) hX dL_law_6002 rfl rfl (by decide) ?_
            refine zw_goto (tgt := 23) hX dL_law_6005 (by decide) ?_
            refine zw_sub (lv' := [(0, .ref a0), (1, .ref a1), (2, .ref a2), (3, .ref a3), (4, .int (i4 + (7 : Int32)))]) (List.forall_mem_cons.mpr ⟨rfl, (List.forall_mem_cons.mpr ⟨rfl, (List.forall_mem_cons.mpr ⟨rfl, (List.forall_mem_cons.mpr ⟨rfl, (List.forall_mem_cons.mpr ⟨rfl, zs_nil⟩)⟩)⟩)⟩)⟩) ?_
            exact hrec _ _ _ _ h
          · rw [if_neg c1239] at h
            refine zw_iconst (v := (0 : Int32)) hX dL_law_1242 (by decide) ?_
            cases h
      · rw [if_neg c1222] at h
        refine zw_iconst (v := (0 : Int32)) hX dL_law_1225 (by decide) ?_
        cases h
    · intro _ _ hx
      exact hx.elim
  · rw [if_neg hb1193] at h
    cases h
set_option maxHeartbeats 4000000 in
set_option maxRecDepth 100000 in
theorem zt_L_law_J1247 {p : Program} {l : Launch} {e : Env} {s : State} {m : MethodId} {zb : Nat} {below : List Frame} {meth : Method} {c : Code} {V : zm_V} {d : Nat} {nm : String} (hlt : l.stackTraces = false) (hV : V.2.2.2.1 = s.heap.size) (hX : zm_X p room_1 s m #[Value.ref zb] meth c RL nm cL_law 8 zk_E V 601024 7293034) (hr : meth.sig.returnType = ret) (hR : d ≤ room_1.frames ∧ 64 * d ≤ room_1.locals) (hd : 46 ≤ d) {N : Nat} {k : Nat → Nat → Nat → Nat → Int32 → Nat → Nat → zm_S → Option ((Int32 × zm_S) ⊕ ((Unit) × zm_S))} {rc rs : Nat} {a0 : Nat} {a1 : Nat} {a2 : Nat} {a3 : Nat} {i4 : Int32} {res : (Int32 × zm_S) ⊕ ((Unit) × zm_S)} {out : (Int32 × zm_S)}   (hf : ∀ o, res = .inl o → o = out) (hk : ∀ (S' : zm_S) (rc rs : Nat), res = .inr ((), S') → zw p l e room_1 s m #[Value.ref zb] below meth c (lw_Z below #[Value.ref zb] s) 8 zk_E V 601024 7293034 6008 [] [] S' rc rs) (hrec : ∀ (i4' : Int32) (rc rs : Nat) (S : zm_S), k a0 a1 a2 a3 i4' rc rs S = some res → zw p l e room_1 s m #[Value.ref zb] below meth c (lw_Z below #[Value.ref zb] s) 8 zk_E V 601024 7293034 23 [(0, .ref a0), (1, .ref a1), (2, .ref a2), (3, .ref a3), (4, .int i4')] [] S rc rs) {S : zm_S} (h : zf_L_law_J1247 N k a0 a1 a2 a3 i4 rc rs S = some res) : zw p l e room_1 s m #[Value.ref zb] below meth c (lw_Z below #[Value.ref zb] s) 8 zk_E V 601024 7293034 1247 [(0, .ref a0), (1, .ref a1), (2, .ref a2), (3, .ref a3), (4, .int i4)] [] S rc rs := by
  unfold zf_L_law_J1247 at h
  refine zw_aload_n hX dL_law_1247 rfl ?_
  refine zw_aload_n hX dL_law_1248 rfl ?_
  refine zw_iload hX dL_law_1249 rfl ?_
  refine zw_iconst (v := (1 : Int32)) hX dL_law_1251 (by decide) ?_
  refine zw_iadd hX dL_law_1252 ?_
  obtain ⟨v164, g, h⟩ := zb_some h
  refine zw_xi hX dL_law_1253 g ?_
  refine zw_aload_n hX dL_law_1254 rfl ?_
  by_cases hb1255 : 2 ≤ rc ∧ 12 ≤ rs
  · rw [if_pos hb1255] at h
    obtain ⟨r167, g, h⟩ := zb_some h
    refine zc_SH (as := [.ref a1, .int v164, .ref a3]) hX (zt_L_nameOf hlt (d := d - 1) (by omega) g) zl_L_321 dL_law_1255 ⟨rfl, rfl, Nat.le_of_ble_eq_true rfl⟩ ⟨by omega, by omega⟩ hb1255 ?_ ?_
    · rintro _ _ ⟨rfl, rfl⟩
      refine zw_istore hX dL_law_1258 (by decide) ?_
      refine zw_aload_n hX dL_law_1260 rfl ?_
      refine zw_aload_n hX dL_law_1261 rfl ?_
      refine zw_iload hX dL_law_1262 rfl ?_
      refine zw_iconst (v := (1 : Int32)) hX dL_law_1264 (by decide) ?_
      refine zw_iadd hX dL_law_1265 ?_
      obtain ⟨v168, g, h⟩ := zb_some h
      refine zw_xi hX dL_law_1266 g ?_
      obtain ⟨_, gi, h⟩ := zb_some h
      obtain ⟨r170, g, h⟩ := zb_some h
      refine zc_Vi (as := [.int v168]) hX gi (zt_X18_nameOf (d := d - 1) (by omega) g) zl_L_323 rfl dL_law_1267 ⟨rfl, rfl, Nat.le_of_ble_eq_true rfl⟩ ⟨by omega, by omega⟩ ?_
      refine zw_istore hX dL_law_1270 (by decide) ?_
      refine zw_aload_n hX dL_law_1272 rfl ?_
      obtain ⟨_, gi, h⟩ := zb_some h
      obtain ⟨r172, g, h⟩ := zb_some h
      refine zc_Vi (as := []) hX gi (zt_X18_thrown (d := d - 1) (by omega) g) zl_L_281 rfl dL_law_1273 ⟨rfl, rfl, Nat.le_of_ble_eq_true rfl⟩ ⟨by omega, by omega⟩ ?_
      refine zw_iload hX dL_law_1276 rfl ?_
      refine zw_icmp_eq (tgt := 1283) hX dL_law_1278 (by decide) (fun c1278 => ?_) (fun c1278 => ?_)
      · rw [if_pos c1278] at h
        refine zw_iload hX dL_law_1283 rfl ?_
        refine zw_if_ne (tgt := 1300) hX dL_law_1285 (by decide) (fun c1285 => ?_) (fun c1285 => ?_)
        · rw [if_neg c1285] at h
          refine zw_goto (tgt := 6002) hX dL_law_1300 (by decide) ?_
          refine zw_iinc (v := (i4 + (7 : Int32))) hX dL_law_6002 rfl rfl (by decide) ?_
          refine zw_goto (tgt := 23) hX dL_law_6005 (by decide) ?_
          refine zw_sub (lv' := [(0, .ref a0), (1, .ref a1), (2, .ref a2), (3, .ref a3), (4, .int (i4 + (7 : Int32)))]) (List.forall_mem_cons.mpr ⟨rfl, (List.forall_mem_cons.mpr ⟨rfl, (List.forall_mem_cons.mpr ⟨rfl, (List.forall_mem_cons.mpr ⟨rfl, (List.forall_mem_cons.mpr ⟨rfl, zs_nil⟩)⟩)⟩)⟩)⟩) ?_
          exact hrec _ _ _ _ h
        · rw [if_pos c1285] at h
          refine zw_aload_n hX dL_law_1288 rfl ?_
          refine zw_iconst (v := (0 : Int32)) hX dL_law_1289 (by decide) ?_
          obtain ⟨w173, g, h⟩ := zb_some h
          refine zw_xl hX dL_law_1290 g ?_
          refine zw_iload hX dL_law_1291 rfl ?_
          refine zw_i2l hX dL_law_1293 ?_
          refine zw_lcmp hX dL_law_1294 ?_
          refine zw_if_eq (tgt := 1300) hX dL_law_1295 (by decide) (fun c1295 => ?_) (fun c1295 => ?_)
          · rw [if_pos c1295] at h
            refine zw_goto (tgt := 6002) hX dL_law_1300 (by decide) ?_
            refine zw_iinc (v := (i4 + (7 : Int32))) hX dL_law_6002 rfl rfl (by decide) ?_
            refine zw_goto (tgt := 23) hX dL_law_6005 (by decide) ?_
            refine zw_sub (lv' := [(0, .ref a0), (1, .ref a1), (2, .ref a2), (3, .ref a3), (4, .int (i4 + (7 : Int32)))]) (List.forall_mem_cons.mpr ⟨rfl, (List.forall_mem_cons.mpr ⟨rfl, (List.forall_mem_cons.mpr ⟨rfl, (List.forall_mem_cons.mpr ⟨rfl, (List.forall_mem_cons.mpr ⟨rfl, zs_nil⟩)⟩)⟩)⟩)⟩) ?_
            exact hrec _ _ _ _ h
          · rw [if_neg c1295] at h
            refine zw_iconst (v := (0 : Int32)) hX dL_law_1298 (by decide) ?_
            cases h
      · rw [if_neg c1278] at h
        refine zw_iconst (v := (0 : Int32)) hX dL_law_1281 (by decide) ?_
        cases h
    · intro _ _ hx
      exact hx.elim
  · rw [if_neg hb1255] at h
    cases h
set_option maxHeartbeats 4000000 in
set_option maxRecDepth 100000 in
theorem zt_L_law_J1303 {p : Program} {l : Launch} {e : Env} {s : State} {m : MethodId} {zb : Nat} {below : List Frame} {meth : Method} {c : Code} {V : zm_V} {d : Nat} {nm : String} (hlt : l.stackTraces = false) (hV : V.2.2.2.1 = s.heap.size) (hX : zm_X p room_1 s m #[Value.ref zb] meth c RL nm cL_law 8 zk_E V 601024 7293034) (hr : meth.sig.returnType = ret) (hR : d ≤ room_1.frames ∧ 64 * d ≤ room_1.locals) (hd : 46 ≤ d) {N : Nat} {k : Nat → Nat → Nat → Nat → Int32 → Nat → Nat → zm_S → Option ((Int32 × zm_S) ⊕ ((Unit) × zm_S))} {rc rs : Nat} {a0 : Nat} {a1 : Nat} {a2 : Nat} {a3 : Nat} {i4 : Int32} {res : (Int32 × zm_S) ⊕ ((Unit) × zm_S)} {out : (Int32 × zm_S)}   (hf : ∀ o, res = .inl o → o = out) (hk : ∀ (S' : zm_S) (rc rs : Nat), res = .inr ((), S') → zw p l e room_1 s m #[Value.ref zb] below meth c (lw_Z below #[Value.ref zb] s) 8 zk_E V 601024 7293034 6008 [] [] S' rc rs) (hrec : ∀ (i4' : Int32) (rc rs : Nat) (S : zm_S), k a0 a1 a2 a3 i4' rc rs S = some res → zw p l e room_1 s m #[Value.ref zb] below meth c (lw_Z below #[Value.ref zb] s) 8 zk_E V 601024 7293034 23 [(0, .ref a0), (1, .ref a1), (2, .ref a2), (3, .ref a3), (4, .int i4')] [] S rc rs) {S : zm_S} (h : zf_L_law_J1303 N k a0 a1 a2 a3 i4 rc rs S = some res) : zw p l e room_1 s m #[Value.ref zb] below meth c (lw_Z below #[Value.ref zb] s) 8 zk_E V 601024 7293034 1303 [(0, .ref a0), (1, .ref a1), (2, .ref a2), (3, .ref a3), (4, .int i4)] [] S rc rs := by
  unfold zf_L_law_J1303 at h
  refine zw_aload_n hX dL_law_1303 rfl ?_
  refine zw_aload_n hX dL_law_1304 rfl ?_
  refine zw_iload hX dL_law_1305 rfl ?_
  refine zw_iconst (v := (1 : Int32)) hX dL_law_1307 (by decide) ?_
  refine zw_iadd hX dL_law_1308 ?_
  obtain ⟨v174, g, h⟩ := zb_some h
  refine zw_xi hX dL_law_1309 g ?_
  refine zw_i2l hX dL_law_1310 ?_
  refine zw_bipush (v := (32 : Int32)) hX dL_law_1311 (by decide) ?_
  refine zw_lshl hX dL_law_1313 ?_
  refine zw_aload_n hX dL_law_1314 rfl ?_
  refine zw_iload hX dL_law_1315 rfl ?_
  refine zw_iconst (v := (2 : Int32)) hX dL_law_1317 (by decide) ?_
  refine zw_iadd hX dL_law_1318 ?_
  obtain ⟨v175, g, h⟩ := zb_some h
  refine zw_xi hX dL_law_1319 g ?_
  refine zw_i2l hX dL_law_1320 ?_
  refine zw_ldc2 (v := (4294967295 : Int64)) hX dL_law_1321 zl_L_324 ?_
  refine zw_land hX dL_law_1324 ?_
  refine zw_lor hX dL_law_1325 ?_
  refine zw_aload_n hX dL_law_1326 rfl ?_
  by_cases hb1327 : 2 ≤ rc ∧ 12 ≤ rs
  · rw [if_pos hb1327] at h
    obtain ⟨r178, g, h⟩ := zb_some h
    refine zc_SH (as := [.ref a1, .long (((v174).toInt64 <<< (((32 : Int32)).toInt64 &&& 63)) ||| ((v175).toInt64 &&& (4294967295 : Int64))), .ref a3]) hX (zt_L_say hlt (d := d - 1) (by omega) g) zl_L_326 dL_law_1327 ⟨rfl, rfl, Nat.le_of_ble_eq_true rfl⟩ ⟨by omega, by omega⟩ hb1327 ?_ ?_
    · rintro _ _ ⟨rfl, rfl⟩
      refine zw_istore hX dL_law_1330 (by decide) ?_
      refine zw_aload_n hX dL_law_1332 rfl ?_
      refine zw_aload_n hX dL_law_1333 rfl ?_
      refine zw_iload hX dL_law_1334 rfl ?_
      refine zw_iconst (v := (1 : Int32)) hX dL_law_1336 (by decide) ?_
      refine zw_iadd hX dL_law_1337 ?_
      obtain ⟨v179, g, h⟩ := zb_some h
      refine zw_xi hX dL_law_1338 g ?_
      refine zw_i2l hX dL_law_1339 ?_
      refine zw_bipush (v := (32 : Int32)) hX dL_law_1340 (by decide) ?_
      refine zw_lshl hX dL_law_1342 ?_
      refine zw_aload_n hX dL_law_1343 rfl ?_
      refine zw_iload hX dL_law_1344 rfl ?_
      refine zw_iconst (v := (2 : Int32)) hX dL_law_1346 (by decide) ?_
      refine zw_iadd hX dL_law_1347 ?_
      obtain ⟨v180, g, h⟩ := zb_some h
      refine zw_xi hX dL_law_1348 g ?_
      refine zw_i2l hX dL_law_1349 ?_
      refine zw_ldc2 (v := (4294967295 : Int64)) hX dL_law_1350 zl_L_324 ?_
      refine zw_land hX dL_law_1353 ?_
      refine zw_lor hX dL_law_1354 ?_
      obtain ⟨_, gi, h⟩ := zb_some h
      obtain ⟨r182, g, h⟩ := zb_some h
      refine zc_Vi (as := [.long (((v179).toInt64 <<< (((32 : Int32)).toInt64 &&& 63)) ||| ((v180).toInt64 &&& (4294967295 : Int64)))]) hX gi (zt_X18_say (d := d - 1) (by omega) g) zl_L_329 rfl dL_law_1355 ⟨rfl, rfl, Nat.le_of_ble_eq_true rfl⟩ ⟨by omega, by omega⟩ ?_
      refine zw_istore hX dL_law_1358 (by decide) ?_
      refine zw_aload_n hX dL_law_1360 rfl ?_
      obtain ⟨_, gi, h⟩ := zb_some h
      obtain ⟨r184, g, h⟩ := zb_some h
      refine zc_Vi (as := []) hX gi (zt_X18_thrown (d := d - 1) (by omega) g) zl_L_281 rfl dL_law_1361 ⟨rfl, rfl, Nat.le_of_ble_eq_true rfl⟩ ⟨by omega, by omega⟩ ?_
      refine zw_iload hX dL_law_1364 rfl ?_
      refine zw_icmp_eq (tgt := 1371) hX dL_law_1366 (by decide) (fun c1366 => ?_) (fun c1366 => ?_)
      · rw [if_pos c1366] at h
        refine zw_iload hX dL_law_1371 rfl ?_
        refine zw_if_ne (tgt := 1388) hX dL_law_1373 (by decide) (fun c1373 => ?_) (fun c1373 => ?_)
        · rw [if_neg c1373] at h
          refine zw_goto (tgt := 6002) hX dL_law_1388 (by decide) ?_
          refine zw_iinc (v := (i4 + (7 : Int32))) hX dL_law_6002 rfl rfl (by decide) ?_
          refine zw_goto (tgt := 23) hX dL_law_6005 (by decide) ?_
          refine zw_sub (lv' := [(0, .ref a0), (1, .ref a1), (2, .ref a2), (3, .ref a3), (4, .int (i4 + (7 : Int32)))]) (List.forall_mem_cons.mpr ⟨rfl, (List.forall_mem_cons.mpr ⟨rfl, (List.forall_mem_cons.mpr ⟨rfl, (List.forall_mem_cons.mpr ⟨rfl, (List.forall_mem_cons.mpr ⟨rfl, zs_nil⟩)⟩)⟩)⟩)⟩) ?_
          exact hrec _ _ _ _ h
        · rw [if_pos c1373] at h
          refine zw_aload_n hX dL_law_1376 rfl ?_
          refine zw_iconst (v := (0 : Int32)) hX dL_law_1377 (by decide) ?_
          obtain ⟨w185, g, h⟩ := zb_some h
          refine zw_xl hX dL_law_1378 g ?_
          refine zw_iload hX dL_law_1379 rfl ?_
          refine zw_i2l hX dL_law_1381 ?_
          refine zw_lcmp hX dL_law_1382 ?_
          refine zw_if_eq (tgt := 1388) hX dL_law_1383 (by decide) (fun c1383 => ?_) (fun c1383 => ?_)
          · rw [if_pos c1383] at h
            refine zw_goto (tgt := 6002) hX dL_law_1388 (by decide) ?_
            refine zw_iinc (v := (i4 + (7 : Int32))) hX dL_law_6002 rfl rfl (by decide) ?_
            refine zw_goto (tgt := 23) hX dL_law_6005 (by decide) ?_
            refine zw_sub (lv' := [(0, .ref a0), (1, .ref a1), (2, .ref a2), (3, .ref a3), (4, .int (i4 + (7 : Int32)))]) (List.forall_mem_cons.mpr ⟨rfl, (List.forall_mem_cons.mpr ⟨rfl, (List.forall_mem_cons.mpr ⟨rfl, (List.forall_mem_cons.mpr ⟨rfl, (List.forall_mem_cons.mpr ⟨rfl, zs_nil⟩)⟩)⟩)⟩)⟩) ?_
            exact hrec _ _ _ _ h
          · rw [if_neg c1383] at h
            refine zw_iconst (v := (0 : Int32)) hX dL_law_1386 (by decide) ?_
            cases h
      · rw [if_neg c1366] at h
        refine zw_iconst (v := (0 : Int32)) hX dL_law_1369 (by decide) ?_
        cases h
    · intro _ _ hx
      exact hx.elim
  · rw [if_neg hb1327] at h
    cases h
set_option maxHeartbeats 4000000 in
set_option maxRecDepth 100000 in
theorem zt_L_law_J1391 {p : Program} {l : Launch} {e : Env} {s : State} {m : MethodId} {zb : Nat} {below : List Frame} {meth : Method} {c : Code} {V : zm_V} {d : Nat} {nm : String} (hlt : l.stackTraces = false) (hV : V.2.2.2.1 = s.heap.size) (hX : zm_X p room_1 s m #[Value.ref zb] meth c RL nm cL_law 8 zk_E V 601024 7293034) (hr : meth.sig.returnType = ret) (hR : d ≤ room_1.frames ∧ 64 * d ≤ room_1.locals) (hd : 46 ≤ d) {N : Nat} {k : Nat → Nat → Nat → Nat → Int32 → Nat → Nat → zm_S → Option ((Int32 × zm_S) ⊕ ((Unit) × zm_S))} {rc rs : Nat} {a0 : Nat} {a1 : Nat} {a2 : Nat} {a3 : Nat} {i4 : Int32} {res : (Int32 × zm_S) ⊕ ((Unit) × zm_S)} {out : (Int32 × zm_S)}   (hf : ∀ o, res = .inl o → o = out) (hk : ∀ (S' : zm_S) (rc rs : Nat), res = .inr ((), S') → zw p l e room_1 s m #[Value.ref zb] below meth c (lw_Z below #[Value.ref zb] s) 8 zk_E V 601024 7293034 6008 [] [] S' rc rs) (hrec : ∀ (i4' : Int32) (rc rs : Nat) (S : zm_S), k a0 a1 a2 a3 i4' rc rs S = some res → zw p l e room_1 s m #[Value.ref zb] below meth c (lw_Z below #[Value.ref zb] s) 8 zk_E V 601024 7293034 23 [(0, .ref a0), (1, .ref a1), (2, .ref a2), (3, .ref a3), (4, .int i4')] [] S rc rs) {S : zm_S} (h : zf_L_law_J1391 N k a0 a1 a2 a3 i4 rc rs S = some res) : zw p l e room_1 s m #[Value.ref zb] below meth c (lw_Z below #[Value.ref zb] s) 8 zk_E V 601024 7293034 1391 [(0, .ref a0), (1, .ref a1), (2, .ref a2), (3, .ref a3), (4, .int i4)] [] S rc rs := by
  unfold zf_L_law_J1391 at h
  refine zw_aload_n hX dL_law_1391 rfl ?_
  refine zw_aload_n hX dL_law_1392 rfl ?_
  refine zw_iload hX dL_law_1393 rfl ?_
  refine zw_iconst (v := (1 : Int32)) hX dL_law_1395 (by decide) ?_
  refine zw_iadd hX dL_law_1396 ?_
  obtain ⟨v186, g, h⟩ := zb_some h
  refine zw_xi hX dL_law_1397 g ?_
  refine zw_aload_n hX dL_law_1398 rfl ?_
  by_cases hb1399 : 1 ≤ rc ∧ 6 ≤ rs
  · rw [if_pos hb1399] at h
    obtain ⟨r189, g, h⟩ := zb_some h
    refine zc_SH (as := [.ref a1, .int v186, .ref a3]) hX (zt_L_trim hlt (d := d - 1) (by omega) g) zl_L_330 dL_law_1399 ⟨rfl, rfl, Nat.le_of_ble_eq_true rfl⟩ ⟨by omega, by omega⟩ hb1399 ?_ ?_
    · rintro _ _ ⟨rfl, rfl⟩
      refine zw_istore hX dL_law_1402 (by decide) ?_
      refine zw_aload_n hX dL_law_1404 rfl ?_
      refine zw_aload_n hX dL_law_1405 rfl ?_
      refine zw_iload hX dL_law_1406 rfl ?_
      refine zw_iconst (v := (1 : Int32)) hX dL_law_1408 (by decide) ?_
      refine zw_iadd hX dL_law_1409 ?_
      obtain ⟨v190, g, h⟩ := zb_some h
      refine zw_xi hX dL_law_1410 g ?_
      obtain ⟨_, gi, h⟩ := zb_some h
      obtain ⟨r192, g, h⟩ := zb_some h
      refine zc_Vi (as := [.int v190]) hX gi (zt_X18_trim (d := d - 1) (by omega) g) zl_L_332 rfl dL_law_1411 ⟨rfl, rfl, Nat.le_of_ble_eq_true rfl⟩ ⟨by omega, by omega⟩ ?_
      refine zw_istore hX dL_law_1414 (by decide) ?_
      refine zw_aload_n hX dL_law_1416 rfl ?_
      obtain ⟨_, gi, h⟩ := zb_some h
      obtain ⟨r194, g, h⟩ := zb_some h
      refine zc_Vi (as := []) hX gi (zt_X18_thrown (d := d - 1) (by omega) g) zl_L_281 rfl dL_law_1417 ⟨rfl, rfl, Nat.le_of_ble_eq_true rfl⟩ ⟨by omega, by omega⟩ ?_
      refine zw_iload hX dL_law_1420 rfl ?_
      refine zw_icmp_eq (tgt := 1427) hX dL_law_1422 (by decide) (fun c1422 => ?_) (fun c1422 => ?_)
      · rw [if_pos c1422] at h
        refine zw_iload hX dL_law_1427 rfl ?_
        refine zw_if_ne (tgt := 1444) hX dL_law_1429 (by decide) (fun c1429 => ?_) (fun c1429 => ?_)
        · rw [if_neg c1429] at h
          refine zw_goto (tgt := 6002) hX dL_law_1444 (by decide) ?_
          refine zw_iinc (v := (i4 + (7 : Int32))) hX dL_law_6002 rfl rfl (by decide) ?_
          refine zw_goto (tgt := 23) hX dL_law_6005 (by decide) ?_
          refine zw_sub (lv' := [(0, .ref a0), (1, .ref a1), (2, .ref a2), (3, .ref a3), (4, .int (i4 + (7 : Int32)))]) (List.forall_mem_cons.mpr ⟨rfl, (List.forall_mem_cons.mpr ⟨rfl, (List.forall_mem_cons.mpr ⟨rfl, (List.forall_mem_cons.mpr ⟨rfl, (List.forall_mem_cons.mpr ⟨rfl, zs_nil⟩)⟩)⟩)⟩)⟩) ?_
          exact hrec _ _ _ _ h
        · rw [if_pos c1429] at h
          refine zw_aload_n hX dL_law_1432 rfl ?_
          refine zw_iconst (v := (0 : Int32)) hX dL_law_1433 (by decide) ?_
          obtain ⟨w195, g, h⟩ := zb_some h
          refine zw_xl hX dL_law_1434 g ?_
          refine zw_iload hX dL_law_1435 rfl ?_
          refine zw_i2l hX dL_law_1437 ?_
          refine zw_lcmp hX dL_law_1438 ?_
          refine zw_if_eq (tgt := 1444) hX dL_law_1439 (by decide) (fun c1439 => ?_) (fun c1439 => ?_)
          · rw [if_pos c1439] at h
            refine zw_goto (tgt := 6002) hX dL_law_1444 (by decide) ?_
            refine zw_iinc (v := (i4 + (7 : Int32))) hX dL_law_6002 rfl rfl (by decide) ?_
            refine zw_goto (tgt := 23) hX dL_law_6005 (by decide) ?_
            refine zw_sub (lv' := [(0, .ref a0), (1, .ref a1), (2, .ref a2), (3, .ref a3), (4, .int (i4 + (7 : Int32)))]) (List.forall_mem_cons.mpr ⟨rfl, (List.forall_mem_cons.mpr ⟨rfl, (List.forall_mem_cons.mpr ⟨rfl, (List.forall_mem_cons.mpr ⟨rfl, (List.forall_mem_cons.mpr ⟨rfl, zs_nil⟩)⟩)⟩)⟩)⟩) ?_
            exact hrec _ _ _ _ h
          · rw [if_neg c1439] at h
            refine zw_iconst (v := (0 : Int32)) hX dL_law_1442 (by decide) ?_
            cases h
      · rw [if_neg c1422] at h
        refine zw_iconst (v := (0 : Int32)) hX dL_law_1425 (by decide) ?_
        cases h
    · intro _ _ hx
      exact hx.elim
  · rw [if_neg hb1399] at h
    cases h
set_option maxHeartbeats 4000000 in
set_option maxRecDepth 100000 in
theorem zt_L_law_J1447 {p : Program} {l : Launch} {e : Env} {s : State} {m : MethodId} {zb : Nat} {below : List Frame} {meth : Method} {c : Code} {V : zm_V} {d : Nat} {nm : String} (hlt : l.stackTraces = false) (hV : V.2.2.2.1 = s.heap.size) (hX : zm_X p room_1 s m #[Value.ref zb] meth c RL nm cL_law 8 zk_E V 601024 7293034) (hr : meth.sig.returnType = ret) (hR : d ≤ room_1.frames ∧ 64 * d ≤ room_1.locals) (hd : 46 ≤ d) {N : Nat} {k : Nat → Nat → Nat → Nat → Int32 → Nat → Nat → zm_S → Option ((Int32 × zm_S) ⊕ ((Unit) × zm_S))} {rc rs : Nat} {a0 : Nat} {a1 : Nat} {a2 : Nat} {a3 : Nat} {i4 : Int32} {res : (Int32 × zm_S) ⊕ ((Unit) × zm_S)} {out : (Int32 × zm_S)}   (hf : ∀ o, res = .inl o → o = out) (hk : ∀ (S' : zm_S) (rc rs : Nat), res = .inr ((), S') → zw p l e room_1 s m #[Value.ref zb] below meth c (lw_Z below #[Value.ref zb] s) 8 zk_E V 601024 7293034 6008 [] [] S' rc rs) (hrec : ∀ (i4' : Int32) (rc rs : Nat) (S : zm_S), k a0 a1 a2 a3 i4' rc rs S = some res → zw p l e room_1 s m #[Value.ref zb] below meth c (lw_Z below #[Value.ref zb] s) 8 zk_E V 601024 7293034 23 [(0, .ref a0), (1, .ref a1), (2, .ref a2), (3, .ref a3), (4, .int i4')] [] S rc rs) {S : zm_S} (h : zf_L_law_J1447 N k a0 a1 a2 a3 i4 rc rs S = some res) : zw p l e room_1 s m #[Value.ref zb] below meth c (lw_Z below #[Value.ref zb] s) 8 zk_E V 601024 7293034 1447 [(0, .ref a0), (1, .ref a1), (2, .ref a2), (3, .ref a3), (4, .int i4)] [] S rc rs := by
  unfold zf_L_law_J1447 at h
  refine zw_aload_n hX dL_law_1447 rfl ?_
  obtain ⟨_, gi, h⟩ := zb_some h
  obtain ⟨r197, g, h⟩ := zb_some h
  refine zc_Vi (as := []) hX gi (zt_X11_rules (d := d - 1) (by omega) g) zl_L_333 rfl dL_law_1448 ⟨rfl, rfl, Nat.le_of_ble_eq_true rfl⟩ ⟨by omega, by omega⟩ ?_
  refine zw_aload_n hX dL_law_1451 rfl ?_
  obtain ⟨_, gi, h⟩ := zb_some h
  obtain ⟨r199, g, h⟩ := zb_some h
  refine zc_Vi (as := []) hX gi (zt_X18_rules (d := d - 1) (by omega) g) zl_L_336 rfl dL_law_1452 ⟨rfl, rfl, Nat.le_of_ble_eq_true rfl⟩ ⟨by omega, by omega⟩ ?_
  refine zw_icmp_eq (tgt := 6002) hX dL_law_1455 (by decide) (fun c1455 => ?_) (fun c1455 => ?_)
  · rw [if_pos c1455] at h
    refine zw_iinc (v := (i4 + (7 : Int32))) hX dL_law_6002 rfl rfl (by decide) ?_
    refine zw_goto (tgt := 23) hX dL_law_6005 (by decide) ?_
    refine zw_sub (lv' := [(0, .ref a0), (1, .ref a1), (2, .ref a2), (3, .ref a3), (4, .int (i4 + (7 : Int32)))]) (List.forall_mem_cons.mpr ⟨rfl, (List.forall_mem_cons.mpr ⟨rfl, (List.forall_mem_cons.mpr ⟨rfl, (List.forall_mem_cons.mpr ⟨rfl, (List.forall_mem_cons.mpr ⟨rfl, zs_nil⟩)⟩)⟩)⟩)⟩) ?_
    exact hrec _ _ _ _ h
  · rw [if_neg c1455] at h
    refine zw_iconst (v := (0 : Int32)) hX dL_law_1458 (by decide) ?_
    cases h
set_option maxHeartbeats 4000000 in
set_option maxRecDepth 100000 in
theorem zt_L_law_J1460 {p : Program} {l : Launch} {e : Env} {s : State} {m : MethodId} {zb : Nat} {below : List Frame} {meth : Method} {c : Code} {V : zm_V} {d : Nat} {nm : String} (hlt : l.stackTraces = false) (hV : V.2.2.2.1 = s.heap.size) (hX : zm_X p room_1 s m #[Value.ref zb] meth c RL nm cL_law 8 zk_E V 601024 7293034) (hr : meth.sig.returnType = ret) (hR : d ≤ room_1.frames ∧ 64 * d ≤ room_1.locals) (hd : 46 ≤ d) {N : Nat} {k : Nat → Nat → Nat → Nat → Int32 → Nat → Nat → zm_S → Option ((Int32 × zm_S) ⊕ ((Unit) × zm_S))} {rc rs : Nat} {a0 : Nat} {a1 : Nat} {a2 : Nat} {a3 : Nat} {i4 : Int32} {res : (Int32 × zm_S) ⊕ ((Unit) × zm_S)} {out : (Int32 × zm_S)}   (hf : ∀ o, res = .inl o → o = out) (hk : ∀ (S' : zm_S) (rc rs : Nat), res = .inr ((), S') → zw p l e room_1 s m #[Value.ref zb] below meth c (lw_Z below #[Value.ref zb] s) 8 zk_E V 601024 7293034 6008 [] [] S' rc rs) (hrec : ∀ (i4' : Int32) (rc rs : Nat) (S : zm_S), k a0 a1 a2 a3 i4' rc rs S = some res → zw p l e room_1 s m #[Value.ref zb] below meth c (lw_Z below #[Value.ref zb] s) 8 zk_E V 601024 7293034 23 [(0, .ref a0), (1, .ref a1), (2, .ref a2), (3, .ref a3), (4, .int i4')] [] S rc rs) {S : zm_S} (h : zf_L_law_J1460 N k a0 a1 a2 a3 i4 rc rs S = some res) : zw p l e room_1 s m #[Value.ref zb] below meth c (lw_Z below #[Value.ref zb] s) 8 zk_E V 601024 7293034 1460 [(0, .ref a0), (1, .ref a1), (2, .ref a2), (3, .ref a3), (4, .int i4)] [] S rc rs := by
  unfold zf_L_law_J1460 at h
  refine zw_aload_n hX dL_law_1460 rfl ?_
  refine zw_aload_n hX dL_law_1461 rfl ?_
  refine zw_iload hX dL_law_1462 rfl ?_
  refine zw_iconst (v := (1 : Int32)) hX dL_law_1464 (by decide) ?_
  refine zw_iadd hX dL_law_1465 ?_
  obtain ⟨v200, g, h⟩ := zb_some h
  refine zw_xi hX dL_law_1466 g ?_
  refine zw_i2l hX dL_law_1467 ?_
  refine zw_bipush (v := (32 : Int32)) hX dL_law_1468 (by decide) ?_
  refine zw_lshl hX dL_law_1470 ?_
  refine zw_aload_n hX dL_law_1471 rfl ?_
  refine zw_iload hX dL_law_1472 rfl ?_
  refine zw_iconst (v := (2 : Int32)) hX dL_law_1474 (by decide) ?_
  refine zw_iadd hX dL_law_1475 ?_
  obtain ⟨v201, g, h⟩ := zb_some h
  refine zw_xi hX dL_law_1476 g ?_
  refine zw_i2l hX dL_law_1477 ?_
  refine zw_ldc2 (v := (4294967295 : Int64)) hX dL_law_1478 zl_L_324 ?_
  refine zw_land hX dL_law_1481 ?_
  refine zw_lor hX dL_law_1482 ?_
  refine zw_aload_n hX dL_law_1483 rfl ?_
  refine zw_iload hX dL_law_1484 rfl ?_
  refine zw_iconst (v := (3 : Int32)) hX dL_law_1486 (by decide) ?_
  refine zw_iadd hX dL_law_1487 ?_
  obtain ⟨v202, g, h⟩ := zb_some h
  refine zw_xi hX dL_law_1488 g ?_
  refine zw_aload_n hX dL_law_1489 rfl ?_
  by_cases hb1490 : 2 ≤ rc ∧ 12 ≤ rs
  · rw [if_pos hb1490] at h
    obtain ⟨r205, g, h⟩ := zb_some h
    refine zc_SH (as := [.ref a1, .long (((v200).toInt64 <<< (((32 : Int32)).toInt64 &&& 63)) ||| ((v201).toInt64 &&& (4294967295 : Int64))), .int v202, .ref a3]) hX (zt_L_fact hlt (d := d - 1) (by omega) g) zl_L_337 dL_law_1490 ⟨rfl, rfl, Nat.le_of_ble_eq_true rfl⟩ ⟨by omega, by omega⟩ hb1490 ?_ ?_
    · rintro _ _ ⟨rfl, rfl⟩
      refine zw_istore hX dL_law_1493 (by decide) ?_
      refine zw_aload_n hX dL_law_1495 rfl ?_
      refine zw_aload_n hX dL_law_1496 rfl ?_
      refine zw_iload hX dL_law_1497 rfl ?_
      refine zw_iconst (v := (1 : Int32)) hX dL_law_1499 (by decide) ?_
      refine zw_iadd hX dL_law_1500 ?_
      obtain ⟨v206, g, h⟩ := zb_some h
      refine zw_xi hX dL_law_1501 g ?_
      refine zw_i2l hX dL_law_1502 ?_
      refine zw_bipush (v := (32 : Int32)) hX dL_law_1503 (by decide) ?_
      refine zw_lshl hX dL_law_1505 ?_
      refine zw_aload_n hX dL_law_1506 rfl ?_
      refine zw_iload hX dL_law_1507 rfl ?_
      refine zw_iconst (v := (2 : Int32)) hX dL_law_1509 (by decide) ?_
      refine zw_iadd hX dL_law_1510 ?_
      obtain ⟨v207, g, h⟩ := zb_some h
      refine zw_xi hX dL_law_1511 g ?_
      refine zw_i2l hX dL_law_1512 ?_
      refine zw_ldc2 (v := (4294967295 : Int64)) hX dL_law_1513 zl_L_324 ?_
      refine zw_land hX dL_law_1516 ?_
      refine zw_lor hX dL_law_1517 ?_
      refine zw_aload_n hX dL_law_1518 rfl ?_
      refine zw_iload hX dL_law_1519 rfl ?_
      refine zw_iconst (v := (3 : Int32)) hX dL_law_1521 (by decide) ?_
      refine zw_iadd hX dL_law_1522 ?_
      obtain ⟨v208, g, h⟩ := zb_some h
      refine zw_xi hX dL_law_1523 g ?_
      obtain ⟨_, gi, h⟩ := zb_some h
      obtain ⟨r210, g, h⟩ := zb_some h
      refine zc_Vl (as := [.long (((v206).toInt64 <<< (((32 : Int32)).toInt64 &&& 63)) ||| ((v207).toInt64 &&& (4294967295 : Int64))), .int v208]) hX gi (zt_X18_fact (d := d - 1) (by omega) g) zl_L_340 rfl dL_law_1524 ⟨rfl, rfl, Nat.le_of_ble_eq_true rfl⟩ ⟨by omega, by omega⟩ ?_
      refine zw_lstore hX dL_law_1527 (by decide) ?_
      refine zw_aload_n hX dL_law_1529 rfl ?_
      obtain ⟨_, gi, h⟩ := zb_some h
      obtain ⟨r212, g, h⟩ := zb_some h
      refine zc_Vi (as := []) hX gi (zt_X18_thrown (d := d - 1) (by omega) g) zl_L_281 rfl dL_law_1530 ⟨rfl, rfl, Nat.le_of_ble_eq_true rfl⟩ ⟨by omega, by omega⟩ ?_
      refine zw_iload hX dL_law_1533 rfl ?_
      refine zw_icmp_eq (tgt := 1540) hX dL_law_1535 (by decide) (fun c1535 => ?_) (fun c1535 => ?_)
      · rw [if_pos c1535] at h
        refine zw_iload hX dL_law_1540 rfl ?_
        refine zw_if_ne (tgt := 1556) hX dL_law_1542 (by decide) (fun c1542 => ?_) (fun c1542 => ?_)
        · rw [if_neg c1542] at h
          refine zw_goto (tgt := 6002) hX dL_law_1556 (by decide) ?_
          refine zw_iinc (v := (i4 + (7 : Int32))) hX dL_law_6002 rfl rfl (by decide) ?_
          refine zw_goto (tgt := 23) hX dL_law_6005 (by decide) ?_
          refine zw_sub (lv' := [(0, .ref a0), (1, .ref a1), (2, .ref a2), (3, .ref a3), (4, .int (i4 + (7 : Int32)))]) (List.forall_mem_cons.mpr ⟨rfl, (List.forall_mem_cons.mpr ⟨rfl, (List.forall_mem_cons.mpr ⟨rfl, (List.forall_mem_cons.mpr ⟨rfl, (List.forall_mem_cons.mpr ⟨rfl, zs_nil⟩)⟩)⟩)⟩)⟩) ?_
          exact hrec _ _ _ _ h
        · rw [if_pos c1542] at h
          refine zw_aload_n hX dL_law_1545 rfl ?_
          refine zw_iconst (v := (0 : Int32)) hX dL_law_1546 (by decide) ?_
          obtain ⟨w213, g, h⟩ := zb_some h
          refine zw_xl hX dL_law_1547 g ?_
          refine zw_lload hX dL_law_1548 rfl ?_
          refine zw_lcmp hX dL_law_1550 ?_
          refine zw_if_eq (tgt := 1556) hX dL_law_1551 (by decide) (fun c1551 => ?_) (fun c1551 => ?_)
          · rw [if_pos c1551] at h
            refine zw_goto (tgt := 6002) hX dL_law_1556 (by decide) ?_
            refine zw_iinc (v := (i4 + (7 : Int32))) hX dL_law_6002 rfl rfl (by decide) ?_
            refine zw_goto (tgt := 23) hX dL_law_6005 (by decide) ?_
            refine zw_sub (lv' := [(0, .ref a0), (1, .ref a1), (2, .ref a2), (3, .ref a3), (4, .int (i4 + (7 : Int32)))]) (List.forall_mem_cons.mpr ⟨rfl, (List.forall_mem_cons.mpr ⟨rfl, (List.forall_mem_cons.mpr ⟨rfl, (List.forall_mem_cons.mpr ⟨rfl, (List.forall_mem_cons.mpr ⟨rfl, zs_nil⟩)⟩)⟩)⟩)⟩) ?_
            exact hrec _ _ _ _ h
          · rw [if_neg c1551] at h
            refine zw_iconst (v := (0 : Int32)) hX dL_law_1554 (by decide) ?_
            cases h
      · rw [if_neg c1535] at h
        refine zw_iconst (v := (0 : Int32)) hX dL_law_1538 (by decide) ?_
        cases h
    · intro _ _ hx
      exact hx.elim
  · rw [if_neg hb1490] at h
    cases h

