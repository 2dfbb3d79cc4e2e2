/-! ===== the law's function on every script of at most 7 ints ===== -/
set_option maxHeartbeats 8000000 in
set_option maxRecDepth 100000 in
theorem q_made {L : Nat} {xs : Nat → Int32} {P : Option (Int32 × zm_S) → Prop} (h : ∀ w : Nat → Int32, P ((zf_L_law_L23 4000 600 0 6 2156 2332 (0 : Int32) 597675 6725584 (fS L xs w)).bind (fun r => match r with | .inl o => some o | .inr (_, S977) => some ((1 : Int32), S977)))) : P (zf_L_law 4000 0 600002 7302232 (zy_S L xs)) := by
  obtain ⟨w, hw⟩ := zi_X18_init (c11_22 (zy_S L xs).1)
  unfold zf_L_law
  refine xb_pos (P := P) (by decide) ?_
  refine xb_of (P := P) rfl ?_
  refine xb_pos (P := P) (by decide) ?_
  refine xb_of (P := P) (zi_X11_init (zy_S L xs).1) ?_
  refine xb_pos (P := P) (by decide) ?_
  refine xb_of (P := P) rfl ?_
  refine xb_pos (P := P) (by decide) ?_
  refine xb_of (P := P) hw ?_
  refine xb_pos (P := P) (by decide) ?_
  refine xb_of (P := P) (v := fS L xs w) rfl ?_
  exact h w
theorem q_short {L : Nat} {xs w : Nat → Int32} (hL : L < 7) : zf_L_law_L23 4000 600 0 6 2156 2332 (0 : Int32) 597675 6725584 (fS L xs w) = some (.inr ((), fS L xs w)) := by
  show zf_L_law_L23 4000 (599 + 1) 0 6 2156 2332 (0 : Int32) 597675 6725584 (fS L xs w) = _
  rw [zf_L_law_L23]
  refine zb_to (yx_n (t := 0) (n := L) (m := .inl xs) fc_0 (Nat.le_of_ble_eq_true rfl) (by decide)) ?_
  refine if_pos ?_
  match L, hL with
  | 0, _ => decide
  | 1, _ => decide
  | 2, _ => decide
  | 3, _ => decide
  | 4, _ => decide
  | 5, _ => decide
  | 6, _ => decide
  | L + 7, h => exact absurd h (by omega)
theorem q_last {xs : Nat → Int32} {rc rs : Nat} {S : zm_S} (h : S.1 0 = .inr (0, 7, .inl xs)) (hn : 0 < S.2) : zf_L_law_L23 4000 599 0 6 2156 2332 (7 : Int32) rc rs S = some (.inr ((), S)) := by
  show zf_L_law_L23 4000 (598 + 1) 0 6 2156 2332 (7 : Int32) rc rs S = _
  rw [zf_L_law_L23]
  refine zb_to (yx_n (t := 0) (n := 7) (m := .inl xs) h hn (by decide)) ?_
  exact if_pos (by decide)
set_option maxHeartbeats 8000000 in
set_option maxRecDepth 100000 in
theorem q_seven {xs w : Nat → Int32} : fQ (zf_L_law_L23 4000 599) xs (zf_L_law_L23 4000 (599 + 1) 0 6 2156 2332 (0 : Int32) 597675 6725584 (fS 7 xs w)) := by
  refine hq_eq (zf_L_law_L23.eq_2 ..) ?_
  refine hb_of (yx_n (t := 0) (n := 7) (m := .inl xs) fc_0 (Nat.le_of_ble_eq_true rfl) (by decide)) ?_
  refine hq_neg (by decide) ?_
  refine hb_of (yx_i (q := 0) (t := 0) (n := 7) (f := xs) fc_0 (Nat.le_of_ble_eq_true rfl) (by decide) (by decide)) ?_
  refine hq_ite (fun _ => fo_0 _ xs w) (fun _ => ?_)
  refine hq_ite (fun _ => fo_1 _ xs w) (fun _ => ?_)
  refine hq_ite (fun _ => fo_2 _ xs w) (fun _ => ?_)
  refine hq_ite (fun _ => fo_3 _ xs w) (fun _ => ?_)
  refine hq_ite (fun _ => fo_4 _ xs w) (fun _ => ?_)
  refine hq_ite (fun _ => fo_5 _ xs w) (fun _ => ?_)
  refine hq_ite (fun _ => fo_6 _ xs w) (fun _ => ?_)
  refine hq_ite (fun _ => fo_7 _ xs w) (fun _ => ?_)
  refine hq_ite (fun _ => fo_8 _ xs w) (fun _ => ?_)
  refine hq_ite (fun _ => fo_9 _ xs w) (fun _ => ?_)
  refine hq_ite (fun _ => fo_10 _ xs w) (fun _ => ?_)
  refine hq_ite (fun _ => fo_11 _ xs w) (fun _ => ?_)
  refine hq_ite (fun _ => fo_12 _ xs w) (fun _ => ?_)
  refine hq_ite (fun _ => fo_13 _ xs w) (fun _ => ?_)
  refine hq_ite (fun _ => fo_14 _ xs w) (fun _ => ?_)
  refine hq_ite (fun _ => fo_15 _ xs w) (fun _ => ?_)
  refine hq_ite (fun _ => fo_16 _ xs w) (fun _ => ?_)
  refine hq_ite (fun _ => fo_17 _ xs w) (fun _ => ?_)
  refine hq_ite (fun _ => fo_18 _ xs w) (fun _ => ?_)
  refine hq_ite (fun _ => fo_19 _ xs w) (fun _ => ?_)
  refine hq_ite (fun _ => fo_20 _ xs w) (fun _ => ?_)
  refine hq_ite (fun _ => fo_21 _ xs w) (fun _ => ?_)
  refine hq_ite (fun _ => fo_22 _ xs w) (fun _ => ?_)
  refine hq_ite (fun _ => fo_23 _ xs w) (fun _ => ?_)
  refine hq_ite (fun _ => fo_24 _ xs w) (fun _ => ?_)
  refine hq_ite (fun _ => fo_25 _ xs w) (fun _ => ?_)
  refine hq_ite (fun _ => fo_26 _ xs w) (fun _ => ?_)
  refine hq_ite (fun _ => fo_27 _ xs w) (fun _ => ?_)
  refine hq_ite (fun _ => fo_28 _ xs w) (fun _ => ?_)
  refine hq_ite (fun _ => fo_29 _ xs w) (fun _ => ?_)
  refine hq_ite (fun _ => fo_30 _ xs w) (fun _ => ?_)
  refine hq_ite (fun _ => fo_31 _ xs w) (fun _ => ?_)
  refine hq_ite (fun _ => fo_32 _ xs w) (fun _ => ?_)
  refine hq_ite (fun _ => fo_33 _ xs w) (fun _ => ?_)
  refine hq_ite (fun _ => fo_34 _ xs w) (fun _ => ?_)
  refine hq_ite (fun _ => fo_35 _ xs w) (fun _ => ?_)
  refine hq_ite (fun _ => fo_36 _ xs w) (fun _ => ?_)
  refine hq_ite (fun _ => fo_37 _ xs w) (fun _ => ?_)
  refine hq_ite (fun _ => fo_38 _ xs w) (fun _ => ?_)
  refine hq_ite (fun _ => fo_39 _ xs w) (fun _ => ?_)
  refine hq_ite (fun _ => fo_40 _ xs w) (fun _ => ?_)
  refine hq_ite (fun _ => fo_41 _ xs w) (fun _ => ?_)
  refine hq_ite (fun _ => fo_42 _ xs w) (fun _ => ?_)
  refine hq_ite (fun _ => fo_43 _ xs w) (fun _ => ?_)
  refine hq_ite (fun _ => fo_44 _ xs w) (fun _ => ?_)
  refine hq_ite (fun _ => fo_45 _ xs w) (fun _ => ?_)
  refine hq_ite (fun _ => fo_46 _ xs w) (fun _ => ?_)
  refine hq_ite (fun _ => fo_47 _ xs w) (fun _ => ?_)
  refine hq_ite (fun _ => fo_48 _ xs w) (fun _ => ?_)
  refine hq_ite (fun _ => fo_49 _ xs w) (fun _ => ?_)
  refine hq_ite (fun _ => fo_50 _ xs w) (fun _ => ?_)
  refine hq_ite (fun _ => fo_51 _ xs w) (fun _ => ?_)
  refine hq_ite (fun _ => fo_52 _ xs w) (fun _ => ?_)
  refine hq_ite (fun _ => fo_53 _ xs w) (fun _ => ?_)
  refine hq_ite (fun _ => fo_54 _ xs w) (fun _ => ?_)
  refine hq_ite (fun _ => fo_55 _ xs w) (fun _ => ?_)
  refine hq_ite (fun _ => fo_56 _ xs w) (fun _ => ?_)
  refine hq_ite (fun _ => fo_57 _ xs w) (fun _ => ?_)
  refine hq_ite (fun _ => fo_58 _ xs w) (fun _ => ?_)
  refine hq_ite (fun _ => fo_59 _ xs w) (fun _ => ?_)
  refine hq_ite (fun _ => fo_60 _ xs w) (fun _ => ?_)
  refine hq_ite (fun _ => fo_61 _ xs w) (fun _ => ?_)
  refine hq_ite (fun _ => fo_62 _ xs w) (fun _ => ?_)
  refine hq_ite (fun _ => fo_63 _ xs w) (fun _ => ?_)
  refine hq_ite (fun _ => fo_64 _ xs w) (fun _ => ?_)
  refine hq_ite (fun _ => fo_65 _ xs w) (fun _ => ?_)
  refine hq_ite (fun _ => fo_66 _ xs w) (fun _ => ?_)
  refine hq_ite (fun _ => fo_67 _ xs w) (fun _ => ?_)
  refine hq_ite (fun _ => fo_68 _ xs w) (fun _ => ?_)
  refine hq_ite (fun _ => fo_69 _ xs w) (fun _ => ?_)
  refine hq_ite (fun _ => fo_70 _ xs w) (fun _ => ?_)
  refine hq_ite (fun _ => fo_71 _ xs w) (fun _ => ?_)
  refine hq_ite (fun _ => fo_72 _ xs w) (fun _ => ?_)
  refine hq_ite (fun _ => fo_73 _ xs w) (fun _ => ?_)
  refine hq_ite (fun _ => fo_74 _ xs w) (fun _ => ?_)
  refine hq_ite (fun _ => fo_75 _ xs w) (fun _ => ?_)
  refine hq_ite (fun _ => fo_76 _ xs w) (fun _ => ?_)
  refine hq_ite (fun _ => fo_77 _ xs w) (fun _ => ?_)
  refine hq_ite (fun _ => fo_78 _ xs w) (fun _ => ?_)
  refine hq_ite (fun _ => fo_79 _ xs w) (fun _ => ?_)
  exact hq_end (by decide) fc_0 rfl
theorem q_all {L : Nat} {xs : Nat → Int32} (hL : L ≤ 7) : ∃ S' : zm_S, zf_L_law 4000 0 600002 7302232 (zy_S L xs) = some (1, S') := by
  refine q_made (P := fun x => ∃ S' : zm_S, x = some (1, S')) (fun w => ?_)
  by_cases h : L = 7
  · subst h
    obtain ⟨rc, rs, S, e, h0, hn⟩ := q_seven (xs := xs) (w := w)
    refine ⟨S, ?_⟩
    refine zb_to (show zf_L_law_L23 4000 600 0 6 2156 2332 (0 : Int32) 597675 6725584 (fS 7 xs w) = some (.inr ((), S)) from e.trans (q_last h0 hn)) ?_
    rfl
  · exact ⟨fS L xs w, zb_to (q_short (by omega)) rfl⟩
