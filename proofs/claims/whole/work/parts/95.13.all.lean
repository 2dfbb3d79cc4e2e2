/-! ===== the law's function on every script of at most 3584 ints ===== -/
theorem xb_of {α β : Type} {P : Option β → Prop} {u : Option α} {v : α} {f : α → Option β} (e : u = some v) (h : P (f v)) : P (u.bind f) := by
  rw [e]
  exact h
theorem xb_pos {β : Type} {P : Option β → Prop} {c : Prop} {d : Decidable c} {x y : Option β} (hc : c) (h : P x) : P (@ite _ c d x y) := by
  rw [if_pos hc]
  exact h
set_option maxHeartbeats 8000000 in
set_option maxRecDepth 100000 in
theorem q_made {L : Nat} {xs : Nat → Int32} {P : Option (Int32 × zm_S) → Prop} (h : ∀ w : Nat → Int32, (∀ j, j < 400 → w j = -1) → P ((zf_L_law_L23 20000 600 0 6 2156 2332 (0 : Int32) 598697 6716386 (fS L xs w)).bind (fun r => match r with | .inl o => some o | .inr (_, S977) => some ((1 : Int32), S977)))) : P (zf_L_law 20000 0 601024 7293034 (zy_S L xs)) := by
  obtain ⟨w, hw1, hw⟩ := zi_X18_init (c11_22 (zy_S L xs).1)
  unfold zf_L_law
  refine xb_pos (P := P) (by decide) ?_
  refine xb_of (P := P) rfl ?_
  refine xb_pos (P := P) (by decide) ?_
  refine xb_of (P := P) (zi_X11_init (zy_S L xs).1) ?_
  refine xb_pos (P := P) (by decide) ?_
  refine xb_of (P := P) rfl ?_
  refine xb_pos (P := P) (by decide) ?_
  refine xb_of (P := P) hw ?_
  refine xb_pos (P := P) (by decide) ?_
  refine xb_of (P := P) (v := fS L xs w) rfl ?_
  exact h w hw1
theorem q_all {L : Nat} {xs : Nat → Int32} (hL : L ≤ 3584) : ∃ S' : zm_S, zf_L_law 20000 0 601024 7293034 (zy_S L xs) = some (1, S') := by
  refine q_made (P := fun x => ∃ S' : zm_S, x = some (1, S')) (fun w hw => ?_)
  obtain ⟨S', e⟩ := law_loop hL 512 600 0 (fS L xs w) id _ 598697 6716386 (by omega) (by omega) sh_fresh rfl (r0_LIQ hw) ⟨by omega, by omega, fun _ => ⟨by omega, by omega⟩⟩ (by omega)
  exact ⟨S', zb_to e rfl⟩
