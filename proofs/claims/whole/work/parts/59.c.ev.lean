/-! ===== an event, both sides ===== -/
def evn (M K : qm) (E : Int) : Prop := 0 ≤ (M 1172 17 0) ∧ (M 1172 17 0) ≤ E ∧ (K 2208 30 0) = (if (M 1172 17 0) ≤ 60 then (M 1172 17 0) else 60)
theorem ev_step {M K S T : qm} {a d t E : Int} (hn : evn M K E) (he : R_mevent M K) (hT : teW K T a d) (hnow : (K 2208 1 0) = t) (c1 : (S 1172 17 0) = (M 1172 17 0) + 1) (c2 : ∀ i j, S 1276 i j = if i = (M 1172 17 0) % 60 ∧ j = 2 then d else if i = (M 1172 17 0) % 60 ∧ j = 1 then a else if i = (M 1172 17 0) % 60 ∧ j = 0 then t else M 1276 i j) : evn S T (E + 1) ∧ R_mevent S T := by
  obtain ⟨n0, n1, n2⟩ := hn
  obtain ⟨t1, t2, t3, t4, t5⟩ := hT
  have hev : (T 2208 30 0) = if (M 1172 17 0) + 1 ≤ 60 then (M 1172 17 0) + 1 else 60 := by
    rw [t1, n2]
    by_cases e : (M 1172 17 0) + 1 ≤ 60
    · rw [if_pos e, if_pos (show (M 1172 17 0) ≤ 60 by omega), if_pos (by omega)]
    · rw [if_neg e]
      by_cases e2 : (M 1172 17 0) ≤ 60
      · rw [if_pos e2, if_neg (by omega)]
      · rw [if_neg e2, if_neg (by decide)]
  refine ⟨⟨by omega, by omega, ?_⟩, fun k k0 k1 k2 => ?_⟩
  · rw [c1]
    exact hev
  · rw [c1] at k2
    have kT : k < (T 2208 30 0) := by
      rw [hev]
      by_cases e : (M 1172 17 0) + 1 ≤ 60
      · rw [if_pos e]; omega
      · rw [if_neg e]; omega
    rw [c1, c2, c2, c2]
    by_cases e : k = 0
    · subst e
      have er : ((M 1172 17 0) + 1 - 1 - 0) % 60 = (M 1172 17 0) % 60 := by omega
      rw [er, if_neg (by omega), if_neg (by omega), if_pos ⟨rfl, rfl⟩, if_neg (by omega), if_pos ⟨rfl, rfl⟩, if_pos ⟨rfl, rfl⟩, Int.sub_zero]
      exact ⟨t2.trans hnow, t3, t4⟩
    · have er : ((M 1172 17 0) + 1 - 1 - k) % 60 ≠ (M 1172 17 0) % 60 := by omega
      rw [if_neg (fun h => er h.1), if_neg (fun h => er h.1), if_neg (fun h => er h.1), if_neg (fun h => er h.1), if_neg (fun h => er h.1), if_neg (fun h => er h.1), if_neg (fun h => er h.1), if_neg (fun h => er h.1), if_neg (fun h => er h.1)]
      have q := he (k - 1) (by omega) (by omega) (by omega)
      have q2 := t5 k (by omega) kT
      have z1 : (K 2208 30 0) - 1 - (k - 1) = (K 2208 30 0) - k := by omega
      have z2 : ((M 1172 17 0) - 1 - (k - 1)) % 60 = ((M 1172 17 0) + 1 - 1 - k) % 60 := by
        congr 1
        omega
      rw [z1, z2] at q
      rw [q2.1, q2.2.1, q2.2.2]
      exact q
theorem event_both {M K T : qm} {a d t E : Int} (a0 : 0 ≤ a) (a1 : a < 20) (d01 : d = 0 ∨ d = 1) (hB : BQ M K) (h_points : R_points M K) (hkind : (K 2220 a 0) = (M 1197 a 1)) (hn : evn M K E) (hE : E < 2147483647) (he : R_mevent M K) (hT : teW K T a d) (hnow : (K 2208 1 0) = t) (hf : ∀ b, bsA b = true ∨ b = 2258 ∨ b = 2259 ∨ b = 2247 ∨ b = 2220 → ∀ i j, T b i j = K b i j) : qW (qf_X4_setDone 20000 a d t M) (fun x => qW (qf_X18_does 20000 a d T) (fun y => BQ x.2 y.2 ∧ R_points x.2 y.2 ∧ evn x.2 y.2 (E + 1) ∧ R_mevent x.2 y.2 ∧ Fg 11325279729724950027965494710678647285481472 M x.2 ∧ Fg 820219086978780714343243095759370041107539690231943260969623997760226754039967563635592039252361216 T y.2 ∧ ∀ i j, x.2 1270 i j = if i = a ∧ j = 0 then (if d = 0 then 0 else 2) else M 1270 i j)) := by
  obtain ⟨n0, n1, n2⟩ := hn
  have em : Int.tmod (M 1172 17 0) 60 = (M 1172 17 0) % 60 := tm_e n0
  have main : ∀ S : qm, (S 1172 17 0) = (M 1172 17 0) + 1 → (∀ i j, S 1276 i j = if i = (M 1172 17 0) % 60 ∧ j = 2 then d else if i = (M 1172 17 0) % 60 ∧ j = 1 then a else if i = (M 1172 17 0) % 60 ∧ j = 0 then t else M 1276 i j) → (∀ i j, S 1270 i j = if i = a ∧ j = 0 then (if d = 0 then 0 else 2) else M 1270 i j) → Fg 11325279729724950027965494710678647285481472 M S → (∀ b i j, b ≠ 1270 → b ≠ 1276 → b ≠ 1172 → S b i j = M b i j) → qW (if S 1197 a 1 = 2 then (qf_X1_hasRoomInQueue 20000 7 S).bind (fun r23 => if r23 = 0 then qf_X4_setDone_J104 20000 a ((M 1172 17 0) % 60) S else (qf_X1_enqueue 20000 7 0 a 1 2 (S 1276 ((M 1172 17 0) % 60) 2) S).bind (fun r27 => qf_X4_setDone_J104 20000 a ((M 1172 17 0) % 60) r27.2)) else qf_X4_setDone_J104 20000 a ((M 1172 17 0) % 60) S) (fun x => qW (qf_X18_does 20000 a d T) (fun y => BQ x.2 y.2 ∧ R_points x.2 y.2 ∧ evn x.2 y.2 (E + 1) ∧ R_mevent x.2 y.2 ∧ Fg 11325279729724950027965494710678647285481472 M x.2 ∧ Fg 820219086978780714343243095759370041107539690231943260969623997760226754039967563635592039252361216 T y.2 ∧ ∀ i j, x.2 1270 i j = if i = a ∧ j = 0 then (if d = 0 then 0 else 2) else M 1270 i j)) := by
    intro S c1 c2 c3 fS c4
    have hS := ev_step ⟨n0, n1, n2⟩ he hT hnow c1 c2
    have bS : BQ S T := BQ_x (fun i j => c4 _ _ _ (by decide) (by decide) (by decide)) (fun i j => c4 _ _ _ (by decide) (by decide) (by decide)) (fun i j => c4 _ _ _ (by decide) (by decide) (by decide)) (fun b hb => hf b (by rcases hb with h | h | h; exact Or.inl h; exact Or.inr (Or.inl h); exact Or.inr (Or.inr (Or.inl h)))) hB
    have pS : R_points S T := R_points_x (M := M) (K := K) (fun i j => c4 _ _ _ (by decide) (by decide) (by decide)) (hf _ (Or.inr (Or.inr (Or.inr (Or.inl rfl))))) h_points
    have kS : (T 2220 a 0) = S 1197 a 1 := by
      rw [hf 2220 (Or.inr (Or.inr (Or.inr (Or.inr rfl)))), c4 _ _ _ (by decide) (by decide) (by decide)]
      exact hkind
    refine qW2_mono (does_both a0 a1 d01 bS pS (by rw [c2, if_pos ⟨rfl, rfl⟩]) kS) (fun x y h => ?_)
    obtain ⟨h1, h2, h3, h4, h5⟩ := h
    refine ⟨h1, h2, ?_, ?_, Fg_tr fS h3, h4, fun i j => (h5 _ _ _ (by decide) (by decide) (by decide)).trans (c3 i j)⟩
    · have e1 : x.2 1172 17 0 = S 1172 17 0 := h5 _ _ _ (by decide) (by decide) (by decide)
      have e2 : y.2 2208 30 0 = T 2208 30 0 := h4 2208 30 0 rfl
      unfold evn
      rw [e1, e2]
      exact hS.1
    · exact R_mevent_x (M := S) (K := T) (h5 1172 17 0 (by decide) (by decide) (by decide)) (fun i j => h5 _ _ _ (by decide) (by decide) (by decide)) (h4 2208 30 0 rfl) (fun i j => Fg_v h4 rfl rfl) (fun i j => Fg_v h4 rfl rfl) (fun i j => Fg_v h4 rfl rfl) hS.2
  have hr : 0 ≤ (M 1172 17 0) % 60 ∧ (M 1172 17 0) % 60 < 60 := by omega
  have e1 : w32 ((M 1172 17 0) + 1) = (M 1172 17 0) + 1 := w32_id (by omega) (by omega)
  have J : ∀ v : Int, v = (if d = 0 then 0 else 2) → qW (qf_X4_setDone_J14 20000 a d t a v M) (fun x => qW (qf_X18_does 20000 a d T) (fun y => BQ x.2 y.2 ∧ R_points x.2 y.2 ∧ evn x.2 y.2 (E + 1) ∧ R_mevent x.2 y.2 ∧ Fg 11325279729724950027965494710678647285481472 M x.2 ∧ Fg 820219086978780714343243095759370041107539690231943260969623997760226754039967563635592039252361216 T y.2 ∧ ∀ i j, x.2 1270 i j = if i = a ∧ j = 0 then (if d = 0 then 0 else 2) else M 1270 i j)) := by
    intro v hv
    unfold qf_X4_setDone_J14
    rw [if_pos ⟨a0, a1⟩]
    refine qW_bnd ?_
    show qW (if 0 ≤ Int.tmod (M 1172 17 0) 60 ∧ Int.tmod (M 1172 17 0) 60 < 60 then qbnd (qw (qw M 1270 a 0 v) 1276 (Int.tmod (M 1172 17 0) 60) 0 t) (fun M6 => qbnd (qw M6 1276 (Int.tmod (M 1172 17 0) 60) 1 a) (fun M7 => if d = 0 then qf_X4_setDone_J51 20000 a (Int.tmod (M 1172 17 0) 60) (Int.tmod (M 1172 17 0) 60) 2 0 M7 else qf_X4_setDone_J51 20000 a (Int.tmod (M 1172 17 0) 60) (Int.tmod (M 1172 17 0) 60) 2 1 M7)) else none) _
    rw [em, if_pos hr]
    refine qW_bnd (qW_bnd ?_)
    have L : qW (qf_X4_setDone_J51 20000 a ((M 1172 17 0) % 60) ((M 1172 17 0) % 60) 2 d (qw (qw (qw M 1270 a 0 v) 1276 ((M 1172 17 0) % 60) 0 t) 1276 ((M 1172 17 0) % 60) 1 a)) (fun x => qW (qf_X18_does 20000 a d T) (fun y => BQ x.2 y.2 ∧ R_points x.2 y.2 ∧ evn x.2 y.2 (E + 1) ∧ R_mevent x.2 y.2 ∧ Fg 11325279729724950027965494710678647285481472 M x.2 ∧ Fg 820219086978780714343243095759370041107539690231943260969623997760226754039967563635592039252361216 T y.2 ∧ ∀ i j, x.2 1270 i j = if i = a ∧ j = 0 then (if d = 0 then 0 else 2) else M 1270 i j)) := by
      unfold qf_X4_setDone_J51
      rw [if_pos (by decide)]
      refine qW_bnd ?_
      refine qW_bnd ?_
      rw [if_pos ⟨a0, a1⟩]
      refine main _ ?_ (fun i j => ?_) (fun i j => ?_) ?_ (fun b i j b1 b2 b3 => ?_)
      · show w32 ((M 1172 17 0) + 1) = _
        exact e1
      · rw [qw_a (by decide)]
        simp only [qw_ap]
        grind
      · rw [qw_a (by decide), qw_a (by decide), qw_a (by decide), qw_a (by decide), qw_ap]
        by_cases c : i = a ∧ j = 0
        · rw [if_pos c, if_pos ⟨rfl, c⟩]
          exact hv
        · rw [if_neg c, if_neg (fun h => c h.2)]
      · exact Fg_w (Fg_wa (k := ky 1276 0) (Fg_wa (k := ky 1276 0) (Fg_wa (k := ky 1276 0) (Fg_wa (k := ky 1270 0) Fg_refl rfl rfl) rfl rfl) rfl rfl) rfl rfl) rfl
      · rw [qw_a b3, qw_a b2, qw_a b2, qw_a b2, qw_a b1]
    by_cases e : d = 0
    · rw [if_pos e]
      rw [e] at L ⊢
      exact L
    · rw [if_neg e]
      have e2 : d = 1 := by omega
      rw [e2] at L ⊢
      exact L
  unfold qf_X4_setDone
  by_cases e : d = 0
  · rw [if_pos e]
    exact J 0 (by rw [if_pos e])
  · rw [if_neg e]
    exact J 2 (by rw [if_neg e])
