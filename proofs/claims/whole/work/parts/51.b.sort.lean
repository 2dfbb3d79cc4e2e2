/-! ===== the class's sorting ===== -/
def Fm (M S : qm) : Prop := ∀ b i j, b ≠ 1136 → b ≠ 1137 → (b ≠ 1003 ∨ i ≠ 14) → S b i j = M b i j
theorem okC_f {M S : qm} (h : okC M) (f : Fm M S) : okC S ∧ KC S = KC M ∧ WC S = WC M ∧ S 1003 0 0 = M 1003 0 0 := by
  have e0 : S 1003 0 0 = M 1003 0 0 := f _ _ _ (by decide) (by decide) (Or.inr (by decide))
  have e1 : ∀ i j, S 1004 i j = M 1004 i j := fun i j => f _ _ _ (by decide) (by decide) (Or.inl (by decide))
  have e2 : ∀ i j, S 1008 i j = M 1008 i j := fun i j => f _ _ _ (by decide) (by decide) (Or.inl (by decide))
  refine ⟨?_, ?_, ?_, e0⟩
  · unfold okC at *
    simp only [e0, e1, e2]
    exact h
  · unfold KC
    simp only [e1]
  · unfold WC
    simp only [e2]
def I1 (M : qm) (i : Int) (S : qm) : Prop := 0 ≤ i ∧ i ≤ (M 1003 0 0) ∧ Fm M S ∧ S 1003 14 0 ≤ i ∧ stk (M 1003 0 0) (fun k => S 1136 k 0) (fun c => S 1137 c 0) (S 1003 14 0) ∧ (∀ k, 0 ≤ k → k < S 1003 14 0 → lst (M 1003 0 0) (KC M) (WC M) (fun k => S 1136 k 0) k) ∧ (S 1003 14 0 < i → ∀ c, 0 ≤ c → c < (M 1003 0 0) → pk (fun k => S 1136 k 0) (S 1003 14 0) c ∨ ¬ mc (KC M) (WC M) (pk (fun k => S 1136 k 0) (S 1003 14 0)) c)
theorem wC {M : qm} (h : okC M) {b : Int} (h0 : 0 ≤ b) (h1 : b < (M 1003 0 0)) : ∀ i, 0 ≤ i → i < 3 → WC M b i = -1 ∨ (0 ≤ WC M b i ∧ WC M b i < (M 1003 0 0)) := by
  intro i i0 i1
  have q := h.2.2.2 b i h0 h1 i0 i1
  unfold WC
  omega
theorem mcP {M S : qm} {t c : Int} (h : okC M) (hs : stk (M 1003 0 0) (fun k => S 1136 k 0) (fun c => S 1137 c 0) t) (c0 : 0 ≤ c) (c1 : c < (M 1003 0 0)) : mc (KC M) (WC M) (PC S) c ↔ mc (KC M) (WC M) (pk (fun k => S 1136 k 0) t) c :=
  mc_c (n := (M 1003 0 0)) rfl (fun _ _ _ => rfl) (h.2.2.1 c c0 (by have := h.2.1; omega)) (wC h c0 c1) (fun d d0 d1 => stk_p hs d0 d1)
set_option maxHeartbeats 1000000 in
theorem sortC_1 {M : qm} (h : okC M) {i : Int} {S : qm} (hI : I1 M i S) : qW (qf_X9_sortBlocks_L23_b 20000 i S) (fun o => match o with
    | .inl r => (match r with | .inl _ => False | .inr r => I1 M (M 1003 0 0) r.2)
    | .inr s => I1 M s.1 s.2 ∧ ((M 1003 0 0) - s.1).toNat < ((M 1003 0 0) - i).toNat) := by
  obtain ⟨i0, i1, hF, hm, hs, hl, hst⟩ := hI
  obtain ⟨hS, eK, eW, eN⟩ := okC_f h hF
  have n1 := h.2.1
  unfold qf_X9_sortBlocks_L23_b
  rw [eN]
  by_cases gi : (M 1003 0 0) ≤ i
  · rw [if_pos gi]
    have ei : i = (M 1003 0 0) := by omega
    subst ei
    exact qW_some ⟨i0, i1, hF, hm, hs, hl, hst⟩
  · rw [if_neg gi]
    have e1 : w32 (i + 1) = i + 1 := w32_id (by omega) (by omega)
    rw [e1]
    refine qW_call (leastC hS) ?_
    rw [eK, eW, eN]
    rintro r (⟨rfl, hr⟩ | ⟨r0, r1, hp, hr, hb⟩)
    · rw [if_pos rfl]
      refine qW_some ⟨⟨by (try dsimp only); omega, by (try dsimp only); omega, hF, by (try dsimp only); omega, hs, hl, fun _ c c0 c1 => ?_⟩, by (try dsimp only); omega⟩
      rcases hr c c0 c1 with x | x
      · exact Or.inl ((stk_p hs c0 c1).mp x)
      · exact Or.inr (fun y => x ((mcP h hs c0 c1).mpr y))
    · have er : S 1137 r 0 = -1 := Classical.byContradiction hp
      have ml := stk_lt hs r0 r1 er
      have m0 := hs.1
      have mi : S 1003 14 0 = i := by
        apply Classical.byContradiction
        intro g
        rcases hst (by omega) r r0 r1 with x | x
        · exact (stk_p hs r0 r1).mpr x er
        · exact x ((mcP h hs r0 r1).mp hr)
      rw [if_neg (by omega)]
      unfold qf_X9_place
      rw [if_pos ⟨r0, by omega⟩]
      refine qW_bind (qW_bnd ?_)
      rw [if_pos ⟨by omega, by omega⟩]
      refine qW_bnd (qW_some (qW_bnd (qW_some ?_)))
      have er1 : ∀ b x y, qw (qw (qw S 1137 r 0 (S 1003 14 0)) 1136 (S 1003 14 0) 0 r) 1003 14 0 (w32 (qw (qw S 1137 r 0 (S 1003 14 0)) 1136 (S 1003 14 0) 0 r 1003 14 0 + 1)) b x y = if b = 1003 ∧ x = 14 ∧ y = 0 then i + 1 else if b = 1136 ∧ x = i ∧ y = 0 then r else if b = 1137 ∧ x = r ∧ y = 0 then i else S b x y := by
        intro b x y
        rw [mi]
        have e3 : qw (qw S 1137 r 0 i) 1136 i 0 r 1003 14 0 = i := by
          rw [qw_ap, if_neg (by simp), qw_ap, if_neg (by simp)]
          exact mi
        rw [e3, e1]
        rfl
      generalize qw (qw (qw S 1137 r 0 (S 1003 14 0)) 1136 (S 1003 14 0) 0 r) 1003 14 0 (w32 (qw (qw S 1137 r 0 (S 1003 14 0)) 1136 (S 1003 14 0) 0 r 1003 14 0 + 1)) = S' at er1
      rw [mi] at hs hl
      have f14 : S' 1003 14 0 = i + 1 := by rw [er1, if_pos ⟨rfl, rfl, rfl⟩]
      have fq : ∀ k, S' 1136 k 0 = if k = i then r else S 1136 k 0 := by
        intro k
        rw [er1, if_neg (by simp)]
        by_cases e : k = i
        · rw [if_pos ⟨rfl, e, rfl⟩, if_pos e]
        · rw [if_neg (fun x => e x.2.1), if_neg (by simp), if_neg e]
      have fp : ∀ c, S' 1137 c 0 = if c = r then i else S 1137 c 0 := by
        intro c
        rw [er1, if_neg (by simp), if_neg (by simp)]
        by_cases e : c = r
        · rw [if_pos ⟨rfl, e, rfl⟩, if_pos e]
        · rw [if_neg (fun x => e x.2.1), if_neg e]
      have hs' : stk (M 1003 0 0) (fun k => S' 1136 k 0) (fun c => S' 1137 c 0) (i + 1) := by
        refine stk_add hs r0 r1 er (fun k k0 k1 => ?_) ?_ (fun c hc => ?_) ?_
        · (try dsimp only)
          rw [fq, if_neg (by omega)]
        · (try dsimp only)
          rw [fq, if_pos rfl]
        · (try dsimp only)
          rw [fp, if_neg hc]
        · (try dsimp only)
          rw [fp, if_pos rfl]
      refine ⟨⟨by omega, by omega, fun b x y h1 h2 h3 => ?_, by (try dsimp only); omega, by (try dsimp only); rw [f14]; exact hs', fun k k0 k1 => ?_, fun g => absurd g (by (try dsimp only); omega)⟩, by (try dsimp only); omega⟩
      · (try dsimp only)
        rw [er1, if_neg (by rintro ⟨rfl, rfl, -⟩; simp at h3), if_neg (fun q => h1 q.1), if_neg (fun q => h2 q.1)]
        exact hF b x y h1 h2 h3
      · (try dsimp only at k1 ⊢)
        rw [f14] at k1
        by_cases ek : k = i
        · subst ek
          have epk : pk (fun k => S' 1136 k 0) k = pk (fun k => S 1136 k 0) k := funext (fun b => propext (pk_c (fun j j0 j1 => by (try dsimp only); rw [fq, if_neg (by omega)])))
          unfold lst
          (try dsimp only)
          rw [epk, fq, if_pos rfl]
          refine ⟨r0, r1, fun x => (stk_p hs r0 r1).mpr x er, (mcP h hs r0 r1).mp hr, fun b b0 b1 => ?_⟩
          rcases hb b b0 b1 with x | x
          · exact Or.inl ((stk_p hs b0 (by omega)).mp x)
          · exact Or.inr (fun y => x ((mcP h hs b0 (by omega)).mpr y))
        · refine lst_c k0 (fun j j0 j1 => ?_) (hl k k0 (by omega))
          (try dsimp only)
          rw [fq, if_neg (by omega)]
