/-! ===== the class's sorting: what stands behind ===== -/
def I2 (M : qm) (m t c : Int) (S : qm) : Prop := 0 ≤ c ∧ c ≤ (M 1003 0 0) ∧ Fm M S ∧ S 1003 14 0 = m ∧ 0 ≤ m ∧ m ≤ t ∧ stk (M 1003 0 0) (fun k => S 1136 k 0) (fun c => S 1137 c 0) t ∧ (∀ k, 0 ≤ k → k < m → lst (M 1003 0 0) (KC M) (WC M) (fun k => S 1136 k 0) k) ∧ (∀ b, 0 ≤ b → b < (M 1003 0 0) → pk (fun k => S 1136 k 0) m b ∨ ¬ mc (KC M) (WC M) (pk (fun k => S 1136 k 0) m) b) ∧ (∀ k, m ≤ k → k < t → ¬ pk (fun k => S 1136 k 0) k (S 1136 k 0) ∧ ∀ b, 0 ≤ b → b < S 1136 k 0 → pk (fun k => S 1136 k 0) k b) ∧ (∀ b, 0 ≤ b → b < c → pk (fun k => S 1136 k 0) t b)
set_option maxHeartbeats 1000000 in
theorem sortC_2 {M : qm} (h : okC M) {m t c : Int} {S : qm} (hI : I2 M m t c S) : qW (qf_X9_sortBlocks_L73_b 20000 t c S) (fun o => match o with
    | .inl r => (match r with | .inl _ => False | .inr r => I2 M m (M 1003 0 0) (M 1003 0 0) r.2)
    | .inr s => I2 M m s.1 s.2.1 s.2.2 ∧ ((M 1003 0 0) - s.2.1).toNat < ((M 1003 0 0) - c).toNat) := by
  obtain ⟨c0, c1, hF, hm, m0, mt, hs, hl, hst, htl, hc⟩ := hI
  obtain ⟨hS, eK, eW, eN⟩ := okC_f h hF
  have n1 := h.2.1
  have t1 := hs.2.1
  unfold qf_X9_sortBlocks_L73_b
  rw [eN]
  by_cases gi : (M 1003 0 0) ≤ c
  · rw [if_pos gi]
    have ec : c = (M 1003 0 0) := by omega
    have et : t = (M 1003 0 0) := stk_full hs (fun b b0 b1 => hc b b0 (by omega))
    rw [ec, et] at hc
    rw [et] at mt hs htl
    exact qW_some ⟨by omega, Int.le_refl _, hF, hm, m0, mt, hs, hl, hst, htl, hc⟩
  · rw [if_neg gi, if_pos ⟨c0, by omega⟩]
    have e1 : w32 (c + 1) = c + 1 := w32_id (by omega) (by omega)
    rw [e1]
    by_cases e2 : S 1137 c 0 = -1
    · have tl := stk_lt hs c0 (by omega) e2
      have e3 : w32 (t + 1) = t + 1 := w32_id (by omega) (by omega)
      rw [if_pos e2, e3]
      unfold qf_X9_place
      rw [if_pos ⟨c0, by omega⟩]
      refine qW_bind (qW_bnd ?_)
      rw [if_pos ⟨by omega, by omega⟩]
      refine qW_bnd (qW_some (qW_some ?_))
      have er1 : ∀ b x y, qw (qw S 1137 c 0 t) 1136 t 0 c b x y = if b = 1136 ∧ x = t ∧ y = 0 then c else if b = 1137 ∧ x = c ∧ y = 0 then t else S b x y := fun _ _ _ => rfl
      generalize qw (qw S 1137 c 0 t) 1136 t 0 c = S' at er1
      have f14 : S' 1003 14 0 = m := by rw [er1, if_neg (by simp), if_neg (by simp)]; exact hm
      have fq : ∀ k, S' 1136 k 0 = if k = t then c else S 1136 k 0 := by
        intro k
        rw [er1]
        by_cases e : k = t
        · rw [if_pos ⟨rfl, e, rfl⟩, if_pos e]
        · rw [if_neg (fun x => e x.2.1), if_neg (by simp), if_neg e]
      have fp : ∀ d, S' 1137 d 0 = if d = c then t else S 1137 d 0 := by
        intro d
        rw [er1, if_neg (by simp)]
        by_cases e : d = c
        · rw [if_pos ⟨rfl, e, rfl⟩, if_pos e]
        · rw [if_neg (fun x => e x.2.1), if_neg e]
      have hs' : stk (M 1003 0 0) (fun k => S' 1136 k 0) (fun c => S' 1137 c 0) (t + 1) := by
        refine stk_add hs c0 (by omega) e2 (fun k k0 k1 => ?_) ?_ (fun d hd => ?_) ?_
        · (try dsimp only)
          rw [fq, if_neg (by omega)]
        · (try dsimp only)
          rw [fq, if_pos rfl]
        · (try dsimp only)
          rw [fp, if_neg hd]
        · (try dsimp only)
          rw [fp, if_pos rfl]
      have epk : ∀ k, k ≤ t → pk (fun k => S' 1136 k 0) k = pk (fun k => S 1136 k 0) k := fun k kt => funext (fun b => propext (pk_c (fun j j0 j1 => by (try dsimp only); rw [fq, if_neg (by omega)])))
      refine ⟨⟨by (try dsimp only); omega, by (try dsimp only); omega, fun b x y h1 h2 h3 => ?_, f14, m0, by (try dsimp only); omega, hs', fun k k0 k1 => ?_, fun b b0 b1 => ?_, fun k k0 k1 => ?_, fun b b0 b1 => ?_⟩, by (try dsimp only); omega⟩
      · (try dsimp only)
        rw [er1, if_neg (fun q => h1 q.1), if_neg (fun q => h2 q.1)]
        exact hF b x y h1 h2 h3
      · refine lst_c k0 (fun j j0 j1 => ?_) (hl k k0 k1)
        (try dsimp only)
        rw [fq, if_neg (by omega)]
      · (try dsimp only)
        rw [epk m mt]
        exact hst b b0 b1
      · (try dsimp only at k1 ⊢)
        rw [epk k (by omega), fq]
        by_cases ek : k = t
        · rw [if_pos ek, ek]
          exact ⟨fun x => (stk_p hs c0 (by omega)).mpr x e2, hc⟩
        · rw [if_neg ek]
          exact htl k k0 (by omega)
      · (try dsimp only at b1 ⊢)
        by_cases eb : b = c
        · exact ⟨t, by omega, by omega, by (try dsimp only); rw [fq, if_pos rfl, eb]⟩
        · obtain ⟨j, j0, j1, x⟩ := hc b b0 (by omega)
          exact ⟨j, j0, by omega, by (try dsimp only); rw [fq, if_neg (by omega)]; exact x⟩
    · rw [if_neg e2]
      refine qW_some ⟨⟨by (try dsimp only); omega, by (try dsimp only); omega, hF, hm, m0, mt, hs, hl, hst, htl, fun b b0 b1 => ?_⟩, by (try dsimp only); omega⟩
      (try dsimp only at b1)
      by_cases eb : b = c
      · rw [eb]
        exact (stk_p hs c0 (by omega)).mp e2
      · exact hc b b0 (by omega)
def sortedC (M : qm) : Prop := Srt (M 1003 0 0) (fun c => (M 1004 c 0)) (fun c i => (M 1008 c i)) (fun k => (M 1136 k 0)) (M 1003 14 0) ∧ ∀ k, 0 ≤ k → k < (M 1003 0 0) → (M 1137 (M 1136 k 0) 0) = k
set_option maxHeartbeats 1000000 in
theorem sortC {M : qm} (h : okC M) : qW (qf_X9_sortBlocks 20000 M) (fun r => (M 1003 13 0 ≠ 0 → r.2 = M) ∧ (M 1003 13 0 = 0 → r.2 1003 13 0 = 1 ∧ sortedC r.2)) := by
  have n0 := h.1
  have n1 := h.2.1
  unfold qf_X9_sortBlocks
  by_cases hs : M 1003 13 0 = 0
  · rw [if_pos hs]
    refine qW_bnd (qW_bnd ?_)
    refine qW_call (Q := fun o => match o with | .inl _ => False | .inr r => I1 M (M 1003 0 0) r.2) ?_ ?_
    · refine qW_loop (fun s => I1 M s.1 s.2) (fun s => ((M 1003 0 0) - s.1).toNat) (fun s hI => qW_mono (sortC_1 h hI) (fun o ho => ?_)) _ _ ?_ ?_
      · rcases o with (o | o) | o
        · exact ho
        · exact ho
        · exact ho
      · refine ⟨Int.le_refl _, n0, fun b x y h1 h2 h3 => ?_, ?_, ⟨?_, ?_, fun k k0 k1 => ?_, fun c c0 c1 => ?_⟩, fun k k0 k1 => ?_, fun g => ?_⟩
        · (try dsimp only)
          rw [qw_ap, if_neg (by rintro ⟨rfl, rfl, -⟩; simp at h3), qfl1_ap, if_neg (fun q => h2 q.1)]
        · simp [qw_ap]
        · simp [qw_ap]
        · simp only [qw_ap]
          simpa using n0
        · simp [qw_ap] at k1
          omega
        · left
          simp only [qw_ap, qfl1_ap]
          rw [if_neg (by simp), if_pos (by simp; omega)]
        · simp [qw_ap] at k1
          omega
        · simp [qw_ap] at g
      · (try dsimp only)
        omega
    · rintro (o | ⟨u, S⟩) hI
      · exact hI.elim
      · (try dsimp only at hI ⊢)
        obtain ⟨i0, i1, hF, hm, hk, hl, hst⟩ := hI
        refine qW_call (Q := fun o => match o with | .inl _ => False | .inr r => I2 M (S 1003 14 0) (M 1003 0 0) (M 1003 0 0) r.2) ?_ ?_
        · refine qW_loop (fun s => I2 M (S 1003 14 0) s.1 s.2.1 s.2.2) (fun s => ((M 1003 0 0) - s.2.1).toNat) (fun s hI => qW_mono (sortC_2 h hI) (fun o ho => ?_)) _ _ ?_ ?_
          · rcases o with (o | o) | o
            · exact ho
            · exact ho
            · exact ho
          · refine ⟨Int.le_refl _, n0, hF, rfl, hk.1, Int.le_refl _, hk, hl, fun b b0 b1 => ?_, fun k k0 k1 => ?_, fun b b0 b1 => ?_⟩
            · by_cases g : S 1003 14 0 < (M 1003 0 0)
              · exact hst g b b0 b1
              · left
                have e : S 1003 14 0 = (M 1003 0 0) := by omega
                (try dsimp only)
                rw [e] at hk ⊢
                exact stk_all hk b0 b1
            · (try dsimp only at k0 k1)
              omega
            · (try dsimp only at b1)
              omega
          · (try dsimp only)
            omega
        · rintro (o | ⟨u2, S2⟩) hI
          · exact hI.elim
          · (try dsimp only at hI ⊢)
            obtain ⟨-, -, hF2, hm2, m0, mt, hs2, hl2, hst2, htl2, hc2⟩ := hI
            refine qW_bnd (qW_some ⟨fun x => absurd hs x, fun _ => ⟨by simp [qw_ap], ?_, ?_⟩⟩)
            · have a0 : qw S2 1003 13 0 1 1003 0 0 = M 1003 0 0 := by
                rw [qw_ap, if_neg (by simp)]
                exact hF2 _ _ _ (by decide) (by decide) (Or.inr (by decide))
              have a1 : qw S2 1003 13 0 1 1003 14 0 = S 1003 14 0 := by
                rw [qw_ap, if_neg (by simp)]
                exact hm2
              have a2 : (fun c => qw S2 1003 13 0 1 1004 c 0) = KC M := funext (fun c => by rw [qw_ap, if_neg (by simp)]; exact hF2 _ _ _ (by decide) (by decide) (Or.inl (by decide)))
              have a3 : (fun c i => qw S2 1003 13 0 1 1008 c i) = WC M := funext (fun c => funext (fun i => by rw [qw_ap, if_neg (by simp)]; exact hF2 _ _ _ (by decide) (by decide) (Or.inl (by decide))))
              have a4 : (fun k => qw S2 1003 13 0 1 1136 k 0) = fun k => S2 1136 k 0 := funext (fun c => by rw [qw_ap, if_neg (by simp)])
              (try dsimp only)
              rw [a0, a1, a2, a3, a4]
              exact ⟨m0, mt, hl2, hst2, fun k k0 k1 => ⟨(hs2.2.2.1 k (by omega) k1).1, (hs2.2.2.1 k (by omega) k1).2.1, htl2 k k0 k1⟩⟩
            · intro k k0 k1
              have a0 : qw S2 1003 13 0 1 1003 0 0 = M 1003 0 0 := by
                rw [qw_ap, if_neg (by simp)]
                exact hF2 _ _ _ (by decide) (by decide) (Or.inr (by decide))
              (try dsimp only at k1)
              rw [a0] at k1
              (try dsimp only)
              rw [qw_ap, if_neg (by simp), qw_ap, if_neg (by simp)]
              exact (hs2.2.2.1 k k0 k1).2.2
  · rw [if_neg hs]
    exact qW_some ⟨fun _ => rfl, fun x => absurd x hs⟩
