/-! ===== why a card is refused, both sides ===== -/
noncomputable def Wv (M : qm) (c m n room fr : Int) : Int := if (M 828 c 2) < n then if m ≤ (M 828 c 1) then if b01 (Nd M (100 + c) n m) = 0 then (if 0 ≤ fr ∧ (M 761 (M 828 c 0) 0) ≠ fr then 4 else if b01 (HR M c room m n) = 0 then 5 else 0) else 3 else 2 else 1
noncomputable def otV (M : qm) (p room : Int) : Int := if room = M 825 (13 * p) 0 then M 825 (13 * p + 1) 0 else M 825 (13 * p) 0
noncomputable def knV (M : qm) (p : Int) : Int := if M 825 (13 * p + 11) 0 = -1 then (M 824 12 0) else M 825 (13 * p + 11) 0
noncomputable def frV (M : qm) (p room : Int) : Int := if M 825 (13 * p + 11) 0 = -1 then otV M p room else -1
noncomputable def Vv (M : qm) (c p room m rl : Int) : Int := if (M 761 (M 828 c 0) 3) = -1 then (if rl = 0 then (if Wv M c m (knV M p) room (frV M p room) = 0 then (if b01 (LKp M p) = 0 then 0 else 6) else Wv M c m (knV M p) room (frV M p room)) else if (M 761 (M 828 c 0) 0) = otV M p room then 0 else 4) else 9
section RV
variable {M K : qm} {c p room t rl : Int}
theorem isElsewhere_r {q : Int} (h : pnM M) (p0 : 0 ≤ p) (p1 : p < (M 824 3 0)) (hq : 0 ≤ q ∧ q < 40) : qf_X0_isElsewhere 20000 q p room M = some (if (M 761 q 0) = otV M p room then 0 else 1) := by
  have e0 : qf_X0_factOf 20000 p 0 M = some (M 825 (13 * p) 0) := by
    rw [factOf_r h p0 p1 (by decide) (by decide), Int.add_zero]
  have j : ∀ x, qf_X0_isElsewhere_J25 20000 q x M = some (if (M 761 q 0) = x then 0 else 1) := by
    intro x
    unfold qf_X0_isElsewhere_J25 qf_X10_roomOf
    rw [if_pos hq]
    show (if (M 761 q 0) = x then some 0 else some 1) = _
    split <;> rfl
  unfold qf_X0_isElsewhere otV
  rw [e0, factOf_r h p0 p1 (by decide) (by decide)]
  show (if room = M 825 (13 * p) 0 then (some (M 825 (13 * p + 1) 0)).bind (fun r7 => qf_X0_isElsewhere_J25 20000 q r7 M) else qf_X0_isElsewhere_J25 20000 q (M 825 (13 * p) 0) M) = _
  by_cases e : room = M 825 (13 * p) 0
  · rw [if_pos e, if_pos e]
    exact j _
  · rw [if_neg e, if_neg e]
    exact j _
theorem refusal_c (hpn : R_portn M K) (h_notek : R_notek M K) (h_tellt : R_tellt M K) (c0 : 0 ≤ (M 824 13 0)) (c1 : (M 824 13 0) ≤ 512) (r0 : 0 ≤ (M 824 10 0)) (r1 : (M 824 10 0) ≤ 16) (hc : 0 ≤ c ∧ c < 60) (hp : 0 ≤ (M 828 c 0) ∧ (M 828 c 0) < 40) (hs : (M 51 3 0) ≤ 100) (p0 : 0 ≤ p) (p1 : p < (M 824 3 0)) (ht : (M 824 17 0) = t) (t0 : 0 ≤ t) (hrl : (M 824 18 0) = rl) (ho : 0 ≤ otV M p room) : qf_X0_refusal 20000 c p room M = some (Vv M c p room (t / 60) rl) := by
  have h := pnM_of hpn
  have e60 : Int.tdiv t 60 = t / 60 := Int.tdiv_eq_ediv_of_nonneg t0
  have eo : qf_X0_isOff 20000 p M = some (if M 825 (13 * p + 11) 0 = -1 then 0 else 1) := by
    unfold qf_X0_isOff
    rw [factOf_r h p0 p1 (by decide) (by decide)]
    show (if M 825 (13 * p + 11) 0 = -1 then some 0 else some 1) = _
    split <;> rfl
  have J142 : ∀ x, qf_X0_refusal_J142 20000 p x M = some (if x = 0 then (if b01 (LKp M p) = 0 then 0 else 6) else x) := by
    intro x
    unfold qf_X0_refusal_J142
    rw [isLocked_r hpn p0 p1]
    by_cases e : x = 0
    · rw [if_pos e, if_pos e, e]
      show (if b01 (LKp M p) = 0 then some 0 else some 6) = _
      split <;> rfl
    · rw [if_neg e, if_neg e]
  have J116 : ∀ n x, qf_X0_refusal_J116 20000 c p room n x M = some (if (if x = 0 then (if b01 (HR M c room (t / 60) n) = 0 then 5 else 0) else x) = 0 then (if b01 (LKp M p) = 0 then 0 else 6) else (if x = 0 then (if b01 (HR M c room (t / 60) n) = 0 then 5 else 0) else x)) := by
    intro n x
    unfold qf_X0_refusal_J116
    rw [ht, e60, hasRight_r c0 c1 h_notek h_tellt r0 r1 hc hp hs, J142, J142]
    by_cases e : x = 0
    · rw [if_pos e, if_pos e]
      show (if b01 (HR M c room (t / 60) n) = 0 then _ else _) = _
      by_cases e2 : b01 (HR M c room (t / 60) n) = 0
      · rw [if_pos e2]
        simp [e, e2]
      · rw [if_neg e2]
        simp [e, e2]
    · rw [if_neg e]
      simp [e]
  have J71 : qf_X0_refusal_J71 20000 c p room (M 828 c 0) (knV M p) M = some (if Wv M c (t / 60) (knV M p) room (frV M p room) = 0 then (if b01 (LKp M p) = 0 then 0 else 6) else Wv M c (t / 60) (knV M p) room (frV M p room)) := by
    unfold qf_X0_refusal_J71
    rw [ht, e60, cardRefusal_r c0 c1 h_notek h_tellt hc, eo, isElsewhere_r h p0 p1 hp]
    simp only [J116, Option.bind_some]
    unfold Wv
    by_cases g1 : (M 828 c 2) < knV M p
    · by_cases g2 : t / 60 ≤ (M 828 c 1)
      · by_cases g3 : b01 (Nd M (100 + c) (knV M p) (t / 60)) = 0
        · simp only [if_true, reduceIte, if_pos g1, if_pos g2, if_pos g3, if_pos rfl]
          unfold frV
          by_cases g4 : M 825 (13 * p + 11) 0 = -1
          · simp only [if_true, reduceIte, if_pos g4, if_pos rfl]
            by_cases g5 : (M 761 (M 828 c 0) 0) = otV M p room
            · simp only [if_true, reduceIte, if_pos g5, if_pos rfl, if_neg (show ¬ (0 ≤ otV M p room ∧ (M 761 (M 828 c 0) 0) ≠ otV M p room) by omega)]
            · simp only [if_true, reduceIte, if_neg g5, if_pos (show 0 ≤ otV M p room ∧ (M 761 (M 828 c 0) 0) ≠ otV M p room by omega), if_neg (show ¬ (1 : Int) = 0 by decide), if_neg (show ¬ (4 : Int) = 0 by decide)]
          · simp only [if_true, reduceIte, if_neg g4, if_neg (show ¬ (1 : Int) = 0 by decide), if_neg (show ¬ (0 ≤ (-1 : Int) ∧ (M 761 (M 828 c 0) 0) ≠ -1) by omega)]
        · simp only [if_true, reduceIte, if_pos g1, if_pos g2, if_neg g3, if_neg (show ¬ (3 : Int) = 0 by decide)]
      · simp only [if_true, reduceIte, if_pos g1, if_neg g2, if_neg (show ¬ (2 : Int) = 0 by decide)]
    · simp only [if_true, reduceIte, if_neg g1, if_neg (show ¬ (1 : Int) = 0 by decide)]
  unfold qf_X0_refusal Vv
  rw [if_pos hc, isCaught_r hp.1 hp.2, hrl]
  show (if (if (M 761 (M 828 c 0) 3) = -1 then (0 : Int) else 1) = 0 then _ else some 9) = _
  by_cases g0 : (M 761 (M 828 c 0) 3) = -1
  · simp only [if_true, reduceIte, if_pos g0, if_pos rfl]
    by_cases g1 : rl = 0
    · rw [if_pos g1, if_pos g1, eo, factOf_r h p0 p1 (by decide) (by decide), ← J71]
      show (if (if M 825 (13 * p + 11) 0 = -1 then (0 : Int) else 1) = 0 then _ else _) = _
      unfold knV
      by_cases g2 : M 825 (13 * p + 11) 0 = -1
      · simp only [if_true, reduceIte, if_pos g2, if_pos rfl]
      · simp only [if_true, reduceIte, if_neg g2, if_neg (show ¬ (1 : Int) = 0 by decide)]
        rfl
    · rw [if_neg g1, if_neg g1, isElsewhere_r h p0 p1 hp]
      show (if (if (M 761 (M 828 c 0) 0) = otV M p room then (0 : Int) else 1) = 0 then some 0 else some 4) = _
      by_cases g2 : (M 761 (M 828 c 0) 0) = otV M p room
      · simp only [if_true, reduceIte, if_pos g2, if_pos rfl]
      · simp only [if_true, reduceIte, if_neg g2, if_neg (show ¬ (1 : Int) = 0 by decide)]
  · simp only [if_true, reduceIte, if_neg g0, if_neg (show ¬ (1 : Int) = 0 by decide)]
theorem refused_k (h_portn : R_portn M K) (h_portw : R_portw M K) (h_portk : R_portk M K) (h_porto : R_porto M K) (h_rightn : R_rightn M K) (h_rights : R_rights M K) (h_cardn : R_cardn M K) (h_cards : R_cards M K) (h_personn : R_personn M K) (h_persons : R_persons M K) (h_personb : R_personb M K) (h_names : R_names M K) (h_spaces : R_spaces M K) (hTL : TL M K) (hlb : R_lockb M K) (hlr : R_lockr M K) (hl0 : 0 ≤ (K 2156 24 0)) (hl1 : (K 2156 24 0) ≤ 4100) (c1 : (M 824 13 0) ≤ 512) (t1 : (M 824 12 0) ≤ 512) (hz : (K 2156 9 0) = (M 51 3 0)) (hc : 0 ≤ c ∧ c < (M 824 8 0)) (p0 : 0 ≤ p) (p1 : p < (M 824 3 0)) (hroom : room = M 825 (13 * p) 0 ∨ room = M 825 (13 * p + 1) 0) (ht : (K 2156 2 0) = t) (t0 : 0 ≤ t) (hrl : qf_X18_isReleased 20000 K = some rl) : qf_X18_refused 20000 c p room K = some (Vv M c p room (t / 60) rl) := by
  have s_portn := h_portn
  unfold R_portn at s_portn
  have s_cardn := h_cardn
  unfold R_cardn at s_cardn
  have s_personn := h_personn
  unfold R_personn at s_personn
  have s_telln := hTL.1
  unfold R_telln at s_telln
  have e60 : Int.tdiv t 60 = t / 60 := Int.tdiv_eq_ediv_of_nonneg t0
  have qw_ := h_portw p p0 p1
  have qk := h_portk p p0 p1
  have qc := h_cards c hc.1 hc.2
  have hp : 0 ≤ (K 2312 c 0) ∧ (K 2312 c 0) < 40 := by omega
  have qp := h_persons (K 2312 c 0) hp.1 (by omega)
  have qb := h_personb (K 2312 c 0) hp.1 (by omega)
  have hc60 : 0 ≤ c ∧ c < 60 := by omega
  have hp14 : 0 ≤ p ∧ p < 1400 := by omega
  have er : (K 2306 (K 2312 c 0) 0) = (M 761 (M 828 c 0) 0) := by
    rw [qp.1, qc.1]
  have ec : (K 2309 (K 2312 c 0) 0) = (M 761 (M 828 c 0) 3) := by
    rw [qp.2.2.2.1, qc.1]
  have to0 : 0 ≤ room ∧ room ≤ (K 2156 9 0) := by
    rcases hroom with e | e <;> omega
  have ho : 0 ≤ otV M p room := by
    unfold otV
    split <;> omega
  have J107 : ∀ b fr n, 0 ≤ b → (n = if (K 2156 45 0) ≤ b then (K 2156 45 0) else b) → qf_X18_refused_J107 20000 p c room (Int.tdiv (K 2156 2 0) 60) b fr K = some (if Wv M c (t / 60) n room fr = 0 then (if b01 (LKp M p) = 0 then 0 else 6) else Wv M c (t / 60) n room fr) := by
    intro b fr n b0 hn
    refine qW_e ?_
    unfold qf_X18_refused_J107
    rw [ht, e60, why_r h_rightn h_rights h_cardn h_cards h_personn h_persons h_names h_spaces hTL c1 t1 hz hc b0 hn to0.1 to0.2]
    refine qW_bind (qW_some ?_)
    show qW ((qf_X18_refused_L115 20000 20000 p (Wv M c (t / 60) n room fr) 0 K).bind _) _
    generalize Wv M c (t / 60) n room fr = W
    by_cases e : W = 0
    · subst e
      refine qW_call (refLoop_r (M := M) hl0 hlr hl1 s_portn.2.1) ?_
      rintro _ rfl
      refine qW_some ?_
      rw [if_pos rfl, b01_c (lk_eq hlb hlr h_porto p0 p1)]
    · have e2 : qf_X18_refused_L115_b 20000 p W 0 K = some (.inl (.inr W)) := by
        unfold qf_X18_refused_L115_b
        by_cases g : (K 2156 24 0) ≤ 0
        · rw [if_pos g]
        · rw [if_neg g, if_neg e]
      have e3 : qf_X18_refused_L115 20000 20000 p W 0 K = some (.inr W) := by
        unfold qf_X18_refused_L115
        show qloop _ (19999 + 1) _ = _
        unfold qloop
        (try dsimp only)
        rw [e2]
      rw [e3]
      refine qW_bind (qW_some (qW_some ?_))
      rw [if_neg e]
  have J25 : qf_X18_refused_J25 20000 c p room (otV M p room) K = some (Vv M c p room (t / 60) rl) := by
    refine qW_e ?_
    unfold qf_X18_refused_J25 Vv
    rw [if_pos hc60, if_pos hp, ec]
    by_cases g0 : (M 761 (M 828 c 0) 3) = -1
    · rw [if_pos (show (M 761 (M 828 c 0) 3) < 0 by omega), if_pos g0, hrl]
      refine qW_bind (qW_some ?_)
      by_cases g1 : rl = 0
      · rw [if_pos g1, if_pos g1, if_pos hp14, if_pos hp14]
        rcases qk.1 with ⟨k1, k2, k3⟩ | ⟨k1, k2, k3⟩
        · rw [if_pos k1, J107 _ _ (M 824 12 0) (by omega) (by rw [k1, if_pos (by omega)]; omega)]
          unfold knV frV
          simp only [if_pos k2]
          exact qW_some rfl
        · rw [if_neg (by omega), J107 _ _ (M 825 (13 * p + 11) 0) (by omega) (by
            by_cases z : (K 2156 45 0) ≤ (K 2297 p 0)
            · rw [if_pos z]
              omega
            · rw [if_neg z]
              omega)]
          have nn : ¬ M 825 (13 * p + 11) 0 = -1 := by omega
          unfold knV frV
          simp only [if_neg nn]
          exact qW_some rfl
      · rw [if_neg g1, if_neg g1, if_pos hc60, if_pos hp, er]
        split
        · exact qW_some rfl
        · exact qW_some rfl
    · rw [if_neg (show ¬ (M 761 (M 828 c 0) 3) < 0 by omega), if_neg g0]
      exact qW_some rfl
  unfold qf_X18_refused
  rw [if_pos hp14, if_pos hp14, if_pos hp14, qw_.1, qw_.2.1]
  rw [← J25]
  unfold otV
  by_cases e : room = M 825 (13 * p) 0
  · rw [if_pos e, if_pos e]
  · rw [if_neg e, if_neg e]
end RV
