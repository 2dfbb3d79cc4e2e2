/-! ===== the bus: stations go on saying and answering ===== -/
section BUe
variable {M K M' K' Ka Z A : qm} {a b i j k v w x y s t I β : Int} {n m r : Nat} {q : Int → Int}
theorem tel_o (h : ∀ i, K' 2259 i 0 = K 2259 i 0) : qf_X12_telegramBit 20000 s k K' = qf_X12_telegramBit 20000 s k K := by
  unfold qf_X12_telegramBit
  rw [h]
  rfl
def ANB (M K : qm) (s : Int) : Prop := (K 2262 s 0 = -1 ∧ M 1140 s 9 = -1) ∨ (K 2262 s 0 = M 1140 s 8 ∧ 0 ≤ M 1140 s 8 ∧ M 1140 s 8 < 256 ∧ K 2263 s 0 = M 1140 s 9 ∧ 0 ≤ M 1140 s 9 ∧ M 1140 s 9 ≤ 10)
theorem stn_upd (h : STN M K s) (e1 : ∀ j, j ≠ 1 → j ≠ 5 → j ≠ 8 → j ≠ 9 → M' 1140 s j = M 1140 s j) (e2 : ∀ j, M' 1149 s j = M 1149 s j) (e3 : ∀ j, M' 1158 s j = M 1158 s j) (e4 : ∀ b, b = 2255 ∨ b = 2257 ∨ b = 2258 ∨ b = 2261 ∨ b = 2264 ∨ b = 2265 → K' b s 0 = K b s 0) (e5 : ∀ i, 144 * s ≤ i → i < 144 * s + 144 → K' 2259 i 0 = K 2259 i 0) (sy : K' 2260 s 0 = M' 1140 s 1) (s0 : -1 ≤ M' 1140 s 1) (ct : K' 2266 s 0 = M' 1140 s 5) (an : ANB M' K' s) (sp : 0 ≤ M' 1140 s 1 → 0 ≤ M 1140 s 1 ∧ M' 1140 s 1 < 13 * (qC M s 0 4 + 7) - 2) : STN M' K' s := by
  have eq : ∀ k, qC M' s k = qC M s k := fun k => funext fun i => e2 (7 * k + i)
  refine ⟨?_, ?_, ?_, sy, s0, ?_, ?_, ?_, ?_, ?_, an, ?_, ?_, ?_, ?_⟩
  · rw [e4 2258 (by omega), e1 0 (by decide) (by decide) (by decide) (by decide)]
    exact h.qd
  · rw [e1 0 (by decide) (by decide) (by decide) (by decide)]
    exact h.q0
  · rw [e1 0 (by decide) (by decide) (by decide) (by decide)]
    exact h.q6
  · rw [e4 2261 (by omega), e1 2 (by decide) (by decide) (by decide) (by decide)]
    exact h.wt
  · rw [e1 2 (by decide) (by decide) (by decide) (by decide)]
    exact h.w0
  · rw [e4 2264 (by omega), e4 2265 (by omega), e1 3 (by decide) (by decide) (by decide) (by decide), e1 4 (by decide) (by decide) (by decide) (by decide)]
    exact ⟨h.ct.1, h.ct.2.1, ct⟩
  · rw [e4 2255 (by omega), e1 6 (by decide) (by decide) (by decide) (by decide)]
    exact h.ad
  · rw [e4 2257 (by omega), e1 7 (by decide) (by decide) (by decide) (by decide)]
    exact h.bs
  · intro k k0 k1
    rw [e1 0 (by decide) (by decide) (by decide) (by decide)] at k1
    obtain ⟨h1, h2, h3⟩ := h.qu k k0 k1
    have := h.q6
    rw [eq]
    exact ⟨h1, h2, tgIn_x h3 (fun i i0 i1 => e5 i (by omega) (by omega)) (fun _ _ _ => rfl) h1⟩
  · intro z
    obtain ⟨z1, z2⟩ := sp z
    obtain ⟨h1, h2, h3, h4⟩ := h.sp z1
    have ok := (h.qu 0 (by omega) h1).1
    unfold qOK at ok
    rw [e1 0 (by decide) (by decide) (by decide) (by decide), e1 2 (by decide) (by decide) (by decide) (by decide), eq]
    refine ⟨h1, h2, z2, fun j j0 j1 => ?_⟩
    rw [e3, e5 _ (by omega) (by omega)]
    exact h4 j j0 j1
  · rw [e1 0 (by decide) (by decide) (by decide) (by decide), e1 2 (by decide) (by decide) (by decide) (by decide)]
    exact h.ws
  · rw [e1 0 (by decide) (by decide) (by decide) (by decide), e1 2 (by decide) (by decide) (by decide) (by decide), eq]
    exact h.tm
/-- a station goes on answering -/
theorem ans_go (h : ANB M K s) (s0 : 0 ≤ s) (s1 : s < 8) : ∃ v Ka, (∀ Z : qm, Z 1140 s 9 = M 1140 s 9 → qf_X1_goOnAnswering 20000 s Z = some ((), qw Z 1140 s 9 v)) ∧ qf_X12_goOn 20000 s K = qf_X12_goOn_J46 20000 s Ka ∧ (∀ e x y, ¬ ((e = 2262 ∨ e = 2263) ∧ x = s) → Ka e x y = K e x y) ∧ (∀ Z W : qm, Z 1140 s 9 = v → Z 1140 s 8 = M 1140 s 8 → W 2262 s 0 = Ka 2262 s 0 → W 2263 s 0 = Ka 2263 s 0 → ANB Z W s) ∧ (v = -1 ∨ (M 1140 s 9 ≠ -1 ∧ v = M 1140 s 9 + 1)) := by
  have sr : 0 ≤ s ∧ s < 8 := ⟨s0, s1⟩
  rcases h with ⟨z1, z2⟩ | ⟨a1, a2, a3, a4, a5, a6⟩
  · refine ⟨-1, K, fun Z hZ => ?_, ?_, fun _ _ _ _ => rfl, fun Z W w1 w2 w3 w4 => Or.inl ⟨w3.trans z1, w1⟩, Or.inl rfl⟩
    · unfold qf_X1_goOnAnswering
      rw [if_pos sr, if_pos (hZ.trans z2)]
      have e : qw Z 1140 s 9 (-1) = Z := by
        rw [← show Z 1140 s 9 = -1 from hZ.trans z2]
        exact qw_self
      rw [e]
    · unfold qf_X12_goOn
      rw [if_pos sr, if_pos (show K 2262 s 0 < 0 by omega)]
  · obtain ⟨K1, hK1⟩ : ∃ X, qw K 2263 s 0 (M 1140 s 9 + 1) = X := ⟨_, rfl⟩
    have k63 : K1 2263 s 0 = M 1140 s 9 + 1 := by
      rw [← hK1]
      exact qw_s
    have k62 : K1 2262 s 0 = K 2262 s 0 := by
      rw [← hK1]
      exact qw_a (by decide)
    by_cases g : M 1140 s 9 = 10
    · refine ⟨-1, qw K1 2262 s 0 (-1), fun Z hZ => ?_, ?_, fun e x y z => ?_, fun Z W w1 w2 w3 w4 => Or.inl ⟨w3.trans qw_s, w1⟩, Or.inl rfl⟩
      · unfold qf_X1_goOnAnswering qbnd
        rw [if_pos sr, hZ, if_neg (by omega), w32_id (x := M 1140 s 9 + 1) (by omega) (by omega), if_pos (by omega)]
      · unfold qf_X12_goOn qf_X12_goOn_J45 qbnd
        rw [if_pos sr, if_neg (show ¬ K 2262 s 0 < 0 by omega), if_pos sr, if_pos sr, a4, w32_id (x := M 1140 s 9 + 1) (by omega) (by omega)]
        (try dsimp only)
        rw [hK1, if_pos sr, k63, if_pos (by omega), if_pos sr]
      · rw [qw_ap, if_neg (by omega), ← hK1, qw_ap, if_neg (by omega)]
    · refine ⟨M 1140 s 9 + 1, K1, fun Z hZ => ?_, ?_, fun e x y z => ?_, fun Z W w1 w2 w3 w4 => Or.inr ⟨by rw [w3, k62, a1, w2], by rw [w2]; exact a2, by rw [w2]; exact a3, by rw [w4, k63, w1], by omega, by omega⟩, Or.inr ⟨by omega, rfl⟩⟩
      · unfold qf_X1_goOnAnswering qbnd
        rw [if_pos sr, hZ, if_neg (by omega), w32_id (x := M 1140 s 9 + 1) (by omega) (by omega), if_neg (by omega)]
      · unfold qf_X12_goOn qf_X12_goOn_J45 qbnd
        rw [if_pos sr, if_neg (show ¬ K 2262 s 0 < 0 by omega), if_pos sr, if_pos sr, a4, w32_id (x := M 1140 s 9 + 1) (by omega) (by omega)]
        (try dsimp only)
        rw [hK1, if_pos sr, k63, if_neg (by omega), if_pos sr, if_pos sr, qw_self]
      · rw [← hK1, qw_ap, if_neg (by omega)]
/-- the telegram in front has been said once more: the reference's row -/
theorem told_on {Kz : qm} (ok : qOK q) (q3 : q 6 ≤ 3) (ti : tgIn Kz q a) (a0 : 0 ≤ a) (a1 : a ≤ 1008) : ∃ Y, (if Kz 2259 (a + 23) 0 = 0 then (if 0 ≤ a ∧ a < 1152 then (if 0 ≤ a ∧ a < 1152 then (qf_X12_check 20000 a (qw Kz 2259 a 0 (w32 (Kz 2259 a 0 - 32)))).bind (fun r30 => qf_X12_goOn_J187 20000 a r30.2) else none) else none) else qf_X12_goOn_J187 20000 a Kz) = some ((), Y) ∧ tgIn Y (fun j => if j = 6 then q 6 + 1 else q j) a ∧ (∀ e x y, ¬ (e = 2259 ∧ a ≤ x ∧ x < a + 24) → Y e x y = Kz e x y) := by
  have o := ok
  unfold qOK at o
  obtain ⟨o0, o1, o2, o3, o4, o5, o6, o7, o8, o9, o10, o11, o12⟩ := o
  obtain ⟨t1, t2, t3, t4⟩ := ti
  obtain ⟨p, hp⟩ : ∃ p : Int → Int, (fun j => if j = 6 then q 6 + 1 else q j) = p := ⟨_, rfl⟩
  have p6 : p 6 = q 6 + 1 := by
    rw [← hp]
    exact if_pos rfl
  have pj : ∀ j, j ≠ 6 → p j = q j := fun j z => by
    rw [← hp]
    exact if_neg z
  rw [hp]
  have pB0 : tgB p 0 = 176 + 4 * q 0 - 32 := by
    unfold tgB
    rw [if_pos rfl, p6, pj 0 (by decide), if_pos (show 0 < q 6 + 1 by omega)]
  have pBj : ∀ j, j ≠ 0 → tgB p j = tgB q j := fun j z => by
    unfold tgB
    rw [if_neg z, if_neg z, pj 1 (by decide), pj 2 (by decide), pj 3 (by decide), pj 4 (by decide), pj 5 (by decide)]
  have p4 : p 4 = q 4 := pj 4 (by decide)
  -- counting once more
  have last : ∀ W : qm, (∀ j, 0 ≤ j → j < q 4 + 7 → W 2259 (a + j) 0 = tgA p j) → W 2259 (a + 21) 0 = q 4 + 7 → W 2259 (a + 22) 0 = q 0 → W 2259 (a + 23) 0 = q 6 → (∀ e x y, ¬ (e = 2259 ∧ a ≤ x ∧ x < a + 24) → W e x y = Kz e x y) → ∃ Y, qf_X12_goOn_J187 20000 a W = some ((), Y) ∧ tgIn Y p a ∧ (∀ e x y, ¬ (e = 2259 ∧ a ≤ x ∧ x < a + 24) → Y e x y = Kz e x y) := fun W w1 w2 w3 w4 w5 => by
    refine ⟨qw W 2259 (a + 23) 0 (q 6 + 1), ?_, ⟨fun j j0 j1 => ?_, ?_, ?_, ?_⟩, fun e x y z => ?_⟩
    · unfold qf_X12_goOn_J187 qbnd
      rw [w32_id (x := a + 23) (by omega) (by omega), if_pos (show 0 ≤ a + 23 ∧ a + 23 < 1152 by omega), if_pos (show 0 ≤ a + 23 ∧ a + 23 < 1152 by omega), w4, w32_id (x := q 6 + 1) (by omega) (by omega)]
    · rw [p4] at j1
      rw [qw_i (show a + j ≠ a + 23 by omega)]
      exact w1 j j0 j1
    · rw [qw_i (show a + 21 ≠ a + 23 by omega), w2, p4]
    · rw [qw_i (show a + 22 ≠ a + 23 by omega), w3, pj 0 (by decide)]
    · rw [p6]
      exact qw_s
    · rw [qw_ap, if_neg (by omega)]
      exact w5 e x y z
  by_cases g : q 6 = 0
  · rw [if_pos (show Kz 2259 (a + 23) 0 = 0 by omega), if_pos (show 0 ≤ a ∧ a < 1152 by omega), if_pos (show 0 ≤ a ∧ a < 1152 by omega)]
    have t0 := t1 0 (by omega) (by omega)
    rw [show a + 0 = a by omega] at t0
    have tq0 : tgA q 0 = 176 + 4 * q 0 := by
      unfold tgA tgB
      rw [if_pos (show (0 : Int) < q 4 + 6 by omega), if_pos rfl, if_neg (show ¬ 0 < q 6 by omega)]
      omega
    rw [t0, tq0, w32_id (x := 176 + 4 * q 0 - 32) (by omega) (by omega)]
    obtain ⟨W0, hW0⟩ : ∃ X, qw Kz 2259 a 0 (176 + 4 * q 0 - 32) = X := ⟨_, rfl⟩
    rw [hW0]
    have w21 : W0 2259 (a + 21) 0 = q 4 + 7 := by
      rw [← hW0, qw_i (show a + 21 ≠ a by omega)]
      exact t2
    obtain ⟨r, er, hr⟩ := check_r (K := W0) (a := a) (m := q 4 + 7) a0 (by omega) (by omega) (by omega) w21
    rw [er]
    simp only [Option.bind_some]
    have w0j : ∀ j, 0 ≤ j → j < q 4 + 6 → W0 2259 (a + j) 0 = tgB p j := fun j j0 j1 => by
      by_cases e : j = 0
      · rw [e, show a + 0 = a by omega, ← hW0, pB0]
        exact qw_s
      · rw [← hW0, qw_i (show a + j ≠ a by omega), t1 j j0 (by omega), pBj j e]
        unfold tgA
        rw [if_pos j1]
    have chk : xrF (fun j => W0 2259 (a + j) 0) (q 4 + 7 - 1).toNat = xrF (tgB p) (q 4 + 6).toNat := by
      rw [show q 4 + 7 - 1 = q 4 + 6 by omega]
      exact xrF_c _ (fun k k0 k1 => w0j k k0 (by omega))
    rw [hr]
    refine last _ (fun j j0 j1 => ?_) ?_ ?_ ?_ (fun e x y z => ?_)
    · by_cases e : j = q 4 + 6
      · rw [e, show a + (q 4 + 6) = a + (q 4 + 7) - 1 by omega]
        refine Eq.trans qw_s ?_
        rw [chk]
        unfold tgA
        rw [p4, if_neg (by omega)]
      · rw [qw_i (show a + j ≠ a + (q 4 + 7) - 1 by omega), w0j j j0 (by omega)]
        unfold tgA
        rw [p4, if_pos (by omega)]
    · rw [qw_i (show a + 21 ≠ a + (q 4 + 7) - 1 by omega)]
      exact w21
    · rw [qw_i (show a + 22 ≠ a + (q 4 + 7) - 1 by omega), ← hW0, qw_i (show a + 22 ≠ a by omega)]
      exact t3
    · rw [qw_i (show a + 23 ≠ a + (q 4 + 7) - 1 by omega), ← hW0, qw_i (show a + 23 ≠ a by omega)]
      exact t4
    · rw [qw_ap, if_neg (by omega), ← hW0, qw_ap, if_neg (by omega)]
  · rw [if_neg (show ¬ Kz 2259 (a + 23) 0 = 0 by omega)]
    have eB : ∀ j, tgB p j = tgB q j := fun j => by
      by_cases e : j = 0
      · rw [e, pB0]
        unfold tgB
        rw [if_pos rfl, if_pos (show 0 < q 6 by omega)]
      · exact pBj j e
    refine last Kz (fun j j0 j1 => ?_) t2 t3 t4 (fun _ _ _ _ => rfl)
    rw [t1 j j0 j1]
    unfold tgA
    rw [p4, eB, funext eB]
end BUe
