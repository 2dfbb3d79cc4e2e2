/-! ===== the giving: what a row costs ===== -/
section GVa
variable {M K A W Z : qm} {c i j k n s sp fl bh v w T : Int} {fr to wt f : Int → Int} {m N : Nat} {l l' : List Int}
def qd (a b : Int) : Int := if b ≤ a then a - b else b - a
theorem qd_b (a0 : 0 ≤ fl) (a1 : fl < 60) (b0 : 0 ≤ n) (b1 : n < 60) : 0 ≤ qd fl n ∧ qd fl n ≤ 59 := by
  unfold qd
  by_cases g : n ≤ fl
  · rw [if_pos g]
    omega
  · rw [if_neg g]
    omega
/-- the cost of a row of calls from a floor, that many seconds behind -/
def rcs (sp : Int) (fr to wt : Int → Int) : Int → Int → List Int → Int
  | _, _, [] => 0
  | fl, bh, x :: t => wt x * (bh + sp * qd fl (fr x)) + (bh + sp * qd fl (fr x) + (3 + sp * qd (fr x) (to x))) + rcs sp fr to wt (to x) (bh + sp * qd fl (fr x) + (3 + sp * qd (fr x) (to x)) + 3) t
/-- the cells from i on, as many as that -/
def rl (f : Int → Int) : Nat → Int → List Int
  | 0, _ => []
  | m + 1, i => f i :: rl f m (i + 1)
theorem sp_b (a0 : 1 ≤ sp) (a1 : sp ≤ 5) (b0 : 0 ≤ n) (b1 : n ≤ 59) : 0 ≤ sp * n ∧ sp * n ≤ 295 := by
  have cs : sp = 1 ∨ sp = 2 ∨ sp = 3 ∨ sp = 4 ∨ sp = 5 := (by omega)
  rcases cs with rfl | rfl | rfl | rfl | rfl <;> omega
theorem wt_b (a0 : 0 ≤ v) (a1 : v ≤ 201) (b0 : 0 ≤ n) (b1 : n ≤ 110000) : 0 ≤ v * n ∧ v * n ≤ 22110000 := by
  have h1 : v * n ≤ 201 * 110000 := Int.le_trans (Int.mul_le_mul_of_nonneg_right a1 b0) (Int.mul_le_mul_of_nonneg_left b1 (by decide))
  exact ⟨Int.mul_nonneg a0 b0, by omega⟩
/-- a car's facts -/
def CAR (K : qm) (c : Int) : Prop := 0 ≤ c ∧ c < 4 ∧ 1 ≤ K 2271 c 0 ∧ K 2271 c 0 ≤ 5 ∧ 0 ≤ K 2272 c 0 ∧ K 2272 c 0 < 60 ∧ 0 ≤ K 2273 c 0 ∧ K 2273 c 0 ≤ 100000 ∧ 0 ≤ K 2270 12 0 ∧ K 2270 12 0 ≤ 6000
/-- a call's facts -/
def CLL (K : qm) (x : Int) : Prop := 0 ≤ x ∧ x < 400 ∧ 0 ≤ K 2276 x 0 ∧ K 2276 x 0 < 60 ∧ 0 ≤ K 2277 x 0 ∧ K 2277 x 0 < 60 ∧ 0 ≤ K 2278 x 0 ∧ K 2278 x 0 ≤ K 2270 12 0
def wgt (K : qm) (x : Int) : Int := 1 + (K 2270 12 0 - K 2278 x 0) / 30
def bhd (K : qm) (c : Int) : Int := if K 2273 c 0 ≤ K 2270 12 0 then 0 else K 2273 c 0 - K 2270 12 0
def rco (K : qm) (c : Int) (fl bh : Int) (l : List Int) : Int := rcs (K 2271 c 0) (fun x => K 2276 x 0) (fun x => K 2277 x 0) (wgt K) fl bh l
theorem bhd_b (h : CAR K c) : 0 ≤ bhd K c ∧ bhd K c ≤ 100000 := by
  unfold CAR at h
  unfold bhd
  by_cases g : K 2273 c 0 ≤ K 2270 12 0
  · rw [if_pos g]
    omega
  · rw [if_neg g]
    omega
theorem wgt_b (h : CLL K n) (hT : K 2270 12 0 ≤ 6000) : 1 ≤ wgt K n ∧ wgt K n ≤ 201 := by
  unfold CLL at h
  unfold wgt
  omega
theorem lway_K (h : CAR K c) (a0 : 0 ≤ fl) (a1 : fl < 60) (b0 : 0 ≤ n) (b1 : n < 60) : qf_X13_way 20000 c fl n K = some (K 2271 c 0 * qd fl n) := by
  have q := qd_b a0 a1 b0 b1
  unfold CAR at h
  have s := sp_b h.2.2.1 h.2.2.2.1 q.1 q.2
  unfold qf_X13_way
  rw [if_pos (show 0 ≤ c ∧ c < 4 from ⟨h.1, h.2.1⟩)]
  unfold qd at s ⊢
  by_cases g : n ≤ fl
  · rw [if_pos g] at s ⊢
    rw [if_pos g, w32_id (x := fl - n) (by omega) (by omega), w32_id (x := K 2271 c 0 * (fl - n)) (by omega) (by omega)]
  · rw [if_neg g] at s ⊢
    rw [if_neg g, w32_id (x := n - fl) (by omega) (by omega), w32_id (x := K 2271 c 0 * (n - fl)) (by omega) (by omega)]
theorem weight_K (h : CLL K n) (hT : K 2270 12 0 ≤ 6000) : qf_X13_weightOf 20000 n K = some (wgt K n) := by
  have hh := h
  have b := wgt_b h hT
  unfold CLL at hh
  unfold qf_X13_weightOf
  rw [if_pos (show 0 ≤ n ∧ n < 400 from ⟨hh.1, hh.2.1⟩), w32_id (x := K 2270 12 0 - K 2278 n 0) (by omega) (by omega), Int.tdiv_eq_ediv_of_nonneg (by omega)]
  unfold wgt at b ⊢
  rw [w32_id (x := 1 + (K 2270 12 0 - K 2278 n 0) / 30) (by omega) (by omega)]
theorem costl_K (h : CAR K c) (hs : K 2270 16 0 = s) (s6 : s ≤ 6) (hr : ∀ i, 0 ≤ i → i < s → CLL K (K 2282 i 0)) : ∀ (m : Nat) (i j bh fl : Int) (N : Nat), m < N → 0 ≤ i → i + m = s → 0 ≤ fl → fl < 60 → 0 ≤ bh → bh ≤ 100000 + 1000 * i → 0 ≤ j → j ≤ 30000000 * i → qf_X13_costOf_L20 20000 N c j bh fl i K = some (.inr (j + rco K c fl bh (rl (fun i => K 2282 i 0) m i))) := by
  intro m
  induction m with
  | zero =>
    intro i j bh fl N mN i0 im f0 f1 b0 b1 j0 j1
    obtain ⟨N', rfl⟩ : ∃ N', N = N' + 1 := ⟨N - 1, by omega⟩
    show qloop _ (N' + 1) (c, j, bh, fl, i) = _
    rw [qloop.eq_2]
    (try dsimp only)
    have b : qf_X13_costOf_L20_b 20000 c j bh fl i K = some (.inl (.inr j)) := by
      unfold qf_X13_costOf_L20_b
      rw [if_pos (by omega)]
    rw [b]
    have z : rco K c fl bh (rl (fun i => K 2282 i 0) 0 i) = 0 := rfl
    rw [z, Int.add_zero]
  | succ m ih =>
    intro i j bh fl N mN i0 im f0 f1 b0 b1 j0 j1
    obtain ⟨N', rfl⟩ : ∃ N', N = N' + 1 := ⟨N - 1, by omega⟩
    obtain ⟨x, hx⟩ : ∃ x, K 2282 i 0 = x := ⟨_, rfl⟩
    have cl := hr i i0 (by omega)
    rw [hx] at cl
    have cl' := cl
    have hh := h
    unfold CAR at hh
    unfold CLL at cl'
    have w := wgt_b cl (by omega)
    have q1 := qd_b f0 f1 cl'.2.2.1 cl'.2.2.2.1
    have q2 := qd_b cl'.2.2.1 cl'.2.2.2.1 cl'.2.2.2.2.1 cl'.2.2.2.2.2.1
    have p1 := sp_b hh.2.2.1 hh.2.2.2.1 q1.1 q1.2
    have p2 := sp_b hh.2.2.1 hh.2.2.2.1 q2.1 q2.2
    have e1 := lway_K h f0 f1 cl'.2.2.1 cl'.2.2.2.1
    have e2 := lway_K h cl'.2.2.1 cl'.2.2.2.1 cl'.2.2.2.2.1 cl'.2.2.2.2.2.1
    have e3 := weight_K cl (show K 2270 12 0 ≤ 6000 by omega)
    obtain ⟨U, hU⟩ : ∃ U, K 2271 c 0 * qd fl (K 2276 x 0) = U := ⟨_, rfl⟩
    obtain ⟨V, hV⟩ : ∃ V, K 2271 c 0 * qd (K 2276 x 0) (K 2277 x 0) = V := ⟨_, rfl⟩
    obtain ⟨g, hg⟩ : ∃ g, wgt K x = g := ⟨_, rfl⟩
    rw [hU] at p1 e1
    rw [hV] at p2 e2
    rw [hg] at w e3
    have p3 := wt_b (v := g) (n := bh + U) (by omega) (by omega) (by omega) (by omega)
    obtain ⟨G, hG⟩ : ∃ G, g * (bh + U) = G := ⟨_, rfl⟩
    rw [hG] at p3
    have b : qf_X13_costOf_L20_b 20000 c j bh fl i K = some (.inr (c, j + G + (bh + U + (3 + V)), bh + U + (3 + V) + 3, K 2277 x 0, i + 1)) := by
      unfold qf_X13_costOf_L20_b
      rw [if_neg (by omega), if_pos (show 0 ≤ i ∧ i < 6 by omega), hx, if_pos (show 0 ≤ x ∧ x < 400 by omega), e1]
      simp only [Option.bind_some]
      rw [e3]
      simp only [Option.bind_some]
      rw [if_pos (show 0 ≤ x ∧ x < 400 by omega), if_pos (show 0 ≤ x ∧ x < 400 by omega), e2]
      simp only [Option.bind_some]
      rw [if_pos (show 0 ≤ x ∧ x < 400 by omega), w32_id (x := bh + U) (by omega) (by omega), w32_id (x := 3 + V) (by omega) (by omega), w32_id (x := bh + U + (3 + V)) (by omega) (by omega), w32_id (x := bh + U + (3 + V) + 3) (by omega) (by omega), w32_id (x := i + 1) (by omega) (by omega), hG, w64_id (x := G) (by omega) (by omega), w64_id (x := j + G) (by omega) (by omega), w64_id (x := j + G + (bh + U + (3 + V))) (by omega) (by omega)]
    show qloop _ (N' + 1) (c, j, bh, fl, i) = _
    rw [qloop.eq_2]
    (try dsimp only)
    rw [b]
    (try dsimp only)
    have r := ih (i + 1) (j + G + (bh + U + (3 + V))) (bh + U + (3 + V) + 3) (K 2277 x 0) N' (by omega) (by omega) (by omega) (by omega) (by omega) (by omega) (by omega) (by omega) (by omega)
    refine Eq.trans r ?_
    have z : rco K c fl bh (rl (fun i => K 2282 i 0) (m + 1) i) = wgt K (K 2282 i 0) * (bh + K 2271 c 0 * qd fl (K 2276 (K 2282 i 0) 0)) + (bh + K 2271 c 0 * qd fl (K 2276 (K 2282 i 0) 0) + (3 + K 2271 c 0 * qd (K 2276 (K 2282 i 0) 0) (K 2277 (K 2282 i 0) 0))) + rco K c (K 2277 (K 2282 i 0) 0) (bh + K 2271 c 0 * qd fl (K 2276 (K 2282 i 0) 0) + (3 + K 2271 c 0 * qd (K 2276 (K 2282 i 0) 0) (K 2277 (K 2282 i 0) 0)) + 3) (rl (fun i => K 2282 i 0) m (i + 1)) := rfl
    rw [z]
    rw [hx, hU, hV, hg, hG]
    refine congrArg some (congrArg Sum.inr ?_)
    omega
/-- the reference's cost of the row that stands there -/
theorem costOf_K (h : CAR K c) (s0 : 0 ≤ K 2270 16 0) (s6 : K 2270 16 0 ≤ 6) (hr : ∀ i, 0 ≤ i → i < K 2270 16 0 → CLL K (K 2282 i 0)) : qf_X13_costOf 20000 c K = some (rco K c (K 2272 c 0) (bhd K c) (rl (fun i => K 2282 i 0) (K 2270 16 0).toNat 0)) := by
  have hh := h
  unfold CAR at hh
  have bb := bhd_b h
  have e1 : qf_X13_begins 20000 c K = some (bhd K c) := by
    unfold qf_X13_begins bhd
    rw [if_pos (show 0 ≤ c ∧ c < 4 by omega)]
    by_cases g : K 2273 c 0 ≤ K 2270 12 0
    · rw [if_pos g, if_pos g]
    · rw [if_neg g, if_neg g, if_pos (show 0 ≤ c ∧ c < 4 by omega), w32_id (x := K 2273 c 0 - K 2270 12 0) (by omega) (by omega)]
  have r := costl_K h rfl s6 hr (K 2270 16 0).toNat 0 0 (bhd K c) (K 2272 c 0) 20000 (by omega) (by omega) (by omega) (by omega) (by omega) (by omega) (by omega) (by omega) (by omega)
  unfold qf_X13_costOf
  rw [e1]
  simp only [Option.bind_some]
  rw [if_pos (show 0 ≤ c ∧ c < 4 by omega), r]
  simp only [Option.bind_some]
  rw [Int.zero_add]
end GVa
