/-! ===== rules: both sides' words are the same ===== -/
section WDf
variable {M K A Z D W : qm} {T kd vl pl : Int → Int} {L p q e e' k k' v v' i j x y z c n w t m : Int} {b : Nat} {N : Nat}
/-- the words: kinds, values, places; n is the last -/
def WDS (T : Int → Int) (L : Int) (kd vl pl : Int → Int) (n : Int) : Prop := 0 ≤ L ∧ L ≤ 800 ∧ 0 ≤ n ∧ n ≤ 120 ∧ RUN (fun c => c = 32) T L 0 (pl 0) ∧ (∀ j, 0 ≤ j → j < n → LNV T L (pl j) (kd j) (vl j) (pl (j + 1))) ∧ ((pl n = L ∧ kd n = 101) ∨ (0 ≤ pl n ∧ pl n < L ∧ kd n = 63 ∧ (n = 120 ∨ ∃ v e, WD2 T L (pl n) 63 v e)))
theorem wds_of (h : SPL T L A n) (L0 : 0 ≤ L) (L1 : L ≤ 800) : WDS T L (fun j => A 729 j 0) (fun j => A 730 j 0) (fun j => A 731 j 0) n := ⟨L0, L1, h.1, h.2.1, h.2.2.1, h.2.2.2.1, h.2.2.2.2⟩
/-- the reference is at word j -/
def RWD (T : Int → Int) (L : Int) (kd vl pl : Int → Int) (n j : Int) (W : qm) : Prop := W 2184 1 0 = L ∧ (∀ i, 0 ≤ i → i < L → W 2185 i 0 = T i) ∧ 0 ≤ j ∧ j ≤ n ∧ W 2184 26 0 = pl j ∧ ((kd j = 63 ∧ W 2184 31 0 = 1) ∨ (kd j ≠ 63 ∧ W 2184 31 0 = 0 ∧ W 2184 28 0 = kr (kd j) ∧ (kd j = 48 ∨ kd j = 97 → W 2184 29 0 = vl j) ∧ (kd j ≠ 101 → j < n ∧ W 2184 30 0 = j + 1 ∧ ∃ e, WD2 T L (pl j) (kd j) (vl j) e ∧ W 2184 27 0 = e)))
/-- only the word at hand is another -/
def FW (K W : qm) : Prop := ∀ b x y, ¬ (b = 2184 ∧ 26 ≤ x ∧ x ≤ 31) → W b x y = K b x y
theorem word_K (h : WDS T L kd vl pl n) (hS : K 2184 1 0 = L) (hT : ∀ i, 0 ≤ i → i < L → K 2185 i 0 = T i) (hp : K 2184 27 0 = p) (p0 : 0 ≤ p) (p1 : p ≤ L) (hw : K 2184 30 0 = w) (w0 : 0 ≤ w) (w1 : w ≤ n) (hr : K 2184 31 0 = 0) (hq : RUN (fun c => c = 32) T L p (pl w)) : ∃ W, qf_X15_step 20000 K = some ((), W) ∧ FW K W ∧ RWD T L kd vl pl n w W := by
  obtain ⟨L0, L1, n0, n1, h0, hl, he⟩ := h
  obtain ⟨W, e1, f1, q, r1, a1, h1⟩ := step_K hS hT L1 hp p0 p1 hw w0 (by omega) hr
  have qe := run_u r1 hq
  rw [qe] at a1 h1
  refine ⟨W, e1, f1, (f1 _ _ _ (by decide)).trans hS, fun i i0 i1 => (f1 _ _ _ (by omega)).trans (hT i i0 i1), w0, w1, a1, ?_⟩
  by_cases g : w = n
  · rw [g] at h1 ⊢
    rcases he with ⟨x1, x2⟩ | ⟨x0, x1, x2, x3⟩
    · rcases h1 with ⟨y1, y2, y3⟩ | ⟨y1, _⟩
      · refine Or.inr ⟨by omega, y3, ?_, fun z => by omega, fun z => absurd x2 z⟩
        rw [y2, x2]
        decide
      · omega
    · rcases h1 with ⟨y1, _⟩ | ⟨_, y2, k, v, e, y3, _, y4⟩
      · omega
      · refine Or.inl ⟨x2, ?_⟩
        rcases y4 with ⟨z1, z2, _⟩ | ⟨_, z⟩
        · rcases x3 with x3 | ⟨v', e', x3⟩
          · omega
          · exact absurd (wd2_u y3 x3).1 z1
        · exact z
  · have l := hl w w0 (by omega)
    obtain ⟨x0, x1, x2, e, x3, x4⟩ := l
    rcases h1 with ⟨y1, _⟩ | ⟨_, y2, k, v, e', y3, y5, y4⟩
    · omega
    · have u := wd2_u y3 x3
      have k101 := (wd2_e x3 x1).2.2
      rw [u.1] at y4 y3
      refine Or.inr ⟨x2, ?_⟩
      rcases y4 with ⟨_, _, z2, z3, z4⟩ | ⟨z1, _⟩
      · refine ⟨z2, z3, fun z => ?_, fun _ => ⟨by omega, y2, e, x3, ?_⟩⟩
        · rw [z4 z]
          exact u.2.2 (by rw [u.1]; exact z)
        · rw [y5]
          exact u.2.1
      · omega
theorem take1_K (h : WDS T L kd vl pl n) (hj : RWD T L kd vl pl n j K) (k1 : kd j ≠ 63) (k2 : kd j ≠ 101) : ∃ W, qf_X15_take 20000 1 K = some ((), W) ∧ FW K W ∧ RWD T L kd vl pl n (j + 1) W ∧ j < n := by
  obtain ⟨a1, a2, a3, a4, a5, a6⟩ := hj
  rcases a6 with ⟨x, _⟩ | ⟨_, b1, b2, b3, b4⟩
  · exact absurd x k1
  · obtain ⟨c1, c2, e, c3, c4⟩ := b4 k2
    have l := h.2.2.2.2.2.1 j a3 c1
    obtain ⟨x0, x1, x2, e', x3, x4⟩ := l
    have u := wd2_u c3 x3
    have ee := wd2_e c3 x1
    rw [← u.2.1] at x4
    obtain ⟨W, e1, f1, h1⟩ := word_K (K := K) (w := j + 1) h a1 a2 c4 (by omega) (by omega) c2 (by omega) (by omega) b1 x4
    refine ⟨W, ?_, f1, h1, c1⟩
    unfold qf_X15_take qf_X15_take_J17 qbnd
    (try dsimp only)
    rw [if_pos b1, if_neg (by decide), if_pos (Or.inl rfl), qw_eqv b1, if_pos b1, e1]
    rfl
theorem take0_K (h : K 2184 31 0 = 0 ∨ K 2184 31 0 = 1) : qf_X15_take 20000 0 K = some ((), qw K 2184 31 0 1) := by
  unfold qf_X15_take qf_X15_take_J12 qf_X15_take_J17 qbnd
  (try dsimp only)
  rw [if_pos (Or.inr rfl : (1 : Int) = 0 ∨ (1 : Int) = 1), show qw K 2184 31 0 1 2184 31 0 = 1 from qw_s, if_neg (by decide : ¬ (1 : Int) = 0)]
  by_cases g : K 2184 31 0 = 0
  · rw [if_pos g, if_pos rfl]
  · rw [if_neg g]
theorem takew_K (h : K 2184 31 0 = 1) : qf_X15_take 20000 t K = some ((), K) := by
  unfold qf_X15_take qf_X15_take_J12 qf_X15_take_J17 qbnd
  (try dsimp only)
  rw [if_neg (show ¬ K 2184 31 0 = 0 by omega), if_pos (Or.inr rfl : (1 : Int) = 0 ∨ (1 : Int) = 1), qw_eqv h, if_neg (show ¬ K 2184 31 0 = 0 by omega)]
/-- other cells don't matter -/
theorem rwd_fr (h : RWD T L kd vl pl n j K) (f : ∀ b x y, (b = 2184 ∧ (x = 1 ∨ (26 ≤ x ∧ x ≤ 31))) ∨ b = 2185 → W b x y = K b x y) : RWD T L kd vl pl n j W := by
  obtain ⟨a1, a2, a3, a4, a5, a6⟩ := h
  refine ⟨(f _ _ _ (by omega)).trans a1, fun i i0 i1 => (f _ _ _ (by omega)).trans (a2 i i0 i1), a3, a4, (f _ _ _ (by omega)).trans a5, ?_⟩
  rcases a6 with ⟨x, y⟩ | ⟨x, b1, b2, b3, b4⟩
  · exact Or.inl ⟨x, (f _ _ _ (by omega)).trans y⟩
  · refine Or.inr ⟨x, (f _ _ _ (by omega)).trans b1, (f _ _ _ (by omega)).trans b2, fun z => (f _ _ _ (by omega)).trans (b3 z), fun z => ?_⟩
    obtain ⟨c1, c2, e, c3, c4⟩ := b4 z
    exact ⟨c1, (f _ _ _ (by omega)).trans c2, e, c3, (f _ _ _ (by omega)).trans c4⟩
theorem rwd_w (h : RWD T L kd vl pl n j K) : K 2184 31 0 = 0 ∨ K 2184 31 0 = 1 := by
  rcases h.2.2.2.2.2 with ⟨_, y⟩ | ⟨_, y, _⟩
  · exact Or.inr y
  · exact Or.inl y
end WDf
