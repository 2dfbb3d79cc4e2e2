/-! ===== the bus: stations begin to say; how long the line has been idle ===== -/
section BUc
variable {M K M' K' Z A : qm} {a b i j k v w x y s t : Int} {n m r : Nat} {q : Int → Int}
theorem two_loop {σ τ ρ ω : Type} {f : σ → Option (ρ ⊕ σ)} {g : τ → Option (ω ⊕ τ)} {Q : ρ → ω → Prop} (n : Nat) (I : Nat → σ → τ → Prop) (step : ∀ i a b, i < n → I i a b → ∃ a' b', f a = some (.inr a') ∧ g b = some (.inr b') ∧ I (i + 1) a' b') (fin : ∀ a b, I n a b → ∃ r r', f a = some (.inl r) ∧ g b = some (.inl r') ∧ Q r r') : ∀ (m i N N2 : Nat) (a : σ) (b : τ), i + m = n → m < N → m < N2 → I i a b → ∃ r r', qloop f N a = some r ∧ qloop g N2 b = some r' ∧ Q r r' := by
  intro m
  induction m with
  | zero =>
    intro i N N2 a b im h1 h2 hI
    obtain ⟨N', rfl⟩ : ∃ N', N = N' + 1 := ⟨N - 1, by omega⟩
    obtain ⟨N2', rfl⟩ : ∃ N', N2 = N' + 1 := ⟨N2 - 1, by omega⟩
    rw [show i = n by omega] at hI
    obtain ⟨r, r', e1, e2, hQ⟩ := fin a b hI
    refine ⟨r, r', ?_, ?_, hQ⟩
    · rw [qloop.eq_2, e1]
    · rw [qloop.eq_2, e2]
  | succ m ih =>
    intro i N N2 a b im h1 h2 hI
    obtain ⟨N', rfl⟩ : ∃ N', N = N' + 1 := ⟨N - 1, by omega⟩
    obtain ⟨N2', rfl⟩ : ∃ N', N2 = N' + 1 := ⟨N2 - 1, by omega⟩
    obtain ⟨a', b', e1, e2, hI'⟩ := step i a b (by omega) hI
    obtain ⟨r, r', e3, e4, hQ⟩ := ih (i + 1) N' N2' a' b' (by omega) (by omega) (by omega) hI'
    refine ⟨r, r', ?_, ?_, hQ⟩
    · rw [qloop.eq_2, e1]
      exact e3
    · rw [qloop.eq_2, e2]
      exact e4
/-- what beginning may change in the class, in the reference -/
def BGC (M Z : qm) (s : Int) : Prop := ∀ e x y, ¬ (e = 1140 ∧ x = s ∧ y = 1) → ¬ (e = 1158 ∧ x = s) → Z e x y = M e x y
def BGK (K Z : qm) (s : Int) : Prop := ∀ e x y, ¬ (e = 2260 ∧ x = s) → Z e x y = K e x y
theorem beg_nd (h : STN M K s) (s0 : 0 ≤ s) (s1 : s < 8) (hs : M 1140 s 1 = -1) (hw : M 1140 s 2 = -1) (hq : 0 < M 1140 s 0) (hv : (v < w ↔ M 1139 6 0 < w)) : ∃ M' K', qf_X1_beginSaying_J56 20000 s s s w M = some ((), M') ∧ qf_X12_begin_J83 20000 s v w K = some ((), K') ∧ STN M' K' s ∧ BGC M M' s ∧ BGK K K' s ∧ (M' 1140 s 1 = M 1140 s 1 ∨ (M' 1140 s 1 = 0 ∧ w ≤ M 1139 6 0)) := by
  by_cases g : M 1139 6 0 < w
  · refine ⟨M, qw K 2260 s 0 (-1), ?_, ?_, stn_o h (fun _ => rfl) (fun _ => rfl) (fun _ => rfl) (fun b b0 b1 b2 b3 => ?_) (fun i i0 i1 => qw_a (by decide)), fun _ _ _ _ _ => rfl, fun e x y z => by rw [qw_ap, if_neg (by omega)], Or.inl rfl⟩
    · unfold qf_X1_beginSaying_J56
      rw [if_pos g]
    · unfold qf_X12_begin_J83 qbnd
      rw [if_pos (hv.mpr g), if_pos (show 0 ≤ s ∧ s < 8 from ⟨s0, s1⟩)]
    · by_cases e : b = 2260
      · rw [e]
        refine Eq.trans qw_s ?_
        rw [h.sy, hs]
      · exact qw_a e
  · obtain ⟨q, hqq⟩ : ∃ q, qC M s 0 = q := ⟨_, rfl⟩
    have qu := h.qu 0 (by omega) hq
    obtain ⟨Z, hZ⟩ : ∃ Z, qw M 1140 s 1 0 = Z := ⟨_, rfl⟩
    have fZ : ∀ e x y, ¬ (e = 1140 ∧ x = s ∧ y = 1) → Z e x y = M e x y := fun e x y z => by rw [← hZ, qw_ap, if_neg z]
    have eq : ∀ k, qC Z s k = qC M s k := fun k => funext fun i => fZ 1149 s (7 * k + i) (by omega)
    rw [hqq] at qu
    obtain ⟨Y, eY, fY, hY⟩ := spell_C (M := Z) s0 s1 ((eq 0).trans hqq) qu.1
    have gY : BGC M Y s := fun e x y z1 z2 => (fY e x y z2).trans (fZ e x y z1)
    have y1 : Y 1140 s 1 = 0 := by
      rw [fY _ _ _ (by omega), ← hZ]
      exact qw_s
    have yj : ∀ j, j ≠ 1 → Y 1140 s j = M 1140 s j := fun j z => gY _ _ _ (by omega) (by omega)
    have yq : ∀ k, qC Y s k = qC M s k := fun k => funext fun i => gY 1149 s (7 * k + i) (by omega) (by omega)
    obtain ⟨W, hW⟩ : ∃ W, qw K 2260 s 0 0 = W := ⟨_, rfl⟩
    have fW : ∀ e x y, e ≠ 2260 → W e x y = K e x y := fun e x y z => by rw [← hW, qw_a z]
    refine ⟨Y, W, ?_, ?_, ⟨?_, ?_, ?_, ?_, ?_, ?_, ?_, ?_, ?_, ?_, ?_, ?_, ?_, ?_, ?_⟩, gY, fun e x y z => by rw [← hW, qw_ap, if_neg (by omega)], Or.inr ⟨y1, by omega⟩⟩
    · unfold qf_X1_beginSaying_J56 qbnd
      rw [if_neg g]
      (try dsimp only)
      rw [hZ, if_pos (show 0 ≤ s ∧ s < 8 from ⟨s0, s1⟩), eY]
      rfl
    · unfold qf_X12_begin_J83 qbnd
      rw [if_neg (fun z => g (hv.mp z)), if_pos (show 0 ≤ s ∧ s < 8 from ⟨s0, s1⟩), hW]
    · rw [fW _ _ _ (by decide), yj 0 (by decide)]
      exact h.qd
    · rw [yj 0 (by decide)]
      exact h.q0
    · rw [yj 0 (by decide)]
      exact h.q6
    · rw [y1, ← hW]
      exact qw_s
    · rw [y1]
      decide
    · rw [fW _ _ _ (by decide), yj 2 (by decide)]
      exact h.wt
    · rw [yj 2 (by decide)]
      exact h.w0
    · rw [fW _ _ _ (by decide), fW _ _ _ (by decide), fW _ _ _ (by decide), yj 3 (by decide), yj 4 (by decide), yj 5 (by decide)]
      exact h.ct
    · rw [fW _ _ _ (by decide), yj 6 (by decide)]
      exact h.ad
    · rw [fW _ _ _ (by decide), yj 7 (by decide)]
      exact h.bs
    · rw [fW _ _ _ (by decide), fW _ _ _ (by decide), yj 8 (by decide), yj 9 (by decide)]
      exact h.an
    · intro k k0 k1
      rw [yj 0 (by decide)] at k1
      rw [yq]
      obtain ⟨h1, h2, h3⟩ := h.qu k k0 k1
      exact ⟨h1, h2, tgIn_x h3 (fun i _ _ => fW _ _ _ (by decide)) (fun _ _ _ => rfl) h1⟩
    · intro _
      have ok := qu.1
      unfold qOK at ok
      rw [yj 0 (by decide), yj 2 (by decide), y1, yq, hqq]
      refine ⟨hq, hw, by omega, fun j j0 j1 => ?_⟩
      rw [hY j j0 j1, fW _ _ _ (by decide)]
      have t1 := qu.2.2.1 j j0 j1
      rw [show 144 * s + 24 * 0 + j = 144 * s + j by omega] at t1
      exact t1.symm
    · rw [yj 0 (by decide), yj 2 (by decide)]
      exact h.ws
    · rw [yj 0 (by decide), yj 2 (by decide), yq]
      exact h.tm
theorem beg_one (h : STN M K s) (s0 : 0 ≤ s) (s1 : s < 8) (hv : v = min 60 (M 1139 6 0)) : ∃ M' K', qf_X1_beginSaying 20000 s M = some ((), M') ∧ qf_X12_begin 20000 s v K = some ((), K') ∧ STN M' K' s ∧ BGC M M' s ∧ BGK K K' s ∧ (M' 1140 s 1 = M 1140 s 1 ∨ (M' 1140 s 1 = 0 ∧ 50 ≤ M 1139 6 0)) := by
  have stay : qf_X1_beginSaying 20000 s M = some ((), M) → qf_X12_begin 20000 s v K = some ((), K) → ∃ M' K', qf_X1_beginSaying 20000 s M = some ((), M') ∧ qf_X12_begin 20000 s v K = some ((), K') ∧ STN M' K' s ∧ BGC M M' s ∧ BGK K K' s ∧ (M' 1140 s 1 = M 1140 s 1 ∨ (M' 1140 s 1 = 0 ∧ 50 ≤ M 1139 6 0)) := fun e1 e2 => ⟨M, K, e1, e2, h, fun _ _ _ _ _ => rfl, fun _ _ _ _ => rfl, Or.inl rfl⟩
  have sr : 0 ≤ s ∧ s < 8 := ⟨s0, s1⟩
  have hs0 := h.s0
  have hw0 := h.w0
  have hq0 := h.q0
  have hq6 := h.q6
  have hsy := h.sy
  have hwt := h.wt
  have hqd := h.qd
  by_cases g1 : M 1140 s 1 = -1
  · by_cases g2 : M 1140 s 2 = -1
    · by_cases g3 : M 1140 s 0 = 0
      · refine stay ?_ ?_
        · unfold qf_X1_beginSaying
          rw [if_pos sr, if_pos g1, if_pos g2, if_pos g3]
        · unfold qf_X12_begin
          rw [if_pos sr, if_neg (show ¬ 0 ≤ K 2260 s 0 by omega), if_pos sr, if_neg (show ¬ 0 ≤ K 2261 s 0 by omega), if_pos sr, if_pos (show K 2258 s 0 ≤ 0 by omega)]
      · have qu := h.qu 0 (by omega) (by omega)
        have ok := qu.1
        have ti := qu.2.2
        unfold qOK at ok
        rw [qC_0 (i := 0), qC_0 (i := 6)] at ok
        have t22 : K 2259 (144 * s + 22) 0 = M 1149 s 0 := by
          have e := ti.2.2.1
          rw [show 144 * s + 24 * 0 + 22 = 144 * s + 22 by omega, qC_0] at e
          exact e
        have t23 : K 2259 (144 * s + 23) 0 = M 1149 s 6 := by
          have e := ti.2.2.2
          rw [show 144 * s + 24 * 0 + 23 = 144 * s + 23 by omega, qC_0] at e
          exact e
        have c1 : qf_X1_beginSaying 20000 s M = (if M 1149 s 0 < 2 then qf_X1_beginSaying_J56 20000 s s s 50 M else if M 1149 s 6 = 0 then qf_X1_beginSaying_J56 20000 s s s 53 M else qf_X1_beginSaying_J56 20000 s s s 50 M) := by
          unfold qf_X1_beginSaying qf_X1_beginSaying_J54
          rw [if_pos sr, if_pos g1, if_pos g2, if_neg g3, if_pos sr]
        have c2 : qf_X12_begin 20000 s v K = (if M 1149 s 0 ≤ 1 then qf_X12_begin_J83 20000 s v 50 K else if M 1149 s 6 = 0 then qf_X12_begin_J83 20000 s v 53 K else qf_X12_begin_J83 20000 s v 50 K) := by
          unfold qf_X12_begin qf_X12_begin_J64 qf_X12_begin_J65
          rw [if_pos sr, if_neg (show ¬ 0 ≤ K 2260 s 0 by omega), if_pos sr, if_neg (show ¬ 0 ≤ K 2261 s 0 by omega), if_pos sr, if_neg (show ¬ K 2258 s 0 ≤ 0 by omega), w32_id (x := 144 * s) (by omega) (by omega), w32_id (x := 144 * s + 22) (by omega) (by omega), w32_id (x := 144 * s + 23) (by omega) (by omega), if_pos (show 0 ≤ 144 * s + 22 ∧ 144 * s + 22 < 1152 by omega), if_pos (show 0 ≤ 144 * s + 23 ∧ 144 * s + 23 < 1152 by omega), t22, t23, if_pos (show (0 : Int) = 0 from rfl), if_neg (show ¬ (1 : Int) = 0 by decide)]
        have go : ∀ w, w = 50 ∨ w = 53 → qf_X1_beginSaying 20000 s M = qf_X1_beginSaying_J56 20000 s s s w M → qf_X12_begin 20000 s v K = qf_X12_begin_J83 20000 s v w K → ∃ M' K', qf_X1_beginSaying 20000 s M = some ((), M') ∧ qf_X12_begin 20000 s v K = some ((), K') ∧ STN M' K' s ∧ BGC M M' s ∧ BGK K K' s ∧ (M' 1140 s 1 = M 1140 s 1 ∨ (M' 1140 s 1 = 0 ∧ 50 ≤ M 1139 6 0)) := fun w hw e1 e2 => by
          obtain ⟨M', K', h1, h2, h3, h4, h5, h6⟩ := beg_nd (w := w) (v := v) h s0 s1 g1 g2 (by omega) (by omega)
          exact ⟨M', K', e1.trans h1, e2.trans h2, h3, h4, h5, h6.elim Or.inl (fun z => Or.inr ⟨z.1, by omega⟩)⟩
        by_cases g4 : M 1149 s 0 < 2
        · rw [if_pos g4] at c1
          rw [if_pos (show M 1149 s 0 ≤ 1 by omega)] at c2
          exact go 50 (Or.inl rfl) c1 c2
        · rw [if_neg g4] at c1
          rw [if_neg (show ¬ M 1149 s 0 ≤ 1 by omega)] at c2
          by_cases g5 : M 1149 s 6 = 0
          · rw [if_pos g5] at c1 c2
            exact go 53 (Or.inr rfl) c1 c2
          · rw [if_neg g5] at c1 c2
            exact go 50 (Or.inl rfl) c1 c2
    · refine stay ?_ ?_
      · unfold qf_X1_beginSaying
        rw [if_pos sr, if_pos g1, if_neg g2]
      · unfold qf_X12_begin
        rw [if_pos sr, if_neg (show ¬ 0 ≤ K 2260 s 0 by omega), if_pos sr, if_pos (show 0 ≤ K 2261 s 0 by omega)]
  · refine stay ?_ ?_
    · unfold qf_X1_beginSaying
      rw [if_pos sr, if_neg g1]
    · unfold qf_X12_begin
      rw [if_pos sr, if_pos (show 0 ≤ K 2260 s 0 by omega)]
/-- what the stations' beginning may change at all -/
def BLC (M Z : qm) : Prop := ∀ e x y, ¬ (e = 1140 ∧ y = 1) → e ≠ 1158 → Z e x y = M e x y
theorem beg_all (h : ∀ s, 0 ≤ s → s < 8 → STN M K s) (hv : v = min 60 (M 1139 6 0)) : ∃ M' K', qf_X1_runBitTime_L37 20000 20000 0 M = some (.inr ((), M')) ∧ qf_X12_bitTime_L17 20000 20000 v 0 K = some (.inr ((), K')) ∧ (∀ s, 0 ≤ s → s < 8 → STN M' K' s) ∧ BLC M M' ∧ (∀ e x y, e ≠ 2260 → K' e x y = K e x y) ∧ ∀ s, 0 ≤ s → s < 8 → (M' 1140 s 1 = M 1140 s 1 ∨ (M' 1140 s 1 = 0 ∧ 50 ≤ M 1139 6 0)) := by
  obtain ⟨r, r', e1, e2, M', K', rfl, rfl, h1, h2, h3, h4⟩ := two_loop (f := fun s => qf_X1_runBitTime_L37_b 20000 s.1 s.2) (g := fun s => qf_X12_bitTime_L17_b 20000 s.1 s.2.1 s.2.2) (Q := fun (r : (Unit × qm) ⊕ (Unit × qm)) (r' : (Unit × qm) ⊕ (Unit × qm)) => ∃ M' K', r = .inr ((), M') ∧ r' = .inr ((), K') ∧ (∀ s, 0 ≤ s → s < 8 → STN M' K' s) ∧ BLC M M' ∧ (∀ e x y, e ≠ 2260 → K' e x y = K e x y) ∧ ∀ s, 0 ≤ s → s < 8 → (M' 1140 s 1 = M 1140 s 1 ∨ (M' 1140 s 1 = 0 ∧ 50 ≤ M 1139 6 0))) 8 (fun i a b => ∃ (p : Int) (Z W : qm), p = i ∧ a = (p, Z) ∧ b = (v, p, W) ∧ (∀ s, 0 ≤ s → s < 8 → STN Z W s) ∧ BLC M Z ∧ (∀ e x y, e ≠ 2260 → W e x y = K e x y) ∧ ∀ s, 0 ≤ s → s < 8 → ((p ≤ s ∧ Z 1140 s 1 = M 1140 s 1) ∨ (s < p ∧ (Z 1140 s 1 = M 1140 s 1 ∨ (Z 1140 s 1 = 0 ∧ 50 ≤ M 1139 6 0))))) (fun i a b i8 hI => by
      obtain ⟨p, Z, W, hp, rfl, rfl, h1, h2, h3, h4⟩ := hI
      obtain ⟨M', K', b1, b2, b3, b4, b5, b6⟩ := beg_one (v := v) (h1 p (by omega) (by omega)) (by omega) (by omega) (by rw [h2 1139 6 0 (by omega) (by decide)]; exact hv)
      refine ⟨(p + 1, M'), (v, p + 1, K'), ?_, ?_, p + 1, M', K', by omega, rfl, rfl, fun s s0 s1 => ?_, fun e x y z1 z2 => ?_, fun e x y z => ?_, fun s s0 s1 => ?_⟩
      · show qf_X1_runBitTime_L37_b 20000 p Z = _
        unfold qf_X1_runBitTime_L37_b
        rw [if_neg (show ¬ (8 : Int) ≤ p by omega), b1, w32_id (x := p + 1) (by omega) (by omega)]
        rfl
      · show qf_X12_bitTime_L17_b 20000 v p W = _
        unfold qf_X12_bitTime_L17_b
        rw [if_neg (show ¬ (8 : Int) ≤ p by omega), b2, w32_id (x := p + 1) (by omega) (by omega)]
        rfl
      · by_cases e : s = p
        · rw [e]
          exact b3
        · exact stn_o (h1 s s0 s1) (fun j => b4 _ _ _ (by omega) (by omega)) (fun j => b4 _ _ _ (by omega) (by omega)) (fun j => b4 _ _ _ (by omega) (by omega)) (fun b _ _ _ _ => b5 _ _ _ (by omega)) (fun i _ _ => b5 _ _ _ (by omega))
      · rw [b4 e x y (by omega) (by omega)]
        exact h2 e x y z1 z2
      · rw [b5 e x y (by omega)]
        exact h3 e x y z
      · by_cases e : s = p
        · rw [e] at s0 s1 ⊢
          have q := h4 p s0 s1
          rw [h2 1139 6 0 (by omega) (by decide)] at b6
          refine Or.inr ⟨by omega, ?_⟩
          rcases q with ⟨_, q⟩ | ⟨q, _⟩
          · rw [q] at b6
            exact b6
          · omega
        · rw [b4 1140 s 1 (by omega) (by omega)]
          rcases h4 s s0 s1 with ⟨q1, q2⟩ | ⟨q1, q2⟩
          · exact Or.inl ⟨by omega, q2⟩
          · exact Or.inr ⟨by omega, q2⟩) (fun a b hI => by
      obtain ⟨p, Z, W, hp, rfl, rfl, h1, h2, h3, h4⟩ := hI
      refine ⟨.inr ((), Z), .inr ((), W), ?_, ?_, Z, W, rfl, rfl, h1, h2, h3, fun s s0 s1 => ?_⟩
      · show qf_X1_runBitTime_L37_b 20000 p Z = _
        unfold qf_X1_runBitTime_L37_b
        rw [if_pos (show (8 : Int) ≤ p by omega)]
      · show qf_X12_bitTime_L17_b 20000 v p W = _
        unfold qf_X12_bitTime_L17_b
        rw [if_pos (show (8 : Int) ≤ p by omega)]
      · rcases h4 s s0 s1 with ⟨q1, q2⟩ | ⟨q1, q2⟩
        · exact Or.inl q2
        · exact q2) 8 0 20000 20000 (0, M) (v, 0, K) rfl (by omega) (by omega) ⟨0, M, K, rfl, rfl, rfl, h, fun _ _ _ _ _ => rfl, fun _ _ _ _ => rfl, fun s s0 s1 => Or.inl ⟨s0, rfl⟩⟩
  exact ⟨M', K', e1, e2, h1, h2, h3, h4⟩
end BUc
