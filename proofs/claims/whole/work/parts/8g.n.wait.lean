/-! ===== the bus: stations end their waiting ===== -/
section BUn
variable {M K M' K' M1 K1 Ka Z A W : qm} {a b i j k v w x y s t I β R u c E : Int} {n m r : Nat} {f g : Int → Int}
theorem shift_K (s0 : 0 ≤ s) (s1 : s < 8) (hq : K 2258 s 0 = k) (k0 : 0 ≤ k) (k1 : k ≤ 5) : ∃ Y, qf_X12_look_L110 20000 20000 s (144 * s) K = some (.inr ((), Y)) ∧ (∀ e x y, ¬ (e = 2259 ∧ 144 * s ≤ x ∧ x < 144 * s + 24 * k ∧ y = 0) → Y e x y = K e x y) ∧ ∀ x, 144 * s ≤ x → x < 144 * s + 24 * k → Y 2259 x 0 = K 2259 (x + 24) 0 := by
  obtain ⟨o, e1, Y, rfl, y1, y2⟩ : qW (qf_X12_look_L110 20000 20000 s (144 * s) K) (fun o => ∃ Y, o = .inr ((), Y) ∧ (∀ e x y, ¬ (e = 2259 ∧ 144 * s ≤ x ∧ x < 144 * s + 24 * k ∧ y = 0) → Y e x y = K e x y) ∧ ∀ x, 144 * s ≤ x → x < 144 * s + 24 * k → Y 2259 x 0 = K 2259 (x + 24) 0) := by
    unfold qf_X12_look_L110
    refine qW_for (24 * k) (fun i r => ∃ Y, r = (s, 144 * s + i, Y) ∧ (∀ e x y, ¬ (e = 2259 ∧ 144 * s ≤ x ∧ x < 144 * s + i ∧ y = 0) → Y e x y = K e x y) ∧ ∀ x, 144 * s ≤ x → x < 144 * s + i → Y 2259 x 0 = K 2259 (x + 24) 0) ?_ ?_ ⟨K, by rw [Int.add_zero], fun _ _ _ _ => rfl, fun x x0 x1 => by omega⟩ (by omega) (by omega)
    · rintro i _ i0 i1 ⟨Y, rfl, h1, h2⟩
      show qW (qf_X12_look_L110_b 20000 s (144 * s + i) Y) _
      unfold qf_X12_look_L110_b qbnd
      rw [if_pos (show 0 ≤ s ∧ s < 8 from ⟨s0, s1⟩), h1 2258 s 0 (by omega), hq, w32_id (x := 144 * s) (by omega) (by omega), w32_id (x := 24 * k) (by omega) (by omega), w32_id (x := 144 * s + 24 * k) (by omega) (by omega), if_neg (show ¬ 144 * s + 24 * k ≤ 144 * s + i by omega), w32_id (x := 144 * s + i + 24) (by omega) (by omega), if_pos (show 0 ≤ 144 * s + i + 24 ∧ 144 * s + i + 24 < 1152 by omega), if_pos (show 0 ≤ 144 * s + i ∧ 144 * s + i < 1152 by omega), h1 2259 (144 * s + i + 24) 0 (by omega), w32_id (x := 144 * s + i + 1) (by omega) (by omega), show 144 * s + i + 1 = 144 * s + (i + 1) by omega]
      refine qW_some ⟨_, rfl, fun e x y z => ?_, fun x x0 x1 => ?_⟩
      · rw [qw_ap, if_neg (by omega)]
        exact h1 e x y (by omega)
      · by_cases e : x = 144 * s + i
        · rw [e]
          exact qw_s
        · rw [qw_i e]
          exact h2 x x0 (by omega)
    · rintro _ ⟨Y, rfl, h1, h2⟩
      show qW (qf_X12_look_L110_b 20000 s (144 * s + 24 * k) Y) _
      unfold qf_X12_look_L110_b
      rw [if_pos (show 0 ≤ s ∧ s < 8 from ⟨s0, s1⟩), h1 2258 s 0 (by omega), hq, w32_id (x := 144 * s) (by omega) (by omega), w32_id (x := 24 * k) (by omega) (by omega), w32_id (x := 144 * s + 24 * k) (by omega) (by omega), if_pos (Int.le_refl _)]
      exact qW_some ⟨Y, rfl, h1, h2⟩
  exact ⟨Y, e1, y1, y2⟩
def WFC (M Z : qm) (s : Int) : Prop := ∀ e x y, ¬ (e = 1140 ∧ x = s ∧ (y = 0 ∨ y = 2 ∨ y = 3 ∨ y = 4)) → ¬ (e = 1149 ∧ x = s) → Z e x y = M e x y
def WFK (K Z : qm) (s : Int) : Prop := ∀ e x y, ¬ ((e = 2258 ∨ e = 2261 ∨ e = 2264 ∨ e = 2265) ∧ x = s) → ¬ (e = 2259 ∧ 144 * s ≤ x ∧ x < 144 * s + 144) → Z e x y = K e x y
/-- the first telegram is dropped: a station again -/
theorem drop_stn (h : STN M K s) (s0 : 0 ≤ s) (s1 : s < 8) (hw : 0 ≤ M 1140 s 2) (fM : WFC M M' s) (fK : WFK K K' s) (m0 : M' 1140 s 0 = M 1140 s 0 - 1) (k0 : K' 2258 s 0 = M 1140 s 0 - 1) (m2 : M' 1140 s 2 = -1) (k2 : K' 2261 s 0 = -1) (c3 : K' 2264 s 0 = M' 1140 s 3) (c4 : K' 2265 s 0 = M' 1140 s 4) (hq : ∀ j, 0 ≤ j → j < 35 → M' 1149 s j = M 1149 s (j + 7)) (ht : ∀ x, 144 * s ≤ x → x < 144 * s + 24 * (M 1140 s 0 - 1) → K' 2259 x 0 = K 2259 (x + 24) 0) : STN M' K' s := by
  have qp := h.ws hw
  have q6 := h.q6
  have ns : M 1140 s 1 = -1 := by
    by_cases g : 0 ≤ M 1140 s 1
    · have := (h.sp g).2.1
      omega
    · have := h.s0
      omega
  have m1 : M' 1140 s 1 = -1 := (fM _ _ _ (by omega) (by omega)).trans ns
  have eq : ∀ k, 0 ≤ k → k < M 1140 s 0 - 1 → ∀ i, 0 ≤ i → i < 7 → qC M' s k i = qC M s (k + 1) i := fun k k0 k1 i i0 i1 => by
    show M' 1149 s (7 * k + i) = M 1149 s (7 * (k + 1) + i)
    rw [hq _ (by omega) (by omega), show 7 * k + i + 7 = 7 * (k + 1) + i by omega]
  refine ⟨by omega, by omega, by omega, ?_, by omega, by omega, by omega, ⟨c3, c4, ?_⟩, ?_, ?_, ?_, fun k k0' k1' => ?_, fun z => by omega, fun z => by omega, fun _ z => ?_⟩
  · rw [fK _ _ _ (by omega) (by omega), m1, h.sy]
    exact ns
  · rw [fK _ _ _ (by omega) (by omega), fM _ _ _ (by omega) (by omega)]
    exact h.ct.2.2
  · rw [fK _ _ _ (by omega) (by omega), fM _ _ _ (by omega) (by omega)]
    exact h.ad
  · rw [fK _ _ _ (by omega) (by omega), fM _ _ _ (by omega) (by omega)]
    exact h.bs
  · rw [fK 2262 _ _ (by omega) (by omega), fK 2263 _ _ (by omega) (by omega), fM 1140 s 8 (by omega) (by omega), fM 1140 s 9 (by omega) (by omega)]
    exact h.an
  · obtain ⟨h1, h2, h3⟩ := h.qu (k + 1) (by omega) (by omega)
    have e := eq k k0' (by omega)
    have ok := qOK_x e h1
    refine ⟨ok, fun _ => (e 6 (by decide) (by decide)).trans (h2 (by omega)), ?_⟩
    -- the row lies 24 lower
    have t1 : tgIn (fun e x y => if e = 2259 ∧ y = 0 then K 2259 (x + 24) 0 else K e x y) (qC M s (k + 1)) (144 * s + 24 * k) := by
      obtain ⟨a1, a2, a3, a4⟩ := h3
      refine ⟨fun j j0 j1 => ?_, ?_, ?_, ?_⟩
      · show (if (2259 : Nat) = 2259 ∧ (0 : Int) = 0 then K 2259 (144 * s + 24 * k + j + 24) 0 else _) = _
        rw [if_pos ⟨rfl, rfl⟩, show 144 * s + 24 * k + j + 24 = 144 * s + 24 * (k + 1) + j by omega]
        exact a1 j j0 j1
      · show (if (2259 : Nat) = 2259 ∧ (0 : Int) = 0 then K 2259 (144 * s + 24 * k + 21 + 24) 0 else _) = _
        rw [if_pos ⟨rfl, rfl⟩, show 144 * s + 24 * k + 21 + 24 = 144 * s + 24 * (k + 1) + 21 by omega]
        exact a2
      · show (if (2259 : Nat) = 2259 ∧ (0 : Int) = 0 then K 2259 (144 * s + 24 * k + 22 + 24) 0 else _) = _
        rw [if_pos ⟨rfl, rfl⟩, show 144 * s + 24 * k + 22 + 24 = 144 * s + 24 * (k + 1) + 22 by omega]
        exact a3
      · show (if (2259 : Nat) = 2259 ∧ (0 : Int) = 0 then K 2259 (144 * s + 24 * k + 23 + 24) 0 else _) = _
        rw [if_pos ⟨rfl, rfl⟩, show 144 * s + 24 * k + 23 + 24 = 144 * s + 24 * (k + 1) + 23 by omega]
        exact a4
    refine tgIn_x t1 (fun i i0 i1 => ?_) e h1
    show K' 2259 i 0 = (if (2259 : Nat) = 2259 ∧ (0 : Int) = 0 then K 2259 (i + 24) 0 else _)
    rw [if_pos ⟨rfl, rfl⟩]
    exact ht i (by omega) (by omega)
  · rw [eq 0 (by omega) (by omega) 6 (by decide) (by decide)]
    have h2 := (h.qu (0 + 1) (by omega) (by omega)).2.1 (by decide)
    rw [h2]
    decide
theorem wait_one (h : STN M K s) (s0 : 0 ≤ s) (s1 : s < 8) (hn : M 1139 5 0 = t) (hk : K 2252 0 0 = t) (t1 : 1 ≤ t) (ha : K 2252 26 0 = M 1139 18 0) (c0 : 0 ≤ K 2264 s 0) (c1 : K 2264 s 0 ≤ 200000) (d0 : 0 ≤ K 2265 s 0) (d1 : K 2265 s 0 ≤ 200000) : ∃ M' K', (if M 1140 s 2 = M 1139 5 0 then qf_X1_endWaiting 20000 s M else some ((), M)) = some ((), M') ∧ qf_X12_look 20000 s K = some ((), K') ∧ STN M' K' s ∧ WFC M M' s ∧ WFK K K' s ∧ K 2264 s 0 ≤ K' 2264 s 0 ∧ K' 2264 s 0 ≤ K 2264 s 0 + 1 ∧ K 2265 s 0 ≤ K' 2265 s 0 ∧ K' 2265 s 0 ≤ K 2265 s 0 + 1 := by
  have sr : 0 ≤ s ∧ s < 8 := ⟨s0, s1⟩
  by_cases g : M 1140 s 2 = t
  · have hw : 0 ≤ M 1140 s 2 := by omega
    have qp := h.ws hw
    have q6 := h.q6
    have qu := h.qu 0 (by omega) qp
    have ok := qu.1
    unfold qOK at ok
    rw [qC_0 (i := 6)] at ok
    have t23 : K 2259 (144 * s + 23) 0 = M 1149 s 6 := by
      have e := qu.2.2.2.2.2
      rw [show 144 * s + 24 * 0 + 23 = 144 * s + 23 by omega, qC_0] at e
      exact e
    have ct := h.ct
    obtain ⟨M3, hM3⟩ : ∃ X, qw M 1140 s 2 (-1) = X := ⟨_, rfl⟩
    obtain ⟨K5, hK5⟩ : ∃ X, qw K 2261 s 0 (-1) = X := ⟨_, rfl⟩
    have fM3 : ∀ e x y, ¬ (e = 1140 ∧ x = s ∧ y = 2) → M3 e x y = M e x y := fun e x y z => by rw [← hM3, qw_ap, if_neg z]
    have fK5 : ∀ e x y, ¬ (e = 2261 ∧ x = s) → K5 e x y = K e x y := fun e x y z => by rw [← hK5, qw_ap, if_neg (by omega)]
    have m2 : M3 1140 s 2 = -1 := by rw [← hM3]; exact qw_s
    have k2 : K5 2261 s 0 = -1 := by rw [← hK5]; exact qw_s
    -- the row is shortened
    have drop : ∀ (f : Int) (G : Int) , (f = 3 ∧ G = 1) ∨ (f = 4 ∧ G = 0) → qf_X12_look 20000 s K = qf_X12_look_J58 20000 s G K5 → (if M 1140 s 2 = M 1139 5 0 then qf_X1_endWaiting 20000 s M else some ((), M)) = (qf_X1_dropFirst 20000 s (qw M3 1140 s f (w32 (M3 1140 s f + 1)))).bind (fun r => some ((), r.2)) → ∃ M' K', (if M 1140 s 2 = M 1139 5 0 then qf_X1_endWaiting 20000 s M else some ((), M)) = some ((), M') ∧ qf_X12_look 20000 s K = some ((), K') ∧ STN M' K' s ∧ WFC M M' s ∧ WFK K K' s ∧ K 2264 s 0 ≤ K' 2264 s 0 ∧ K' 2264 s 0 ≤ K 2264 s 0 + 1 ∧ K 2265 s 0 ≤ K' 2265 s 0 ∧ K' 2265 s 0 ≤ K 2265 s 0 + 1 := fun f G hfG e1 e2 => by
      obtain ⟨Q, hQ⟩ : ∃ Q, M 1140 s 0 = Q := ⟨_, rfl⟩
      -- the reference
      obtain ⟨K9, hK9⟩ : ∃ X, qw K5 2264 s 0 (K 2264 s 0 + G) = X := ⟨_, rfl⟩
      obtain ⟨K12, hK12⟩ : ∃ X, qw K9 2265 s 0 (K 2265 s 0 + (1 - G)) = X := ⟨_, rfl⟩
      obtain ⟨K15, hK15⟩ : ∃ X, qw K12 2258 s 0 (Q - 1) = X := ⟨_, rfl⟩
      have f15 : ∀ e x y, ¬ ((e = 2258 ∨ e = 2261 ∨ e = 2264 ∨ e = 2265) ∧ x = s) → K15 e x y = K e x y := fun e x y z => by rw [← hK15, qw_ap, if_neg (by omega), ← hK12, qw_ap, if_neg (by omega), ← hK9, qw_ap, if_neg (by omega)]; exact fK5 _ _ _ (by omega)
      have k58 : K15 2258 s 0 = Q - 1 := by rw [← hK15]; exact qw_s
      have k61 : K15 2261 s 0 = -1 := by rw [← hK15, qw_a (by decide), ← hK12, qw_a (by decide), ← hK9, qw_a (by decide)]; exact k2
      have k64 : K15 2264 s 0 = K 2264 s 0 + G := by rw [← hK15, qw_a (by decide), ← hK12, qw_a (by decide), ← hK9]; exact qw_s
      have k65 : K15 2265 s 0 = K 2265 s 0 + (1 - G) := by rw [← hK15, qw_a (by decide), ← hK12]; exact qw_s
      obtain ⟨Y, eY, y1, y2⟩ := shift_K (K := K15) (k := Q - 1) s0 s1 k58 (by omega) (by omega)
      have eK : qf_X12_look_J58 20000 s G K5 = some ((), Y) := by
        have a1 : w32 (K5 2264 s 0 + G) = K 2264 s 0 + G := by rw [fK5 _ _ _ (by omega), w32_id (by omega) (by omega)]
        have a2 : w32 (K9 2265 s 0 + (1 - G)) = K 2265 s 0 + (1 - G) := by rw [← hK9, qw_a (by decide), fK5 _ _ _ (by omega), w32_id (by omega) (by omega)]
        have a3 : w32 (K12 2258 s 0 - 1) = Q - 1 := by rw [← hK12, qw_a (by decide), ← hK9, qw_a (by decide), fK5 _ _ _ (by omega), h.qd, hQ, w32_id (by omega) (by omega)]
        have last : (qf_X12_look_L110 20000 20000 s (w32 (144 * s)) K15).bind (fun r => (match r with | .inl o => some o | .inr (_, M22) => some ((), M22))) = some ((), Y) := by
          rw [w32_id (x := 144 * s) (by omega) (by omega), eY]
          rfl
        have j92 : ∀ z, w32 (K9 2265 s 0 + z) = K 2265 s 0 + (1 - G) → qf_X12_look_J92 20000 s s (K9 2265 s 0) z K9 = some ((), Y) := fun z hz => by
          unfold qf_X12_look_J92 qbnd
          rw [if_pos sr, hz]
          (try dsimp only)
          rw [hK12, if_pos sr, if_pos sr, a3, hK15]
          exact last
        rcases hfG with ⟨_, hG⟩ | ⟨_, hG⟩
        · rw [hG] at a1 a2 hK9 j92 ⊢
          unfold qf_X12_look_J58 qf_X12_look_J74 qbnd
          rw [if_pos sr, if_neg (show ¬ (1 : Int) = 0 by decide), if_pos sr, a1]
          (try dsimp only)
          rw [hK9, if_pos sr, if_neg (show ¬ (1 : Int) = 0 by decide)]
          exact j92 0 a2
        · rw [hG] at a1 a2 hK9 j92 ⊢
          unfold qf_X12_look_J58 qf_X12_look_J74 qbnd
          rw [if_pos sr, if_pos (show (0 : Int) = 0 from rfl), if_pos sr, a1]
          (try dsimp only)
          rw [hK9, if_pos sr, if_pos (show (0 : Int) = 0 from rfl)]
          exact j92 1 a2
      -- the class
      obtain ⟨M13, hM13⟩ : ∃ X, qw M3 1140 s f (w32 (M3 1140 s f + 1)) = X := ⟨_, rfl⟩
      have f34 : f = 3 ∨ f = 4 := by omega
      have f13 : ∀ e x y, ¬ (e = 1140 ∧ x = s ∧ (y = 2 ∨ y = f)) → M13 e x y = M e x y := fun e x y z => by rw [← hM13, qw_ap, if_neg (by omega)]; exact fM3 _ _ _ (by omega)
      have m13f : M13 1140 s f = M 1140 s f + 1 := by
        rw [← hM13]
        refine Eq.trans qw_s ?_
        rw [fM3 _ _ _ (by omega)]
        rcases f34 with z | z
        · rw [z, ← ct.1, w32_id (by omega) (by omega)]
        · rw [z, ← ct.2.1, w32_id (by omega) (by omega)]
      obtain ⟨M4, hM4⟩ : ∃ X, qcp2 M13 1149 s 7 1149 s 0 35 = X := ⟨_, rfl⟩
      obtain ⟨M8, hM8⟩ : ∃ X, qw M4 1140 s 0 (Q - 1) = X := ⟨_, rfl⟩
      have f4 : ∀ e x y, ¬ (e = 1149 ∧ x = s) → M4 e x y = M13 e x y := fun e x y z => by rw [← hM4, qcp2_ap, if_neg (by omega)]
      have f8 : ∀ e x y, ¬ (e = 1140 ∧ x = s ∧ y = 0) → M8 e x y = M4 e x y := fun e x y z => by rw [← hM8, qw_ap, if_neg z]
      have eC : (qf_X1_dropFirst 20000 s M13).bind (fun r => some ((), r.2)) = some ((), M8) := by
        unfold qf_X1_dropFirst qbnd
        rw [if_pos sr]
        (try dsimp only)
        rw [hM4, if_pos sr, f4 1140 s 0 (by omega), f13 1140 s 0 (by omega), hQ, w32_id (x := Q - 1) (by omega) (by omega), hM8]
        rfl
      rw [hM13, eC] at e2
      have gM : WFC M M8 s := fun e x y z1 z2 => ((f8 e x y (by omega)).trans (f4 e x y z2)).trans (f13 e x y (by omega))
      have gK : WFK K Y s := fun e x y z1 z2 => (y1 e x y (by omega)).trans (f15 e x y z1)
      refine ⟨M8, Y, e2, e1.trans eK, drop_stn h s0 s1 hw gM gK ?_ ?_ ?_ ?_ ?_ ?_ (fun j j0 j1 => ?_) (fun x x0 x1 => ?_), gM, gK, ?_⟩
      · rw [hQ, ← hM8]
        exact qw_s
      · rw [hQ, y1 _ _ _ (by omega)]
        exact k58
      · rw [f8 _ _ _ (by omega), f4 _ _ _ (by omega), ← hM13, qw_ap, if_neg (by omega)]
        exact m2
      · rw [y1 _ _ _ (by omega)]
        exact k61
      · rw [y1 _ _ _ (by omega), k64, f8 _ _ _ (by omega), f4 _ _ _ (by omega)]
        rcases hfG with ⟨z1, z2⟩ | ⟨z1, z2⟩
        · rw [z1] at m13f
          rw [m13f, z2, ct.1]
        · rw [f13 _ _ _ (by omega), z2, ct.1, Int.add_zero]
      · rw [y1 _ _ _ (by omega), k65, f8 _ _ _ (by omega), f4 _ _ _ (by omega)]
        rcases hfG with ⟨z1, z2⟩ | ⟨z1, z2⟩
        · rw [f13 _ _ _ (by omega), z2, ct.2.1]
          omega
        · rw [z1] at m13f
          rw [m13f, z2, ct.2.1]
          omega
      · rw [f8 _ _ _ (by omega), ← hM4, qcp2_ap, if_pos (by omega), show j - 0 + 7 = j + 7 by omega]
        exact f13 _ _ _ (by omega)
      · rw [hQ] at x1
        rw [y2 x x0 x1]
        exact f15 _ _ _ (by omega)
      · rw [y1 2264 _ _ (by omega), y1 2265 _ _ (by omega), k64, k65]
        omega
    have lk : qf_X12_look 20000 s K = (if M 1139 18 0 = 204 then qf_X12_look_J58 20000 s 1 K5 else if M 1149 s 6 = 4 then qf_X12_look_J58 20000 s 0 K5 else some ((), K5)) := by
      unfold qf_X12_look qf_X12_look_J36 qbnd
      rw [if_pos sr, h.wt, hk, if_pos g, if_pos sr]
      (try dsimp only)
      rw [hK5, fK5 2252 26 0 (by omega), ha, w32_id (x := 144 * s) (by omega) (by omega), w32_id (x := 144 * s + 23) (by omega) (by omega), if_pos (show 0 ≤ 144 * s + 23 ∧ 144 * s + 23 < 1152 by omega), fK5 2259 _ 0 (by omega), t23]
      rw [if_neg (show ¬ (1 : Int) = 0 by decide), if_pos (show (0 : Int) = 0 from rfl), if_pos (show 0 ≤ 144 * s + 23 ∧ 144 * s + 23 < 1152 by omega)]
    have ew : (if M 1140 s 2 = M 1139 5 0 then qf_X1_endWaiting 20000 s M else some ((), M)) = (if M 1139 18 0 = 204 then (qf_X1_dropFirst 20000 s (qw M3 1140 s 3 (w32 (M3 1140 s 3 + 1)))).bind (fun r => some ((), r.2)) else if M 1149 s 6 < 4 then some ((), M3) else (qf_X1_dropFirst 20000 s (qw M3 1140 s 4 (w32 (M3 1140 s 4 + 1)))).bind (fun r => some ((), r.2))) := by
      rw [if_pos (g.trans hn.symm)]
      unfold qf_X1_endWaiting qbnd
      rw [if_pos sr]
      (try dsimp only)
      rw [hM3, fM3 1139 18 0 (by omega), fM3 1149 s 6 (by omega), if_pos sr]
    by_cases ga : M 1139 18 0 = 204
    · rw [if_pos ga] at lk ew
      exact drop 3 1 (Or.inl ⟨rfl, rfl⟩) lk ew
    · rw [if_neg ga] at lk ew
      by_cases g4 : M 1149 s 6 = 4
      · rw [if_pos g4] at lk
        rw [if_neg (show ¬ M 1149 s 6 < 4 by omega)] at ew
        exact drop 4 0 (Or.inr ⟨rfl, rfl⟩) lk ew
      · rw [if_neg g4] at lk
        rw [if_pos (show M 1149 s 6 < 4 by omega)] at ew
        have ns : M 1140 s 1 = -1 := by
          by_cases z : 0 ≤ M 1140 s 1
          · have := (h.sp z).2.1
            omega
          · have := h.s0
            omega
        have m1 : M3 1140 s 1 = -1 := (fM3 _ _ _ (by omega)).trans ns
        have eq : ∀ k, qC M3 s k = qC M s k := fun k => funext fun i => fM3 _ _ _ (by omega)
        refine ⟨M3, K5, ew, lk, ⟨?_, ?_, ?_, ?_, by omega, by omega, by omega, ?_, ?_, ?_, ?_, fun k k0' k1' => ?_, fun z => by omega, fun z => by omega, fun _ _ => ?_⟩, fun e x y z1 z2 => fM3 e x y (by omega), fun e x y z1 z2 => fK5 e x y (by omega), ?_⟩
        · rw [fK5 _ _ _ (by omega), fM3 _ _ _ (by omega)]
          exact h.qd
        · rw [fM3 _ _ _ (by omega)]
          exact h.q0
        · rw [fM3 _ _ _ (by omega)]
          exact h.q6
        · rw [fK5 _ _ _ (by omega), fM3 _ _ _ (by omega)]
          exact h.sy
        · rw [fK5 2264 _ _ (by omega), fK5 2265 _ _ (by omega), fK5 2266 _ _ (by omega), fM3 1140 s 3 (by omega), fM3 1140 s 4 (by omega), fM3 1140 s 5 (by omega)]
          exact h.ct
        · rw [fK5 _ _ _ (by omega), fM3 _ _ _ (by omega)]
          exact h.ad
        · rw [fK5 _ _ _ (by omega), fM3 _ _ _ (by omega)]
          exact h.bs
        · rw [fK5 2262 _ _ (by omega), fK5 2263 _ _ (by omega), fM3 1140 s 8 (by omega), fM3 1140 s 9 (by omega)]
          exact h.an
        · rw [fM3 _ _ _ (by omega)] at k1'
          rw [eq]
          obtain ⟨h1, h2, h3⟩ := h.qu k k0' k1'
          exact ⟨h1, h2, tgIn_x h3 (fun i _ _ => fK5 _ _ _ (by omega)) (fun _ _ _ => rfl) h1⟩
        · rw [eq, qC_0]
          omega
        · rw [fK5 2264 _ _ (by omega), fK5 2265 _ _ (by omega)]
          omega
  · refine ⟨M, K, ?_, ?_, h, fun _ _ _ _ _ => rfl, fun _ _ _ _ _ => rfl, by omega, by omega, by omega, by omega⟩
    · rw [if_neg (by rw [hn]; exact g)]
    · unfold qf_X12_look
      rw [if_pos sr, h.wt, hk, if_neg g]
end BUn
