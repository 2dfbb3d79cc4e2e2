/-! ===== rules: the reference's row and its pile of signs ===== -/
section WDh
variable {M K A Z D W W' : qm} {T kd vl pl : Int → Int} {L p q e k v i j x y z c d n w t s a u ns pn p0 pa pm : Int} {row row' r r' : List (Int × Int)} {N m : Nat}
/-- the row stands from a on -/
def RAT (W : qm) : Int → List (Int × Int) → Prop
  | _, [] => True
  | a, x :: r => W 2196 a 0 = x.1 ∧ W 2197 a 0 = x.2 ∧ RAT W (a + 1) r
theorem rat_app : ∀ {r : List (Int × Int)} {a : Int}, RAT W a (r ++ r') ↔ RAT W a r ∧ RAT W (a + r.length) r' := by
  intro r
  induction r with
  | nil =>
    intro a
    show RAT W a r' ↔ True ∧ RAT W (a + ((0 : Nat) : Int)) r'
    rw [show a + ((0 : Nat) : Int) = a by omega]
    exact ⟨fun h => ⟨trivial, h⟩, fun h => h.2⟩
  | cons x r ih =>
    intro a
    show (W 2196 a 0 = x.1 ∧ W 2197 a 0 = x.2 ∧ RAT W (a + 1) (r ++ r')) ↔ (W 2196 a 0 = x.1 ∧ W 2197 a 0 = x.2 ∧ RAT W (a + 1) r) ∧ RAT W (a + ((r.length + 1 : Nat) : Int)) r'
    rw [ih, show a + ((r.length + 1 : Nat) : Int) = a + 1 + (r.length : Int) by omega]
    exact ⟨fun h => ⟨⟨h.1, h.2.1, h.2.2.1⟩, h.2.2.2⟩, fun h => ⟨h.1.1, h.1.2.1, h.1.2.2, h.2⟩⟩
theorem rat_fr : ∀ {r : List (Int × Int)} {a : Int}, (∀ i, a ≤ i → i < a + r.length → W' 2196 i 0 = W 2196 i 0 ∧ W' 2197 i 0 = W 2197 i 0) → RAT W a r → RAT W' a r := by
  intro r
  induction r with
  | nil => exact fun _ _ => trivial
  | cons x r ih =>
    intro a f h
    have l : ((x :: r).length : Int) = (r.length : Int) + 1 := by
      rw [List.length_cons]
      omega
    obtain ⟨h1, h2, h3⟩ := h
    have g := f a (Int.le_refl _) (by omega)
    exact ⟨g.1.trans h1, g.2.trans h2, ih (fun i i0 i1 => f i (by omega) (by omega)) h3⟩
/-- what reading a side changes -/
def SFR (K W : qm) (ns p0 : Int) : Prop := ∀ b x y, ¬ (b = 2184 ∧ ((26 ≤ x ∧ x ≤ 31) ∨ x = 34 ∨ x = 36)) → ¬ (b = 2205 ∧ p0 ≤ x) → ¬ ((b = 2196 ∨ b = 2197) ∧ 400 + ns ≤ x) → W b x y = K b x y
theorem sfr_t (h : SFR K W ns p0) (h2 : SFR W Z a q) (h3 : ns ≤ a) (h4 : p0 ≤ q) : SFR K Z ns p0 := fun b x y c1 c2 c3 => by
  rw [h2 b x y c1 (by omega) (by omega)]
  exact h b x y c1 c2 c3
theorem sfr_w (h : FW K W) : SFR K W ns p0 := fun b x y c1 _ _ => h b x y (by omega)
theorem sfr_r (h : SFR K W ns p0) (hr : RAT K a row) (ha : a + row.length ≤ 400 + ns) : RAT W a row := rat_fr (fun i i0 i1 => ⟨h _ _ _ (by omega) (by omega) (by omega), h _ _ _ (by omega) (by omega) (by omega)⟩) hr
theorem sfr_wd (h : SFR K W ns p0) (w : ∀ x, 26 ≤ x → x ≤ 31 → W 2184 x 0 = K 2184 x 0) (hr : RWD T L kd vl pl n j K) : RWD T L kd vl pl n j W := by
  obtain ⟨a1, a2, a3, a4, a5, a6⟩ := hr
  refine ⟨(h _ _ _ (by omega) (by omega) (by omega)).trans a1, fun i i0 i1 => (h _ _ _ (by omega) (by omega) (by omega)).trans (a2 i i0 i1), a3, a4, (w 26 (by omega) (by omega)).trans a5, ?_⟩
  rcases a6 with ⟨x, y⟩ | ⟨x, b1, b2, b3, b4⟩
  · exact Or.inl ⟨x, (w 31 (by omega) (by omega)).trans y⟩
  · refine Or.inr ⟨x, (w 31 (by omega) (by omega)).trans b1, (w 28 (by omega) (by omega)).trans b2, fun z => (w 29 (by omega) (by omega)).trans (b3 z), fun z => ?_⟩
    obtain ⟨c1, c2, e, c3, c4⟩ := b4 z
    exact ⟨c1, (w 30 (by omega) (by omega)).trans c2, e, c3, (w 27 (by omega) (by omega)).trans c4⟩
/-- the row grows -/
def EMT (K : qm) (ns k v : Int) : qm := qw (qw (qw K 2196 (400 + ns) 0 k) 2197 (400 + ns) 0 v) 2184 34 0 (ns + 1)
theorem emit_K (h : K 2184 34 0 = ns) (n0 : 0 ≤ ns) (n1 : ns < 400) : qf_X15_emit 20000 k v K = some ((), EMT K ns k v) := by
  unfold qf_X15_emit qbnd EMT
  (try dsimp only)
  rw [h, w32_id (x := 400 + ns) (by omega) (by omega), if_pos (show 0 ≤ 400 + ns ∧ 400 + ns < 800 by omega), show qw K 2196 (400 + ns) 0 k 2184 34 0 = ns from (qw_a (by decide)).trans h, w32_id (x := 400 + ns) (by omega) (by omega), if_pos (show 0 ≤ 400 + ns ∧ 400 + ns < 800 by omega), show qw (qw K 2196 (400 + ns) 0 k) 2197 (400 + ns) 0 v 2184 34 0 = ns from (qw_a (by decide)).trans ((qw_a (by decide)).trans h), w32_id (x := ns + 1) (by omega) (by omega)]
theorem emt_34 : EMT K ns k v 2184 34 0 = ns + 1 := qw_s
theorem emt_r : RAT (EMT K ns k v) (400 + ns) [(k, v)] := by
  refine ⟨?_, ?_, trivial⟩
  · exact (qw_a (by decide)).trans ((qw_a (by decide)).trans qw_s)
  · exact (qw_a (by decide)).trans qw_s
theorem emt_o {b : Nat} (h1 : ¬ (b = 2184 ∧ x = 34)) (h2 : ¬ ((b = 2196 ∨ b = 2197) ∧ x = 400 + ns)) : EMT K ns k v b x y = K b x y := by
  unfold EMT
  rw [qw_ap, if_neg (by omega), qw_ap, if_neg (by omega), qw_ap, if_neg (by omega)]
/-- one is taken off the pile -/
def POP (W : qm) (pn ns v : Int) : qm := EMT (qw W 2184 36 0 (pn - 1)) ns v 0
theorem pop_K (hp : W 2184 36 0 = pn) (p0 : 0 < pn) (p1 : pn ≤ 200) (hv : W 2205 (pn - 1) 0 = v) (v1 : 1 < v) (hi : 3 < v ∨ i = 1) (hn : W 2184 34 0 = ns) (n0 : 0 ≤ ns) (n1 : ns < 400) : qf_X15_unpile_L0 20000 (N + 1) i W = qf_X15_unpile_L0 20000 N i (POP W pn ns v) := by
  have j42 : qf_X15_unpile_J42 20000 i W = some (.inr (i, POP W pn ns v)) := by
    unfold qf_X15_unpile_J42 qbnd
    (try dsimp only)
    rw [hp, w32_id (x := pn - 1) (by omega) (by omega), show qw W 2184 36 0 (pn - 1) 2184 36 0 = pn - 1 from qw_s, if_pos (show 0 ≤ pn - 1 ∧ pn - 1 < 200 by omega), show qw W 2184 36 0 (pn - 1) 2205 (pn - 1) 0 = v from (qw_a (by decide)).trans hv, emit_K (K := qw W 2184 36 0 (pn - 1)) ((qw_i (by decide)).trans hn) n0 n1]
    rfl
  have st : qf_X15_unpile_L0_b 20000 i W = some (.inr (i, POP W pn ns v)) := by
    unfold qf_X15_unpile_L0_b
    rw [hp, if_neg (by omega), w32_id (x := pn - 1) (by omega) (by omega), if_pos (show 0 ≤ pn - 1 ∧ pn - 1 < 200 by omega), hv, if_neg (by omega), if_pos (show 0 ≤ pn - 1 ∧ pn - 1 < 200 by omega), j42]
    by_cases g : 3 < v
    · rw [if_pos g]
    · rw [if_neg g, if_neg (by omega)]
  show qloop _ (N + 1) (i, W) = _
  rw [qloop.eq_2]
  (try dsimp only)
  rw [st]
  rfl
theorem stop_K (hp : W 2184 36 0 = pn) (p1 : pn ≤ 200) (hs : pn ≤ 0 ∨ W 2205 (pn - 1) 0 ≤ 1 ∨ (W 2205 (pn - 1) 0 ≤ 3 ∧ 2 ≤ i)) : qf_X15_unpile_L0 20000 (N + 1) i W = some (.inr ((), W)) := by
  have st : qf_X15_unpile_L0_b 20000 i W = some (.inl (.inr ((), W))) := by
    unfold qf_X15_unpile_L0_b
    rw [hp]
    by_cases g : pn ≤ 0
    · rw [if_pos g]
    · rw [if_neg g, w32_id (x := pn - 1) (by omega) (by omega), if_pos (show 0 ≤ pn - 1 ∧ pn - 1 < 200 by omega)]
      by_cases g2 : W 2205 (pn - 1) 0 ≤ 1
      · rw [if_pos g2]
      · rw [if_neg g2, if_pos (show 0 ≤ pn - 1 ∧ pn - 1 < 200 by omega), if_neg (by omega), if_pos (by omega)]
  show qloop _ (N + 1) (i, W) = _
  rw [qloop.eq_2]
  (try dsimp only)
  rw [st]
/-- unpiling changes the row behind ns, its length, the height of the pile -/
def UFR (K W : qm) (ns : Int) : Prop := ∀ b x y, ¬ (b = 2184 ∧ (x = 34 ∨ x = 36)) → ¬ ((b = 2196 ∨ b = 2197) ∧ 400 + ns ≤ x) → W b x y = K b x y
theorem pop_u (n0 : a ≤ ns) : UFR W (POP W pn ns v) a := fun b x y h1 h2 => by
  unfold POP
  rw [emt_o (by omega) (by omega), qw_ap, if_neg (by omega)]
theorem ufr_t (h : UFR K W ns) (h2 : UFR W Z a) (h3 : ns ≤ a) : UFR K Z ns := fun b x y c1 c2 => by
  rw [h2 b x y c1 (by omega)]
  exact h b x y c1 c2
theorem ufr_s (h : UFR K W ns) : SFR K W ns p0 := fun b x y c1 _ c3 => h b x y (by omega) c3
theorem ufr_wd (h : UFR K W ns) (hr : RWD T L kd vl pl n j K) : RWD T L kd vl pl n j W := rwd_fr hr (fun b x y c => h b x y (by omega) (by omega))
/-- whatever lies on the pile -/
theorem unany_K (hi : i = 1 ∨ i = 2) : ∀ (m N : Nat) (W : qm), W 2184 36 0 = m → m ≤ 200 → 0 ≤ W 2184 34 0 → W 2184 34 0 + m ≤ 400 → m < N → ∃ Z, qf_X15_unpile_L0 20000 N i W = some (.inr ((), Z)) ∧ UFR W Z (W 2184 34 0) ∧ 0 ≤ Z 2184 34 0 ∧ Z 2184 34 0 + Z 2184 36 0 = W 2184 34 0 + W 2184 36 0 ∧ 0 ≤ Z 2184 36 0 ∧ Z 2184 36 0 ≤ m := by
  intro m
  induction m with
  | zero =>
    intro N W h0 _ h1 h2 hN
    obtain ⟨N, rfl⟩ : ∃ N', N = N' + 1 := ⟨N - 1, by omega⟩
    exact ⟨W, stop_K (pn := 0) h0 (by omega) (Or.inl (by omega)), fun _ _ _ _ _ => rfl, h1, rfl, by omega, by omega⟩
  | succ m ih =>
    intro N W h0 hm h1 h2 hN
    obtain ⟨N, rfl⟩ : ∃ N', N = N' + 1 := ⟨N - 1, by omega⟩
    obtain ⟨ns, hns⟩ : ∃ ns, W 2184 34 0 = ns := ⟨_, rfl⟩
    obtain ⟨v, hv⟩ : ∃ v, W 2205 (((m + 1 : Nat) : Int) - 1) 0 = v := ⟨_, rfl⟩
    by_cases g : v ≤ 1 ∨ (v ≤ 3 ∧ 2 ≤ i)
    · exact ⟨W, stop_K (pn := ((m + 1 : Nat) : Int)) h0 (by omega) (Or.inr (by rw [hv]; exact g)), fun _ _ _ _ _ => rfl, h1, rfl, by omega, by omega⟩
    · have s34 : POP W ((m + 1 : Nat) : Int) ns v 2184 34 0 = ns + 1 := emt_34
      have s36 : POP W ((m + 1 : Nat) : Int) ns v 2184 36 0 = m := by
        unfold POP
        rw [emt_o (by omega) (by omega), qw_s]
        omega
      obtain ⟨Z, e, u, z1, z2, z3, z4⟩ := ih N (POP W ((m + 1 : Nat) : Int) ns v) s36 (by omega) (by omega) (by omega) (by omega)
      rw [s34] at u z2
      rw [s36] at z2
      refine ⟨Z, (pop_K h0 (by omega) (by omega) hv (by omega) (by omega) hns (by omega) (by omega)).trans e, ?_, z1, by omega, z3, by omega⟩
      rw [hns]
      exact ufr_t (pop_u (Int.le_refl _)) u (by omega)
/-- what waits above p0: an addition pa, above it a multiplication pm; 0 is none -/
def opl (x : Int) : List (Int × Int) := if x = 0 then [] else [(x, 0)]
def on1 (x : Int) : Int := if x = 0 then 0 else 1
def PND (W : qm) (p0 pa pm : Int) : Prop := (pa = 0 ∨ pa = 2 ∨ pa = 3) ∧ (pm = 0 ∨ pm = 4 ∨ pm = 5) ∧ 0 ≤ p0 ∧ W 2184 36 0 = p0 + on1 pa + on1 pm ∧ (pa ≠ 0 → W 2205 p0 0 = pa) ∧ (pm ≠ 0 → W 2205 (p0 + on1 pa) 0 = pm)
theorem opl_l : ((opl x).length : Int) = on1 x := by
  unfold opl on1
  by_cases g : x = 0
  · rw [if_pos g, if_pos g]
    rfl
  · rw [if_neg g, if_neg g]
    rfl
theorem on1_0 : on1 0 = 0 := rfl
theorem on1_1 (h : x ≠ 0) : on1 x = 1 := if_neg h
theorem on1_b : 0 ≤ on1 x ∧ on1 x ≤ 1 := by
  unfold on1
  by_cases g : x = 0
  · rw [if_pos g]
    omega
  · rw [if_neg g]
    omega
theorem opl_0 : opl 0 = [] := rfl
theorem opl_1 (h : x ≠ 0) : opl x = [(x, 0)] := if_neg h
/-- multiplications go into the row -/
theorem un2_K (h : PND W p0 pa pm) (p9 : p0 ≤ 190) (hn : W 2184 34 0 = ns) (n0 : 0 ≤ ns) (n1 : ns < 390) (ht : pa ≠ 0 ∨ p0 = 0 ∨ W 2205 (p0 - 1) 0 ≤ 3) : ∃ Z, qf_X15_unpile 20000 2 W = some ((), Z) ∧ UFR W Z ns ∧ Z 2184 34 0 = ns + on1 pm ∧ RAT Z (400 + ns) (opl pm) ∧ PND Z p0 pa 0 := by
  obtain ⟨a1, a2, a3, a4, a5, a6⟩ := h
  have oa := on1_b (x := pa)
  have tp : W 2205 (p0 + on1 pa - 1) 0 ≤ 3 ∨ p0 + on1 pa ≤ 0 := by
    by_cases g : pa = 0
    · rw [g, on1_0]
      rcases ht with t | t | t
      · omega
      · right
        omega
      · left
        rw [show p0 + 0 - 1 = p0 - 1 by omega]
        exact t
    · left
      rw [on1_1 g, show p0 + 1 - 1 = p0 by omega, a5 g]
      omega
  unfold qf_X15_unpile
  by_cases g : pm = 0
  · rw [g, on1_0] at a4
    rw [stop_K (N := 19999) (i := 2) a4 (by omega) (by
      rw [show p0 + on1 pa + 0 - 1 = p0 + on1 pa - 1 by omega]
      omega), g]
    refine ⟨W, rfl, fun _ _ _ _ _ => rfl, by rw [on1_0]; omega, by rw [opl_0]; exact trivial, a1, Or.inl rfl, a3, by rw [on1_0]; exact a4, a5, fun z => absurd rfl z⟩
  · have b6 := a6 g
    rw [on1_1 g] at a4
    have s36 : POP W (p0 + on1 pa + 1) ns pm 2184 36 0 = p0 + on1 pa := by
      unfold POP
      rw [emt_o (by omega) (by omega), qw_s]
      omega
    have s25 : ∀ x, POP W (p0 + on1 pa + 1) ns pm 2205 x 0 = W 2205 x 0 := fun x => by
      unfold POP
      rw [emt_o (by omega) (by omega), qw_a (by decide)]
    rw [pop_K (N := 19999) (i := 2) (v := pm) a4 (by omega) (by omega) (by rw [show p0 + on1 pa + 1 - 1 = p0 + on1 pa by omega]; exact b6) (by omega) (by omega) hn n0 (by omega), stop_K (N := 19998) (i := 2) s36 (by omega) (by
      rw [s25]
      omega)]
    refine ⟨_, rfl, pop_u (Int.le_refl _), by rw [on1_1 g]; exact emt_34, by rw [opl_1 g]; exact emt_r, a1, Or.inl rfl, a3, by rw [on1_0, Int.add_zero]; exact s36, fun z => (s25 _).trans (a5 z), fun z => absurd rfl z⟩
/-- all that waits goes into the row -/
theorem un1_K (h : PND W p0 pa pm) (p9 : p0 ≤ 190) (hn : W 2184 34 0 = ns) (n0 : 0 ≤ ns) (n1 : ns < 390) (ht : p0 = 0 ∨ W 2205 (p0 - 1) 0 ≤ 1) : ∃ Z, qf_X15_unpile 20000 1 W = some ((), Z) ∧ UFR W Z ns ∧ Z 2184 34 0 = ns + on1 pm + on1 pa ∧ RAT Z (400 + ns) (opl pm ++ opl pa) ∧ Z 2184 36 0 = p0 := by
  obtain ⟨a1, a2, a3, a4, a5, a6⟩ := h
  have oa := on1_b (x := pa)
  -- the addition
  have add : ∀ (N : Nat) (X : qm) (a : Int), X 2184 36 0 = p0 + on1 pa → X 2184 34 0 = a → 0 ≤ a → a < 395 → (∀ x, X 2205 x 0 = W 2205 x 0) → ∃ Z, qf_X15_unpile_L0 20000 (N + 2) 1 X = some (.inr ((), Z)) ∧ UFR X Z a ∧ Z 2184 34 0 = a + on1 pa ∧ RAT Z (400 + a) (opl pa) ∧ Z 2184 36 0 = p0 := fun N X a h1 h2 h3 h4 h5 => by
    have tp : ∀ Y : qm, (∀ x, Y 2205 x 0 = W 2205 x 0) → p0 ≤ 0 ∨ Y 2205 (p0 - 1) 0 ≤ 1 ∨ (Y 2205 (p0 - 1) 0 ≤ 3 ∧ 2 ≤ (1 : Int)) := fun Y hY => by
      rw [hY]
      omega
    by_cases g : pa = 0
    · rw [g, on1_0, Int.add_zero] at h1
      refine ⟨X, stop_K (N := N + 1) h1 (by omega) (tp X h5), fun _ _ _ _ _ => rfl, by rw [g, on1_0]; omega, by rw [g, opl_0]; exact trivial, h1⟩
    · rw [on1_1 g] at h1
      have s36 : POP X (p0 + 1) a pa 2184 36 0 = p0 := by
        unfold POP
        rw [emt_o (by omega) (by omega), qw_s]
        omega
      have s25 : ∀ x, POP X (p0 + 1) a pa 2205 x 0 = W 2205 x 0 := fun x => by
        unfold POP
        rw [emt_o (by omega) (by omega), qw_a (by decide)]
        exact h5 x
      refine ⟨_, (pop_K (N := N + 1) (v := pa) h1 (by omega) (by omega) (by rw [show p0 + 1 - 1 = p0 by omega, h5]; exact a5 g) (by omega) (Or.inr rfl) h2 h3 (by omega)).trans (stop_K (N := N) s36 (by omega) (tp _ s25)), pop_u (Int.le_refl _), by rw [on1_1 g]; exact emt_34, by rw [opl_1 g]; exact emt_r, s36⟩
  unfold qf_X15_unpile
  by_cases g : pm = 0
  · rw [g, on1_0, Int.add_zero] at a4
    obtain ⟨Z, e, z1, z2, z3, z4⟩ := add 19998 W ns a4 hn n0 (by omega) (fun _ => rfl)
    rw [e, g, on1_0, opl_0, List.nil_append]
    exact ⟨Z, rfl, z1, by omega, z3, z4⟩
  · have b6 := a6 g
    rw [on1_1 g] at a4
    have s36 : POP W (p0 + on1 pa + 1) ns pm 2184 36 0 = p0 + on1 pa := by
      unfold POP
      rw [emt_o (by omega) (by omega), qw_s]
      omega
    have s25 : ∀ x, POP W (p0 + on1 pa + 1) ns pm 2205 x 0 = W 2205 x 0 := fun x => by
      unfold POP
      rw [emt_o (by omega) (by omega), qw_a (by decide)]
    obtain ⟨Z, e, z1, z2, z3, z4⟩ := add 19997 (POP W (p0 + on1 pa + 1) ns pm) (ns + 1) s36 emt_34 (by omega) (by omega) s25
    rw [pop_K (N := 19999) (i := 1) (v := pm) a4 (by omega) (by omega) (by rw [show p0 + on1 pa + 1 - 1 = p0 + on1 pa by omega]; exact b6) (by omega) (by omega) hn n0 (by omega), e, on1_1 g, opl_1 g]
    refine ⟨Z, rfl, ufr_t (pop_u (Int.le_refl _)) z1 (by omega), z2, ?_, z4⟩
    rw [rat_app]
    refine ⟨rat_fr (fun i i0 i1 => ?_) (emt_r (K := qw W 2184 36 0 (p0 + on1 pa + 1 - 1)) (ns := ns) (k := pm) (v := 0)), ?_⟩
    · have i1' : i < 400 + ns + 1 := i1
      exact ⟨z1 _ _ _ (by omega) (by omega), z1 _ _ _ (by omega) (by omega)⟩
    · rw [show 400 + ns + (([(pm, (0 : Int))].length : Nat) : Int) = 400 + (ns + 1) by rw [List.length_singleton]; omega]
      exact z3
end WDh
