section WDe
variable {M K A Z D : qm} {T : Int → Int} {L p q e e' k k' v v' i j x y z c n w t m : Int} {b : Nat} {N : Nat}
def kr (k : Int) : Int := if k = 48 then 1 else if k = 97 then 2 else if k = 101 then 0 else if k = 108 then 316 else if k = 103 then 318 else k
/-- the word at hand, behind one step from p with w words -/
def STP1 (T : Int → Int) (L q w : Int) (W : qm) : Prop := W 2184 30 0 = w + 1 ∧ ∃ k v e, WD2 T L q k v e ∧ W 2184 27 0 = e ∧ ((k ≠ 63 ∧ w < 120 ∧ W 2184 31 0 = 0 ∧ W 2184 28 0 = kr k ∧ (k = 48 ∨ k = 97 → W 2184 29 0 = v)) ∨ ((k = 63 ∨ 120 ≤ w) ∧ W 2184 31 0 = 1))
/-- signs -/
theorem stepg_K (hS : D 2184 1 0 = L) (hT : ∀ i, 0 ≤ i → i < L → D 2185 i 0 = T i) (L2 : L ≤ 800) (q0 : 0 ≤ q) (q1 : q < L) (ha : D 2184 26 0 = q) (hn : D 2184 27 0 = q) (hw : D 2184 30 0 = w + 1) (d : ¬ isD (T q)) (l : ¬ isL (T q)) : ∃ W, (if T q = 60 then qf_X15_step_J298 20000 (T q) D else if T q = 62 then qf_X15_step_J298 20000 (T q) D else qf_X15_step_J317 20000 (T q) D) = some ((), W) ∧ (∀ b x y, ¬ (b = 2184 ∧ (x = 27 ∨ x = 28 ∨ x = 31)) → W b x y = D b x y) ∧ STP1 T L q w W := by
  have fr : ∀ k n r b x y, ¬ (b = 2184 ∧ (x = 27 ∨ x = 28 ∨ x = 31)) → qw (qw (qw D 2184 28 0 k) 2184 27 0 n) 2184 31 0 r b x y = D b x y := fun k n r b x y h => by
    rw [qw_ap, if_neg (by omega), qw_ap, if_neg (by omega), qw_ap, if_neg (by omega)]
  have j350 : ∀ t m, 0 ≤ m → m ≤ 2 → ∃ r, qf_X15_step_J350 20000 (T q) (qw D 2184 28 0 t 2184 27 0) m (qw D 2184 28 0 t) = some ((), qw (qw (qw D 2184 28 0 t) 2184 27 0 (q + m)) 2184 31 0 r) ∧ ((isG (T q) ∧ w < 120 ∧ r = 0) ∨ (¬ (isG (T q) ∧ w < 120) ∧ r = 1)) := fun t m m0 m1 => by
    have hz : qw (qw D 2184 28 0 t) 2184 27 0 (q + m) 2184 30 0 = w + 1 := (qw_i (by decide)).trans ((qw_i (by decide)).trans hw)
    unfold qf_X15_step_J350 qbnd
    (try dsimp only)
    rw [show qw D 2184 28 0 t 2184 27 0 = q from (qw_i (by decide)).trans hn, w32_id (x := q + m) (by omega) (by omega), gsign_K]
    simp only [Option.bind_some]
    unfold qf_X15_step_J367
    by_cases s : isG (T q)
    · rw [b01_t s, if_neg (by decide : ¬ (1 : Int) = 0)]
      have f := fin_K (t := 0) (Or.inl rfl) hz
      by_cases g : w < 120
      · rw [if_pos (show (0 : Int) = 0 ∧ w < 120 from ⟨rfl, g⟩)] at f
        exact ⟨0, f, Or.inl ⟨s, g, rfl⟩⟩
      · rw [if_neg (show ¬ ((0 : Int) = 0 ∧ w < 120) from fun z => g z.2)] at f
        exact ⟨1, f, Or.inr ⟨fun z => g z.2, rfl⟩⟩
    · rw [b01_f s, if_pos (rfl : (0 : Int) = 0)]
      have f := fin_K (t := 1) (Or.inr rfl) hz
      rw [if_neg (show ¬ ((1 : Int) = 0 ∧ w < 120) from fun z => by omega)] at f
      exact ⟨1, f, Or.inr ⟨fun z => s z.1, rfl⟩⟩
  have one : ¬ dbl T L q → ∃ W, qf_X15_step_J318 20000 (T q) 0 D = some ((), W) ∧ (∀ b x y, ¬ (b = 2184 ∧ (x = 27 ∨ x = 28 ∨ x = 31)) → W b x y = D b x y) ∧ STP1 T L q w W := fun nd => by
    unfold qf_X15_step_J318 qf_X15_step_J333 qbnd
    (try dsimp only)
    obtain ⟨r, e3, hr⟩ := j350 (T q) 1 (by decide) (by decide)
    rw [if_pos rfl, if_pos rfl, e3]
    refine ⟨_, rfl, fr _ _ _, (qw_i (by decide)).trans ((qw_i (by decide)).trans ((qw_i (by decide)).trans hw)), ?_⟩
    by_cases s : isG (T q)
    · refine ⟨T q, 0, q + 1, Or.inr (Or.inr ⟨d, l, Or.inr ⟨nd, rfl, Or.inl ⟨s, rfl⟩⟩⟩), (qw_i (by decide)).trans qw_s, ?_⟩
      rcases hr with ⟨_, g, rfl⟩ | ⟨g, rfl⟩
      · unfold isG at s
        refine Or.inl ⟨by omega, g, qw_s, ((qw_i (by decide)).trans ((qw_i (by decide)).trans qw_s)).trans ?_, fun z => by omega⟩
        unfold kr
        rw [if_neg (by omega), if_neg (by omega), if_neg (by omega), if_neg (by omega), if_neg (by omega)]
      · have g' : ¬ w < 120 := fun z => g ⟨s, z⟩
        exact Or.inr ⟨Or.inr (by omega), qw_s⟩
    · refine ⟨63, 0, q + 1, Or.inr (Or.inr ⟨d, l, Or.inr ⟨nd, rfl, Or.inr ⟨s, rfl⟩⟩⟩), (qw_i (by decide)).trans qw_s, ?_⟩
      rcases hr with ⟨s', g, rfl⟩ | ⟨g, rfl⟩
      · exact absurd s' s
      · exact Or.inr ⟨Or.inl rfl, qw_s⟩
  have two : (T q = 60 ∨ T q = 62) → ∃ W, qf_X15_step_J298 20000 (T q) D = some ((), W) ∧ (∀ b x y, ¬ (b = 2184 ∧ (x = 27 ∨ x = 28 ∨ x = 31)) → W b x y = D b x y) ∧ STP1 T L q w W := fun c6 => by
    unfold qf_X15_step_J298 qf_X15_step_J317
    rw [ha, w32_id (x := q + 1) (by omega) (by omega), charAt_K (by omega) (by omega) (by omega), hS]
    simp only [Option.bind_some]
    by_cases g : L ≤ q + 1
    · rw [if_pos g, if_neg (by decide)]
      exact one (fun z => by unfold dbl at z; omega)
    · rw [if_neg g, hT (q + 1) (by omega) (by omega)]
      by_cases g2 : T (q + 1) = 61
      · have s : isG (T q) := by
          unfold isG
          omega
        have db : dbl T L q := ⟨c6, by omega, g2⟩
        rw [if_pos g2]
        unfold qf_X15_step_J318 qf_X15_step_J333 qbnd
        (try dsimp only)
        obtain ⟨r, e3, hr⟩ := j350 (T q + 256) 2 (by decide) (by decide)
        rw [if_neg (by decide), if_neg (by decide), w32_id (x := T q + 256) (by omega) (by omega), e3]
        refine ⟨_, rfl, fr _ _ _, (qw_i (by decide)).trans ((qw_i (by decide)).trans ((qw_i (by decide)).trans hw)), ?_⟩
        have kk : ∃ k, ((T q = 60 ∧ k = 108) ∨ (T q = 62 ∧ k = 103)) ∧ kr k = T q + 256 := by
          rcases c6 with z | z
          · exact ⟨108, Or.inl ⟨z, rfl⟩, by rw [z]; decide⟩
          · exact ⟨103, Or.inr ⟨z, rfl⟩, by rw [z]; decide⟩
        obtain ⟨k, k1, k2⟩ := kk
        refine ⟨k, 0, q + 2, Or.inr (Or.inr ⟨d, l, Or.inl ⟨db, rfl, k1⟩⟩), (qw_i (by decide)).trans qw_s, ?_⟩
        rcases hr with ⟨_, g3, rfl⟩ | ⟨g3, rfl⟩
        · rw [k2]
          exact Or.inl ⟨by omega, g3, qw_s, (qw_i (by decide)).trans ((qw_i (by decide)).trans qw_s), fun z => by omega⟩
        · have g' : ¬ w < 120 := fun z => g3 ⟨s, z⟩
          exact Or.inr ⟨Or.inr (by omega), qw_s⟩
      · rw [if_neg g2]
        exact one (fun z => g2 z.2.2)
  by_cases c : T q = 60
  · rw [if_pos c]
    exact two (Or.inl c)
  · rw [if_neg c]
    by_cases c2 : T q = 62
    · rw [if_pos c2]
      exact two (Or.inr c2)
    · rw [if_neg c2]
      unfold qf_X15_step_J317
      exact one (fun z => by unfold dbl at z; omega)
/-- numbers and names -/
theorem stepn_K (hS : D 2184 1 0 = L) (hT : ∀ i, 0 ≤ i → i < L → D 2185 i 0 = T i) (L2 : L ≤ 800) (q0 : 0 ≤ q) (q1 : q < L) (ha : D 2184 26 0 = q) (hn : D 2184 27 0 = q) (hv : D 2184 29 0 = 0) (hw : D 2184 30 0 = w + 1) (d : isD (T q)) : ∃ W, (qf_X15_step_L100 20000 20000 (qw D 2184 28 0 1)).bind (fun r => (match r with | .inl o => some o | .inr (_, M70) => if (w32 ((M70 2184 27 0) - (M70 2184 26 0))) ≤ 9 then qf_X15_step_J194 20000 0 M70 else qf_X15_step_J194 20000 1 M70)) = some ((), W) ∧ (∀ b x y, ¬ (b = 2184 ∧ (x = 27 ∨ x = 28 ∨ x = 29 ∨ x = 31)) → W b x y = D b x y) ∧ STP1 T L q w W := by
  have o : ∀ b x y, ¬ (b = 2184 ∧ x = 28) → qw D 2184 28 0 1 b x y = D b x y := fun b x y h => by rw [qw_ap, if_neg (by omega)]
  obtain ⟨e, v, e1, h1, h2⟩ := numw_K (K := qw D 2184 28 0 1) (T := T) (q := q) ((o _ _ _ (by decide)).trans hS) (fun i i0 i1 => (o _ _ _ (by omega)).trans (hT i i0 i1)) L2 ((o _ _ _ (by decide)).trans hn) ((o _ _ _ (by decide)).trans ha) ((o _ _ _ (by decide)).trans hv) q0 (Int.le_of_lt q1)
  rw [e1]
  simp only [Option.bind_some]
  have r1 := h1.1
  have r2 := h1.2.1
  obtain ⟨Z, hZ⟩ : ∃ Z, stv (qw D 2184 28 0 1) v e = Z := ⟨_, rfl⟩
  rw [hZ]
  have z27 : Z 2184 27 0 = e := by rw [← hZ]; exact stv_27
  have z29 : Z 2184 29 0 = v := by rw [← hZ]; exact stv_29
  have z28 : Z 2184 28 0 = 1 := by rw [← hZ, stv_o (by omega)]; exact qw_s
  have zo : ∀ b x y, ¬ (b = 2184 ∧ (x = 27 ∨ x = 28 ∨ x = 29)) → Z b x y = D b x y := fun b x y h => by
    rw [← hZ, stv_o (by omega)]
    exact o b x y (by omega)
  have z30 : Z 2184 30 0 = w + 1 := (zo _ _ _ (by decide)).trans hw
  rw [z27, zo 2184 26 0 (by decide), ha, w32_id (x := e - q) (by omega) (by omega)]
  unfold qf_X15_step_J194
  have fr : ∀ r b x y, ¬ (b = 2184 ∧ (x = 27 ∨ x = 28 ∨ x = 29 ∨ x = 31)) → qw Z 2184 31 0 r b x y = D b x y := fun r b x y h => by
    rw [qw_ap, if_neg (by omega)]
    exact zo b x y (by omega)
  by_cases g : e - q ≤ 9
  · rw [if_pos g]
    refine ⟨_, fin_K (Or.inl rfl) z30, fr _, (qw_i (by decide)).trans z30, 48, v, e, Or.inl ⟨d, h1, Or.inl ⟨g, rfl, h2 g⟩⟩, (qw_i (by decide)).trans z27, ?_⟩
    by_cases g2 : w < 120
    · rw [if_pos (show (0 : Int) = 0 ∧ w < 120 from ⟨rfl, g2⟩)]
      exact Or.inl ⟨by decide, g2, qw_s, (qw_i (by decide)).trans (z28.trans (by decide)), fun _ => (qw_i (by decide)).trans z29⟩
    · rw [if_neg (show ¬ ((0 : Int) = 0 ∧ w < 120) from fun z => g2 z.2)]
      exact Or.inr ⟨Or.inr (by omega), qw_s⟩
  · rw [if_neg g]
    refine ⟨_, fin_K (Or.inr rfl) z30, fr _, (qw_i (by decide)).trans z30, 63, v, e, Or.inl ⟨d, h1, Or.inr ⟨by omega, rfl⟩⟩, (qw_i (by decide)).trans z27, ?_⟩
    rw [if_neg (show ¬ ((1 : Int) = 0 ∧ w < 120) from fun z => by omega)]
    exact Or.inr ⟨Or.inl rfl, qw_s⟩
theorem stepl_K (hS : D 2184 1 0 = L) (hT : ∀ i, 0 ≤ i → i < L → D 2185 i 0 = T i) (L2 : L ≤ 800) (q0 : 0 ≤ q) (q1 : q < L) (ha : D 2184 26 0 = q) (hn : D 2184 27 0 = q) (hv : D 2184 29 0 = 0) (hw : D 2184 30 0 = w + 1) (d : isL (T q)) : ∃ W, (qf_X15_step_L212 20000 20000 (qw D 2184 28 0 2)).bind (fun r => (match r with | .inl o => some o | .inr (_, M50) => if (w32 ((M50 2184 27 0) - (M50 2184 26 0))) ≤ 8 then qf_X15_step_J280 20000 0 M50 else qf_X15_step_J280 20000 1 M50)) = some ((), W) ∧ (∀ b x y, ¬ (b = 2184 ∧ (x = 27 ∨ x = 28 ∨ x = 29 ∨ x = 31)) → W b x y = D b x y) ∧ STP1 T L q w W := by
  have o : ∀ b x y, ¬ (b = 2184 ∧ x = 28) → qw D 2184 28 0 2 b x y = D b x y := fun b x y h => by rw [qw_ap, if_neg (by omega)]
  obtain ⟨e, v, e1, h1, h2⟩ := namw_K (K := qw D 2184 28 0 2) (T := T) (q := q) ((o _ _ _ (by decide)).trans hS) (fun i i0 i1 => (o _ _ _ (by omega)).trans (hT i i0 i1)) L2 ((o _ _ _ (by decide)).trans hn) ((o _ _ _ (by decide)).trans ha) ((o _ _ _ (by decide)).trans hv) q0 (Int.le_of_lt q1)
  rw [e1]
  simp only [Option.bind_some]
  have r1 := h1.1
  have r2 := h1.2.1
  obtain ⟨Z, hZ⟩ : ∃ Z, stv (qw D 2184 28 0 2) v e = Z := ⟨_, rfl⟩
  rw [hZ]
  have z27 : Z 2184 27 0 = e := by rw [← hZ]; exact stv_27
  have z29 : Z 2184 29 0 = v := by rw [← hZ]; exact stv_29
  have z28 : Z 2184 28 0 = 2 := by rw [← hZ, stv_o (by omega)]; exact qw_s
  have zo : ∀ b x y, ¬ (b = 2184 ∧ (x = 27 ∨ x = 28 ∨ x = 29)) → Z b x y = D b x y := fun b x y h => by
    rw [← hZ, stv_o (by omega)]
    exact o b x y (by omega)
  have z30 : Z 2184 30 0 = w + 1 := (zo _ _ _ (by decide)).trans hw
  rw [z27, zo 2184 26 0 (by decide), ha, w32_id (x := e - q) (by omega) (by omega)]
  unfold qf_X15_step_J280
  have fr : ∀ r b x y, ¬ (b = 2184 ∧ (x = 27 ∨ x = 28 ∨ x = 29 ∨ x = 31)) → qw Z 2184 31 0 r b x y = D b x y := fun r b x y h => by
    rw [qw_ap, if_neg (by omega)]
    exact zo b x y (by omega)
  by_cases g : e - q ≤ 8
  · rw [if_pos g]
    refine ⟨_, fin_K (Or.inl rfl) z30, fr _, (qw_i (by decide)).trans z30, 97, v, e, Or.inr (Or.inl ⟨d, h1, Or.inl ⟨g, rfl, h2 g⟩⟩), (qw_i (by decide)).trans z27, ?_⟩
    by_cases g2 : w < 120
    · rw [if_pos (show (0 : Int) = 0 ∧ w < 120 from ⟨rfl, g2⟩)]
      exact Or.inl ⟨by decide, g2, qw_s, (qw_i (by decide)).trans (z28.trans (by decide)), fun _ => (qw_i (by decide)).trans z29⟩
    · rw [if_neg (show ¬ ((0 : Int) = 0 ∧ w < 120) from fun z => g2 z.2)]
      exact Or.inr ⟨Or.inr (by omega), qw_s⟩
  · rw [if_neg g]
    refine ⟨_, fin_K (Or.inr rfl) z30, fr _, (qw_i (by decide)).trans z30, 63, v, e, Or.inr (Or.inl ⟨d, h1, Or.inr ⟨by omega, rfl⟩⟩), (qw_i (by decide)).trans z27, ?_⟩
    rw [if_neg (show ¬ ((1 : Int) = 0 ∧ w < 120) from fun z => by omega)]
    exact Or.inr ⟨Or.inl rfl, qw_s⟩
theorem step_K (hS : K 2184 1 0 = L) (hT : ∀ i, 0 ≤ i → i < L → K 2185 i 0 = T i) (L2 : L ≤ 800) (hp : K 2184 27 0 = p) (p0 : 0 ≤ p) (p1 : p ≤ L) (hw : K 2184 30 0 = w) (w0 : 0 ≤ w) (w1 : w ≤ 1000) (hr : K 2184 31 0 = 0) : ∃ W, qf_X15_step 20000 K = some ((), W) ∧ (∀ b x y, ¬ (b = 2184 ∧ 26 ≤ x ∧ x ≤ 31) → W b x y = K b x y) ∧ ∃ q, RUN (fun c => c = 32) T L p q ∧ W 2184 26 0 = q ∧ ((q = L ∧ W 2184 28 0 = 0 ∧ W 2184 31 0 = 0) ∨ (q < L ∧ STP1 T L q w W)) := by
  obtain ⟨q, e1, h1⟩ := skip_K hS hT L2 hp p0 p1
  have q0 := h1.1
  have q1 := h1.2.1
  unfold qf_X15_step
  rw [e1]
  simp only [Option.bind_some]
  unfold qf_X15_step_J38 qbnd
  (try dsimp only)
  rw [show qw K 2184 27 0 q 2184 27 0 = q from qw_s]
  obtain ⟨B, hB⟩ : ∃ B, qw (qw (qw (qw K 2184 27 0 q) 2184 26 0 q) 2184 28 0 0) 2184 29 0 0 = B := ⟨_, rfl⟩
  rw [hB]
  have fB : ∀ b x y, ¬ (b = 2184 ∧ 26 ≤ x ∧ x ≤ 29) → B b x y = K b x y := fun b x y h => by
    rw [← hB, qw_ap, if_neg (by omega), qw_ap, if_neg (by omega), qw_ap, if_neg (by omega), qw_ap, if_neg (by omega)]
  have B26 : B 2184 26 0 = q := by rw [← hB, qw_i (by decide), qw_i (by decide)]; exact qw_s
  have B27 : B 2184 27 0 = q := by rw [← hB, qw_i (by decide), qw_i (by decide), qw_i (by decide)]; exact qw_s
  have B28 : B 2184 28 0 = 0 := by rw [← hB, qw_i (by decide)]; exact qw_s
  have B29 : B 2184 29 0 = 0 := by rw [← hB]; exact qw_s
  have B31 : B 2184 31 0 = 0 := (fB _ _ _ (by decide)).trans hr
  have BS : B 2184 1 0 = L := (fB _ _ _ (by decide)).trans hS
  have B30 : B 2184 30 0 = w := (fB _ _ _ (by decide)).trans hw
  rw [B26, BS]
  by_cases g : q = L
  · rw [if_pos g]
    exact ⟨B, rfl, fun b x y h => fB b x y (by omega), q, h1, B26, Or.inl ⟨g, B28, B31⟩⟩
  · have q2 : q < L := by omega
    rw [if_neg g, if_pos (show 0 ≤ q ∧ q < 800 by omega), B30, w32_id (x := w + 1) (by omega) (by omega), (fB 2185 q 0 (by omega)).trans (hT q (by omega) q2), digit_K, letter_K]
    simp only [Option.bind_some]
    obtain ⟨D, hD⟩ : ∃ D, qw B 2184 30 0 (w + 1) = D := ⟨_, rfl⟩
    rw [hD]
    have fD : ∀ b x y, ¬ (b = 2184 ∧ x = 30) → D b x y = B b x y := fun b x y h => by rw [← hD, qw_ap, if_neg (by omega)]
    have D30 : D 2184 30 0 = w + 1 := by rw [← hD]; exact qw_s
    have DS : D 2184 1 0 = L := (fD _ _ _ (by decide)).trans BS
    have DT : ∀ i, 0 ≤ i → i < L → D 2185 i 0 = T i := fun i i0 i1 => (fD _ _ _ (by omega)).trans ((fB _ _ _ (by omega)).trans (hT i i0 i1))
    have D26 : D 2184 26 0 = q := (fD _ _ _ (by decide)).trans B26
    have D27 : D 2184 27 0 = q := (fD _ _ _ (by decide)).trans B27
    have D29 : D 2184 29 0 = 0 := (fD _ _ _ (by decide)).trans B29
    by_cases d : isD (T q)
    · rw [b01_t d, if_neg (by decide)]
      obtain ⟨W, e2, f2, h2⟩ := stepn_K DS DT L2 (by omega) q2 D26 D27 D29 D30 d
      refine ⟨W, e2, fun b x y h => ?_, q, h1, ?_, Or.inr ⟨q2, h2⟩⟩
      · rw [f2 b x y (by omega), fD b x y (by omega)]
        exact fB b x y (by omega)
      · exact (f2 _ _ _ (by decide)).trans D26
    · rw [b01_f d, if_pos rfl]
      by_cases l : isL (T q)
      · rw [b01_t l, if_neg (by decide)]
        obtain ⟨W, e2, f2, h2⟩ := stepl_K DS DT L2 (by omega) q2 D26 D27 D29 D30 l
        refine ⟨W, e2, fun b x y h => ?_, q, h1, ?_, Or.inr ⟨q2, h2⟩⟩
        · rw [f2 b x y (by omega), fD b x y (by omega)]
          exact fB b x y (by omega)
        · exact (f2 _ _ _ (by decide)).trans D26
      · rw [b01_f l, if_pos rfl]
        obtain ⟨W, e2, f2, h2⟩ := stepg_K DS DT L2 (by omega) q2 D26 D27 D30 d l
        refine ⟨W, e2, fun b x y h => ?_, q, h1, ?_, Or.inr ⟨q2, h2⟩⟩
        · rw [f2 b x y (by omega), fD b x y (by omega)]
          exact fB b x y (by omega)
        · exact (f2 _ _ _ (by decide)).trans D26
end WDe
