/-! ===== the reference's portals ===== -/
section PH
variable {M K N A B C D D0 E F G H T V W K0 M0 : qm} {a b c d k n m p r s t u v x y h i j R S w l z e f g nn κ pos q : Int} {q' stt cnt o aa : Int → Int} {P : Int → Prop}
def KFR (K N : qm) : Prop := ∀ b i j, ¬ (2289 ≤ b ∧ b ≤ 2293) → b ≠ 2297 → ¬ (b = 2156 ∧ i = 10) → N b i j = K b i j
def PRK (M N : qm) (j l d t : Int) : Prop := (N 2289 j 0) = rmf M (lef M l t) ∧ (N 2290 j 0) = rmf M (rit M l t) ∧ (N 2291 j 0) = l ∧ (N 2292 j 0) = d ∧ (N 2293 j 0) = t ∧ (N 2297 j 0) = 2147483647
def RKI (M K N : qm) (aa : Int → Int) (f : Int) : Prop := KFR K N ∧ (N 2156 10 0) = f ∧ ∀ j, 0 ≤ j → j < f → PRK M N j (aa j / 144) (aa j / 24 % 6) (aa j % 24)
theorem kfr_n (h : FNW M K M0 K0 A D0 D E F G H C q' m p R stt cnt) (hN : KFR K N) : FNW M N M0 K0 A D0 D E F G H C q' m p R stt cnt := FNW_n h (fun b i j hb hb2 => hN b i j (by omega) (by omega) (fun z => hb2 z.1))
theorem low_e (h_ends : R_ends M K) (h : FNW M K M0 K0 A D0 D E F G H C q' m p R stt cnt) (hc : CUR M M0) (q0 : 0 ≤ q) (q1 : q < p) : qf_X16_low 20000 q K = some (loA M G (2 * q)) := by
  have fp := fnw_fpi h
  have so := fnw_sid h
  have kg := fnw_kag h
  have lo := loA_b h hc (s := 2 * q) (by omega) (by omega)
  have p5 := fp.1.2.2.2.2.2.2.2.1
  have o := fp.1.2.2.2.2.2.2.2.2.1 q q0 q1
  have m5 := fp.1.2.2.2.1
  obtain ⟨o0, o1, a0, ab, bm, oa, ob, _⟩ := o
  have pt := fp.1.2.1.2.1 _ a0 (by omega)
  have e2 : 2 * q / 2 = q := by omega
  have kl : (K 2176 q 0) = sL G (2 * q) := by
    have z := so.2.2.1 (2 * q)
    unfold sL at z ⊢
    rw [e2] at z ⊢
    exact z
  have kf : (K 2177 q 0) = (G 2177 q 0) := kg.1 _ _ (by omega)
  have kx : ∀ i, (K 2174 i 0) = (G 2174 i 0) := fun i => kg.1 _ _ (by omega)
  have ky : ∀ i, (K 2175 i 0) = (G 2175 i 0) := fun i => kg.1 _ _ (by omega)
  have elo : loA M G (2 * q) = (K 2174 (K 2177 q 0) 0) - (M 8 (sL G (2 * q)) 0) + (K 2175 (K 2177 q 0) 0) - (M 8 (sL G (2 * q)) 1) := by
    unfold loA
    rw [e2, kf, kx, ky]
  obtain ⟨l, hl⟩ : ∃ l, sL G (2 * q) = l := ⟨_, rfl⟩
  rw [hl] at kl elo lo
  have re := h_ends l (by omega) (by omega)
  have ex : (K 2158 l 0) = (M 8 l 0) := re.2.2.1.symm
  have ey : (K 2159 l 0) = (M 8 l 1) := re.2.2.2.1.symm
  have eb := ends_b h_ends (l := l) (by omega) (by omega)
  obtain ⟨X, hX⟩ : ∃ X, (K 2174 (K 2177 q 0) 0) = X := ⟨_, rfl⟩
  obtain ⟨Y, hY⟩ : ∃ Y, (K 2175 (K 2177 q 0) 0) = Y := ⟨_, rfl⟩
  rw [hX, hY] at pt elo
  unfold qf_X16_low
  rw [kl, if_pos (by omega), if_pos (by omega), if_pos (by omega), if_pos (by omega), if_pos (by omega), if_pos (by omega), if_pos (by omega), hX, hY, ex, ey, w32_id (x := X - (M 8 l 0)) (by omega) (by omega), w32_id (x := X - (M 8 l 0) + Y) (by omega) (by omega), w32_id (x := X - (M 8 l 0) + Y - (M 8 l 1)) (by omega) (by omega), ← elo]
theorem partFrom_e (h_ends : R_ends M K) (h_doorn : R_doorn M K) (h_doors : R_doors M K) (h : FNW M K M0 K0 A D0 D E F G H C q' m p R stt cnt) (hc : CUR M M0) (q0 : 0 ≤ q) (q1 : q < p) (hl : sL G (2 * q) = l) (d0 : 0 ≤ d) (d1 : d < (M 29 l 0)) : ∃ z, qf_X16_partFrom 20000 q d K = some z ∧ ((z = -1 ∧ ∀ t, (M 30 l (3 * d)) ≤ t → t < (M 30 l (3 * d + 1)) → loA M G (2 * q) ≤ t → t < loA M G (2 * q) + sN G (2 * q) → False) ∨ ((z = loA M G (2 * q) ∨ z = (M 30 l (3 * d))) ∧ loA M G (2 * q) ≤ z ∧ (M 30 l (3 * d)) ≤ z ∧ z < (M 30 l (3 * d + 1)) ∧ z < loA M G (2 * q) + sN G (2 * q))) := by
  have fp := fnw_fpi h
  have so := fnw_sid h
  have lo := loA_b h hc (s := 2 * q) (by omega) (by omega)
  have p5 := fp.1.2.2.2.2.2.2.2.1
  have lw := low_e h_ends h hc q0 q1
  have le := use_len h (s := 2 * q) (by omega) (by omega)
  have e2 : 2 * q / 2 = q := by omega
  have kl : (K 2176 q 0) = l := by
    have z := so.2.2.1 (2 * q)
    rw [← hl]
    unfold sL at z ⊢
    rw [e2] at z ⊢
    exact z
  rw [hl] at lo
  have rn := h_doorn l (by omega) (by omega)
  have rd := h_doors l d (by omega) (by omega) d0 d1
  have re := h_ends l (by omega) (by omega)
  have ln := lenC_e h_ends (l := l) (by omega) (by omega)
  obtain ⟨a, ha⟩ : ∃ a, loA M G (2 * q) = a := ⟨_, rfl⟩
  obtain ⟨n, hn⟩ : ∃ n, sN G (2 * q) = n := ⟨_, rfl⟩
  obtain ⟨f, hf⟩ : ∃ f, (M 30 l (3 * d)) = f := ⟨_, rfl⟩
  obtain ⟨g, hg⟩ : ∃ g, (M 30 l (3 * d + 1)) = g := ⟨_, rfl⟩
  rw [ha] at lw lo
  rw [hn] at le lo
  rw [hf, hg] at rd
  rw [ha, hn, hf, hg]
  obtain ⟨w, ew, hw⟩ := shrd_e (K := K) (a := a) (b := a + n) (c := f) (d := g) (by omega) (by omega) (by omega) (by omega) (by omega) (by omega) (by omega) (by omega)
  show qW _ (fun z => (z = -1 ∧ ∀ t, f ≤ t → t < g → a ≤ t → t < a + n → False) ∨ ((z = a ∨ z = f) ∧ a ≤ z ∧ f ≤ z ∧ z < g ∧ z < a + n))
  unfold qf_X16_partFrom qf_X16_partFrom_J53
  rw [if_pos (by omega), kl, w32_id (x := 2 * q) (by omega) (by omega), w32_id (x := 6 * l) (by omega) (by omega), w32_id (x := 6 * l + d) (by omega) (by omega)]
  refine qW_eq lw (qW_eq lw (qW_eq le ?_))
  rw [if_pos (by omega), if_pos (by omega), w32_id (x := a + n) (by omega) (by omega), rd.1, rd.2.1]
  refine qW_eq ew ?_
  rcases hw with ⟨w0, hw⟩ | ⟨w0, hw⟩
  · rw [if_pos w0, if_pos rfl]
    exact qW_some (Or.inl ⟨rfl, fun t t0 t1 t2 t3 => by omega⟩)
  · rw [if_neg (by omega), if_neg (by decide)]
    refine qW_eq lw ?_
    rw [if_pos (by omega)]
    by_cases g1 : a ≤ f
    · rw [if_pos g1, if_pos (by omega)]
      exact qW_some (Or.inr ⟨Or.inr rfl, g1, Int.le_refl f, by omega, by omega⟩)
    · rw [if_neg g1]
      refine qW_eq lw (qW_some (Or.inr ⟨Or.inl rfl, Int.le_refl a, by omega, by omega, by omega⟩))
theorem portal_r (h_lines : R_lines M K) (h_ends : R_ends M K) (h_doorn : R_doorn M K) (h_doors : R_doors M K) (h : FNW M K M0 K0 A D0 D E F G H C q' m p R stt cnt) (hc : CUR M M0) (hO : OWR M (M 51 3 0)) (S0 : 0 ≤ (M 51 3 0)) (S1 : (M 51 3 0) ≤ 100) (hR : (K 2156 9 0) = (M 51 3 0)) (hE : ENM (KEY M) nn aa) (q0 : 0 ≤ q) (q1 : q < p) (hl : sL G (2 * q) = l) (d0 : 0 ≤ d) (d1 : d < (M 29 l 0)) (hI : RKI M K N aa f) (hT : TRK nn aa (144 * l + 24 * d + loA M G (2 * q)) f) : qW (qf_X18_portal 20000 l d q N) (fun o => ∃ f', RKI M K o.2 aa f' ∧ TRK nn aa (144 * l + 24 * d + (loA M G (2 * q) + sN G (2 * q))) f') := by
  have n1 := key_n h_lines h_ends h_doorn h_doors h hc hE
  have lo := loA_b h hc (s := 2 * q) (by omega) (by omega)
  have s_lines := h_lines
  unfold R_lines at s_lines
  rw [hl] at lo
  have rn := h_doorn l (by omega) (by omega)
  have rd := h_doors l d (by omega) (by omega) d0 d1
  have ln := lenC_e h_ends (l := l) (by omega) (by omega)
  have fp := fnw_fpi h
  have p5 := fp.1.2.2.2.2.2.2.2.1
  have rel : ∀ N, KFR K N → FNW M N M0 K0 A D0 D E F G H C q' m p R stt cnt ∧ R_ends M N ∧ R_doorn M N ∧ R_doors M N ∧ (N 2156 9 0) = (M 51 3 0) := fun N hN => ⟨kfr_n h hN, R_ends_x rfl (fun _ _ => rfl) (fun i j => hN _ _ _ (by decide) (by decide) (by omega)) (fun i j => hN _ _ _ (by decide) (by decide) (by omega)) (fun i j => hN _ _ _ (by decide) (by decide) (by omega)) (fun i j => hN _ _ _ (by decide) (by decide) (by omega)) h_ends, R_doorn_x rfl (fun _ _ => rfl) (fun i j => hN _ _ _ (by decide) (by decide) (by omega)) h_doorn, R_doors_x (fun _ _ => rfl) (fun _ _ => rfl) (fun i j => hN _ _ _ (by decide) (by decide) (by omega)) (fun i j => hN _ _ _ (by decide) (by decide) (by omega)) (fun i j => hN _ _ _ (by decide) (by decide) (by omega)) (fun i j => hN _ _ _ (by decide) (by decide) (by omega)) h_doors, (hN _ _ _ (by decide) (by decide) (by decide)).trans hR⟩
  obtain ⟨hF, h2, h3, h4, hR'⟩ := rel N hI.1
  have ul := use_left hF (s := 2 * q) (by omega) (by omega)
  have ur := use_right hF (s := 2 * q) (by omega) (by omega)
  have fl2 : flp (2 * q) = 2 * q + 1 := by
    unfold flp
    rw [if_pos (by omega)]
  rw [fl2] at ur
  have slr := fun t a b => side_lr h hc q0 q1 (i := t - loA M G (2 * q)) a b
  rw [hl] at slr
  have slr2 : ∀ t, loA M G (2 * q) ≤ t → t < loA M G (2 * q) + sN G (2 * q) → lef M l t = lfs D G (2 * q) ∧ rit M l t = lfs D G (2 * q + 1) := fun t a b => by
    have z := slr t (by omega) (by omega)
    rw [show loA M G (2 * q) + (t - loA M G (2 * q)) = t by omega] at z
    exact z
  have lrb := lr_b (l := l) (t := loA M G (2 * q)) hO S0
  have slo := slr2 (loA M G (2 * q)) (Int.le_refl _) (by omega)
  rw [slo.1, slo.2] at lrb
  obtain ⟨L, hL⟩ : ∃ L, lfs D G (2 * q) = L := ⟨_, rfl⟩
  obtain ⟨Q, hQ⟩ : ∃ Q, lfs D G (2 * q + 1) = Q := ⟨_, rfl⟩
  rw [hL] at ul slr2 lrb
  rw [hQ] at ur slr2 lrb
  have kq : ∀ k, 144 * l + 24 * d + loA M G (2 * q) ≤ k → k < 144 * l + 24 * d + (loA M G (2 * q) + sN G (2 * q)) → KEY M k → PTK M l d (k - (144 * l + 24 * d)) := fun k a b z => by
    unfold KEY at z
    have tb : 0 ≤ k - (144 * l + 24 * d) := by omega
    by_cases t24 : k - (144 * l + 24 * d) < 24
    · rw [show k / 144 = l by omega, show k / 24 % 6 = d by omega, show k % 24 = k - (144 * l + 24 * d) by omega] at z
      exact z
    · exfalso
      have su := memU_w h q0 q1
      have uu := side_unit h hc q0 q1 (i := sN G (2 * q) - 1) (by omega) (by omega)
      have ub := su.2.1 (sN G (2 * q) - 1) (by omega) (by omega)
      have on := h.1.2.2.2.1.2 (sW G (2 * q)) _ _ (by omega) (by omega) ub.1 ub.2.1 ub.2.2.1 ub.2.2.2.1
      have ww := wall_wf h.1.2.1 h.1.2.2.2.1 ub.1 ub.2.1 ub.2.2.1 ub.2.2.2.1 (d := sW G (2 * q)) (by omega) (by omega)
      have ok := (fnw_ok h (by omega : 0 ≤ 2 * q) (by omega)).1
      have eq : wf A (sW G (2 * q)) (gx (sW G (2 * q)) (sX G (2 * q)) (sN G (2 * q) - 1)) (gy (sW G (2 * q)) (sY G (2 * q)) (sN G (2 * q) - 1)) = l := ((ok.1.2.2.2.1 _ (by omega) (by omega)).trans ok.2.1).trans hl
      rw [ww, eq] at on
      rcases on with ⟨z0, _⟩ | ⟨_, l1, on⟩
      · omega
      · have o2 := (cur_on hc (by omega) l1).mpr on
        rw [← uu.2.1, ← uu.2.2, hl] at o2
        have eb := ends_b h_ends (l := l) (by omega) (by omega)
        unfold onU uxx uyy at o2
        by_cases g : (M 8 l 1) = (M 8 l 3)
        · rw [if_pos g, if_pos g] at o2
          omega
        · rw [if_neg g, if_neg g] at o2
          omega
  have pp : ∀ t, PTK M l d t → loA M G (2 * q) ≤ t → t < loA M G (2 * q) + sN G (2 * q) → (t = (M 30 l (3 * d)) ∨ t = loA M G (2 * q)) ∧ L ≠ Q := fun t z a b => by
    have y := slr2 t a b
    have pt := piece_pt h hc q0 q1 hl a b
    unfold PTK at z
    rw [y.1, y.2, pt, b01_1] at z
    exact z.2.2.2.2.2.2
  have rB : qf_X16_roomBeside 20000 q 1 N = some L ∧ qf_X16_roomBeside 20000 q 0 N = some Q := by
    unfold qf_X16_roomBeside
    rw [w32_id (x := 2 * q) (by omega) (by omega), if_neg (by decide), if_pos rfl, ul, ur]
    exact ⟨rfl, rfl⟩
  have rO : ∀ r, -1 ≤ r → qf_X18_roomOf 20000 r N = some (rmf M r) := fun r r0 => by
    unfold qf_X18_roomOf rmf
    by_cases g : 0 ≤ r
    · rw [if_pos g, if_neg (by omega)]
    · rw [if_neg g, if_pos (by omega), hR']
  have rq : rmf M L = rmf M Q ↔ L = Q := by
    unfold rmf
    refine ⟨fun z => ?_, fun z => by rw [z]⟩
    by_cases g1 : L = -1
    · rw [if_pos g1] at z
      by_cases g2 : Q = -1
      · omega
      · rw [if_neg g2] at z
        omega
    · rw [if_neg g1] at z
      by_cases g2 : Q = -1
      · rw [if_pos g2] at z
        omega
      · rw [if_neg g2] at z
        exact z
  unfold qf_X18_portal
  refine qW_eq rB.1 (qW_eq (rO L lrb.1.1) (qW_eq rB.2 (qW_eq (rO Q lrb.2.1) ?_)))
  by_cases g : L = Q
  · rw [if_pos (rq.mpr g)]
    exact qW_some ⟨f, hI, trk_skip hE hT (by omega) (fun k a b z => (pp _ (kq k a b z) (by omega) (by omega)).2 g)⟩
  · rw [if_neg (fun z => g (rq.mp z))]
    obtain ⟨z, ez, hz⟩ := partFrom_e h2 h3 h4 hF hc q0 q1 hl d0 d1
    refine qW_eq ez ?_
    rcases hz with ⟨e, no⟩ | ⟨zz, z0, z1, z2, z3⟩
    · rw [if_pos (by omega)]
      refine qW_some ⟨f, hI, trk_skip hE hT (by omega) (fun k a b y => ?_)⟩
      have pk := kq k a b y
      exact no _ pk.2.2.2.2.1 pk.2.2.2.2.2.1 (by omega) (by omega)
    · have yz := slr2 z z0 z3
      have pt := piece_pt h hc q0 q1 hl z0 z3
      have pk : PTK M l d z := ⟨by omega, by omega, d0, d1, z1, z2, by rw [pt, b01_1]; omega, by rw [yz.1, yz.2]; exact g⟩
      have ke := key_e h_lines h_ends h_doorn h_doors pk
      have tk := trk_take (q := 144 * l + 24 * d + (loA M G (2 * q) + sN G (2 * q))) hE hT ke.2.1 ke.2.2.1 (by omega) (by omega) ke.1 (fun k a b y => by
        have w := pp _ (kq k a b y) (by omega) (by omega)
        have pk2 := kq k a b y
        unfold PTK at pk2
        omega)
      have f0 := hT.1
      have pN : (N 2156 10 0) = f := hI.2.1
      have p14 : 0 ≤ (N 2156 10 0) ∧ (N 2156 10 0) < 1400 := by omega
      rw [if_neg (by omega), if_pos p14, pN]
      refine qW_bnd ?_
      obtain ⟨N1, hN1⟩ : ∃ W, qw N 2289 f 0 (rmf M L) = W := ⟨_, rfl⟩
      rw [hN1]
      have e1 : ∀ b i j, b ≠ 2289 → N1 b i j = N b i j := fun b i j hb => by rw [← hN1]; exact qw_a hb
      have v1 : ∀ i, N1 2289 i 0 = if i = f then rmf M L else N 2289 i 0 := fun i => by rw [← hN1]; exact qw_one
      have P1 : (N1 2156 10 0) = f := (e1 _ _ _ (by decide)).trans pN
      rw [if_pos (by omega), P1]
      refine qW_bnd ?_
      obtain ⟨N2, hN2⟩ : ∃ W, qw N1 2290 f 0 (rmf M Q) = W := ⟨_, rfl⟩
      rw [hN2]
      have e2 : ∀ b i j, b ≠ 2290 → N2 b i j = N1 b i j := fun b i j hb => by rw [← hN2]; exact qw_a hb
      have v2 : ∀ i, N2 2290 i 0 = if i = f then rmf M Q else N1 2290 i 0 := fun i => by rw [← hN2]; exact qw_one
      have P2 : (N2 2156 10 0) = f := (e2 _ _ _ (by decide)).trans P1
      rw [if_pos (by omega), P2]
      refine qW_bnd ?_
      obtain ⟨N3, hN3⟩ : ∃ W, qw N2 2291 f 0 l = W := ⟨_, rfl⟩
      rw [hN3]
      have e3 : ∀ b i j, b ≠ 2291 → N3 b i j = N2 b i j := fun b i j hb => by rw [← hN3]; exact qw_a hb
      have v3 : ∀ i, N3 2291 i 0 = if i = f then l else N2 2291 i 0 := fun i => by rw [← hN3]; exact qw_one
      have P3 : (N3 2156 10 0) = f := (e3 _ _ _ (by decide)).trans P2
      rw [if_pos (by omega), P3]
      refine qW_bnd ?_
      obtain ⟨N4, hN4⟩ : ∃ W, qw N3 2292 f 0 d = W := ⟨_, rfl⟩
      rw [hN4]
      have e4 : ∀ b i j, b ≠ 2292 → N4 b i j = N3 b i j := fun b i j hb => by rw [← hN4]; exact qw_a hb
      have v4 : ∀ i, N4 2292 i 0 = if i = f then d else N3 2292 i 0 := fun i => by rw [← hN4]; exact qw_one
      have P4 : (N4 2156 10 0) = f := (e4 _ _ _ (by decide)).trans P3
      have k4 : KFR K N4 := fun b i j b1 b2 b3 => by
        rw [e4 b i j (by omega), e3 b i j (by omega), e2 b i j (by omega), e1 b i j (by omega)]
        exact hI.1 b i j b1 b2 b3
      obtain ⟨hF4, h24, h34, h44, _⟩ := rel N4 k4
      obtain ⟨z', ez', hz'⟩ := partFrom_e h24 h34 h44 hF4 hc q0 q1 hl d0 d1
      have zeq : z' = z := by
        rcases hz' with ⟨_, no⟩ | ⟨y, _⟩
        · exact (no z z1 z2 z0 z3).elim
        · omega
      rw [zeq] at ez'
      refine qW_eq ez' ?_
      rw [if_pos (by omega), P4]
      refine qW_bnd ?_
      obtain ⟨N5, hN5⟩ : ∃ W, qw N4 2293 f 0 z = W := ⟨_, rfl⟩
      rw [hN5]
      have e5 : ∀ b i j, b ≠ 2293 → N5 b i j = N4 b i j := fun b i j hb => by rw [← hN5]; exact qw_a hb
      have v5 : ∀ i, N5 2293 i 0 = if i = f then z else N4 2293 i 0 := fun i => by rw [← hN5]; exact qw_one
      have P5 : (N5 2156 10 0) = f := (e5 _ _ _ (by decide)).trans P4
      rw [if_pos (by omega), P5]
      refine qW_bnd ?_
      obtain ⟨N6, hN6⟩ : ∃ W, qw N5 2297 f 0 2147483647 = W := ⟨_, rfl⟩
      rw [hN6]
      have e6 : ∀ b i j, b ≠ 2297 → N6 b i j = N5 b i j := fun b i j hb => by rw [← hN6]; exact qw_a hb
      have v6 : ∀ i, N6 2297 i 0 = if i = f then 2147483647 else N5 2297 i 0 := fun i => by rw [← hN6]; exact qw_one
      have P6 : (N6 2156 10 0) = f := (e6 _ _ _ (by decide)).trans P5
      rw [P6, w32_id (x := f + 1) (by omega) (by omega)]
      refine qW_bnd (qW_some ⟨f + 1, ⟨fun b i j b1 b2 b3 => ?_, show qw N6 2156 10 0 (f + 1) 2156 10 0 = f + 1 from qw_s, fun j j0 j1 => ?_⟩, tk.2.2⟩)
      · (try dsimp only)
        rw [qw_ap, if_neg (by omega), e6 b i j b2, e5 b i j (by omega)]
        exact k4 b i j b1 b2 b3
      · have cellsA : ∀ i, qw N6 2156 10 0 (f + 1) 2289 i 0 = if i = f then rmf M L else N 2289 i 0 := fun i => by
          rw [qw_a (by decide), e6 _ _ _ (by decide), e5 _ _ _ (by decide), e4 _ _ _ (by decide), e3 _ _ _ (by decide), e2 _ _ _ (by decide), v1]
        have cellsB : ∀ i, qw N6 2156 10 0 (f + 1) 2290 i 0 = if i = f then rmf M Q else N 2290 i 0 := fun i => by
          rw [qw_a (by decide), e6 _ _ _ (by decide), e5 _ _ _ (by decide), e4 _ _ _ (by decide), e3 _ _ _ (by decide), v2, e1 _ _ _ (by decide)]
        have cellsL : ∀ i, qw N6 2156 10 0 (f + 1) 2291 i 0 = if i = f then l else N 2291 i 0 := fun i => by
          rw [qw_a (by decide), e6 _ _ _ (by decide), e5 _ _ _ (by decide), e4 _ _ _ (by decide), v3, e2 _ _ _ (by decide), e1 _ _ _ (by decide)]
        have cellsD : ∀ i, qw N6 2156 10 0 (f + 1) 2292 i 0 = if i = f then d else N 2292 i 0 := fun i => by
          rw [qw_a (by decide), e6 _ _ _ (by decide), e5 _ _ _ (by decide), v4, e3 _ _ _ (by decide), e2 _ _ _ (by decide), e1 _ _ _ (by decide)]
        have cellsF : ∀ i, qw N6 2156 10 0 (f + 1) 2293 i 0 = if i = f then z else N 2293 i 0 := fun i => by
          rw [qw_a (by decide), e6 _ _ _ (by decide), v5, e4 _ _ _ (by decide), e3 _ _ _ (by decide), e2 _ _ _ (by decide), e1 _ _ _ (by decide)]
        have cellsK : ∀ i, qw N6 2156 10 0 (f + 1) 2297 i 0 = if i = f then 2147483647 else N 2297 i 0 := fun i => by
          rw [qw_a (by decide), v6, e5 _ _ _ (by decide), e4 _ _ _ (by decide), e3 _ _ _ (by decide), e2 _ _ _ (by decide), e1 _ _ _ (by decide)]
        (try dsimp only)
        unfold PRK
        rw [cellsA, cellsB, cellsL, cellsD, cellsF, cellsK]
        by_cases ej : j = f
        · rw [if_pos ej, if_pos ej, if_pos ej, if_pos ej, if_pos ej, if_pos ej, ej, tk.2.1, show (144 * l + 24 * d + z) / 144 = l by omega, show (144 * l + 24 * d + z) / 24 % 6 = d by omega, show (144 * l + 24 * d + z) % 24 = z by omega, yz.1, yz.2]
          exact ⟨rfl, rfl, rfl, rfl, rfl, rfl⟩
        · rw [if_neg ej, if_neg ej, if_neg ej, if_neg ej, if_neg ej, if_neg ej]
          exact hI.2.2 j j0 (by omega)
end PH
