section PI
variable {M K N A B C D D0 E F G H T V W K0 M0 : qm} {a b c d k n m p r s t u v x y h i j R S w l z e f g nn κ pos q lo hi : Int} {q' stt cnt o aa : Int → Int} {P : Int → Prop}
theorem gap_k (h_lines : R_lines M K) (h_ends : R_ends M K) (h_doorn : R_doorn M K) (h_doors : R_doors M K) (h : FNW M K M0 K0 A D0 D E F G H C q' m p R stt cnt) (hc : CUR M M0) (l0 : 0 ≤ l) (l1 : l < (M 7 0 0)) (d0 : 0 ≤ d) (d1 : d < (M 29 l 0)) (o0 : 0 ≤ lo) (i1 : hi ≤ 24) (hg : ∀ s t, 0 ≤ s → s < p → sL G (2 * s) = l → lo ≤ t → t < hi → loA M G (2 * s) ≤ t → t < loA M G (2 * s) + sN G (2 * s) → False) : ∀ k, 144 * l + 24 * d + lo ≤ k → k < 144 * l + 24 * d + hi → ¬ KEY M k := by
  intro k a b z
  have s_lines := h_lines
  unfold R_lines at s_lines
  have rn := h_doorn l l0 (by omega)
  have rd := h_doors l d l0 (by omega) d0 d1
  have ln := lenC_e h_ends l0 l1
  unfold KEY PTK at z
  rw [show k / 144 = l by omega, show k / 24 % 6 = d by omega, show k % 24 = k - (144 * l + 24 * d) by omega] at z
  obtain ⟨s, s0, s1, sl, x0, x1⟩ := in_piece h_ends h hc l0 l1 (t := k - (144 * l + 24 * d)) (by omega) (by omega)
  exact hg s _ s0 s1 sl (by omega) (by omega) x0 x1
theorem lo_len (h_ends : R_ends M K) (h : FNW M K M0 K0 A D0 D E F G H C q' m p R stt cnt) (hc : CUR M M0) (q0 : 0 ≤ q) (q1 : q < p) : loA M G (2 * q) + sN G (2 * q) ≤ 24 := by
  have lo := loA_b h hc (s := 2 * q) (by omega) (by omega)
  have su := memU_w h q0 q1
  have uu := side_unit h hc q0 q1 (i := sN G (2 * q) - 1) (by omega) (by omega)
  have ub := su.2.1 (sN G (2 * q) - 1) (by omega) (by omega)
  have on := h.1.2.2.2.1.2 (sW G (2 * q)) _ _ (by omega) (by omega) ub.1 ub.2.1 ub.2.2.1 ub.2.2.2.1
  have ww := wall_wf h.1.2.1 h.1.2.2.2.1 ub.1 ub.2.1 ub.2.2.1 ub.2.2.2.1 (d := sW G (2 * q)) (by omega) (by omega)
  have ok := (fnw_ok h (by omega : 0 ≤ 2 * q) (by omega)).1
  have eq : wf A (sW G (2 * q)) (gx (sW G (2 * q)) (sX G (2 * q)) (sN G (2 * q) - 1)) (gy (sW G (2 * q)) (sY G (2 * q)) (sN G (2 * q) - 1)) = sL G (2 * q) := (ok.1.2.2.2.1 _ (by omega) (by omega)).trans ok.2.1
  rw [ww, eq] at on
  rcases on with ⟨z0, _⟩ | ⟨_, l1, on⟩
  · omega
  · have o2 := (cur_on hc (by omega) l1).mpr on
    rw [← uu.2.1, ← uu.2.2] at o2
    have eb := ends_b h_ends (l := sL G (2 * q)) (by omega) (by omega)
    unfold onU uxx uyy at o2
    by_cases g : (M 8 (sL G (2 * q)) 1) = (M 8 (sL G (2 * q)) 3)
    · rw [if_pos g, if_pos g] at o2
      omega
    · rw [if_neg g, if_neg g] at o2
      omega
theorem doorK_r (h_lines : R_lines M K) (h_ends : R_ends M K) (h_doorn : R_doorn M K) (h_doors : R_doors M K) (h : FNW M K M0 K0 A D0 D E F G H C q' m p R stt cnt) (hc : CUR M M0) (hO : OWR M (M 51 3 0)) (S0 : 0 ≤ (M 51 3 0)) (S1 : (M 51 3 0) ≤ 100) (hR : (K 2156 9 0) = (M 51 3 0)) (hE : ENM (KEY M) nn aa) (l0 : 0 ≤ l) (l1 : l < (M 7 0 0)) (d0 : 0 ≤ d) (d1 : d < (M 29 l 0)) (hI : RKI M K N aa f) (hT : TRK nn aa (144 * l + 24 * d) f) : qW ((qf_X16_pieceOf 20000 l 0 N).bind (fun r8 => (qf_X18_findPortals_L41 20000 20000 l d r8 1 N))) (fun o => ∃ f' N', o = .inr ((), N') ∧ RKI M K N' aa f' ∧ TRK nn aa (144 * l + 24 * (d + 1)) f') := by
  have fp := fnw_fpi h
  have so := fnw_sid h
  have p5 := fp.1.2.2.2.2.2.2.2.1
  have p0 := fp.1.2.2.2.2.2.2.1
  have pp := fp.1.2.2.2.2.2.1
  have pl : ∀ q, (K 2176 q 0) = sL G (2 * q) := fun q => by
    have z := so.2.2.1 (2 * q)
    unfold sL at z ⊢
    rw [show 2 * q / 2 = q by omega] at z ⊢
    exact z
  have gk := fun lo hi o0 i1 hg => gap_k (lo := lo) (hi := hi) h_lines h_ends h_doorn h_doors h hc l0 l1 d0 d1 o0 i1 hg
  have po : ∀ N k, KFR K N → 0 ≤ k → k ≤ 1000 → ∃ r, qf_X16_pieceOf 20000 l k N = some r ∧ ((r = -1 ∧ CLN K l p ≤ k) ∨ (0 ≤ r ∧ r < p ∧ sL G (2 * r) = l ∧ CLN K l r = k)) := fun N k hN k0 k1 => by
    have e : ∀ q, (N 2176 q 0) = (K 2176 q 0) := fun q => hN _ _ _ (by decide) (by decide) (by omega)
    have ec : ∀ n, CLN N l n = CLN K l n := fun n => sI_c (fun q _ _ => by (try dsimp only); rw [e])
    have pn : (N 2157 30 0) = p := (hN _ _ _ (by decide) (by decide) (by decide)).trans pp
    obtain ⟨r, er, hr⟩ := pieceOf_e (K := N) (l := l) p0 p5 pn k0 k1
    rw [ec, ec, e, pl] at hr
    exact ⟨r, er, hr⟩
  have cm : ∀ s u, 0 ≤ s → s < u → sL G (2 * s) = l → CLN K l s < CLN K l u := fun s u a b z => cln_m a b ((pl s).trans z)
  have cn : ∀ n, 0 ≤ CLN K l n := fun n => sI_n (fun _ _ _ => b01_b.1)
  obtain ⟨r0, er0, hr0⟩ := po N 0 hI.1 (by decide) (by decide)
  refine qW_eq er0 ?_
  unfold qf_X18_findPortals_L41
  refine qW_loop (fun u => ∃ q k f N', u = (l, d, q, k, N') ∧ 1 ≤ k ∧ RKI M K N' aa f ∧ ((q = -1 ∧ TRK nn aa (144 * l + 24 * (d + 1)) f) ∨ (0 ≤ q ∧ q < p ∧ k ≤ q + 1 ∧ sL G (2 * q) = l ∧ CLN K l q = k - 1 ∧ TRK nn aa (144 * l + 24 * d + loA M G (2 * q)) f))) (fun u => if u.2.2.1 < 0 then 0 else (300 - u.2.2.2.1).toNat) ?_ 20000 _ ⟨r0, 1, f, N, rfl, by decide, hI, ?_⟩ (by (try dsimp only); split <;> omega)
  · rintro _ ⟨q, k, f, N, rfl, k1, hI, hq⟩
    unfold qf_X18_findPortals_L41_b
    (try dsimp only)
    rcases hq with ⟨e, hT⟩ | ⟨q0, q1, kq, sl, rk, hT⟩
    · rw [if_pos (by omega)]
      exact qW_some ⟨f, N, rfl, hI, hT⟩
    · rw [if_neg (by omega)]
      refine qW_call (portal_r h_lines h_ends h_doorn h_doors h hc hO S0 S1 hR hE q0 q1 sl d0 d1 hI hT) ?_
      rintro ⟨_, N2⟩ ⟨f2, hI2, hT2⟩
      (try dsimp only at hI2 ⊢)
      have ll := lo_len h_ends h hc q0 q1
      have lb := loA_b h hc (s := 2 * q) (by omega) (by omega)
      obtain ⟨r, er, hr⟩ := po N2 k hI2.1 (by omega) (by omega)
      refine qW_eq er ?_
      rw [w32_id (x := k + 1) (by omega) (by omega)]
      have lm := fun s u a b c z => lo_m h hc (s := s) (u := u) a b c z
      rcases hr with ⟨e, hr⟩ | ⟨r0, r1, rl, rr⟩
      · refine qW_some ⟨⟨r, k + 1, f2, N2, rfl, by omega, hI2, Or.inl ⟨e, ?_⟩⟩, by (try dsimp only); rw [if_pos (by omega), if_neg (by omega)]; omega⟩
        rw [show 144 * l + 24 * (d + 1) = 144 * l + 24 * d + 24 by omega]
        refine trk_skip hE hT2 (by omega) (gk _ _ (by omega) (Int.le_refl 24) (fun s t s0 s1 ss t0 t1 t2 t3 => ?_))
        rcases Int.lt_trichotomy s q with g | g | g
        · have := lm s q s0 g q1 (ss.trans sl.symm)
          omega
        · rw [g] at t3
          omega
        · have a := cm q s q0 g sl
          have b := cm s p s0 s1 ss
          omega
      · have lr := lo_len h_ends h hc r0 r1
        have lbr := loA_b h hc (s := 2 * r) (by omega) (by omega)
        have qr : q < r := by
          apply Classical.byContradiction
          intro z
          by_cases e : r = q
          · rw [e] at rr
            omega
          · have := cm r q r0 (by omega) rl
            omega
        have ql := lm q r q0 qr r1 (sl.trans rl.symm)
        refine qW_some ⟨⟨r, k + 1, f2, N2, rfl, by omega, hI2, Or.inr ⟨r0, r1, by omega, rl, by omega, ?_⟩⟩, by (try dsimp only); rw [if_neg (by omega), if_neg (by omega)]; omega⟩
        refine trk_skip hE hT2 (by omega) (gk _ _ (by omega) (by omega) (fun s t s0 s1 ss t0 t1 t2 t3 => ?_))
        rcases Int.lt_trichotomy s q with g | g | g
        · have := lm s q s0 g q1 (ss.trans sl.symm)
          omega
        · rw [g] at t3
          omega
        · have a := cm q s q0 g sl
          rcases Int.lt_trichotomy s r with g2 | g2 | g2
          · have b := cm s r s0 g2 ss
            omega
          · rw [g2] at t2
            omega
          · have := lm r s r0 g2 s1 (rl.trans ss.symm)
            omega
  · rcases hr0 with ⟨e, hr⟩ | ⟨r0', r1, rl, rr⟩
    · refine Or.inl ⟨e, ?_⟩
      rw [show 144 * l + 24 * (d + 1) = 144 * l + 24 * d + 24 by omega]
      refine trk_skip hE hT (by omega) (fun k a b => gk 0 24 (by decide) (by decide) (fun s t s0 s1 ss _ _ _ _ => ?_) k (by omega) b)
      have b := cm s p s0 s1 ss
      have := cn s
      omega
    · have lr := lo_len h_ends h hc r0' r1
      have lbr := loA_b h hc (s := 2 * r0) (by omega) (by omega)
      refine Or.inr ⟨r0', r1, by omega, rl, by omega, ?_⟩
      refine trk_skip hE hT (by omega) (fun k a b => gk 0 (loA M G (2 * r0)) (by decide) (by omega) (fun s t s0 s1 ss t0 t1 t2 t3 => ?_) k (by omega) b)
      rcases Int.lt_trichotomy s r0 with g | g | g
      · have b := cm s r0 s0 g ss
        have := cn s
        omega
      · rw [g] at t2
        omega
      · have := lo_m h hc r0' g s1 (rl.trans ss.symm)
        omega
theorem ports_K (h_lines : R_lines M K) (h_ends : R_ends M K) (h_doorn : R_doorn M K) (h_doors : R_doors M K) (h : FNW M K M0 K0 A D0 D E F G H C q' m p R stt cnt) (hc : CUR M M0) (hO : OWR M (M 51 3 0)) (S0 : 0 ≤ (M 51 3 0)) (S1 : (M 51 3 0) ≤ 100) (hR : (K 2156 9 0) = (M 51 3 0)) (hE : ENM (KEY M) nn aa) (hz : (K 2156 10 0) = 0) : qW (qf_X18_findPortals 20000 K) (fun o => RKI M K o.2 aa nn) := by
  have s_lines := h_lines
  unfold R_lines at s_lines
  unfold qf_X18_findPortals
  refine qW_call (Q := fun o => ∃ N, o = .inr ((), N) ∧ RKI M K N aa nn) ?_ ?_
  · unfold qf_X18_findPortals_L2
    refine qW_for (M 7 0 0) (fun l u => ∃ f N, u = (l, N) ∧ RKI M K N aa f ∧ TRK nn aa (144 * l) f) ?_ ?_ ⟨0, K, rfl, ⟨fun _ _ _ _ _ _ => rfl, hz, fun j a b => by omega⟩, by rw [show (144 : Int) * 0 = 0 from rfl]; exact trk_0 hE⟩ (by omega) (by omega)
    · rintro l _ l0 l1 ⟨f, N, rfl, hI, hT⟩
      have rn := h_doorn l l0 (by omega)
      have nl : (N 2157 0 0) = (M 7 0 0) := (hI.1 _ _ _ (by decide) (by decide) (by decide)).trans s_lines.2.2
      unfold qf_X18_findPortals_L2_b
      (try dsimp only)
      rw [if_neg (by omega), w32_id (x := l + 1) (by omega) (by omega)]
      refine qW_call (Q := fun o => ∃ f' N', o = .inr ((), N') ∧ RKI M K N' aa f' ∧ TRK nn aa (144 * l + 24 * (M 29 l 0)) f') ?_ ?_
      · unfold qf_X18_findPortals_L15
        refine qW_for (M 29 l 0) (fun d u => ∃ f' N', u = (l, d, N') ∧ RKI M K N' aa f' ∧ TRK nn aa (144 * l + 24 * d) f') ?_ ?_ ⟨f, N, rfl, hI, by rw [show 144 * l + 24 * 0 = 144 * l by omega]; exact hT⟩ (by omega) (by omega)
        · rintro d _ d0 d1 ⟨f, N, rfl, hI, hT⟩
          have nd : (N 2162 l 0) = (M 29 l 0) := (hI.1 _ _ _ (by decide) (by decide) (by omega)).trans rn.1
          unfold qf_X18_findPortals_L15_b
          (try dsimp only)
          rw [if_pos (by omega), if_neg (by omega), w32_id (x := d + 1) (by omega) (by omega)]
          obtain ⟨o, eo, f2, N2, rfl, hI2, hT2⟩ := doorK_r h_lines h_ends h_doorn h_doors h hc hO S0 S1 hR hE l0 l1 d0 d1 hI hT
          obtain ⟨r, er, _⟩ := pieceOf_e (K := N) (l := l) (k := 0) (p := p) (fnw_fpi h).1.2.2.2.2.2.2.1 (fnw_fpi h).1.2.2.2.2.2.2.2.1 ((hI.1 _ _ _ (by decide) (by decide) (by decide)).trans (fnw_fpi h).1.2.2.2.2.2.1) (by decide) (by decide)
          rw [er] at eo
          refine qW_eq er (qW_eq eo ?_)
          exact qW_some ⟨f2, N2, rfl, hI2, hT2⟩
        · rintro _ ⟨f, N, rfl, hI, hT⟩
          have nd : (N 2162 l 0) = (M 29 l 0) := (hI.1 _ _ _ (by decide) (by decide) (by omega)).trans rn.1
          unfold qf_X18_findPortals_L15_b
          (try dsimp only)
          rw [if_pos (by omega), if_pos (by omega)]
          exact qW_some ⟨f, N, rfl, hI, hT⟩
      · rintro _ ⟨f, N, rfl, hI, hT⟩
        refine qW_some ⟨f, N, rfl, hI, trk_skip hE hT (by omega) (fun k a b z => ?_)⟩
        unfold KEY PTK at z
        rw [show k / 144 = l by omega] at z
        omega
    · rintro _ ⟨f, N, rfl, hI, hT⟩
      have nl : (N 2157 0 0) = (M 7 0 0) := (hI.1 _ _ _ (by decide) (by decide) (by decide)).trans s_lines.2.2
      unfold qf_X18_findPortals_L2_b
      (try dsimp only)
      rw [if_pos (by omega)]
      have fn := trk_end (trk_skip (q := 2880) hE hT (by omega) (fun k a b z => by
        unfold KEY PTK at z
        omega)) hE
      rw [fn] at hI
      exact qW_some ⟨N, rfl, hI⟩
  · rintro _ ⟨N, rfl, hI⟩
    exact qW_some hI
end PI
