section PF
variable {M K N A B C D D0 E F G H T V W K0 M0 N0 N' : qm} {a b c d k n m p r s t u v x y h i j R S w l z hd e f g nn κ pos : Int} {q stt cnt o aa : Int → Int} {P : Int → Prop}
theorem scanDoor_r (h_lines : R_lines M K) (h_ends : R_ends M K) (h_doorn : R_doorn M K) (h_doors : R_doors M K) (h : FNW M K M0 K0 A D0 D E F G H C q m p R stt cnt) (hc : CUR M M0) (hO : OWR M S) (S0 : 0 ≤ S) (S1 : S ≤ 100) (hE : ENM (KEY M) nn aa) (h0 : SCM M N0) (hp : w = 1 → (N0 824 3 0) = nn) (w01 : w = 0 ∨ w = 1) (l0 : 0 ≤ l) (l1 : l < (M 7 0 0)) (d0 : 0 ≤ d) (d1 : d < (M 29 l 0)) (hI : SCI w M N0 N nn aa f) (hT : TRK nn aa (144 * l + 24 * d) f) : qW (qf_X0_scanDoor 20000 l d f w N) (fun o => SCI w M N0 o.2 nn aa o.1 ∧ TRK nn aa (144 * l + 24 * (d + 1)) o.1) := by
  have s_lines := h_lines
  unfold R_lines at s_lines
  have rn := h_doorn l l0 (by omega)
  have rd := h_doors l d l0 (by omega) d0 d1
  have ln := lenC_e h_ends l0 l1
  have c20 : 0 ≤ l ∧ l < 20 := ⟨l0, by omega⟩
  have hN : SCM M N := fun b i j b1 b2 b3 b4 => (hI.1 b i j b2).trans (h0 b i j b1 b2 b3 b4)
  have eT : qf_X8_toOf 20000 l d N = some (M 30 l (3 * d + 1)) := by
    unfold qf_X8_toOf
    rw [if_pos c20, w32_id (x := 3 * d) (by omega) (by omega), w32_id (x := 3 * d + 1) (by omega) (by omega), if_pos (by omega), hN _ _ _ (by decide) (by decide) (by decide) (by decide)]
  have eF : qf_X8_fromOf 20000 l d N = some (M 30 l (3 * d)) := by
    unfold qf_X8_fromOf
    rw [if_pos c20, w32_id (x := 3 * d) (by omega) (by omega), if_pos (by omega), hN _ _ _ (by decide) (by decide) (by decide) (by decide)]
  have pr := fun f N t => part_r (N := N) (f := f) (t := t) h_lines h_ends h_doorn h_doors h hc hO S0 S1 hE h0 hp w01 l0 l1 d0 d1
  have kf : ∀ k, 144 * l + 24 * d ≤ k → k < 144 * l + 24 * (d + 1) → KEY M k → (M 30 l (3 * d)) ≤ k - (144 * l + 24 * d) ∧ k - (144 * l + 24 * d) < (M 30 l (3 * d + 1)) := fun k a b z => by
    unfold KEY PTK at z
    rw [show k / 144 = l by omega, show k / 24 % 6 = d by omega, show k % 24 = k - (144 * l + 24 * d) by omega] at z
    exact ⟨z.2.2.2.2.1, z.2.2.2.2.2.1⟩
  obtain ⟨from_, hf⟩ : ∃ v, (M 30 l (3 * d)) = v := ⟨_, rfl⟩
  obtain ⟨to_, ht⟩ : ∃ v, (M 30 l (3 * d + 1)) = v := ⟨_, rfl⟩
  rw [hf, ht] at rd pr
  rw [hf] at eF
  rw [ht] at eT
  rw [hf, ht] at kf
  unfold qf_X0_scanDoor
  refine qW_eq eF (qW_eq eT ?_)
  refine qW_call (Q := fun o => ∃ f' N', o = .inr (f', N') ∧ SCI w M N0 N' nn aa f' ∧ TRK nn aa (144 * l + 24 * d + to_) f') ?_ ?_
  · unfold qf_X0_scanDoor_L26
    refine qW_for (to_ - from_) (fun i u => ∃ f' N', u = (l, d, f', w, from_, to_, from_ + i, N') ∧ SCI w M N0 N' nn aa f' ∧ TRK nn aa (144 * l + 24 * d + (from_ + i)) f') ?_ ?_ ⟨f, N, by rw [Int.add_zero], hI, trk_skip hE hT (by omega) (fun k a b z => by have := kf k a (by omega) z; omega)⟩ (by omega) (by omega)
    · rintro i _ i0 i1 ⟨f', N', rfl, hI', hT'⟩
      refine qW_mono (pr f' N' (from_ + i) (by omega) (by omega) hI' hT') ?_
      rintro _ ⟨f2, N2, rfl, hI2, hT2⟩
      refine ⟨f2, N2, by rw [Int.add_assoc], hI2, ?_⟩
      rw [show 144 * l + 24 * d + (from_ + (i + 1)) = 144 * l + 24 * d + (from_ + i) + 1 by omega]
      exact hT2
    · rintro _ ⟨f', N', rfl, hI', hT'⟩
      unfold qf_X0_scanDoor_L26_b
      (try dsimp only)
      rw [if_pos (by omega)]
      refine qW_some ⟨f', N', rfl, hI', ?_⟩
      rw [show from_ + (to_ - from_) = to_ by omega] at hT'
      exact hT'
  · rintro _ ⟨f', N', rfl, hI', hT'⟩
    refine qW_some ⟨hI', trk_skip hE hT' (by omega) (fun k a b z => by have := kf k (by omega) b z; omega)⟩
theorem scanLines_r (h_lines : R_lines M K) (h_ends : R_ends M K) (h_doorn : R_doorn M K) (h_doors : R_doors M K) (h : FNW M K M0 K0 A D0 D E F G H C q m p R stt cnt) (hc : CUR M M0) (hO : OWR M S) (S0 : 0 ≤ S) (S1 : S ≤ 100) (hE : ENM (KEY M) nn aa) (h0 : SCM M N0) (hp : w = 1 → (N0 824 3 0) = nn) (w01 : w = 0 ∨ w = 1) (hI : SCI w M N0 N nn aa 0) : qW (qf_X0_scanLines 20000 w N) (fun o => o.1 = nn ∧ SCI w M N0 o.2 nn aa nn) := by
  have s_lines := h_lines
  unfold R_lines at s_lines
  have same : ∀ {N f}, SCI w M N0 N nn aa f → SCM M N := fun hI b i j b1 b2 b3 b4 => (hI.1 b i j b2).trans (h0 b i j b1 b2 b3 b4)
  unfold qf_X0_scanLines
  refine qW_call (Q := fun o => ∃ N', o = .inr (nn, N') ∧ SCI w M N0 N' nn aa nn) ?_ ?_
  · unfold qf_X0_scanLines_L4
    refine qW_for (M 7 0 0) (fun l u => ∃ f' N', u = (w, f', l, N') ∧ SCI w M N0 N' nn aa f' ∧ TRK nn aa (144 * l) f') ?_ ?_ ⟨0, N, rfl, hI, by rw [show (144 : Int) * 0 = 0 from rfl]; exact trk_0 hE⟩ (by omega) (by omega)
    · rintro l _ l0 l1 ⟨f, N, rfl, hI, hT⟩
      have rn := h_doorn l l0 (by omega)
      have nl : N 7 0 0 = (M 7 0 0) := same hI _ _ _ (by decide) (by decide) (by decide) (by decide)
      unfold qf_X0_scanLines_L4_b
      (try dsimp only)
      rw [if_neg (by omega), w32_id (x := l + 1) (by omega) (by omega)]
      refine qW_call (Q := fun o => ∃ f' N', o = .inr (f', N') ∧ SCI w M N0 N' nn aa f' ∧ TRK nn aa (144 * l + 24 * (M 29 l 0)) f') ?_ ?_
      · unfold qf_X0_scanLines_L18
        refine qW_for (M 29 l 0) (fun d u => ∃ f' N', u = (w, f', l, d, N') ∧ SCI w M N0 N' nn aa f' ∧ TRK nn aa (144 * l + 24 * d) f') ?_ ?_ ⟨f, N, rfl, hI, by rw [show 144 * l + 24 * 0 = 144 * l by omega]; exact hT⟩ (by omega) (by omega)
        · rintro d _ d0 d1 ⟨f, N, rfl, hI, hT⟩
          have nd : (N 29 l 0) = (M 29 l 0) := same hI _ _ _ (by decide) (by decide) (by decide) (by decide)
          unfold qf_X0_scanLines_L18_b
          (try dsimp only)
          rw [if_pos (by omega), if_neg (by omega), w32_id (x := d + 1) (by omega) (by omega)]
          refine qW_call (scanDoor_r h_lines h_ends h_doorn h_doors h hc hO S0 S1 hE h0 hp w01 l0 l1 d0 d1 hI hT) ?_
          rintro ⟨f', N'⟩ ⟨hI', hT'⟩
          exact qW_some ⟨f', N', rfl, hI', hT'⟩
        · rintro _ ⟨f, N, rfl, hI, hT⟩
          have nd : (N 29 l 0) = (M 29 l 0) := same hI _ _ _ (by decide) (by decide) (by decide) (by decide)
          unfold qf_X0_scanLines_L18_b
          (try dsimp only)
          rw [if_pos (by omega), if_pos (by omega)]
          exact qW_some ⟨f, N, rfl, hI, hT⟩
      · rintro _ ⟨f, N, rfl, hI, hT⟩
        refine qW_some ⟨f, N, rfl, hI, trk_skip hE hT (by omega) (fun k a b z => ?_)⟩
        unfold KEY PTK at z
        rw [show k / 144 = l by omega] at z
        omega
    · rintro _ ⟨f, N, rfl, hI, hT⟩
      have nl : N 7 0 0 = (M 7 0 0) := same hI _ _ _ (by decide) (by decide) (by decide) (by decide)
      unfold qf_X0_scanLines_L4_b
      (try dsimp only)
      rw [if_pos (by omega)]
      have fn := trk_end (trk_skip (q := 2880) hE hT (by omega) (fun k a b z => by
        unfold KEY PTK at z
        omega)) hE
      rw [fn] at hI ⊢
      exact qW_some ⟨N, rfl, hI⟩
  · rintro _ ⟨N, rfl, hI⟩
    exact qW_some ⟨rfl, hI⟩
/-- what the class has, when it has found them -/
def PTC (M N : qm) (nn : Int) (aa : Int → Int) : Prop := SCM M N ∧ (N 824 3 0) = nn ∧ (N 824 7 0) = (nn + 63) / 64 ∧ (∀ i, ¬ (i = 3 ∨ i = 7) → N 824 i 0 = M 824 i 0) ∧ N 825 (-1) 0 = 13 * nn ∧ N 826 (-1) 0 = 60 * nn ∧ N 827 (-1) 0 = nn * ((nn + 63) / 64) ∧ (∀ i, 0 ≤ i → (N 827 i 0) = 0) ∧ ∀ j, 0 ≤ j → j < nn → POR M N j (aa j / 144) (aa j / 24 % 6) (aa j % 24)
theorem ports_C (h_lines : R_lines M K) (h_ends : R_ends M K) (h_doorn : R_doorn M K) (h_doors : R_doors M K) (h : FNW M K M0 K0 A D0 D E F G H C q m p R stt cnt) (hc : CUR M M0) (hO : OWR M S) (S0 : 0 ≤ S) (S1 : S ≤ 100) (hE : ENM (KEY M) nn aa) : qW (qf_X0_findPortals 20000 M) (fun o => PTC M o.2 nn aa) := by
  have n1 := key_n h_lines h_ends h_doorn h_doors h hc hE
  have n0 := hE.1
  unfold qf_X0_findPortals
  refine qW_call (scanLines_r (w := 0) (N0 := M) h_lines h_ends h_doorn h_doors h hc hO S0 S1 hE (fun _ _ _ _ _ _ _ => rfl) (fun z => by omega) (Or.inl rfl) ⟨fun _ _ _ _ => rfl, Or.inl ⟨rfl, rfl⟩⟩) ?_
  rintro ⟨n', N1⟩ ⟨hn, hI⟩
  (try dsimp only at hn hI ⊢)
  have eN : N1 = M := by
    rcases hI.2 with z | z
    · exact z.2
    · omega
  rw [hn, eN, w32_id (x := nn * 13) (by omega) (by omega), w32_id (x := nn * 20) (by omega) (by omega), w32_id (x := nn * 20 * 3) (by omega) (by omega), w32_id (x := nn + 63) (by omega) (by omega), if_pos (by omega)]
  refine qW_bnd ?_
  rw [if_pos (by omega)]
  refine qW_bnd ?_
  refine qW_bnd ?_
  have q0 : (0 : Int) ≤ nn + 63 := by omega
  rw [Int.tdiv_eq_ediv_of_nonneg q0]
  have lw : (nn + 63) / 64 ≤ 21 ∧ 0 ≤ (nn + 63) / 64 := by omega
  obtain ⟨L, hL⟩ : ∃ L, (nn + 63) / 64 = L := ⟨_, rfl⟩
  rw [hL] at lw ⊢
  have mul : 0 ≤ nn * L ∧ nn * L ≤ 27720 := by
    have a := Int.mul_nonneg n0 lw.2
    have b : nn * L ≤ 1320 * 21 := Int.mul_le_mul n1 lw.1 lw.2 (by decide)
    omega
  have eL : qw (qnew (qnew M 825 (nn * 13)) 826 (nn * 20 * 3)) 824 7 0 L 824 7 0 = L := qw_s
  rw [eL, w32_id (x := nn * L) (by omega) (by omega), if_pos mul]
  refine qW_bnd (qW_bnd ?_)
  obtain ⟨N0, hN0⟩ : ∃ N0, qw (qnew (qw (qnew (qnew M 825 (nn * 13)) 826 (nn * 20 * 3)) 824 7 0 L) 827 (nn * L)) 824 3 0 nn = N0 := ⟨_, rfl⟩
  rw [hN0]
  have cells : ∀ b i j, N0 b i j = if b = 824 ∧ i = 3 ∧ j = 0 then nn else if b = 827 then (if i = -1 ∧ j = 0 then nn * L else 0) else if b = 824 ∧ i = 7 ∧ j = 0 then L else if b = 826 then (if i = -1 ∧ j = 0 then nn * 20 * 3 else 0) else if b = 825 then (if i = -1 ∧ j = 0 then nn * 13 else 0) else M b i j := fun b i j => by
    rw [← hN0, qw_ap]
    unfold qnew
    rw [qw_ap]
  have sc : SCM M N0 := fun b i j b1 b2 b3 b4 => by
    rw [cells, if_neg (fun z => b1 z.1), if_neg b4, if_neg (fun z => b1 z.1), if_neg b3, if_neg b2]
  have pn : (N0 824 3 0) = nn := by
    rw [cells, if_pos ⟨rfl, rfl, rfl⟩]
  refine qW_call (scanLines_r (w := 1) (N0 := N0) (N := N0) h_lines h_ends h_doorn h_doors h hc hO S0 S1 hE sc (fun _ => pn) (Or.inr rfl) ⟨fun _ _ _ _ => rfl, Or.inr ⟨rfl, ?_, fun j j0 j1 => by omega, fun i hi => ?_⟩⟩) ?_
  · rw [cells, if_neg (by decide), if_neg (by decide), if_neg (by decide), if_neg (by decide), if_pos rfl, if_pos ⟨rfl, rfl⟩]
    omega
  · rw [cells, if_neg (fun z => by have := z.1; omega), if_neg (by decide), if_neg (fun z => by have := z.1; omega), if_neg (by decide), if_pos rfl, if_neg (by omega)]
  · rintro ⟨n2, N2⟩ ⟨_, hI2⟩
    (try dsimp only at hI2 ⊢)
    have sm := hI2.1
    rcases hI2.2 with z | ⟨_, hL2, hrow, _⟩
    · omega
    · refine qW_some ⟨fun b i j b1 b2 b3 b4 => (sm b i j b2).trans (sc b i j b1 b2 b3 b4), ?_, ?_, fun i hi => ?_, hL2, ?_, ?_, fun i i0 => ?_, hrow⟩
      · exact (sm _ _ _ (by decide)).trans pn
      · rw [hL]
        refine (sm _ _ _ (by decide)).trans ?_
        rw [cells, if_neg (by decide), if_neg (by decide), if_pos ⟨rfl, rfl, rfl⟩]
      · refine (sm _ _ _ (by decide)).trans ?_
        rw [cells, if_neg (fun z => hi (Or.inl z.2.1)), if_neg (by decide), if_neg (fun z => hi (Or.inr z.2.1)), if_neg (by decide), if_neg (by decide)]
      · refine (sm _ _ _ (by decide)).trans ?_
        rw [cells, if_neg (by decide), if_neg (by decide), if_neg (by decide), if_pos rfl, if_pos ⟨rfl, rfl⟩]
        omega
      · rw [hL]
        refine (sm _ _ _ (by decide)).trans ?_
        rw [cells, if_neg (by decide), if_pos rfl, if_pos ⟨rfl, rfl⟩]
      · refine (sm _ _ _ (by decide)).trans ?_
        rw [cells, if_neg (fun z => by have := z.1; omega), if_pos rfl, if_neg (by omega)]
end PF
