/-! ===== the class goes through its doors ===== -/
section PD
variable {M K N A B C D D0 E F G H T V W K0 M0 N0 N' : qm} {a b c d k n m p r s t u v x y h i j R S w l z hd e f g nn κ pos : Int} {q stt cnt o aa : Int → Int} {P : Int → Prop}
theorem lef_o (hN : SCM M N) : lef N l t = lef M l t ∧ rit N l t = rit M l t := by
  have e : ∀ i j, N 8 i j = M 8 i j := fun i j => hN _ _ _ (by decide) (by decide) (by decide) (by decide)
  have o : oF N = oF M := by
    funext v
    exact hN _ _ _ (by decide) (by decide) (by decide) (by decide)
  unfold lef rit uxx uyy dll
  rw [o, e, e, e]
  exact ⟨rfl, rfl⟩
theorem por_o (h : ∀ i, 13 * j ≤ i → i ≤ 13 * j + 12 → (N' 825 i 0) = (N 825 i 0)) (hp : POR M N j l d t) : POR M N' j l d t := by
  unfold POR at hp ⊢
  rw [h (13 * j) (by omega) (by omega), h (13 * j + 1) (by omega) (by omega), h (13 * j + 2) (by omega) (by omega), h (13 * j + 3) (by omega) (by omega), h (13 * j + 4) (by omega) (by omega), h (13 * j + 5) (by omega) (by omega), h (13 * j + 6) (by omega) (by omega), h (13 * j + 7) (by omega) (by omega), h (13 * j + 8) (by omega) (by omega), h (13 * j + 9) (by omega) (by omega), h (13 * j + 10) (by omega) (by omega), h (13 * j + 11) (by omega) (by omega), h (13 * j + 12) (by omega) (by omega)]
  exact hp
/-- while it goes through them, with f portals behind it -/
def SCI (w : Int) (M N0 N : qm) (nn : Int) (aa : Int → Int) (f : Int) : Prop := (∀ b i j, b ≠ 825 → N b i j = N0 b i j) ∧ ((w = 0 ∧ N = N0) ∨ (w = 1 ∧ (N 825 (-1) 0) = 13 * nn ∧ (∀ j, 0 ≤ j → j < f → POR M N j (aa j / 144) (aa j / 24 % 6) (aa j % 24)) ∧ ∀ i, 13 * f ≤ i → (N 825 i 0) = 0))
theorem part_r (h_lines : R_lines M K) (h_ends : R_ends M K) (h_doorn : R_doorn M K) (h_doors : R_doors M K) (h : FNW M K M0 K0 A D0 D E F G H C q m p R stt cnt) (hc : CUR M M0) (hO : OWR M S) (S0 : 0 ≤ S) (S1 : S ≤ 100) (hE : ENM (KEY M) nn aa) (h0 : SCM M N0) (hp : w = 1 → (N0 824 3 0) = nn) (w01 : w = 0 ∨ w = 1) (l0 : 0 ≤ l) (l1 : l < (M 7 0 0)) (d0 : 0 ≤ d) (d1 : d < (M 29 l 0)) (t0 : (M 30 l (3 * d)) ≤ t) (t1 : t < (M 30 l (3 * d + 1))) (hI : SCI w M N0 N nn aa f) (hT : TRK nn aa (144 * l + 24 * d + t) f) : qW (qf_X0_scanDoor_L26_b 20000 l d f w (M 30 l (3 * d)) (M 30 l (3 * d + 1)) t N) (fun o => ∃ f' N', o = .inr (l, d, f', w, (M 30 l (3 * d)), (M 30 l (3 * d + 1)), t + 1, N') ∧ SCI w M N0 N' nn aa f' ∧ TRK nn aa (144 * l + 24 * d + t + 1) f') := by
  have n1 := key_n h_lines h_ends h_doorn h_doors h hc hE
  have s_lines := h_lines
  unfold R_lines at s_lines
  have rn := h_doorn l l0 (by omega)
  have rd := h_doors l d l0 (by omega) d0 d1
  have ln := lenC_e h_ends l0 l1
  have hN : SCM M N := fun b i j b1 b2 b3 b4 => (hI.1 b i j b2).trans (h0 b i j b1 b2 b3 b4)
  have r1 : R_lines N K := R_lines_x (hN _ _ _ (by decide) (by decide) (by decide) (by decide)) rfl h_lines
  have r2 : R_ends N K := R_ends_x (hN _ _ _ (by decide) (by decide) (by decide) (by decide)) (fun i j => hN _ _ _ (by decide) (by decide) (by decide) (by decide)) (fun _ _ => rfl) (fun _ _ => rfl) (fun _ _ => rfl) (fun _ _ => rfl) h_ends
  have eN : ∀ j, N 8 l j = (M 8 l j) := fun j => hN _ _ _ (by decide) (by decide) (by decide) (by decide)
  have nl : N 7 0 0 = (M 7 0 0) := hN _ _ _ (by decide) (by decide) (by decide) (by decide)
  obtain ⟨e1, e2, _⟩ := room_e (M := N) (N := N) r1 r2 l0 (by omega) (t := t) (by omega) (by unfold lenC at ln; rw [eN, eN, eN, eN]; omega) (fun _ _ _ _ => rfl)
  rw [(lef_o hN).1] at e1
  rw [(lef_o hN).2] at e2
  obtain ⟨hl, hx, hy, b1, b2, b3, b4⟩ := unit_e h_lines h_ends l0 l1 (show 0 ≤ t by omega) (show t < lenC M l by omega) hN
  obtain ⟨s, s0, s1, sl, a0, a1⟩ := in_piece h_ends h hc l0 l1 (show 0 ≤ t by omega) (show t < lenC M l by omega)
  have pt := piece_pt h hc s0 s1 sl a0 a1
  have iz : isP M l t = 0 ∨ isP M l t = 1 := by
    rw [pt]
    exact b01_01
  have eP : qf_X2_isPointOn 20000 l t N = some (isP M l t) := by
    refine qW_e ?_
    unfold qf_X2_isPointOn
    refine qW_eq hx (qW_eq hy ?_)
    have ei : (N 55 (25 * uxx M l t + uyy M l t) 0) = isP M l t := hN _ _ _ (by decide) (by decide) (by decide) (by decide)
    rw [w32_id (x := uxx M l t * 25) (by omega) (by omega), w32_id (x := uxx M l t * 25 + uyy M l t) (by omega) (by omega), show uxx M l t * 25 + uyy M l t = 25 * uxx M l t + uyy M l t by omega, if_pos (by omega), ei, if_pos iz]
    exact qW_some rfl
  have ke := fun hk => key_e h_lines h_ends h_doorn h_doors (l := l) (d := d) (t := t) hk
  have kq : ∀ k, 144 * l + 24 * d + t ≤ k → k < 144 * l + 24 * d + t + 1 → KEY M k → PTK M l d t := fun k a b z => by
    have ek : k = 144 * l + 24 * d + t := by omega
    unfold KEY at z
    rw [ek, show (144 * l + 24 * d + t) / 144 = l by omega, show (144 * l + 24 * d + t) / 24 % 6 = d by omega, show (144 * l + 24 * d + t) % 24 = t by omega] at z
    exact z
  have skip : ¬ PTK M l d t → TRK nn aa (144 * l + 24 * d + t + 1) f := fun z => trk_skip hE hT (by omega) (fun k a b y => z (kq k a b y))
  have take : PTK M l d t → f < nn ∧ aa f = 144 * l + 24 * d + t ∧ TRK nn aa (144 * l + 24 * d + t + 1) (f + 1) := fun z => by
    have k := ke z
    exact trk_take hE hT k.2.1 k.2.2.1 (Int.le_refl _) (by omega) k.1 (fun k a b _ => by omega)
  have fn := hT.2.1
  have f0 := hT.1
  obtain ⟨from_, hf⟩ : ∃ v, (M 30 l (3 * d)) = v := ⟨_, rfl⟩
  obtain ⟨to_, ht⟩ : ∃ v, (M 30 l (3 * d + 1)) = v := ⟨_, rfl⟩
  rw [hf, ht] at rd
  rw [hf] at t0 ⊢
  rw [ht] at t1 ⊢
  have pk : PTK M l d t ↔ (t = from_ ∨ isP M l t = 1) ∧ lef M l t ≠ rit M l t := by
    unfold PTK
    rw [hf, ht]
    exact ⟨fun z => z.2.2.2.2.2.2, fun z => ⟨l0, l1, d0, d1, t0, t1, z⟩⟩
  have main : ∀ c, (c = 0 ∧ ¬ (t = from_ ∨ isP M l t = 1)) ∨ (c = 1 ∧ (t = from_ ∨ isP M l t = 1)) → qW (qf_X0_scanDoor_J58 20000 l d f w from_ to_ t c N) (fun o => ∃ f' N', o = .inr (l, d, f', w, from_, to_, t + 1, N') ∧ SCI w M N0 N' nn aa f' ∧ TRK nn aa (144 * l + 24 * d + t + 1) f') := by
    intro c hcc
    unfold qf_X0_scanDoor_J58
    refine qW_eq e1 (qW_eq e2 ?_)
    rw [w32_id (x := t + 1) (by omega) (by omega), w32_id (x := f + 1) (by omega) (by omega)]
    rcases hcc with ⟨rfl, no⟩ | ⟨rfl, yes⟩
    · rw [if_pos rfl]
      exact qW_some ⟨f, N, rfl, hI, skip (fun z => no (pk.mp z).1)⟩
    · rw [if_neg (by decide)]
      by_cases g : lef M l t = rit M l t
      · rw [if_pos g]
        exact qW_some ⟨f, N, rfl, hI, skip (fun z => (pk.mp z).2 g)⟩
      · rw [if_neg g]
        have tk := take (pk.mpr ⟨yes, g⟩)
        rcases hI.2 with ⟨w0, eNN⟩ | ⟨w1, hL, hrow, hzero⟩
        · rw [if_pos w0]
          exact qW_some ⟨f + 1, N, rfl, ⟨hI.1, Or.inl ⟨w0, eNN⟩⟩, tk.2.2⟩
        · have pp : (N 824 3 0) = nn := (hI.1 _ _ _ (by decide)).trans (hp w1)
          rw [if_neg (by omega), if_neg (by omega)]
          refine qW_call (note_e h_lines h_ends l0 l1 (show 0 ≤ t by omega) (show t < lenC M l by omega) hN f0 tk.1 n1 hL) ?_
          rintro ⟨_, N1⟩ ⟨q1, q2, q3⟩
          (try dsimp only at q1 q2 q3 ⊢)
          have L1 : N1 825 (-1) 0 = 13 * nn := by
            rw [q3, if_neg (by omega), if_neg (by omega), if_neg (by omega), if_neg (by omega), if_neg (by omega), if_neg (by omega)]
            exact hL
          refine qW_eq (setP_e f0 tk.1 n1 (by decide) (by decide) L1) ?_
          (try dsimp only)
          have c1 : SCM M (qw N1 825 (13 * f + 3) 0 d) := fun b i j b1 b2 b3 b4 => (qw_a b2).trans (q1 b i j b1 b2 b3 b4)
          have L2 : qw N1 825 (13 * f + 3) 0 d 825 (-1) 0 = 13 * nn := by
            rw [qw_one, if_neg (by omega)]
            exact L1
          refine qW_eq (roomFor_e c1) ?_
          refine qW_eq (setP_e f0 tk.1 n1 (by decide) (by decide) L2) ?_
          (try dsimp only)
          have c2 : SCM M (qw (qw N1 825 (13 * f + 3) 0 d) 825 (13 * f + 0) 0 (rmf M (lef M l t))) := fun b i j b1 b2 b3 b4 => (qw_a b2).trans (c1 b i j b1 b2 b3 b4)
          have L3 : qw (qw N1 825 (13 * f + 3) 0 d) 825 (13 * f + 0) 0 (rmf M (lef M l t)) 825 (-1) 0 = 13 * nn := by
            rw [qw_one, if_neg (by omega)]
            exact L2
          refine qW_eq (roomFor_e c2) ?_
          refine qW_eq (setP_e f0 tk.1 n1 (by decide) (by decide) L3) ?_
          (try dsimp only)
          have fin : ∀ i, qw (qw (qw N1 825 (13 * f + 3) 0 d) 825 (13 * f + 0) 0 (rmf M (lef M l t))) 825 (13 * f + 1) 0 (rmf M (rit M l t)) 825 i 0 = if i = 13 * f + 1 then rmf M (rit M l t) else if i = 13 * f + 0 then rmf M (lef M l t) else if i = 13 * f + 3 then d else N1 825 i 0 := fun i => by
            rw [qw_one, qw_one, qw_one]
          have keep : ∀ i, (i < 13 * f ∨ 13 * f + 12 < i ∨ i = 13 * f + 8 ∨ i = 13 * f + 9 ∨ i = 13 * f + 10 ∨ i = 13 * f + 12) → qw (qw (qw N1 825 (13 * f + 3) 0 d) 825 (13 * f + 0) 0 (rmf M (lef M l t))) 825 (13 * f + 1) 0 (rmf M (rit M l t)) 825 i 0 = N 825 i 0 := fun i hi => by
            rw [fin, if_neg (by omega), if_neg (by omega), if_neg (by omega), q3, if_neg (by omega), if_neg (by omega), if_neg (by omega), if_neg (by omega), if_neg (by omega), if_neg (by omega)]
          refine qW_some ⟨f + 1, _, rfl, ⟨fun b i j hb => ?_, Or.inr ⟨w1, ?_, fun j j0 j1 => ?_, fun i hi => ?_⟩⟩, tk.2.2⟩
          · rw [qw_a hb, qw_a hb, qw_a hb, q2 b i j hb]
            exact hI.1 b i j hb
          · rw [keep _ (by omega)]
            exact hL
          · by_cases ej : j = f
            · rw [ej, tk.2.1, show (144 * l + 24 * d + t) / 144 = l by omega, show (144 * l + 24 * d + t) / 24 % 6 = d by omega, show (144 * l + 24 * d + t) % 24 = t by omega]
              refine ⟨?_, ?_, ?_, ?_, ?_, ?_, ?_, ?_, ?_, ?_, ?_, ?_, ?_⟩
              · rw [fin, if_neg (by omega), if_pos (by omega)]
              · rw [fin, if_pos rfl]
              · rw [fin, if_neg (by omega), if_neg (by omega), if_neg (by omega), q3, if_neg (by omega), if_neg (by omega), if_neg (by omega), if_neg (by omega), if_neg (by omega), if_pos rfl]
              · rw [fin, if_neg (by omega), if_neg (by omega), if_pos rfl]
              · rw [fin, if_neg (by omega), if_neg (by omega), if_neg (by omega), q3, if_neg (by omega), if_neg (by omega), if_neg (by omega), if_neg (by omega), if_pos rfl]
              · rw [fin, if_neg (by omega), if_neg (by omega), if_neg (by omega), q3, if_neg (by omega), if_neg (by omega), if_neg (by omega), if_pos rfl]
              · rw [fin, if_neg (by omega), if_neg (by omega), if_neg (by omega), q3, if_neg (by omega), if_neg (by omega), if_pos rfl]
              · rw [fin, if_neg (by omega), if_neg (by omega), if_neg (by omega), q3, if_neg (by omega), if_pos rfl]
              · rw [fin, if_neg (by omega), if_neg (by omega), if_neg (by omega), q3, if_pos rfl]
              · rw [keep _ (by omega)]
                exact hzero _ (by omega)
              · rw [keep _ (by omega)]
                exact hzero _ (by omega)
              · rw [keep _ (by omega)]
                exact hzero _ (by omega)
              · rw [keep _ (by omega)]
                exact hzero _ (by omega)
            · exact por_o (fun i i0 i1 => keep i (by omega)) (hrow j j0 (by omega))
          · rw [keep i (by omega)]
            exact hzero i (by omega)
  unfold qf_X0_scanDoor_L26_b qf_X0_scanDoor_J53
  rw [if_neg (by omega)]
  by_cases g : t = from_
  · rw [if_pos g]
    exact main 1 (Or.inr ⟨rfl, Or.inl g⟩)
  · rw [if_neg g]
    refine qW_eq eP ?_
    rcases iz with y | y
    · rw [if_pos y]
      exact main 0 (Or.inl ⟨rfl, by omega⟩)
    · rw [if_neg (by omega)]
      exact main 1 (Or.inr ⟨rfl, Or.inr y⟩)
end PD
