/-! ===== portals, both sides ===== -/
section PJ
variable {M K N A B C D D0 E F G H T V W K0 M0 : qm} {a b c d k n m p r s t u v x y h i j R S w l z e f g nn κ pos q : Int} {q' stt cnt o aa : Int → Int} {P : Int → Prop}
/-- nothing was written about portals before -/
def ZPO (K : qm) : Prop := ∀ j, 0 ≤ j → j < 1400 → K 2294 j 0 = 0 ∧ K 2295 j 0 = 0 ∧ K 2296 j 0 = 0 ∧ K 2298 j 0 = 0
theorem ports_both (h_lines : R_lines M K) (h_ends : R_ends M K) (h_doorn : R_doorn M K) (h_doors : R_doors M K) (h : FNW M K M0 K0 A D0 D E F G H C q' m p R stt cnt) (hc : CUR M M0) (hO : OWR M (M 51 3 0)) (S0 : 0 ≤ (M 51 3 0)) (hR : (K 2156 9 0) = (M 51 3 0)) (hB : (M 6 11 0) ≠ 0) (hp : 0 ≤ M 6 12 0) (hZ : ZPO K) (hE : ENM (KEY M) nn aa) (hC : PTC M N nn aa) (hK : RKI M K W aa nn) : R_portn N W ∧ R_portw N W ∧ R_portc N W ∧ R_porto N W ∧ R_portk N W ∧ R_portr N W ∧ R_portq N W := by
  have n1 := key_n h_lines h_ends h_doorn h_doors h hc hE
  have n0 := hE.1
  have s_lines := h_lines
  unfold R_lines at s_lines
  obtain ⟨c1, c2, c3, c4, c5, c6, c7, c8, c9⟩ := hC
  obtain ⟨k1, k2, k3⟩ := hK
  have rW : W 2156 9 0 = (M 51 3 0) := (k1 _ _ _ (by decide) (by decide) (by decide)).trans hR
  have pN : N 824 3 0 = nn := c2
  have zW : ∀ j, 0 ≤ j → j < nn → W 2294 j 0 = 0 ∧ W 2295 j 0 = 0 ∧ W 2296 j 0 = 0 ∧ W 2298 j 0 = 0 := fun j j0 j1 => by
    have z := hZ j j0 (by omega)
    rw [k1 _ _ _ (by decide) (by decide) (by omega), k1 _ _ _ (by decide) (by decide) (by omega), k1 _ _ _ (by decide) (by decide) (by omega), k1 _ _ _ (by decide) (by decide) (by omega)]
    exact z
  have rb : ∀ v, -1 ≤ v → v < (M 51 3 0) → 0 ≤ rmf M v ∧ rmf M v ≤ (M 51 3 0) ∧ (rmf M v ≠ (M 51 3 0) → v ≠ -1 ∧ rmf M v = v) := fun v v0 v1 => by
    unfold rmf
    by_cases g : v = -1
    · rw [if_pos g]
      exact ⟨S0, Int.le_refl _, fun z => absurd rfl z⟩
    · rw [if_neg g]
      exact ⟨by omega, by omega, fun _ => ⟨g, rfl⟩⟩
  have rne : ∀ u v, -1 ≤ u → u < (M 51 3 0) → -1 ≤ v → v < (M 51 3 0) → u ≠ v → rmf M u ≠ rmf M v := fun u v a b c d ne => by
    unfold rmf
    by_cases g1 : u = -1
    · rw [if_pos g1]
      by_cases g2 : v = -1
      · omega
      · rw [if_neg g2]
        omega
    · rw [if_neg g1]
      by_cases g2 : v = -1
      · rw [if_pos g2]
        omega
      · rw [if_neg g2]
        exact ne
  have row : ∀ j, 0 ≤ j → j < nn → ∃ l d t, PTK M l d t ∧ POR M N j l d t ∧ PRK M W j l d t := fun j j0 j1 => ⟨_, _, _, (hE.2.1 j j0 j1).2.2, c9 j j0 j1, k3 j j0 j1⟩
  have geo : ∀ l d t, PTK M l d t → 0 ≤ t ∧ t < (K 2161 l 0) ∧ ((K 2160 l 0) = 0 → uxx M l t = (K 2158 l 0) ∧ uyy M l t = (K 2159 l 0) + t ∧ dll M l = 1) ∧ ((K 2160 l 0) ≠ 0 → uxx M l t = (K 2158 l 0) + t ∧ uyy M l t = (K 2159 l 0) ∧ dll M l = 0) := fun l d t hk => by
    obtain ⟨l0, l1, d0, d1, t0, t1, _⟩ := hk
    have rd := h_doors l d l0 (by omega) d0 d1
    have re := h_ends l l0 l1
    have lx : (K 2158 l 0) = (M 8 l 0) := re.2.2.1.symm
    have ly : (K 2159 l 0) = (M 8 l 1) := re.2.2.2.1.symm
    rw [lx, ly]
    refine ⟨by omega, by omega, fun z => ?_, fun z => ?_⟩
    · rw [z, if_pos rfl, if_pos rfl] at re
      have g : (M 8 l 1) ≠ (M 8 l 3) := by omega
      unfold uxx uyy dll
      rw [if_neg g, if_neg g, if_neg g]
      exact ⟨rfl, rfl, rfl⟩
    · rw [if_neg z, if_neg z] at re
      have g : (M 8 l 1) = (M 8 l 3) := by omega
      unfold uxx uyy dll
      rw [if_pos g, if_pos g, if_pos g]
      exact ⟨rfl, rfl, rfl⟩
  have eK : ∀ b i, b ≤ 2182 → b ≠ 2156 → W b i 0 = K b i 0 := fun b i hb hb2 => k1 b i 0 (by omega) (by omega) (by omega)
  have nl : N 7 0 0 = (M 7 0 0) := c1 _ _ _ (by decide) (by decide) (by decide) (by decide)
  have n6 : ∀ i, N 6 i 0 = M 6 i 0 := fun i => c1 _ _ _ (by decide) (by decide) (by decide) (by decide)
  refine ⟨?_, fun j j0 j1 => ?_, fun j j0 j1 => ?_, fun j j0 j1 => ?_, fun j j0 j1 => ?_, fun j k j0 j1 k0 k1' => ?_, fun j j0 j1 => ?_⟩
  · unfold R_portn
    have l7 : N 824 7 0 = (nn + 63) / 64 := c3
    rw [pN, l7]
    refine ⟨n0, n1, k2, c5, c6, rfl, c7, fun z => ?_⟩
    rw [n6] at z
    exact absurd z hB
  · rw [pN] at j1
    obtain ⟨l, d, t, hk, hp, hr⟩ := row j j0 j1
    have b := lr_b (l := l) (t := t) hO S0
    have bl := rb _ b.1.1 b.1.2
    have br := rb _ b.2.1 b.2.2
    have ne := rne _ _ b.1.1 b.1.2 b.2.1 b.2.2 hk.2.2.2.2.2.2.2
    rw [rW, nl, hr.1, hr.2.1, hr.2.2.1, hr.2.2.2.1, hp.1, hp.2.1, hp.2.2.1, hp.2.2.2.1]
    exact ⟨rfl, rfl, rfl, rfl, ne, bl.1, bl.2.1, br.1, br.2.1, hk.1, hk.2.1⟩
  · rw [pN] at j1
    obtain ⟨l, d, t, hk, hp, hr⟩ := row j j0 j1
    have g := geo l d t hk
    obtain ⟨_, _, p2, _, p4, p5, p6, p7, _⟩ := hp
    rw [hr.2.2.1, hr.2.2.2.2.1, eK 2161 _ (by decide) (by decide), eK 2160 _ (by decide) (by decide), eK 2158 _ (by decide) (by decide), eK 2159 _ (by decide) (by decide), p4, p5, p6, p7]
    refine ⟨g.1, g.2.1, ?_⟩
    by_cases z : (K 2160 l 0) = 0
    · have w := g.2.2.1 z
      rw [if_pos z, w.1, w.2.1, w.2.2, if_neg (by decide), if_neg (by decide)]
      exact ⟨rfl, rfl, rfl, rfl⟩
    · have w := g.2.2.2 z
      rw [if_neg z, w.1, w.2.1, w.2.2, if_pos rfl, if_pos rfl]
      exact ⟨rfl, rfl, rfl, rfl⟩
  · rw [pN] at j1
    obtain ⟨l, d, t, hk, hp', hr⟩ := row j j0 j1
    obtain ⟨_, _, _, _, _, _, _, _, _, p8, p9, p10, p12⟩ := hp'
    have z := zW j j0 j1
    rw [z.1, z.2.1, z.2.2.1, p8, p9, p10, n6]
    exact ⟨rfl, Or.inl rfl, rfl, Int.le_refl 0, hp, rfl, Or.inl rfl⟩
  · rw [pN] at j1
    obtain ⟨l, d, t, hk, hp', hr⟩ := row j j0 j1
    obtain ⟨_, _, _, _, _, _, _, _, p11, p8, p9, p10, p12⟩ := hp'
    have z := zW j j0 j1
    rw [z.2.2.2, hr.2.2.2.2.2, p11, p12]
    exact ⟨Or.inl ⟨rfl, rfl, rfl⟩, rfl, Int.le_refl 0, by decide⟩
  · rw [pN] at j1
    have z := zW j j0 j1
    omega
  · rw [pN] at j1
    obtain ⟨l, d, t, hk, hp', hr⟩ := row j j0 j1
    have b := lr_b (l := l) (t := t) hO S0
    have bl := rb _ b.1.1 b.1.2
    have br := rb _ b.2.1 b.2.2
    obtain ⟨q0, q1, _, _, p4, p5, p6, p7, _⟩ := hp'
    rw [rW, q0, q1, p4, p5, p6, p7]
    have n56 : ∀ i, N 56 i 0 = oF M i := fun i => c1 _ _ _ (by decide) (by decide) (by decide) (by decide)
    have dl : dll M l = 0 ∨ dll M l = 1 := by
      unfold dll
      split
      · exact Or.inl rfl
      · exact Or.inr rfl
    have r0 : rgt 0 = 3 := rfl
    have f0x : ∀ x, lfx 0 x = x := fun _ => rfl
    have f0y : ∀ y, lfy 0 y = y := fun _ => rfl
    have f1x : ∀ x, lfx 1 x = x - 1 := fun _ => rfl
    have f1y : ∀ y, lfy 1 y = y := fun _ => rfl
    have f3x : ∀ x, lfx 3 x = x := fun _ => rfl
    have f3y : ∀ y, lfy 3 y = y - 1 := fun _ => rfl
    have r1 : rgt 1 = 0 := rfl
    have xx : ∀ X Y, ext (oF M) (-1) X Y ≠ -1 → 0 ≤ X ∧ X < 24 ∧ 0 ≤ Y ∧ Y < 24 ∧ oF M (24 * X + Y) = ext (oF M) (-1) X Y := fun X Y z => by
      unfold ext at z ⊢
      by_cases g : 0 ≤ X ∧ X < 24 ∧ 0 ≤ Y ∧ Y < 24
      · rw [if_pos g]
        exact ⟨g.1, g.2.1, g.2.2.1, g.2.2.2, rfl⟩
      · rw [if_neg g] at z
        exact absurd rfl z
    have xL : lef M l t ≠ -1 → 0 ≤ (if dll M l = 0 then uxx M l t else uxx M l t - 1) ∧ (if dll M l = 0 then uxx M l t else uxx M l t - 1) < 24 ∧ 0 ≤ uyy M l t ∧ uyy M l t < 24 ∧ oF M (24 * (if dll M l = 0 then uxx M l t else uxx M l t - 1) + uyy M l t) = lef M l t := fun z => by
      unfold lef lfo at z ⊢
      rcases dl with e | e
      · rw [e, f0x, f0y] at z ⊢
        rw [if_pos rfl]
        exact xx _ _ z
      · rw [e, f1x, f1y] at z ⊢
        rw [if_neg (by decide)]
        exact xx _ _ z
    have xR : rit M l t ≠ -1 → 0 ≤ uxx M l t ∧ uxx M l t < 24 ∧ 0 ≤ (if dll M l = 0 then uyy M l t - 1 else uyy M l t) ∧ (if dll M l = 0 then uyy M l t - 1 else uyy M l t) < 24 ∧ oF M (24 * uxx M l t + (if dll M l = 0 then uyy M l t - 1 else uyy M l t)) = rit M l t := fun z => by
      unfold rit lfo at z ⊢
      rcases dl with e | e
      · rw [e, r0, f3x, f3y] at z ⊢
        rw [if_pos rfl]
        exact xx _ _ z
      · rw [e, r1, f0x, f0y] at z ⊢
        rw [if_neg (by decide)]
        exact xx _ _ z
    refine ⟨fun z => ?_, fun z => ?_⟩
    · have y := bl.2.2 z
      rw [n56, y.2]
      exact xL y.1
    · have y := br.2.2 z
      rw [n56, y.2]
      exact xR y.1
end PJ
