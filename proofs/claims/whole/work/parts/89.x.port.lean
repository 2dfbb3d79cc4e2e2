/-! ===== parts of doors ===== -/
section PA
variable {M K N A B C D D0 E F G H T V W K0 M0 : qm} {a b c d k n m p r s t u v x y h i j R S w l z hd e : Int} {q stt cnt o f : Int → Int} {P : Int → Prop}
def lenC (M : qm) (l : Int) : Int := (M 8 l 2) - (M 8 l 0) + (M 8 l 3) - (M 8 l 1)
theorem lenC_e (h_ends : R_ends M K) (l0 : 0 ≤ l) (l1 : l < (M 7 0 0)) : (K 2161 l 0) = lenC M l ∧ 1 ≤ lenC M l ∧ lenC M l ≤ 24 := by
  have re := h_ends l l0 l1
  unfold lenC
  rcases re.1 with z | z
  · rw [z, if_pos rfl, if_pos rfl] at re
    omega
  · rw [z, if_neg (by decide), if_neg (by decide)] at re
    omega
/-- a unit of a line is in a piece of it -/
theorem in_piece (h_ends : R_ends M K) (h : FNW M K M0 K0 A D0 D E F G H C q m p R stt cnt) (hc : CUR M M0) (l0 : 0 ≤ l) (l1 : l < (M 7 0 0)) (t0 : 0 ≤ t) (t1 : t < lenC M l) : ∃ s, 0 ≤ s ∧ s < p ∧ sL G (2 * s) = l ∧ loA M G (2 * s) ≤ t ∧ t < loA M G (2 * s) + sN G (2 * s) := by
  have cl := hc.1
  have re := h_ends l l0 l1
  have eb := ends_b h_ends l0 l1
  unfold lenC at t1
  have e := fun j => hc.2 l j l0 (by omega)
  have on : onU M0 l (dll M l) (uxx M l t) (uyy M l t) ∧ 0 ≤ uxx M l t ∧ uxx M l t ≤ 24 ∧ 0 ≤ uyy M l t ∧ uyy M l t ≤ 24 ∧ (dll M l = 0 ∨ dll M l = 1) := by
    unfold onU dll uxx uyy
    rw [← e 0, ← e 1, ← e 2, ← e 3]
    by_cases g : (M 8 l 1) = (M 8 l 3)
    · rw [if_pos g, if_pos g, if_pos g]
      exact ⟨Or.inl ⟨rfl, g, rfl, by omega, by omega⟩, by omega, by omega, by omega, by omega, Or.inl rfl⟩
    · rw [if_neg g, if_neg g, if_neg g]
      exact ⟨Or.inr ⟨rfl, g, rfl, by omega, by omega⟩, by omega, by omega, by omega, by omega, Or.inr rfl⟩
  obtain ⟨on, x0, x1, y0, y1, dl⟩ := on
  have ww := wall_wf h.1.2.1 h.1.2.2.2.1 x0 x1 y0 y1 (d := dll M l) (by omega) (by omega)
  have wl : wf A (dll M l) (uxx M l t) (uyy M l t) = l := by
    rw [← ww]
    rcases h.1.2.2.2.1.2 (dll M l) _ _ (by omega) (by omega) x0 x1 y0 y1 with ⟨_, no⟩ | ⟨k0, k1, ok⟩
    · exact absurd on (no l l0 (by omega))
    · exact onU_one h.1.2.1 h.1.2.2.1 k0 k1 l0 (by omega) ok on
  obtain ⟨s, j, s0, s1, s2, j0, j1, jx, jy⟩ := unit_piece h x0 x1 y0 y1 (d := dll M l) (by omega) (by omega) (by omega)
  have ok := (fnw_ok h (by omega : 0 ≤ 2 * s) (by omega)).1
  have sl : sL G (2 * s) = l := by
    have w1 := ok.1.2.2.2.1 j j0 j1
    have w2 := ok.2.1
    rw [s2] at w1 w2
    rw [jx, jy] at w1
    omega
  have su := side_unit h hc s0 s1 j0 j1
  rw [s2, jx, jy, sl] at su
  have tj := ux_one su.2.1 su.2.2
  exact ⟨s, s0, s1, sl, by omega, by omega⟩
theorem piece_one (h : FNW M K M0 K0 A D0 D E F G H C q m p R stt cnt) (hc : CUR M M0) (s0 : 0 ≤ s) (s1 : s < p) (u0 : 0 ≤ u) (u1 : u < p) (hl : sL G (2 * u) = sL G (2 * s)) (a0 : loA M G (2 * s) ≤ t) (a1 : t < loA M G (2 * s) + sN G (2 * s)) (b0 : loA M G (2 * u) ≤ t) (b1 : t < loA M G (2 * u) + sN G (2 * u)) : u = s := by
  have x := side_unit h hc s0 s1 (i := t - loA M G (2 * s)) (by omega) (by omega)
  have y := side_unit h hc u0 u1 (i := t - loA M G (2 * u)) (by omega) (by omega)
  rw [hl] at y
  rw [show loA M G (2 * s) + (t - loA M G (2 * s)) = t by omega] at x
  rw [show loA M G (2 * u) + (t - loA M G (2 * u)) = t by omega] at y
  have w1 := x.1.symm
  have w2 := y.1.symm
  have ex := y.2.1.symm.trans x.2.1
  have ey := y.2.2.symm.trans x.2.2
  rw [w1, w2] at ex ey
  exact (unit_one h u0 u1 s0 s1 w2 w1 (by omega) (by omega) (by omega) (by omega) ex ey).1
def isP (M : qm) (l t : Int) : Int := (M 55 (25 * uxx M l t + uyy M l t) 0)
theorem piece_pt (h : FNW M K M0 K0 A D0 D E F G H C q m p R stt cnt) (hc : CUR M M0) (s0 : 0 ≤ s) (s1 : s < p) (hl : sL G (2 * s) = l) (a0 : loA M G (2 * s) ≤ t) (a1 : t < loA M G (2 * s) + sN G (2 * s)) : isP M l t = b01 (t = loA M G (2 * s)) := by
  have fp := fnw_fpi h
  have hB := h.1.2.2.2.2.2.2.2.2.1
  have h10 := h.1.2.2.2.2.2.2.2.2.2
  have ip : ∀ x y, 0 ≤ x → x ≤ 24 → 0 ≤ y → y ≤ 24 → (M 55 (25 * x + y) 0) = b01 (PT M0 A (M0 7 0 0) x y) := fun x y x0 x1 y0 y1 => by
    rw [h.2.1 55 _ 0 (by omega), h10.1 _ _ _ (by decide) (by decide) (by decide) (by decide) (by omega)]
    exact hB.2.1 x y x0 x1 y0 y1
  have x := side_unit h hc s0 s1 (i := t - loA M G (2 * s)) (by omega) (by omega)
  have mw := (memU_w h s0 s1).2.1 (t - loA M G (2 * s)) (by omega) (by omega)
  have ok := (fnw_ok h (by omega : 0 ≤ 2 * s) (by omega)).1
  have ps := side_pt h.1.1 h.1.2.1 h.1.2.2.1 h.1.2.2.2.1 fp.2.2 fp.2.1 (by omega : 0 ≤ 2 * s) (by omega)
  rw [show loA M G (2 * s) + (t - loA M G (2 * s)) = t by omega, hl] at x
  unfold isP
  rw [x.2.1, x.2.2, ip _ _ mw.1 mw.2.1 mw.2.2.1 mw.2.2.2.1]
  refine b01_c ⟨fun z => ?_, fun z => ?_⟩
  · apply Classical.byContradiction
    intro ne
    exact ok.1.2.2.2.2.1 (t - loA M G (2 * s)) (by omega) (by omega) z
  · rw [show t - loA M G (2 * s) = 0 by omega, gx_0, gy_0]
    exact ps
/-- a portal begins there -/
def PTK (M : qm) (l d t : Int) : Prop := 0 ≤ l ∧ l < (M 7 0 0) ∧ 0 ≤ d ∧ d < (M 29 l 0) ∧ (M 30 l (3 * d)) ≤ t ∧ t < (M 30 l (3 * d + 1)) ∧ (t = (M 30 l (3 * d)) ∨ isP M l t = 1) ∧ lef M l t ≠ rit M l t
def KEY (M : qm) (k : Int) : Prop := PTK M (k / 144) (k / 24 % 6) (k % 24)
theorem key_e (h_lines : R_lines M K) (h_ends : R_ends M K) (h_doorn : R_doorn M K) (h_doors : R_doors M K) (hp : PTK M l d t) : KEY M (144 * l + 24 * d + t) ∧ 0 ≤ 144 * l + 24 * d + t ∧ 144 * l + 24 * d + t < 2880 ∧ 0 ≤ t ∧ t < 24 ∧ d < 6 := by
  have s_lines := h_lines
  unfold R_lines at s_lines
  obtain ⟨l0, l1, d0, d1, t0, t1, z⟩ := hp
  have rn := h_doorn l l0 (by omega)
  have rd := h_doors l d l0 (by omega) d0 d1
  have ln := lenC_e h_ends l0 l1
  refine ⟨?_, by omega, by omega, by omega, by omega, by omega⟩
  unfold KEY
  rw [show (144 * l + 24 * d + t) / 144 = l by omega, show (144 * l + 24 * d + t) / 24 % 6 = d by omega, show (144 * l + 24 * d + t) % 24 = t by omega]
  exact ⟨l0, l1, d0, d1, t0, t1, z⟩
/-- there are no more than that -/
theorem key_n (h_lines : R_lines M K) (h_ends : R_ends M K) (h_doorn : R_doorn M K) (h_doors : R_doors M K) (h : FNW M K M0 K0 A D0 D E F G H C q m p R stt cnt) (hc : CUR M M0) {nn : Int} {aa : Int → Int} (hE : ENM (KEY M) nn aa) : nn ≤ 1320 := by
  have fp := fnw_fpi h
  have p5 := fp.1.2.2.2.2.2.2.2.1
  have p0 := fp.1.2.2.2.2.2.2.1
  have s_lines := h_lines
  unfold R_lines at s_lines
  have ex : ∀ i, ∃ s, 0 ≤ i → i < nn → 0 ≤ s ∧ s < p ∧ sL G (2 * s) = aa i / 144 ∧ loA M G (2 * s) ≤ aa i % 24 ∧ aa i % 24 < loA M G (2 * s) + sN G (2 * s) := fun i => by
    by_cases g : 0 ≤ i ∧ i < nn
    · have k := (hE.2.1 i g.1 g.2).2.2
      obtain ⟨l0, l1, d0, d1, t0, t1, z⟩ := k
      have rd := h_doors _ _ l0 (by omega) d0 d1
      have ln := lenC_e h_ends l0 l1
      obtain ⟨s, hs⟩ := in_piece h_ends h hc l0 l1 (t := aa i % 24) (by omega) (by omega)
      exact ⟨s, fun _ _ => hs⟩
    · exact ⟨0, fun a b => absurd ⟨a, b⟩ g⟩
  have uf : ∃ f : Int → Int, ∀ i, 0 ≤ i → i < nn → 0 ≤ f i ∧ f i < p ∧ sL G (2 * f i) = aa i / 144 ∧ loA M G (2 * f i) ≤ aa i % 24 ∧ aa i % 24 < loA M G (2 * f i) + sN G (2 * f i) := ⟨fun i => Classical.choose (ex i), fun i => Classical.choose_spec (ex i)⟩
  obtain ⟨f, hf⟩ := uf
  have z := inj_le (N := 1320) nn.toNat (fun _ => True) (fun i => 6 * f i + aa i / 24 % 6) (fun i a b => by
    have w := hf i a (by omega)
    exact ⟨by (try dsimp only); omega, by (try dsimp only); omega, trivial⟩) (fun i j a b c z => by
    have wi := hf i a (by omega)
    have wj := hf j (by omega) (by omega)
    have ki := (hE.2.1 i a (by omega)).2.2
    have kj := (hE.2.1 j (by omega) (by omega)).2.2
    have lt := hE.2.2.1 i j a b (by omega)
    (try dsimp only at z)
    have ef : f i = f j := by omega
    have ed : aa i / 24 % 6 = aa j / 24 % 6 := by omega
    have sl := wj.2.2.1
    rw [← ef] at wj
    have el : aa i / 144 = aa j / 144 := wi.2.2.1.symm.trans wj.2.2.1
    have pj := piece_pt h hc wj.1 wj.2.1 wj.2.2.1 wj.2.2.2.1 wj.2.2.2.2
    unfold KEY PTK at ki kj
    rw [el, ed] at ki
    have tl : aa i % 24 < aa j % 24 := by omega
    have kj7 := kj.2.2.2.2.2.2.1
    have ki5 := ki.2.2.2.2.1
    rcases kj7 with y | y
    · omega
    · rw [pj] at y
      have y2 := (b01_1 (p := aa j % 24 = loA M G (2 * f i))).mp y
      omega)
  have y : sI (fun _ => b01 True) 1320 ≤ 1320 := sI_l (by decide) (fun _ _ _ => b01_b.2)
  (try dsimp only at z)
  omega
end PA
