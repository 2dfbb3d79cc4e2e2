/-! ===== the area that two spaces have in common ===== -/
section CM
variable {M K A B T K0 : qm} {a b c d k n r q s t x y : Int} {ow ob : Int → Int → Int} {P Q : Int → Int → Prop}
theorem colf_iff (h : SRx T (T 2157 12 0)) (c0 : 1 ≤ c) (c1 : c < (T 2157 12 0)) : colf T x = c ↔ ((T 2166 (c - 1) 0) ≤ x ∧ x < (T 2166 c 0)) := by
  constructor
  · intro e
    have q := colf_s (x := x) h
    rw [e] at q
    exact ⟨q.2.2.1 (c - 1) (by omega) (by omega), q.2.2.2 c (Int.le_refl c) c1⟩
  · rintro ⟨h1, h2⟩
    refine colf_e h ⟨by omega, by omega, fun j j0 j1 => ?_, fun j j0 j1 => ?_⟩
    · by_cases g : j = c - 1
      · rw [g]
        exact h1
      · have := h.2.1 j (c - 1) j0 (by omega) (by omega)
        omega
    · by_cases g : j = c
      · rw [g]
        exact h2
      · have := h.2.1 c j (by omega) (by omega) j1
        omega
theorem rowf_iff (h : SRy T (T 2157 13 0)) (c0 : 1 ≤ c) (c1 : c < (T 2157 13 0)) : rowf T x = c ↔ ((T 2167 (c - 1) 0) ≤ x ∧ x < (T 2167 c 0)) := by
  constructor
  · intro e
    have q := rowf_s (x := x) h
    rw [e] at q
    exact ⟨q.2.2.1 (c - 1) (by omega) (by omega), q.2.2.2 c (Int.le_refl c) c1⟩
  · rintro ⟨h1, h2⟩
    refine rowf_e h ⟨by omega, by omega, fun j j0 j1 => ?_, fun j j0 j1 => ?_⟩
    · by_cases g : j = c - 1
      · rw [g]
        exact h1
      · have := h.2.1 j (c - 1) j0 (by omega) (by omega)
        omega
    · by_cases g : j = c
      · rw [g]
        exact h2
      · have := h.2.1 c j (by omega) (by omega) j1
        omega
def shr (a b c d : Int) : Int := if max a c < min b d then min b d - max a c else 0
theorem shared_e (ha : 0 ≤ a ∧ a ≤ 1000) (hb : 0 ≤ b ∧ b ≤ 1000) (hc : 0 ≤ c ∧ c ≤ 1000) (hd : 0 ≤ d ∧ d ≤ 1000) : qf_X16_shared 20000 a b c d T = some (shr a b c d) := by
  unfold qf_X16_shared qf_X16_shared_J10 qf_X16_shared_J22 shr
  rw [w32_id (x := b - a) (by omega) (by omega), w32_id (x := b - c) (by omega) (by omega), w32_id (x := d - a) (by omega) (by omega), w32_id (x := d - c) (by omega) (by omega)]
  split <;> split <;> split <;> split <;> first | rfl | (congr 1; omega) | omega
/-- the columns and cells of what was before -/
def OLD (T K0 : qm) : Prop := (∀ i, (T 2169 i 0) = (K0 2166 i 0)) ∧ (∀ i, (T 2170 i 0) = (K0 2167 i 0)) ∧ (∀ i, (T 2171 i 0) = (K0 2168 i 0)) ∧ (T 2157 19 0) = (K0 2157 12 0) ∧ (T 2157 20 0) = (K0 2157 13 0)
/-- cells tell the space of each unit -/
def RCX (T : qm) (ow : Int → Int → Int) : Prop := SRx T (T 2157 12 0) ∧ SRy T (T 2157 13 0) ∧ (∀ x y, -1 ≤ x → x ≤ 24 → -1 ≤ y → y ≤ 24 → (T 2168 (kuf T x y) 0) = ow x y) ∧ ∀ x y, ¬ (0 ≤ x ∧ x < 24 ∧ 0 ≤ y ∧ y < 24) → ow x y = -1
theorem rcx_in (h : RCX T ow) (x0 : 0 ≤ x) (x1 : x < 24) (y0 : 0 ≤ y) (y1 : y < 24) (hn : ow x y ≠ -1) : 1 ≤ colf T x ∧ colf T x < (T 2157 12 0) ∧ 1 ≤ rowf T y ∧ rowf T y < (T 2157 13 0) := by
  obtain ⟨h1, h2, h3, h4⟩ := h
  have cx := colf_s (x := x) h1
  have ry := rowf_s (x := y) h2
  have e := h3 x y (by omega) (by omega) (by omega) (by omega)
  refine ⟨?_, ?_, ?_, ?_⟩
  · apply Classical.byContradiction
    intro z
    have q := h3 (-1) y (by omega) (by omega) (by omega) (by omega)
    rw [h4 (-1) y (by omega)] at q
    unfold kuf at e q
    rw [show colf T x = 0 by have := cx.1; omega] at e
    rw [colf_lo h1 (by decide)] at q
    omega
  · apply Classical.byContradiction
    intro z
    have q := h3 24 y (by omega) (by omega) (by omega) (by omega)
    rw [h4 24 y (by omega)] at q
    unfold kuf at e q
    rw [show colf T x = (T 2157 12 0) by have := cx.2.1; omega] at e
    rw [colf_hi h1 (by decide)] at q
    omega
  · apply Classical.byContradiction
    intro z
    have q := h3 x (-1) (by omega) (by omega) (by omega) (by omega)
    rw [h4 x (-1) (by omega)] at q
    unfold kuf at e q
    rw [show rowf T y = 0 by have := ry.1; omega] at e
    rw [rowf_lo h2 (by decide)] at q
    omega
  · apply Classical.byContradiction
    intro z
    have q := h3 x 24 (by omega) (by omega) (by omega) (by omega)
    rw [h4 x 24 (by omega)] at q
    unfold kuf at e q
    rw [show rowf T y = (T 2157 13 0) by have := ry.2.1; omega] at e
    rw [rowf_hi h2 (by decide)] at q
    omega
/-- the units gone through -/
def ZON (T K0 : qm) (r c q d x y : Int) : Prop := rowf T y < r ∨ (rowf T y = r ∧ (colf T x < c ∨ (colf T x = c ∧ (rowf K0 y < q ∨ (rowf K0 y = q ∧ colf K0 x < d)))))
noncomputable def ARE (T K0 : qm) (ow ob : Int → Int → Int) (s t r c q d : Int) : Int := cnt2 (fun x y => (ow x y = s ∧ ob x y = t) ∧ ZON T K0 r c q d x y)
theorem ARE_b {r c q d : Int} : 0 ≤ ARE T K0 ow ob s t r c q d ∧ ARE T K0 ow ob s t r c q d ≤ 576 := cnt2_b
/-- one block of units more -/
theorem are_d (hN : RCX T ow) (hO : RCX K0 ob) (s0 : 0 ≤ s) (t0 : 0 ≤ t) (r0 : 1 ≤ r) (r1 : r < (T 2157 13 0)) (c0 : 1 ≤ c) (c1 : c < (T 2157 12 0)) (q0 : 1 ≤ q) (q1 : q < (K0 2157 13 0)) (d0 : 1 ≤ d) (d1 : d < (K0 2157 12 0)) (hs : (T 2168 (42 * r + c) 0) = s) : ARE T K0 ow ob s t r c q (d + 1) = ARE T K0 ow ob s t r c q d + if (K0 2168 (42 * q + d) 0) = t then shr (T 2166 (c - 1) 0) (T 2166 c 0) (K0 2166 (d - 1) 0) (K0 2166 d 0) * shr (T 2167 (r - 1) 0) (T 2167 r 0) (K0 2167 (q - 1) 0) (K0 2167 q 0) else 0 := by
  have own1 : ∀ x y, 0 ≤ x → x < 24 → 0 ≤ y → y < 24 → colf T x = c → rowf T y = r → ow x y = s := fun x y x0 x1 y0 y1 ec er => by
    rw [← hN.2.2.1 x y (by omega) (by omega) (by omega) (by omega)]
    unfold kuf
    rw [ec, er]
    exact hs
  have own2 : ∀ x y, 0 ≤ x → x < 24 → 0 ≤ y → y < 24 → colf K0 x = d → rowf K0 y = q → ob x y = (K0 2168 (42 * q + d) 0) := fun x y x0 x1 y0 y1 ec er => by
    rw [← hO.2.2.1 x y (by omega) (by omega) (by omega) (by omega)]
    unfold kuf
    rw [ec, er]
  have iC := fun x => colf_iff (x := x) hN.1 c0 c1
  have iR := fun x => rowf_iff (x := x) hN.2.1 r0 r1
  have iD := fun x => colf_iff (x := x) hO.1 d0 d1
  have iQ := fun x => rowf_iff (x := x) hO.2.1 q0 q1
  unfold ARE
  by_cases g : (K0 2168 (42 * q + d) 0) = t
  · rw [if_pos g]
    have bC := hN.1.2.2 (c - 1) (by omega) (by omega)
    have bC2 := hN.1.2.2 c (by omega) (by omega)
    have bR := hN.2.1.2.2 (r - 1) (by omega) (by omega)
    have bR2 := hN.2.1.2.2 r (by omega) (by omega)
    have bD := hO.1.2.2 (d - 1) (by omega) (by omega)
    have bD2 := hO.1.2.2 d (by omega) (by omega)
    have bQ := hO.2.1.2.2 (q - 1) (by omega) (by omega)
    have bQ2 := hO.2.1.2.2 q (by omega) (by omega)
    have e := rect (a := max (T 2166 (c - 1) 0) (K0 2166 (d - 1) 0)) (b := min (T 2166 c 0) (K0 2166 d 0)) (c := max (T 2167 (r - 1) 0) (K0 2167 (q - 1) 0)) (d := min (T 2167 r 0) (K0 2167 q 0)) (by omega) (by omega) (by omega) (by omega)
    have e2 : (if max (T 2166 (c - 1) 0) (K0 2166 (d - 1) 0) < min (T 2166 c 0) (K0 2166 d 0) then min (T 2166 c 0) (K0 2166 d 0) - max (T 2166 (c - 1) 0) (K0 2166 (d - 1) 0) else 0) = shr (T 2166 (c - 1) 0) (T 2166 c 0) (K0 2166 (d - 1) 0) (K0 2166 d 0) := rfl
    have e3 : (if max (T 2167 (r - 1) 0) (K0 2167 (q - 1) 0) < min (T 2167 r 0) (K0 2167 q 0) then min (T 2167 r 0) (K0 2167 q 0) - max (T 2167 (r - 1) 0) (K0 2167 (q - 1) 0) else 0) = shr (T 2167 (r - 1) 0) (T 2167 r 0) (K0 2167 (q - 1) 0) (K0 2167 q 0) := rfl
    rw [e2, e3] at e
    rw [← e, ← cnt2_add]
    · refine cnt2_c (fun x y x0 x1 y0 y1 => ?_)
      have a1 := iC x
      have a2 := iR y
      have a3 := iD x
      have a4 := iQ y
      have o1 := own1 x y x0 x1 y0 y1
      have o2 := own2 x y x0 x1 y0 y1
      unfold ZON
      constructor
      · rintro ⟨z1, z2⟩
        by_cases gg : colf T x = c ∧ rowf T y = r ∧ colf K0 x = d ∧ rowf K0 y = q
        · have h1 := a1.mp gg.1
          have h2 := a2.mp gg.2.1
          have h3 := a3.mp gg.2.2.1
          have h4 := a4.mp gg.2.2.2
          exact Or.inr ⟨by omega, by omega⟩
        · exact Or.inl ⟨z1, by omega⟩
      · rintro (⟨z1, z2⟩ | ⟨z1, z2⟩)
        · exact ⟨z1, by omega⟩
        · have h1 := a1.mpr (by omega)
          have h2 := a2.mpr (by omega)
          have h3 := a3.mpr (by omega)
          have h4 := a4.mpr (by omega)
          exact ⟨⟨o1 h1 h2, (o2 h3 h4).trans g⟩, by omega⟩
    · intro x y x0 x1 y0 y1 z1 z2
      have h1 := (iC x).mpr (by omega)
      have h2 := (iR y).mpr (by omega)
      have h3 := (iD x).mpr (by omega)
      have h4 := (iQ y).mpr (by omega)
      have := z1.2
      unfold ZON at this
      omega
  · rw [if_neg g, Int.add_zero]
    refine cnt2_c (fun x y x0 x1 y0 y1 => ?_)
    have o2 := own2 x y x0 x1 y0 y1
    unfold ZON
    constructor
    · rintro ⟨z1, z2⟩
      refine ⟨z1, ?_⟩
      by_cases gg : colf K0 x = d ∧ rowf K0 y = q
      · have := o2 gg.1 gg.2
        omega
      · omega
    · rintro ⟨z1, z2⟩
      exact ⟨z1, by omega⟩
end CM
