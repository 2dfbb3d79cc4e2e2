section CN
variable {M K A B T K0 : qm} {a b c d k n r q s t x y h : Int} {ow ob : Int → Int → Int} {P Q : Int → Int → Prop}
theorem are_end (hN : RCX T ow) (hO : RCX K0 ob) (s0 : 0 ≤ s) (t0 : 0 ≤ t) : (∀ r c q d, (K0 2157 12 0) ≤ d → ARE T K0 ow ob s t r c q d = ARE T K0 ow ob s t r c (q + 1) 1) ∧ (∀ r c q, (K0 2157 13 0) ≤ q → ARE T K0 ow ob s t r c q 1 = ARE T K0 ow ob s t r (c + 1) 1 1) ∧ (∀ r c, (T 2157 12 0) ≤ c → ARE T K0 ow ob s t r c 1 1 = ARE T K0 ow ob s t (r + 1) 1 1 1) ∧ (∀ r, (T 2157 13 0) ≤ r → ARE T K0 ow ob s t r 1 1 1 = cnt2 (fun x y => ow x y = s ∧ ob x y = t)) ∧ ARE T K0 ow ob s t 1 1 1 1 = 0 := by
  have i1 := fun x y (x0 : 0 ≤ x) (x1 : x < 24) (y0 : 0 ≤ y) (y1 : y < 24) (e : ow x y = s) => rcx_in hN x0 x1 y0 y1 (by omega)
  have i2 := fun x y (x0 : 0 ≤ x) (x1 : x < 24) (y0 : 0 ≤ y) (y1 : y < 24) (e : ob x y = t) => rcx_in hO x0 x1 y0 y1 (by omega)
  refine ⟨fun r c q d hd => ?_, fun r c q hq => ?_, fun r c hc => ?_, fun r hr => ?_, ?_⟩
  · refine cnt2_c (fun x y x0 x1 y0 y1 => ?_)
    unfold ZON
    constructor
    · rintro ⟨z, z2⟩
      have := i2 x y x0 x1 y0 y1 z.2
      exact ⟨z, by omega⟩
    · rintro ⟨z, z2⟩
      have := i2 x y x0 x1 y0 y1 z.2
      exact ⟨z, by omega⟩
  · refine cnt2_c (fun x y x0 x1 y0 y1 => ?_)
    unfold ZON
    constructor
    · rintro ⟨z, z2⟩
      have := i2 x y x0 x1 y0 y1 z.2
      exact ⟨z, by omega⟩
    · rintro ⟨z, z2⟩
      have := i2 x y x0 x1 y0 y1 z.2
      exact ⟨z, by omega⟩
  · refine cnt2_c (fun x y x0 x1 y0 y1 => ?_)
    unfold ZON
    constructor
    · rintro ⟨z, z2⟩
      have := i1 x y x0 x1 y0 y1 z.1
      have := i2 x y x0 x1 y0 y1 z.2
      exact ⟨z, by omega⟩
    · rintro ⟨z, z2⟩
      have := i1 x y x0 x1 y0 y1 z.1
      have := i2 x y x0 x1 y0 y1 z.2
      exact ⟨z, by omega⟩
  · refine cnt2_c (fun x y x0 x1 y0 y1 => ?_)
    unfold ZON
    constructor
    · rintro ⟨z, z2⟩
      exact z
    · rintro z
      have := i1 x y x0 x1 y0 y1 z.1
      exact ⟨z, by omega⟩
  · refine cnt2_0 (fun x y x0 x1 y0 y1 => ?_)
    unfold ZON
    rintro ⟨z, z2⟩
    have := i1 x y x0 x1 y0 y1 z.1
    have := i2 x y x0 x1 y0 y1 z.2
    omega
/-- where nothing is in common -/
theorem are_none (hN : RCX T ow) (hO : RCX K0 ob) (s0 : 0 ≤ s) (t0 : 0 ≤ t) (r0 : 1 ≤ r) (r1 : r < (T 2157 13 0)) (c0 : 1 ≤ c) (c1 : c < (T 2157 12 0)) : ((T 2168 (42 * r + c) 0) ≠ s → ∀ q, ARE T K0 ow ob s t r c q 1 = ARE T K0 ow ob s t r (c + 1) 1 1) ∧ (∀ q, 1 ≤ q → q < (K0 2157 13 0) → shr (T 2167 (r - 1) 0) (T 2167 r 0) (K0 2167 (q - 1) 0) (K0 2167 q 0) ≤ 0 → ARE T K0 ow ob s t r c q 1 = ARE T K0 ow ob s t r c (q + 1) 1) := by
  have i1 := fun x y (x0 : 0 ≤ x) (x1 : x < 24) (y0 : 0 ≤ y) (y1 : y < 24) (e : ow x y = s) => rcx_in hN x0 x1 y0 y1 (by omega)
  have i2 := fun x y (x0 : 0 ≤ x) (x1 : x < 24) (y0 : 0 ≤ y) (y1 : y < 24) (e : ob x y = t) => rcx_in hO x0 x1 y0 y1 (by omega)
  have own1 : ∀ x y, 0 ≤ x → x < 24 → 0 ≤ y → y < 24 → colf T x = c → rowf T y = r → ow x y = (T 2168 (42 * r + c) 0) := fun x y x0 x1 y0 y1 ec er => by
    rw [← hN.2.2.1 x y (by omega) (by omega) (by omega) (by omega)]
    unfold kuf
    rw [ec, er]
  refine ⟨fun ne q => cnt2_c (fun x y x0 x1 y0 y1 => ?_), fun q q0 q1 hz => cnt2_c (fun x y x0 x1 y0 y1 => ?_)⟩
  · have o := own1 x y x0 x1 y0 y1
    unfold ZON
    constructor
    · rintro ⟨z, z2⟩
      have := i2 x y x0 x1 y0 y1 z.2
      exact ⟨z, by omega⟩
    · rintro ⟨z, z2⟩
      have := i2 x y x0 x1 y0 y1 z.2
      by_cases g : colf T x = c ∧ rowf T y = r
      · have := o g.1 g.2
        omega
      · exact ⟨z, by omega⟩
  · have iR := rowf_iff (x := y) hN.2.1 r0 r1
    have iQ := rowf_iff (x := y) hO.2.1 q0 q1
    have no : ¬ (rowf T y = r ∧ rowf K0 y = q) := by
      rintro ⟨e1, e2⟩
      have h1 := iR.mp e1
      have h2 := iQ.mp e2
      unfold shr at hz
      split at hz <;> omega
    unfold ZON
    constructor
    · rintro ⟨z, z2⟩
      have := i2 x y x0 x1 y0 y1 z.2
      exact ⟨z, by omega⟩
    · rintro ⟨z, z2⟩
      have := i2 x y x0 x1 y0 y1 z.2
      exact ⟨z, by omega⟩
theorem shr_b (hb : b ≤ 24) (ha : 0 ≤ a) : 0 ≤ shr a b c d ∧ shr a b c d ≤ 24 := by
  unfold shr
  split <;> omega
theorem common_e (hN : RCX T ow) (hO : RCX K0 ob) (hD : OLD T K0) (s0 : 0 ≤ s) (t0 : 0 ≤ t) : qf_X16_common 20000 t s T = some (cnt2 (fun x y => ow x y = s ∧ ob x y = t)) := by
  obtain ⟨z1, z2, z3, z4, z5⟩ := are_end hN hO s0 t0
  have C5 := SRx_n hN.1
  have R5 := SRy_n hN.2.1
  have C6 := SRx_n hO.1
  have R6 := SRy_n hO.2.1
  obtain ⟨o1, o2, o3, o4, o5⟩ := hD
  refine qW_e ?_
  unfold qf_X16_common
  refine qW_call (Q := fun o => o = .inr (cnt2 (fun x y => ow x y = s ∧ ob x y = t))) ?_ (fun o ho => by rw [ho]; exact qW_some rfl)
  unfold qf_X16_common_L5
  refine qW_loop (fun u => ∃ r, u = (t, s, ARE T K0 ow ob s t r 1 1 1, r) ∧ 1 ≤ r) (fun u => (26 - u.2.2.2).toNat) ?_ 20000 _ ⟨1, by rw [z5], by decide⟩ (by (try dsimp only); omega)
  rintro _ ⟨r, rfl, r0⟩
  unfold qf_X16_common_L5_b
  (try dsimp only)
  by_cases gr : (T 2157 13 0) ≤ r
  · rw [if_pos gr, z4 r gr]
    exact qW_some rfl
  rw [if_neg gr]
  refine qW_call (Q := fun o => o = .inr (ARE T K0 ow ob s t (r + 1) 1 1 1)) ?_ (fun o ho => by
    rw [ho]
    (try dsimp only)
    rw [w32_id (x := r + 1) (by omega) (by omega)]
    exact qW_some ⟨⟨r + 1, rfl, by omega⟩, by (try dsimp only); omega⟩)
  unfold qf_X16_common_L17
  refine qW_loop (fun u => ∃ c, u = (t, s, ARE T K0 ow ob s t r c 1 1, r, c) ∧ 1 ≤ c) (fun u => (26 - u.2.2.2.2).toNat) ?_ 20000 _ ⟨1, rfl, by decide⟩ (by (try dsimp only); omega)
  rintro _ ⟨c, rfl, c0⟩
  unfold qf_X16_common_L17_b
  (try dsimp only)
  by_cases gc : (T 2157 12 0) ≤ c
  · rw [if_pos gc, z3 r c gc]
    exact qW_some rfl
  rw [if_neg gc]
  have nn := are_none hN hO s0 t0 r0 (show r < _ by omega) c0 (show c < _ by omega)
  refine qW_call (Q := fun o => o = .inr (ARE T K0 ow ob s t r (c + 1) 1 1)) ?_ (fun o ho => by
    rw [ho]
    (try dsimp only)
    rw [w32_id (x := c + 1) (by omega) (by omega)]
    exact qW_some ⟨⟨c + 1, rfl, by omega⟩, by (try dsimp only); omega⟩)
  unfold qf_X16_common_L29
  refine qW_loop (fun u => ∃ q, u = (t, s, ARE T K0 ow ob s t r c q 1, r, c, q) ∧ 1 ≤ q) (fun u => (26 - u.2.2.2.2.2).toNat) ?_ 20000 _ ⟨1, rfl, by decide⟩ (by (try dsimp only); omega)
  rintro _ ⟨q, rfl, q0⟩
  unfold qf_X16_common_L29_b
  (try dsimp only)
  by_cases gq : (K0 2157 13 0) ≤ q
  · rw [if_pos (by omega), z2 r c q gq]
    exact qW_some rfl
  rw [if_neg (by omega), w32_id (x := 42 * r) (by omega) (by omega), w32_id (x := 42 * r + c) (by omega) (by omega), if_pos (by omega)]
  by_cases gs : (T 2168 (42 * r + c) 0) = s
  · have bR := hN.2.1.2.2 (r - 1) (by omega) (by omega)
    have bR2 := hN.2.1.2.2 r (by omega) (by omega)
    have bQ := hO.2.1.2.2 (q - 1) (by omega) (by omega)
    have bQ2 := hO.2.1.2.2 q (by omega) (by omega)
    rw [if_pos gs, w32_id (x := r - 1) (by omega) (by omega), w32_id (x := q - 1) (by omega) (by omega), if_pos (by omega), if_pos (by omega), if_pos (by omega), if_pos (by omega), o2, o2]
    refine qW_eq (shared_e (by omega) (by omega) (by omega) (by omega)) ?_
    obtain ⟨h, eh⟩ : ∃ h, shr (T 2167 (r - 1) 0) (T 2167 r 0) (K0 2167 (q - 1) 0) (K0 2167 q 0) = h := ⟨_, rfl⟩
    have hb := shr_b (a := (T 2167 (r - 1) 0)) (b := (T 2167 r 0)) (c := (K0 2167 (q - 1) 0)) (d := (K0 2167 q 0)) bR2.2 bR.1
    rw [eh] at hb ⊢
    (try dsimp only)
    refine qW_call (Q := fun o => o = .inr (ARE T K0 ow ob s t r c (q + 1) 1)) ?_ (fun o ho => by
      rw [ho]
      (try dsimp only)
      rw [w32_id (x := q + 1) (by omega) (by omega)]
      exact qW_some ⟨⟨q + 1, rfl, by omega⟩, by (try dsimp only); omega⟩)
    unfold qf_X16_common_L95
    refine qW_loop (fun u => ∃ d, u = (t, s, ARE T K0 ow ob s t r c q d, r, c, q, h, d) ∧ 1 ≤ d ∧ (0 < h ∨ d = 1)) (fun u => (26 - u.2.2.2.2.2.2.2).toNat) ?_ 20000 _ ⟨1, rfl, by decide, Or.inr rfl⟩ (by (try dsimp only); omega)
    rintro _ ⟨d, rfl, d0, dh⟩
    unfold qf_X16_common_L95_b qf_X16_common_J169
    (try dsimp only)
    by_cases gd : (K0 2157 12 0) ≤ d
    · rw [if_pos (by omega), z1 r c q d gd]
      exact qW_some rfl
    rw [if_neg (by omega)]
    by_cases gh : h ≤ 0
    · have e1 : d = 1 := by omega
      rw [if_pos gh, e1, nn.2 q q0 (by omega) (by omega)]
      exact qW_some rfl
    have bC := hN.1.2.2 (c - 1) (by omega) (by omega)
    have bC2 := hN.1.2.2 c (by omega) (by omega)
    have bD := hO.1.2.2 (d - 1) (by omega) (by omega)
    have bD2 := hO.1.2.2 d (by omega) (by omega)
    have st := are_d hN hO s0 t0 r0 (show r < _ by omega) c0 (show c < _ by omega) q0 (show q < _ by omega) d0 (show d < _ by omega) gs
    rw [eh] at st
    have wb2 := shr_b (a := (T 2166 (c - 1) 0)) (b := (T 2166 c 0)) (c := (K0 2166 (d - 1) 0)) (d := (K0 2166 d 0)) bC2.2 bC.1
    have ab := ARE_b (T := T) (K0 := K0) (ow := ow) (ob := ob) (s := s) (t := t) (r := r) (c := c) (q := q) (d := d)
    rw [if_neg gh, w32_id (x := 42 * q) (by omega) (by omega), w32_id (x := 42 * q + d) (by omega) (by omega), if_pos (by omega), w32_id (x := d + 1) (by omega) (by omega)]
    have oc := o3 (42 * q + d)
    by_cases gt : (K0 2168 (42 * q + d) 0) = t
    · rw [if_pos gt] at st
      rw [if_pos (by omega), w32_id (x := c - 1) (by omega) (by omega), w32_id (x := d - 1) (by omega) (by omega), if_pos (by omega), if_pos (by omega), if_pos (by omega), if_pos (by omega), o1, o1]
      refine qW_eq (shared_e (by omega) (by omega) (by omega) (by omega)) ?_
      (try dsimp only)
      have pr : 0 ≤ h * shr (T 2166 (c - 1) 0) (T 2166 c 0) (K0 2166 (d - 1) 0) (K0 2166 d 0) ∧ h * shr (T 2166 (c - 1) 0) (T 2166 c 0) (K0 2166 (d - 1) 0) (K0 2166 d 0) ≤ 576 := by
        have ab2 := ARE_b (T := T) (K0 := K0) (ow := ow) (ob := ob) (s := s) (t := t) (r := r) (c := c) (q := q) (d := d + 1)
        rw [Int.mul_comm]
        refine ⟨Int.mul_nonneg wb2.1 hb.1, by omega⟩
      rw [Int.mul_comm] at st
      rw [w32_id (x := h * shr (T 2166 (c - 1) 0) (T 2166 c 0) (K0 2166 (d - 1) 0) (K0 2166 d 0)) (by omega) (by omega), w32_id (by omega) (by omega), ← st]
      refine qW_some ⟨⟨d + 1, rfl, by omega, Or.inl (by omega)⟩, by (try dsimp only); omega⟩
    · rw [if_neg gt] at st
      rw [if_neg (by omega), w32_id (by omega) (by omega), ← st]
      refine qW_some ⟨⟨d + 1, rfl, by omega, Or.inl (by omega)⟩, by (try dsimp only); omega⟩
  · rw [if_neg gs, nn.1 gs q]
    exact qW_some rfl
end CN
