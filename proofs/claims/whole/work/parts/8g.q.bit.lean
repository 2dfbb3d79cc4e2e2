/-! ===== the bus: a bit time keeps what holds ===== -/
section BUq
variable {M K M' K' M1 K1 M7 M14 K14 : qm} {i j k v w x y s t I β u c E : Int}
theorem bus_rel (h : BUS M K (t - 1)) (t2 : t ≤ 180000) (hb : BFL M K t β M7 M14 K14) : BUS M14 K14 t := by
  obtain ⟨⟨n1, n2, n3⟩, hst, hid, hon, hsp, hds, hlt, hli, hhr, hhd, hh1, hcn, hab, hsb, hib, hie, hms, hu1, hu2⟩ := h
  obtain ⟨b01, a5, b7, f1, f2, f3, f4, f5, f6, f7, f8, f9, e1, e2, e3, e4, fr, e6, e7, e8, e9⟩ := hb
  have t1 : 1 ≤ t := by omega
  have sn : ∀ v, 0 ≤ sI (fun u => K 2254 u 0) v := fun v => sI_n (fun k k0 _ => by have := hu1 k k0; show 0 ≤ K 2254 k 0; omega)
  have hbn : K 2252 16 0 ≠ 0 → M 1139 9 0 ≠ -1 ∧ K 2252 24 0 < K 2252 16 0 ∧ M 1139 9 0 ≤ 13 := fun z => by
    clear e1
    unfold HRG at hhr
    rcases hhr with y | ⟨y1, y2, _, _, _, _, _, y⟩
    · exact absurd y.2.1 z
    · clear hst a5 f3
      rcases y with y | y
      · omega
      · omega
  have nob : K 2252 16 0 ≠ 0 → ∀ s, 0 ≤ s → s < 8 → M7 1140 s 1 = M 1140 s 1 := fun z s s0 s1 => by
    obtain ⟨y1, y2, y3⟩ := hbn z
    have q := hib y1
    rcases (a5 s s0 s1).2.2 with y | ⟨_, y⟩
    · exact y
    · exact absurd y (by omega)
  obtain ⟨I, hI⟩ : ∃ I, M 1139 6 0 = I := ⟨_, rfl⟩
  rw [hI] at hid hib hie f6 a5
  have sx : (fun u => K14 2254 u 0) = (fun u => K 2254 u 0) := funext f8
  refine ⟨⟨f5.1, f5.2, by omega⟩, fun s s0 s1 => (f3 s s0 s1).1, ?_, fun u u0 u1 => ?_, f1, f2, e2, f9, e1, e3, ?_, f4, fun s s0 s1 z => ?_, fun z s s0 s1 y => ?_, fun z => ?_, fun z => ?_, ?_, fun u u0 => by rw [f8]; exact hu1 u u0, by rw [sx]; exact hu2⟩
  · rw [f6]
    obtain ⟨i0, i1, i2⟩ := hid
    unfold IDR
    rcases b01 with z | z
    · rw [if_neg (by omega)]
      refine ⟨Int.le_refl _, fun j j0 j1 => by omega, Or.inl ⟨by omega, ?_⟩⟩
      rw [show t - 0 = t by omega, f7.1]
      exact z
    · rw [if_pos z]
      refine ⟨by omega, fun j j0 j1 j2 => ?_, ?_⟩
      · by_cases e : j = 0
        · rw [e, show t - 0 = t by omega, f7.1]
          exact z
        · rw [f7.2 _ (by omega), show t - j = t - 1 - (j - 1) by omega]
          exact i1 (j - 1) (by omega) (by omega) (by omega)
      · rcases i2 with ⟨y1, y2⟩ | y
        · refine Or.inl ⟨by omega, ?_⟩
          rw [f7.2 _ (by omega), show t - (I + 1) = t - 1 - I by omega]
          exact y2
        · exact Or.inr (by omega)
  · by_cases z : u = t
    · rw [z, f7.1]
      exact b01
    · rw [f7.2 u z]
      exact hon u u0 (by omega)
  · unfold PCH at e4
    rcases e4 with ⟨z, _⟩ | ⟨z, _⟩
    · rw [z]
      omega
    · rw [w32_id (by omega) (by omega)] at z
      rw [z]
      omega
  · rcases (f3 s s0 s1).2.2 with y | ⟨y1, y2⟩
    · exact absurd y z
    · have q := (a5 s s0 s1).2.1 y1
      rcases e6 with x | ⟨_, _, _, x⟩
      · rw [x, y2]
        omega
      · exact absurd x (by omega)
  · rcases (f3 s s0 s1).2.1 with x | ⟨x1, x2⟩
    · exact absurd y (by omega)
    · have q7 := (a5 s s0 s1).1
      rcases e7 with q | q | ⟨q1, q2⟩
      · exact absurd q z
      · rw [q, x2]
        omega
      · have q3 := nob q2 s s0 s1
        have q4 := hsb q2 s s0 s1 (by omega)
        rw [q1, x2, q3]
        omega
  · rw [f6]
    rcases b01 with y | y
    · rw [if_neg (by omega)]
      unfold HRG at e1
      rcases e1 with q | ⟨_, _, _, _, _, _, _, q⟩
      · exact absurd q.1 z
      · rcases q with ⟨q, _⟩ | ⟨q, _⟩
        · omega
        · omega
    · rw [if_pos y]
      rcases e8 y with q | ⟨q1, q2⟩
      · exact absurd q z
      · have := hib (by omega)
        omega
  · rw [f6]
    rcases b01 with y | y
    · rw [if_neg (by omega)]
      have q := ltt_e e2
      omega
    · rw [if_pos y]
      rcases e6 with q | ⟨q1, q2, q3, q4⟩
      · rw [q] at z ⊢
        have := hie z
        omega
      · have := hib (by omega)
        rw [q1]
        omega
  · rw [sx]
    have s1 : sI (fun u => K 2254 u 0) (t + 1) = sI (fun u => K 2254 u 0) t + K 2254 t 0 := sI_s (by omega)
    have sn1 := sn t
    have ut := hu1 t (by omega)
    rw [show t - 1 + 1 = t by omega] at hms
    rcases e9 with q | q | ⟨q1, q2, q3, q4, q5, q6⟩
    · omega
    · omega
    · rcases b7 q1 with y | ⟨s, s0, s2, y⟩
      · omega
      · by_cases g23 : K 2252 17 0 ≤ 22
        · unfold msr at q3
          rw [if_neg (show ¬ M 1139 9 0 ≤ 10 by omega)] at q3
          unfold msr
          omega
        · exfalso
          have b0 : K 2252 16 0 ≠ 0 := fun z => by
            clear e1
            unfold HRG at hhr
            rcases hhr with w | ⟨w, _⟩
            · exact absurd w.1 (by omega)
            · omega
          obtain ⟨n9, n24, _⟩ := hbn b0
          rcases y with y | y
          · have q7 := nob b0 s s0 s2
            have q8 := (hst s s0 s2).s0
            rw [q7] at y
            have q9 := hsb b0 s s0 s2 (by omega)
            have q10 := (hst s s0 s2).sp (by omega)
            have q11 := ((hst s s0 s2).qu 0 (by omega) q10.1).1
            unfold qOK at q11
            have q12 := q10.2.2.1
            have q13 := q11.2.2.2.2.2.2.2.2.1
            clear q10 q11
            omega
          · have q12 := (a5 s s0 s2).2.1 y
            omega
/-- a bit time: both sides do the same -/
theorem bit_both (h : BUS M K (t - 1)) (t2 : t ≤ 180000) : ∃ M' K', qf_X1_runBitTime 20000 M = some ((), M') ∧ qf_X12_bitTime 20000 K = some ((), K') ∧ BUS M' K' t ∧ PCH M K M' K' ∧ FBT M M' ∧ FKT K K' := by
  obtain ⟨β, M7, M14, K14, h1, h2, h3⟩ := bit_flow h t2
  have hb := bus_rel h t2 h3
  obtain ⟨_, _, _, _, _, _, _, _, _, _, _, _, _, _, _, e4, fr, _⟩ := h3
  exact ⟨M14, K14, h1, h2, hb, e4, fr.1, fr.2⟩
end BUq
