section PP
variable {M K E D D0 : qm} {n p k v z l x y c r a b t ch t0 t1 : Int} {G : Int → Int}
theorem PSS_m {dn dn' : Int → Int → Prop} (h : PSS M E D0 D n ch dn) (hm : ∀ x y, dn' x y → dn x y) : PSS M E D0 D n ch dn' := by
  obtain ⟨h1, h2, h3, h4, h5⟩ := h
  exact ⟨h1, h2, h3, fun x y q => h4 x y (hm x y q), h5⟩
theorem PLS_c (hP : PLS K E) (h : ofr 2168 E D) : PLS K D := PLS_o hP h (by decide)
theorem bO_0 (h : ch = 0 ∨ ch = 1) : bO ch 0 = ch := by
  rcases h with rfl | rfl <;> decide
/-- C columns, R rows, 25 at most -/
def CR5 (E : qm) : Prop := 0 ≤ (E 2157 12 0) ∧ (E 2157 12 0) ≤ 25 ∧ 0 ≤ (E 2157 13 0) ∧ (E 2157 13 0) ≤ 25
theorem pass_2 (h_lines : R_lines M K) (h_ends : R_ends M K) (hP : PLS K E) (hC : CR5 E) {dn : Int → Int → Prop} (hd : ∀ x y, dn x y → 0 ≤ x ∧ x < 1764 ∧ 0 ≤ y ∧ y < 1764) (hch : bO t0 t1 = ch) (h : PSS M E D0 D (M 7 0 0) ch dn) (r0 : 0 ≤ r) (r1 : r ≤ (E 2157 13 0)) (c0 : 0 ≤ c) (c1 : c ≤ (E 2157 12 0)) : qW (qf_X16_fill_J95 20000 r c (42 * r + c) t0 t1 D) (fun o => ∃ ch' D', o = .inr (ch', r, c + 1, D') ∧ PSS M E D0 D' (M 7 0 0) ch' (fun x y => dn x y ∨ (op2 M E (M 7 0 0) c r ∧ x = 42 * r + c ∧ y = 42 * r + c + 42))) := by
  obtain ⟨C0, C5, R0, R5⟩ := hC
  have f := h.2.1
  have h5 := h.2.2.2.2.1
  have no : ¬ op2 M E (M 7 0 0) c r → PSS M E D0 D (M 7 0 0) ch (fun x y => dn x y ∨ (op2 M E (M 7 0 0) c r ∧ x = 42 * r + c ∧ y = 42 * r + c + 42)) := fun z => PSS_m h (fun x y q => by
    rcases q with q | q
    · exact q
    · exact absurd q.1 z)
  unfold qf_X16_fill_J95 qf_X16_fill_J134 qf_X16_fill_J135
  rw [hch, bO_0 h5, f 2157 13 0 (by decide), w32_id (x := c + 1) (by omega) (by omega)]
  by_cases g : (E 2157 13 0) ≤ r
  · rw [if_pos g]
    exact qW_some ⟨ch, D, rfl, no (fun z => by have := z.1; omega)⟩
  · rw [if_neg g]
    refine qW_eq (shutY_e h_lines h_ends (PLS_c hP f) c0 (by omega) r0 (by omega)) ?_
    (try dsimp only)
    rw [b01_c (SHY_o f)]
    rcases b01_o (p := ∃ l, SHY M E (M 7 0 0) c r l) with ⟨e, hs⟩ | ⟨e, hs⟩
    · rw [e, if_neg (by decide)]
      exact qW_some ⟨ch, D, rfl, no (fun z => z.2 hs)⟩
    · have ho : op2 M E (M 7 0 0) c r := ⟨by omega, hs⟩
      rw [e, if_pos rfl, w32_id (x := 42 * r + c + 42) (by omega) (by omega)]
      obtain ⟨F, ej, hj⟩ := pss_s hd h (a := 42 * r + c) (b := 42 * r + c + 42) (by omega) (by omega) (by omega) (by omega) (by omega) (fun G g => (g r c r0 r1 c0 c1).2 ho)
      refine qW_eq ej ?_
      (try dsimp only)
      have fin : PSS M E D0 F (M 7 0 0) (bO ch (b01 ((D 2168 (42 * r + c) 0) ≠ (D 2168 (42 * r + c + 42) 0)))) (fun x y => dn x y ∨ (op2 M E (M 7 0 0) c r ∧ x = 42 * r + c ∧ y = 42 * r + c + 42)) := PSS_m hj (fun x y q => by
        rcases q with q | q
        · exact Or.inl q
        · exact Or.inr q.2)
      rcases b01_o (p := (D 2168 (42 * r + c) 0) ≠ (D 2168 (42 * r + c + 42) 0)) with ⟨e2, _⟩ | ⟨e2, _⟩
      · rw [e2] at fin ⊢
        rw [if_neg (by decide)]
        exact qW_some ⟨_, F, rfl, fin⟩
      · rw [e2] at fin ⊢
        rw [if_pos rfl]
        rw [bO_0 h5] at fin
        exact qW_some ⟨_, F, rfl, fin⟩
theorem pass_1 (h_lines : R_lines M K) (h_ends : R_ends M K) (hP : PLS K E) (hC : CR5 E) {dn : Int → Int → Prop} (hd : ∀ x y, dn x y → 0 ≤ x ∧ x < 1764 ∧ 0 ≤ y ∧ y < 1764) (h : PSS M E D0 D (M 7 0 0) ch dn) (r0 : 0 ≤ r) (r1 : r ≤ (E 2157 13 0)) (c0 : 0 ≤ c) (c1 : c ≤ (E 2157 12 0)) : qW (qf_X16_fill_L42_b 20000 ch r c D) (fun o => ∃ ch' D', o = .inr (ch', r, c + 1, D') ∧ PSS M E D0 D' (M 7 0 0) ch' (fun x y => (dn x y ∨ (op1 M E (M 7 0 0) c r ∧ x = 42 * r + c ∧ y = 42 * r + c + 1)) ∨ (op2 M E (M 7 0 0) c r ∧ x = 42 * r + c ∧ y = 42 * r + c + 42))) := by
  have hC' := hC
  obtain ⟨C0, C5, R0, R5⟩ := hC
  have f := h.2.1
  have h5 := h.2.2.2.2.1
  have hd2 : ∀ x y, (dn x y ∨ (op1 M E (M 7 0 0) c r ∧ x = 42 * r + c ∧ y = 42 * r + c + 1)) → 0 ≤ x ∧ x < 1764 ∧ 0 ≤ y ∧ y < 1764 := by
    intro x y q
    rcases q with q | q
    · exact hd x y q
    · omega
  have no : ¬ op1 M E (M 7 0 0) c r → PSS M E D0 D (M 7 0 0) ch (fun x y => dn x y ∨ (op1 M E (M 7 0 0) c r ∧ x = 42 * r + c ∧ y = 42 * r + c + 1)) := fun z => PSS_m h (fun x y q => by
    rcases q with q | q
    · exact q
    · exact absurd q.1 z)
  unfold qf_X16_fill_L42_b qf_X16_fill_J94
  rw [f 2157 12 0 (by decide), if_neg (by omega), w32_id (x := 42 * r) (by omega) (by omega), w32_id (x := 42 * r + c) (by omega) (by omega)]
  by_cases g : (E 2157 12 0) ≤ c
  · rw [if_pos g]
    exact pass_2 h_lines h_ends hP hC' hd2 (bO_0 h5) (no (fun z => by have := z.1; omega)) r0 r1 c0 c1
  · rw [if_neg g]
    refine qW_eq (shutX_e h_lines h_ends (PLS_c hP f) c0 (by omega) r0 (by omega)) ?_
    (try dsimp only)
    rw [b01_c (SHX_o f)]
    rcases b01_o (p := ∃ l, SHX M E (M 7 0 0) c r l) with ⟨e, hs⟩ | ⟨e, hs⟩
    · rw [e, if_neg (by decide)]
      exact pass_2 h_lines h_ends hP hC' hd2 (bO_0 h5) (no (fun z => z.2 hs)) r0 r1 c0 c1
    · have ho : op1 M E (M 7 0 0) c r := ⟨by omega, hs⟩
      rw [e, if_pos rfl, w32_id (x := 42 * r + c + 1) (by omega) (by omega)]
      obtain ⟨F, ej, hj⟩ := pss_s hd h (a := 42 * r + c) (b := 42 * r + c + 1) (by omega) (by omega) (by omega) (by omega) (by omega) (fun G g => (g r c r0 r1 c0 c1).1 ho)
      refine qW_eq ej ?_
      (try dsimp only)
      have fin : PSS M E D0 F (M 7 0 0) (bO ch (b01 ((D 2168 (42 * r + c) 0) ≠ (D 2168 (42 * r + c + 1) 0)))) (fun x y => dn x y ∨ (op1 M E (M 7 0 0) c r ∧ x = 42 * r + c ∧ y = 42 * r + c + 1)) := PSS_m hj (fun x y q => by
        rcases q with q | q
        · exact Or.inl q
        · exact Or.inr q.2)
      rcases b01_o (p := (D 2168 (42 * r + c) 0) ≠ (D 2168 (42 * r + c + 1) 0)) with ⟨e2, _⟩ | ⟨e2, _⟩
      · rw [e2] at fin ⊢
        rw [if_neg (by decide)]
        exact pass_2 h_lines h_ends hP hC' hd2 rfl fin r0 r1 c0 c1
      · rw [e2] at fin ⊢
        rw [if_pos rfl]
        exact pass_2 h_lines h_ends hP hC' hd2 rfl fin r0 r1 c0 c1
/-- what has been gone through of a pass -/
def dnn (M E : qm) (n r c : Int) (a b : Int) : Prop := ∃ s d, 0 ≤ s ∧ s ≤ (E 2157 13 0) ∧ 0 ≤ d ∧ d ≤ (E 2157 12 0) ∧ (s < r ∨ (s = r ∧ d < c)) ∧ a = 42 * s + d ∧ ((op1 M E n d s ∧ b = 42 * s + d + 1) ∨ (op2 M E n d s ∧ b = 42 * s + d + 42))
theorem dnn_b (hC : CR5 E) (a b : Int) (h : dnn M E n r c a b) : 0 ≤ a ∧ a < 1764 ∧ 0 ≤ b ∧ b < 1764 := by
  obtain ⟨C0, C5, R0, R5⟩ := hC
  obtain ⟨s, d, s0, s1, d0, d1, _, rfl, h⟩ := h
  rcases h with ⟨_, rfl⟩ | ⟨_, rfl⟩ <;> omega
theorem pass_r (h_lines : R_lines M K) (h_ends : R_ends M K) (hP : PLS K E) (hC : CR5 E) (h : PSS M E D0 D (M 7 0 0) ch (dnn M E (M 7 0 0) r 0)) (r0 : 0 ≤ r) (r1 : r ≤ (E 2157 13 0)) : qW (qf_X16_fill_L42 20000 20000 ch r 0 D) (fun o => ∃ ch' D', o = .inr (ch', D') ∧ PSS M E D0 D' (M 7 0 0) ch' (dnn M E (M 7 0 0) (r + 1) 0)) := by
  have hC' := hC
  obtain ⟨C0, C5, R0, R5⟩ := hC
  unfold qf_X16_fill_L42
  refine qW_for ((E 2157 12 0) + 1) (fun c s => ∃ ch' D', s = (ch', r, c, D') ∧ PSS M E D0 D' (M 7 0 0) ch' (dnn M E (M 7 0 0) r c)) ?_ ?_ ⟨ch, D, rfl, h⟩ (by omega) (by omega)
  · rintro c _ c0 c1 ⟨ch', D', rfl, hD⟩
    refine qW_mono (pass_1 h_lines h_ends hP hC' (dnn_b hC') hD r0 r1 c0 (show c ≤ (E 2157 12 0) by omega)) ?_
    rintro _ ⟨ch2, D2, rfl, hD2⟩
    refine ⟨ch2, D2, rfl, PSS_m hD2 ?_⟩
    rintro x y ⟨s, d, s0, s1, d0, d1, q, e, w⟩
    by_cases g : s < r ∨ (s = r ∧ d < c)
    · exact Or.inl (Or.inl ⟨s, d, s0, s1, d0, d1, g, e, w⟩)
    · have es : s = r := by omega
      have ed : d = c := by omega
      rw [es, ed] at e w
      rcases w with ⟨w, w2⟩ | ⟨w, w2⟩
      · exact Or.inl (Or.inr ⟨w, e, w2⟩)
      · exact Or.inr ⟨w, e, w2⟩
  · rintro _ ⟨ch', D', rfl, hD⟩
    unfold qf_X16_fill_L42_b
    (try dsimp only)
    have fr := hD.2.1 2157 12 0 (by decide)
    rw [if_pos (by omega)]
    refine qW_some ⟨ch', D', rfl, PSS_m hD ?_⟩
    rintro x y ⟨s, d, s0, s1, d0, d1, q, e, w⟩
    exact ⟨s, d, s0, s1, d0, d1, by omega, e, w⟩
theorem pass_all (h_lines : R_lines M K) (h_ends : R_ends M K) (hP : PLS K E) (hC : CR5 E) (hL : LBI M E D0 (M 7 0 0)) (hO : ofr 2168 E D0) : qW (qf_X16_fill_L32 20000 20000 0 0 D0) (fun o => ∃ ch' D', o = .inr (ch', D') ∧ PSS M E D0 D' (M 7 0 0) ch' (dnn M E (M 7 0 0) ((E 2157 13 0) + 1) 0)) := by
  have hC' := hC
  obtain ⟨C0, C5, R0, R5⟩ := hC
  unfold qf_X16_fill_L32
  refine qW_for ((E 2157 13 0) + 1) (fun r s => ∃ ch' D', s = (ch', r, D') ∧ PSS M E D0 D' (M 7 0 0) ch' (dnn M E (M 7 0 0) r 0)) ?_ ?_ ⟨0, D0, rfl, hL, hO, fun k _ _ => Int.le_refl _, ?_, Or.inl rfl, fun _ k _ _ => rfl, fun z => by omega⟩ (by omega) (by omega)
  · rintro r _ r0 r1 ⟨ch', D', rfl, hD⟩
    unfold qf_X16_fill_L32_b
    (try dsimp only)
    have fr := hD.2.1 2157 13 0 (by decide)
    rw [if_neg (by omega)]
    refine qW_call (pass_r h_lines h_ends hP hC' hD r0 (by omega)) ?_
    rintro _ ⟨ch2, D2, rfl, hD2⟩
    (try dsimp only)
    rw [w32_id (x := r + 1) (by omega) (by omega)]
    exact qW_some ⟨ch2, D2, rfl, hD2⟩
  · rintro _ ⟨ch', D', rfl, hD⟩
    unfold qf_X16_fill_L32_b
    (try dsimp only)
    have fr := hD.2.1 2157 13 0 (by decide)
    rw [if_pos (by omega)]
    exact qW_some ⟨ch', D', rfl, hD⟩
  · rintro x y ⟨s, d, s0, s1, d0, d1, q, e, w⟩
    omega
end PP
