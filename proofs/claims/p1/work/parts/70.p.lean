/-! ===== operation 37 (sentence): its numbers, by both sides; then by program ===== -/
section SEN
variable {N : Nat} {S : zm_S} {i0 i1 i2 i3 i4 i5 x : Int32}
def isn (x : Int32) : Prop := ¬ x < 0 ∧ ¬ (9999 : Int32) < x
def senB (i0 i1 i2 i3 i4 : Int32) : Prop := isn i1 ∧ (i0 ≠ 4 → isn i2) ∧ (i0 = 0 ∨ i0 = 1 ∨ i0 = 3 → isn i3) ∧ (i0 = 0 → ¬ i4 < 1 ∧ ¬ (12 : Int32) < i4) ∧ (i0 = 1 → isn i4)
theorem isn_c1 (h : isn x) : zf_X11_isSentenceNumber N x S = some (1, S) := by
  unfold zf_X11_isSentenceNumber zf_X11_isWithin
  rw [if_neg h.1, if_neg h.2]
  rfl
theorem isn_c0 (h : ¬ isn x) : zf_X11_isSentenceNumber N x S = some (0, S) := by
  unfold zf_X11_isSentenceNumber zf_X11_isWithin
  by_cases h1 : x < 0
  · rw [if_pos h1]
    rfl
  · rw [if_neg h1, if_pos (Classical.byContradiction (fun q => h ⟨h1, q⟩))]
    rfl
theorem isn_r1 (h : isn x) : zf_X14_isSaid N x S = some (1, S) := by
  unfold zf_X14_isSaid
  rw [if_neg h.1, if_neg h.2]
theorem isn_r0 (h : ¬ isn x) : zf_X14_isSaid N x S = some (0, S) := by
  unfold zf_X14_isSaid
  by_cases h1 : x < 0
  · rw [if_pos h1]
  · rw [if_neg h1, if_pos (Classical.byContradiction (fun q => h ⟨h1, q⟩))]
theorem i1_0 : ¬ (1 : Int32) = 0 := by decide
theorem i4_0 : ¬ (4 : Int32) = 0 := by decide
theorem i4_1 : ¬ (4 : Int32) = 1 := by decide
theorem i4_3 : ¬ (4 : Int32) = 3 := by decide
theorem i3_0 : ¬ (3 : Int32) = 0 := by decide
theorem i3_1 : ¬ (3 : Int32) = 1 := by decide
theorem i3_4 : ¬ (3 : Int32) = 4 := by decide
theorem i3_2 : ¬ (3 : Int32) = 2 := by decide
theorem i1_4 : ¬ (1 : Int32) = 4 := by decide
theorem i1_3 : ¬ (1 : Int32) = 3 := by decide
theorem i1_2 : ¬ (1 : Int32) = 2 := by decide
theorem i2_0 : ¬ (2 : Int32) = 0 := by decide
theorem i2_1 : ¬ (2 : Int32) = 1 := by decide
theorem i2_3 : ¬ (2 : Int32) = 3 := by decide
theorem i2_4 : ¬ (2 : Int32) = 4 := by decide
theorem i0_3 : ¬ (0 : Int32) = 3 := by decide
theorem i0_4 : ¬ (0 : Int32) = 4 := by decide
theorem i0_2 : ¬ (0 : Int32) = 2 := by decide
theorem i0_1' : ¬ (0 : Int32) = 1 := by decide
/-- the class: its test, told apart by which sentence it is -/
theorem sen_4 : (isn i1 → zf_X11_areSentenceNumbers N 4 i1 i2 i3 i4 S = some (1, S)) ∧ (¬ isn i1 → zf_X11_areSentenceNumbers N 4 i1 i2 i3 i4 S = some (0, S)) := by
  constructor
  · intro h
    unfold zf_X11_areSentenceNumbers zf_X11_areSentenceNumbers_J30 zf_X11_areSentenceNumbers_J63 zf_X11_areSentenceNumbers_J90
    refine zb_to (isn_c1 h) ?_
    rw [if_pos rfl, if_neg i4_0, if_neg i4_1, if_neg i4_3, if_neg i4_0, if_neg i4_1]
    rfl
  · intro h
    unfold zf_X11_areSentenceNumbers zf_X11_areSentenceNumbers_J30 zf_X11_areSentenceNumbers_J63 zf_X11_areSentenceNumbers_J90
    refine zb_to (isn_c0 h) ?_
    rw [if_pos rfl, if_neg i4_0, if_neg i4_1, if_neg i4_3, if_neg i4_0, if_neg i4_1]
    rfl
/-- the first two numbers -/
theorem sen_n4 (h4 : ¬ i0 = 4) : (isn i1 ∧ isn i2 → zf_X11_areSentenceNumbers N i0 i1 i2 i3 i4 S = zf_X11_areSentenceNumbers_J30 N i0 i3 i4 1 S) ∧ (¬ (isn i1 ∧ isn i2) → zf_X11_areSentenceNumbers N i0 i1 i2 i3 i4 S = zf_X11_areSentenceNumbers_J30 N i0 i3 i4 0 S) := by
  constructor
  · intro h
    unfold zf_X11_areSentenceNumbers
    refine zb_to (isn_c1 h.1) ?_
    rw [if_neg h4, if_neg i1_0]
    refine zb_to (isn_c1 h.2) ?_
    rw [if_neg i1_0]
    unfold zf_X11_areSentenceNumbers_J28
    rfl
  · intro h
    unfold zf_X11_areSentenceNumbers
    by_cases h1 : isn i1
    · refine zb_to (isn_c1 h1) ?_
      rw [if_neg h4, if_neg i1_0]
      refine zb_to (isn_c0 (fun q => h ⟨h1, q⟩)) ?_
      rw [if_pos rfl]
      unfold zf_X11_areSentenceNumbers_J27 zf_X11_areSentenceNumbers_J28
      rfl
    · refine zb_to (isn_c0 h1) ?_
      rw [if_neg h4, if_pos rfl]
      unfold zf_X11_areSentenceNumbers_J27 zf_X11_areSentenceNumbers_J28
      rfl
theorem sen_44 {b : Int32} : (b = 1 ∧ isn i3 → zf_X11_areSentenceNumbers_J44 N i0 i3 i4 b S = zf_X11_areSentenceNumbers_J63 N i0 i4 1 S) ∧ (b = 0 ∨ b = 1 ∧ ¬ isn i3 → zf_X11_areSentenceNumbers_J44 N i0 i3 i4 b S = zf_X11_areSentenceNumbers_J63 N i0 i4 0 S) := by
  constructor
  · rintro ⟨rfl, h⟩
    unfold zf_X11_areSentenceNumbers_J44
    rw [if_neg i1_0]
    refine zb_to (isn_c1 h) ?_
    rw [if_neg i1_0]
    unfold zf_X11_areSentenceNumbers_J61
    rfl
  · rintro (rfl | ⟨rfl, h⟩)
    · unfold zf_X11_areSentenceNumbers_J44
      rw [if_pos rfl]
      unfold zf_X11_areSentenceNumbers_J60 zf_X11_areSentenceNumbers_J61
      rfl
    · unfold zf_X11_areSentenceNumbers_J44
      rw [if_neg i1_0]
      refine zb_to (isn_c0 h) ?_
      rw [if_pos rfl]
      unfold zf_X11_areSentenceNumbers_J60 zf_X11_areSentenceNumbers_J61
      rfl
theorem sen_63_0 {b : Int32} : (b = 1 ∧ ¬ i4 < 1 ∧ ¬ (12 : Int32) < i4 → zf_X11_areSentenceNumbers_J63 N 0 i4 b S = some (1, S)) ∧ (b = 0 ∨ b = 1 ∧ ¬ (¬ i4 < 1 ∧ ¬ (12 : Int32) < i4) → zf_X11_areSentenceNumbers_J63 N 0 i4 b S = some (0, S)) := by
  have e0 : zf_X11_areSentenceNumbers_J90 N 0 i4 0 S = some (0, S) := by
    unfold zf_X11_areSentenceNumbers_J90
    rw [if_neg i0_1', if_pos (Or.inl rfl)]
  constructor
  · rintro ⟨rfl, h1, h2⟩
    unfold zf_X11_areSentenceNumbers_J63 zf_X11_isWithin
    rw [if_pos rfl, if_neg i1_0, if_neg h1, if_neg h2]
    refine zb_to rfl ?_
    rw [if_neg i1_0]
    unfold zf_X11_areSentenceNumbers_J88 zf_X11_areSentenceNumbers_J90
    rw [if_neg i0_1', if_pos (Or.inr rfl)]
  · rintro (rfl | ⟨rfl, h⟩)
    · unfold zf_X11_areSentenceNumbers_J63
      rw [if_pos rfl, if_pos rfl]
      unfold zf_X11_areSentenceNumbers_J87 zf_X11_areSentenceNumbers_J88
      exact e0
    · unfold zf_X11_areSentenceNumbers_J63 zf_X11_isWithin
      rw [if_pos rfl, if_neg i1_0]
      by_cases h1 : i4 < 1
      · rw [if_pos h1]
        refine zb_to rfl ?_
        rw [if_pos rfl]
        unfold zf_X11_areSentenceNumbers_J87 zf_X11_areSentenceNumbers_J88
        exact e0
      · rw [if_neg h1, if_pos (Classical.byContradiction (fun q => h ⟨h1, q⟩))]
        refine zb_to rfl ?_
        rw [if_pos rfl]
        unfold zf_X11_areSentenceNumbers_J87 zf_X11_areSentenceNumbers_J88
        exact e0
theorem sen_63_1 {b : Int32} : (b = 1 ∧ isn i4 → zf_X11_areSentenceNumbers_J63 N 1 i4 b S = some (1, S)) ∧ (b = 0 ∨ b = 1 ∧ ¬ isn i4 → zf_X11_areSentenceNumbers_J63 N 1 i4 b S = some (0, S)) := by
  constructor
  · rintro ⟨rfl, h⟩
    unfold zf_X11_areSentenceNumbers_J63 zf_X11_areSentenceNumbers_J90
    rw [if_neg i1_0, if_pos rfl, if_neg i1_0]
    refine zb_to (isn_c1 h) ?_
    rw [if_neg i1_0]
  · rintro (rfl | ⟨rfl, h⟩)
    · unfold zf_X11_areSentenceNumbers_J63 zf_X11_areSentenceNumbers_J90
      rw [if_neg i1_0, if_pos rfl, if_pos rfl]
      unfold zf_X11_areSentenceNumbers_J112
      rfl
    · unfold zf_X11_areSentenceNumbers_J63 zf_X11_areSentenceNumbers_J90
      rw [if_neg i1_0, if_pos rfl, if_neg i1_0]
      refine zb_to (isn_c0 h) ?_
      rw [if_pos rfl]
      unfold zf_X11_areSentenceNumbers_J112
      rfl
theorem sen_63_n {b : Int32} (h0 : ¬ i0 = 0) (h1 : ¬ i0 = 1) (hb : b = 0 ∨ b = 1) : zf_X11_areSentenceNumbers_J63 N i0 i4 b S = some (b, S) := by
  unfold zf_X11_areSentenceNumbers_J63 zf_X11_areSentenceNumbers_J90
  rw [if_neg h0, if_neg h1, if_pos hb]
theorem sen_cls : (senB i0 i1 i2 i3 i4 → zf_X11_areSentenceNumbers N i0 i1 i2 i3 i4 S = some (1, S)) ∧ (¬ senB i0 i1 i2 i3 i4 → zf_X11_areSentenceNumbers N i0 i1 i2 i3 i4 S = some (0, S)) := by
  by_cases h4 : i0 = 4
  · subst h4
    refine ⟨fun h => sen_4.1 h.1, fun h => sen_4.2 (fun q => h ⟨q, fun n => absurd rfl n, ?_, fun n => absurd n i4_0, fun n => absurd n i4_1⟩)⟩
    rintro (n | n | n)
    · exact absurd n i4_0
    · exact absurd n i4_1
    · exact absurd n i4_3
  · -- what J30 does with the first two numbers' bit
    have key : ∀ b : Int32, (b = 1 ∧ ((i0 = 0 ∨ i0 = 1 ∨ i0 = 3 → isn i3) ∧ (i0 = 0 → ¬ i4 < 1 ∧ ¬ (12 : Int32) < i4) ∧ (i0 = 1 → isn i4)) → zf_X11_areSentenceNumbers_J30 N i0 i3 i4 b S = some (1, S)) ∧ (b = 0 ∨ b = 1 ∧ ¬ ((i0 = 0 ∨ i0 = 1 ∨ i0 = 3 → isn i3) ∧ (i0 = 0 → ¬ i4 < 1 ∧ ¬ (12 : Int32) < i4) ∧ (i0 = 1 → isn i4)) → zf_X11_areSentenceNumbers_J30 N i0 i3 i4 b S = some (0, S)) := by
      intro b
      by_cases h0 : i0 = 0
      · subst h0
        have e : zf_X11_areSentenceNumbers_J30 N 0 i3 i4 b S = zf_X11_areSentenceNumbers_J44 N 0 i3 i4 b S := by
          unfold zf_X11_areSentenceNumbers_J30
          rw [if_pos rfl]
        rw [e]
        constructor
        · rintro ⟨hb, p, q, _⟩
          rw [sen_44.1 ⟨hb, p (Or.inl rfl)⟩]
          exact sen_63_0.1 ⟨rfl, q rfl⟩
        · rintro (hb | ⟨hb, hn⟩)
          · rw [sen_44.2 (Or.inl hb)]
            exact sen_63_0.2 (Or.inl rfl)
          · by_cases p : isn i3
            · rw [sen_44.1 ⟨hb, p⟩]
              exact sen_63_0.2 (Or.inr ⟨rfl, fun q => hn ⟨fun _ => p, fun _ => q, fun n => absurd n i0_1'⟩⟩)
            · rw [sen_44.2 (Or.inr ⟨hb, p⟩)]
              exact sen_63_0.2 (Or.inl rfl)
      · by_cases h1 : i0 = 1
        · subst h1
          have e : zf_X11_areSentenceNumbers_J30 N 1 i3 i4 b S = zf_X11_areSentenceNumbers_J44 N 1 i3 i4 b S := by
            unfold zf_X11_areSentenceNumbers_J30
            rw [if_neg i1_0, if_pos rfl]
          rw [e]
          constructor
          · rintro ⟨hb, p, _, q⟩
            rw [sen_44.1 ⟨hb, p (Or.inr (Or.inl rfl))⟩]
            exact sen_63_1.1 ⟨rfl, q rfl⟩
          · rintro (hb | ⟨hb, hn⟩)
            · rw [sen_44.2 (Or.inl hb)]
              exact sen_63_1.2 (Or.inl rfl)
            · by_cases p : isn i3
              · rw [sen_44.1 ⟨hb, p⟩]
                exact sen_63_1.2 (Or.inr ⟨rfl, fun q => hn ⟨fun _ => p, fun n => absurd n i1_0, fun _ => q⟩⟩)
              · rw [sen_44.2 (Or.inr ⟨hb, p⟩)]
                exact sen_63_1.2 (Or.inl rfl)
        · by_cases h3 : i0 = 3
          · subst h3
            have e : zf_X11_areSentenceNumbers_J30 N 3 i3 i4 b S = zf_X11_areSentenceNumbers_J44 N 3 i3 i4 b S := by
              unfold zf_X11_areSentenceNumbers_J30
              rw [if_neg i3_0, if_neg i3_1, if_pos rfl]
            rw [e]
            constructor
            · rintro ⟨hb, p, _⟩
              rw [sen_44.1 ⟨hb, p (Or.inr (Or.inr rfl))⟩]
              exact sen_63_n i3_0 i3_1 (Or.inr rfl)
            · rintro (hb | ⟨hb, hn⟩)
              · rw [sen_44.2 (Or.inl hb)]
                exact sen_63_n i3_0 i3_1 (Or.inl rfl)
              · by_cases p : isn i3
                · exact absurd ⟨fun _ => p, fun n => absurd n i3_0, fun n => absurd n i3_1⟩ hn
                · rw [sen_44.2 (Or.inr ⟨hb, p⟩)]
                  exact sen_63_n i3_0 i3_1 (Or.inl rfl)
          · have e : zf_X11_areSentenceNumbers_J30 N i0 i3 i4 b S = zf_X11_areSentenceNumbers_J63 N i0 i4 b S := by
              unfold zf_X11_areSentenceNumbers_J30
              rw [if_neg h0, if_neg h1, if_neg h3]
            rw [e]
            constructor
            · rintro ⟨rfl, _⟩
              exact sen_63_n h0 h1 (Or.inr rfl)
            · rintro (rfl | ⟨rfl, hn⟩)
              · exact sen_63_n h0 h1 (Or.inl rfl)
              · exact absurd ⟨fun n => by rcases n with n | n | n <;> contradiction, fun n => absurd n h0, fun n => absurd n h1⟩ hn
    constructor
    · rintro ⟨a, b, c⟩
      rw [(sen_n4 h4).1 ⟨a, b h4⟩]
      exact (key 1).1 ⟨rfl, c⟩
    · intro hn
      by_cases hp : isn i1 ∧ isn i2
      · rw [(sen_n4 h4).1 hp]
        exact (key 1).2 (Or.inr ⟨rfl, fun c => hn ⟨hp.1, fun _ => hp.2, c⟩⟩)
      · rw [(sen_n4 h4).2 hp]
        exact (key 0).2 (Or.inl rfl)
def senP (i0 i1 i2 i3 i4 : Int32) : Prop := (¬ i0 < 0 ∧ ¬ (4 : Int32) < i0) ∧ senB i0 i1 i2 i3 i4
theorem sen_c1 {a0 : Nat} (h : senP i1 i2 i3 i4 i5) : zf_X11_sentence N a0 i1 i2 i3 i4 i5 S = zf_X11_sentence_J27 N a0 i1 i2 i3 i4 i5 1 S := by
  unfold zf_X11_sentence zf_X11_isWithin
  rw [if_neg h.1.1, if_neg h.1.2]
  refine zb_to rfl ?_
  rw [if_neg i1_0]
  refine (zb_to (sen_cls.1 h.2) ?_)
  exact if_neg i1_0
theorem sen_c0 {a0 : Nat} (h : ¬ senP i1 i2 i3 i4 i5) : zf_X11_sentence N a0 i1 i2 i3 i4 i5 S = zf_X11_sentence_J27 N a0 i1 i2 i3 i4 i5 0 S := by
  unfold zf_X11_sentence zf_X11_isWithin
  by_cases h1 : i1 < 0
  · rw [if_pos h1]
    refine zb_to rfl ?_
    rw [if_pos rfl]
    unfold zf_X11_sentence_J26
    rfl
  · by_cases h2 : (4 : Int32) < i1
    · rw [if_neg h1, if_pos h2]
      refine zb_to rfl ?_
      rw [if_pos rfl]
      unfold zf_X11_sentence_J26
      rfl
    · rw [if_neg h1, if_neg h2]
      refine zb_to rfl ?_
      rw [if_neg i1_0]
      refine zb_to (sen_cls.2 (fun q => h ⟨⟨h1, h2⟩, q⟩)) ?_
      rw [if_pos rfl]
      unfold zf_X11_sentence_J26
      rfl
/-- the reference -/
theorem sen_67_0 {a0 : Nat} : zf_X18_sentence_J67 N a0 i1 i2 i3 i4 i5 0 S = zf_X18_sentence_J113 N a0 i1 i2 i3 i4 i5 0 S := by
  unfold zf_X18_sentence_J67
  rw [if_pos rfl]
  unfold zf_X18_sentence_J112
  rfl
theorem sen_r1 {a0 : Nat} (h : senP i1 i2 i3 i4 i5) : zf_X18_sentence N a0 i1 i2 i3 i4 i5 S = (zp S a0 18 0 (.int (0 : Int32))).bind (fun S1 => zf_X18_sentence_J113 N a0 i1 i2 i3 i4 i5 1 S1) := by
  obtain ⟨⟨g1, g2⟩, p1, p2, p3, p4, p5⟩ := h
  unfold zf_X18_sentence
  congr 1
  funext S1
  have e5 : ¬ (5 : Int32) ≤ i1 := by
    intro q
    apply g2
    rw [Int32.le_iff_toInt_le] at q
    rw [Int32.lt_iff_toInt_lt]
    have a5 : (5 : Int32).toInt = 5 := by decide
    have a4 : (4 : Int32).toInt = 4 := by decide
    omega
  unfold zf_X18_isIn
  rw [if_neg g1, if_neg e5]
  refine zb_to rfl ?_
  rw [if_neg i1_0]
  refine (zb_to (isn_r1 p1) ?_)
  refine (if_neg i1_0).trans ?_
  unfold zf_X18_sentence_J25
  rw [if_neg i1_0]
  have t67 : zf_X18_sentence_J67 N a0 i1 i2 i3 i4 i5 1 S1 = zf_X18_sentence_J113 N a0 i1 i2 i3 i4 i5 1 S1 := by
    unfold zf_X18_sentence_J67
    rw [if_neg i1_0]
    by_cases c1 : (1 : Int32) < i1
    · rw [if_pos c1]
      unfold zf_X18_sentence_J108
      rfl
    · rw [if_neg c1]
      by_cases c2 : i1 = 1
      · rw [if_pos c2]
        refine zb_to (isn_r1 (p5 c2)) ?_
        refine (if_neg i1_0).trans ?_
        unfold zf_X18_sentence_J108
        rfl
      · have c0 : i1 = 0 := by
          rw [Int32.lt_iff_toInt_lt] at g1 c1
          apply Int32.toInt_inj.mp
          have a0 : (0 : Int32).toInt = 0 := by decide
          have a1 : (1 : Int32).toInt = 1 := by decide
          have c3 : i1.toInt ≠ 1 := fun q => c2 (Int32.toInt_inj.mp (q.trans a1.symm))
          omega
        rw [if_neg c2, if_neg (p4 c0).1, if_neg (p4 c0).2]
        unfold zf_X18_sentence_J108
        rfl
  have t44 : zf_X18_sentence_J44 N a0 i1 i2 i3 i4 i5 S1 = zf_X18_sentence_J113 N a0 i1 i2 i3 i4 i5 1 S1 := by
    unfold zf_X18_sentence_J44
    by_cases c2 : i1 = 2
    · rw [if_pos c2]
      unfold zf_X18_sentence_J62
      exact t67
    · rw [if_neg c2]
      by_cases c4 : i1 = 4
      · rw [if_pos c4]
        unfold zf_X18_sentence_J62
        exact t67
      · rw [if_neg c4]
        have hi : i1 = 0 ∨ i1 = 1 ∨ i1 = 3 := by
          rw [Int32.lt_iff_toInt_lt] at g1 g2
          have a0 : (0 : Int32).toInt = 0 := by decide
          have a1 : (1 : Int32).toInt = 1 := by decide
          have a2 : (2 : Int32).toInt = 2 := by decide
          have a3 : (3 : Int32).toInt = 3 := by decide
          have a4 : (4 : Int32).toInt = 4 := by decide
          have n2 : i1.toInt ≠ 2 := fun q => c2 (Int32.toInt_inj.mp (q.trans a2.symm))
          have n4 : i1.toInt ≠ 4 := fun q => c4 (Int32.toInt_inj.mp (q.trans a4.symm))
          have : i1.toInt = 0 ∨ i1.toInt = 1 ∨ i1.toInt = 3 := by omega
          rcases this with q | q | q
          · exact Or.inl (Int32.toInt_inj.mp (q.trans a0.symm))
          · exact Or.inr (Or.inl (Int32.toInt_inj.mp (q.trans a1.symm)))
          · exact Or.inr (Or.inr (Int32.toInt_inj.mp (q.trans a3.symm)))
        refine zb_to (isn_r1 (p3 hi)) ?_
        refine (if_neg i1_0).trans ?_
        unfold zf_X18_sentence_J62
        exact t67
  by_cases c4 : i1 = 4
  · rw [if_pos c4]
    exact t44
  · rw [if_neg c4]
    refine zb_to (isn_r1 (p2 c4)) ?_
    exact (if_neg i1_0).trans t44
theorem sen_r0 {a0 : Nat} (h : ¬ senP i1 i2 i3 i4 i5) : zf_X18_sentence N a0 i1 i2 i3 i4 i5 S = (zp S a0 18 0 (.int (0 : Int32))).bind (fun S1 => zf_X18_sentence_J113 N a0 i1 i2 i3 i4 i5 0 S1) := by
  unfold zf_X18_sentence
  congr 1
  funext S1
  have z24 : zf_X18_sentence_J24 N a0 i1 i2 i3 i4 i5 S1 = zf_X18_sentence_J113 N a0 i1 i2 i3 i4 i5 0 S1 := by
    unfold zf_X18_sentence_J24 zf_X18_sentence_J25
    rw [if_pos rfl]
    unfold zf_X18_sentence_J66
    exact sen_67_0
  have z66 : zf_X18_sentence_J66 N a0 i1 i2 i3 i4 i5 S1 = zf_X18_sentence_J113 N a0 i1 i2 i3 i4 i5 0 S1 := by
    unfold zf_X18_sentence_J66
    exact sen_67_0
  unfold zf_X18_isIn
  by_cases g1 : i1 < 0
  · rw [if_pos g1]
    refine zb_to rfl ?_
    rw [if_pos rfl]
    exact z24
  · rw [if_neg g1]
    by_cases g5 : (5 : Int32) ≤ i1
    · rw [if_pos g5]
      refine zb_to rfl ?_
      rw [if_pos rfl]
      exact z24
    · rw [if_neg g5]
      refine zb_to rfl ?_
      rw [if_neg i1_0]
      have g2 : ¬ (4 : Int32) < i1 := by
        intro q
        apply g5
        rw [Int32.lt_iff_toInt_lt] at q
        rw [Int32.le_iff_toInt_le]
        have a5 : (5 : Int32).toInt = 5 := by decide
        have a4 : (4 : Int32).toInt = 4 := by decide
        omega
      by_cases p1 : isn i2
      · refine zb_to (isn_r1 p1) ((if_neg i1_0).trans ?_)
        unfold zf_X18_sentence_J25
        rw [if_neg i1_0]
        -- the fifth number
        have t67 : (i1 = 0 → ¬ (¬ i5 < 1 ∧ ¬ (12 : Int32) < i5)) → (i1 = 1 → ¬ isn i5) → (i1 = 0 ∨ i1 = 1) → zf_X18_sentence_J67 N a0 i1 i2 i3 i4 i5 1 S1 = zf_X18_sentence_J113 N a0 i1 i2 i3 i4 i5 0 S1 := by
          intro q0 q1 q
          unfold zf_X18_sentence_J67
          rw [if_neg i1_0]
          have n1 : ¬ (1 : Int32) < i1 := by
            rcases q with q | q
            · rw [q]
              decide
            · rw [q]
              decide
          rw [if_neg n1]
          by_cases c2 : i1 = 1
          · rw [if_pos c2]
            refine zb_to (isn_r0 (q1 c2)) ((if_pos rfl).trans ?_)
            unfold zf_X18_sentence_J112
            rfl
          · rw [if_neg c2]
            have c0 : i1 = 0 := q.resolve_right c2
            by_cases d1 : i5 < 1
            · rw [if_pos d1]
              unfold zf_X18_sentence_J112
              rfl
            · rw [if_neg d1, if_pos (Classical.byContradiction (fun d2 => q0 c0 ⟨d1, d2⟩))]
              unfold zf_X18_sentence_J112
              rfl
        have t44 : (i1 ≠ 4 → isn i3) → zf_X18_sentence_J44 N a0 i1 i2 i3 i4 i5 S1 = zf_X18_sentence_J113 N a0 i1 i2 i3 i4 i5 0 S1 := by
          intro p2
          have bad : ¬ ((i1 = 0 ∨ i1 = 1 ∨ i1 = 3 → isn i4) ∧ (i1 = 0 → ¬ i5 < 1 ∧ ¬ (12 : Int32) < i5) ∧ (i1 = 1 → isn i5)) := fun q => h ⟨⟨g1, g2⟩, p1, p2, q.1, q.2.1, q.2.2⟩
          unfold zf_X18_sentence_J44
          by_cases c2 : i1 = 2
          · exact absurd ⟨fun n => by subst c2; rcases n with n | n | n <;> exact absurd n (by decide), fun n => by subst c2; exact absurd n (by decide), fun n => by subst c2; exact absurd n (by decide)⟩ bad
          · rw [if_neg c2]
            by_cases c4 : i1 = 4
            · exact absurd ⟨fun n => by subst c4; rcases n with n | n | n <;> exact absurd n (by decide), fun n => by subst c4; exact absurd n (by decide), fun n => by subst c4; exact absurd n (by decide)⟩ bad
            · rw [if_neg c4]
              by_cases p3 : isn i4
              · refine zb_to (isn_r1 p3) ((if_neg i1_0).trans ?_)
                unfold zf_X18_sentence_J62
                by_cases k0 : i1 = 0
                · exact t67 (fun _ q => bad ⟨fun _ => p3, fun _ => q, fun n => by subst k0; exact absurd n (by decide)⟩) (fun n => by subst k0; exact absurd n (by decide)) (Or.inl k0)
                · by_cases k1 : i1 = 1
                  · exact t67 (fun n => absurd n k0) (fun _ q => bad ⟨fun _ => p3, fun n => absurd n k0, fun _ => q⟩) (Or.inr k1)
                  · exact absurd ⟨fun _ => p3, fun n => absurd n k0, fun n => absurd n k1⟩ bad
              · refine zb_to (isn_r0 p3) ((if_pos rfl).trans ?_)
                exact z66
        by_cases c4 : i1 = 4
        · rw [if_pos c4]
          exact t44 (fun n => absurd c4 n)
        · rw [if_neg c4]
          by_cases p2 : isn i3
          · exact zb_to (isn_r1 p2) ((if_neg i1_0).trans (t44 (fun _ => p2)))
          · exact zb_to (isn_r0 p2) ((if_pos rfl).trans z66)
      · exact zb_to (isn_r0 p1) ((if_pos rfl).trans z24)
theorem sen_12 (h : senP i1 i2 i3 i4 i5) : i1 = 0 → i5 ≤ 12 := fun q => Int32.not_lt.mp (h.2.2.2.2.1 q).2
end SEN
section SENROW
variable {k : Nat → Nat → Nat → Nat → Int32 → Nat → Nat → zm_S → Option ((Int32 × zm_S) ⊕ (Unit × zm_S))} {xs : Nat → Int32} {S : zm_S} {i1 i2 i3 i4 i5 : Int32} {N a0 : Nat}
theorem hs_senc {ff : (Int32 ⊕ String) × zm_S → Option ((Int32 × zm_S) ⊕ (Unit × zm_S))} (h1 : senP i1 i2 i3 i4 i5 → fQ k xs ((zf_X11_sentence_J27 N a0 i1 i2 i3 i4 i5 1 S).bind ff)) (h2 : ¬ senP i1 i2 i3 i4 i5 → fQ k xs ((zf_X11_sentence_J27 N a0 i1 i2 i3 i4 i5 0 S).bind ff)) : fQ k xs ((zf_X11_sentence N a0 i1 i2 i3 i4 i5 S).bind ff) := by
  by_cases h : senP i1 i2 i3 i4 i5
  · rw [sen_c1 h]
    exact h1 h
  · rw [sen_c0 h]
    exact h2 h
end SENROW
set_option maxHeartbeats 8000000 in
set_option maxRecDepth 100000 in
theorem fo_37 (k : Nat → Nat → Nat → Nat → Int32 → Nat → Nat → zm_S → Option ((Int32 × zm_S) ⊕ (Unit × zm_S))) (xs w : Nat → Int32) : fQ k xs (zf_L_law_J3076 4000 k 0 6 2156 2332 0 597675 6725584 (fS 7 xs w)) := by
  with_reducible refine hq_eq (zf_L_law_J3076.eq_1 ..) ?_
  repeat' (first
    | ((with_reducible refine hb_some ?_); try dsimp only)
    | with_reducible refine hb_assoc ?_
    | (with_reducible refine hs_senc (fun _ => ?_) (fun _ => ?_))
    | with_reducible refine hb_eq (sen_r1 (by assumption)) ?_
    | with_reducible refine hb_eq (sen_r0 (by assumption)) ?_
    | ((with_reducible apply hs_sent); (focus ((repeat (first | with_reducible exact cell_s | with_reducible exact cell_us | with_reducible exact cell_fs | ((with_reducible refine cell_f ?_ ?_); rfl) | ((with_reducible refine cell_op ?_ ?_); rfl) | ((with_reducible refine cell_n ?_ ?_); rfl) | ((with_reducible refine cell_u ?_ ?_); rfl))); first | done | with_reducible exact fc_6 | with_reducible exact fc_2156 | with_reducible exact fc_0 | with_reducible exact fc_2332 | with_reducible exact fc_7 | with_reducible exact fc_51 | with_reducible exact fc_727 | with_reducible exact fc_735 | with_reducible exact fc_756 | with_reducible exact fc_824 | with_reducible exact fc_908 | with_reducible exact fc_1003 | with_reducible exact fc_1139 | with_reducible exact fc_1172 | with_reducible exact fc_1337 | with_reducible exact fc_2157 | with_reducible exact fc_2184 | with_reducible exact fc_2208 | with_reducible exact fc_2235 | with_reducible exact fc_2252 | with_reducible exact fc_2270 | with_reducible exact fc_909 | with_reducible exact fc_2234)); rfl; (focus ((repeat (first | with_reducible exact cell_s | with_reducible exact cell_us | with_reducible exact cell_fs | ((with_reducible refine cell_f ?_ ?_); rfl) | ((with_reducible refine cell_op ?_ ?_); rfl) | ((with_reducible refine cell_n ?_ ?_); rfl) | ((with_reducible refine cell_u ?_ ?_); rfl))); first | done | with_reducible exact fc_6 | with_reducible exact fc_2156 | with_reducible exact fc_0 | with_reducible exact fc_2332 | with_reducible exact fc_7 | with_reducible exact fc_51 | with_reducible exact fc_727 | with_reducible exact fc_735 | with_reducible exact fc_756 | with_reducible exact fc_824 | with_reducible exact fc_908 | with_reducible exact fc_1003 | with_reducible exact fc_1139 | with_reducible exact fc_1172 | with_reducible exact fc_1337 | with_reducible exact fc_2157 | with_reducible exact fc_2184 | with_reducible exact fc_2208 | with_reducible exact fc_2235 | with_reducible exact fc_2252 | with_reducible exact fc_2270 | with_reducible exact fc_909 | with_reducible exact fc_2234)); rfl; intro _ _ _; try dsimp only)
    | ((with_reducible apply hs_make); (focus exact sen_12 (by assumption)); (focus ((repeat (first | with_reducible exact cell_s | with_reducible exact cell_us | with_reducible exact cell_fs | ((with_reducible refine cell_f ?_ ?_); rfl) | ((with_reducible refine cell_op ?_ ?_); rfl) | ((with_reducible refine cell_n ?_ ?_); rfl) | ((with_reducible refine cell_u ?_ ?_); rfl))); first | done | with_reducible exact fc_6 | with_reducible exact fc_2156 | with_reducible exact fc_0 | with_reducible exact fc_2332 | with_reducible exact fc_7 | with_reducible exact fc_51 | with_reducible exact fc_727 | with_reducible exact fc_735 | with_reducible exact fc_756 | with_reducible exact fc_824 | with_reducible exact fc_908 | with_reducible exact fc_1003 | with_reducible exact fc_1139 | with_reducible exact fc_1172 | with_reducible exact fc_1337 | with_reducible exact fc_2157 | with_reducible exact fc_2184 | with_reducible exact fc_2208 | with_reducible exact fc_2235 | with_reducible exact fc_2252 | with_reducible exact fc_2270 | with_reducible exact fc_909 | with_reducible exact fc_2234)); rfl; (focus ((repeat (first | with_reducible exact cell_s | with_reducible exact cell_us | with_reducible exact cell_fs | ((with_reducible refine cell_f ?_ ?_); rfl) | ((with_reducible refine cell_op ?_ ?_); rfl) | ((with_reducible refine cell_n ?_ ?_); rfl) | ((with_reducible refine cell_u ?_ ?_); rfl))); first | done | with_reducible exact fc_6 | with_reducible exact fc_2156 | with_reducible exact fc_0 | with_reducible exact fc_2332 | with_reducible exact fc_7 | with_reducible exact fc_51 | with_reducible exact fc_727 | with_reducible exact fc_735 | with_reducible exact fc_756 | with_reducible exact fc_824 | with_reducible exact fc_908 | with_reducible exact fc_1003 | with_reducible exact fc_1139 | with_reducible exact fc_1172 | with_reducible exact fc_1337 | with_reducible exact fc_2157 | with_reducible exact fc_2184 | with_reducible exact fc_2208 | with_reducible exact fc_2235 | with_reducible exact fc_2252 | with_reducible exact fc_2270 | with_reducible exact fc_909 | with_reducible exact fc_2234)); rfl; intro _ _; try dsimp only)
    | ((with_reducible apply hx_i); (focus ((repeat (first | with_reducible exact cell_s | with_reducible exact cell_us | with_reducible exact cell_fs | ((with_reducible refine cell_f ?_ ?_); rfl) | ((with_reducible refine cell_op ?_ ?_); rfl) | ((with_reducible refine cell_n ?_ ?_); rfl) | ((with_reducible refine cell_u ?_ ?_); rfl))); first | done | with_reducible exact fc_6 | with_reducible exact fc_2156 | with_reducible exact fc_0 | with_reducible exact fc_2332 | with_reducible exact fc_7 | with_reducible exact fc_51 | with_reducible exact fc_727 | with_reducible exact fc_735 | with_reducible exact fc_756 | with_reducible exact fc_824 | with_reducible exact fc_908 | with_reducible exact fc_1003 | with_reducible exact fc_1139 | with_reducible exact fc_1172 | with_reducible exact fc_1337 | with_reducible exact fc_2157 | with_reducible exact fc_2184 | with_reducible exact fc_2208 | with_reducible exact fc_2235 | with_reducible exact fc_2252 | with_reducible exact fc_2270 | with_reducible exact fc_909 | with_reducible exact fc_2234)); rfl)
    | ((with_reducible apply hx_gi); (focus ((repeat (first | with_reducible exact cell_s | with_reducible exact cell_us | with_reducible exact cell_fs | ((with_reducible refine cell_f ?_ ?_); rfl) | ((with_reducible refine cell_op ?_ ?_); rfl) | ((with_reducible refine cell_n ?_ ?_); rfl) | ((with_reducible refine cell_u ?_ ?_); rfl))); first | done | with_reducible exact fc_6 | with_reducible exact fc_2156 | with_reducible exact fc_0 | with_reducible exact fc_2332 | with_reducible exact fc_7 | with_reducible exact fc_51 | with_reducible exact fc_727 | with_reducible exact fc_735 | with_reducible exact fc_756 | with_reducible exact fc_824 | with_reducible exact fc_908 | with_reducible exact fc_1003 | with_reducible exact fc_1139 | with_reducible exact fc_1172 | with_reducible exact fc_1337 | with_reducible exact fc_2157 | with_reducible exact fc_2184 | with_reducible exact fc_2208 | with_reducible exact fc_2235 | with_reducible exact fc_2252 | with_reducible exact fc_2270 | with_reducible exact fc_909 | with_reducible exact fc_2234)); rfl; rfl)
    | ((with_reducible apply hx_gr); (focus ((repeat (first | with_reducible exact cell_s | with_reducible exact cell_us | with_reducible exact cell_fs | ((with_reducible refine cell_f ?_ ?_); rfl) | ((with_reducible refine cell_op ?_ ?_); rfl) | ((with_reducible refine cell_n ?_ ?_); rfl) | ((with_reducible refine cell_u ?_ ?_); rfl))); first | done | with_reducible exact fc_6 | with_reducible exact fc_2156 | with_reducible exact fc_0 | with_reducible exact fc_2332 | with_reducible exact fc_7 | with_reducible exact fc_51 | with_reducible exact fc_727 | with_reducible exact fc_735 | with_reducible exact fc_756 | with_reducible exact fc_824 | with_reducible exact fc_908 | with_reducible exact fc_1003 | with_reducible exact fc_1139 | with_reducible exact fc_1172 | with_reducible exact fc_1337 | with_reducible exact fc_2157 | with_reducible exact fc_2184 | with_reducible exact fc_2208 | with_reducible exact fc_2235 | with_reducible exact fc_2252 | with_reducible exact fc_2270 | with_reducible exact fc_909 | with_reducible exact fc_2234)); rfl; rfl)
    | ((with_reducible apply hx_xi); (focus ((repeat (first | with_reducible exact cell_s | with_reducible exact cell_us | with_reducible exact cell_fs | ((with_reducible refine cell_f ?_ ?_); rfl) | ((with_reducible refine cell_op ?_ ?_); rfl) | ((with_reducible refine cell_n ?_ ?_); rfl) | ((with_reducible refine cell_u ?_ ?_); rfl))); first | done | with_reducible exact fc_6 | with_reducible exact fc_2156 | with_reducible exact fc_0 | with_reducible exact fc_2332 | with_reducible exact fc_7 | with_reducible exact fc_51 | with_reducible exact fc_727 | with_reducible exact fc_735 | with_reducible exact fc_756 | with_reducible exact fc_824 | with_reducible exact fc_908 | with_reducible exact fc_1003 | with_reducible exact fc_1139 | with_reducible exact fc_1172 | with_reducible exact fc_1337 | with_reducible exact fc_2157 | with_reducible exact fc_2184 | with_reducible exact fc_2208 | with_reducible exact fc_2235 | with_reducible exact fc_2252 | with_reducible exact fc_2270 | with_reducible exact fc_909 | with_reducible exact fc_2234)); rfl; rfl; rfl; rfl; rfl)
    | ((with_reducible apply hx_p); (focus ((repeat (first | with_reducible exact cell_s | with_reducible exact cell_us | with_reducible exact cell_fs | ((with_reducible refine cell_f ?_ ?_); rfl) | ((with_reducible refine cell_op ?_ ?_); rfl) | ((with_reducible refine cell_n ?_ ?_); rfl) | ((with_reducible refine cell_u ?_ ?_); rfl))); first | done | with_reducible exact fc_6 | with_reducible exact fc_2156 | with_reducible exact fc_0 | with_reducible exact fc_2332 | with_reducible exact fc_7 | with_reducible exact fc_51 | with_reducible exact fc_727 | with_reducible exact fc_735 | with_reducible exact fc_756 | with_reducible exact fc_824 | with_reducible exact fc_908 | with_reducible exact fc_1003 | with_reducible exact fc_1139 | with_reducible exact fc_1172 | with_reducible exact fc_1337 | with_reducible exact fc_2157 | with_reducible exact fc_2184 | with_reducible exact fc_2208 | with_reducible exact fc_2235 | with_reducible exact fc_2252 | with_reducible exact fc_2270 | with_reducible exact fc_909 | with_reducible exact fc_2234)); rfl; rfl)
    | ((with_reducible apply hx_n); (focus ((repeat (first | with_reducible exact cell_s | with_reducible exact cell_us | with_reducible exact cell_fs | ((with_reducible refine cell_f ?_ ?_); rfl) | ((with_reducible refine cell_op ?_ ?_); rfl) | ((with_reducible refine cell_n ?_ ?_); rfl) | ((with_reducible refine cell_u ?_ ?_); rfl))); first | done | with_reducible exact fc_6 | with_reducible exact fc_2156 | with_reducible exact fc_0 | with_reducible exact fc_2332 | with_reducible exact fc_7 | with_reducible exact fc_51 | with_reducible exact fc_727 | with_reducible exact fc_735 | with_reducible exact fc_756 | with_reducible exact fc_824 | with_reducible exact fc_908 | with_reducible exact fc_1003 | with_reducible exact fc_1139 | with_reducible exact fc_1172 | with_reducible exact fc_1337 | with_reducible exact fc_2157 | with_reducible exact fc_2184 | with_reducible exact fc_2208 | with_reducible exact fc_2235 | with_reducible exact fc_2252 | with_reducible exact fc_2270 | with_reducible exact fc_909 | with_reducible exact fc_2234)); rfl; rfl; rfl)
    | ((with_reducible apply hx_gl); (focus ((repeat (first | with_reducible exact cell_s | with_reducible exact cell_us | with_reducible exact cell_fs | ((with_reducible refine cell_f ?_ ?_); rfl) | ((with_reducible refine cell_op ?_ ?_); rfl) | ((with_reducible refine cell_n ?_ ?_); rfl) | ((with_reducible refine cell_u ?_ ?_); rfl))); first | done | with_reducible exact fc_6 | with_reducible exact fc_2156 | with_reducible exact fc_0 | with_reducible exact fc_2332 | with_reducible exact fc_7 | with_reducible exact fc_51 | with_reducible exact fc_727 | with_reducible exact fc_735 | with_reducible exact fc_756 | with_reducible exact fc_824 | with_reducible exact fc_908 | with_reducible exact fc_1003 | with_reducible exact fc_1139 | with_reducible exact fc_1172 | with_reducible exact fc_1337 | with_reducible exact fc_2157 | with_reducible exact fc_2184 | with_reducible exact fc_2208 | with_reducible exact fc_2235 | with_reducible exact fc_2252 | with_reducible exact fc_2270 | with_reducible exact fc_909 | with_reducible exact fc_2234)); rfl; rfl)
    | ((with_reducible apply hx_sl); (focus ((repeat (first | with_reducible exact cell_s | with_reducible exact cell_us | with_reducible exact cell_fs | ((with_reducible refine cell_f ?_ ?_); rfl) | ((with_reducible refine cell_op ?_ ?_); rfl) | ((with_reducible refine cell_n ?_ ?_); rfl) | ((with_reducible refine cell_u ?_ ?_); rfl))); first | done | with_reducible exact fc_6 | with_reducible exact fc_2156 | with_reducible exact fc_0 | with_reducible exact fc_2332 | with_reducible exact fc_7 | with_reducible exact fc_51 | with_reducible exact fc_727 | with_reducible exact fc_735 | with_reducible exact fc_756 | with_reducible exact fc_824 | with_reducible exact fc_908 | with_reducible exact fc_1003 | with_reducible exact fc_1139 | with_reducible exact fc_1172 | with_reducible exact fc_1337 | with_reducible exact fc_2157 | with_reducible exact fc_2184 | with_reducible exact fc_2208 | with_reducible exact fc_2235 | with_reducible exact fc_2252 | with_reducible exact fc_2270 | with_reducible exact fc_909 | with_reducible exact fc_2234)); rfl; rfl; rfl; rfl)
    | ((with_reducible apply hx_xl); (focus ((repeat (first | with_reducible exact cell_s | with_reducible exact cell_us | with_reducible exact cell_fs | ((with_reducible refine cell_f ?_ ?_); rfl) | ((with_reducible refine cell_op ?_ ?_); rfl) | ((with_reducible refine cell_n ?_ ?_); rfl) | ((with_reducible refine cell_u ?_ ?_); rfl))); first | done | with_reducible exact fc_6 | with_reducible exact fc_2156 | with_reducible exact fc_0 | with_reducible exact fc_2332 | with_reducible exact fc_7 | with_reducible exact fc_51 | with_reducible exact fc_727 | with_reducible exact fc_735 | with_reducible exact fc_756 | with_reducible exact fc_824 | with_reducible exact fc_908 | with_reducible exact fc_1003 | with_reducible exact fc_1139 | with_reducible exact fc_1172 | with_reducible exact fc_1337 | with_reducible exact fc_2157 | with_reducible exact fc_2184 | with_reducible exact fc_2208 | with_reducible exact fc_2235 | with_reducible exact fc_2252 | with_reducible exact fc_2270 | with_reducible exact fc_909 | with_reducible exact fc_2234)); rfl; rfl; rfl; rfl; rfl)
    | ((with_reducible apply hx_xr); (focus ((repeat (first | with_reducible exact cell_s | with_reducible exact cell_us | with_reducible exact cell_fs | ((with_reducible refine cell_f ?_ ?_); rfl) | ((with_reducible refine cell_op ?_ ?_); rfl) | ((with_reducible refine cell_n ?_ ?_); rfl) | ((with_reducible refine cell_u ?_ ?_); rfl))); first | done | with_reducible exact fc_6 | with_reducible exact fc_2156 | with_reducible exact fc_0 | with_reducible exact fc_2332 | with_reducible exact fc_7 | with_reducible exact fc_51 | with_reducible exact fc_727 | with_reducible exact fc_735 | with_reducible exact fc_756 | with_reducible exact fc_824 | with_reducible exact fc_908 | with_reducible exact fc_1003 | with_reducible exact fc_1139 | with_reducible exact fc_1172 | with_reducible exact fc_1337 | with_reducible exact fc_2157 | with_reducible exact fc_2184 | with_reducible exact fc_2208 | with_reducible exact fc_2235 | with_reducible exact fc_2252 | with_reducible exact fc_2270 | with_reducible exact fc_909 | with_reducible exact fc_2234)); rfl; rfl; rfl; rfl; rfl; rfl)
    | ((with_reducible apply hx_si); (focus ((repeat (first | with_reducible exact cell_s | with_reducible exact cell_us | with_reducible exact cell_fs | ((with_reducible refine cell_f ?_ ?_); rfl) | ((with_reducible refine cell_op ?_ ?_); rfl) | ((with_reducible refine cell_n ?_ ?_); rfl) | ((with_reducible refine cell_u ?_ ?_); rfl))); first | done | with_reducible exact fc_6 | with_reducible exact fc_2156 | with_reducible exact fc_0 | with_reducible exact fc_2332 | with_reducible exact fc_7 | with_reducible exact fc_51 | with_reducible exact fc_727 | with_reducible exact fc_735 | with_reducible exact fc_756 | with_reducible exact fc_824 | with_reducible exact fc_908 | with_reducible exact fc_1003 | with_reducible exact fc_1139 | with_reducible exact fc_1172 | with_reducible exact fc_1337 | with_reducible exact fc_2157 | with_reducible exact fc_2184 | with_reducible exact fc_2208 | with_reducible exact fc_2235 | with_reducible exact fc_2252 | with_reducible exact fc_2270 | with_reducible exact fc_909 | with_reducible exact fc_2234)); rfl; rfl; rfl; rfl)
    | ((with_reducible apply hx_pz); decide; (focus ((repeat (first | with_reducible exact cell_s | with_reducible exact cell_us | with_reducible exact cell_fs | ((with_reducible refine cell_f ?_ ?_); rfl) | ((with_reducible refine cell_op ?_ ?_); rfl) | ((with_reducible refine cell_n ?_ ?_); rfl) | ((with_reducible refine cell_u ?_ ?_); rfl))); first | done | with_reducible exact fc_6 | with_reducible exact fc_2156 | with_reducible exact fc_0 | with_reducible exact fc_2332 | with_reducible exact fc_7 | with_reducible exact fc_51 | with_reducible exact fc_727 | with_reducible exact fc_735 | with_reducible exact fc_756 | with_reducible exact fc_824 | with_reducible exact fc_908 | with_reducible exact fc_1003 | with_reducible exact fc_1139 | with_reducible exact fc_1172 | with_reducible exact fc_1337 | with_reducible exact fc_2157 | with_reducible exact fc_2184 | with_reducible exact fc_2208 | with_reducible exact fc_2235 | with_reducible exact fc_2252 | with_reducible exact fc_2270 | with_reducible exact fc_909 | with_reducible exact fc_2234)); rfl; rfl)
    | ((with_reducible apply hx_sc); (focus ((repeat (first | with_reducible exact cell_s | with_reducible exact cell_us | with_reducible exact cell_fs | ((with_reducible refine cell_f ?_ ?_); rfl) | ((with_reducible refine cell_op ?_ ?_); rfl) | ((with_reducible refine cell_n ?_ ?_); rfl) | ((with_reducible refine cell_u ?_ ?_); rfl))); first | done | with_reducible exact fc_6 | with_reducible exact fc_2156 | with_reducible exact fc_0 | with_reducible exact fc_2332 | with_reducible exact fc_7 | with_reducible exact fc_51 | with_reducible exact fc_727 | with_reducible exact fc_735 | with_reducible exact fc_756 | with_reducible exact fc_824 | with_reducible exact fc_908 | with_reducible exact fc_1003 | with_reducible exact fc_1139 | with_reducible exact fc_1172 | with_reducible exact fc_1337 | with_reducible exact fc_2157 | with_reducible exact fc_2184 | with_reducible exact fc_2208 | with_reducible exact fc_2235 | with_reducible exact fc_2252 | with_reducible exact fc_2270 | with_reducible exact fc_909 | with_reducible exact fc_2234)); rfl; rfl; rfl; rfl)
    | ((with_reducible apply hx_sz); decide; (focus ((repeat (first | with_reducible exact cell_s | with_reducible exact cell_us | with_reducible exact cell_fs | ((with_reducible refine cell_f ?_ ?_); rfl) | ((with_reducible refine cell_op ?_ ?_); rfl) | ((with_reducible refine cell_n ?_ ?_); rfl) | ((with_reducible refine cell_u ?_ ?_); rfl))); first | done | with_reducible exact fc_6 | with_reducible exact fc_2156 | with_reducible exact fc_0 | with_reducible exact fc_2332 | with_reducible exact fc_7 | with_reducible exact fc_51 | with_reducible exact fc_727 | with_reducible exact fc_735 | with_reducible exact fc_756 | with_reducible exact fc_824 | with_reducible exact fc_908 | with_reducible exact fc_1003 | with_reducible exact fc_1139 | with_reducible exact fc_1172 | with_reducible exact fc_1337 | with_reducible exact fc_2157 | with_reducible exact fc_2184 | with_reducible exact fc_2208 | with_reducible exact fc_2235 | with_reducible exact fc_2252 | with_reducible exact fc_2270 | with_reducible exact fc_909 | with_reducible exact fc_2234)); rfl; rfl; rfl; rfl)
    | with_reducible refine hb_neg (by decide) ?_
    | with_reducible refine hb_pos (by decide) ?_
    | with_reducible refine hq_neg (by decide) ?_
    | with_reducible refine hq_pos (by decide) ?_
    | with_reducible refine hq_pos (lg_self _) ?_
    | with_reducible refine hb_eq (zf_L_sentence.eq_1 ..) ?_
    | with_reducible refine hb_eq (zf_X18_thrown.eq_1 ..) ?_
    | with_reducible refine hb_eq (zf_X11_sentence_J27.eq_1 ..) ?_
    | with_reducible refine hb_eq (zf_X18_sentence_J113.eq_1 ..) ?_
    | with_reducible refine hb_eq (zf_X11_needArgument.eq_1 ..) ?_
    | with_reducible refine hb_eq (zf_X11_sentence_J65.eq_1 ..) ?_
    | with_reducible refine hb_eq (zf_X11_sentence_J66.eq_1 ..) ?_
    | with_reducible refine hb_eq (zf_X11_needState.eq_1 ..) ?_
    | with_reducible refine hb_eq (zf_X18_sentence_J134.eq_1 ..) ?_
    | with_reducible refine hb_eq (zf_X18_sentence_J169.eq_1 ..) ?_
    | with_reducible refine hb_eq (zf_X18_sentence_J170.eq_1 ..) ?_
    | with_reducible refine hb_eq (zf_X18_goes.eq_1 ..) ?_
    | with_reducible refine hb_eq (zf_X18_goes_J18.eq_1 ..) ?_
    | with_reducible refine hb_neg (by assumption) ?_
    | with_reducible refine hb_pos (by assumption) ?_
    | with_reducible refine hb_ite (fun _ => ?_) (fun _ => ?_)
    | with_reducible refine hq_ite (fun _ => ?_) (fun _ => ?_)
    | ((with_reducible apply hq_end); decide; (focus ((repeat (first | with_reducible exact cell_s | with_reducible exact cell_us | with_reducible exact cell_fs | ((with_reducible refine cell_f ?_ ?_); rfl) | ((with_reducible refine cell_op ?_ ?_); rfl) | ((with_reducible refine cell_n ?_ ?_); rfl) | ((with_reducible refine cell_u ?_ ?_); rfl))); first | done | with_reducible exact fc_6 | with_reducible exact fc_2156 | with_reducible exact fc_0 | with_reducible exact fc_2332 | with_reducible exact fc_7 | with_reducible exact fc_51 | with_reducible exact fc_727 | with_reducible exact fc_735 | with_reducible exact fc_756 | with_reducible exact fc_824 | with_reducible exact fc_908 | with_reducible exact fc_1003 | with_reducible exact fc_1139 | with_reducible exact fc_1172 | with_reducible exact fc_1337 | with_reducible exact fc_2157 | with_reducible exact fc_2184 | with_reducible exact fc_2208 | with_reducible exact fc_2235 | with_reducible exact fc_2252 | with_reducible exact fc_2270 | with_reducible exact fc_909 | with_reducible exact fc_2234)); rfl)
    | (exfalso; contradiction)
    | (exfalso; simp only [zj_a, zj_b, Int32.lt_iff_toInt_lt, Int32.le_iff_toInt_le, ← Int32.toInt_inj] at *; simp at *; omega))
