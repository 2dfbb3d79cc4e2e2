section RF
variable {M K E D D0 : qm} {n p k v z l x y c r a b t ch : Int} {G : Int → Int}
/-- joined: whatever is the same where no line is, is the same in both -/
def cmp (M E : qm) (n a b : Int) : Prop := ∀ G, CPR M E n G → G a = G b
theorem mn_ex (k0 : 0 ≤ k) : ∃ m, 0 ≤ m ∧ m ≤ k ∧ cmp M E n m k ∧ ∀ j, 0 ≤ j → cmp M E n j k → m ≤ j := by
  have key : ∀ u : Nat, (∃ m : Int, 0 ≤ m ∧ m < u ∧ cmp M E n m k ∧ ∀ j, 0 ≤ j → cmp M E n j k → m ≤ j) ∨ ∀ j : Int, 0 ≤ j → j < u → ¬ cmp M E n j k := by
    intro u
    induction u with
    | zero => exact Or.inr (fun j a b => by omega)
    | succ u ih =>
      rcases ih with ⟨m, m0, m1, m2⟩ | h
      · exact Or.inl ⟨m, m0, by omega, m2⟩
      · by_cases g : cmp M E n u k
        · refine Or.inl ⟨u, by omega, by omega, g, fun j j0 z => ?_⟩
          by_cases gj : (u : Int) ≤ j
          · exact gj
          · exact absurd z (h j j0 (by omega))
        · refine Or.inr (fun j a b => ?_)
          by_cases gj : j = u
          · rw [gj]
            exact g
          · exact h j a (by omega)
  rcases key (k.toNat + 1) with ⟨m, m0, m1, m2⟩ | h
  · exact ⟨m, m0, by omega, m2⟩
  · exact absurd (fun G _ => rfl) (h k k0 (by omega))
noncomputable def mnf (M E : qm) (n k : Int) : Int := if h : 0 ≤ k then Classical.choose (mn_ex (M := M) (E := E) (n := n) h) else 0
theorem mnf_s (k0 : 0 ≤ k) : 0 ≤ mnf M E n k ∧ mnf M E n k ≤ k ∧ cmp M E n (mnf M E n k) k ∧ ∀ j, 0 ≤ j → cmp M E n j k → mnf M E n k ≤ j := by
  unfold mnf
  rw [dif_pos k0]
  exact Classical.choose_spec (mn_ex (M := M) (E := E) (n := n) k0)
theorem cmp_s (h : cmp M E n a b) : cmp M E n b a := fun G g => (h G g).symm
theorem cmp_t (h : cmp M E n a b) (h2 : cmp M E n b c) : cmp M E n a c := fun G g => (h G g).trans (h2 G g)
theorem mnf_c (a0 : 0 ≤ a) (b0 : 0 ≤ b) (h : cmp M E n a b) : mnf M E n a = mnf M E n b := by
  have p := mnf_s (M := M) (E := E) (n := n) a0
  have q := mnf_s (M := M) (E := E) (n := n) b0
  have h1 := p.2.2.2 _ q.1 (cmp_t q.2.2.1 (cmp_s h))
  have h2 := q.2.2.2 _ p.1 (cmp_t p.2.2.1 h)
  omega
/-- how many cells have not their least number yet -/
noncomputable def uns (M E D : qm) (n : Int) : Int := sI (fun k => b01 ((D 2168 k 0) ≠ mnf M E n k)) 1764
theorem uns_b : 0 ≤ uns M E D n ∧ uns M E D n ≤ 1764 := ⟨sI_n (fun _ _ _ => b01_b.1), sI_l (by decide) (fun _ _ _ => b01_b.2)⟩
theorem lbi_mn (h : LBI M E D n) (k0 : 0 ≤ k) (k1 : k < 1764) : mnf M E n k ≤ (D 2168 k 0) := (mnf_s k0).2.2.2 _ (h.1 k k0 k1).1 (fun G g => h.2 G g k k0 k1)
theorem low_uns (h : LBI M E D n) (hl : ∃ k, 0 ≤ k ∧ k < 1764 ∧ (D 2168 k 0) < (D0 2168 k 0)) (h0 : LBI M E D0 n) : ∃ k, 0 ≤ k ∧ k < 1764 ∧ (D0 2168 k 0) ≠ mnf M E n k := by
  obtain ⟨k, k0, k1, k2⟩ := hl
  have := lbi_mn h k0 k1
  exact ⟨k, k0, k1, by omega⟩
theorem uns_lt (hC : CR5 E) (h : PSS M E D0 D n ch (dnn M E n ((E 2157 13 0) + 1) 0)) (h0 : LBI M E D0 n) (hu : ∃ k, 0 ≤ k ∧ k < 1764 ∧ (D0 2168 k 0) ≠ mnf M E n k) : uns M E D n < uns M E D0 n := by
  obtain ⟨k, k0, k1, k2⟩ := hu
  obtain ⟨C0, C5, R0, R5⟩ := hC
  have st : ∀ j, 0 ≤ j → j < 1764 → (D0 2168 j 0) = mnf M E n j → (D 2168 j 0) = mnf M E n j := by
    intro j j0 j1 e
    have := lbi_mn h.1 j0 j1
    have := h.2.2.1 j j0 j1
    omega
  have fin : ∀ b, 0 ≤ b → b < 1764 → (D0 2168 b 0) ≠ mnf M E n b → (D 2168 b 0) = mnf M E n b → uns M E D n < uns M E D0 n := by
    intro b b0 b1 hb hb2
    have q := sI_u (f := fun j => b01 ((D0 2168 j 0) ≠ mnf M E n j ∧ j ≠ b)) (g := fun j => b01 ((D0 2168 j 0) ≠ mnf M E n j)) (c := b) (n := 1764) b0 b1 (fun j e => b01_c ⟨fun z => ⟨z, e⟩, fun z => z.1⟩)
    (try dsimp only at q)
    rw [b01_t hb, b01_f (fun z => z.2 rfl)] at q
    have q2 := sI_le (f := fun j => b01 ((D 2168 j 0) ≠ mnf M E n j)) (g := fun j => b01 ((D0 2168 j 0) ≠ mnf M E n j ∧ j ≠ b)) (n := 1764) (fun j j0 j1 => by
      (try dsimp only)
      rcases b01_o (p := (D 2168 j 0) ≠ mnf M E n j) with ⟨e, z⟩ | ⟨e, z⟩
      · rw [e, b01_t ⟨fun w => z (st j j0 j1 w), fun w => z (by rw [w]; exact hb2)⟩]
        exact Int.le_refl 1
      · rw [e]
        exact b01_b.1)
    unfold uns
    omega
  apply Classical.byContradiction
  intro no
  have cp : CPR M E n (fun j => b01 ((D0 2168 j 0) = mnf M E n j)) := by
    have pair : ∀ a b, 0 ≤ a → a < 1764 → 0 ≤ b → b < 1764 → cmp M E n a b → dnn M E n ((E 2157 13 0) + 1) 0 a b → b01 ((D0 2168 b 0) = mnf M E n b) = b01 ((D0 2168 a 0) = mnf M E n a) := by
      intro a b a0 a1 b0 b1 hc hd
      have w := h.2.2.2.1 a b hd
      have em := mnf_c a0 b0 hc
      have la := lbi_mn h.1 a0 a1
      have lb := lbi_mn h.1 b0 b1
      refine b01_c ⟨fun z => ?_, fun z => ?_⟩
      · apply Classical.byContradiction
        intro z2
        exact no (fin a a0 a1 z2 (by omega))
      · apply Classical.byContradiction
        intro z2
        exact no (fin b b0 b1 z2 (by omega))
    intro r c r0 r1 c0 c1
    refine ⟨fun ho => ?_, fun ho => ?_⟩
    · exact pair (42 * r + c) (42 * r + c + 1) (by omega) (by omega) (by omega) (by omega) (fun G g => ((g r c r0 r1 c0 c1).1 ho).symm) ⟨r, c, r0, r1, c0, c1, Or.inl (by omega), rfl, Or.inl ⟨ho, rfl⟩⟩
    · exact pair (42 * r + c) (42 * r + c + 42) (by omega) (by omega) (by omega) (by omega) (fun G g => ((g r c r0 r1 c0 c1).2 ho).symm) ⟨r, c, r0, r1, c0, c1, Or.inl (by omega), rfl, Or.inr ⟨ho, rfl⟩⟩
  have s := mnf_s (M := M) (E := E) (n := n) k0
  have e := s.2.2.1 _ cp
  (try dsimp only at e)
  have m1 : (D0 2168 (mnf M E n k) 0) = mnf M E n (mnf M E n k) := by
    have p := h0.1 (mnf M E n k) s.1 (by omega)
    have q := lbi_mn h0 s.1 (by omega)
    have em := mnf_c s.1 k0 s.2.2.1
    omega
  rw [b01_t m1, b01_f k2] at e
  omega
/-- the reference's cells: the same number just where no line is between -/
def RFS (M E D : qm) (n : Int) : Prop := ofr 2168 E D ∧ (∀ k, 0 ≤ k → k < 1764 → 0 ≤ (D 2168 k 0) ∧ (D 2168 k 0) < 1764) ∧ CPR M E n (fun k => (D 2168 k 0)) ∧ ∀ G, CPR M E n G → ∀ k, 0 ≤ k → k < 1764 → G (D 2168 k 0) = G k
theorem rfill_r (h_lines : R_lines M K) (h_ends : R_ends M K) (hP : PLS K E) (hC : CR5 E) : qW (qf_X16_fill 20000 E) (fun r => RFS M E r.2 (M 7 0 0)) := by
  unfold qf_X16_fill
  refine qW_call (Q := fun o => ∃ D, o = .inr ((), D) ∧ ofr 2168 E D ∧ ∀ k, 0 ≤ k → k < 1764 → (D 2168 k 0) = k) ?_ ?_
  · unfold qf_X16_fill_L2
    refine qW_for 1764 (fun i s => ∃ D, s = (i, D) ∧ ofr 2168 E D ∧ ∀ k, 0 ≤ k → k < i → (D 2168 k 0) = k) ?_ ?_ ⟨E, rfl, ofr_r, fun k a b => by omega⟩ (by omega) (by omega)
    · rintro i _ i0 i1 ⟨D, rfl, hD, h⟩
      unfold qf_X16_fill_L2_b
      (try dsimp only)
      rw [if_neg (by omega), if_pos ⟨i0, i1⟩, w32_id (x := i + 1) (by omega) (by omega)]
      refine qW_bnd (qW_some ⟨_, rfl, ofr_w hD, fun k k0 k1 => ?_⟩)
      by_cases g : k = i
      · rw [g]
        exact qw_s
      · rw [qw_i g]
        exact h k k0 (by omega)
    · rintro _ ⟨D, rfl, hD, h⟩
      unfold qf_X16_fill_L2_b
      (try dsimp only)
      rw [if_pos (by decide)]
      exact qW_some ⟨D, rfl, hD, h⟩
  rintro _ ⟨D, rfl, hD, h⟩
  (try dsimp only)
  have hL : LBI M E D (M 7 0 0) := ⟨fun k k0 k1 => by rw [h k k0 k1]; omega, fun G g k k0 k1 => by rw [h k k0 k1]⟩
  refine qW_call (Q := fun o => ∃ F, o = .inr ((), F) ∧ RFS M E F (M 7 0 0)) ?_ ?_
  · unfold qf_X16_fill_L24
    refine qW_loop (fun s => ∃ ch F, s = (ch, F) ∧ (ch = 0 ∨ ch = 1) ∧ ofr 2168 E F ∧ LBI M E F (M 7 0 0) ∧ (ch = 0 → CPR M E (M 7 0 0) (fun k => (F 2168 k 0)))) (fun s => if s.1 = 0 then 0 else (uns M E s.2 (M 7 0 0) + 1).toNat) ?_ 20000 _ ⟨1, D, rfl, Or.inr rfl, hD, hL, fun z => by omega⟩ ?_
    · rintro _ ⟨ch, F, rfl, h1, h2, h3, h4⟩
      unfold qf_X16_fill_L24_b
      (try dsimp only)
      by_cases g : ch = 0
      · rw [if_pos g]
        refine qW_some ⟨F, rfl, h2, fun k k0 k1 => ?_, h4 g, h3.2⟩
        have := h3.1 k k0 k1
        omega
      · rw [if_neg g]
        refine qW_call (pass_all h_lines h_ends hP hC h3 h2) ?_
        rintro _ ⟨ch2, F2, rfl, hF⟩
        (try dsimp only)
        refine qW_some ⟨⟨ch2, F2, rfl, hF.2.2.2.2.1, hF.2.1, hF.1, fun z r c r0 r1 c0 c1 => ⟨fun ho => ?_, fun ho => ?_⟩⟩, ?_⟩
        · have w := (hF.2.2.2.1 (42 * r + c) (42 * r + c + 1) ⟨r, c, r0, r1, c0, c1, Or.inl (by omega), rfl, Or.inl ⟨ho, rfl⟩⟩).2.2 z
          exact w.symm
        · have w := (hF.2.2.2.1 (42 * r + c) (42 * r + c + 42) ⟨r, c, r0, r1, c0, c1, Or.inl (by omega), rfl, Or.inr ⟨ho, rfl⟩⟩).2.2 z
          exact w.symm
        · (try dsimp only)
          rw [if_neg g]
          have ub := uns_b (M := M) (E := E) (D := F) (n := (M 7 0 0))
          have ub2 := uns_b (M := M) (E := E) (D := F2) (n := (M 7 0 0))
          by_cases g2 : ch2 = 0
          · rw [if_pos g2]
            omega
          · rw [if_neg g2]
            have e1 : ch2 = 1 := by
              have := hF.2.2.2.2.1
              omega
            have lw := hF.2.2.2.2.2.2 e1
            unfold LOW at lw
            have := uns_lt hC hF h3 (low_uns hF.1 lw h3)
            omega
    · (try dsimp only)
      rw [if_neg (by decide)]
      have ub := uns_b (M := M) (E := E) (D := D) (n := (M 7 0 0))
      omega
  · rintro _ ⟨F, rfl, hF⟩
    exact qW_some hF
end RF
