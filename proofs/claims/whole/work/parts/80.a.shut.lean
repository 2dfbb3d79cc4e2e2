/-! ===== the reference: is a line between two of its cells ===== -/
section SH
variable {M K E : qm} {n p k v z l x y c r a b t : Int}
def SHX (M E : qm) (n c r l : Int) : Prop := 0 ≤ l ∧ l < n ∧ (M 8 l 1) ≠ (M 8 l 3) ∧ (M 8 l 0) = (E 2166 c 0) ∧ 0 < r ∧ r < (E 2157 13 0) ∧ (M 8 l 1) ≤ (E 2167 (r - 1) 0) ∧ (E 2167 r 0) ≤ (M 8 l 3)
def SHY (M E : qm) (n c r l : Int) : Prop := 0 ≤ l ∧ l < n ∧ (M 8 l 1) = (M 8 l 3) ∧ (M 8 l 1) = (E 2167 r 0) ∧ 0 < c ∧ c < (E 2157 12 0) ∧ (M 8 l 0) ≤ (E 2166 (c - 1) 0) ∧ (E 2166 c 0) ≤ (M 8 l 2)
theorem qW_at {α : Type} {x : Option α} {T : α → Prop} {v : α} (h : x = some v) (t : T v) : qW x T := ⟨v, h, t⟩
theorem j177 {p q : Prop} (hq : t = b01 q) (l0 : 0 ≤ l) (l1 : l < 20) : qf_X16_isShut_J177 20000 c r x (b01 p) l a b t E = some (.inr (c, r, x, b01 (p ∨ (a = b ∧ q)), l + 1)) := by
  unfold qf_X16_isShut_J177 qf_X16_isShut_J200 qf_X16_isShut_J196
  rw [w32_id (x := l + 1) (by omega) (by omega), hq]
  rcases b01_o (p := p) with ⟨e, h⟩ | ⟨e, h⟩
  · rw [e, if_neg (by decide), b01_t (Or.inl h)]
  · rw [e, if_pos rfl]
    by_cases g : a = b
    · rw [if_pos g]
      rcases b01_o (p := q) with ⟨e2, h2⟩ | ⟨e2, h2⟩
      · rw [e2, if_neg (by decide), b01_t (Or.inr ⟨g, h2⟩)]
      · rw [e2, if_pos rfl, b01_f (fun z => by
          rcases z with z | z
          · exact h z
          · exact h2 z.2)]
    · rw [if_neg g, b01_f (fun z => by
        rcases z with z | z
        · exact h z
        · exact g z.1)]
theorem shutX_e (h_lines : R_lines M K) (h_ends : R_ends M K) (hP : PLS K E) (c0 : 0 ≤ c) (c1 : c < 40) (r0 : 0 ≤ r) (r1 : r < 40) : qf_X16_isShut 20000 c r 1 E = some (b01 (∃ l, SHX M E (M 7 0 0) c r l)) := by
  have s_lines := h_lines
  unfold R_lines at s_lines
  refine qW_e ?_
  unfold qf_X16_isShut qf_X16_isShut_L6
  refine qW_call (Q := fun o => o = .inr (b01 (∃ l, SHX M E (M 7 0 0) c r l))) ?_ ?_
  · refine qW_for (M 7 0 0) (fun l s => s = (c, r, 1, b01 (∃ k, SHX M E l c r k), l)) ?_ ?_ ?_ (by omega) (by omega)
    · rintro l _ l0 l1 rfl
      have q := h_ends l l0 l1
      have e := ends_b h_ends l0 l1
      have cl : 0 ≤ l ∧ l < 20 := ⟨l0, by omega⟩
      have st : ∀ P : Prop, (P ↔ SHX M E (l + 1) c r l) → b01 ((∃ k, SHX M E l c r k) ∨ P) = b01 (∃ k, SHX M E (l + 1) c r k) := by
        intro P hP
        refine b01_c ⟨?_, ?_⟩
        · rintro (⟨k, k0, k1, z⟩ | z)
          · exact ⟨k, k0, by omega, z⟩
          · exact ⟨l, hP.mp z⟩
        · rintro ⟨k, k0, k1, z⟩
          by_cases g : k = l
          · rw [g] at z
            exact Or.inr (hP.mpr ⟨l0, by omega, z⟩)
          · exact Or.inl ⟨k, k0, by omega, z⟩
      have el : (E 2157 0 0) = (M 7 0 0) := hP.2.2.2.2.trans s_lines.2.2
      unfold qf_X16_isShut_L6_b qf_X16_isShut_J47 qf_X16_isShut_J68 qf_X16_isShut_J123
      (try dsimp only)
      rw [if_neg (by omega), if_pos cl, hP.2.2.1]
      rcases q.1 with g | g
      · rw [g, if_pos rfl, if_pos rfl] at q
        have ne : (M 8 l 1) ≠ (M 8 l 3) := by omega
        rw [g, if_neg (by decide), if_neg (by decide), if_pos cl, hP.1, ← q.2.2.1, if_neg (by decide), if_pos ⟨c0, c1⟩, if_neg (by decide)]
        by_cases g1 : r ≤ 0
        · rw [if_pos g1]
          refine qW_at (j177 (q := False) (b01_f (fun z => z)).symm l0 cl.2) ?_
          (try dsimp only)
          rw [st _ ⟨fun z => z.2.elim, fun z => by have := z.2.2.2.2.1; omega⟩]
        · rw [if_neg g1]
          by_cases g2 : (E 2157 13 0) ≤ r
          · rw [if_pos g2]
            refine qW_at (j177 (q := False) (b01_f (fun z => z)).symm l0 cl.2) ?_
            (try dsimp only)
            rw [st _ ⟨fun z => z.2.elim, fun z => by have := z.2.2.2.2.2.1; omega⟩]
          · rw [if_neg g2, if_pos cl, w32_id (x := r - 1) (by omega) (by omega), if_pos ⟨by omega, by omega⟩, hP.2.1, ← q.2.2.2.1]
            by_cases g3 : (E 2167 (r - 1) 0) < (M 8 l 1)
            · rw [if_pos g3]
              refine qW_at (j177 (q := False) (b01_f (fun z => z)).symm l0 cl.2) ?_
              (try dsimp only)
              rw [st _ ⟨fun z => z.2.elim, fun z => by have := z.2.2.2.2.2.2.1; omega⟩]
            · rw [if_neg g3]
              refine qW_eq (hiY_e h_lines h_ends hP l0 l1) ?_
              (try dsimp only)
              rw [if_pos ⟨r0, r1⟩]
              by_cases g4 : (M 8 l 3) < (E 2167 r 0)
              · rw [if_pos g4]
                refine qW_at (j177 (q := False) (b01_f (fun z => z)).symm l0 cl.2) ?_
                (try dsimp only)
                rw [st _ ⟨fun z => z.2.elim, fun z => by have := z.2.2.2.2.2.2.2; omega⟩]
              · rw [if_neg g4]
                refine qW_at (j177 (q := True) (b01_t trivial).symm l0 cl.2) ?_
                (try dsimp only)
                rw [st _ ⟨fun z => ⟨l0, by omega, ne, z.1, by omega, by omega, by omega, by omega⟩, fun z => ⟨z.2.2.2.1, trivial⟩⟩]
      · rw [g, if_neg (by decide), if_neg (by decide)] at q
        rw [g, if_pos rfl, w32_id (x := l + 1) (by omega) (by omega)]
        refine qW_some ?_
        (try dsimp only)
        rw [← st False ⟨fun z => z.elim, fun z => by have := z.2.2.1; omega⟩]
        rw [b01_c (p := (∃ k, SHX M E l c r k) ∨ False) (q := ∃ k, SHX M E l c r k) ⟨fun z => by
          rcases z with z | z
          · exact z
          · exact z.elim, Or.inl⟩]
    · rintro _ rfl
      have el : (E 2157 0 0) = (M 7 0 0) := hP.2.2.2.2.trans s_lines.2.2
      unfold qf_X16_isShut_L6_b
      (try dsimp only)
      rw [if_pos (by omega)]
      exact qW_some rfl
    · rw [b01_f]
      rintro ⟨k, k0, k1, _⟩
      omega
  · rintro _ rfl
    (try dsimp only)
    have := b01_01 (p := ∃ l, SHX M E (M 7 0 0) c r l)
    rw [if_pos (by omega)]
    exact qW_some rfl
end SH
