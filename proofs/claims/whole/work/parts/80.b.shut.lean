
section SY
variable {M K E : qm} {n p k v z l x y c r a b t : Int}
theorem shutY_e (h_lines : R_lines M K) (h_ends : R_ends M K) (hP : PLS K E) (c0 : 0 ≤ c) (c1 : c < 40) (r0 : 0 ≤ r) (r1 : r < 40) : qf_X16_isShut 20000 c r 0 E = some (b01 (∃ l, SHY M E (M 7 0 0) c r l)) := by
  have s_lines := h_lines
  unfold R_lines at s_lines
  refine qW_e ?_
  unfold qf_X16_isShut qf_X16_isShut_L6
  refine qW_call (Q := fun o => o = .inr (b01 (∃ l, SHY M E (M 7 0 0) c r l))) ?_ ?_
  · refine qW_for (M 7 0 0) (fun l s => s = (c, r, 0, b01 (∃ k, SHY M E l c r k), l)) ?_ ?_ ?_ (by omega) (by omega)
    · rintro l _ l0 l1 rfl
      have q := h_ends l l0 l1
      have e := ends_b h_ends l0 l1
      have cl : 0 ≤ l ∧ l < 20 := ⟨l0, by omega⟩
      have st : ∀ P : Prop, (P ↔ SHY M E (l + 1) c r l) → b01 ((∃ k, SHY M E l c r k) ∨ P) = b01 (∃ k, SHY M E (l + 1) c r k) := by
        intro P hP
        refine b01_c ⟨?_, ?_⟩
        · rintro (⟨k, k0, k1, z⟩ | z)
          · exact ⟨k, k0, by omega, z⟩
          · exact ⟨l, hP.mp z⟩
        · rintro ⟨k, k0, k1, z⟩
          by_cases g : k = l
          · rw [g] at z
            exact Or.inr (hP.mpr ⟨l0, by omega, z⟩)
          · exact Or.inl ⟨k, k0, by omega, z⟩
      have el : (E 2157 0 0) = (M 7 0 0) := hP.2.2.2.2.trans s_lines.2.2
      unfold qf_X16_isShut_L6_b qf_X16_isShut_J47 qf_X16_isShut_J68 qf_X16_isShut_J176
      (try dsimp only)
      rw [if_neg (by omega), if_pos cl, hP.2.2.1]
      rcases q.1.symm with g | g
      · rw [g, if_neg (by decide), if_neg (by decide)] at q
        have ne : (M 8 l 1) = (M 8 l 3) := by omega
        rw [g, if_neg (by decide), if_pos rfl, if_pos cl, hP.2.1, ← q.2.2.2.1, if_pos rfl, if_pos ⟨r0, r1⟩, if_pos rfl]
        by_cases g1 : c ≤ 0
        · rw [if_pos g1]
          refine qW_at (j177 (q := False) (b01_f (fun z => z)).symm l0 cl.2) ?_
          (try dsimp only)
          rw [st _ ⟨fun z => z.2.elim, fun z => by have := z.2.2.2.2.1; omega⟩]
        · rw [if_neg g1]
          by_cases g2 : (E 2157 12 0) ≤ c
          · rw [if_pos g2]
            refine qW_at (j177 (q := False) (b01_f (fun z => z)).symm l0 cl.2) ?_
            (try dsimp only)
            rw [st _ ⟨fun z => z.2.elim, fun z => by have := z.2.2.2.2.2.1; omega⟩]
          · rw [if_neg g2, if_pos cl, w32_id (x := c - 1) (by omega) (by omega), if_pos ⟨by omega, by omega⟩, hP.1, ← q.2.2.1]
            by_cases g3 : (E 2166 (c - 1) 0) < (M 8 l 0)
            · rw [if_pos g3]
              refine qW_at (j177 (q := False) (b01_f (fun z => z)).symm l0 cl.2) ?_
              (try dsimp only)
              rw [st _ ⟨fun z => z.2.elim, fun z => by have := z.2.2.2.2.2.2.1; omega⟩]
            · rw [if_neg g3]
              refine qW_eq (hiX_e h_lines h_ends hP l0 l1) ?_
              (try dsimp only)
              rw [if_pos ⟨c0, c1⟩]
              by_cases g4 : (M 8 l 2) < (E 2166 c 0)
              · rw [if_pos g4]
                refine qW_at (j177 (q := False) (b01_f (fun z => z)).symm l0 cl.2) ?_
                (try dsimp only)
                rw [st _ ⟨fun z => z.2.elim, fun z => by have := z.2.2.2.2.2.2.2; omega⟩]
              · rw [if_neg g4]
                refine qW_at (j177 (q := True) (b01_t trivial).symm l0 cl.2) ?_
                (try dsimp only)
                rw [st _ ⟨fun z => ⟨l0, by omega, ne, z.1, by omega, by omega, by omega, by omega⟩, fun z => ⟨z.2.2.2.1, trivial⟩⟩]
      · rw [g, if_pos rfl, if_pos rfl] at q
        rw [g, if_pos rfl, w32_id (x := l + 1) (by omega) (by omega)]
        refine qW_some ?_
        (try dsimp only)
        rw [← st False ⟨fun z => z.elim, fun z => by have := z.2.2.1; omega⟩]
        rw [b01_c (p := (∃ k, SHY M E l c r k) ∨ False) (q := ∃ k, SHY M E l c r k) ⟨fun z => by
          rcases z with z | z
          · exact z
          · exact z.elim, Or.inl⟩]
    · rintro _ rfl
      have el : (E 2157 0 0) = (M 7 0 0) := hP.2.2.2.2.trans s_lines.2.2
      unfold qf_X16_isShut_L6_b
      (try dsimp only)
      rw [if_pos (by omega)]
      exact qW_some rfl
    · rw [b01_f]
      rintro ⟨k, k0, k1, _⟩
      omega
  · rintro _ rfl
    (try dsimp only)
    have := b01_01 (p := ∃ l, SHY M E (M 7 0 0) c r l)
    rw [if_pos (by omega)]
    exact qW_some rfl
end SY
