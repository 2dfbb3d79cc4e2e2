section WB
variable {M K A : qm} {l d x y : Int}
theorem wal_c {d0 at_ st : Int} {k : Nat} (h : WAL M A l) (l0 : 0 ≤ l) (hu : ∀ d x y, 0 ≤ d → d ≤ 1 → 0 ≤ x → x ≤ 24 → 0 ≤ y → y ≤ 24 → (onU M l d x y ↔ (d = d0 ∧ ∃ j : Int, 0 ≤ j ∧ j < k ∧ 25 * x + y = at_ + st * j))) : WAL M (wst A l d0 at_ st k) (l + 1) := by
  refine ⟨fun b i j hb => (wst_o hb).trans (h.1 b i j hb), ?_⟩
  intro d x y a0 a1 a2 a3 a4 a5
  have u := hu d x y a0 a1 a2 a3 a4 a5
  rcases wst_w (M := A) (l := l) (d := d0) (at_ := at_) (st := st) (i := d) (a := 25 * x + y) (k := k) with ⟨q1, q2⟩ | ⟨q1, q2⟩
  · rw [q2]
    exact Or.inr ⟨l0, by omega, u.mpr q1⟩
  · rw [q2]
    rcases h.2 d x y a0 a1 a2 a3 a4 a5 with ⟨p1, p2⟩ | ⟨p1, p2, p3⟩
    · refine Or.inl ⟨p1, fun m m0 m1 z => ?_⟩
      by_cases e : m = l
      · rw [e] at z
        exact q1 (u.mp z)
      · exact p2 m m0 (by omega) z
    · exact Or.inr ⟨p1, by omega, p3⟩
theorem wal_s (h_ends : R_ends M K) (h : WAL M A l) (l0 : 0 ≤ l) (l1 : l < (M 7 0 0)) : WAL M (wst A l (if (M 8 l 1) = (M 8 l 3) then 0 else 1) (25 * (M 8 l 0) + (M 8 l 1)) (if (M 8 l 1) = (M 8 l 3) then 25 else 1) ((M 8 l 2) - (M 8 l 0) + (M 8 l 3) - (M 8 l 1)).toNat) (l + 1) := by
  have q := h_ends l l0 l1
  obtain ⟨e0, h0⟩ : ∃ v, (M 8 l 0) = v := ⟨_, rfl⟩
  obtain ⟨e1, h1⟩ : ∃ v, (M 8 l 1) = v := ⟨_, rfl⟩
  obtain ⟨e2, h2⟩ : ∃ v, (M 8 l 2) = v := ⟨_, rfl⟩
  obtain ⟨e3, h3⟩ : ∃ v, (M 8 l 3) = v := ⟨_, rfl⟩
  have b : 0 ≤ e0 ∧ 0 ≤ e1 ∧ e2 ≤ 24 ∧ e3 ≤ 24 ∧ ((e1 = e3 ∧ e0 < e2) ∨ (e1 < e3 ∧ e0 = e2)) := by
    rcases q.1 with g | g
    · rw [g, if_pos rfl, if_pos rfl] at q
      omega
    · rw [g, if_neg (by decide), if_neg (by decide)] at q
      omega
  clear q
  refine wal_c h l0 ?_
  intro d x y a0 a1 a2 a3 a4 a5
  unfold onU
  rw [h0, h1, h2, h3]
  by_cases g : e1 = e3
  · rw [if_pos g, if_pos g]
    constructor
    · rintro (⟨z1, z2, z3, z4, z5⟩ | ⟨z1, z2, z3, z4, z5⟩)
      · exact ⟨z1, x - e0, by omega, by omega, by omega⟩
      · exact absurd g z2
    · rintro ⟨z1, j, j0, j1, j2⟩
      exact Or.inl ⟨z1, g, by omega, by omega, by omega⟩
  · rw [if_neg g, if_neg g]
    constructor
    · rintro (⟨z1, z2, z3, z4, z5⟩ | ⟨z1, z2, z3, z4, z5⟩)
      · exact absurd z2 g
      · exact ⟨z1, y - e1, by omega, by omega, by omega⟩
    · rintro ⟨z1, j, j0, j1, j2⟩
      exact Or.inr ⟨z1, g, by omega, by omega, by omega⟩
end WB
