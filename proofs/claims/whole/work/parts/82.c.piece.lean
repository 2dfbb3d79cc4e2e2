/-! ===== the reference's pieces ===== -/
section PC
variable {M K A E F : qm} {n m p k v z l x y c r i j a b t : Int}
def onp (M F : qm) (l i : Int) : Prop := onL M l (F 2174 i 0) (F 2175 i 0)
/-- from a to b is a piece of l -/
def IPC (M F : qm) (m l a b : Int) : Prop := 0 ≤ a ∧ a < b ∧ b < m ∧ onp M F l a ∧ onp M F l b ∧ ∀ c, a < c → c < b → ¬ onp M F l c
def PCI (M F E : qm) (m n p l k : Int) : Prop := (∀ b i j, b ≠ 2176 → b ≠ 2177 → b ≠ 2178 → ¬ (b = 2157 ∧ i = 30) → E b i j = F b i j) ∧ (E 2157 30 0) = p ∧ 0 ≤ p ∧ (∀ q, 0 ≤ q → q < p → 0 ≤ (E 2176 q 0) ∧ (E 2176 q 0) < n ∧ IPC M F m (E 2176 q 0) (E 2177 q 0) (E 2178 q 0) ∧ ((E 2176 q 0) < l ∨ ((E 2176 q 0) = l ∧ (E 2178 q 0) < k))) ∧ (∀ d a b, 0 ≤ d → IPC M F m d a b → (d < l ∨ (d = l ∧ b < k)) → ∃ q, 0 ≤ q ∧ q < p ∧ (E 2176 q 0) = d ∧ (E 2177 q 0) = a ∧ (E 2178 q 0) = b) ∧ (∀ q s, 0 ≤ q → q < s → s < p → (E 2176 q 0) < (E 2176 s 0) ∨ ((E 2176 q 0) = (E 2176 s 0) ∧ (E 2177 q 0) < (E 2177 s 0)))
/-- the line that a piece's start names: its own at its low end, or one across -/
theorem perp_ex (h_lines : R_lines M K) (h_ends : R_ends M K) (h_alone : R_alone M K) (hF : PTS F m) (hP : ∀ x y, pin F m x y ↔ PL M (M 7 0 0) (M 7 0 0) x y) (l0 : 0 ≤ l) (l1 : l < (M 7 0 0)) (h : IPC M F m l a b) : ∃ u, 0 ≤ u ∧ u < (M 7 0 0) ∧ ((u = l ∧ (F 2174 a 0) = (M 8 l 0) ∧ (F 2175 a 0) = (M 8 l 1)) ∨ (lev M l ∧ ¬ lev M u ∧ (F 2175 a 0) = (M 8 l 1) ∧ (F 2174 a 0) = (M 8 u 0)) ∨ (¬ lev M l ∧ lev M u ∧ (F 2174 a 0) = (M 8 l 0) ∧ (F 2175 a 0) = (M 8 u 1))) := by
  obtain ⟨a0, ab, bm, oa, ob, _⟩ := h
  have lt := hF.2.2 a b a0 ab bm
  have el := ends_b h_ends l0 l1
  unfold kp at lt
  unfold onp onL at oa ob
  obtain ⟨X, hX⟩ : ∃ v, (F 2174 a 0) = v := ⟨_, rfl⟩
  obtain ⟨Y, hY⟩ : ∃ v, (F 2175 a 0) = v := ⟨_, rfl⟩
  have pa : pin F m X Y := ⟨a, a0, by omega, hX, hY⟩
  rw [hX, hY] at oa lt ⊢
  obtain ⟨k, k0, k1, z⟩ := (hP X Y).mp pa
  have ek := ends_b h_ends k0 k1
  by_cases low : X = (M 8 l 0) ∧ Y = (M 8 l 1)
  · exact ⟨l, l0, l1, Or.inl ⟨rfl, low.1, low.2⟩⟩
  · rcases z with z | ⟨u, u0, u1, c1, c2, c3, c4, c5, c6⟩
    · have kl : lev M k ↔ ¬ lev M l := by
        apply Classical.byContradiction
        intro same
        have ne : k ≠ l := fun e => by
          rw [e] at z
          omega
        have hu : ∀ d x y, onU M k d x y → onU M l d x y → False := fun d x y h1 h2 => ne (onU_one h_ends h_alone k0 k1 l0 l1 h1 h2)
        by_cases ll : lev M l
        · have lk : lev M k := by
            apply Classical.byContradiction
            intro w
            exact same ⟨fun s => absurd s w, fun s => absurd ll s⟩
          unfold lev at ll lk
          by_cases g : X = (M 8 k 0) ∧ Y = (M 8 k 1)
          · exact hu 0 X Y (Or.inl ⟨rfl, lk, by omega, by omega, by omega⟩) (Or.inl ⟨rfl, ll, by omega, by omega, by omega⟩)
          · exact hu 0 (X - 1) Y (Or.inl ⟨rfl, lk, by omega, by omega, by omega⟩) (Or.inl ⟨rfl, ll, by omega, by omega, by omega⟩)
        · have lk : ¬ lev M k := by
            intro w
            exact same ⟨fun _ => ll, fun _ => w⟩
          unfold lev at ll lk
          by_cases g : X = (M 8 k 0) ∧ Y = (M 8 k 1)
          · exact hu 1 X Y (Or.inr ⟨rfl, lk, by omega, by omega, by omega⟩) (Or.inr ⟨rfl, ll, by omega, by omega, by omega⟩)
          · exact hu 1 X (Y - 1) (Or.inr ⟨rfl, lk, by omega, by omega, by omega⟩) (Or.inr ⟨rfl, ll, by omega, by omega, by omega⟩)
      refine ⟨k, k0, k1, ?_⟩
      by_cases ll : lev M l
      · have lk : ¬ lev M k := fun w => kl.mp w ll
        refine Or.inr (Or.inl ⟨ll, lk, ?_, ?_⟩)
        · unfold lev at ll
          omega
        · unfold lev at lk
          omega
      · have lk : lev M k := kl.mpr ll
        refine Or.inr (Or.inr ⟨ll, lk, ?_, ?_⟩)
        · unfold lev at ll
          omega
        · unfold lev at lk
          omega
    · by_cases ll : lev M l
      · refine ⟨u, u0, u1, Or.inr (Or.inl ⟨ll, c2, ?_, c3⟩)⟩
        unfold lev at ll
        omega
      · refine ⟨k, k0, k1, Or.inr (Or.inr ⟨ll, c1, ?_, c4⟩)⟩
        unfold lev at ll
        omega
theorem piece_220 (h_lines : R_lines M K) (h_ends : R_ends M K) (h_alone : R_alone M K) (hF : PTS F m) (hP : ∀ x y, pin F m x y ↔ PL M (M 7 0 0) (M 7 0 0) x y) (h : PCI M F E m (M 7 0 0) p l k) : p ≤ 220 := by
  have s_lines := h_lines
  unfold R_lines at s_lines
  obtain ⟨h1, h2, h3, h4, h5, h6⟩ := h
  have ch : ∀ q, ∃ u, 0 ≤ q → q < p → 0 ≤ u ∧ u < (M 7 0 0) ∧ ((u = (E 2176 q 0) ∧ (F 2174 (E 2177 q 0) 0) = (M 8 (E 2176 q 0) 0) ∧ (F 2175 (E 2177 q 0) 0) = (M 8 (E 2176 q 0) 1)) ∨ (lev M (E 2176 q 0) ∧ ¬ lev M u ∧ (F 2175 (E 2177 q 0) 0) = (M 8 (E 2176 q 0) 1) ∧ (F 2174 (E 2177 q 0) 0) = (M 8 u 0)) ∨ (¬ lev M (E 2176 q 0) ∧ lev M u ∧ (F 2174 (E 2177 q 0) 0) = (M 8 (E 2176 q 0) 0) ∧ (F 2175 (E 2177 q 0) 0) = (M 8 u 1))) := by
    intro q
    by_cases g : 0 ≤ q ∧ q < p
    · have w := h4 q g.1 g.2
      obtain ⟨u, hu⟩ := perp_ex h_lines h_ends h_alone hF hP w.1 w.2.1 w.2.2.1
      exact ⟨u, fun _ _ => hu⟩
    · exact ⟨0, fun a b => absurd ⟨a, b⟩ g⟩
  have uf : ∃ f : Int → Int, ∀ q, 0 ≤ q → q < p → 0 ≤ f q ∧ f q < (M 7 0 0) ∧ ((f q = (E 2176 q 0) ∧ (F 2174 (E 2177 q 0) 0) = (M 8 (E 2176 q 0) 0) ∧ (F 2175 (E 2177 q 0) 0) = (M 8 (E 2176 q 0) 1)) ∨ (lev M (E 2176 q 0) ∧ ¬ lev M (f q) ∧ (F 2175 (E 2177 q 0) 0) = (M 8 (E 2176 q 0) 1) ∧ (F 2174 (E 2177 q 0) 0) = (M 8 (f q) 0)) ∨ (¬ lev M (E 2176 q 0) ∧ lev M (f q) ∧ (F 2174 (E 2177 q 0) 0) = (M 8 (E 2176 q 0) 0) ∧ (F 2175 (E 2177 q 0) 0) = (M 8 (f q) 1))) := ⟨fun q => Classical.choose (ch q), fun q => Classical.choose_spec (ch q)⟩
  obtain ⟨f, hf⟩ := uf
  have q1 := inj_le (N := 400) p.toNat (fun v => (v / 20 < (M 7 0 0)) ∧ (v % 20 < (M 7 0 0)) ∧ (v / 20 = v % 20 ∨ (lev M (v / 20) ∧ ¬ lev M (v % 20)) ∨ (¬ lev M (v / 20) ∧ lev M (v % 20)))) (fun q => 20 * (E 2176 q 0) + f q) (fun q a b => by
    have w := h4 q a (by omega)
    have g := hf q a (by omega)
    (try dsimp only)
    rw [show (20 * (E 2176 q 0) + f q) / 20 = (E 2176 q 0) by omega, show (20 * (E 2176 q 0) + f q) % 20 = f q by omega]
    refine ⟨by omega, by omega, w.2.1, g.2.1, ?_⟩
    rcases g.2.2 with g | g | g
    · exact Or.inl g.1.symm
    · exact Or.inr (Or.inl ⟨g.1, g.2.1⟩)
    · exact Or.inr (Or.inr ⟨g.1, g.2.1⟩)) (fun q s a b d e => by
    (try dsimp only at e)
    have w := h4 q a (by omega)
    have w' := h4 s (by omega) (by omega)
    have g := hf q a (by omega)
    have g' := hf s (by omega) (by omega)
    have e1 : (E 2176 q 0) = (E 2176 s 0) := by omega
    have e2 : f q = f s := by omega
    rcases h6 q s a b (by omega) with z | ⟨_, z⟩
    · omega
    · have lt := hF.2.2 (E 2177 q 0) (E 2177 s 0) w.2.2.1.1 z (by have := w'.2.2.1; unfold IPC at this; omega)
      unfold kp at lt
      rw [e1, e2] at g
      rcases g.2.2 with y1 | y1 | y1 <;> rcases g'.2.2 with y2 | y2 | y2
      · rw [y1.2.1, y1.2.2, y2.2.1, y2.2.2] at lt
        omega
      · rw [y1.1] at y2
        exact y2.2.1 y2.1
      · rw [y1.1] at y2
        exact y2.1 y2.2.1
      · rw [y2.1] at y1
        exact y1.2.1 y1.1
      · rw [y1.2.2.1, y1.2.2.2, y2.2.2.1, y2.2.2.2] at lt
        omega
      · exact y2.1 y1.1
      · rw [y2.1] at y1
        exact y1.1 y1.2.1
      · exact y1.1 y2.1
      · rw [y1.2.2.1, y1.2.2.2, y2.2.2.1, y2.2.2.2] at lt
        omega)
  have q2 := pairs_220 (P := fun l => lev M l) (Q := fun l => l < (M 7 0 0))
  (try dsimp only at q1 q2)
  omega
end PC
