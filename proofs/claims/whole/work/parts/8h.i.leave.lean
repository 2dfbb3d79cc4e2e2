/-! ===== passing: a better cell, both sides ===== -/
section PSi
variable {M K N A B C D D0 E F G H T V W Y Z K0 M0 Kv : qm} {a b c d e i k m p r s t u v x y h j R S w l z : Int} {q stt cnt o f : Int → Int} {P : Int → Int → Prop}
/-- the cell is in a space -/
def ISP (M : qm) (c : Int) : Prop := 0 ≤ c ∧ c < 576 ∧ M 56 c 0 ≠ -1
/-- the side d of the cell c is nearer to the outside, and no smoke is there -/
def BET (M : qm) (c d : Int) : Prop := (cb c d = -1 ∨ M 757 (cb c d) 0 = 0) ∧ ((ISP M (cb c d) ∧ M 759 (cb c d) 0 ≠ -1 ∧ M 759 (cb c d) 0 < M 759 c 0) ∨ (¬ ISP M (cb c d) ∧ M 759 c 0 = 1))
/-- what people leave by stays -/
def SLV (M N : qm) : Prop := ∀ b i j, (b = 56 ∨ b = 757 ∨ b = 759) → N b i j = M b i j
theorem isp_n (hN : SLV M N) : qf_X10_isInSpace 20000 c N = some (b01 (ISP M c)) := by
  refine qW_e ?_
  unfold qf_X10_isInSpace
  by_cases g : c < 0
  · rw [if_pos g, b01_f (fun z => by have := z.1; omega)]
    exact qW_some rfl
  · rw [if_neg g]
    by_cases g2 : 576 ≤ c
    · rw [if_pos g2, b01_f (fun z => by have := z.2.1; omega)]
      exact qW_some rfl
    · rw [if_neg g2, if_pos (by omega), hN _ _ _ (by decide)]
      by_cases g3 : M 56 c 0 = -1
      · rw [if_pos g3, b01_f (fun z => z.2.2 g3)]
        exact qW_some rfl
      · rw [if_neg g3, b01_t ⟨by omega, by omega, g3⟩]
        exact qW_some rfl
theorem bet_C (hN : SLV M N) (c0 : 0 ≤ c) (c1 : c < 576) (d0 : 0 ≤ d) (d1 : d ≤ 3) : qf_X10_isBetter 20000 c d N = some (b01 (BET M c d)) := by
  have cc : -1 ≤ cb c d ∧ cb c d < 576 := by
    unfold cb
    have cs : d = 0 ∨ d = 1 ∨ d = 2 ∨ d = 3 := by omega
    rcases cs with rfl | rfl | rfl | rfl
    · rw [if_pos rfl]
      omega
    · rw [if_neg (by decide), if_pos rfl]
      omega
    · rw [if_neg (by decide), if_neg (by decide), if_pos rfl]
      omega
    · rw [if_neg (by decide), if_neg (by decide), if_neg (by decide)]
      omega
  have J : (cb c d = -1 ∨ M 757 (cb c d) 0 = 0) → qf_X10_isBetter_J34 20000 (cb c d) (M 759 c 0) N = some (b01 (BET M c d)) := by
    intro sm
    refine qW_e ?_
    unfold qf_X10_isBetter_J34
    refine qW_eq (isp_n hN) ?_
    rcases b01_o (p := ISP M (cb c d)) with ⟨e, z⟩ | ⟨e, z⟩
    · have c20 : 0 ≤ cb c d ∧ cb c d < 576 := ⟨z.1, z.2.1⟩
      rw [e, if_neg (by decide), if_pos c20, hN _ _ _ (by decide)]
      by_cases g : M 759 (cb c d) 0 = -1
      · rw [if_pos g, b01_f (fun w => w.2.elim (fun w => w.2.1 g) (fun w => w.1 z))]
        exact qW_some rfl
      · rw [if_neg g, if_pos c20]
        by_cases g2 : M 759 c 0 ≤ M 759 (cb c d) 0
        · rw [if_pos g2, b01_f (fun w => w.2.elim (fun w => by have := w.2.2; omega) (fun w => w.1 z))]
          exact qW_some rfl
        · rw [if_neg g2, b01_t ⟨sm, Or.inl ⟨z, g, by omega⟩⟩]
          exact qW_some rfl
    · rw [e, if_pos rfl]
      by_cases g : M 759 c 0 = 1
      · rw [if_pos g, b01_t ⟨sm, Or.inr ⟨z, g⟩⟩]
        exact qW_some rfl
      · rw [if_neg g, b01_f (fun w => w.2.elim (fun w => z w.1) (fun w => g w.2))]
        exact qW_some rfl
  refine qW_e ?_
  unfold qf_X10_isBetter
  refine qW_eq (cb_e c0 c1 d0 d1) ?_
  rw [if_pos (show 0 ≤ c ∧ c < 576 from ⟨c0, c1⟩), hN 759 c 0 (by decide)]
  by_cases g : cb c d = -1
  · rw [if_pos g, J (Or.inl g)]
    exact qW_some rfl
  · rw [if_neg g, if_pos (by omega), hN _ _ _ (by decide)]
    by_cases g2 : M 757 (cb c d) 0 = 0
    · rw [if_pos g2, J (Or.inr g2)]
      exact qW_some rfl
    · rw [if_neg g2, b01_f (fun w => w.1.elim g g2)]
      exact qW_some rfl
theorem isp_k (h_spaceof : R_spaceof M K) (hb : M 6 11 0 ≠ 0) (h : (0 ≤ x ∧ x < 24 ∧ 0 ≤ y ∧ y < 24 ∧ c = 24 * x + y) ∨ (¬ (0 ≤ x ∧ x < 24 ∧ 0 ≤ y ∧ y < 24) ∧ c = -1)) : qf_X18_isOutside 20000 x y K = some (b01 (¬ ISP M c)) := by
  refine qW_e ?_
  unfold qf_X18_isOutside
  refine qW_eq isCell_e ?_
  rcases h with ⟨x0, x1, y0, y1, e⟩ | ⟨n, e⟩
  · have hs := h_spaceof hb x y x0 x1 y0 y1
    rw [← e] at hs
    rw [b01_t ⟨x0, x1, y0, y1⟩, if_neg (by decide), w32_id (x := 24 * y) (by omega) (by omega), w32_id (x := 24 * y + x) (by omega) (by omega), if_pos (by omega), hs.1]
    by_cases g : 0 ≤ M 56 c 0
    · rw [if_pos g, b01_f (fun w => w ⟨by omega, by omega, by omega⟩)]
      exact qW_some rfl
    · rw [if_neg g, b01_t (fun w => w.2.2 (by omega))]
      exact qW_some rfl
  · rw [b01_f n, if_pos rfl, b01_t (fun w => by have := w.1; omega)]
    exact qW_some rfl
theorem bet_K (h_spaceof : R_spaceof M K) (h_smoke : R_smoke M K) (h_walk : R_walk M K) (hb : M 6 11 0 ≠ 0) (i0 : 0 ≤ i) (i1 : i < 40) (x0 : 0 ≤ x) (x1 : x < 24) (y0 : 0 ≤ y) (y1 : y < 24) (d0 : 0 ≤ d) (d1 : d < 4) (ex : K 2307 i 0 = x) (ey : K 2308 i 0 = y) (hv : K 2328 (24 * y + x) 0 = v) (v0 : 0 < v) : ∃ X Y, ((0 ≤ X ∧ X < 24 ∧ 0 ≤ Y ∧ Y < 24 ∧ cb (24 * x + y) d = 24 * X + Y) ∨ (¬ (0 ≤ X ∧ X < 24 ∧ 0 ≤ Y ∧ Y < 24) ∧ cb (24 * x + y) d = -1)) ∧ -1 ≤ X ∧ X ≤ 24 ∧ -1 ≤ Y ∧ Y ≤ 24 ∧ ((BET M (24 * x + y) d ∧ qf_X18_step_L24_b 20000 i v d K = qf_X18_step_J158 20000 i v d X Y (b01 (¬ ISP M (cb (24 * x + y) d))) K) ∨ (¬ BET M (24 * x + y) d ∧ qf_X18_step_L24_b 20000 i v d K = some (.inr (i, v, d + 1, K)))) := by
  obtain ⟨X, Y, eX, eY, b1, b2, b3, b4, hn⟩ := nb_e (N := K) x0 x1 y0 y1 d0 d1
  refine ⟨X, Y, hn, b1, b2, b3, b4, ?_⟩
  obtain ⟨c, hc⟩ : ∃ c, cb (24 * x + y) d = c := ⟨_, rfl⟩
  rw [hc] at hn
  have io := isp_k h_spaceof hb (show (0 ≤ X ∧ X < 24 ∧ 0 ≤ Y ∧ Y < 24 ∧ c = 24 * X + Y) ∨ (¬ (0 ≤ X ∧ X < 24 ∧ 0 ≤ Y ∧ Y < 24) ∧ c = -1) by omega)
  have w1 : w32 (d + 1) = d + 1 := w32_id (by omega) (by omega)
  have c40 : 0 ≤ i ∧ i < 40 := ⟨i0, i1⟩
  have hwv : M 759 (24 * x + y) 0 = v := by
    have z := h_walk x y x0 x1 y0 y1 hb
    omega
  have sm : ∀ t, t ≠ 0 → ((c = -1 ∨ M 757 c 0 = 0) ∧ qf_X18_step_J125 20000 i v d X Y (b01 (¬ ISP M c)) t K = qf_X18_step_J158 20000 i v d X Y (b01 (¬ ISP M c)) K) ∨ (¬ (c = -1 ∨ M 757 c 0 = 0) ∧ qf_X18_step_J125 20000 i v d X Y (b01 (¬ ISP M c)) t K = some (.inr (i, v, d + 1, K))) := by
    intro t ht
    unfold qf_X18_step_J125
    rw [if_neg ht, isCell_e, Option.bind_some]
    rcases hn with ⟨X0, X1, Y0, Y1, e⟩ | ⟨n, e⟩
    · have hs := h_smoke X Y X0 X1 Y0 Y1
      rw [← e] at hs
      rw [b01_t ⟨X0, X1, Y0, Y1⟩, if_neg (by decide), w32_id (x := 24 * Y) (by omega) (by omega), w32_id (x := 24 * Y + X) (by omega) (by omega), if_pos (by omega), hs.1]
      by_cases g : M 757 c 0 = 0
      · rw [if_pos g]
        exact Or.inl ⟨Or.inr g, rfl⟩
      · rw [if_neg g, w1]
        exact Or.inr ⟨by omega, rfl⟩
    · rw [b01_f n, if_pos rfl]
      exact Or.inl ⟨Or.inl e, rfl⟩
  have s0 : qf_X18_step_J125 20000 i v d X Y (b01 (¬ ISP M c)) 0 K = some (.inr (i, v, d + 1, K)) := by
    unfold qf_X18_step_J125
    rw [if_pos rfl, w1]
  have s0' : qf_X18_step_J124 20000 i v d X Y (b01 (¬ ISP M c)) K = some (.inr (i, v, d + 1, K)) := by
    unfold qf_X18_step_J124
    exact s0
  have hd : qf_X18_step_L24_b 20000 i v d K = (if (b01 (¬ ISP M c)) = 0 then if 0 ≤ 24 * Y + X ∧ 24 * Y + X < 576 then qf_X18_step_J89 20000 i v d X Y (b01 (¬ ISP M c)) (K 2328 (24 * Y + X) 0) K else none else qf_X18_step_J89 20000 i v d X Y (b01 (¬ ISP M c)) 0 K) := by
    unfold qf_X18_step_L24_b
    rw [if_neg (show ¬ 4 ≤ d by omega), if_neg (show ¬ v ≤ 0 by omega), if_pos c40, ex, eX, Option.bind_some, if_pos c40, ey, eY, Option.bind_some, io, Option.bind_some, w32_id (x := 24 * Y) (by omega) (by omega), w32_id (x := 24 * Y + X) (by omega) (by omega)]
  rw [hd]
  unfold BET
  rw [hc, hwv]
  clear hd
  by_cases g : ISP M c
  · have nn : b01 (¬ ISP M c) = 0 := b01_f (fun w => w g)
    rw [nn] at s0 s0' sm ⊢
    rcases hn with ⟨X0, X1, Y0, Y1, e⟩ | ⟨n, e⟩
    · have hw := h_walk X Y X0 X1 Y0 Y1 hb
      rw [← e] at hw
      rw [if_pos rfl, if_pos (by omega)]
      unfold qf_X18_step_J89
      rw [if_pos rfl]
      by_cases g1 : K 2328 (24 * Y + X) 0 ≤ 0
      · rw [if_pos g1, s0']
        exact Or.inr ⟨fun w => w.2.elim (fun w => by have := w.2.1; omega) (fun w => w.1 g), rfl⟩
      · rw [if_neg g1]
        by_cases g2 : v ≤ K 2328 (24 * Y + X) 0
        · rw [if_pos g2, s0']
          exact Or.inr ⟨fun w => w.2.elim (fun w => by have := w.2.2; omega) (fun w => w.1 g), rfl⟩
        · rw [if_neg g2]
          rcases sm 1 (by decide) with ⟨z1, z2⟩ | ⟨z1, z2⟩
          · exact Or.inl ⟨⟨z1, Or.inl ⟨g, by omega, by omega⟩⟩, z2⟩
          · exact Or.inr ⟨fun w => z1 w.1, z2⟩
    · exact absurd g.1 (by omega)
  · have nn : b01 (¬ ISP M c) = 1 := b01_t g
    rw [nn] at s0 s0' sm ⊢
    rw [if_neg (by decide)]
    unfold qf_X18_step_J89
    rw [if_neg (by decide)]
    by_cases g1 : v = 1
    · rw [if_pos g1]
      rcases sm 1 (by decide) with ⟨z1, z2⟩ | ⟨z1, z2⟩
      · exact Or.inl ⟨⟨z1, Or.inr ⟨g, g1⟩⟩, z2⟩
      · exact Or.inr ⟨fun w => z1 w.1, z2⟩
    · rw [if_neg g1, s0]
      exact Or.inr ⟨fun w => w.2.elim (fun w => g w.1) (fun w => g1 w.2), rfl⟩
end PSi
