section PB
variable {M K A E D : qm} {n m p k v z l x y c r i j a b : Int}
def onL (M : qm) (l x y : Int) : Prop := (M 8 l 0) ≤ x ∧ x ≤ (M 8 l 2) ∧ (M 8 l 1) ≤ y ∧ y ≤ (M 8 l 3)
def lev (M : qm) (l : Int) : Prop := (M 8 l 1) = (M 8 l 3)
theorem onl_e (h_lines : R_lines M K) (h_ends : R_ends M K) (h : PLS K E) (l0 : 0 ≤ l) (l1 : l < (M 7 0 0)) : qf_X16_isOn 20000 l x y E = some (b01 (onL M l x y)) := by
  have s_lines := h_lines
  unfold R_lines at s_lines
  have q := h_ends l l0 l1
  have c : 0 ≤ l ∧ l < 20 := ⟨l0, by omega⟩
  have hx := hiX_e h_lines h_ends h l0 l1
  have hy := hiY_e h_lines h_ends h l0 l1
  unfold qf_X16_isOn
  rw [if_pos c, hx, hy, h.1, h.2.1, ← q.2.2.1, ← q.2.2.2.1]
  unfold onL
  refine qW_e ?_
  by_cases g1 : x < (M 8 l 0)
  · rw [if_pos g1, b01_f (by omega)]
    exact qW_some rfl
  · rw [if_neg g1]
    refine qW_bind (qW_some ?_)
    by_cases g2 : (M 8 l 2) < x
    · rw [if_pos g2, b01_f (by omega)]
      exact qW_some rfl
    · rw [if_neg g2, if_pos c]
      by_cases g3 : y < (M 8 l 1)
      · rw [if_pos g3, b01_f (by omega)]
        exact qW_some rfl
      · rw [if_neg g3]
        refine qW_bind (qW_some ?_)
        by_cases g4 : (M 8 l 3) < y
        · rw [if_pos g4, b01_f (by omega)]
          exact qW_some rfl
        · rw [if_neg g4, b01_t (by omega)]
          exact qW_some rfl
/-- line a is level and meets line b there -/
def CR1 (M : qm) (a b x y : Int) : Prop := lev M a ∧ ¬ lev M b ∧ x = (M 8 b 0) ∧ y = (M 8 a 1) ∧ onL M a x y ∧ onL M b x y
def PIS (M K E : qm) (m : Int) (P : Int → Int → Prop) : Prop := PTS E m ∧ (E 2157 27 0) = m ∧ PFR K E ∧ ∀ x y, pin E m x y ↔ P x y
theorem PLS_p (h : PFR K E) : PLS K E := ⟨fun i => h _ i 0 (by decide) (by decide) (by omega), fun i => h _ i 0 (by decide) (by decide) (by omega), fun i => h _ i 0 (by decide) (by decide) (by omega), fun i => h _ i 0 (by decide) (by decide) (by omega), h _ 0 0 (by decide) (by decide) (by omega)⟩
theorem PFR_t (h : PFR K E) (h2 : PFR E D) : PFR K D := fun b i j b1 b2 b3 => (h2 b i j b1 b2 b3).trans (h b i j b1 b2 b3)
theorem lev_f (h_ends : R_ends M K) (l0 : 0 ≤ l) (l1 : l < (M 7 0 0)) : ((K 2160 l 0) = 1 ∧ lev M l) ∨ ((K 2160 l 0) = 0 ∧ ¬ lev M l) := by
  have q := h_ends l l0 l1
  unfold lev
  rcases q.1 with g | g
  · rw [g, if_pos rfl, if_pos rfl] at q
    exact Or.inr ⟨g, by omega⟩
  · rw [g, if_neg (by decide), if_neg (by decide)] at q
    exact Or.inl ⟨g, by omega⟩
theorem pts_b (h_lines : R_lines M K) (h_ends : R_ends M K) {P : Int → Int → Prop} (hE : PIS M K E m P) (m5 : m ≤ 438) (a0 : 0 ≤ a) (a1 : a < (M 7 0 0)) : qW (qf_X16_findPoints_L47 20000 20000 a 0 E) (fun o => ∃ F m', o = .inr ((), F) ∧ m' ≤ m + 20 ∧ PIS M K F m' (fun x y => P x y ∨ ∃ b, 0 ≤ b ∧ b < (M 7 0 0) ∧ CR1 M a b x y)) := by
  have s_lines := h_lines
  unfold R_lines at s_lines
  have la := lev_f h_ends a0 a1
  have ea := ends_b h_ends a0 a1
  have ca : 0 ≤ a ∧ a < 20 := ⟨a0, by omega⟩
  unfold qf_X16_findPoints_L47
  refine qW_for (M 7 0 0) (fun b t => ∃ F m', t = (a, b, F) ∧ m' ≤ m + b ∧ PIS M K F m' (fun x y => P x y ∨ ∃ k, 0 ≤ k ∧ k < b ∧ CR1 M a k x y)) ?_ ?_ ?_ (by omega) (by omega)
  · rintro b _ b0 b1 ⟨F, m', rfl, m6, hF⟩
    have hP := PLS_p hF.2.2.1
    have el : (F 2157 0 0) = (M 7 0 0) := hP.2.2.2.2.trans s_lines.2.2
    have lb := lev_f h_ends b0 b1
    have eb := ends_b h_ends b0 b1
    have cb : 0 ≤ b ∧ b < 20 := ⟨b0, by omega⟩
    have qa := h_ends a a0 a1
    have qb := h_ends b b0 b1
    have no : (∀ x y, ¬ CR1 M a b x y) → ∃ G m2, (a, b + 1, F) = (a, b + 1, G) ∧ m2 ≤ m + (b + 1) ∧ PIS M K G m2 (fun x y => P x y ∨ ∃ k, 0 ≤ k ∧ k < b + 1 ∧ CR1 M a k x y) := by
      intro w
      refine ⟨F, m', rfl, by omega, hF.1, hF.2.1, hF.2.2.1, fun x y => (hF.2.2.2 x y).trans ⟨fun z => ?_, fun z => ?_⟩⟩
      · rcases z with z | ⟨k, k0, k1, z⟩
        · exact Or.inl z
        · exact Or.inr ⟨k, k0, by omega, z⟩
      · rcases z with z | ⟨k, k0, k1, z⟩
        · exact Or.inl z
        · by_cases e : k = b
          · rw [e] at z
            exact absurd z (w x y)
          · exact Or.inr ⟨k, k0, by omega, z⟩
    have ff := hP.2.2.1
    have eX : F 2158 b 0 = (M 8 b 0) := (hP.1 b).trans qb.2.2.1.symm
    have eY : F 2159 a 0 = (M 8 a 1) := (hP.2.1 a).trans qa.2.2.2.1.symm
    have on1 : qf_X16_isOn 20000 a (F 2158 b 0) (F 2159 a 0) F = some (b01 (onL M a (M 8 b 0) (M 8 a 1))) := by
      rw [eX, eY]
      exact onl_e h_lines h_ends hP a0 a1
    have on2 : qf_X16_isOn 20000 b (F 2158 b 0) (F 2159 a 0) F = some (b01 (onL M b (M 8 b 0) (M 8 a 1))) := by
      rw [eX, eY]
      exact onl_e h_lines h_ends hP b0 b1
    have fA : F 2160 a 0 = (K 2160 a 0) := ff a
    have fB : F 2160 b 0 = (K 2160 b 0) := ff b
    unfold qf_X16_findPoints_L47_b
    (try dsimp only)
    rw [if_neg (by omega), if_pos ca, w32_id (x := b + 1) (by omega) (by omega)]
    rcases la with ⟨fa, la⟩ | ⟨fa, la⟩
    · rw [if_neg (show ¬ F 2160 a 0 = 0 by omega), if_pos cb]
      rcases lb with ⟨fb, lb⟩ | ⟨fb, lb⟩
      · rw [if_neg (show ¬ F 2160 b 0 = 0 by omega)]
        exact qW_some (no (fun x y z => z.2.1 lb))
      · rw [if_pos (show F 2160 b 0 = 0 by omega), if_pos cb, if_pos ca]
        refine qW_eq on1 ?_
        rcases b01_o (p := onL M a (M 8 b 0) (M 8 a 1)) with ⟨e1, o1⟩ | ⟨e1, o1⟩
        · rw [e1]
          (try dsimp only)
          rw [if_neg (by decide), if_pos cb, if_pos ca]
          refine qW_eq on2 ?_
          rcases b01_o (p := onL M b (M 8 b 0) (M 8 a 1)) with ⟨e2, o2⟩ | ⟨e2, o2⟩
          · rw [e2]
            (try dsimp only)
            rw [if_neg (by decide), if_pos cb, if_pos ca, eX, eY]
            refine qW_call (point_r hF.1 (by omega) hF.2.1 (x := (M 8 b 0)) (y := (M 8 a 1)) (by omega) (by omega) (by omega) (by omega)) ?_
            rintro ⟨_, G⟩ ⟨m2, g1, g2, g3, g4, g5⟩
            (try dsimp only at g1 g2 g3 g4 g5 ⊢)
            refine qW_some ⟨G, m2, rfl, by omega, g1, g2, PFR_t hF.2.2.1 g4, fun x y => (g5 x y).trans ⟨fun z => ?_, fun z => ?_⟩⟩
            · rcases z with ⟨z1, z2⟩ | z
              · exact Or.inr ⟨b, b0, by omega, la, lb, z1, z2, by rw [z1, z2]; exact o1, by rw [z1, z2]; exact o2⟩
              · rcases (hF.2.2.2 x y).mp z with z | ⟨k, k0, k1, z⟩
                · exact Or.inl z
                · exact Or.inr ⟨k, k0, by omega, z⟩
            · rcases z with z | ⟨k, k0, k1, z⟩
              · exact Or.inr ((hF.2.2.2 x y).mpr (Or.inl z))
              · by_cases e : k = b
                · rw [e] at z
                  exact Or.inl ⟨z.2.2.1, z.2.2.2.1⟩
                · exact Or.inr ((hF.2.2.2 x y).mpr (Or.inr ⟨k, k0, by omega, z⟩))
          · rw [e2]
            (try dsimp only)
            rw [if_pos rfl]
            exact qW_some (no (fun x y z => o2 (by have w := z.2.2.2.2.2; rw [z.2.2.1, z.2.2.2.1] at w; exact w)))
        · rw [e1]
          (try dsimp only)
          rw [if_pos rfl]
          exact qW_some (no (fun x y z => o1 (by have w := z.2.2.2.2.1; rw [z.2.2.1, z.2.2.2.1] at w; exact w)))
    · rw [if_pos (show F 2160 a 0 = 0 by omega)]
      exact qW_some (no (fun x y z => la z.1))
  · rintro _ ⟨F, m', rfl, m6, hF⟩
    have hP := PLS_p hF.2.2.1
    have el : (F 2157 0 0) = (M 7 0 0) := hP.2.2.2.2.trans s_lines.2.2
    unfold qf_X16_findPoints_L47_b
    (try dsimp only)
    rw [if_pos (by omega)]
    exact qW_some ⟨F, m', rfl, by omega, hF⟩
  · refine ⟨E, m, rfl, by omega, hE.1, hE.2.1, hE.2.2.1, fun x y => (hE.2.2.2 x y).trans ⟨Or.inl, fun z => ?_⟩⟩
    rcases z with z | ⟨k, k0, k1, _⟩
    · exact z
    · omega
def PL (M : qm) (n a x y : Int) : Prop := ∃ k, 0 ≤ k ∧ k < a ∧ (((x = (M 8 k 0) ∧ y = (M 8 k 1)) ∨ (x = (M 8 k 2) ∧ y = (M 8 k 3))) ∨ ∃ b, 0 ≤ b ∧ b < n ∧ CR1 M k b x y)
theorem pts_r (h_lines : R_lines M K) (h_ends : R_ends M K) (hK : PLS K E) (e : (E 2157 27 0) = 0) : qW (qf_X16_findPoints_L7 20000 20000 0 E) (fun o => ∃ F m, o = .inr ((), F) ∧ m ≤ 440 ∧ PIS M E F m (PL M (M 7 0 0) (M 7 0 0))) := by
  have s_lines := h_lines
  unfold R_lines at s_lines
  unfold qf_X16_findPoints_L7
  refine qW_for (M 7 0 0) (fun a t => ∃ F m, t = (a, F) ∧ m ≤ 22 * a ∧ PIS M E F m (PL M (M 7 0 0) a)) ?_ ?_ ?_ (by omega) (by omega)
  · rintro a _ a0 a1 ⟨F, m, rfl, m5, hF⟩
    have hT : ∀ G, PFR E G → PLS K G := fun G g => by
      have w := PLS_p g
      exact ⟨fun i => (w.1 i).trans (hK.1 i), fun i => (w.2.1 i).trans (hK.2.1 i), fun i => (w.2.2.1 i).trans (hK.2.2.1 i), fun i => (w.2.2.2.1 i).trans (hK.2.2.2.1 i), w.2.2.2.2.trans hK.2.2.2.2⟩
    have hP := hT F hF.2.2.1
    have el : (F 2157 0 0) = (M 7 0 0) := hP.2.2.2.2.trans s_lines.2.2
    have ea := ends_b h_ends a0 a1
    have ca : 0 ≤ a ∧ a < 20 := ⟨a0, by omega⟩
    have qa := h_ends a a0 a1
    unfold qf_X16_findPoints_L7_b
    (try dsimp only)
    rw [if_neg (by omega), if_pos ca, if_pos ca, hP.1, hP.2.1, ← qa.2.2.1, ← qa.2.2.2.1, w32_id (x := a + 1) (by omega) (by omega)]
    refine qW_call (point_r hF.1 (by omega) hF.2.1 (x := (M 8 a 0)) (y := (M 8 a 1)) (by omega) (by omega) (by omega) (by omega)) ?_
    rintro ⟨_, G⟩ ⟨m2, g1, g2, g3, g4, g5⟩
    (try dsimp only at g1 g2 g3 g4 g5 ⊢)
    have hG := hT G (PFR_t hF.2.2.1 g4)
    refine qW_eq (hiX_e h_lines h_ends hG a0 a1) ?_
    refine qW_eq (hiY_e h_lines h_ends hG a0 a1) ?_
    refine qW_call (point_r g1 (by omega) g2 (x := (M 8 a 2)) (y := (M 8 a 3)) (by omega) (by omega) (by omega) (by omega)) ?_
    rintro ⟨_, H⟩ ⟨m3, f1, f2, f3, f4, f5⟩
    (try dsimp only at f1 f2 f3 f4 f5 ⊢)
    have frH := PFR_t (PFR_t hF.2.2.1 g4) f4
    have hH : PIS M K H m3 (fun x y => PL M (M 7 0 0) a x y ∨ ((x = (M 8 a 0) ∧ y = (M 8 a 1)) ∨ (x = (M 8 a 2) ∧ y = (M 8 a 3)))) → True := fun _ => trivial
    have w := pts_b (K := H) (M := M) (E := H) (m := m3) (P := fun x y => PL M (M 7 0 0) a x y ∨ ((x = (M 8 a 0) ∧ y = (M 8 a 1)) ∨ (x = (M 8 a 2) ∧ y = (M 8 a 3)))) (by
      have := (hT H frH).2.2.2.2
      unfold R_lines
      omega) (by
      have w := hT H frH
      intro l l0 l1
      have q := h_ends l l0 l1
      rw [w.1, w.2.1, w.2.2.1, w.2.2.2.1]
      exact q) ⟨f1, f2, fun _ _ _ _ _ _ => rfl, fun x y => (f5 x y).trans ⟨fun z => by
        rcases z with z | z
        · exact Or.inr (Or.inr z)
        · rcases (g5 x y).mp z with z | z
          · exact Or.inr (Or.inl z)
          · exact Or.inl ((hF.2.2.2 x y).mp z), fun z => by
        rcases z with z | z | z
        · exact Or.inr ((g5 x y).mpr (Or.inr ((hF.2.2.2 x y).mpr z)))
        · exact Or.inr ((g5 x y).mpr (Or.inl z))
        · exact Or.inl z⟩⟩ (by omega) a0 a1
    refine qW_call w ?_
    rintro _ ⟨J, m4, rfl, j1, j2⟩
    (try dsimp only)
    refine qW_some ⟨J, m4, rfl, by omega, j2.1, j2.2.1, PFR_t frH j2.2.2.1, fun x y => (j2.2.2.2 x y).trans ⟨fun z => ?_, fun z => ?_⟩⟩
    · rcases z with (⟨k, k0, k1, z⟩ | z) | z
      · exact ⟨k, k0, by omega, z⟩
      · exact ⟨a, a0, by omega, Or.inl z⟩
      · exact ⟨a, a0, by omega, Or.inr z⟩
    · obtain ⟨k, k0, k1, z⟩ := z
      by_cases g : k = a
      · rw [g] at z
        rcases z with z | z
        · exact Or.inl (Or.inr z)
        · exact Or.inr z
      · exact Or.inl (Or.inl ⟨k, k0, by omega, z⟩)
  · rintro _ ⟨F, m, rfl, m5, hF⟩
    have el : (F 2157 0 0) = (M 7 0 0) := ((PLS_p hF.2.2.1).2.2.2.2.trans hK.2.2.2.2).trans s_lines.2.2
    unfold qf_X16_findPoints_L7_b
    (try dsimp only)
    rw [if_pos (by omega)]
    exact qW_some ⟨F, m, rfl, by omega, hF⟩
  · refine ⟨E, 0, rfl, by decide, ⟨by decide, fun i a b => by omega, fun i j a b c => by omega⟩, e, fun _ _ _ _ _ _ => rfl, fun x y => ⟨fun z => ?_, fun z => ?_⟩⟩
    · obtain ⟨i, i0, i1, _⟩ := z
      omega
    · obtain ⟨i, i0, i1, _⟩ := z
      omega
/-- the points are the class's -/
theorem PL_PT (h_ends : R_ends M K) (hA : WAL M A (M 7 0 0)) (x0 : 0 ≤ x) (x1 : x ≤ 24) (y0 : 0 ≤ y) (y1 : y ≤ 24) : PL M (M 7 0 0) (M 7 0 0) x y ↔ PT M A (M 7 0 0) x y := by
  have ln := fun w (w0 : 0 ≤ w) (w1 : w ≤ 3) => wf_ln h_ends hA x0 x1 y0 y1 w0 w1
  have fl : ∀ w l, 0 ≤ w → w ≤ 3 → 0 ≤ l → l < (M 7 0 0) → frU M l w x y → wf A w x y ≠ -1 := by
    intro w l w0 w1 l0 l1 h
    rcases ln w w0 w1 with ⟨_, e⟩ | e
    · exact absurd h (e l l0 l1)
    · omega
  have lf : ∀ w, 0 ≤ w → w ≤ 3 → wf A w x y ≠ -1 → ∃ l, 0 ≤ l ∧ l < (M 7 0 0) ∧ frU M l w x y := by
    intro w w0 w1 h
    rcases ln w w0 w1 with ⟨e, _⟩ | ⟨e1, e2, e3⟩
    · exact absurd e h
    · exact ⟨_, e1, e2, e3⟩
  unfold PT PE PL
  constructor
  · rintro ⟨k, k0, k1, z | ⟨b, b0, b1, la, lb, z1, z2, oa, ob⟩⟩
    · exact Or.inr ⟨k, k0, k1, z⟩
    · refine Or.inl ⟨?_, ?_⟩
      · have ea := ends_b h_ends k0 k1
        unfold lev at la
        unfold onL at oa
        by_cases g : x < (M 8 k 2)
        · exact Or.inl (fl 0 k (by decide) (by decide) k0 k1 (Or.inl ⟨rfl, Or.inl ⟨rfl, la, by omega, by omega, by omega⟩⟩))
        · exact Or.inr (fl 2 k (by decide) (by decide) k0 k1 (Or.inr (Or.inr (Or.inl ⟨rfl, Or.inl ⟨rfl, la, by omega, by omega, by omega⟩⟩))))
      · have eb := ends_b h_ends b0 b1
        unfold lev at lb
        unfold onL at ob
        by_cases g : y < (M 8 b 3)
        · exact Or.inl (fl 1 b (by decide) (by decide) b0 b1 (Or.inr (Or.inl ⟨rfl, Or.inr ⟨rfl, lb, by omega, by omega, by omega⟩⟩)))
        · exact Or.inr (fl 3 b (by decide) (by decide) b0 b1 (Or.inr (Or.inr (Or.inr ⟨rfl, Or.inr ⟨rfl, lb, by omega, by omega, by omega⟩⟩))))
  · rintro (⟨h1, h2⟩ | ⟨k, k0, k1, z⟩)
    · have p1 : ∃ a, 0 ≤ a ∧ a < (M 7 0 0) ∧ lev M a ∧ y = (M 8 a 1) ∧ onL M a x y := by
        rcases h1 with h | h
        · obtain ⟨l, l0, l1, h⟩ := lf 0 (by decide) (by decide) h
          rcases h with ⟨_, h⟩ | ⟨h, _⟩ | ⟨h, _⟩ | ⟨h, _⟩
          · rcases h with ⟨_, e1, e2, e3, e4⟩ | ⟨h, _⟩
            · exact ⟨l, l0, l1, e1, e2, by unfold onL; omega⟩
            · omega
          all_goals omega
        · obtain ⟨l, l0, l1, h⟩ := lf 2 (by decide) (by decide) h
          rcases h with ⟨h, _⟩ | ⟨h, _⟩ | ⟨_, h⟩ | ⟨h, _⟩
          · omega
          · omega
          · rcases h with ⟨_, e1, e2, e3, e4⟩ | ⟨h, _⟩
            · exact ⟨l, l0, l1, e1, e2, by unfold onL; omega⟩
            · omega
          · omega
      have p2 : ∃ a, 0 ≤ a ∧ a < (M 7 0 0) ∧ ¬ lev M a ∧ x = (M 8 a 0) ∧ onL M a x y := by
        rcases h2 with h | h
        · obtain ⟨l, l0, l1, h⟩ := lf 1 (by decide) (by decide) h
          have eb := ends_b h_ends l0 l1
          rcases h with ⟨h, _⟩ | ⟨_, h⟩ | ⟨h, _⟩ | ⟨h, _⟩
          · omega
          · rcases h with ⟨h, _⟩ | ⟨_, e1, e2, e3, e4⟩
            · omega
            · exact ⟨l, l0, l1, e1, e2, by unfold onL; omega⟩
          all_goals omega
        · obtain ⟨l, l0, l1, h⟩ := lf 3 (by decide) (by decide) h
          have eb := ends_b h_ends l0 l1
          rcases h with ⟨h, _⟩ | ⟨h, _⟩ | ⟨h, _⟩ | ⟨_, h⟩
          · omega
          · omega
          · omega
          · rcases h with ⟨h, _⟩ | ⟨_, e1, e2, e3, e4⟩
            · omega
            · exact ⟨l, l0, l1, e1, e2, by unfold onL; omega⟩
      obtain ⟨a, a0, a1, la, ya, oa⟩ := p1
      obtain ⟨b, b0, b1, lb, xb, ob⟩ := p2
      exact ⟨a, a0, a1, Or.inr ⟨b, b0, b1, la, lb, xb, ya, oa, ob⟩⟩
    · exact ⟨k, k0, k1, Or.inl z⟩
end PB
