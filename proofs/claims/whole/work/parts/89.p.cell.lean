section VB
variable {M K N A B C D D0 E F G H T V W K0 M0 : qm} {a b c d k n m p r q' s t u v x y h i j R S w l z : Int} {q stt cnt o f : Int → Int} {P : Int → Prop}
/-- the reference's line between two cells -/
theorem line_e (h_lines : R_lines M K) (h_ends : R_ends M K) (x0 : 0 ≤ x) (x1 : x < 24) (y0 : 0 ≤ y) (y1 : y < 24) (d0 : 0 ≤ d) (d1 : d ≤ 3) : ∃ r, qf_X16_lineBetween 20000 x y d K = some r ∧ ((r = -1 ∧ ∀ l, 0 ≤ l → l < (M 7 0 0) → ¬ onU M l (uqd d) (uqx (24 * x + y) d) (uqy (24 * x + y) d)) ∨ (0 ≤ r ∧ r < (M 7 0 0) ∧ onU M r (uqd d) (uqx (24 * x + y) d) (uqy (24 * x + y) d))) := by
  have s_lines := h_lines
  unfold R_lines at s_lines
  have uv := uq_v (c := 24 * x + y) (d := d)
  have ex : (24 * x + y) / 24 = x := by omega
  have ey : (24 * x + y) % 24 = y := by omega
  rw [ex, ey] at uv
  obtain ⟨X, hX⟩ : ∃ X, uqx (24 * x + y) d = X := ⟨_, rfl⟩
  obtain ⟨Y, hY⟩ : ∃ Y, uqy (24 * x + y) d = Y := ⟨_, rfl⟩
  obtain ⟨Z, hZ⟩ : ∃ Z, uqd d = Z := ⟨_, rfl⟩
  rw [hX, hY, hZ] at uv ⊢
  have pl : PLS K K := ⟨fun _ => rfl, fun _ => rfl, fun _ => rfl, fun _ => rfl, rfl⟩
  show qW _ (fun r => (r = -1 ∧ ∀ l, 0 ≤ l → l < (M 7 0 0) → ¬ onU M l Z X Y) ∨ (0 ≤ r ∧ r < (M 7 0 0) ∧ onU M r Z X Y))
  unfold qf_X16_lineBetween
  refine qW_call (Q := fun o => ∃ r, o = .inr r ∧ ((r = -1 ∧ ∀ l, 0 ≤ l → l < (M 7 0 0) → ¬ onU M l Z X Y) ∨ (0 ≤ r ∧ r < (M 7 0 0) ∧ onU M r Z X Y))) ?_ ?_
  · unfold qf_X16_lineBetween_L6
    refine qW_for (M 7 0 0) (fun l u => ∃ r, u = (x, y, d, r, l) ∧ ((r = -1 ∧ ∀ k, 0 ≤ k → k < l → ¬ onU M k Z X Y) ∨ (0 ≤ r ∧ r < l ∧ onU M r Z X Y))) ?_ ?_ ⟨-1, rfl, Or.inl ⟨rfl, fun k a b => by omega⟩⟩ (by omega) (by omega)
    · rintro l _ l0 l1 ⟨r, rfl, hr⟩
      have re := h_ends l l0 l1
      have ee := ends_b h_ends l0 l1
      have hx := hiX_e h_lines h_ends pl l0 l1
      have hy := hiY_e h_lines h_ends pl l0 l1
      have c20 : 0 ≤ l ∧ l < 20 := ⟨l0, by omega⟩
      have lx : (K 2158 l 0) = (M 8 l 0) := re.2.2.1.symm
      have ly : (K 2159 l 0) = (M 8 l 1) := re.2.2.2.1.symm
      have fl : ((K 2160 l 0) = 0 ∧ (M 8 l 1) ≠ (M 8 l 3)) ∨ ((K 2160 l 0) = 1 ∧ (M 8 l 1) = (M 8 l 3)) := by
        rcases re.1 with z | z
        · rw [z, if_pos rfl, if_pos rfl] at re
          exact Or.inl ⟨z, by omega⟩
        · rw [z, if_neg (by decide), if_neg (by decide)] at re
          exact Or.inr ⟨z, by omega⟩
      obtain ⟨r', f1, f2, hr'⟩ : ∃ r', (onU M l Z X Y → r' = l) ∧ (¬ onU M l Z X Y → r' = r) ∧ ((r' = -1 ∧ ∀ k, 0 ≤ k → k < l + 1 → ¬ onU M k Z X Y) ∨ (0 ≤ r' ∧ r' < l + 1 ∧ onU M r' Z X Y)) := by
        by_cases on : onU M l Z X Y
        · exact ⟨l, fun _ => rfl, fun z => absurd on z, Or.inr ⟨l0, by omega, on⟩⟩
        · refine ⟨r, fun z => absurd z on, fun _ => rfl, ?_⟩
          rcases hr with ⟨e, z⟩ | ⟨a, b, c⟩
          · refine Or.inl ⟨e, fun k k0 k1 => ?_⟩
            by_cases ek : k = l
            · rw [ek]
              exact on
            · exact z k k0 (by omega)
          · exact Or.inr ⟨a, by omega, c⟩
      have yes : onU M l Z X Y → qW (qf_X16_lineBetween_J164 20000 x y d r l 1 K) (fun o => o = .inr (x, y, d, r', l + 1)) := fun on => by
        unfold qf_X16_lineBetween_J164
        rw [if_neg (by decide), w32_id (x := l + 1) (by omega) (by omega)]
        rw [f1 on]
        exact qW_some rfl
      have no : ¬ onU M l Z X Y → qW (qf_X16_lineBetween_J164 20000 x y d r l 0 K) (fun o => o = .inr (x, y, d, r', l + 1)) := fun on => by
        unfold qf_X16_lineBetween_J164
        rw [if_pos rfl, w32_id (x := l + 1) (by omega) (by omega)]
        rw [f2 on]
        exact qW_some rfl
      unfold qf_X16_lineBetween_L6_b
      (try dsimp only)
      rw [if_neg (by omega)]
      have lev2 : Z = 0 → X = x → qW (qf_X16_lineBetween_J58 20000 x y d r l 0 Y K) (fun o => o = .inr (x, y, d, r', l + 1)) := fun eZ eX => by
        unfold qf_X16_lineBetween_J58 qf_X16_lineBetween_J163
        unfold onU at yes no
        rw [if_pos rfl, if_pos c20]
        rcases fl with ⟨f, g⟩ | ⟨f, g⟩
        · rw [if_pos f]
          exact no (by omega)
        · rw [if_neg (by omega), if_pos c20, lx, ly]
          by_cases g1 : (M 8 l 1) = Y
          · rw [if_pos g1, if_pos c20]
            by_cases g2 : x < (M 8 l 0)
            · rw [if_pos g2]
              exact no (by omega)
            · rw [if_neg g2]
              refine qW_eq hx ?_
              by_cases g3 : (M 8 l 2) ≤ x
              · rw [if_pos g3]
                exact no (by omega)
              · rw [if_neg g3]
                exact yes (by omega)
          · rw [if_neg g1]
            exact no (by omega)
      have upr : Z = 1 → Y = y → qW (qf_X16_lineBetween_J58 20000 x y d r l 1 X K) (fun o => o = .inr (x, y, d, r', l + 1)) := fun eZ eY => by
        unfold qf_X16_lineBetween_J58 qf_X16_lineBetween_J112
        unfold onU at yes no
        rw [if_neg (by decide), if_pos c20]
        rcases fl with ⟨f, g⟩ | ⟨f, g⟩
        · rw [if_pos f, if_pos c20, lx, ly]
          by_cases g1 : (M 8 l 0) = X
          · rw [if_pos g1, if_pos c20]
            by_cases g2 : y < (M 8 l 1)
            · rw [if_pos g2]
              exact no (by omega)
            · rw [if_neg g2]
              refine qW_eq hy ?_
              by_cases g3 : (M 8 l 3) ≤ y
              · rw [if_pos g3]
                exact no (by omega)
              · rw [if_neg g3]
                exact yes (by omega)
          · rw [if_neg g1]
            exact no (by omega)
        · rw [if_neg (by omega)]
          exact no (by omega)
      unfold qf_X16_lineBetween_J25
      rcases (by omega : d = 0 ∨ d = 1 ∨ d = 2 ∨ d = 3) with e | e | e | e
      · have w := uv.1 e
        rw [if_neg (by omega), if_pos e, w32_id (x := x + 1) (by omega) (by omega), ← w.1]
        refine qW_mono (upr w.2.2 w.2.1) ?_
        rintro _ rfl
        exact ⟨r', rfl, hr'⟩
      · have w := uv.2.1 e
        rw [if_neg (by omega), if_neg (by omega), if_pos e]
        have u2 := upr w.2.2 w.2.1
        rw [w.1] at u2
        refine qW_mono u2 ?_
        rintro _ rfl
        exact ⟨r', rfl, hr'⟩
      · have w := uv.2.2.1 e
        rw [if_pos (by omega), if_neg (by omega), if_neg (by omega), if_pos e, w32_id (x := y + 1) (by omega) (by omega), ← w.2.1]
        refine qW_mono (lev2 w.2.2 w.1) ?_
        rintro _ rfl
        exact ⟨r', rfl, hr'⟩
      · have w := uv.2.2.2 e
        rw [if_pos (by omega), if_neg (by omega), if_neg (by omega), if_neg (by omega)]
        have u2 := lev2 w.2.2 w.1
        rw [w.2.1] at u2
        refine qW_mono u2 ?_
        rintro _ rfl
        exact ⟨r', rfl, hr'⟩
    · rintro _ ⟨r, rfl, hr⟩
      unfold qf_X16_lineBetween_L6_b
      (try dsimp only)
      rw [if_pos (by omega)]
      exact qW_some ⟨r, rfl, hr⟩
  · rintro _ ⟨r, rfl, hr⟩
    exact qW_some hr
theorem passes_e (h_lines : R_lines M K) (h_ends : R_ends M K) (h_doorn : R_doorn M K) (h_doors : R_doors M K) (one : ∀ l k, 0 ≤ l → l < (M 7 0 0) → 0 ≤ k → k < (M 7 0 0) → ∀ d x y, onU M l d x y → onU M k d x y → l = k) (x0 : 0 ≤ x) (x1 : x < 24) (y0 : 0 ≤ y) (y1 : y < 24) (d0 : 0 ≤ d) (d1 : d ≤ 3) : qf_X18_passes 20000 x y d K = some (b01 (GOC M (24 * x + y) d)) := by
  have s_lines := h_lines
  unfold R_lines at s_lines
  obtain ⟨r, er, hr⟩ := line_e h_lines h_ends x0 x1 y0 y1 d0 d1
  have uv := uq_v (c := 24 * x + y) (d := d)
  rw [show (24 * x + y) / 24 = x by omega, show (24 * x + y) % 24 = y by omega] at uv
  refine qW_e ?_
  unfold qf_X18_passes
  refine qW_eq er ?_
  unfold qf_X18_passes_J22
  rcases hr with ⟨e, no⟩ | ⟨r0, r1, on⟩
  · rw [if_neg (by omega), b01_t (show GOC M (24 * x + y) d from fun l l0 l1 z => absurd z (no l l0 l1))]
    refine qW_call (Q := fun o => o = .inr 1) ?_ ?_
    · unfold qf_X18_passes_L27
      refine qW_for 0 (fun _ u => u = (x, y, r, 1, 0)) (fun i u a b _ => by omega) ?_ rfl (by decide) (by decide)
      rintro _ rfl
      unfold qf_X18_passes_L27_b
      (try dsimp only)
      rw [if_pos (by omega)]
      exact qW_some rfl
    · rintro _ rfl
      (try dsimp only)
      rw [if_pos (by decide)]
      exact qW_some rfl
  · rw [if_pos r0]
    have rn := h_doorn r r0 (by omega)
    have re := h_ends r r0 r1
    have ee := ends_b h_ends r0 r1
    have c20 : 0 ≤ r ∧ r < 20 := ⟨r0, by omega⟩
    obtain ⟨t, ht⟩ : ∃ t, UTL M r (24 * x + y) d = t := ⟨_, rfl⟩
    have iff : GOC M (24 * x + y) d ↔ DOA M r t := by
      rw [← ht]
      refine ⟨fun z => z r r0 r1 on, fun z k k0 k1 ok => ?_⟩
      rw [one k r k0 k1 r0 r1 _ _ _ ok on]
      exact z
    rw [b01_c iff]
    have lx : (K 2158 r 0) = (M 8 r 0) := re.2.2.1.symm
    have ly : (K 2159 r 0) = (M 8 r 1) := re.2.2.2.1.symm
    have tt : ((K 2160 r 0) = 0 ∧ t = y - (M 8 r 1)) ∨ ((K 2160 r 0) = 1 ∧ t = x - (M 8 r 0)) := by
      unfold UTL at ht
      unfold onU at on
      rcases re.1 with z | z
      · rw [z, if_pos rfl, if_pos rfl] at re
        exact Or.inl ⟨z, by omega⟩
      · rw [z, if_neg (by decide), if_neg (by decide)] at re
        exact Or.inr ⟨z, by omega⟩
    refine qW_call (Q := fun o => o = .inr (b01 (DOA M r t))) ?_ ?_
    · unfold qf_X18_passes_L27
      refine qW_for (M 29 r 0) (fun e u => ∃ g, u = (x, y, r, g, e) ∧ ((g = 0 ∧ ∀ k, 0 ≤ k → k < e → ¬ ((M 30 r (3 * k)) ≤ t ∧ t < (M 30 r (3 * k + 1)))) ∨ (g = 1 ∧ DOA M r t))) ?_ ?_ ⟨0, rfl, Or.inl ⟨rfl, fun k a b => by omega⟩⟩ (by omega) (by omega)
      · rintro e _ e0 e1 ⟨g, rfl, hg⟩
        have rd := h_doors r e r0 (by omega) e0 e1
        unfold qf_X18_passes_L27_b qf_X18_passes_J68
        (try dsimp only)
        rw [if_neg (by omega), if_pos c20, if_neg (by omega), w32_id (x := e + 1) (by omega) (by omega)]
        rcases hg with ⟨rfl, hg⟩ | ⟨rfl, hg⟩
        · rw [if_pos rfl]
          have it : qf_X16_isThere 20000 r e x y K = some (b01 ((M 30 r (3 * e)) ≤ t ∧ t < (M 30 r (3 * e + 1)))) := by
            have j29 : qf_X16_isThere_J29 20000 r e t K = some (b01 ((M 30 r (3 * e)) ≤ t ∧ t < (M 30 r (3 * e + 1)))) := by
              refine qW_e ?_
              unfold qf_X16_isThere_J29
              rw [w32_id (x := 6 * r) (by omega) (by omega), w32_id (x := 6 * r + e) (by omega) (by omega), if_pos (by omega), rd.1, rd.2.1]
              by_cases g : t < (M 30 r (3 * e))
              · rw [if_pos g, b01_f (by omega)]
                exact qW_some rfl
              · rw [if_neg g, if_pos (by omega)]
                by_cases g2 : (M 30 r (3 * e + 1)) ≤ t
                · rw [if_pos g2, b01_f (by omega)]
                  exact qW_some rfl
                · rw [if_neg g2, b01_t (by omega)]
                  exact qW_some rfl
            unfold qf_X16_isThere
            rw [if_pos c20]
            rcases tt with ⟨f, et⟩ | ⟨f, et⟩
            · rw [if_pos f, if_pos c20, ly, w32_id (x := y - (M 8 r 1)) (by omega) (by omega), ← et]
              exact j29
            · rw [if_neg (by omega), if_pos c20, lx, w32_id (x := x - (M 8 r 0)) (by omega) (by omega), ← et]
              exact j29
          refine qW_eq it ?_
          by_cases g : (M 30 r (3 * e)) ≤ t ∧ t < (M 30 r (3 * e + 1))
          · rw [b01_t g, if_neg (by decide)]
            exact qW_some ⟨1, rfl, Or.inr ⟨rfl, e, e0, e1, g.1, g.2⟩⟩
          · rw [b01_f g, if_pos rfl]
            refine qW_some ⟨0, rfl, Or.inl ⟨rfl, fun k k0 k1 => ?_⟩⟩
            by_cases ek : k = e
            · rw [ek]
              exact g
            · exact hg k k0 (by omega)
        · rw [if_neg (by decide)]
          exact qW_some ⟨1, rfl, Or.inr ⟨rfl, hg⟩⟩
      · rintro _ ⟨g, rfl, hg⟩
        unfold qf_X18_passes_L27_b
        (try dsimp only)
        rw [if_neg (by omega), if_pos c20, if_pos (by omega)]
        rcases hg with ⟨rfl, hg⟩ | ⟨rfl, hg⟩
        · rw [b01_f (show ¬ DOA M r t from fun ⟨k, k0, k1, z⟩ => hg k k0 k1 z)]
          exact qW_some rfl
        · rw [b01_t hg]
          exact qW_some rfl
    · rintro _ rfl
      (try dsimp only)
      rw [if_pos b01_01]
      exact qW_some rfl
end VB
