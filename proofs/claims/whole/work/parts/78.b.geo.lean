/-! ===== lines, units, pieces ===== -/
section GE
variable {M K A B : qm} {l k n x y w L d j : Int}
theorem ends_b (h_ends : R_ends M K) (l0 : 0 ≤ l) (l1 : l < (M 7 0 0)) : 0 ≤ (M 8 l 0) ∧ 0 ≤ (M 8 l 1) ∧ (M 8 l 2) ≤ 24 ∧ (M 8 l 3) ≤ 24 ∧ (((M 8 l 1) = (M 8 l 3) ∧ (M 8 l 0) < (M 8 l 2)) ∨ ((M 8 l 1) < (M 8 l 3) ∧ (M 8 l 0) = (M 8 l 2))) := by
  have q := h_ends l l0 l1
  obtain ⟨e0, h0⟩ : ∃ v, (M 8 l 0) = v := ⟨_, rfl⟩
  obtain ⟨e1, h1⟩ : ∃ v, (M 8 l 1) = v := ⟨_, rfl⟩
  obtain ⟨e2, h2⟩ : ∃ v, (M 8 l 2) = v := ⟨_, rfl⟩
  obtain ⟨e3, h3⟩ : ∃ v, (M 8 l 3) = v := ⟨_, rfl⟩
  rw [h0, h1, h2, h3] at q ⊢
  rcases q.1 with g | g
  · rw [g, if_pos rfl, if_pos rfl] at q
    omega
  · rw [g, if_neg (by decide), if_neg (by decide)] at q
    omega
theorem onU_one (h_ends : R_ends M K) (h_alone : R_alone M K) (l0 : 0 ≤ l) (l1 : l < (M 7 0 0)) (k0 : 0 ≤ k) (k1 : k < (M 7 0 0)) (hl : onU M l d x y) (hk : onU M k d x y) : l = k := by
  apply Classical.byContradiction
  intro ne
  have a := h_alone k l k0 k1 l0 l1 (fun z => ne z.symm)
  have q := h_ends l l0 l1
  have p := h_ends k k0 k1
  apply a
  unfold crsN
  unfold onU at hl hk
  rcases q.1 with g | g
  · rcases p.1 with r | r
    · rw [g, if_pos rfl, if_pos rfl] at q
      rw [r, if_pos rfl, if_pos rfl] at p
      rw [g, r]
      omega
    · rw [g, if_pos rfl, if_pos rfl] at q
      rw [r, if_neg (by decide), if_neg (by decide)] at p
      omega
  · rcases p.1 with r | r
    · rw [g, if_neg (by decide), if_neg (by decide)] at q
      rw [r, if_pos rfl, if_pos rfl] at p
      omega
    · rw [g, if_neg (by decide), if_neg (by decide)] at q
      rw [r, if_neg (by decide), if_neg (by decide)] at p
      rw [g, r]
      omega
theorem wf_ln (h_ends : R_ends M K) (hA : WAL M A (M 7 0 0)) (x0 : 0 ≤ x) (x1 : x ≤ 24) (y0 : 0 ≤ y) (y1 : y ≤ 24) (w0 : 0 ≤ w) (w1 : w ≤ 3) : lnU M (M 7 0 0) w x y (wf A w x y) := by
  obtain ⟨v, e, h⟩ := wallFrom_r h_ends hA x0 x1 y0 y1 w0 w1
  rw [wallFrom_e x0 x1 y0 y1] at e
  cases e
  exact h
theorem frU_one (h_ends : R_ends M K) (h_alone : R_alone M K) (l0 : 0 ≤ l) (l1 : l < (M 7 0 0)) (k0 : 0 ≤ k) (k1 : k < (M 7 0 0)) (hl : frU M l w x y) (hk : frU M k w x y) : l = k := by
  unfold frU at hl hk
  rcases hl with ⟨e, hl⟩ | ⟨e, hl⟩ | ⟨e, hl⟩ | ⟨e, hl⟩ <;> rcases hk with ⟨e2, hk⟩ | ⟨e2, hk⟩ | ⟨e2, hk⟩ | ⟨e2, hk⟩ <;> first
    | exact onU_one h_ends h_alone l0 l1 k0 k1 hl hk
    | omega
theorem wf_is (h_ends : R_ends M K) (h_alone : R_alone M K) (hA : WAL M A (M 7 0 0)) (x0 : 0 ≤ x) (x1 : x ≤ 24) (y0 : 0 ≤ y) (y1 : y ≤ 24) (w0 : 0 ≤ w) (w1 : w ≤ 3) (l0 : 0 ≤ l) (l1 : l < (M 7 0 0)) (h : frU M l w x y) : wf A w x y = l := by
  rcases wf_ln h_ends hA x0 x1 y0 y1 w0 w1 with ⟨_, q⟩ | ⟨q0, q1, q2⟩
  · exact absurd h (q l l0 l1)
  · exact frU_one h_ends h_alone q0 q1 l0 l1 q2 h
/-- steps that way -/
def gx (w x j : Int) : Int := if w = 0 then x + j else if w = 2 then x - j else x
def gy (w y j : Int) : Int := if w = 1 then y + j else if w = 3 then y - j else y
def opp (w : Int) : Int := if w < 2 then w + 2 else w - 2
def lft (w : Int) : Int := if w < 3 then w + 1 else 0
def rgt (w : Int) : Int := if w < 1 then 3 else w - 1
theorem qT2_g (w0 : 0 ≤ w) (w1 : w ≤ 3) : x + j * qT2 w = gx w x j := by
  have c : w = 0 ∨ w = 1 ∨ w = 2 ∨ w = 3 := by omega
  rcases c with rfl | rfl | rfl | rfl
  · show x + j * 1 = x + j
    omega
  · show x + j * 0 = x
    omega
  · show x + j * -1 = x - j
    omega
  · show x + j * 0 = x
    omega
theorem qT3_g (w0 : 0 ≤ w) (w1 : w ≤ 3) : y + j * qT3 w = gy w y j := by
  have c : w = 0 ∨ w = 1 ∨ w = 2 ∨ w = 3 := by omega
  rcases c with rfl | rfl | rfl | rfl
  · show y + j * 0 = y
    omega
  · show y + j * 1 = y + j
    omega
  · show y + j * 0 = y
    omega
  · show y + j * -1 = y - j
    omega
theorem go_in (h_ends : R_ends M K) (hA : WAL M A (M 7 0 0)) (x0 : 0 ≤ x) (x1 : x ≤ 24) (y0 : 0 ≤ y) (y1 : y ≤ 24) (w0 : 0 ≤ w) (w1 : w ≤ 3) (hn : wf A w x y ≠ -1) : 0 ≤ wf A w x y ∧ wf A w x y < (M 7 0 0) ∧ frU M (wf A w x y) w x y ∧ 0 ≤ gx w x 1 ∧ gx w x 1 ≤ 24 ∧ 0 ≤ gy w y 1 ∧ gy w y 1 ≤ 24 ∧ wf A (opp w) (gx w x 1) (gy w y 1) = wf A w x y := by
  rcases wf_ln h_ends hA x0 x1 y0 y1 w0 w1 with ⟨q, _⟩ | ⟨q0, q1, q2⟩
  · exact absurd q hn
  · refine ⟨q0, q1, q2, ?_⟩
    have c : w = 0 ∨ w = 1 ∨ w = 2 ∨ w = 3 := by omega
    unfold frU at q2
    have ob : ∀ {d X Y : Int}, onU M (wf A w x y) d X Y → 0 ≤ X ∧ 0 ≤ Y ∧ (d = 0 → X < 24 ∧ Y ≤ 24) ∧ (d = 1 → Y < 24 ∧ X ≤ 24) := fun h => onU_b h_ends q0 q1 h
    rcases c with rfl | rfl | rfl | rfl
    · have r : onU M (wf A 0 x y) 0 x y := by
        rcases q2 with ⟨_, z⟩ | ⟨z, _⟩ | ⟨z, _⟩ | ⟨z, _⟩
        · exact z
        all_goals omega
      have b := ob r
      refine ⟨by show 0 ≤ x + 1; omega, by show x + 1 ≤ 24; omega, y0, y1, ?_⟩
      show wf A 2 (x + 1) y = wf A 0 x y
      unfold wf
      rw [if_neg (by decide), if_neg (by decide), if_pos rfl, if_neg (by omega), if_pos rfl, if_neg (by omega), show x + 1 - 1 = x by omega]
    · have r : onU M (wf A 1 x y) 1 x y := by
        rcases q2 with ⟨z, _⟩ | ⟨_, z⟩ | ⟨z, _⟩ | ⟨z, _⟩
        · omega
        · exact z
        all_goals omega
      have b := ob r
      refine ⟨x0, x1, by show 0 ≤ y + 1; omega, by show y + 1 ≤ 24; omega, ?_⟩
      show wf A 3 x (y + 1) = wf A 1 x y
      unfold wf
      rw [if_neg (by decide), if_neg (by decide), if_neg (by decide), if_neg (by omega), if_neg (by decide), if_pos rfl, if_neg (by omega), show y + 1 - 1 = y by omega]
    · have r : onU M (wf A 2 x y) 0 (x - 1) y := by
        rcases q2 with ⟨z, _⟩ | ⟨z, _⟩ | ⟨_, z⟩ | ⟨z, _⟩
        · omega
        · omega
        · exact z
        · omega
      have b := ob r
      refine ⟨by show 0 ≤ x - 1; omega, by show x - 1 ≤ 24; omega, y0, y1, ?_⟩
      show wf A 0 (x - 1) y = wf A 2 x y
      unfold wf
      rw [if_pos rfl, if_neg (by omega), if_neg (by decide), if_neg (by decide), if_pos rfl, if_neg (by omega)]
    · have r : onU M (wf A 3 x y) 1 x (y - 1) := by
        rcases q2 with ⟨z, _⟩ | ⟨z, _⟩ | ⟨z, _⟩ | ⟨_, z⟩
        · omega
        · omega
        · omega
        · exact z
      have b := ob r
      refine ⟨x0, x1, by show 0 ≤ y - 1; omega, by show y - 1 ≤ 24; omega, ?_⟩
      show wf A 1 x (y - 1) = wf A 3 x y
      unfold wf
      rw [if_neg (by decide), if_pos rfl, if_neg (by omega), if_neg (by decide), if_neg (by decide), if_neg (by decide), if_neg (by omega)]
theorem onU_n0 (h : onU M l 0 x y) (he : ¬ (x + 1 = (M 8 l 2) ∧ y = (M 8 l 3))) : onU M l 0 (x + 1) y := by
  rcases h with ⟨_, a, b, c, d⟩ | ⟨z, _⟩
  · exact Or.inl ⟨rfl, a, b, by omega, by omega⟩
  · omega
theorem onU_p0 (h : onU M l 0 (x - 1) y) (he : ¬ (x - 1 = (M 8 l 0) ∧ y = (M 8 l 1))) : onU M l 0 (x - 1 - 1) y := by
  rcases h with ⟨_, a, b, c, d⟩ | ⟨z, _⟩
  · exact Or.inl ⟨rfl, a, b, by omega, by omega⟩
  · omega
theorem onU_n1 (eb : ((M 8 l 1) = (M 8 l 3) ∧ (M 8 l 0) < (M 8 l 2)) ∨ ((M 8 l 1) < (M 8 l 3) ∧ (M 8 l 0) = (M 8 l 2))) (h : onU M l 1 x y) (he : ¬ (x = (M 8 l 2) ∧ y + 1 = (M 8 l 3))) : onU M l 1 x (y + 1) := by
  rcases h with ⟨z, _⟩ | ⟨_, a, b, c, d⟩
  · omega
  · exact Or.inr ⟨rfl, a, b, by omega, by omega⟩
theorem onU_p1 (h : onU M l 1 x (y - 1)) (he : ¬ (x = (M 8 l 0) ∧ y - 1 = (M 8 l 1))) : onU M l 1 x (y - 1 - 1) := by
  rcases h with ⟨z, _⟩ | ⟨_, a, b, c, d⟩
  · omega
  · exact Or.inr ⟨rfl, a, b, by omega, by omega⟩
/-- where no point is, the line goes on, and nothing meets it -/
theorem go_on (h_ends : R_ends M K) (h_alone : R_alone M K) (hA : WAL M A (M 7 0 0)) (x0 : 0 ≤ x) (x1 : x ≤ 24) (y0 : 0 ≤ y) (y1 : y ≤ 24) (w0 : 0 ≤ w) (w1 : w ≤ 3) (hn : wf A w x y ≠ -1) (hp : ¬ PT M A (M 7 0 0) (gx w x 1) (gy w y 1)) : wf A w (gx w x 1) (gy w y 1) = wf A w x y ∧ wf A (lft w) (gx w x 1) (gy w y 1) = -1 ∧ wf A (rgt w) (gx w x 1) (gy w y 1) = -1 := by
  obtain ⟨q0, q1, q2, b0, b1, b2, b3, e⟩ := go_in h_ends hA x0 x1 y0 y1 w0 w1 hn
  have hx : ¬ PX A (gx w x 1) (gy w y 1) := fun z => hp (Or.inl z)
  have he : ¬ PE M (M 7 0 0) (gx w x 1) (gy w y 1) := fun z => hp (Or.inr z)
  have eb := ends_b h_ends q0 q1
  have hE : ¬ ((gx w x 1 = (M 8 (wf A w x y) 0) ∧ gy w y 1 = (M 8 (wf A w x y) 1)) ∨ (gx w x 1 = (M 8 (wf A w x y) 2) ∧ gy w y 1 = (M 8 (wf A w x y) 3))) := fun z => he ⟨_, q0, q1, z⟩
  have f1 : frU M (wf A w x y) w (gx w x 1) (gy w y 1) := by
    obtain ⟨l, hl⟩ : ∃ l, wf A w x y = l := ⟨_, rfl⟩
    rw [hl] at q2 hE eb ⊢
    have c : w = 0 ∨ w = 1 ∨ w = 2 ∨ w = 3 := by omega
    unfold frU at q2 ⊢
    rcases c with rfl | rfl | rfl | rfl
    · rcases q2 with ⟨_, z⟩ | ⟨z, _⟩ | ⟨z, _⟩ | ⟨z, _⟩
      · exact Or.inl ⟨rfl, onU_n0 z (fun s => hE (Or.inr s))⟩
      all_goals omega
    · rcases q2 with ⟨z, _⟩ | ⟨_, z⟩ | ⟨z, _⟩ | ⟨z, _⟩
      · omega
      · exact Or.inr (Or.inl ⟨rfl, onU_n1 eb.2.2.2.2 z (fun s => hE (Or.inr s))⟩)
      all_goals omega
    · rcases q2 with ⟨z, _⟩ | ⟨z, _⟩ | ⟨_, z⟩ | ⟨z, _⟩
      · omega
      · omega
      · exact Or.inr (Or.inr (Or.inl ⟨rfl, onU_p0 z (fun s => hE (Or.inl s))⟩))
      · omega
    · rcases q2 with ⟨z, _⟩ | ⟨z, _⟩ | ⟨z, _⟩ | ⟨_, z⟩
      · omega
      · omega
      · omega
      · exact Or.inr (Or.inr (Or.inr ⟨rfl, onU_p1 z (fun s => hE (Or.inl s))⟩))
  have g1 := wf_is h_ends h_alone hA b0 b1 b2 b3 w0 w1 q0 q1 f1
  refine ⟨g1, ?_⟩
  rw [← g1] at hn
  unfold PX at hx
  have c : w = 0 ∨ w = 1 ∨ w = 2 ∨ w = 3 := by omega
  rcases c with rfl | rfl | rfl | rfl
  · show wf A 1 _ _ = -1 ∧ wf A 3 _ _ = -1
    omega
  · show wf A 2 _ _ = -1 ∧ wf A 0 _ _ = -1
    omega
  · show wf A 3 _ _ = -1 ∧ wf A 1 _ _ = -1
    omega
  · show wf A 0 _ _ = -1 ∧ wf A 2 _ _ = -1
    omega
/-- a piece: from (x, y) that way, L units -/
def PCE (M A : qm) (n x y w L : Int) : Prop := 1 ≤ L ∧ L ≤ 24 ∧ (∀ j, 0 ≤ j → j ≤ L → 0 ≤ gx w x j ∧ gx w x j ≤ 24 ∧ 0 ≤ gy w y j ∧ gy w y j ≤ 24) ∧ (∀ j, 0 ≤ j → j < L → wf A w (gx w x j) (gy w y j) = wf A w x y) ∧ (∀ j, 1 ≤ j → j < L → ¬ PT M A n (gx w x j) (gy w y j)) ∧ PT M A n (gx w x L) (gy w y L)
theorem gx_s : gx w x (j + 1) = gx w (gx w x j) 1 := by
  unfold gx
  by_cases a : w = 0
  · rw [if_pos a, if_pos a, if_pos a]; omega
  · rw [if_neg a, if_neg a, if_neg a]
    by_cases b : w = 2
    · rw [if_pos b, if_pos b, if_pos b]; omega
    · rw [if_neg b, if_neg b, if_neg b]
theorem gy_s : gy w y (j + 1) = gy w (gy w y j) 1 := by
  unfold gy
  by_cases a : w = 1
  · rw [if_pos a, if_pos a, if_pos a]; omega
  · rw [if_neg a, if_neg a, if_neg a]
    by_cases b : w = 3
    · rw [if_pos b, if_pos b, if_pos b]; omega
    · rw [if_neg b, if_neg b, if_neg b]
theorem gx_0 : gx w x 0 = x := by
  unfold gx
  split
  · omega
  · split <;> omega
theorem gy_0 : gy w y 0 = y := by
  unfold gy
  split
  · omega
  · split <;> omega
theorem PCE_ex (h_ends : R_ends M K) (h_alone : R_alone M K) (hA : WAL M A (M 7 0 0)) (x0 : 0 ≤ x) (x1 : x ≤ 24) (y0 : 0 ≤ y) (y1 : y ≤ 24) (w0 : 0 ≤ w) (w1 : w ≤ 3) (hn : wf A w x y ≠ -1) : ∃ L, PCE M A (M 7 0 0) x y w L := by
  have key : ∀ k : Nat, (∃ L, PCE M A (M 7 0 0) x y w L ∧ L ≤ k) ∨ ((∀ j : Int, 0 ≤ j → j ≤ k → 0 ≤ gx w x j ∧ gx w x j ≤ 24 ∧ 0 ≤ gy w y j ∧ gy w y j ≤ 24) ∧ (∀ j : Int, 0 ≤ j → j ≤ k → wf A w (gx w x j) (gy w y j) = wf A w x y) ∧ ∀ j : Int, 1 ≤ j → j ≤ k → ¬ PT M A (M 7 0 0) (gx w x j) (gy w y j)) := by
    intro k
    induction k with
    | zero =>
      refine Or.inr ⟨fun j a b => ?_, fun j a b => ?_, fun j a b => by omega⟩
      · have e : j = 0 := by omega
        rw [e, gx_0, gy_0]
        exact ⟨x0, x1, y0, y1⟩
      · have e : j = 0 := by omega
        rw [e, gx_0, gy_0]
    | succ k ih =>
      rcases ih with ⟨L, h1, h2⟩ | ⟨h1, h2, h3⟩
      · exact Or.inl ⟨L, h1, by omega⟩
      · have r := h1 k (by omega) (by omega)
        have e := h2 k (by omega) (by omega)
        have q := go_in h_ends hA r.1 r.2.1 r.2.2.1 r.2.2.2 w0 w1 (by rw [e]; exact hn)
        have o := go_on h_ends h_alone hA r.1 r.2.1 r.2.2.1 r.2.2.2 w0 w1 (by rw [e]; exact hn)
        rw [← gx_s, ← gy_s] at q o
        have ek : ((k + 1 : Nat) : Int) = (k : Int) + 1 := by omega
        have hr : ∀ j : Int, 0 ≤ j → j ≤ ((k + 1 : Nat) : Int) → 0 ≤ gx w x j ∧ gx w x j ≤ 24 ∧ 0 ≤ gy w y j ∧ gy w y j ≤ 24 := by
          intro j a b
          by_cases g : j = (k : Int) + 1
          · rw [g]
            exact ⟨q.2.2.2.1, q.2.2.2.2.1, q.2.2.2.2.2.1, q.2.2.2.2.2.2.1⟩
          · exact h1 j a (by omega)
        by_cases g : PT M A (M 7 0 0) (gx w x ((k : Int) + 1)) (gy w y ((k : Int) + 1))
        · refine Or.inl ⟨(k : Int) + 1, ⟨by omega, ?_, fun j a b => hr j a (by omega), fun j a b => h2 j a (by omega), fun j a b => h3 j a (by omega), g⟩, by omega⟩
          have z := hr ((k : Int) + 1) (by omega) (by omega)
          have c : w = 0 ∨ w = 1 ∨ w = 2 ∨ w = 3 := by omega
          rcases c with rfl | rfl | rfl | rfl
          · have := z.2.1
            have u : gx 0 x ((k : Int) + 1) = x + ((k : Int) + 1) := rfl
            omega
          · have := z.2.2.2
            have u : gy 1 y ((k : Int) + 1) = y + ((k : Int) + 1) := rfl
            omega
          · have := z.1
            have u : gx 2 x ((k : Int) + 1) = x - ((k : Int) + 1) := rfl
            omega
          · have := z.2.2.1
            have u : gy 3 y ((k : Int) + 1) = y - ((k : Int) + 1) := rfl
            omega
        · refine Or.inr ⟨hr, fun j a b => ?_, fun j a b => ?_⟩
          · by_cases gj : j = (k : Int) + 1
            · rw [gj, (o g).1, e]
            · exact h2 j a (by omega)
          · by_cases gj : j = (k : Int) + 1
            · rw [gj]
              exact g
            · exact h3 j a (by omega)
  rcases key 25 with ⟨L, h, _⟩ | ⟨h1, _, _⟩
  · exact ⟨L, h⟩
  · exfalso
    have z := h1 25 (by omega) (by omega)
    have c : w = 0 ∨ w = 1 ∨ w = 2 ∨ w = 3 := by omega
    rcases c with rfl | rfl | rfl | rfl
    · have := z.2.1
      have u : gx 0 x 25 = x + 25 := rfl
      omega
    · have := z.2.2.2
      have u : gy 1 y 25 = y + 25 := rfl
      omega
    · have := z.1
      have u : gx 2 x 25 = x - 25 := rfl
      omega
    · have := z.2.2.1
      have u : gy 3 y 25 = y - 25 := rfl
      omega
theorem PCE_one {L' : Int} (h : PCE M A n x y w L) (h' : PCE M A n x y w L') : L = L' := by
  rcases Int.lt_trichotomy L L' with c | c | c
  · exact absurd h.2.2.2.2.2 (h'.2.2.2.2.1 L h.1 c)
  · exact c
  · exact absurd h'.2.2.2.2.2 (h.2.2.2.2.1 L' h'.1 c)
end GE
