/-! ===== the block program: class and reference sort alike ===== -/
def KC (M : qm) : Int → Int := fun c => (M 1004 c 0)
def WC (M : qm) : Int → Int → Int := fun c i => (M 1008 c i)
def PC (M : qm) : Int → Prop := fun c => (M 1137 c 0) ≠ -1
theorem mayComeC {M : qm} {b : Int} (hb : 0 ≤ b) (hb2 : b < 40) (hk : 0 ≤ (M 1004 b 0) ∧ (M 1004 b 0) < 26) (hw : ∀ i, 0 ≤ i → i < 3 → -1 ≤ (M 1008 b i) ∧ (M 1008 b i) < 40) : qW (qf_X9_mayCome 20000 b M) (fun r => (r = 0 ∧ ¬ mc (KC M) (WC M) (PC M) b) ∨ (r = 1 ∧ mc (KC M) (WC M) (PC M) b)) := by
  have h3 := qT5_r hk.1 hk.2
  unfold qf_X9_mayCome
  rw [if_pos ⟨hb, hb2⟩]
  by_cases e : (M 1004 b 0) = 16
  · rw [if_pos e]
    exact qW_some (Or.inr ⟨rfl, Or.inl e⟩)
  · rw [if_neg e]
    refine qW_call (Q := fun o => match o with | .inl r => r = 0 ∧ ¬ mc (KC M) (WC M) (PC M) b | .inr _ => mc (KC M) (WC M) (PC M) b) ?_ ?_
    · refine qW_loop (fun s => s.1 = b ∧ 0 ≤ s.2 ∧ s.2 ≤ qT5 (M 1004 b 0) ∧ ∀ i, 0 ≤ i → i < s.2 → (M 1008 b i) = -1 ∨ (M 1137 (M 1008 b i) 0) ≠ -1) (fun s => (qT5 (M 1004 b 0) - s.2).toNat) ?_ _ _ ?_ ?_
      · rintro ⟨a, i⟩ ⟨g0, g1, g2, g3⟩
        (try dsimp only at g0 g1 g2 g3 ⊢)
        subst g0
        unfold qf_X9_mayCome_L15_b
        rw [if_pos ⟨hb, hb2⟩, if_pos hk]
        by_cases gi : qT5 (M 1004 a 0) ≤ i
        · rw [if_pos gi]
          exact qW_some (Or.inr (fun k k1 k2 => g3 k k1 (by have q : k < qT5 (M 1004 a 0) := k2; omega)))
        · rw [if_neg gi, if_pos ⟨hb, hb2⟩, if_pos ⟨g1, by omega⟩]
          have q := hw i g1 (by omega)
          have e1 : w32 (i + 1) = i + 1 := w32_id (by omega) (by omega)
          rw [e1]
          by_cases e2 : (M 1008 a i) = -1
          · rw [if_pos e2]
            refine qW_some ⟨⟨rfl, by omega, by omega, fun k k1 k2 => ?_⟩, by omega⟩
            by_cases e3 : k = i
            · rw [e3]
              exact Or.inl e2
            · exact g3 k k1 (by (try dsimp only at k2); omega)
          · rw [if_neg e2, if_pos ⟨by omega, q.2⟩]
            by_cases e4 : (M 1137 (M 1008 a i) 0) = -1
            · rw [if_pos e4]
              refine qW_some ⟨rfl, fun h => ?_⟩
              rcases h with h | h
              · exact e h
              · rcases h i g1 (show i < qT5 (M 1004 a 0) by omega) with h | h
                · exact e2 h
                · exact h e4
            · rw [if_neg e4]
              refine qW_some ⟨⟨rfl, by omega, by omega, fun k k1 k2 => ?_⟩, by omega⟩
              by_cases e3 : k = i
              · rw [e3]
                exact Or.inr e4
              · exact g3 k k1 (by (try dsimp only at k2); omega)
      · exact ⟨rfl, Int.le_refl _, h3.1, fun k k1 k2 => absurd k2 (by (try dsimp only); omega)⟩
      · (try dsimp only)
        omega
    · rintro (o | v) h
      · exact qW_some (Or.inl h)
      · exact qW_some (Or.inr ⟨rfl, h⟩)
/-- what the blocks are like, on the class's side -/
def okC (M : qm) : Prop := 0 ≤ (M 1003 0 0) ∧ (M 1003 0 0) ≤ 40 ∧ (∀ b, 0 ≤ b → b < 40 → 0 ≤ (M 1004 b 0) ∧ (M 1004 b 0) < 26) ∧ (∀ b i, 0 ≤ b → b < (M 1003 0 0) → 0 ≤ i → i < 3 → -1 ≤ (M 1008 b i) ∧ (M 1008 b i) < (M 1003 0 0))
theorem leastC {M : qm} (h : okC M) : qW (qf_X9_leastThatMayCome 20000 M) (fun r => (r = -1 ∧ ∀ c, 0 ≤ c → c < (M 1003 0 0) → PC M c ∨ ¬ mc (KC M) (WC M) (PC M) c) ∨ (0 ≤ r ∧ r < (M 1003 0 0) ∧ ¬ PC M r ∧ mc (KC M) (WC M) (PC M) r ∧ ∀ c, 0 ≤ c → c < r → PC M c ∨ ¬ mc (KC M) (WC M) (PC M) c)) := by
  obtain ⟨n0, n1, hk, hw⟩ := h
  unfold qf_X9_leastThatMayCome
  refine qW_call (Q := fun o => match o with | .inl r => 0 ≤ r ∧ r < (M 1003 0 0) ∧ ¬ PC M r ∧ mc (KC M) (WC M) (PC M) r ∧ ∀ c, 0 ≤ c → c < r → PC M c ∨ ¬ mc (KC M) (WC M) (PC M) c | .inr _ => ∀ c, 0 ≤ c → c < (M 1003 0 0) → PC M c ∨ ¬ mc (KC M) (WC M) (PC M) c) ?_ ?_
  · refine qW_loop (fun s => 0 ≤ s ∧ s ≤ (M 1003 0 0) ∧ ∀ c, 0 ≤ c → c < s → PC M c ∨ ¬ mc (KC M) (WC M) (PC M) c) (fun s => ((M 1003 0 0) - s).toNat) ?_ _ _ ?_ ?_
    · rintro i ⟨g1, g2, g3⟩
      unfold qf_X9_leastThatMayCome_L2_b
      by_cases gi : (M 1003 0 0) ≤ i
      · rw [if_pos gi]
        exact qW_some (fun c c1 c2 => g3 c c1 (by omega))
      · rw [if_neg gi, if_pos ⟨g1, by omega⟩]
        have e1 : w32 (i + 1) = i + 1 := w32_id (by omega) (by omega)
        rw [e1]
        have next : (PC M i ∨ ¬ mc (KC M) (WC M) (PC M) i) → (0 ≤ i + 1 ∧ i + 1 ≤ (M 1003 0 0) ∧ ∀ c, 0 ≤ c → c < i + 1 → PC M c ∨ ¬ mc (KC M) (WC M) (PC M) c) ∧ ((M 1003 0 0) - (i + 1)).toNat < ((M 1003 0 0) - i).toNat := by
          intro hi
          refine ⟨⟨by omega, by omega, fun c c1 c2 => ?_⟩, by omega⟩
          by_cases e : c = i
          · rw [e]
            exact hi
          · exact g3 c c1 (by omega)
        by_cases e2 : (M 1137 i 0) = -1
        · rw [if_pos e2]
          refine qW_call (mayComeC g1 (by omega) (hk i g1 (by omega)) (fun k k1 k2 => by have q := hw i k g1 (by omega) k1 k2; omega)) ?_
          rintro r (⟨rfl, hr⟩ | ⟨rfl, hr⟩)
          · rw [if_pos rfl]
            exact qW_some (next (Or.inr hr))
          · rw [if_neg (by decide)]
            exact qW_some ⟨g1, by omega, fun x => x e2, hr, g3⟩
        · rw [if_neg e2]
          exact qW_some (next (Or.inl e2))
    · exact ⟨Int.le_refl _, n0, fun c c1 c2 => absurd c2 (by omega)⟩
    · (try dsimp only)
      omega
  · rintro (o | v) h
    · exact qW_some (Or.inr h)
    · exact qW_some (Or.inl ⟨rfl, h⟩)
theorem lst_c {n : Int} {K : Int → Int} {W : Int → Int → Int} {q q' : Int → Int} {k : Int} (h0 : 0 ≤ k) (h : ∀ j, 0 ≤ j → j ≤ k → q j = q' j) (hl : lst n K W q k) : lst n K W q' k := by
  have e : pk q k = pk q' k := funext (fun b => propext (pk_c (fun j a c => h j a (by omega))))
  unfold lst at *
  rw [← e, ← h k h0 (Int.le_refl _)]
  exact hl
/-- q stands, t long, with p back -/
def stk (n : Int) (q p : Int → Int) (t : Int) : Prop := 0 ≤ t ∧ t ≤ n ∧ (∀ k, 0 ≤ k → k < t → 0 ≤ q k ∧ q k < n ∧ p (q k) = k) ∧ (∀ c, 0 ≤ c → c < n → p c = -1 ∨ pk q t c)
theorem stk_p {n : Int} {q p : Int → Int} {t c : Int} (h : stk n q p t) (c0 : 0 ≤ c) (c1 : c < n) : p c ≠ -1 ↔ pk q t c := by
  constructor
  · intro e
    rcases h.2.2.2 c c0 c1 with x | x
    · exact absurd x e
    · exact x
  · rintro ⟨j, j0, j1, rfl⟩
    have x := (h.2.2.1 j j0 j1).2.2
    omega
theorem stk_lt {n : Int} {q p : Int → Int} {t c : Int} (h : stk n q p t) (c0 : 0 ≤ c) (c1 : c < n) (e : p c = -1) : t < n := by
  apply Classical.byContradiction
  intro g
  have e2 : t = n := by have := h.2.1; omega
  obtain ⟨k, k0, k1, k2⟩ := pigeon n.toNat q (fun k k0 k1 => by have x := h.2.2.1 k k0 (by omega); omega) (fun j k j0 j1 k1 ee => by
    have x := (h.2.2.1 j j0 (by omega)).2.2
    have y := (h.2.2.1 k (by omega) (by omega)).2.2
    rw [ee] at x
    omega) c c0 (by omega)
  have x := (h.2.2.1 k k0 (by omega)).2.2
  rw [k2] at x
  omega
theorem stk_all {n : Int} {q p : Int → Int} {c : Int} (h : stk n q p n) (c0 : 0 ≤ c) (c1 : c < n) : pk q n c := by
  apply Classical.byContradiction
  intro g
  have e : p c = -1 := (h.2.2.2 c c0 c1).resolve_right g
  have := stk_lt h c0 c1 e
  omega
theorem stk_full {n : Int} {q p : Int → Int} {t : Int} (h : stk n q p t) (ha : ∀ c, 0 ≤ c → c < n → pk q t c) : t = n := by
  apply Classical.byContradiction
  intro g
  have h2 := h.2.1
  have h1 := h.1
  have hp : ∀ c, 0 ≤ c → c < n → 0 ≤ p c ∧ p c < t ∧ q (p c) = c := by
    intro c c0 c1
    obtain ⟨j, j0, j1, rfl⟩ := ha c c0 c1
    rw [(h.2.2.1 j j0 j1).2.2]
    exact ⟨j0, j1, rfl⟩
  obtain ⟨k, k0, k1, k2⟩ := pigeon n.toNat p (fun k k0 k1 => by have x := hp k k0 (by omega); omega) (fun j k j0 j1 k1 ee => by
    have x := (hp j j0 (by omega)).2.2
    have y := (hp k (by omega) (by omega)).2.2
    rw [ee] at x
    omega) (n - 1) (by omega) (by omega)
  have x := hp k k0 (by omega)
  omega
/-- one more stands -/
theorem stk_add {n : Int} {q p q' p' : Int → Int} {t r : Int} (h : stk n q p t) (r0 : 0 ≤ r) (r1 : r < n) (e : p r = -1) (hq : ∀ k, 0 ≤ k → k < t → q' k = q k) (ht : q' t = r) (hp : ∀ c, c ≠ r → p' c = p c) (hr : p' r = t) : stk n q' p' (t + 1) := by
  have l := stk_lt h r0 r1 e
  have h1 := h.1
  refine ⟨by omega, by omega, fun k k0 k1 => ?_, fun c c0 c1 => ?_⟩
  · by_cases ek : k = t
    · rw [ek, ht, hr]
      exact ⟨r0, r1, rfl⟩
    · have x := h.2.2.1 k k0 (by omega)
      rw [hq k k0 (by omega)]
      have e2 : q k ≠ r := by
        intro ee
        rw [ee] at x
        omega
      rw [hp _ e2]
      exact x
  · by_cases ec : c = r
    · exact Or.inr ⟨t, h1, by omega, by rw [ht, ec]⟩
    · rw [hp c ec]
      rcases h.2.2.2 c c0 c1 with x | ⟨j, j0, j1, x⟩
      · exact Or.inl x
      · exact Or.inr ⟨j, j0, by omega, by rw [hq j j0 j1]; exact x⟩
