/-! ===== the reference's sorting ===== -/
def KR (M : qm) : Int → Int := fun c => (M 2236 c 0)
def WR (M : qm) : Int → Int → Int := fun c i => (M 2240 (3 * c + i) 0)
def PR (M : qm) : Int → Prop := fun c => (M 2250 c 0) ≠ 0
def okR (M : qm) : Prop := 0 ≤ (M 2235 0 0) ∧ (M 2235 0 0) ≤ 40 ∧ (∀ b, 0 ≤ b → b < 40 → 0 ≤ (M 2236 b 0) ∧ (M 2236 b 0) < 26) ∧ (∀ b i, 0 ≤ b → b < (M 2235 0 0) → 0 ≤ i → i < 3 → -1 ≤ (M 2240 (3 * b + i) 0) ∧ (M 2240 (3 * b + i) 0) < (M 2235 0 0))
theorem mayComeR {M : qm} {b : Int} (hb : 0 ≤ b) (hb2 : b < 40) (hk : 0 ≤ (M 2236 b 0) ∧ (M 2236 b 0) < 26) (hw : ∀ i, 0 ≤ i → i < 3 → -1 ≤ (M 2240 (3 * b + i) 0) ∧ (M 2240 (3 * b + i) 0) < 40) : qW (qf_X17_mayCome 20000 b M) (fun r => (r = 0 ∧ ¬ mc (KR M) (WR M) (PR M) b) ∨ (r = 1 ∧ mc (KR M) (WR M) (PR M) b)) := by
  have h3 := qT5_r hk.1 hk.2
  unfold qf_X17_mayCome
  refine qW_call (Q := fun o => match o with | .inl _ => False | .inr r => (r = 0 ∧ ¬ mc (KR M) (WR M) (PR M) b) ∨ (r = 1 ∧ mc (KR M) (WR M) (PR M) b)) ?_ ?_
  · refine qW_loop (fun s => s.1 = b ∧ 0 ≤ s.2.2 ∧ s.2.2 ≤ qT5 (M 2236 b 0) ∧ ((M 2236 b 0) = 16 → s.2.1 = 1) ∧ ((s.2.1 = 0 ∧ ¬ ∀ i, 0 ≤ i → i < s.2.2 → (M 2240 (3 * b + i) 0) = -1 ∨ (M 2250 (M 2240 (3 * b + i) 0) 0) ≠ 0) ∨ (s.2.1 = 1 ∧ ∀ i, 0 ≤ i → i < s.2.2 → (M 2240 (3 * b + i) 0) = -1 ∨ (M 2250 (M 2240 (3 * b + i) 0) 0) ≠ 0))) (fun s => (qT5 (M 2236 b 0) - s.2.2).toNat) ?_ _ _ ?_ ?_
    · rintro ⟨a, v, i⟩ ⟨g0, g1, g2, g5, g3⟩
      (try dsimp only at g0 g1 g2 g3 g5 ⊢)
      subst g0
      unfold qf_X17_mayCome_L4_b qf_X17_mayCome_J59 qf_X17_mayCome_J63
      rw [if_pos ⟨hb, hb2⟩, inputs_r hk.1 hk.2]
      refine qW_bind (qW_some ?_)
      by_cases gi : qT5 (M 2236 a 0) ≤ i
      · rw [if_pos gi]
        refine qW_some ?_
        rcases g3 with ⟨rfl, g3⟩ | ⟨rfl, g3⟩
        · refine Or.inl ⟨rfl, fun h => ?_⟩
          rcases h with h | h
          · have := g5 h
            omega
          · exact g3 (fun k k1 k2 => h k k1 (show k < qT5 (M 2236 a 0) by omega))
        · exact Or.inr ⟨rfl, Or.inr (fun k k1 k2 => g3 k k1 (by have q : k < qT5 (M 2236 a 0) := k2; omega))⟩
      · rw [if_neg gi, if_pos ⟨hb, hb2⟩]
        by_cases e16 : (M 2236 a 0) = 16
        · rw [if_pos e16]
          exact qW_some (Or.inr ⟨g5 e16, Or.inl e16⟩)
        · have q := hw i g1 (by omega)
          have e1 : w32 (i + 1) = i + 1 := w32_id (by omega) (by omega)
          have e2 : w32 (w32 (3 * a) + i) = 3 * a + i := by rw [w32_id (x := 3 * a) (by omega) (by omega), w32_id (by omega) (by omega)]
          rw [if_neg e16, e1, e2, if_pos ⟨by omega, by omega⟩]
          have bad : ¬ (∀ k, 0 ≤ k → k < i + 1 → (M 2240 (3 * a + k) 0) = -1 ∨ (M 2250 (M 2240 (3 * a + k) 0) 0) ≠ 0) → (a = a ∧ 0 ≤ i + 1 ∧ i + 1 ≤ qT5 (M 2236 a 0) ∧ ((M 2236 a 0) = 16 → (0 : Int) = 1) ∧ (((0 : Int) = 0 ∧ ¬ ∀ k, 0 ≤ k → k < i + 1 → (M 2240 (3 * a + k) 0) = -1 ∨ (M 2250 (M 2240 (3 * a + k) 0) 0) ≠ 0) ∨ ((0 : Int) = 1 ∧ ∀ k, 0 ≤ k → k < i + 1 → (M 2240 (3 * a + k) 0) = -1 ∨ (M 2250 (M 2240 (3 * a + k) 0) 0) ≠ 0))) ∧ (qT5 (M 2236 a 0) - (i + 1)).toNat < (qT5 (M 2236 a 0) - i).toNat := fun x => ⟨⟨rfl, by omega, by omega, fun y => absurd y e16, Or.inl ⟨rfl, x⟩⟩, by omega⟩
          have good : v = 1 → ((M 2240 (3 * a + i) 0) = -1 ∨ (M 2250 (M 2240 (3 * a + i) 0) 0) ≠ 0) → (a = a ∧ 0 ≤ i + 1 ∧ i + 1 ≤ qT5 (M 2236 a 0) ∧ ((M 2236 a 0) = 16 → (1 : Int) = 1) ∧ (((1 : Int) = 0 ∧ ¬ ∀ k, 0 ≤ k → k < i + 1 → (M 2240 (3 * a + k) 0) = -1 ∨ (M 2250 (M 2240 (3 * a + k) 0) 0) ≠ 0) ∨ ((1 : Int) = 1 ∧ ∀ k, 0 ≤ k → k < i + 1 → (M 2240 (3 * a + k) 0) = -1 ∨ (M 2250 (M 2240 (3 * a + k) 0) 0) ≠ 0))) ∧ (qT5 (M 2236 a 0) - (i + 1)).toNat < (qT5 (M 2236 a 0) - i).toNat := by
            intro ev x
            refine ⟨⟨rfl, by omega, by omega, fun _ => rfl, Or.inr ⟨rfl, fun k k1 k2 => ?_⟩⟩, by omega⟩
            by_cases ek : k = i
            · rw [ek]
              exact x
            · rcases g3 with ⟨g, -⟩ | ⟨-, g⟩
              · omega
              · exact g k k1 (by omega)
          by_cases ev : v = 0
          · rw [if_pos ev]
            refine qW_some (bad (fun x => ?_))
            rcases g3 with ⟨-, g⟩ | ⟨g, -⟩
            · exact g (fun k k1 k2 => x k k1 (by omega))
            · omega
          · have ev1 : v = 1 := by
              rcases g3 with ⟨g, -⟩ | ⟨g, -⟩
              · exact absurd g ev
              · exact g
            rw [if_neg ev]
            by_cases e3 : (M 2240 (3 * a + i) 0) < 0
            · rw [if_pos e3]
              exact qW_some (good ev1 (Or.inl (by omega)))
            · rw [if_neg e3, if_pos ⟨by omega, q.2⟩]
              by_cases e4 : (M 2250 (M 2240 (3 * a + i) 0) 0) = 0
              · rw [if_pos e4]
                refine qW_some (bad (fun x => ?_))
                rcases x i g1 (by omega) with y | y
                · omega
                · exact y e4
              · rw [if_neg e4]
                exact qW_some (good ev1 (Or.inr e4))
    · exact ⟨rfl, Int.le_refl _, h3.1, fun _ => rfl, Or.inr ⟨rfl, fun k k1 k2 => absurd k2 (by (try dsimp only); omega)⟩⟩
    · (try dsimp only)
      omega
  · rintro (o | v) h
    · exact h.elim
    · (try dsimp only at h ⊢)
      rw [if_pos (by omega)]
      exact qW_some h
/-- the search from the last block down -/
theorem leastR {M : qm} (h : okR M) {n : Int} : qW (qf_X17_sort_L41 20000 20000 n (-1) ((M 2235 0 0) - 1) M) (fun o => match o with
    | .inl _ => False
    | .inr r => (r = -1 ∧ ∀ c, 0 ≤ c → c < (M 2235 0 0) → PR M c ∨ ¬ mc (KR M) (WR M) (PR M) c) ∨ (0 ≤ r ∧ r < (M 2235 0 0) ∧ ¬ PR M r ∧ mc (KR M) (WR M) (PR M) r ∧ ∀ c, 0 ≤ c → c < r → PR M c ∨ ¬ mc (KR M) (WR M) (PR M) c)) := by
  obtain ⟨n0, n1, hk, hw⟩ := h
  refine qW_loop (fun s => -1 ≤ s.2.2 ∧ s.2.2 < (M 2235 0 0) ∧ ((s.2.1 = -1 ∧ ∀ c, s.2.2 < c → c < (M 2235 0 0) → PR M c ∨ ¬ mc (KR M) (WR M) (PR M) c) ∨ (s.2.2 < s.2.1 ∧ s.2.1 < (M 2235 0 0) ∧ ¬ PR M s.2.1 ∧ mc (KR M) (WR M) (PR M) s.2.1 ∧ ∀ c, s.2.2 < c → c < s.2.1 → PR M c ∨ ¬ mc (KR M) (WR M) (PR M) c))) (fun s => (s.2.2 + 1).toNat) ?_ _ _ ?_ ?_
  · rintro ⟨a, r, i⟩ ⟨g1, g2, g3⟩
    (try dsimp only at g1 g2 g3 ⊢)
    unfold qf_X17_sort_L41_b qf_X17_sort_J70
    by_cases gi : i < 0
    · rw [if_pos gi]
      refine qW_some ?_
      have ei : i = -1 := by omega
      rw [ei] at g3
      rcases g3 with ⟨rfl, g⟩ | ⟨a1, a2, a3, a4, a5⟩
      · exact Or.inl ⟨rfl, fun c c0 c1 => g c (by omega) c1⟩
      · exact Or.inr ⟨by omega, a2, a3, a4, fun c c0 c1 => a5 c (by omega) c1⟩
    · rw [if_neg gi, if_pos ⟨by omega, by omega⟩]
      have e1 : w32 (i - 1) = i - 1 := w32_id (by omega) (by omega)
      rw [e1]
      have next : (PR M i ∨ ¬ mc (KR M) (WR M) (PR M) i) → (-1 ≤ i - 1 ∧ i - 1 < (M 2235 0 0) ∧ ((r = -1 ∧ ∀ c, i - 1 < c → c < (M 2235 0 0) → PR M c ∨ ¬ mc (KR M) (WR M) (PR M) c) ∨ (i - 1 < r ∧ r < (M 2235 0 0) ∧ ¬ PR M r ∧ mc (KR M) (WR M) (PR M) r ∧ ∀ c, i - 1 < c → c < r → PR M c ∨ ¬ mc (KR M) (WR M) (PR M) c))) ∧ (i - 1 + 1).toNat < (i + 1).toNat := by
        intro hi
        refine ⟨⟨by omega, by omega, ?_⟩, by omega⟩
        rcases g3 with ⟨er, g⟩ | ⟨a1, a2, a3, a4, a5⟩
        · refine Or.inl ⟨er, fun c c0 c1 => ?_⟩
          by_cases e : c = i
          · rw [e]
            exact hi
          · exact g c (by omega) c1
        · refine Or.inr ⟨by omega, a2, a3, a4, fun c c0 c1 => ?_⟩
          by_cases e : c = i
          · rw [e]
            exact hi
          · exact a5 c (by omega) c1
      by_cases e2 : (M 2250 i 0) = 0
      · rw [if_pos e2]
        refine qW_call (mayComeR (by omega) (by omega) (hk i (by omega) (by omega)) (fun k k1 k2 => by have q := hw i k (by omega) (by omega) k1 k2; omega)) ?_
        rintro v (⟨rfl, hr⟩ | ⟨rfl, hr⟩)
        · rw [if_pos rfl]
          exact qW_some (next (Or.inr hr))
        · rw [if_neg (by decide)]
          refine qW_some ⟨⟨by (try dsimp only); omega, by (try dsimp only); omega, Or.inr ⟨by (try dsimp only); omega, by (try dsimp only); omega, fun x => x e2, hr, fun c c0 c1 => by (try dsimp only at c0 c1); omega⟩⟩, by (try dsimp only); omega⟩
      · rw [if_neg e2]
        exact qW_some (next (Or.inl e2))
  · exact ⟨by (try dsimp only); omega, by (try dsimp only); omega, Or.inl ⟨rfl, fun c c0 c1 => by (try dsimp only at c0); omega⟩⟩
  · (try dsimp only)
    omega
/-- distinct, within 0 .. n - 1 -/
def dst (n : Int) (q : Int → Int) (t : Int) : Prop := 0 ≤ t ∧ t ≤ n ∧ (∀ k, 0 ≤ k → k < t → 0 ≤ q k ∧ q k < n ∧ ¬ pk q k (q k))
noncomputable def bk (q : Int → Int) (t c : Int) : Int := @dite _ (pk q t c) (Classical.propDecidable _) (fun h => Classical.choose h) (fun _ => -1)
theorem dst_stk {n : Int} {q : Int → Int} {t : Int} (h : dst n q t) : stk n q (bk q t) t := by
  refine ⟨h.1, h.2.1, fun k k0 k1 => ⟨(h.2.2 k k0 k1).1, (h.2.2 k k0 k1).2.1, ?_⟩, fun c c0 c1 => ?_⟩
  · have hp : pk q t (q k) := ⟨k, k0, k1, rfl⟩
    unfold bk
    rw [dif_pos hp]
    have hs := Classical.choose_spec hp
    apply Classical.byContradiction
    intro g
    rcases Int.lt_or_gt_of_ne g with x | x
    · exact (h.2.2 k k0 k1).2.2 ⟨_, hs.1, x, hs.2.2⟩
    · exact (h.2.2 _ hs.1 hs.2.1).2.2 ⟨k, k0, x, hs.2.2.symm⟩
  · by_cases e : pk q t c
    · exact Or.inr e
    · left
      unfold bk
      rw [dif_neg e]
theorem dst_p {n : Int} {q : Int → Int} {t c : Int} (h : dst n q t) (c0 : 0 ≤ c) (c1 : c < n) (e : ¬ pk q t c) : bk q t c = -1 := by
  unfold bk
  rw [dif_neg e]
