section FM
variable {M K A B D D0 : qm} {c d s k n x y S v : Int} {F q : Int → Int}
def BOR (A : qm) (F : Int → Int) : Prop := ∀ c d, 0 ≤ c → c < 576 → 0 ≤ d → d ≤ 3 → cb c d = -1 → wb A c d = -1 → F c = -1
theorem cor_of (hC : CLO A F) (hB : BOR A F) (c0 : 0 ≤ c) (c1 : c < 576) (h1 : F c ≠ -1) (h : ∀ v, 0 ≤ v → v < c → F v ≠ -3 ∧ F v ≠ F c) : COR A c := by
  have one : ∀ d, 0 ≤ d → d ≤ 3 → (cb c d ≠ -1 → cb c d < c) → wb A c d ≠ -1 := by
    intro d d0 d1 hl hw
    by_cases g : cb c d = -1
    · exact h1 (hB c d c0 c1 d0 d1 g hw)
    · have r := cb_r c0 c1 g
      have bk := cb_back (A := A) c0 c1 d0 d1 g
      have z := h _ r.1 (hl g)
      have y := hC (cb c d) (bck d) r.1 r.2 bk.2.2.1 bk.2.2.2 (by rw [bk.2.1]; exact hw) (by rw [bk.1]; omega) z.1
      rw [bk.1] at y
      exact z.2 y.symm
  refine ⟨one 1 (by decide) (by decide) (fun g => ?_), one 3 (by decide) (by decide) (fun g => ?_)⟩
  · unfold cb at g ⊢
    rw [if_neg (by decide), if_pos rfl] at g ⊢
    split at g <;> omega
  · unfold cb at g ⊢
    rw [if_neg (by decide), if_neg (by decide), if_neg (by decide)] at g ⊢
    split at g <;> omega
def FRM (D0 D : qm) : Prop := ∀ b i j, b ≠ 56 → b ≠ 725 → b ≠ 60 → ¬ (b = 51 ∧ i = 3) → D b i j = D0 b i j
/-- each space's first cell; what is the same in a space -/
def FIR (A : qm) (own : Int → Int) (q : Int → Int) (c S : Int) : Prop := ∀ s, 0 ≤ s → s < S → 0 ≤ q s ∧ q s < c ∧ own (q s) = s ∧ (∀ v, 0 ≤ v → v < 576 → own v = s → ∀ F f, CMP A F f → F v = F (q s)) ∧ ∀ v, 0 ≤ v → v < q s → own v ≠ -3 ∧ own v < s
def FMI (A D0 D : qm) (q : Int → Int) (c S : Int) : Prop := FRM D0 D ∧ CLO A (fun v => (D 56 v 0)) ∧ (∀ v, 0 ≤ v → v < 576 → (D 56 v 0) = -3 ∨ (-1 ≤ (D 56 v 0) ∧ (D 56 v 0) < S)) ∧ BOR A (fun v => (D 56 v 0)) ∧ (∀ v, 0 ≤ v → v < 576 → (D 56 v 0) = -1 → ∀ F f, CMP A F f → F v = f) ∧ FIR A (fun v => (D 56 v 0)) q c S ∧ (∀ v, 0 ≤ v → v < c → (D 56 v 0) ≠ -3) ∧ (∀ s, 0 ≤ s → s < S → (D 60 s 0) = sI (fun v => b01 ((D 56 v 0) = s)) 576) ∧ (D 51 3 0) = S ∧ 0 ≤ S ∧ S ≤ 100
theorem fm_cor (h_lines : R_lines M K) (h_ends : R_ends M K) (hA : WAL M A (M 7 0 0)) (h : FMI A D0 D q c S) (c0 : 0 ≤ c) (c1 : c < 576) (hc : (D 56 c 0) = -3) : S < 100 := by
  obtain ⟨h1, h2, h3, h4, h5, h6, h7, h8, h9, h10, h11⟩ := h
  have z := cor_100 (q := fun s => if s = S then c else q s) (n := S + 1) h_lines h_ends hA (by omega) (fun s s0 s1 => by
    (try dsimp only)
    by_cases e : s = S
    · rw [if_pos e]
      refine ⟨c0, c1, cor_of h2 h4 c0 c1 (by (try dsimp only); omega) (fun v v0 v1 => ?_)⟩
      (try dsimp only)
      rw [hc]
      exact ⟨h7 v v0 v1, h7 v v0 v1⟩
    · rw [if_neg e]
      obtain ⟨a, b, e2, _, f⟩ := h6 s s0 (by omega)
      (try dsimp only at e2 f)
      refine ⟨a, by omega, cor_of h2 h4 a (by omega) (by (try dsimp only); omega) (fun v v0 v1 => ?_)⟩
      (try dsimp only)
      have := f v v0 v1
      rw [e2]
      omega) (fun s t a b e => by
    (try dsimp only)
    rw [if_neg (show s ≠ S by omega)]
    have p := h6 s a (by omega)
    (try dsimp only at p)
    by_cases g : t = S
    · rw [if_pos g]
      omega
    · rw [if_neg g]
      have p2 := h6 t (by omega) (by omega)
      (try dsimp only at p2)
      intro w
      rw [w] at p
      omega)
  omega
theorem fm_s (h_lines : R_lines M K) (h_ends : R_ends M K) (hA : WAL M A (M 7 0 0)) (hw : ∀ i j, D0 52 i j = A 52 i j) (h : FMI A D0 D q c S) (c0 : 0 ≤ c) (c1 : c < 576) : qW (qf_X2_fillSpaces_L72_b 20000 c D) (fun o => ∃ E r T, o = .inr (c + 1, E) ∧ FMI A D0 E r (c + 1) T) := by
  have h' := h
  obtain ⟨h1, h2, h3, h4, h5, h6, h7, h8, h9, h10, h11⟩ := h
  unfold qf_X2_fillSpaces_L72_b
  rw [if_neg (by omega), if_pos ⟨c0, c1⟩, w32_id (x := c + 1) (by omega) (by omega)]
  by_cases g : (D 56 c 0) = -3
  · have s5 := fm_cor h_lines h_ends hA h' c0 c1 g
    rw [if_pos g, if_neg (by omega), h9]
    refine qW_call (fill_r (A := A) (s := S) (by omega) (fun i j => (h1 _ i j (by decide) (by decide) (by decide) (by omega)).trans (hw i j)) h2 c0 c1 g) ?_
    rintro ⟨n, E⟩ ⟨f1, f2, f3, f4, f5, f6⟩
    (try dsimp only at f1 f2 f3 f4 f5 f6 ⊢)
    rw [if_pos ⟨h10, s5⟩]
    refine qW_bnd (qW_bnd (qW_some ?_))
    have es : qw E 60 S 0 n 51 3 0 = S := by
      rw [qw_a (by decide), f1 51 3 0 (by decide) (by decide)]
      exact h9
    rw [es, w32_id (x := S + 1) (by omega) (by omega)]
    have eo : ∀ v, qw (qw E 60 S 0 n) 51 3 0 (S + 1) 56 v 0 = (E 56 v 0) := fun v => (qw_a (by decide)).trans (qw_a (by decide))
    have old : ∀ v, 0 ≤ v → v < 576 → ∀ s, s < S → s ≠ -3 → ((E 56 v 0) = s ↔ (D 56 v 0) = s) := by
      intro v v0 v1 s sS s3
      by_cases gv : (D 56 v 0) = -3
      · rcases f3 v v0 v1 gv with p | ⟨p, _⟩ <;> omega
      · rw [f2 v v0 v1 gv]
    refine ⟨_, fun s => if s = S then c else q s, S + 1, rfl, fun b i j b1 b2 b3 b4 => ?_, fun v d v0 v1 d0 d1 z1 z2 z3 => ?_, fun v v0 v1 => ?_, fun v d v0 v1 d0 d1 z1 z2 => ?_, fun v v0 v1 z F f hf => ?_, fun s s0 s1 => ?_, fun v v0 v1 => ?_, fun s s0 s1 => ?_, ?_, by omega, by omega⟩
    · rw [qw_ap, if_neg (by omega), qw_a b3, f1 b i j b1 b2]
      exact h1 b i j b1 b2 b3 b4
    · (try dsimp only at z3 ⊢)
      rw [eo] at z3 ⊢
      rw [eo]
      exact f5 v d v0 v1 d0 d1 z1 z2 z3
    · rw [eo]
      by_cases gv : (D 56 v 0) = -3
      · rcases f3 v v0 v1 gv with p | ⟨p, _⟩
        · exact Or.inl p
        · exact Or.inr (by omega)
      · rw [f2 v v0 v1 gv]
        rcases h3 v v0 v1 with p | p
        · exact absurd p gv
        · exact Or.inr (by omega)
    · (try dsimp only)
      rw [eo]
      exact (old v v0 v1 (-1) (by omega) (by decide)).mpr (h4 v d v0 v1 d0 d1 z1 z2)
    · rw [eo] at z
      exact h5 v v0 v1 ((old v v0 v1 (-1) (by omega) (by decide)).mp z) F f hf
    · (try dsimp only)
      by_cases e : s = S
      · rw [if_pos e]
        refine ⟨c0, by omega, by rw [eo, e]; exact f4, fun v v0 v1 z F f hf => ?_, fun v v0 v1 => ?_⟩
        · rw [eo, e] at z
          by_cases gv : (D 56 v 0) = -3
          · rcases f3 v v0 v1 gv with p | ⟨_, p⟩
            · omega
            · exact p F f hf
          · rw [f2 v v0 v1 gv] at z
            have := h3 v v0 v1
            omega
        · rw [eo]
          have gv := h7 v v0 v1
          rw [f2 v v0 (by omega) gv]
          have := h3 v v0 (by omega)
          omega
      · rw [if_neg e]
        obtain ⟨a, b, p1, p2, p3⟩ := h6 s s0 (by omega)
        (try dsimp only at p1 p2 p3)
        refine ⟨a, by omega, ?_, fun v v0 v1 z => ?_, fun v v0 v1 => ?_⟩
        · rw [eo]
          exact (old _ a (by omega) s (by omega) (by omega)).mpr p1
        · rw [eo] at z
          exact p2 v v0 v1 ((old v v0 v1 s (by omega) (by omega)).mp z)
        · rw [eo]
          have gv := (p3 v v0 v1).1
          rw [f2 v v0 (by omega) gv]
          exact p3 v v0 v1
    · rw [eo]
      by_cases gv : (D 56 v 0) = -3
      · by_cases ev : v = c
        · rw [ev, f4]
          omega
        · exact absurd gv (h7 v v0 (by omega))
      · rw [f2 v v0 (by omega) gv]
        exact gv
    · have ea : qw (qw E 60 S 0 n) 51 3 0 (S + 1) 60 s 0 = if s = S then n else (E 60 s 0) := by
        simp only [qw_ap, false_and, true_and, and_true, and_false, and_self, if_false, if_true, reduceIte, Nat.reduceEqDiff, Int.reduceEq]
      rw [ea]
      by_cases e : s = S
      · rw [if_pos e, e]
        refine f6.trans ?_
        refine sI_c (fun v v0 v1 => b01_c ?_)
        rw [eo]
        refine ⟨fun z => z.2, fun z => ⟨?_, z⟩⟩
        apply Classical.byContradiction
        intro gv
        rw [f2 v v0 v1 gv] at z
        have := h3 v v0 v1
        omega
      · rw [if_neg e, f1 _ _ _ (by decide) (by decide), h8 s s0 (by omega)]
        refine sI_c (fun v v0 v1 => b01_c ?_)
        rw [eo]
        exact (old v v0 v1 s (by omega) (by omega)).symm
    · exact qw_s
  · rw [if_neg g]
    refine qW_some ⟨D, q, S, rfl, h1, h2, h3, h4, h5, fun s s0 s1 => ?_, fun v v0 v1 => ?_, h8, h9, h10, h11⟩
    · have := h6 s s0 s1
      exact ⟨this.1, by omega, this.2.2⟩
    · by_cases e : v = c
      · rw [e]
        exact g
      · exact h7 v v0 (by omega)
/-- the class's spaces -/
def FSP (A D0 D : qm) (q : Int → Int) : Prop := FRM D0 D ∧ CMP A (fun v => (D 56 v 0)) (-1) ∧ (∀ v, 0 ≤ v → v < 576 → -1 ≤ (D 56 v 0) ∧ (D 56 v 0) < (D 51 3 0)) ∧ (∀ v, 0 ≤ v → v < 576 → (D 56 v 0) = -1 → ∀ F f, CMP A F f → F v = f) ∧ FIR A (fun v => (D 56 v 0)) q 576 (D 51 3 0) ∧ (∀ s, 0 ≤ s → s < (D 51 3 0) → (D 60 s 0) = sI (fun v => b01 ((D 56 v 0) = s)) 576) ∧ 0 ≤ (D 51 3 0) ∧ (D 51 3 0) ≤ 100
theorem fillSpaces_r (h_lines : R_lines M K) (h_ends : R_ends M K) (hA : WAL M A (M 7 0 0)) (hw : ∀ i j, D0 52 i j = A 52 i j) : qW (qf_X2_fillSpaces 20000 D0) (fun r => ∃ q, FSP A D0 r.2 q) := by
  unfold qf_X2_fillSpaces
  refine qW_bnd ?_
  have e3 : ∀ v, 0 ≤ v → v < 576 → qfl1 D0 56 0 576 (-3) 56 v 0 = -3 := fun v v0 v1 => by
    rw [qfl1_ap, if_pos ⟨rfl, v0, v1, rfl⟩]
  refine qW_call (edges_r (A := A) (D0 := D0) hw ⟨fun b i j b1 _ => ?_, fun v d v0 v1 _ _ _ _ z => absurd (e3 v v0 v1) z, fun v v0 v1 => Or.inl (e3 v v0 v1)⟩) ?_
  · rw [qfl1_ap, if_neg (fun z => b1 z.1)]
  rintro _ ⟨E, rfl, ⟨h1, h2, h3⟩, h4⟩
  (try dsimp only)
  refine qW_bnd ?_
  have eo : ∀ v, qw E 51 3 0 0 56 v 0 = (E 56 v 0) := fun v => qw_a (by decide)
  refine qW_call (Q := fun o => ∃ G q S, o = .inr ((), G) ∧ FMI A D0 G q 576 S) ?_ ?_
  · unfold qf_X2_fillSpaces_L72
    refine qW_for 576 (fun c t => ∃ G q S, t = (c, G) ∧ FMI A D0 G q c S) ?_ ?_ ?_ (by omega) (by omega)
    · rintro c _ c0 c1 ⟨G, q, S, rfl, hG⟩
      refine qW_mono (fm_s h_lines h_ends hA hw hG c0 c1) ?_
      rintro _ ⟨G', q', T, rfl, hG'⟩
      exact ⟨G', q', T, rfl, hG'⟩
    · rintro _ ⟨G, q, S, rfl, hG⟩
      unfold qf_X2_fillSpaces_L72_b
      (try dsimp only)
      rw [if_pos (by decide)]
      exact qW_some ⟨G, q, S, rfl, hG⟩
    · refine ⟨_, fun _ => 0, 0, rfl, fun b i j b1 b2 _ b4 => ?_, fun v d v0 v1 d0 d1 z1 z2 z3 => ?_, fun v v0 v1 => ?_, fun v d v0 v1 d0 d1 z1 z2 => ?_, fun v v0 v1 z F f hf => ?_, fun s s0 s1 => by omega, fun v v0 v1 => by omega, fun s s0 s1 => by omega, qw_s, by decide, by decide⟩
      · rw [qw_ap, if_neg (by omega)]
        exact h1 b i j b1 b2
      · (try dsimp only at z3 ⊢)
        rw [eo] at z3 ⊢
        rw [eo]
        exact h2 v d v0 v1 d0 d1 z1 z2 z3
      · rw [eo]
        rcases h3 v v0 v1 with p | ⟨p, _⟩
        · exact Or.inl p
        · exact Or.inr (by omega)
      · (try dsimp only)
        rw [eo]
        exact h4 v d v0 v1 d0 d1 z1 (by split <;> omega) z2
      · rw [eo] at z
        rcases h3 v v0 v1 with p | ⟨_, p⟩
        · omega
        · exact p F f hf
  · rintro _ ⟨G, q, S, rfl, ⟨h1, h2, h3, h4, h5, h6, h7, h8, h9, h10, h11⟩⟩
    (try dsimp only)
    have h7' : ∀ v, 0 ≤ v → v < 576 → (G 56 v 0) ≠ -3 := h7
    refine qW_some ⟨q, h1, fun v d v0 v1 d0 d1 z1 => ⟨fun z2 => h4 v d v0 v1 d0 d1 z2 z1, fun z2 => h2 v d v0 v1 d0 d1 z1 z2 (h7' v v0 v1)⟩, fun v v0 v1 => ?_, h5, ?_, ?_, ?_, ?_⟩
    · (try dsimp only)
      rw [h9]
      rcases h3 v v0 v1 with p | p
      · exact absurd p (h7' v v0 v1)
      · exact p
    · (try dsimp only)
      rw [h9]
      exact h6
    · (try dsimp only)
      rw [h9]
      exact h8
    · (try dsimp only)
      rw [h9]
      exact h10
    · (try dsimp only)
      rw [h9]
      exact h11
end FM
