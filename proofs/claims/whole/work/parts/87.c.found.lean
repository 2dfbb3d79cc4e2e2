section FQ
variable {M K N W : qm} {v : Int}
def FNM (M N : qm) : Prop := ∀ b i j, ((b = 7 ∧ i = 0) ∨ b = 8 ∨ (b = 51 ∧ (i = 1 ∨ i = 2 ∨ i = 3 ∨ i = 12 ∨ i = 14)) ∨ b = 52 ∨ b = 55 ∨ b = 56 ∨ b = 60 ∨ b = 61 ∨ b = 62 ∨ b = 283) → N b i j = M b i j
def FNK (K W : qm) : Prop := ∀ b i, (b = 2160 ∨ (2166 ≤ b ∧ b ≤ 2168) ∨ (2174 ≤ b ∧ b ≤ 2181) ∨ (b = 2157 ∧ (i = 12 ∨ i = 13 ∨ i = 27 ∨ i = 30 ∨ i = 35))) → W b i 0 = K b i 0
theorem FND_o (h : FND M K) (hM : FNM M N) (hK : FNK K W) : FND N W := by
  have e1 : N 51 1 0 = M 51 1 0 := hM 51 1 0 (by omega)
  have e2 : N 51 2 0 = M 51 2 0 := hM 51 2 0 (by omega)
  have e3 : N 7 0 0 = M 7 0 0 := hM 7 0 0 (by omega)
  rcases h with ⟨h1, h2⟩ | ⟨h1, M0, K0, A, D0, D, E, F, G, H, C, q, m, p, R, stt, cnt, w1, w2, w3, w4, w5, w6⟩
  · exact Or.inl ⟨by rw [e1]; exact h1, by rw [e2]; exact h2⟩
  · refine Or.inr ⟨by rw [e1]; exact h1, M0, K0, A, D0, D, E, F, G, H, C, q, m, p, R, stt, cnt, w1, fun b i j hb => (hM b i j (by omega)).trans (w2 b i j hb), ⟨fun b i hb => (hK b i (by omega)).trans (w3.1 b i hb), fun l l0 l1 => (hK 2160 l (Or.inl rfl)).trans (w3.2 l l0 l1)⟩, fun x y x0 x1 y0 y1 => (hK 2168 _ (by omega)).trans (w4 x y x0 x1 y0 y1), by rw [e3]; exact w5, fun z => ?_⟩
    rw [e2] at z
    have q := w6 z
    exact ⟨by rw [e3]; exact q.1, fun l j l0 l1 => (hM 8 l j (by omega)).trans (q.2 l j l0 l1)⟩
theorem op_find (h_built : R_built M K) (h_lines : R_lines M K) (h_ends : R_ends M K) (h_find0 : R_find0 M K) (h_spaces : R_spaces M K) (h_names : R_names M K) (h_alone : R_alone M K) (h : FND M K) : oK2 cI (qf_L_find 20000 M) (qf_X18_find 20000 K) (fun M' K' => R_find0 M' K' ∧ R_spaces M' K' ∧ R_names M' K' ∧ FND M' K' ∧ ((M 6 11 0) = 0 ∨ ((∀ b i j, b ≠ 2332 → M' b i j = M b i j) ∧ ∀ b i j, b ≠ 2156 → K' b i j = K b i j))) := by
  have s_built := h_built
  unfold R_built at s_built
  have s_find := h_find0
  unfold R_find0 at s_find
  have fK : ∀ v, FNK K (qw K 2156 0 0 v) := fun v b i hb => qw_a (by omega)
  have fM : FNM M M := fun _ _ _ _ => rfl
  have rr : ∀ v, R_find0 M (qw K 2156 0 0 v) ∧ R_spaces M (qw K 2156 0 0 v) ∧ R_names M (qw K 2156 0 0 v) := fun v => by
    refine ⟨?_, ?_, ?_⟩
    · unfold R_find0
      rw [qw_a (by decide), qw_a (by decide), qw_a (by decide)]
      exact h_find0
    · unfold R_spaces
      rw [qw_a (by decide)]
      exact h_spaces
    · intro s s0 s1
      rw [qw_a (by decide)]
      exact h_names s s0 s1
  unfold oK2 qf_L_find
  by_cases hx : (M 6 11 0) = 0 ∧ (M 51 1 0) < 60
  · obtain ⟨hb, hf⟩ := hx
    have lK : R_lines M (qw K 2156 0 0 0) := by
      unfold R_lines
      rw [qw_a (by decide)]
      exact h_lines
    have eK : R_ends M (qw K 2156 0 0 0) := by
      intro l l0 l1
      rw [qw_a (by decide), qw_a (by decide), qw_a (by decide), qw_a (by decide)]
      exact h_ends l l0 l1
    have aK : R_alone M (qw K 2156 0 0 0) := by
      intro k l k0 k1 l0 l1 ne
      have w := h_alone k l k0 k1 l0 l1 ne
      unfold crsN at w ⊢
      rw [qw_a (by decide), qw_a (by decide), qw_a (by decide), qw_a (by decide), qw_a (by decide), qw_a (by decide), qw_a (by decide), qw_a (by decide)]
      exact w
    have run := run_both lK eK (rr 0).1 (rr 0).2.1 (rr 0).2.2 aK hf (FND_o h fM (fK 0))
    obtain ⟨⟨v, N⟩, e1, ⟨v2, W⟩, e2, q1, q2, q3, q4, q5, q6, q7, q8⟩ := run
    (try dsimp only at q1 q2 q3 q4 q5 q6 q7 q8)
    have eC : qf_X11_find 20000 M = some (.inl v, N) := by
      unfold qf_X11_find qf_X11_find_J24 qf_X11_needState
      rw [if_pos hb, if_neg (by omega), if_neg (by decide)]
      refine qW_e (qW_bind (qW_some ?_))
      (try dsimp only)
      refine qW_eq e1 (qW_some rfl)
    have eR : qf_X18_find 20000 K = some (v2, W) := by
      unfold qf_X18_find qf_X18_find_J25 qf_X18_stays
      rw [if_pos (by omega), if_neg (by omega)]
      refine qW_e ?_
      (try dsimp only)
      refine qW_bind (qW_some ?_)
      (try dsimp only)
      rw [if_neg (by decide)]
      refine qW_eq e2 (qW_some rfl)
    refine qW_eq eC ?_
    (try dsimp only)
    refine qW_bnd (qW_some ⟨_, eR, ?_⟩)
    (try dsimp only)
    refine ⟨?_, fun _ => ?_, ?_, ?_, ?_, FND_o q2 (fun b i j hb => qw_a (by omega)) (fun _ _ _ => rfl), Or.inl hb⟩
    · exact (q8 2156 0 0 (by omega) (by omega)).trans qw_s
    · unfold cI
      rw [qw_s]
      exact q1
    · unfold R_find0
      rw [qw_a (by decide), qw_a (by decide)]
      exact q5
    · unfold R_spaces
      rw [qw_a (by decide), qw_a (by decide)]
      exact q3
    · intro s s0 s1
      rw [qw_a (by decide)] at s1
      rw [qw_a (by decide)]
      exact q4 s s0 s1
  · have eC : qf_X11_find 20000 M = some (.inr "java/lang/IllegalStateException", M) := by
      unfold qf_X11_find qf_X11_find_J23 qf_X11_find_J24 qf_X11_needState
      by_cases g : (M 6 11 0) = 0
      · rw [if_pos g, if_pos (by omega), if_pos rfl]
        rfl
      · rw [if_neg g, if_pos rfl]
        rfl
    have eR : qf_X18_find 20000 K = some (0, qw K 2156 0 0 1) := by
      unfold qf_X18_find qf_X18_find_J24 qf_X18_find_J25 qf_X18_stays
      by_cases g : (M 6 11 0) = 0
      · rw [if_pos (by omega), if_pos (by omega), if_pos rfl]
        rfl
      · rw [if_neg (by omega), if_pos rfl]
        rfl
    refine qW_eq eC ?_
    (try dsimp only)
    rw [if_pos rfl]
    refine qW_some ⟨_, eR, ?_⟩
    (try dsimp only)
    exact ⟨qw_s, fun z => absurd z (by decide), (rr 1).1, (rr 1).2.1, (rr 1).2.2, FND_o h fM (fK 1), Or.inr ⟨fun _ _ _ _ => rfl, fun b i j hb => qw_a hb⟩⟩
end FQ
