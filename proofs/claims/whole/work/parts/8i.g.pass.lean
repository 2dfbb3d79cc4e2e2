/-! ===== the call pass ===== -/
section PTg
variable {M K N W : qm} {t u E x1 : Int}
theorem qw_same {a : Nat} {i l : Int} : qw M a i l (M a i l) = M := by
  funext b k j
  rw [qw_ap]
  by_cases g : b = a ∧ k = i ∧ j = l
  · rw [if_pos g, g.1, g.2.1, g.2.2]
  · rw [if_neg g]
theorem se_answer (h : SE M K t u E) (a b : Int) : SE (qw M 2332 0 0 a) (qw K 2156 0 0 b) t u E := by
  obtain ⟨N, hN⟩ : ∃ N, qw M 2332 0 0 a = N := ⟨_, rfl⟩
  obtain ⟨W, hW⟩ : ∃ W, qw K 2156 0 0 b = W := ⟨_, rfl⟩
  have o : ∀ (e : Nat) (x y : Int), e ≠ 2332 → N e x y = M e x y := fun e x y g => by
    rw [← hN]
    exact qw_a g
  have p : ∀ (e : Nat) (x y : Int), (¬ (e = 2156 ∧ x = 0)) → W e x y = K e x y := fun e x y g => by
    rw [← hW, qw_ap, if_neg (fun z => g ⟨z.1, z.2.1⟩)]
  rw [hN, hW]
  have h' := h
  obtain ⟨hx, ⟨e1, e2, e3, e4, e5⟩, hm, hb, hs, hq, hg⟩ := h
  obtain ⟨b1, b2, b3, b4⟩ := mx_bq hm
  exact se_new h' (fun e x y z => o e x y (by omega)) (fun e x y z => p e x y (by omega)) (R_mvalue_x (M := M) (K := K) (fun i j => o 1173 i j (by omega)) (fun i j => p 2209 i j (by omega)) b3) (R_points_x (M := M) (K := K) (fun i j => o 1135 i j (by omega)) (fun i j => p 2247 i j (by omega)) b2) (bus_o hb (fun e x y z => o e x y (by omega)) (fun e x y z1 z2 => p e x y (by omega))) (smk_o hs (fun e x y z => o e x y (by omega)) (fun e x y z => p e x y (by omega))) ⟨(R_persons_x (M := M) (K := K) (o 756 7 0 (by omega)) (fun i j => o 761 i j (by omega)) (fun i j => p 2304 i j (by omega)) (fun i j => p 2305 i j (by omega)) (fun i j => p 2306 i j (by omega)) (fun i j => p 2307 i j (by omega)) (fun i j => p 2308 i j (by omega)) (fun i j => p 2309 i j (by omega)) (fun i j => p 2310 i j (by omega)) (fun i j => p 2311 i j (by omega)) hq.1), (R_personb_x (M := M) (K := K) (o 6 12 0 (by omega)) (fun i j => o 56 i j (by omega)) (o 756 7 0 (by omega)) (p 2156 9 0 (by omega)) (fun i j => p 2306 i j (by omega)) (fun i j => p 2307 i j (by omega)) (fun i j => p 2308 i j (by omega)) (fun i j => p 2309 i j (by omega)) (fun i j => p 2311 i j (by omega)) hq.2.1), (R_personz_x (M := M) (K := K) (o 756 7 0 (by omega)) (fun i j => o 761 i j (by omega)) (fun i j => p 2310 i j (by omega)) (fun i j => p 2311 i j (by omega)) hq.2.2.2)⟩
theorem op_pass (h_built : R_built M K) (h_time : R_time M K) (E0 : 0 ≤ E) (E1 : E + 1200 < 2147483647) (hS : M 6 11 0 ≠ 0 → SE M K (M 6 12 0) (30 * M 6 12 0) E) : oK2 cI (qf_L_pass 20000 x1 M) (qf_X18_pass 20000 x1 K) (fun M' K' => ((∀ b i j, b ≠ 2332 → M' b i j = M b i j) ∧ ∀ b i j, ¬ (b = 2156 ∧ i = 0) → K' b i j = K b i j) ∨ (M 6 11 0 ≠ 0 ∧ 1 ≤ x1 ∧ x1 ≤ 60 ∧ M 6 12 0 + x1 ≤ 6000 ∧ SE M' K' (M 6 12 0 + x1) (30 * (M 6 12 0 + x1)) (E + 20 * x1))) := by
  have s_built := h_built
  unfold R_built at s_built
  have s_time := h_time
  unfold R_time at s_time
  have bb : ∀ {α β : Type} (a : α) (f : α → Option β), (some a).bind f = f a := fun _ _ => rfl
  have exc : ∀ (X : String) (e : Int), qf_X11_pass 20000 x1 M = some (.inr X, M) → qf_X18_pass 20000 x1 K = some (0, qw K 2156 0 0 e) → ((X = "java/lang/IllegalArgumentException" ∧ e = 1) ∨ (X = "java/lang/IllegalStateException" ∧ e = 2)) → oK2 cI (qf_L_pass 20000 x1 M) (qf_X18_pass 20000 x1 K) (fun M' K' => ((∀ b i j, b ≠ 2332 → M' b i j = M b i j) ∧ ∀ b i j, ¬ (b = 2156 ∧ i = 0) → K' b i j = K b i j) ∨ (M 6 11 0 ≠ 0 ∧ 1 ≤ x1 ∧ x1 ≤ 60 ∧ M 6 12 0 + x1 ≤ 6000 ∧ SE M' K' (M 6 12 0 + x1) (30 * (M 6 12 0 + x1)) (E + 20 * x1))) := fun X e e1 e2 hX => by
    have z : qf_L_pass 20000 x1 M = some (e, M) := by
      unfold qf_L_pass
      rw [e1, bb]
      rcases hX with ⟨rfl, rfl⟩ | ⟨rfl, rfl⟩
      · (try dsimp only)
        rw [if_pos rfl]
      · (try dsimp only)
        rw [if_neg (by decide), if_pos rfl]
    refine qW_at z (qW_at e2 ⟨(show qw K 2156 0 0 e 2156 0 0 = e from qw_s), fun y => ?_, Or.inl ⟨fun _ _ _ _ => rfl, fun b i j g => ?_⟩⟩)
    · (try dsimp only at y)
      omega
    · (try dsimp only)
      rw [qw_ap, if_neg (fun z => g ⟨z.1, z.2.1⟩)]
  have wi : ∀ v, qf_X11_isWithin 20000 x1 1 60 M = some v → qf_X11_pass 20000 x1 M = (qf_X11_needArgument 20000 v M).bind (fun r => (match r with | .inl _ => if (M 6 11 0) = 0 then qf_X11_pass_J33 20000 x1 M else if 6000 < (w32 ((M 6 12 0) + x1)) then qf_X11_pass_J33 20000 x1 M else qf_X11_pass_J34 20000 x1 1 M | .inr X => some (.inr X, M))) := fun v ev => by
    unfold qf_X11_pass
    rw [ev, bb]
    rfl
  have no : qf_X11_pass_J33 20000 x1 M = some (.inr "java/lang/IllegalStateException", M) := rfl
  have k1 : qf_X18_pass_J16 20000 x1 K = some (0, qw K 2156 0 0 1) := by
    unfold qf_X18_pass_J16 qf_X18_pass_J17 qf_X18_pass_J40 qf_X18_pass_J41
    have e0 : ∀ t2, qf_X18_goes 20000 0 t2 K = some (0, qw K 2156 0 0 1) := fun t2 => rfl
    rw [e0, e0, bb]
    (try dsimp only)
    rw [if_pos rfl]
    by_cases g : K 2156 1 0 = 0
    · rw [if_pos g]
    · rw [if_neg g]
      by_cases g2 : 6000 < w32 (K 2156 2 0 + x1)
      · rw [if_pos g2]
      · rw [if_neg g2]
  by_cases g1 : x1 < 1
  · have ev : qf_X11_isWithin 20000 x1 1 60 M = some 0 := by
      unfold qf_X11_isWithin
      rw [if_pos g1]
    refine exc _ 1 (by rw [wi 0 ev]; rfl) ?_ (Or.inl ⟨rfl, rfl⟩)
    unfold qf_X18_pass
    rw [if_pos g1]
    exact k1
  by_cases g2 : 60 < x1
  · have ev : qf_X11_isWithin 20000 x1 1 60 M = some 0 := by
      unfold qf_X11_isWithin
      rw [if_neg g1, if_pos g2]
    refine exc _ 1 (by rw [wi 0 ev]; rfl) ?_ (Or.inl ⟨rfl, rfl⟩)
    unfold qf_X18_pass
    rw [if_neg g1, if_pos g2]
    exact k1
  have ev : qf_X11_isWithin 20000 x1 1 60 M = some 1 := by
    unfold qf_X11_isWithin
    rw [if_neg g1, if_neg g2]
  have eC : qf_X11_pass 20000 x1 M = if (M 6 11 0) = 0 then qf_X11_pass_J33 20000 x1 M else if 6000 < (w32 ((M 6 12 0) + x1)) then qf_X11_pass_J33 20000 x1 M else qf_X11_pass_J34 20000 x1 1 M := by
    rw [wi 1 ev]
    unfold qf_X11_needArgument
    rw [if_neg (by decide), bb]
  have k2 : qf_X18_pass_J40 20000 x1 1 K = some (0, qw K 2156 0 0 2) := rfl
  have eK : qf_X18_pass 20000 x1 K = qf_X18_pass_J17 20000 x1 1 K := by
    unfold qf_X18_pass
    rw [if_neg g1, if_neg g2]
  have w1 : w32 (M 6 12 0 + x1) = M 6 12 0 + x1 := w32_id (by omega) (by omega)
  by_cases g3 : M 6 11 0 = 0
  · refine exc _ 2 (by rw [eC, if_pos g3]; exact no) ?_ (Or.inr ⟨rfl, rfl⟩)
    rw [eK]
    unfold qf_X18_pass_J17
    rw [if_pos (show K 2156 1 0 = 0 by omega)]
    exact k2
  by_cases g4 : 6000 < M 6 12 0 + x1
  · refine exc _ 2 (by rw [eC, if_neg g3, w1, if_pos g4]; exact no) ?_ (Or.inr ⟨rfl, rfl⟩)
    rw [eK]
    unfold qf_X18_pass_J17
    rw [if_neg (show ¬ K 2156 1 0 = 0 by omega), s_time.2.2, w1, if_pos g4]
    exact k2
  have h0 := se_answer (hS g3) (M 2332 0 0) 0
  obtain ⟨Z, hZ⟩ : ∃ Z, qw K 2156 0 0 0 = Z := ⟨_, rfl⟩
  rw [show qw M 2332 0 0 (M 2332 0 0) = M from qw_same, hZ] at h0
  obtain ⟨M', K', c1, c2, c3, c4, c5⟩ := seconds_both (v := x1) x1.toNat 0 20000 20000 M Z _ _ _ (by omega) h0 (by omega) (by omega) E0 (by omega) (by decide) (by omega) (by omega) (by omega)
  have ex : ((x1.toNat : Nat) : Int) = x1 := Int.toNat_of_nonneg (by omega)
  rw [ex] at c3
  have tm := c3.2.1
  have tC : qf_L_pass 20000 x1 M = some (0, qw M' 2332 0 0 (M 6 12 0 + x1)) := by
    unfold qf_L_pass
    rw [eC, if_neg g3, w1, if_neg g4]
    unfold qf_X11_pass_J34 qf_X11_needState
    rw [if_neg (by decide), bb]
    (try dsimp only)
    rw [c1, bb]
    (try dsimp only)
    rw [tm.1, bb]
    rfl
  have tK : qf_X18_pass 20000 x1 K = some (M 6 12 0 + x1, K') := by
    rw [eK]
    unfold qf_X18_pass_J17
    rw [if_neg (show ¬ K 2156 1 0 = 0 by omega), s_time.2.2, w1, if_neg g4]
    unfold qf_X18_pass_J41
    rw [show qf_X18_goes 20000 1 1 K = some (1, Z) by rw [← hZ]; rfl, bb]
    (try dsimp only)
    rw [if_neg (by decide), c2, bb]
    (try dsimp only)
    rw [tm.2.1]
  have c00 : K' 2156 0 0 = 0 := (c5 2156 0 0 rfl).trans (by rw [← hZ]; exact qw_s)
  refine qW_at tC (qW_at tK ⟨c00, fun _ => (show qw M' 2332 0 0 (M 6 12 0 + x1) 2332 0 0 = M 6 12 0 + x1 from qw_s), Or.inr ⟨g3, by omega, by omega, by omega, ?_⟩⟩)
  have h9 := se_answer c3 (M 6 12 0 + x1) (K' 2156 0 0)
  rw [show qw K' 2156 0 0 (K' 2156 0 0) = K' from qw_same] at h9
  rw [show 30 * (M 6 12 0 + x1) = 30 * M 6 12 0 + 30 * x1 by omega]
  exact h9
end PTg
