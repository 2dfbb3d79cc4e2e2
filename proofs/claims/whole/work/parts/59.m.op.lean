/-! ===== the calls reset, attend, zone, event ===== -/
/-- states alike but for the row of answers and the word of what was thrown -/
def lkA (M K S T : qm) : Prop := (∀ b i j, b ≠ 2332 → S b i j = M b i j) ∧ (∀ b (i j : Int), b ≠ 2156 ∨ i ≠ 0 → T b i j = K b i j)
theorem BQ_A {M K S T : qm} (h : lkA M K S T) (hb : BQ M K) : BQ S T := BQ_x (fun i j => h.1 _ i j (by decide)) (fun i j => h.1 _ i j (by decide)) (fun i j => h.1 _ i j (by decide)) (fun b hb i j => h.2 b i j (Or.inl (by rcases hb with hb | rfl | rfl; rintro rfl; cases hb; decide; decide))) hb
theorem MxI_A {M K S T : qm} {E : Int} (hA : lkA M K S T) (h : MxI M K E) : MxI S T E := by
  have o := hA.1
  have p : ∀ b i j, b ≠ 2156 → T b i j = K b i j := fun b i j hb => hA.2 b i j (Or.inl hb)
  obtain ⟨h1, h2, h3, h4, h5, h6, h7, h8, h9, h10, h11, h12, h13, h14⟩ := h
  refine ⟨?_, ?_, ?_, (R_mfault_x (M := M) (K := K) (fun i j => o 1174 i j (by decide)) (fun i j => p 2210 i j (by decide)) h4), (R_muntil_x (M := M) (K := K) (fun i j => o 1175 i j (by decide)) (fun i j => p 2211 i j (by decide)) h5), (R_mnow_x (M := M) (K := K) (o 6 12 0 (by decide)) (p 2208 1 0 (by decide)) h6), (R_mvalue_x (M := M) (K := K) (fun i j => o 1173 i j (by decide)) (fun i j => p 2209 i j (by decide)) h7), (R_mzones_x (M := M) (K := K) (fun i j => o 1176 i j (by decide)) (fun i j => p 2215 i j (by decide)) (fun i j => p 2216 i j (by decide)) (fun i j => p 2217 i j (by decide)) h8), (R_mzonep_x (M := M) (K := K) (o 1172 2 0 (by decide)) (fun i j => o 1176 i j (by decide)) (fun i j => p 2215 i j (by decide)) (fun i j => p 2218 i j (by decide)) h9), (R_mrows_x (M := M) (K := K) (o 1172 9 0 (by decide)) (p 2208 21 0 (by decide)) h10), (R_mrow_x (M := M) (K := K) (o 1172 9 0 (by decide)) (fun i j => o 1218 i j (by decide)) (fun i j => p 2215 i j (by decide)) (fun i j => p 2219 i j (by decide)) (fun i j => p 2224 i j (by decide)) (fun i j => p 2225 i j (by decide)) (fun i j => p 2226 i j (by decide)) h11), ?_, ?_, ?_⟩
  · unfold znC
    simp only [o 1176 _ _ (by decide)]
    exact h1
  · unfold rwC
    simp only [o 1176 _ _ (by decide), o 1172 _ _ (by decide), o 1218 _ _ (by decide)]
    exact h2
  · unfold rkC
    simp only [o 1269 _ _ (by decide), o 1197 _ _ (by decide)]
    exact h3
  · unfold mactS
    simp only [o 1197 _ _ (by decide), p 2219 _ _ (by decide), p 2220 _ _ (by decide), p 2221 _ _ (by decide), p 2222 _ _ (by decide), p 2223 _ _ (by decide)]
    exact h12
  · obtain ⟨g1, g2, g3, g4, g5⟩ := h13
    refine ⟨fun a a0 a1 => msA_x (M := M) (K := K) (o 6 12 0 (by decide)) (fun b hb _ => o _ _ _ (by rintro rfl; cases hb)) (fun b hb _ => p _ _ _ (by rintro rfl; cases hb)) (g1 a a0 a1), ?_, (R_mevent_x (M := M) (K := K) (o 1172 17 0 (by decide)) (fun i j => o 1276 i j (by decide)) (p 2208 30 0 (by decide)) (fun i j => p 2231 i j (by decide)) (fun i j => p 2232 i j (by decide)) (fun i j => p 2233 i j (by decide)) g3), BQ_A hA g4, (R_points_x (M := M) (K := K) (fun i j => o 1135 i j (by decide)) (fun i j => p 2247 i j (by decide)) g5)⟩
    unfold evn
    rw [o 1172 17 0 (by decide), p 2208 30 0 (by decide)]
    exact g2
  · intro i i0 i1
    rw [o 1197 _ _ (by decide), o 1270 _ _ (by decide)]
    exact h14 i i0 i1
theorem lkA_1 {M K : qm} {v w : Int} : lkA M K (qw M 2332 0 0 v) (qw K 2156 0 0 w) := ⟨fun b i j hb => qw_a hb, fun b i j hb => by rw [qw_ap, if_neg (by omega)]⟩
theorem lkA_M {M K : qm} {v : Int} : lkA M K (qw M 2332 0 0 v) K := ⟨fun b i j hb => qw_a hb, fun _ _ _ _ => rfl⟩
theorem lkA_K {M K : qm} {w : Int} : lkA M K M (qw K 2156 0 0 w) := ⟨fun _ _ _ _ => rfl, fun b i j hb => by rw [qw_ap, if_neg (by omega)]⟩
theorem op_reset {M K : qm} {E : Int} (h_built : R_built M K) (h_time : R_time M K) (h : MxI M K E) (hE0 : 0 ≤ E) (hE : E + 20 < 2147483647) : oK2 cI (qf_L_reset 20000 M) (qf_X18_reset 20000 K) (fun M' K' => MxI M' K' (E + 20)) := by
  have s_built := h_built
  unfold R_built at s_built
  have s_time := h_time
  unfold R_time at s_time
  have em : ∀ {M K : qm} {E : Int}, MxI M K E → MxI M K (E + 20) := by
    rintro M K E ⟨h1, h2, h3, h4, h5, h6, h7, h8, h9, h10, h11, h12, h13, h14⟩
    exact ⟨h1, h2, h3, h4, h5, h6, h7, h8, h9, h10, h11, h12, ⟨h13.1, ⟨h13.2.1.1, by have := h13.2.1.2.1; omega, h13.2.1.2.2⟩, h13.2.2⟩, h14⟩
  unfold oK2 qf_L_reset qf_X11_reset
  refine qW_bind (qW_ns (fun b => ?_) (fun b => ?_))
  · refine qW_some ?_
    (try dsimp only)
    rw [if_pos rfl]
    refine qW_some ?_
    unfold qf_X18_reset
    refine qW_stays (by omega) (fun c => ?_) (fun c => by omega)
    (try dsimp only)
    rw [if_pos rfl]
    exact qW_some ⟨rfl, fun x => absurd x (by decide), em (MxI_A lkA_K h)⟩
  · (try dsimp only)
    unfold qf_X4_resetLatched
    have h1 := MxI_A (M := M) (K := K) (S := M) (T := qw K 2156 0 0 0) lkA_K h
    obtain ⟨⟨u, S⟩, eS, hZ, hS, hlk⟩ := look_r h1 rfl
    (try dsimp only at hZ hS hlk)
    obtain ⟨a, ha, _⟩ := rankedOne_r (K := qw K 2156 0 0 0) (p := 0)
    obtain ⟨x, ex, y, ey, hxy⟩ := reset_loop (a := a) hS.2.2.2.2.2.2.2.2.2.2.2.2.1 hE0 hE hZ hS.2.2.1 hS.2.2.2.2.2.2.2.2.2.2.2.2.2 ha
    rcases x with x | ⟨c, X⟩ <;> rcases y with y | ⟨d, Y⟩
    · exact hxy.elim
    · exact hxy.elim
    · exact hxy.elim
    · (try dsimp only at hxy)
      obtain ⟨g1, g2, g3, g4, g5⟩ := hxy
      rw [eS]
      refine qW_bind (qW_bind (qW_some ?_))
      rw [ex]
      refine qW_bind (qW_some ?_)
      refine qW_some (qW_some ?_)
      refine qW_bnd (qW_some ?_)
      unfold qf_X18_reset
      refine qW_stays (by omega) (fun c => by omega) (fun c => ?_)
      (try dsimp only)
      rw [if_neg (by decide), ha]
      refine qW_bind (qW_some ?_)
      rw [ey]
      refine qW_bind (qW_some ?_)
      refine qW_some ⟨g4 2156 0 0 rfl, fun _ => g1, ?_⟩
      exact MxI_A lkA_M (MxI_F hS hZ g3 g4 g2 g5)
