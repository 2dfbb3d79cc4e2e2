/-! ===== the law between two calls: the matrix after its text was read ===== -/
section LIi
variable {M K N W : qm} {E : Int}
theorem mx_mat (h : MxI M K E) (t : (MOC M N ∧ MOK K W) ∨ (M 6 11 0 ≠ 0 ∧ ∃ A Z, MOC M A ∧ MOK K Z ∧ MTF A Z N W)) : MxI N W E := by
  have o2 : ∀ (b : Nat) (x y : Int), (b = 6 ∨ b = 1135 ∨ b = 1140 ∨ b = 1149 ∨ b = 1158 ∨ b = 1173 ∨ b = 1174 ∨ b = 1175 ∨ (b = 1172 ∧ (x = 2 ∨ x = 17)) ∨ (1271 ≤ b ∧ b ≤ 1276)) → N b x y = M b x y := fun b x y g => by
    rcases t with ⟨t, _⟩ | ⟨_, A, Z, t1, _, t3, t4, _⟩
    · exact t b x y (by omega) (by omega) (by omega) (by omega) (by omega)
    · exact (t4 b x y (by omega) (by omega) (by omega) (by omega) (by omega) (by omega) (by omega)).trans (t1 b x y (by omega) (by omega) (by omega) (by omega) (by omega))
  have p2 : ∀ (b : Nat) (x y : Int), (b = 2209 ∨ b = 2210 ∨ b = 2211 ∨ (2231 ≤ b ∧ b ≤ 2233) ∨ b = 2247 ∨ (2255 ≤ b ∧ b ≤ 2266) ∨ (b = 2208 ∧ (x = 1 ∨ x = 30))) → W b x y = K b x y := fun b x y g => by
    rcases t with ⟨_, t⟩ | ⟨_, A, Z, _, t2, _, _, t5⟩
    · exact t b x y (by omega) (by omega) (by omega) (by omega) (by omega) (by omega) (by omega)
    · exact (t5 b x y (by unfold adB; omega) (by omega) (by omega) (by omega)).trans (t2 b x y (by omega) (by omega) (by omega) (by omega) (by omega) (by omega) (by omega))
  obtain ⟨h1, h2, h3, h4, h5, h6, h7, h8, h9, h10, h11, h12, ⟨g1, g2, g3, g4, g5⟩, h14⟩ := h
  have e6 : N 6 12 0 = M 6 12 0 := o2 _ _ _ (by omega)
  have s4 : R_mfault N W := R_mfault_x (M := M) (K := K) (fun i j => o2 1174 i j (by omega)) (fun i j => p2 2210 i j (by omega)) h4
  have s6 : R_mnow N W := R_mnow_x (M := M) (K := K) (o2 6 12 0 (by omega)) (p2 2208 1 0 (by omega)) h6
  have s7 : R_mvalue N W := R_mvalue_x (M := M) (K := K) (fun i j => o2 1173 i j (by omega)) (fun i j => p2 2209 i j (by omega)) h7
  have s5 : R_muntil N W := R_muntil_x (M := M) (K := K) (fun i j => o2 1175 i j (by omega)) (fun i j => p2 2211 i j (by omega)) h5
  have sE : evn N W E := by
    unfold evn
    rw [o2 1172 17 0 (by omega), p2 2208 30 0 (by omega)]
    exact g2
  have sV : R_mevent N W := R_mevent_x (M := M) (K := K) (o2 1172 17 0 (by omega)) (fun i j => o2 1276 i j (by omega)) (p2 2208 30 0 (by omega)) (fun i j => p2 2231 i j (by omega)) (fun i j => p2 2232 i j (by omega)) (fun i j => p2 2233 i j (by omega)) g3
  have sB : BQ N W := bq_o g4 (fun e x y z => o2 e x y (by omega)) (fun e x y z => p2 e x y (by omega))
  have sP : R_points N W := R_points_x (M := M) (K := K) (fun i j => o2 1135 i j (by omega)) (fun i j => p2 2247 i j (by omega)) g5
  rcases t with ⟨t1, t2⟩ | ⟨_, A, Z, t1, t2, t3, t4, t5⟩
  · have o : ∀ (b : Nat) (x y : Int), (1172 ≤ b ∧ b ≤ 1276) → N b x y = M b x y := fun b x y g => t1 b x y (by omega) (by omega) (by omega) (by omega) (by omega)
    have p : ∀ (b : Nat) (x y : Int), (((2215 ≤ b ∧ b ≤ 2223) ∧ b ≠ 2218 ∧ x < 20) ∨ (b = 2218 ∧ x < 240) ∨ (2224 ≤ b ∧ b ≤ 2226 ∧ x < 50) ∨ (2227 ≤ b ∧ b ≤ 2230) ∨ (b = 2208 ∧ x = 21)) → W b x y = K b x y := fun b x y g => t2 b x y (by omega) (by omega) (by omega) (by omega) (by omega) (by omega) (by omega)
    have oz : ∀ i j, N 1176 i j = M 1176 i j := fun i j => o 1176 i j (by omega)
    have oa : ∀ i j, N 1197 i j = M 1197 i j := fun i j => o 1197 i j (by omega)
    have or' : ∀ i j, N 1218 i j = M 1218 i j := fun i j => o 1218 i j (by omega)
    have ob : ∀ i j, N 1269 i j = M 1269 i j := fun i j => o 1269 i j (by omega)
    have os : ∀ i j, N 1270 i j = M 1270 i j := fun i j => o 1270 i j (by omega)
    have o9 : N 1172 9 0 = M 1172 9 0 := o 1172 9 0 (by omega)
    have o22 : N 1172 2 0 = M 1172 2 0 := o 1172 2 0 (by omega)
    refine ⟨?_, ?_, ?_, s4, s5, s6, s7, fun z z0 z1 => ?_, fun z k z0 z1 hz k0 k1 => ?_, ?_, fun r r0 r1 => ?_, fun a a0 a1 => ?_, ⟨fun a a0 a1 => ?_, sE, sV, sB, sP⟩, fun i i0 i1 => ?_⟩
    · unfold znC
      simp only [oz]
      exact h1
    · unfold rwC
      simp only [oz, o9, or']
      exact h2
    · unfold rkC
      simp only [ob, oa]
      exact h3
    · rw [oz, oz, p 2215 z 0 (by omega), p 2216 z 0 (by omega), p 2217 z 0 (by omega)]
      exact h8 z z0 z1
    · rw [p 2215 z 0 (by omega)] at hz
      rw [oz] at k1
      have w := h8 z z0 z1
      rw [oz, o22, p 2218 (12 * z + k) 0 (by omega)]
      exact h9 z k z0 z1 hz k0 k1
    · unfold R_mrows
      rw [o9, p 2208 21 0 (by omega)]
      exact h10
    · rw [o9] at r1
      have w := h11 r r0 r1
      have r5 : r < 50 := by
        have := h10.2.1
        omega
      rw [or', or', or', p 2224 r 0 (by omega), p 2225 r 0 (by omega), p 2226 r 0 (by omega), p 2215 (K 2224 r 0) 0 (by omega), p 2215 (K 2225 r 0) 0 (by omega), p 2219 (K 2226 r 0) 0 (by omega)]
      exact w
    · rw [oa, oa, oa, oa, oa, p 2219 a 0 (by omega), p 2220 a 0 (by omega), p 2221 a 0 (by omega), p 2222 a 0 (by omega), p 2223 a 0 (by omega)]
      exact h12 a a0 a1
    · have m := g1 a a0 a1
      unfold msA at m ⊢
      rw [os, o2 1271 a 0 (by omega), o2 1272 a 0 (by omega), o2 1273 a 0 (by omega), e6, p 2227 a 0 (by omega), p 2228 a 0 (by omega), p 2229 a 0 (by omega), p 2230 a 0 (by omega), p 2219 a 0 (by omega)]
      exact m
    · rw [oa, os]
      exact h14 i i0 i1
  · obtain ⟨m1, m2, m3, m4, m5, m6, m7, m8, m9⟩ := t3
    refine ⟨m5, m6, m7, s4, s5, s6, s7, m1, m2, m3, m4, m8, ⟨fun a a0 a1 => ?_, sE, sV, sB, sP⟩, fun i i0 i1 _ => (m9 i i0 i1).1⟩
    have w := m9 a a0 a1
    unfold msA
    rw [w.1, w.2.1, w.2.2.1, w.2.2.2.1, w.2.2.2.2, if_neg (by decide)]
    exact ⟨rfl, by decide, by decide, ⟨Or.inl rfl, rfl, rfl⟩, Or.inl rfl, Or.inl rfl⟩
end LIi
