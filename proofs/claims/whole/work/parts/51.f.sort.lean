/-! ===== class and reference have one order ===== -/
theorem Srt_c {n m : Int} {K K' : Int → Int} {W W' : Int → Int → Int} {q : Int → Int} (hk : ∀ b, 0 ≤ b → b < n → K b = K' b) (hw : ∀ b i, 0 ≤ b → b < n → 0 ≤ i → i < 3 → W b i = W' b i) (hr : ∀ b, 0 ≤ b → b < n → 0 ≤ K b ∧ K b < 26) (hb : ∀ b i, 0 ≤ b → b < n → 0 ≤ i → i < 3 → W b i = -1 ∨ (0 ≤ W b i ∧ W b i < n)) (h : Srt n K W q m) : Srt n K' W' q m := by
  obtain ⟨a1, a2, a3, a4, a5⟩ := h
  have me : ∀ k b, 0 ≤ b → b < n → (mc K W (pk q k) b ↔ mc K' W' (pk q k) b) := fun k b b0 b1 => mc_c (n := n) (hk b b0 b1) (fun i i0 i1 => hw b i b0 b1 i0 i1) (hr b b0 b1) (fun i i0 i1 => hb b i b0 b1 i0 i1) (fun _ _ _ => Iff.rfl)
  refine ⟨a1, a2, fun k k0 k1 => ?_, fun b b0 b1 => ?_, a5⟩
  · obtain ⟨l1, l2, l3, l4, l5⟩ := a3 k k0 k1
    refine ⟨l1, l2, l3, (me k _ l1 l2).mp l4, fun b b0 b1 => ?_⟩
    rcases l5 b b0 b1 with x | x
    · exact Or.inl x
    · exact Or.inr (fun y => x ((me k b b0 (by omega)).mpr y))
  · rcases a4 b b0 b1 with x | x
    · exact Or.inl x
    · exact Or.inr (fun y => x ((me m b b0 b1).mpr y))
theorem okC_of {M K : qm} (h1 : R_blocks M K) (h2 : R_kinds M K) (h3 : R_wire M K) : okC M := by
  refine ⟨h1.1, h1.2.1, fun b b0 b1 => ⟨(h2 b b0 b1).1, (h2 b b0 b1).2.1⟩, fun b i b0 b1 i0 i1 => (h3 b i b0 b1 i0 i1).2⟩
theorem okR_of {M K : qm} (h1 : R_blocks M K) (h2 : R_kinds M K) (h3 : R_wire M K) : okR K := by
  have e := h1.2.2
  refine ⟨by rw [e]; exact h1.1, by rw [e]; exact h1.2.1, fun b b0 b1 => ?_, fun b i b0 b1 i0 i1 => ?_⟩
  · rw [(h2 b b0 b1).2.2]
    exact ⟨(h2 b b0 b1).1, (h2 b b0 b1).2.1⟩
  · rw [e] at b1 ⊢
    rw [(h3 b i b0 b1 i0 i1).1]
    exact (h3 b i b0 b1 i0 i1).2
/-- the class's order and the reference's -/
theorem one_order {M K : qm} {q : Int → Int} {m : Int} (h1 : R_blocks M K) (h2 : R_kinds M K) (h3 : R_wire M K) (hc : sortedC M) (hr : Srt (K 2235 0 0) (KR K) (WR K) q m) : m = (M 1003 14 0) ∧ ∀ k, 0 ≤ k → k < (M 1003 0 0) → q k = (M 1136 k 0) := by
  have e := h1.2.2
  rw [e] at hr
  have hr2 : Srt (M 1003 0 0) (fun c => (M 1004 c 0)) (fun c i => (M 1008 c i)) q m := by
    refine Srt_c (fun b b0 b1 => ?_) (fun b i b0 b1 i0 i1 => ?_) (fun b b0 b1 => ?_) (fun b i b0 b1 i0 i1 => ?_) hr
    · exact (h2 b b0 (by have := h1.2.1; omega)).2.2
    · exact (h3 b i b0 b1 i0 i1).1
    · have x := h2 b b0 (by have := h1.2.1; omega)
      unfold KR
      rw [x.2.2]
      exact ⟨x.1, x.2.1⟩
    · have x := h3 b i b0 b1 i0 i1
      unfold WR
      rw [x.1]
      omega
  exact Srt_one hr2 hc.1
