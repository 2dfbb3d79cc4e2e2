/-! ===== what begin leaves ===== -/
section BEG
variable {M K S T : qm} {x y : Int}
def bgW (M K S T : qm) (x y : Int) : Prop := (∀ b i j, b ≠ 2332 → S b i j = if b = 1338 ∧ j = 5 ∧ i = y ∧ y ≠ -1 then x else if b = 1338 ∧ j = 5 ∧ 0 ≤ i ∧ i < (M 1337 0 0) ∧ M 1338 i 5 = x then -1 else M b i j) ∧ (∀ b i j, b ≠ 2156 → T b i j = if b = 2280 ∧ i = x ∧ j = 0 then y else K b i j)
theorem bgW_C (h : bgW M K S T x y) {b : Nat} {i j : Int} (hb : b ≠ 2332) (hj : b ≠ 1338 ∨ j ≠ 5) : S b i j = M b i j := by
  rw [h.1 b i j hb, if_neg (by omega), if_neg (by omega)]
theorem bgW_R (h : bgW M K S T x y) {b : Nat} {i j : Int} (hb : b ≠ 2156) (hj : b ≠ 2280) : T b i j = K b i j := by
  rw [h.2 b i j hb, if_neg (by omega)]
theorem bgW_5 (h : bgW M K S T x y) {i : Int} (h0 : 0 ≤ i) (h1 : i < (M 1337 0 0)) : S 1338 i 5 = if i = y then x else if M 1338 i 5 = x then -1 else M 1338 i 5 := by
  rw [h.1 1338 i 5 (by decide)]
  by_cases e : i = y
  · rw [if_pos e, if_pos ⟨rfl, rfl, e, by omega⟩]
  · rw [if_neg e, if_neg (fun q => e q.2.2.1)]
    by_cases e2 : M 1338 i 5 = x
    · rw [if_pos e2, if_pos ⟨rfl, rfl, h0, h1, e2⟩]
    · rw [if_neg e2, if_neg (fun q => e2 q.2.2.2.2)]
theorem bg_cars (h : bgW M K S T x y) (hr : R_cars M K) : R_cars S T := by
  intro c c0 c1
  rw [bgW_C h (by decide) (by decide)] at c1
  have q := hr c c0 c1
  rw [bgW_C h (by decide) (by decide), bgW_C h (by decide) (by decide), bgW_C h (by decide) (by decide), bgW_C h (by decide) (by decide), bgW_C h (by decide) (by decide), bgW_R h (by decide) (by decide), bgW_R h (by decide) (by decide), bgW_R h (by decide) (by decide), bgW_R h (by decide) (by decide), bgW_R h (by decide) (by decide)]
  exact q
theorem bg_carz (h : bgW M K S T x y) (hr : R_carz M K) : R_carz S T := by
  intro c c0 c1
  rw [bgW_C h (by decide) (by decide)] at c0
  rw [bgW_C h (by decide) (by decide), bgW_C h (by decide) (by decide)]
  exact hr c c0 c1
theorem bg_begun (h : bgW M K S T x y) (hy : y = -1 ∨ (0 ≤ y ∧ y < (M 1337 0 0))) (hx : opS K x) (hg : bgS M x y) (hz : R_begunz M K) (hr : R_begun M K) : R_begun S T := by
  intro a c a0 a1 c0 c1 ho
  rw [bgW_C h (by decide) (by decide)] at a1 c1
  rw [bgW_R h (by decide) (by decide)] at ho
  rw [bgW_5 h a0 a1, h.2 2280 c 0 (by decide)]
  have q := hr a c a0 a1 c0 c1 ho
  have q2 := hz a a0 a1
  unfold bgS at hg
  by_cases e : c = x
  · rw [if_pos ⟨rfl, e, rfl⟩]
    by_cases e2 : a = y
    · rw [if_pos e2]
      omega
    · rw [if_neg e2]
      by_cases e3 : M 1338 a 5 = x
      · rw [if_pos e3]
        omega
      · rw [if_neg e3]
        omega
  · rw [if_neg (fun w => e w.2.1)]
    by_cases e2 : a = y
    · rw [if_pos e2]
      rw [q]
      subst e2
      omega
    · rw [if_neg e2]
      by_cases e3 : M 1338 a 5 = x
      · rw [if_pos e3]
        omega
      · rw [if_neg e3]
        exact q
theorem bg_begunz (h : bgW M K S T x y) (hx : opS K x) (hn : R_calln M K) (hz : R_begunz M K) : R_begunz S T := by
  intro a a0 a1
  rw [bgW_C h (by decide) (by decide)] at a1
  have q2 := hz a a0 a1
  obtain ⟨x0, x1, x2⟩ := hx
  unfold R_calln at hn
  rw [bgW_5 h a0 a1, bgW_C h (by decide) (by decide)]
  by_cases e2 : a = y
  · rw [if_pos e2]
    refine Or.inr ⟨x0, by omega, ?_⟩
    rw [bgW_R h (by decide) (by decide)]
    exact x2
  · rw [if_neg e2]
    by_cases e3 : M 1338 a 5 = x
    · rw [if_pos e3]
      exact Or.inl rfl
    · rw [if_neg e3]
      rcases q2 with q2 | q2
      · exact Or.inl q2
      · refine Or.inr ⟨q2.1, q2.2.1, ?_⟩
        rw [bgW_R h (by decide) (by decide)]
        exact q2.2.2
theorem bg_begunr (h : bgW M K S T x y) (hy : y = -1 ∨ (0 ≤ y ∧ y < (M 1337 0 0))) (hr : R_begunr M K) : R_begunr S T := by
  intro c c0 c1
  rw [bgW_C h (by decide) (by decide)] at c1
  rw [bgW_C h (by decide) (by decide), h.2 2280 c 0 (by decide)]
  have q := hr c c0 c1
  by_cases e : c = x
  · rw [if_pos ⟨rfl, e, rfl⟩]
    omega
  · rw [if_neg (fun w => e w.2.1)]
    exact q
end BEG
