/-! ===== the reference's way ===== -/
section WS
variable {M K N A B C D D0 E' F G H T V K0 M0 : qm} {a b c d k n m p r q' s t u v x y h i j R S w l g to : Int} {q stt cnt o f : Int → Int} {P : Int → Prop} {E : Int → Int → Prop}
noncomputable def CNR (N : qm) (S : Int) : Int := sI (fun i => b01 ((N 2183 i 0) ≠ 1000)) (S + 1)
theorem CNR_b (S0 : 0 ≤ S) : CNR N S ≤ S + 1 := sI_l (by omega) (fun _ _ _ => b01_b.2)
def STP (E : Int → Int → Prop) (K N : qm) (s S : Int) : Prop := (∀ b i j, b ≠ 2183 → N b i j = K b i j) ∧ (∀ v, -1 ≤ v → v < S → (N 2183 (v + 1) 0) = 1000 ∨ (0 ≤ (N 2183 (v + 1) 0) ∧ (N 2183 (v + 1) 0) + 1 ≤ CNR N S ∧ RC E s (N 2183 (v + 1) 0) v)) ∧ (N 2183 (s + 1) 0) = 0
theorem stp_b (S0 : 0 ≤ S) (S1 : S ≤ 100) (h : STP E K N s S) (v0 : -1 ≤ v) (v1 : v < S) : (N 2183 (v + 1) 0) = 1000 ∨ (0 ≤ (N 2183 (v + 1) 0) ∧ (N 2183 (v + 1) 0) ≤ S ∧ RC E s (N 2183 (v + 1) 0) v) := by
  have c := CNR_b (N := N) S0
  rcases h.2.1 v v0 v1 with e | ⟨e1, e2, e3⟩
  · exact Or.inl e
  · exact Or.inr ⟨e1, by omega, e3⟩
theorem stp_w (S0 : 0 ≤ S) (S1 : S ≤ 100) (h : STP E K N s S) (u0 : -1 ≤ u) (u1 : u < S) (v0 : -1 ≤ v) (v1 : v < S) (s0 : -1 ≤ s) (s1 : s < S) (he : E u v) (hl : (N 2183 (u + 1) 0) + 1 < (N 2183 (v + 1) 0)) : STP E K (qw N 2183 (v + 1) 0 ((N 2183 (u + 1) 0) + 1)) s S ∧ ∀ x, qw N 2183 (v + 1) 0 ((N 2183 (u + 1) 0) + 1) 2183 (x + 1) 0 = if x = v then (N 2183 (u + 1) 0) + 1 else (N 2183 (x + 1) 0) := by
  have bu := stp_b S0 S1 h u0 u1
  have bv := stp_b S0 S1 h v0 v1
  have cu := h.2.1 u u0 u1
  have cv := h.2.1 v v0 v1
  obtain ⟨U, hU⟩ : ∃ U, (N 2183 (u + 1) 0) = U := ⟨_, rfl⟩
  rw [hU] at bu cu hl ⊢
  have U0 : 0 ≤ U ∧ U + 1 ≤ CNR N S ∧ RC E s U u ∧ U ≤ S := by
    rcases bu with e | e
    · rcases bv with e' | e' <;> omega
    · rcases cu with e' | e'
      · omega
      · exact ⟨e.1, e'.2.1, e.2.2, e.2.1⟩
  have ew : ∀ i, qw N 2183 (v + 1) 0 (U + 1) 2183 i 0 = if i = v + 1 then U + 1 else (N 2183 i 0) := by
    intro i
    rw [qw_ap]
    by_cases g : i = v + 1
    · rw [if_pos g, if_pos ⟨rfl, g, rfl⟩]
    · rw [if_neg g, if_neg (by omega)]
  have ex : ∀ x, qw N 2183 (v + 1) 0 (U + 1) 2183 (x + 1) 0 = if x = v then U + 1 else (N 2183 (x + 1) 0) := by
    intro x
    rw [ew]
    by_cases g : x = v
    · rw [if_pos (by omega), if_pos g]
    · rw [if_neg (by omega), if_neg g]
  have cn : CNR (qw N 2183 (v + 1) 0 (U + 1)) S = CNR N S + if (N 2183 (v + 1) 0) = 1000 then 1 else 0 := by
    unfold CNR
    have one := sI_one (f := fun _ => if (N 2183 (v + 1) 0) = 1000 then 1 else 0) (c := v + 1) (n := S + 1) (by omega) (by omega)
    (try dsimp only at one)
    rw [← one, ← sI_add]
    refine sI_c (fun i i0 i1 => ?_)
    (try dsimp only)
    rw [ew]
    by_cases g : i = v + 1
    · rw [if_pos g, if_pos g, g, b01_t (by omega)]
      by_cases z : (N 2183 (v + 1) 0) = 1000
      · rw [if_pos z, b01_f (fun y => y z)]
        rfl
      · rw [if_neg z, b01_t z]
        rfl
    · rw [if_neg g, if_neg g, Int.add_zero]
  have vs : v ≠ s := fun e => by
    rw [e] at hl
    have := h.2.2
    omega
  refine ⟨⟨fun b i j hb => (qw_a hb).trans (h.1 b i j hb), fun x x0 x1 => ?_, ?_⟩, ex⟩
  · rw [ex, cn]
    by_cases g : x = v
    · rw [if_pos g, g]
      refine Or.inr ⟨by omega, ?_, (RC_s U0.1).mpr ⟨u, U0.2.2.1, he⟩⟩
      by_cases z : (N 2183 (v + 1) 0) = 1000
      · rw [if_pos z]
        omega
      · rw [if_neg z]
        rcases cv with e | e
        · exact absurd e z
        · omega
    · rw [if_neg g]
      rcases h.2.1 x x0 x1 with e | e
      · exact Or.inl e
      · refine Or.inr ⟨e.1, ?_, e.2.2⟩
        split <;> omega
  · rw [ex, if_neg (fun z => vs z.symm)]
    exact h.2.2
end WS
