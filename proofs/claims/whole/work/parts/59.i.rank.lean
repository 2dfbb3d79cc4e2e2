/-! ===== all acts' second, both sides ===== -/
section SKIP
variable {σ ρ τ ω : Type}
/-- two loops; the second one may wait -/
theorem qW_skip {f : σ → Option (ρ ⊕ σ)} {g : τ → Option (ω ⊕ τ)} {Q : ρ → ω → Prop} (n : Int) (I : Int → σ → τ → Prop) {s : σ} {t : τ} {N : Nat} (h : ∀ i s t, 0 ≤ i → i < n → I i s t → (∃ s', f s = some (.inr s') ∧ I (i + 1) s' t) ∨ (∃ s' t', f s = some (.inr s') ∧ g t = some (.inr t') ∧ I (i + 1) s' t')) (he : ∀ s t, I n s t → ∃ r w, f s = some (.inl r) ∧ g t = some (.inl w) ∧ Q r w) (h0 : I 0 s t) (hn : 0 ≤ n) (hN : n < N) : qW (qloop f N s) (fun r => qW (qloop g N t) (fun w => Q r w)) := by
  have key : ∀ (d : Nat) (N1 N2 : Nat) (i : Int) (s : σ) (t : τ), 0 ≤ i → n - i = d → d < N1 → d < N2 → I i s t → qW (qloop f N1 s) (fun r => qW (qloop g N2 t) (fun w => Q r w)) := by
    intro d
    induction d with
    | zero =>
      intro N1 N2 i s t i0 hd h1 h2 hI
      have e : i = n := by omega
      rw [e] at hI
      obtain ⟨r, w, e1, e2, hq⟩ := he s t hI
      cases N1 with
      | zero => omega
      | succ N1 =>
        cases N2 with
        | zero => omega
        | succ N2 =>
          unfold qloop
          rw [e1, e2]
          exact ⟨r, rfl, w, rfl, hq⟩
    | succ d ih =>
      intro N1 N2 i s t i0 hd h1 h2 hI
      cases N1 with
      | zero => omega
      | succ N1 =>
        rcases h i s t i0 (by omega) hI with ⟨s', e1, hI'⟩ | ⟨s', t', e1, e2, hI'⟩
        · have q := ih N1 N2 (i + 1) s' t (by omega) (by omega) (by omega) (by omega) hI'
          have ef : qloop f (N1 + 1) s = qloop f N1 s' := by
            show (match f s with | none => none | some (.inl r) => some r | some (.inr s') => qloop f N1 s') = _
            rw [e1]
          rw [ef]
          exact q
        · cases N2 with
          | zero => omega
          | succ N2 =>
            have q := ih N1 N2 (i + 1) s' t' (by omega) (by omega) (by omega) (by omega) hI'
            have ef : qloop f (N1 + 1) s = qloop f N1 s' := by
              show (match f s with | none => none | some (.inl r) => some r | some (.inr s') => qloop f N1 s') = _
              rw [e1]
            have eg : qloop g (N2 + 1) t = qloop g N2 t' := by
              show (match g t with | none => none | some (.inl r) => some r | some (.inr s') => qloop g N2 s') = _
              rw [e2]
            rw [ef, eg]
            exact q
  exact key n.toNat N N 0 s t (Int.le_refl 0) (by omega) (by omega) (by omega) h0
end SKIP
/-- the class's order of acts -/
def rkC (M : qm) : Prop := (∀ k, 0 ≤ k → k < 20 → 0 ≤ (M 1269 k 0) ∧ (M 1269 k 0) < 20) ∧ ((∀ a, 0 ≤ a → a < 20 → (M 1197 a 0) = 0) ∨ ∀ j k, 0 ≤ j → j < k → k < 20 → (M 1197 (M 1269 k 0) 2) < (M 1197 (M 1269 j 0) 2) ∨ ((M 1197 (M 1269 j 0) 2) = (M 1197 (M 1269 k 0) 2) ∧ (M 1269 j 0) < (M 1269 k 0)))
noncomputable def tkC (M : qm) (k : Int) : Int := sI (fun j => b01 ((M 1197 (M 1269 j 0) 0) ≠ 0)) k
theorem tk_lt {M : qm} {j k : Int} (j0 : 0 ≤ j) (jk : j < k) (h : (M 1197 (M 1269 j 0) 0) ≠ 0) : tkC M j < tkC M k := by
  unfold tkC
  have h1 := sI_s (f := fun j => b01 ((M 1197 (M 1269 j 0) 0) ≠ 0)) j0
  have e : b01 ((M 1197 (M 1269 j 0) 0) ≠ 0) = 1 := b01_t h
  (try dsimp only at h1)
  rw [e] at h1
  have mono : ∀ d : Nat, sI (fun j => b01 ((M 1197 (M 1269 j 0) 0) ≠ 0)) (j + 1) ≤ sI (fun j => b01 ((M 1197 (M 1269 j 0) 0) ≠ 0)) (j + 1 + d) := by
    intro d
    induction d with
    | zero => exact Int.le_of_eq (by congr 1; omega)
    | succ d ih =>
      have h2 := sI_s (f := fun j => b01 ((M 1197 (M 1269 j 0) 0) ≠ 0)) (i := j + 1 + d) (by omega)
      have b := b01_b (p := (M 1197 (M 1269 (j + 1 + d) 0) 0) ≠ 0)
      (try dsimp only at h2)
      rw [show j + 1 + ((d + 1 : Nat) : Int) = j + 1 + d + 1 by omega]
      omega
  have m := mono (k - (j + 1)).toNat
  rw [show j + 1 + (((k - (j + 1)).toNat : Nat) : Int) = k by omega] at m
  omega
theorem rank_inj {M : qm} (h : rkC M) (hn : ∃ a, 0 ≤ a ∧ a < 20 ∧ (M 1197 a 0) ≠ 0) : ∀ j k, 0 ≤ j → j < k → k < 20 → (M 1269 j 0) ≠ (M 1269 k 0) := by
  intro j k j0 jk k1
  obtain ⟨a, a0, a1, a2⟩ := hn
  rcases h.2 with h2 | h2
  · exact absurd (h2 a a0 a1) a2
  · intro e
    have q := h2 j k j0 jk k1
    rw [e] at q
    omega
theorem rank_at {M K : qm} (h : rkC M) (hs : mactS M K) {k : Int} (k0 : 0 ≤ k) (k1 : k < 20) (ht : (M 1197 (M 1269 k 0) 0) ≠ 0) : cntR K (M 1269 k 0) = tkC M k := by
  have hn : ∃ a, 0 ≤ a ∧ a < 20 ∧ (M 1197 a 0) ≠ 0 := ⟨_, (h.1 k k0 k1).1, (h.1 k k0 k1).2, ht⟩
  have inj := rank_inj h hn
  have hk := h.1 k k0 k1
  have qk := hs _ hk.1 hk.2
  unfold cntR tkC
  rw [← sI_perm (q := fun j => (M 1269 j 0)) (f := fun b => b01 ((K 2219 b 0) ≠ 0 ∧ snR K b (M 1269 k 0))) h.1 inj]
  rcases h.2 with h2 | h2
  · exact absurd (h2 _ hk.1 hk.2) ht
  · refine sI_cut k0 (by omega) (fun j j0 j1 => ?_) (fun j j0 j1 => ?_)
    · (try dsimp only)
      have hj := h.1 j j0 (by omega)
      have qj := hs _ hj.1 hj.2
      refine b01_c ?_
      have q := h2 j k j0 j1 k1
      unfold snR
      constructor
      · rintro ⟨x, _⟩
        omega
      · intro x
        refine ⟨by omega, ?_⟩
        omega
    · (try dsimp only)
      have hj := h.1 j (by omega) j1
      have qj := hs _ hj.1 hj.2
      refine b01_f ?_
      unfold snR
      rintro ⟨x, y⟩
      by_cases e : j = k
      · subst e
        omega
      · have q := h2 k j k0 (by omega) j1
        omega
theorem ranked_is {M K : qm} (h : rkC M) (hs : mactS M K) {k : Int} (k0 : 0 ≤ k) (k1 : k < 20) (ht : (M 1197 (M 1269 k 0) 0) ≠ 0) : qf_X14_rankedOne 20000 (tkC M k) K = some (M 1269 k 0) := by
  have hn : ∃ a, 0 ≤ a ∧ a < 20 ∧ (M 1197 a 0) ≠ 0 := ⟨_, (h.1 k k0 k1).1, (h.1 k k0 k1).2, ht⟩
  have inj := rank_inj h hn
  have hk := h.1 k k0 k1
  refine qW_e (qW_mono rankedOne_r (fun r hr => ?_))
  rcases hr with ⟨r0, r1, r2, r3⟩ | ⟨r0, r1⟩
  · obtain ⟨j, j0, j1, j2⟩ := pigeon 20 (fun j => (M 1269 j 0)) (fun k a b => h.1 k a b) (fun a b c d e => inj a b c d e) r r0 r1
    (try dsimp only at j2)
    have hj : (M 1197 (M 1269 j 0) 0) ≠ 0 := by
      rw [j2]
      have q := hs r r0 r1
      omega
    have e := rank_at h hs j0 j1 hj
    rw [j2, r3] at e
    by_cases g : j = k
    · rw [← j2, g]
    · by_cases l : j < k
      · have := tk_lt j0 l hj
        omega
      · have := tk_lt (M := M) k0 (show k < j by omega) ht
        omega
  · have q := hs _ hk.1 hk.2
    exact absurd ⟨by omega, rank_at h hs k0 k1 ht⟩ (r1 _ hk.1 hk.2)
theorem ranked_end {M K : qm} (h : rkC M) (hs : mactS M K) : qf_X14_rankedOne 20000 (tkC M 20) K = some (-1) := by
  refine qW_e (qW_mono rankedOne_r (fun r hr => ?_))
  rcases hr with ⟨r0, r1, r2, r3⟩ | ⟨r0, r1⟩
  · have q := hs r r0 r1
    have hn : ∃ a, 0 ≤ a ∧ a < 20 ∧ (M 1197 a 0) ≠ 0 := ⟨r, r0, r1, by omega⟩
    have inj := rank_inj h hn
    obtain ⟨j, j0, j1, j2⟩ := pigeon 20 (fun j => (M 1269 j 0)) (fun k a b => h.1 k a b) (fun a b c d e => inj a b c d e) r r0 r1
    (try dsimp only at j2)
    have hj : (M 1197 (M 1269 j 0) 0) ≠ 0 := by
      rw [j2]
      omega
    have e := rank_at h hs j0 j1 hj
    rw [j2, r3] at e
    have := tk_lt (M := M) (k := 20) j0 (by omega) hj
    omega
  · exact r0
