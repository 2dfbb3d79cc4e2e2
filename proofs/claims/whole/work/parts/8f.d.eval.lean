/-! ===== the giving: a row is looked at ===== -/
section GVd
variable {M K A W Z X : qm} {a b c d i j k p q v w T : Int} {f g : Int → Int} {m n s : Nat} {l t u : List Int}
theorem rl_in : ∀ (m : Nat) (j x : Int), x ∈ rl f m j → ∃ i, j ≤ i ∧ i < j + m ∧ f i = x := by
  intro m
  induction m with
  | zero =>
    intro j x h
    cases h
  | succ m ih =>
    intro j x h
    have h' : x ∈ f j :: rl f m (j + 1) := h
    rw [List.mem_cons] at h'
    rcases h' with h' | h'
    · exact ⟨j, by omega, by omega, h'.symm⟩
    · obtain ⟨i, i0, i1, i2⟩ := ih (j + 1) x h'
      exact ⟨i, by omega, by omega, i2⟩
/-- what the car has begun stands first -/
def okRow (K : qm) (c : Int) (l : List Int) : Prop := ∀ x, x ∈ l.tail → K 2280 x 0 ≠ c
theorem isRight_K (hs : K 2270 16 0 = s) (s6 : s ≤ 6) (hr : ∀ i : Int, 0 ≤ i → i < (s : Int) → 0 ≤ K 2282 i 0 ∧ K 2282 i 0 < 400) : qf_X13_isRight 20000 c K = some (b01 (okRow K c (rl (fun i => K 2282 i 0) s 0))) := by
  have tl : ∀ x, x ∈ (rl (fun i => K 2282 i 0) s 0).tail ↔ ∃ i, 1 ≤ i ∧ i < (s : Int) ∧ K 2282 i 0 = x := fun x => by
    cases s with
    | zero => exact ⟨fun h => (by cases h), fun ⟨i, i0, i1, _⟩ => (by omega)⟩
    | succ s =>
      show x ∈ rl (fun i => K 2282 i 0) s (0 + 1) ↔ _
      refine ⟨fun h => ?_, fun ⟨i, i0, i1, i2⟩ => ?_⟩
      · obtain ⟨i, i0, i1, i2⟩ := rl_in _ _ _ h
        exact ⟨i, by omega, by omega, i2⟩
      · rw [← i2]
        exact rl_mem s (0 + 1) i (by omega) (by omega)
  obtain ⟨o, e1, v, rfl, hv⟩ : qW (qf_X13_isRight_L4 20000 20000 c 1 1 K) (fun o => ∃ v, o = .inr v ∧ ((v = 1 ∧ ∀ k, 1 ≤ k → k < (s : Int) → K 2280 (K 2282 k 0) 0 ≠ c) ∨ (v = 0 ∧ ∃ k, 1 ≤ k ∧ k < (s : Int) ∧ K 2280 (K 2282 k 0) 0 = c))) := by
    unfold qf_X13_isRight_L4
    refine qW_for (if (s : Int) = 0 then 0 else s - 1) (fun t r => ∃ v, r = (c, v, 1 + t) ∧ ((v = 1 ∧ ∀ k, 1 ≤ k → k < 1 + t → K 2280 (K 2282 k 0) 0 ≠ c) ∨ (v = 0 ∧ ∃ k, 1 ≤ k ∧ k < 1 + t ∧ K 2280 (K 2282 k 0) 0 = c))) ?_ ?_ ⟨1, rfl, Or.inl ⟨rfl, fun k k0 k1 => by omega⟩⟩ (by omega) (by omega)
    · rintro t _ t0 t1 ⟨v, rfl, h⟩
      have ts : 1 + t < s := by omega
      have r := hr (1 + t) (by omega) ts
      show qW (qf_X13_isRight_L4_b 20000 c v (1 + t) K) _
      unfold qf_X13_isRight_L4_b qf_X13_isRight_J35
      rw [if_neg (by omega), w32_id (x := 1 + t + 1) (by omega) (by omega), show 1 + t + 1 = 1 + (t + 1) by omega]
      rcases h with ⟨hv, h⟩ | ⟨hv, k, k0, k1, h⟩
      · rw [if_neg (by omega), if_pos (show 0 ≤ 1 + t ∧ 1 + t < 6 by omega), if_pos r]
        by_cases g : K 2280 (K 2282 (1 + t) 0) 0 = c
        · rw [if_pos g]
          exact qW_some ⟨0, rfl, Or.inr ⟨rfl, 1 + t, by omega, by omega, g⟩⟩
        · rw [if_neg g]
          refine qW_some ⟨1, rfl, Or.inl ⟨rfl, fun k k0 k1 => ?_⟩⟩
          by_cases ek : k = 1 + t
          · rw [ek]
            exact g
          · exact h k k0 (by omega)
      · rw [if_pos hv]
        exact qW_some ⟨0, rfl, Or.inr ⟨rfl, k, k0, by omega, h⟩⟩
    · rintro _ ⟨v, rfl, h⟩
      obtain ⟨e, he⟩ : ∃ e : Int, (if (s : Int) = 0 then 0 else (s : Int) - 1) = e := ⟨_, rfl⟩
      have es : (s = 0 ∧ e = 0) ∨ (s ≠ 0 ∧ 1 + e = s) := by
        by_cases z : (s : Int) = 0
        · rw [if_pos z] at he
          omega
        · rw [if_neg z] at he
          omega
      rw [he] at h ⊢
      show qW (qf_X13_isRight_L4_b 20000 c v (1 + e) K) _
      unfold qf_X13_isRight_L4_b
      rw [if_pos (by omega)]
      refine qW_some ⟨v, rfl, ?_⟩
      rcases h with ⟨hv, h⟩ | ⟨hv, k, k0, k1, h⟩
      · exact Or.inl ⟨hv, fun k k0 k1 => h k k0 (by omega)⟩
      · exact Or.inr ⟨hv, k, k0, by omega, h⟩
  unfold qf_X13_isRight
  rw [e1]
  simp only [Option.bind_some]
  rcases hv with ⟨rfl, h⟩ | ⟨rfl, k, k0, k1, h⟩
  · rw [b01_t (show okRow K c (rl (fun i => K 2282 i 0) s 0) from fun x hx => by
      obtain ⟨i, i0, i1, i2⟩ := (tl x).mp hx
      rw [← i2]
      exact h i i0 i1), if_pos (Or.inr rfl)]
  · rw [b01_f (fun z : okRow K c (rl (fun i => K 2282 i 0) s 0) => z _ ((tl _).mpr ⟨k, k0, k1, rfl⟩) h), if_pos (Or.inl rfl)]
theorem copy_K (hs : X 2270 16 0 = s) (s6 : s ≤ 6) (d0 : 0 ≤ d) (d1 : d < 256) : ∃ Y, qf_X13_findRow_L140 20000 20000 c d 0 X = some (.inr ((), Y)) ∧ rl (fun k => Y 2284 (6 * d + k) 0) s 0 = rl (fun i => X 2282 i 0) s 0 ∧ ∀ e x y, ¬ (e = 2284 ∧ 6 * d ≤ x ∧ x < 6 * d + 6) → Y e x y = X e x y := by
  obtain ⟨o, e1, Y, rfl, y1, y2⟩ : qW (qf_X13_findRow_L140 20000 20000 c d 0 X) (fun o => ∃ Y, o = .inr ((), Y) ∧ (∀ k, 0 ≤ k → k < (s : Int) → Y 2284 (6 * d + k) 0 = X 2282 k 0) ∧ ∀ e x y, ¬ (e = 2284 ∧ 6 * d ≤ x ∧ x < 6 * d + 6) → Y e x y = X e x y) := by
    unfold qf_X13_findRow_L140
    refine qW_for s (fun t r => ∃ Y, r = (c, d, t, Y) ∧ (∀ k, 0 ≤ k → k < t → Y 2284 (6 * d + k) 0 = X 2282 k 0) ∧ ∀ e x y, ¬ (e = 2284 ∧ 6 * d ≤ x ∧ x < 6 * d + 6) → Y e x y = X e x y) ?_ ?_ ⟨X, rfl, fun k k0 k1 => by omega, fun _ _ _ _ => rfl⟩ (by omega) (by omega)
    · rintro t _ t0 t1 ⟨Y, rfl, h1, h2⟩
      have ys : Y 2270 16 0 = s := (h2 _ _ _ (by omega)).trans hs
      show qW (qf_X13_findRow_L140_b 20000 c d t Y) _
      unfold qf_X13_findRow_L140_b qbnd
      rw [if_neg (by omega), if_pos (show 0 ≤ t ∧ t < 6 by omega), w32_id (x := 6 * d) (by omega) (by omega), w32_id (x := 6 * d + t) (by omega) (by omega), if_pos (show 0 ≤ 6 * d + t ∧ 6 * d + t < 1536 by omega), w32_id (x := t + 1) (by omega) (by omega)]
      refine qW_some ⟨_, rfl, fun k k0 k1 => ?_, fun e x y z => ?_⟩
      · by_cases ek : k = t
        · rw [ek]
          exact qw_s.trans (h2 _ _ _ (by omega))
        · rw [qw_i (by omega)]
          exact h1 k k0 (by omega)
      · rw [qw_ap, if_neg (by omega)]
        exact h2 e x y z
    · rintro _ ⟨Y, rfl, h1, h2⟩
      have ys : Y 2270 16 0 = s := (h2 _ _ _ (by omega)).trans hs
      show qW (qf_X13_findRow_L140_b 20000 c d s Y) _
      unfold qf_X13_findRow_L140_b
      rw [if_pos (by omega)]
      exact qW_some ⟨Y, rfl, h1, h2⟩
  exact ⟨Y, e1, rl_ext s 0 (fun i i0 i1 => y1 i i0 (by omega)), y2⟩
/-- the better of two: the one before, unless the row is right and costs less -/
noncomputable def bs1 (cost : List Int → Int) (ok : List Int → Prop) (b : Int × List Int) (l : List Int) : Int × List Int := @ite _ (ok l ∧ cost l < b.1) (Classical.propDecidable _) (cost l, l) b
/-- the best that stands at d -/
def BSD (Z : qm) (d : Int) (s : Nat) (b : Int × List Int) : Prop := Z 2283 d 0 = b.1 ∧ rl (fun k => Z 2284 (6 * d + k) 0) s 0 = b.2
theorem eval_K {b : Int × List Int} (h : CAR K c) (d0 : 0 ≤ d) (d1 : d < 256) (hs : K 2270 16 0 = s) (s6 : s ≤ 6) (hr : ∀ i : Int, 0 ≤ i → i < (s : Int) → CLL K (K 2282 i 0)) (hb : BSD K d s b) (hl : rl (fun i => K 2282 i 0) s 0 = l) : ∃ Y, qf_X13_findRow_L97_b 20000 c d 1 K = qf_X13_findRow_J174 20000 c d Y ∧ BSD Y d s (bs1 (rco K c (K 2272 c 0) (bhd K c)) (okRow K c) b l) ∧ ∀ e x y, ¬ (e = 2284 ∧ 6 * d ≤ x ∧ x < 6 * d + 6) → ¬ (e = 2283 ∧ x = d) → Y e x y = K e x y := by
  have e1 := costOf_K h (by omega) (by omega) (fun i i0 i1 => hr i i0 (by omega))
  rw [show (K 2270 16 0).toNat = s by omega, hl] at e1
  have e2 := isRight_K (c := c) hs s6 (fun i i0 i1 => by have q := hr i i0 i1; unfold CLL at q; exact ⟨q.1, q.2.1⟩)
  rw [hl] at e2
  obtain ⟨C, hC⟩ : ∃ C, rco K c (K 2272 c 0) (bhd K c) l = C := ⟨_, rfl⟩
  rw [hC] at e1
  have st : qf_X13_findRow_L97_b 20000 c d 1 K = (if b01 (okRow K c l) = 0 then qf_X13_findRow_J174 20000 c d K else if b.1 ≤ C then qf_X13_findRow_J174 20000 c d K else (qf_X13_findRow_L140 20000 20000 c d 0 (qw K 2283 d 0 C)).bind (fun r => (match r with | .inl o => some (.inl (.inl o)) | .inr (_, M32) => qf_X13_findRow_J174 20000 c d M32))) := by
    unfold qf_X13_findRow_L97_b qbnd
    rw [if_neg (by decide), e1]
    simp only [Option.bind_some]
    rw [e2]
    simp only [Option.bind_some, if_pos (show 0 ≤ d ∧ d < 256 from ⟨d0, d1⟩)]
    rw [hb.1]
    rfl
  have no : ¬ (okRow K c l ∧ rco K c (K 2272 c 0) (bhd K c) l < b.1) → bs1 (rco K c (K 2272 c 0) (bhd K c)) (okRow K c) b l = b := fun z => by
    unfold bs1
    exact if_neg z
  by_cases g1 : okRow K c l
  · rw [b01_t g1, if_neg (by decide)] at st
    by_cases g2 : b.1 ≤ C
    · rw [if_pos g2] at st
      refine ⟨K, st, ?_, fun _ _ _ _ _ => rfl⟩
      rw [no (fun z => by rw [hC] at z; omega)]
      exact hb
    · rw [if_neg g2] at st
      obtain ⟨Y, e3, y1, y2⟩ := copy_K (X := qw K 2283 d 0 C) (c := c) ((qw_a (by decide)).trans hs) s6 d0 d1
      rw [e3] at st
      simp only [Option.bind_some] at st
      refine ⟨Y, st, ?_, fun e x y z1 z2 => ?_⟩
      · have eb : bs1 (rco K c (K 2272 c 0) (bhd K c)) (okRow K c) b l = (C, l) := by
          unfold bs1
          refine Eq.trans (if_pos ⟨g1, by omega⟩) ?_
          rw [hC]
        rw [eb]
        refine ⟨?_, ?_⟩
        · rw [y2 _ _ _ (by omega)]
          exact qw_s
        · rw [y1, ← hl]
          exact rl_ext s 0 (fun i i0 i1 => qw_a (by decide))
      · rw [y2 e x y z1, qw_ap, if_neg (by omega)]
  · rw [b01_f g1, if_pos rfl] at st
    refine ⟨K, st, ?_, fun _ _ _ _ _ => rfl⟩
    rw [no (fun z => g1 z.1)]
    exact hb
end GVd
