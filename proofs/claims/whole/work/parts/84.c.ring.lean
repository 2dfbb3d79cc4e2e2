/-! ===== rings: walks through sides, in their order ===== -/
section RI
variable {N R r j s t : Int} {nx : Int → Int} {key stt cnt stt' cnt' f : Int → Int}
def itr (f : Int → Int) (s : Int) : Nat → Int
  | 0 => s
  | k + 1 => f (itr f s k)
def stI (f : Int → Int) (s j : Int) : Int := itr f s j.toNat
theorem stI_0 : stI nx s 0 = s := rfl
theorem stI_s (j0 : 0 ≤ j) : stI nx s (j + 1) = nx (stI nx s j) := by
  unfold stI
  rw [show (j + 1).toNat = j.toNat + 1 by omega]
  rfl
theorem stI_v (hv : ∀ s, 0 ≤ s → s < N → 0 ≤ nx s ∧ nx s < N) (s0 : 0 ≤ s) (s1 : s < N) : ∀ j, 0 ≤ j → 0 ≤ stI nx s j ∧ stI nx s j < N := by
  have key : ∀ k : Nat, 0 ≤ itr nx s k ∧ itr nx s k < N := by
    intro k
    induction k with
    | zero => exact ⟨s0, s1⟩
    | succ k ih => exact hv _ ih.1 ih.2
  intro j _
  exact key j.toNat
def cov (nx stt cnt : Int → Int) (R s : Int) : Prop := ∃ r j, 0 ≤ r ∧ r < R ∧ 0 ≤ j ∧ j < cnt r ∧ s = stI nx (stt r) j
/-- a ring that is walked: no side twice, till one that has been met -/
def wlk (nx stt cnt : Int → Int) (r s n : Int) : Prop := (∀ j, 0 ≤ j → j < n → ¬ (cov nx stt cnt r (stI nx s j) ∨ ∃ i, 0 ≤ i ∧ i < j ∧ stI nx s i = stI nx s j)) ∧ (cov nx stt cnt r (stI nx s n) ∨ ∃ i, 0 ≤ i ∧ i < n ∧ stI nx s i = stI nx s n)
def RNG (nx : Int → Int) (N : Int) (key stt cnt : Int → Int) (r : Int) : Prop := 0 ≤ stt r ∧ stt r < N ∧ 1 ≤ cnt r ∧ (∀ s, 0 ≤ s → s < N → key s < key (stt r) → cov nx stt cnt r s) ∧ wlk nx stt cnt r (stt r) (cnt r)
theorem cov_s (R0 : 0 ≤ R) : cov nx stt cnt (R + 1) s ↔ (cov nx stt cnt R s ∨ ∃ j, 0 ≤ j ∧ j < cnt R ∧ stI nx (stt R) j = s) := by
  constructor
  · rintro ⟨r, j, r0, r1, j0, j1, e⟩
    by_cases g : r = R
    · rw [g] at j1 e
      exact Or.inr ⟨j, j0, j1, e.symm⟩
    · exact Or.inl ⟨r, j, r0, by omega, j0, j1, e⟩
  · rintro (⟨r, j, r0, r1, j0, j1, e⟩ | ⟨j, j0, j1, e⟩)
    · exact ⟨r, j, r0, by omega, j0, j1, e⟩
    · exact ⟨R, j, R0, by omega, j0, j1, e.symm⟩
theorem cov_c (h : ∀ r, 0 ≤ r → r < R → stt r = stt' r ∧ cnt r = cnt' r) : cov nx stt cnt R s ↔ cov nx stt' cnt' R s := by
  constructor
  · rintro ⟨r, j, r0, r1, j0, j1, e⟩
    have q := h r r0 r1
    exact ⟨r, j, r0, r1, j0, by omega, by rw [← q.1]; exact e⟩
  · rintro ⟨r, j, r0, r1, j0, j1, e⟩
    have q := h r r0 r1
    exact ⟨r, j, r0, r1, j0, by omega, by rw [q.1]; exact e⟩
theorem wlk_c (h : ∀ r, 0 ≤ r → r < R → stt r = stt' r ∧ cnt r = cnt' r) {n : Int} : wlk nx stt cnt R s n ↔ wlk nx stt' cnt' R s n := by
  have e : cov nx stt cnt R = cov nx stt' cnt' R := funext (fun s => propext (cov_c h))
  unfold wlk
  rw [e]
theorem wlk_one {n n' : Int} (n0 : 0 ≤ n) (n1 : 0 ≤ n') (h : wlk nx stt cnt R s n) (h' : wlk nx stt cnt R s n') : n = n' := by
  rcases Int.lt_trichotomy n n' with g | g | g
  · exact absurd h.2 (h'.1 n n0 g)
  · exact g
  · exact absurd h'.2 (h.1 n' n1 g)
/-- the rings are as they are -/
theorem rng_one {R' : Int} (hk : ∀ s t, 0 ≤ s → s < N → 0 ≤ t → t < N → key s = key t → s = t) (R0 : 0 ≤ R) (R1 : 0 ≤ R') (h : ∀ r, 0 ≤ r → r < R → RNG nx N key stt cnt r) (ha : ∀ s, 0 ≤ s → s < N → cov nx stt cnt R s) (h' : ∀ r, 0 ≤ r → r < R' → RNG nx N key stt' cnt' r) (ha' : ∀ s, 0 ≤ s → s < N → cov nx stt' cnt' R' s) : R = R' ∧ ∀ r, 0 ≤ r → r < R → stt r = stt' r ∧ cnt r = cnt' r := by
  have unc : ∀ (stt cnt : Int → Int) r, RNG nx N key stt cnt r → ¬ cov nx stt cnt r (stt r) := by
    intro stt cnt r hr z
    have w := hr.2.2.2.2.1 0 (by decide) (by have := hr.2.2.1; omega)
    rw [stI_0] at w
    exact w (Or.inl z)
  have main : ∀ k : Nat, (k : Int) ≤ R → (k : Int) ≤ R' ∧ ∀ r, 0 ≤ r → r < (k : Int) → stt r = stt' r ∧ cnt r = cnt' r := by
    intro k
    induction k with
    | zero => intro _; exact ⟨by omega, fun r a b => by omega⟩
    | succ k ih =>
      intro hk1
      obtain ⟨k1, e⟩ := ih (by omega)
      have hr := h k (by omega) (by omega)
      have lt : (k : Int) < R' := by
        apply Classical.byContradiction
        intro z
        have z2 : R' = k := by omega
        have c := ha' _ hr.1 hr.2.1
        rw [z2] at c
        exact unc _ _ _ hr ((cov_c e).mpr c)
      have hr' := h' k (by omega) lt
      have es : stt k = stt' k := by
        rcases Int.lt_trichotomy (key (stt k)) (key (stt' k)) with g | g | g
        · exact absurd ((cov_c e).mpr (hr'.2.2.2.1 _ hr.1 hr.2.1 g)) (unc _ _ _ hr)
        · exact hk _ _ hr.1 hr.2.1 hr'.1 hr'.2.1 g
        · exact absurd ((cov_c e).mp (hr.2.2.2.1 _ hr'.1 hr'.2.1 g)) (unc _ _ _ hr')
      have ec : cnt k = cnt' k := by
        have w := hr.2.2.2.2
        have w' := hr'.2.2.2.2
        rw [wlk_c e, es] at w
        exact wlk_one (by have := hr.2.2.1; omega) (by have := hr'.2.2.1; omega) w w'
      refine ⟨by omega, fun r a b => ?_⟩
      by_cases g : r = k
      · rw [g]
        exact ⟨es, ec⟩
      · exact e r a (by omega)
  have m := main R.toNat (by omega)
  refine ⟨?_, fun r a b => m.2 r a (by omega)⟩
  apply Classical.byContradiction
  intro ne
  have lt : R < R' := by omega
  have hr' := h' R R0 lt
  have c := ha _ hr'.1 hr'.2.1
  exact unc _ _ _ hr' ((cov_c (fun r a b => m.2 r a (by omega))).mp c)
/-- a sum over the sides that are met, ring by ring -/
theorem cov_sum (hv : ∀ s, 0 ≤ s → s < N → 0 ≤ nx s ∧ nx s < N) (R0 : 0 ≤ R) (h : ∀ r, 0 ≤ r → r < R → RNG nx N key stt cnt r) : sI (fun s => b01 (cov nx stt cnt R s) * f s) N = sI (fun r => sI (fun j => f (stI nx (stt r) j)) (cnt r)) R := by
  have main : ∀ k : Nat, (k : Int) ≤ R → sI (fun s => b01 (cov nx stt cnt k s) * f s) N = sI (fun r => sI (fun j => f (stI nx (stt r) j)) (cnt r)) k := by
    intro k
    induction k with
    | zero =>
      intro _
      show _ = sI _ 0
      rw [sI_0]
      refine sI_none (fun s _ _ => ?_)
      (try dsimp only)
      rw [b01_f (by rintro ⟨r, j, r0, r1, _⟩; omega)]
      omega
    | succ k ih =>
      intro hk1
      have hr := h k (by omega) (by omega)
      have e : ((k + 1 : Nat) : Int) = (k : Int) + 1 := by omega
      have q := inj_sum (N := N) (f := f) (cnt k).toNat (fun s => cov nx stt cnt k s) (fun j => stI nx (stt k) j) (fun j a b => by
        have v := stI_v hv hr.1 hr.2.1 j a
        exact ⟨v.1, v.2, fun z => hr.2.2.2.2.1 j a (by omega) (Or.inl z)⟩) (fun i j a b c z => hr.2.2.2.2.1 j (by omega) (by omega) (Or.inr ⟨i, a, b, z⟩))
      (try dsimp only at q)
      have ec : (((cnt k).toNat : Nat) : Int) = cnt k := by
        have := hr.2.2.1
        omega
      rw [ec] at q
      rw [e, sI_s (f := fun r => sI (fun j => f (stI nx (stt r) j)) (cnt r)) (by omega), ← ih (by omega), ← q]
      refine sI_c (fun s _ _ => ?_)
      (try dsimp only)
      rw [b01_c (cov_s (by omega))]
  have m := main R.toNat (by omega)
  rw [show ((R.toNat : Nat) : Int) = R by omega] at m
  exact m
/-- where the next one is of one alone, rings close, and have two sides at least -/
theorem rng_two (hv : ∀ s, 0 ≤ s → s < N → 0 ≤ nx s ∧ nx s < N) (hi : ∀ s t, 0 ≤ s → s < N → 0 ≤ t → t < N → nx s = nx t → s = t) (hn : ∀ s, 0 ≤ s → s < N → nx s ≠ s) (R0 : 0 ≤ R) (h : ∀ r, 0 ≤ r → r < R → RNG nx N key stt cnt r) : (∀ s, 0 ≤ s → s < N → cov nx stt cnt R (nx s) → cov nx stt cnt R s) ∧ ∀ r, 0 ≤ r → r < R → 2 ≤ cnt r ∧ stI nx (stt r) (cnt r) = stt r := by
  have main : ∀ k : Nat, (k : Int) ≤ R → (∀ s, 0 ≤ s → s < N → cov nx stt cnt k (nx s) → cov nx stt cnt k s) ∧ ∀ r, 0 ≤ r → r < (k : Int) → 2 ≤ cnt r ∧ stI nx (stt r) (cnt r) = stt r := by
    intro k
    induction k with
    | zero =>
      intro _
      refine ⟨?_, fun r a b => by omega⟩
      rintro s _ _ ⟨r, j, r0, r1, _⟩
      omega
    | succ k ih =>
      intro hk1
      obtain ⟨c1, c2⟩ := ih (by omega)
      have hr := h k (by omega) (by omega)
      have v := stI_v hv hr.1 hr.2.1
      have e : ((k + 1 : Nat) : Int) = (k : Int) + 1 := by omega
      have w := hr.2.2.2.2
      have lastv := v (cnt k - 1) (by have := hr.2.2.1; omega)
      have es : stI nx (stt k) (cnt k) = nx (stI nx (stt k) (cnt k - 1)) := by
        have q := stI_s (nx := nx) (s := stt k) (j := cnt k - 1) (by have := hr.2.2.1; omega)
        rw [show cnt k - 1 + 1 = cnt k by omega] at q
        exact q
      have cl : stI nx (stt k) (cnt k) = stt k := by
        rcases w.2 with z | ⟨i, i0, i1, z⟩
        · rw [es] at z
          exact absurd (Or.inl (c1 _ lastv.1 lastv.2 z)) (w.1 (cnt k - 1) (by have := hr.2.2.1; omega) (by omega))
        · by_cases g : i = 0
          · rw [g, stI_0] at z
            exact z.symm
          · exfalso
            have q := stI_s (nx := nx) (s := stt k) (j := i - 1) (by omega)
            rw [show i - 1 + 1 = i by omega] at q
            rw [q, es] at z
            have vi := v (i - 1) (by omega)
            have z2 := hi _ _ vi.1 vi.2 lastv.1 lastv.2 z
            exact w.1 (cnt k - 1) (by omega) (by omega) (Or.inr ⟨i - 1, by omega, by omega, z2⟩)
      have c3 : 2 ≤ cnt k := by
        have := hr.2.2.1
        apply Classical.byContradiction
        intro z
        have e1 : cnt k = 1 := by omega
        rw [e1] at cl
        have q := stI_s (nx := nx) (s := stt k) (j := 0) (by decide)
        rw [show (0 : Int) + 1 = 1 by decide, cl, stI_0] at q
        exact hn _ hr.1 hr.2.1 q.symm
      refine ⟨fun s s0 s1 z => ?_, fun r a b => ?_⟩
      · rw [e, cov_s (by omega)] at z ⊢
        rcases z with z | ⟨j, j0, j1, z⟩
        · exact Or.inl (c1 s s0 s1 z)
        · by_cases g : j = 0
          · rw [g, stI_0, ← cl, es] at z
            refine Or.inr ⟨cnt k - 1, by omega, by omega, hi _ _ lastv.1 lastv.2 s0 s1 z⟩
          · have q := stI_s (nx := nx) (s := stt k) (j := j - 1) (by omega)
            rw [show j - 1 + 1 = j by omega] at q
            rw [q] at z
            have vj := v (j - 1) (by omega)
            exact Or.inr ⟨j - 1, by omega, by omega, hi _ _ vj.1 vj.2 s0 s1 z⟩
      · by_cases g : r = k
        · rw [g]
          exact ⟨c3, cl⟩
        · exact c2 r a (by omega)
  have m := main R.toNat (by omega)
  rw [show ((R.toNat : Nat) : Int) = R by omega] at m
  exact m
end RI
