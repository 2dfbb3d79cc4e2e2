/-! ===== the block program: the order of its blocks ===== -/
theorem pigeon : ∀ (n : Nat) (q : Int → Int), (∀ k : Int, 0 ≤ k → k < n → 0 ≤ q k ∧ q k < n) → (∀ j k : Int, 0 ≤ j → j < k → k < n → q j ≠ q k) → ∀ b : Int, 0 ≤ b → b < n → ∃ k : Int, 0 ≤ k ∧ k < n ∧ q k = b := by
  intro n
  induction n with
  | zero => intro q _ _ b h0 h1; omega
  | succ n ih =>
    intro q hr hi b h0 h1
    have hn := hr n (by omega) (by omega)
    have hq : ∀ k : Int, 0 ≤ k → k < (n : Int) → q k ≠ q n := fun k a c => hi k n a (by omega) (by omega)
    have h2 := ih (fun k => if q k = n then q n else q k) (by
      intro k a c
      have e1 := hr k a (by omega)
      have e2 := hq k a c
      split <;> omega) (by
      intro j k a c d
      have e1 := hi j k a c (by omega)
      have e2 := hq j a (by omega)
      have e3 := hq k (by omega) d
      split <;> split <;> omega)
    by_cases e : b = q n
    · exact ⟨n, by omega, by omega, e.symm⟩
    · by_cases e2 : b = n
      · obtain ⟨k, a, c, d⟩ := h2 (q n) (by omega) (by omega)
        have e3 := hq k a c
        by_cases e4 : q k = n
        · exact ⟨k, a, by omega, by omega⟩
        · rw [if_neg e4] at d
          omega
      · obtain ⟨k, a, c, d⟩ := h2 b h0 (by omega)
        by_cases e4 : q k = n
        · rw [if_pos e4] at d
          omega
        · rw [if_neg e4] at d
          exact ⟨k, a, by omega, d⟩
theorem k26 {k : Int} {P : Int → Prop} (h0 : 0 ≤ k) (h1 : k < 26) (h : P 0 ∧ P 1 ∧ P 2 ∧ P 3 ∧ P 4 ∧ P 5 ∧ P 6 ∧ P 7 ∧ P 8 ∧ P 9 ∧ P 10 ∧ P 11 ∧ P 12 ∧ P 13 ∧ P 14 ∧ P 15 ∧ P 16 ∧ P 17 ∧ P 18 ∧ P 19 ∧ P 20 ∧ P 21 ∧ P 22 ∧ P 23 ∧ P 24 ∧ P 25) : P k := by
  obtain ⟨p0, p1, p2, p3, p4, p5, p6, p7, p8, p9, p10, p11, p12, p13, p14, p15, p16, p17, p18, p19, p20, p21, p22, p23, p24, p25⟩ := h
  have e : k = 0 ∨ k = 1 ∨ k = 2 ∨ k = 3 ∨ k = 4 ∨ k = 5 ∨ k = 6 ∨ k = 7 ∨ k = 8 ∨ k = 9 ∨ k = 10 ∨ k = 11 ∨ k = 12 ∨ k = 13 ∨ k = 14 ∨ k = 15 ∨ k = 16 ∨ k = 17 ∨ k = 18 ∨ k = 19 ∨ k = 20 ∨ k = 21 ∨ k = 22 ∨ k = 23 ∨ k = 24 ∨ k = 25 := by omega
  rcases e with rfl | rfl | rfl | rfl | rfl | rfl | rfl | rfl | rfl | rfl | rfl | rfl | rfl | rfl | rfl | rfl | rfl | rfl | rfl | rfl | rfl | rfl | rfl | rfl | rfl | rfl <;> assumption
theorem inputs_r {M : qm} {k : Int} (h0 : 0 ≤ k) (h1 : k < 26) : qf_X17_inputs 20000 k M = some (qT5 k) := k26 (P := fun k => qf_X17_inputs 20000 k M = some (qT5 k)) h0 h1 ⟨rfl, rfl, rfl, rfl, rfl, rfl, rfl, rfl, rfl, rfl, rfl, rfl, rfl, rfl, rfl, rfl, rfl, rfl, rfl, rfl, rfl, rfl, rfl, rfl, rfl, rfl⟩
theorem qT5_r {k : Int} (h0 : 0 ≤ k) (h1 : k < 26) : 0 ≤ qT5 k ∧ qT5 k ≤ 3 := k26 (P := fun k => 0 ≤ qT5 k ∧ qT5 k ≤ 3) h0 h1 (by decide)
/-- all that a block comes behind is placed -/
def mc (K : Int → Int) (W : Int → Int → Int) (P : Int → Prop) (b : Int) : Prop := K b = 16 ∨ ∀ i, 0 ≤ i → i < qT5 (K b) → W b i = -1 ∨ P (W b i)
theorem mc_c {K K' : Int → Int} {W W' : Int → Int → Int} {P P' : Int → Prop} {b n : Int} (hk : K b = K' b) (hw : ∀ i, 0 ≤ i → i < 3 → W b i = W' b i) (hr : 0 ≤ K b ∧ K b < 26) (hb : ∀ i, 0 ≤ i → i < 3 → W b i = -1 ∨ (0 ≤ W b i ∧ W b i < n)) (hp : ∀ c, 0 ≤ c → c < n → (P c ↔ P' c)) : mc K W P b ↔ mc K' W' P' b := by
  have h3 := qT5_r hr.1 hr.2
  unfold mc
  rw [← hk]
  refine or_congr Iff.rfl ⟨fun h i a c => ?_, fun h i a c => ?_⟩
  · rw [← hw i a (by omega)]
    rcases h i a c with q | q
    · exact Or.inl q
    · rcases hb i a (by omega) with r | r
      · exact Or.inl r
      · exact Or.inr ((hp _ r.1 r.2).mp q)
  · have h4 := h i a c
    rw [← hw i a (by omega)] at h4
    rcases h4 with q | q
    · exact Or.inl q
    · rcases hb i a (by omega) with r | r
      · exact Or.inl r
      · exact Or.inr ((hp _ r.1 r.2).mpr q)
/-- placed by the first k -/
def pk (q : Int → Int) (k : Int) (b : Int) : Prop := ∃ j, 0 ≤ j ∧ j < k ∧ q j = b
/-- the least that may come stands at k -/
def lst (n : Int) (K : Int → Int) (W : Int → Int → Int) (q : Int → Int) (k : Int) : Prop := 0 ≤ q k ∧ q k < n ∧ ¬ pk q k (q k) ∧ mc K W (pk q k) (q k) ∧ ∀ b, 0 ≤ b → b < q k → pk q k b ∨ ¬ mc K W (pk q k) b
def Srt (n : Int) (K : Int → Int) (W : Int → Int → Int) (q : Int → Int) (m : Int) : Prop := 0 ≤ m ∧ m ≤ n ∧ (∀ k, 0 ≤ k → k < m → lst n K W q k) ∧ (∀ b, 0 ≤ b → b < n → pk q m b ∨ ¬ mc K W (pk q m) b) ∧ (∀ k, m ≤ k → k < n → 0 ≤ q k ∧ q k < n ∧ ¬ pk q k (q k) ∧ ∀ b, 0 ≤ b → b < q k → pk q k b)
theorem pk_c {q q' : Int → Int} {k b : Int} (h : ∀ j, 0 ≤ j → j < k → q j = q' j) : pk q k b ↔ pk q' k b := by
  refine ⟨fun ⟨j, a, c, e⟩ => ⟨j, a, c, (h j a c) ▸ e⟩, fun ⟨j, a, c, e⟩ => ⟨j, a, c, (h j a c).symm ▸ e⟩⟩
theorem mc_pk {n : Int} {K : Int → Int} {W : Int → Int → Int} {q q' : Int → Int} {k b : Int} (h : ∀ j, 0 ≤ j → j < k → q j = q' j) : mc K W (pk q k) b ↔ mc K W (pk q' k) b := by
  have e : pk q k = pk q' k := funext (fun b => propext (pk_c h))
  rw [e]
/-- there is but one such order -/
theorem Srt_one {n m m' : Int} {K : Int → Int} {W : Int → Int → Int} {q q' : Int → Int} (h : Srt n K W q m) (h' : Srt n K W q' m') : m = m' ∧ ∀ k, 0 ≤ k → k < n → q k = q' k := by
  obtain ⟨a1, a2, a3, a4, a5⟩ := h
  obtain ⟨b1, b2, b3, b4, b5⟩ := h'
  have key : ∀ (k : Nat), (k : Int) ≤ n → (∀ j, 0 ≤ j → j < (k : Int) → q j = q' j) ∧ ((k : Int) ≤ m ↔ (k : Int) ≤ m') := by
    intro k
    induction k with
    | zero => intro _; exact ⟨fun j _ _ => by omega, by omega⟩
    | succ k ih =>
      intro hk
      obtain ⟨e, em⟩ := ih (by omega)
      have pe : ∀ b, pk q k b ↔ pk q' k b := fun b => pk_c e
      have me : ∀ b, mc K W (pk q k) b ↔ mc K W (pk q' k) b := fun b => mc_pk (n := n) e
      have hm : (k : Int) < m ↔ (k : Int) < m' := by
        constructor
        · intro g
          by_cases g2 : (k : Int) < m'
          · exact g2
          · exfalso
            have e2 : m' = k := by omega
            obtain ⟨l1, l2, l3, l4, l5⟩ := a3 k (by omega) g
            rcases b4 (q k) l1 l2 with p | p
            · rw [e2] at p
              exact l3 ((pe _).mpr p)
            · rw [e2] at p
              exact p ((me _).mp l4)
        · intro g
          by_cases g2 : (k : Int) < m
          · exact g2
          · exfalso
            have e2 : m = k := by omega
            obtain ⟨l1, l2, l3, l4, l5⟩ := b3 k (by omega) g
            rcases a4 (q' k) l1 l2 with p | p
            · rw [e2] at p
              exact l3 ((pe _).mp p)
            · rw [e2] at p
              exact p ((me _).mpr l4)
      have hq : q k = q' k := by
        by_cases g : (k : Int) < m
        · obtain ⟨l1, l2, l3, l4, l5⟩ := a3 k (by omega) g
          obtain ⟨r1, r2, r3, r4, r5⟩ := b3 k (by omega) (hm.mp g)
          rcases Int.lt_trichotomy (q k) (q' k) with c | c | c
          · exfalso
            rcases r5 (q k) l1 c with p | p
            · exact l3 ((pe _).mpr p)
            · exact p ((me _).mp l4)
          · exact c
          · exfalso
            rcases l5 (q' k) r1 c with p | p
            · exact r3 ((pe _).mp p)
            · exact p ((me _).mpr r4)
        · have g2 : ¬ (k : Int) < m' := fun x => g (hm.mpr x)
          obtain ⟨l1, l2, l3, l4⟩ := a5 k (by omega) (by omega)
          obtain ⟨r1, r2, r3, r4⟩ := b5 k (by omega) (by omega)
          rcases Int.lt_trichotomy (q k) (q' k) with c | c | c
          · exact absurd ((pe _).mpr (r4 (q k) l1 c)) l3
          · exact c
          · exact absurd ((pe _).mp (l4 (q' k) r1 c)) r3
      refine ⟨fun j a c => ?_, by omega⟩
      by_cases ej : j = k
      · rw [ej]; exact hq
      · exact e j a (by omega)
  have hn := key n.toNat (by omega)
  refine ⟨?_, fun k a c => hn.1 k a (by omega)⟩
  have k1 := (key m.toNat (by omega)).2
  have k2 := (key m'.toNat (by omega)).2
  omega
