/-! ===== the giving: the cars that may take a call ===== -/
section GVi
variable {M K A W Z X Y : qm} {a b c d i j k p q v w T x y : Int} {m n s r : Nat}
def mayT (K : qm) (c x : Int) : Prop := K 2274 c 0 ≤ K 2276 x 0 ∧ K 2276 x 0 ≤ K 2275 c 0 ∧ K 2274 c 0 ≤ K 2277 x 0 ∧ K 2277 x 0 ≤ K 2275 c 0 ∧ (K 2280 x 0 < 0 ∨ K 2280 x 0 = c)
theorem bit_add_all : ((List.range 64).all (fun x => (List.range 6).all (fun k => (List.range 6).all (fun j => bitN x k || (bitN (x + 2 ^ k) j == (bitN x j || j == k)))))) = true := by decide +kernel
theorem bit_add (hn : n < 64) (hm : m < 6) (hr : r < 6) (h : bitN n m = false) : bitN (n + 2 ^ m) r = (bitN n r || r == m) := by
  have q := all_2 (f := fun x k => (List.range 6).all (fun j => bitN x k || (bitN (x + 2 ^ k) j == (bitN x j || j == k)))) bit_add_all hn hm
  rw [List.all_eq_true] at q
  have q1 := q r (List.mem_range.mpr hr)
  rw [h] at q1
  simpa using q1
theorem bO_z_all : ((List.range 64).all (fun x => (List.range 1).all (fun _ => bO (x : Int) 0 == (x : Int)))) = true := by decide +kernel
theorem bO_z (hn : n < 64) : bO (n : Int) 0 = n := beq_iff_eq.mp (all_2 (m := 0) bO_z_all hn (by decide))
theorem bit_eq_all : ((List.range 16).all (fun x => (List.range 16).all (fun y => !((List.range 4).all (fun j => bitN x j == bitN y j)) || x == y))) = true := by decide +kernel
theorem bit_eq (hn : n < 16) (hm : m < 16) (h : ∀ j, j < 4 → bitN n j = bitN m j) : n = m := by
  have q := all_2 (f := fun x y => !((List.range 4).all (fun j => bitN x j == bitN y j)) || x == y) bit_eq_all hn hm
  have e : ((List.range 4).all (fun j => bitN n j == bitN m j)) = true := by
    rw [List.all_eq_true]
    intro j hj
    rw [h j (List.mem_range.mp hj)]
    exact beq_self_eq_true _
  rw [e] at q
  simpa using q
theorem bit_lo_all : ((List.range 64).all (fun x => (List.range 6).all (fun k => !(decide (x < 2 ^ k)) || !(bitN x k)))) = true := by decide +kernel
theorem bit_lo (hm : m < 6) (h : n < 2 ^ m) : bitN n m = false := by
  have p : 2 ^ m ≤ 32 := by
    have c : m = 0 ∨ m = 1 ∨ m = 2 ∨ m = 3 ∨ m = 4 ∨ m = 5 := (by omega)
    rcases c with rfl | rfl | rfl | rfl | rfl | rfl <;> decide
  have q := all_2 (f := fun x k => !(decide (x < 2 ^ k)) || !(bitN x k)) bit_lo_all (show n < 64 by omega) hm
  rw [decide_eq_true h] at q
  simpa using q
theorem reaches_K (c0 : 0 ≤ c) (c1 : c < 4) (x0 : 0 ≤ x) (x1 : x < 400) : qf_X13_reaches 20000 c x K = some (b01 (K 2274 c 0 ≤ K 2276 x 0 ∧ K 2276 x 0 ≤ K 2275 c 0 ∧ K 2274 c 0 ≤ K 2277 x 0 ∧ K 2277 x 0 ≤ K 2275 c 0)) := by
  unfold qf_X13_reaches
  simp only [if_pos (show 0 ≤ x ∧ x < 400 from ⟨x0, x1⟩), if_pos (show 0 ≤ c ∧ c < 4 from ⟨c0, c1⟩)]
  by_cases g1 : K 2276 x 0 < K 2274 c 0
  · rw [if_pos g1, b01_f (by omega)]
  · rw [if_neg g1]
    by_cases g2 : K 2275 c 0 < K 2276 x 0
    · rw [if_pos g2, b01_f (by omega)]
    · rw [if_neg g2]
      by_cases g3 : K 2277 x 0 < K 2274 c 0
      · rw [if_pos g3, b01_f (by omega)]
      · rw [if_neg g3]
        by_cases g4 : K 2275 c 0 < K 2277 x 0
        · rw [if_pos g4, b01_f (by omega)]
        · rw [if_neg g4, b01_t (by omega)]
theorem pow_4 (h : m ≤ 4) : 2 ^ m ≤ 16 := by
  have c : m = 0 ∨ m = 1 ∨ m = 2 ∨ m = 3 ∨ m = 4 := (by omega)
  rcases c with rfl | rfl | rfl | rfl | rfl <;> decide
theorem carsOf_K (n0 : 0 ≤ K 2270 0 0) (n1 : K 2270 0 0 ≤ 4) (x0 : 0 ≤ x) (x1 : x < 400) (hh : K 2270 13 0 = 0) : ∃ w : Nat, w < 16 ∧ qf_X13_carsOf 20000 x K = some (w : Int) ∧ ∀ j : Nat, j < 4 → (bitN w j = true ↔ (j : Int) < K 2270 0 0 ∧ mayT K j x) := by
  obtain ⟨o, e1, w, rfl, w1, w2⟩ : qW (qf_X13_carsOf_L4 20000 20000 x 0 0 K) (fun o => ∃ w : Nat, o = .inr (w : Int) ∧ w < 16 ∧ ∀ j : Nat, j < 4 → (bitN w j = true ↔ (j : Int) < K 2270 0 0 ∧ mayT K j x)) := by
    unfold qf_X13_carsOf_L4
    refine qW_for (K 2270 0 0) (fun i s => ∃ w : Nat, s = (x, (w : Int), i) ∧ w < 2 ^ i.toNat ∧ ∀ j : Nat, j < 4 → (bitN w j = true ↔ (j : Int) < i ∧ mayT K j x)) ?_ ?_ ⟨0, rfl, by decide, fun j j1 => ?_⟩ n0 (by omega)
    · rintro i _ i0 i1 ⟨w, rfl, hw, h⟩
      obtain ⟨I, rfl⟩ : ∃ I : Nat, i = I := ⟨i.toNat, by omega⟩
      rw [show ((I : Int)).toNat = I by omega] at hw
      have p4 := pow_4 (show I ≤ 4 by omega)
      have pe : 2 ^ (I + 1) = 2 ^ I + 2 ^ I := by rw [Nat.pow_succ]; omega
      have off := bit_lo (show I < 6 by omega) hw
      have st : qf_X13_carsOf_L4_b 20000 x (w : Int) (I : Int) K = (if b01 (mayT K I x) = 0 then some (.inr (x, (w : Int), (I : Int) + 1)) else some (.inr (x, ((w + 2 ^ I : Nat) : Int), (I : Int) + 1))) := by
        unfold qf_X13_carsOf_L4_b qf_X13_carsOf_J54 qf_X13_carsOf_J48 qf_X13_carsOf_J55
        rw [if_neg (by omega), if_pos hh, reaches_K (by omega) (by omega) x0 x1]
        simp only [Option.bind_some, if_pos (show 0 ≤ x ∧ x < 400 from ⟨x0, x1⟩)]
        rw [bO_z (show w < 64 by omega), bit_o (show w < 64 by omega) (show I < 6 by omega), off, if_neg (show ¬ false = true by decide), w32_id (x := (I : Int) + 1) (by omega) (by omega)]
        by_cases g : K 2274 I 0 ≤ K 2276 x 0 ∧ K 2276 x 0 ≤ K 2275 I 0 ∧ K 2274 I 0 ≤ K 2277 x 0 ∧ K 2277 x 0 ≤ K 2275 I 0
        · rw [b01_t g, if_neg (by decide)]
          by_cases g1 : K 2280 x 0 < 0
          · rw [if_pos g1, b01_t (show mayT K I x by unfold mayT; omega), if_neg (by decide)]
          · rw [if_neg g1]
            by_cases g2 : K 2280 x 0 = I
            · rw [if_pos g2, b01_t (show mayT K I x by unfold mayT; omega), if_neg (by decide)]
            · rw [if_neg g2, b01_f (show ¬ mayT K I x by unfold mayT; omega), if_pos rfl]
        · rw [b01_f g, if_pos rfl, b01_f (show ¬ mayT K I x by unfold mayT; omega), if_pos rfl]
      show qW (qf_X13_carsOf_L4_b 20000 x (w : Int) (I : Int) K) _
      rw [st]
      by_cases g : mayT K I x
      · rw [b01_t g, if_neg (by decide)]
        refine qW_some ⟨w + 2 ^ I, rfl, ?_, fun j j1 => ?_⟩
        · rw [show ((I : Int) + 1).toNat = I + 1 by omega, pe]
          omega
        · rw [bit_add (show w < 64 by omega) (show I < 6 by omega) (show j < 6 by omega) off, Bool.or_eq_true, h j j1, beq_iff_eq]
          by_cases e : j = I
          · rw [e]
            exact ⟨fun _ => ⟨by omega, g⟩, fun _ => Or.inr rfl⟩
          · exact ⟨fun z => z.elim (fun y => ⟨by omega, y.2⟩) (fun y => absurd y e), fun z => Or.inl ⟨by omega, z.2⟩⟩
      · rw [b01_f g, if_pos rfl]
        refine qW_some ⟨w, rfl, ?_, fun j j1 => ?_⟩
        · rw [show ((I : Int) + 1).toNat = I + 1 by omega, pe]
          omega
        · rw [h j j1]
          by_cases e : j = I
          · rw [e]
            exact ⟨fun z => absurd z.2 g, fun z => absurd z.2 g⟩
          · exact ⟨fun z => ⟨by omega, z.2⟩, fun z => ⟨by omega, z.2⟩⟩
    · rintro _ ⟨w, rfl, hw, h⟩
      have p4 := pow_4 (show (K 2270 0 0).toNat ≤ 4 by omega)
      show qW (qf_X13_carsOf_L4_b 20000 x (w : Int) (K 2270 0 0) K) _
      unfold qf_X13_carsOf_L4_b
      rw [if_pos (Int.le_refl _)]
      exact qW_some ⟨w, rfl, by omega, h⟩
    · have z : bitN 0 j = false := by
        have c : j = 0 ∨ j = 1 ∨ j = 2 ∨ j = 3 := (by omega)
        rcases c with rfl | rfl | rfl | rfl <;> decide
      rw [z]
      exact ⟨fun y => (by cases y), fun y => (by omega)⟩
  refine ⟨w, w1, ?_, w2⟩
  unfold qf_X13_carsOf
  rw [e1]
  rfl
end GVi
