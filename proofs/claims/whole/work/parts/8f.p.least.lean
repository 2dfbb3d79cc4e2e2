/-! ===== the giving: the best row of a list of calls ===== -/
section GVp
variable {M K A W Z X Y V : qm} {a b d i k p q v w T y fl bh sp : Int} {c n s x r C : Nat} {l t u pre : List Int} {B B' : Int × List Int} {cost : List Int → Int} {ok : List Int → Prop}
theorem bs1_y (h : ok l ∧ cost l < B.1) : bs1 cost ok B l = (cost l, l) := by
  unfold bs1
  exact if_pos h
theorem bs1_n (h : ¬ (ok l ∧ cost l < B.1)) : bs1 cost ok B l = B := by
  unfold bs1
  exact if_neg h
theorem fold_any : ∀ (ls : List (List Int)) (B B' : Int × List Int), (∀ l, l ∈ ls → ok l → cost l < B.1 ∧ cost l < B'.1) → (∃ l, l ∈ ls ∧ ok l) → ls.foldl (bs1 cost ok) B = ls.foldl (bs1 cost ok) B' := by
  intro ls
  induction ls with
  | nil =>
    rintro B B' _ ⟨l, h, _⟩
    cases h
  | cons a t ih =>
    intro B B' h hx
    rw [List.foldl_cons, List.foldl_cons]
    by_cases g : ok a
    · have q := h a List.mem_cons_self g
      rw [bs1_y ⟨g, q.1⟩, bs1_y ⟨g, q.2⟩]
    · rw [bs1_n (fun z => g z.1), bs1_n (fun z => g z.1)]
      refine ih B B' (fun l hl => h l (List.mem_cons_of_mem _ hl)) ?_
      obtain ⟨l, hl, ol⟩ := hx
      rcases List.mem_cons.mp hl with e | hl
      · rw [e] at ol
        exact absurd ol g
      · exact ⟨l, hl, ol⟩
theorem fold_in : ∀ (ls : List (List Int)) (B : Int × List Int), ls.foldl (bs1 cost ok) B = B ∨ ∃ l, l ∈ ls ∧ ok l ∧ ls.foldl (bs1 cost ok) B = (cost l, l) := by
  intro ls
  induction ls with
  | nil => exact fun B => Or.inl rfl
  | cons a t ih =>
    intro B
    rw [List.foldl_cons]
    by_cases g : ok a ∧ cost a < B.1
    · rw [bs1_y g]
      rcases ih (cost a, a) with h | ⟨l, h1, h2, h3⟩
      · exact Or.inr ⟨a, List.mem_cons_self, g.1, h⟩
      · exact Or.inr ⟨l, List.mem_cons_of_mem _ h1, h2, h3⟩
    · rw [bs1_n g]
      rcases ih B with h | ⟨l, h1, h2, h3⟩
      · exact Or.inl h
      · exact Or.inr ⟨l, List.mem_cons_of_mem _ h1, h2, h3⟩
theorem fold_got : ∀ (ls : List (List Int)) (B : Int × List Int), (∀ l, l ∈ ls → ok l → cost l < B.1) → (∃ l, l ∈ ls ∧ ok l) → ∃ l, l ∈ ls ∧ ok l ∧ ls.foldl (bs1 cost ok) B = (cost l, l) := by
  intro ls
  induction ls with
  | nil =>
    rintro B _ ⟨l, h, _⟩
    cases h
  | cons a t ih =>
    intro B h hx
    rw [List.foldl_cons]
    by_cases g : ok a
    · rw [bs1_y ⟨g, h a List.mem_cons_self g⟩]
      rcases fold_in t (cost a, a) with e | ⟨l, h1, h2, h3⟩
      · exact ⟨a, List.mem_cons_self, g, e⟩
      · exact ⟨l, List.mem_cons_of_mem _ h1, h2, h3⟩
    · rw [bs1_n (fun z => g z.1)]
      obtain ⟨l, hl, ol⟩ := hx
      rcases List.mem_cons.mp hl with e | hl
      · rw [e] at ol
        exact absurd ol g
      · obtain ⟨l2, h1, h2, h3⟩ := ih B (fun l hl => h l (List.mem_cons_of_mem _ hl)) ⟨l, hl, ol⟩
        exact ⟨l2, List.mem_cons_of_mem _ h1, h2, h3⟩
/-- calls that can be gone through -/
def GDL (K : qm) (i : Int) (l : List Int) : Prop := l.Pairwise (· < ·) ∧ l.length ≤ 6 ∧ (∀ x, x ∈ l → CLL K x) ∧ ∀ x y, x ∈ l → y ∈ l → K 2280 x 0 = i → K 2280 y 0 = i → x = y
theorem ok_ex (h : GDL K i l) : ∃ t, t ∈ prm l.length l ∧ okRow K i t := by
  have nd : l.Nodup := List.Pairwise.imp (fun z => Int.ne_of_lt z) h.1
  by_cases g : ∃ y, y ∈ l ∧ K 2280 y 0 = i
  · obtain ⟨y, hy, ey⟩ := g
    have pos := List.length_pos_of_mem hy
    obtain ⟨m, hm⟩ : ∃ m, l.length = m + 1 := ⟨l.length - 1, by omega⟩
    obtain ⟨r, hr⟩ := prm_head m (l.erase y) (by rw [List.length_erase_of_mem hy]; omega)
    refine ⟨y :: l.erase y, ?_, fun z hz e => ?_⟩
    · rw [hm]
      refine List.mem_flatMap.mpr ⟨y, hy, List.mem_map.mpr ⟨l.erase y, ?_, rfl⟩⟩
      rw [hr]
      exact List.mem_cons_self
    · have hz' : z ∈ l.erase y := hz
      rw [nd.mem_erase_iff] at hz'
      exact hz'.1 (h.2.2.2 z y hz'.2 hy e ey)
  · obtain ⟨r, hr⟩ := prm_head l.length l rfl
    refine ⟨l, ?_, fun z hz e => g ⟨z, List.mem_of_mem_tail hz, e⟩⟩
    rw [hr]
    exact List.mem_cons_self
noncomputable def bst (K : qm) (i : Int) (l : List Int) : Int × List Int := (prm l.length l).foldl (rok K i) (1152921504606846976, [])
theorem cost_b (hc : CAR K i) (h : GDL K i l) (ht : t ∈ prm l.length l) : 0 ≤ rco K i (K 2272 i 0) (bhd K i) t ∧ rco K i (K 2272 i 0) (bhd K i) t ≤ 180000000 := by
  have pm := prm_perm l.length l t rfl ht
  have bb := bhd_b hc
  have hh := hc
  unfold CAR at hh
  have q := rco_b hc t 0 (K 2272 i 0) (bhd K i) (by omega) (by omega) bb.1 (by omega) (by rw [pm.length_eq]; have := h.2.1; omega) (fun y hy => h.2.2.1 y (pm.mem_iff.mp hy))
  have := h.2.1
  rw [pm.length_eq] at q
  omega
theorem bst_any (hc : CAR K i) (h : GDL K i l) (hB : 1152921504606846976 ≤ B.1) : (prm l.length l).foldl (rok K i) B = bst K i l := by
  unfold bst rok
  exact fold_any _ _ _ (fun t ht _ => by have := cost_b hc h ht; exact ⟨by omega, by show _ < (1152921504606846976 : Int); omega⟩) (ok_ex h)
theorem bst_got (hc : CAR K i) (h : GDL K i l) : (bst K i l).2.Perm l ∧ 0 ≤ (bst K i l).1 ∧ (bst K i l).1 ≤ 180000000 := by
  obtain ⟨t, h1, h2, h3⟩ := fold_got (cost := rco K i (K 2272 i 0) (bhd K i)) (ok := okRow K i) (prm l.length l) (1152921504606846976, []) (fun t ht _ => by have := cost_b hc h ht; show _ < (1152921504606846976 : Int); omega) (ok_ex h)
  have e : bst K i l = (rco K i (K 2272 i 0) (bhd K i) t, t) := h3
  rw [e]
  exact ⟨prm_perm l.length l t rfl h1, cost_b hc h h1⟩
theorem calc_g (h : LKC M K n c) : GDL K c (calC M x n) := by
  have n6 := h.2.1
  refine ⟨?_, ?_, fun y hy => calc_l h hy, fun y z hy hz ey ez => ?_⟩
  · refine map_pw _ (bts_pw n 0) (fun y z hy hz yz => ?_)
    obtain ⟨j1, a1, a2, a3, _⟩ := (bts_in n 0 y).mp hy
    obtain ⟨j2, b1, b2, b3, _⟩ := (bts_in n 0 z).mp hz
    exact h.2.2.2.2.2.2.2.2 y z (by omega) yz (by omega)
  · unfold calC
    rw [List.length_map]
    have := bts_len (x := x) n 0
    omega
  · obtain ⟨k1, a1, _, a2⟩ := calc_m h hy
    obtain ⟨k2, b1, _, b2⟩ := calc_m h hz
    rw [a2] at ey
    rw [b2] at ez
    have p1 := (h.2.2.2.2.2.2.2.1 k1 (by omega) (by omega)).2.2.2.2.mp ey
    have p2 := (h.2.2.2.2.2.2.2.1 k2 (by omega) (by omega)).2.2.2.2.mp ez
    rw [a2, b2, ← p1, ← p2]
/-- the class's least cost of a set, and its row -/
theorem least_C (h : LKC M K n c) (hx : x < 64) (hb : ∀ i, n ≤ i → i < 6 → bitN x i = false) : ∃ Y, qf_X3_leastRowCost 20000 c x M = some ((bst K c (calC M x n)).1, Y) ∧ TRF M Y ∧ rl (fun k => M 1744 (Y 2153 k 0) 0) (bts x n 0).length 0 = (bst K c (calC M x n)).2 ∧ ∀ k, 0 ≤ k → k < ((bts x n 0).length : Int) → 0 ≤ Y 2153 k 0 ∧ Y 2153 k 0 < n := by
  have n6 := h.2.1
  have hcar := h.2.2.1
  have hc4 := hcar
  unfold CAR at hc4
  have bb := bhd_b hcar
  have l6 := bts_len (x := x) n 0
  have lc : (calC M x n).length = (bts x n 0).length := by
    unfold calC
    rw [List.length_map]
  obtain ⟨Z, hZ⟩ : ∃ Z, qw M 1337 12 0 9223372036854775807 = Z := ⟨_, rfl⟩
  have fZ : TRF M Z := fun e x y z1 z2 z3 => by rw [← hZ, qw_ap, if_neg (by omega)]
  obtain ⟨Y, e1, f1, _, hB⟩ := try_C h (s := (bts x n 0).length) (by omega) (bts x n 0).length x 0 12 (K 2272 c 0) (bhd K c) 0 [] Z (9223372036854775807, rl (fun k => M 1744 (Z 2153 k 0) 0) (bts x n 0).length 0) rfl (by omega) (by omega) hx hb fZ rfl (fun k k0 k1 => by omega) (by omega) (by omega) bb.1 (by omega) (by omega) (by omega) ⟨by rw [← hZ]; exact qw_s, rfl, fun z => absurd z (by show ¬ (9223372036854775807 : Int) < 9223372036854775807; omega)⟩ (fun t => by show rco K c (K 2272 c 0) (bhd K c) t = 0 + _; omega) (fun z => by omega)
  have em : (fun t : List Int => [] ++ t) = id := funext (fun t => rfl)
  rw [em, List.map_id, ← lc, bst_any hcar (calc_g h) (by show (1152921504606846976 : Int) ≤ 9223372036854775807; omega)] at hB
  have got := bst_got hcar (calc_g (x := x) h)
  refine ⟨Y, ?_, f1, by rw [← lc]; exact hB.2.1, fun k k0 k1 => hB.2.2 (by omega) k k0 (by omega)⟩
  unfold qf_X3_leastRowCost qbnd
  (try dsimp only)
  rw [hZ, if_pos (show 0 ≤ (c : Int) ∧ (c : Int) < 4 from ⟨hc4.1, hc4.2.1⟩), if_pos (show 0 ≤ (c : Int) ∧ (c : Int) < 4 from ⟨hc4.1, hc4.2.1⟩)]
  have eb : max 0 (w32 (Z 1338 c 2 - Z 1337 7 0)) = bhd K c := by
    rw [show Z 1338 c 2 = K 2273 c 0 from (fZ _ _ _ (by decide) (by decide) (by omega)).trans h.2.2.2.2.2.1, show Z 1337 7 0 = K 2270 12 0 from (fZ _ _ _ (by decide) (by decide) (by omega)).trans h.2.2.2.2.2.2.1, w32_id (by omega) (by omega)]
    unfold bhd
    by_cases g : K 2273 c 0 ≤ K 2270 12 0
    · rw [if_pos g]
      omega
    · rw [if_neg g]
      omega
  rw [eb, show Z 1338 c 0 = K 2272 c 0 from (fZ _ _ _ (by decide) (by decide) (by omega)).trans h.2.2.2.2.1]
  unfold qf_X3_tryRows
  have e1' : qr_X3_tryRows 20000 12 c x 0 (K 2272 c 0) (bhd K c) 0 Z = some ((), Y) := e1
  rw [e1']
  simp only [Option.bind_some]
  rw [hB.1]
/-- what stands in the reference for a set -/
theorem fbr_b (hc : CAR K c) (h : GDL K c (cal K r C)) (hf : FBR K Y c r C d) : ((∀ k, k ∈ bts r C 0 → mayT K c (K 2281 k 0)) ∧ Y 2283 d 0 = (bst K c (cal K r C)).1 ∧ rl (fun k => Y 2284 (6 * d + k) 0) (cal K r C).length 0 = (bst K c (cal K r C)).2) ∨ ((∃ k, k ∈ bts r C 0 ∧ ¬ mayT K c (K 2281 k 0)) ∧ Y 2283 d 0 = 1152921504606846976) := by
  rcases hf with ⟨h1, l0, h2, h3⟩ | h
  · rw [bst_any hc h (Int.le_refl _)] at h2 h3
    exact Or.inl ⟨h1, h2, h3⟩
  · exact Or.inr h
end GVp
