/-! ===== the giving: rows of calls; what a row costs at most; a car's and calls' facts on both sides ===== -/
section GVn
variable {M K A W Z X Y V : qm} {a b d i j k p q v w T x y fl bh sp : Int} {c m n s r N : Nat} {l t u pre : List Int} {B : Int × List Int} {f : Int → Int}
theorem w32_t (h : n < 1000) : w32 ((n : Int) + 1) = (n : Int) + 1 := w32_id (by omega) (by omega)
theorem w32_s (h : n < 1000) : w32 ((n : Int) + 1) = ((n + 1 : Nat) : Int) := by
  rw [w32_t h]
  rfl
theorem prm_perm : ∀ (m : Nat) (l t : List Int), l.length = m → t ∈ prm m l → t.Perm l := by
  intro m
  induction m with
  | zero =>
    intro l t h ht
    cases l with
    | nil =>
      have e : t ∈ [([] : List Int)] := ht
      rw [List.mem_singleton] at e
      rw [e]
    | cons a r => cases h
  | succ m ih =>
    intro l t h ht
    have e : t ∈ l.flatMap (fun a => (prm m (l.erase a)).map (fun t => a :: t)) := ht
    obtain ⟨a, ha, e⟩ := List.mem_flatMap.mp e
    obtain ⟨t', ht', e⟩ := List.mem_map.mp e
    rw [← e]
    have q := ih (l.erase a) t' (by rw [List.length_erase_of_mem ha]; omega) ht'
    exact (List.Perm.cons a q).trans (List.perm_cons_erase ha).symm
theorem rco_c : rco K i fl bh (x :: t) = wgt K x * (bh + K 2271 i 0 * qd fl (K 2276 x 0)) + (bh + K 2271 i 0 * qd fl (K 2276 x 0) + (3 + K 2271 i 0 * qd (K 2276 x 0) (K 2277 x 0))) + rco K i (K 2277 x 0) (bh + K 2271 i 0 * qd fl (K 2276 x 0) + (3 + K 2271 i 0 * qd (K 2276 x 0) (K 2277 x 0)) + 3) t := rfl
/-- one call: pick at P, set at S; what it costs -/
theorem one_b (h : CAR K i) (hc : CLL K x) (f0 : 0 ≤ fl) (f1 : fl < 60) (b0 : 0 ≤ bh) (b1 : bh ≤ 106000) : 0 ≤ K 2271 i 0 * qd fl (K 2276 x 0) ∧ K 2271 i 0 * qd fl (K 2276 x 0) ≤ 295 ∧ 0 ≤ K 2271 i 0 * qd (K 2276 x 0) (K 2277 x 0) ∧ K 2271 i 0 * qd (K 2276 x 0) (K 2277 x 0) ≤ 295 ∧ 0 ≤ wgt K x * (bh + K 2271 i 0 * qd fl (K 2276 x 0)) ∧ wgt K x * (bh + K 2271 i 0 * qd fl (K 2276 x 0)) ≤ 22110000 ∧ 1 ≤ wgt K x ∧ wgt K x ≤ 201 := by
  have cl := hc
  unfold CLL at cl
  have hh := h
  unfold CAR at hh
  have w := wgt_b hc (by omega)
  have q1 := qd_b f0 f1 cl.2.2.1 cl.2.2.2.1
  have q2 := qd_b cl.2.2.1 cl.2.2.2.1 cl.2.2.2.2.1 cl.2.2.2.2.2.1
  have p1 := sp_b hh.2.2.1 hh.2.2.2.1 q1.1 q1.2
  have p2 := sp_b hh.2.2.1 hh.2.2.2.1 q2.1 q2.2
  have p3 := wt_b (v := wgt K x) (n := bh + K 2271 i 0 * qd fl (K 2276 x 0)) (by omega) (by omega) (by omega) (by omega)
  exact ⟨p1.1, p1.2, p2.1, p2.2, p3.1, p3.2, w.1, w.2⟩
theorem rco_b (h : CAR K i) : ∀ (t : List Int) (p : Nat) (fl bh : Int), 0 ≤ fl → fl < 60 → 0 ≤ bh → bh ≤ 100000 + 1000 * p → p + t.length ≤ 6 → (∀ y, y ∈ t → CLL K y) → 0 ≤ rco K i fl bh t ∧ rco K i fl bh t ≤ 30000000 * t.length := by
  intro t
  induction t with
  | nil =>
    intro p fl bh _ _ _ _ _ _
    exact ⟨Int.le_refl 0, Int.le_refl 0⟩
  | cons x t ih =>
    intro p fl bh f0 f1 b0 b1 pl hc
    rw [List.length_cons] at pl ⊢
    have cl := hc x List.mem_cons_self
    have o := one_b h cl f0 f1 b0 (by omega)
    unfold CLL at cl
    obtain ⟨U, hU⟩ : ∃ U, K 2271 i 0 * qd fl (K 2276 x 0) = U := ⟨_, rfl⟩
    obtain ⟨V, hV⟩ : ∃ V, K 2271 i 0 * qd (K 2276 x 0) (K 2277 x 0) = V := ⟨_, rfl⟩
    obtain ⟨G, hG⟩ : ∃ G, wgt K x * (bh + U) = G := ⟨_, rfl⟩
    rw [hU, hV, hG] at o
    have r := ih (p + 1) (K 2277 x 0) (bh + U + (3 + V) + 3) (by omega) (by omega) (by omega) (by omega) (by omega) (fun y hy => hc y (List.mem_cons_of_mem _ hy))
    rw [rco_c, hU, hV, hG]
    omega
/-- a car and the open calls in the class are the reference's -/
def LKC (M K : qm) (n c : Nat) : Prop := M 1337 4 0 = n ∧ n ≤ 6 ∧ CAR K c ∧ M 1338 c 1 = K 2271 c 0 ∧ M 1338 c 0 = K 2272 c 0 ∧ M 1338 c 2 = K 2273 c 0 ∧ M 1337 7 0 = K 2270 12 0 ∧ (∀ k : Int, 0 ≤ k → k < (n : Int) → CLL K (M 1744 k 0) ∧ M 1343 (M 1744 k 0) 0 = K 2276 (M 1744 k 0) 0 ∧ M 1343 (M 1744 k 0) 1 = K 2277 (M 1744 k 0) 0 ∧ M 1343 (M 1744 k 0) 2 = K 2278 (M 1744 k 0) 0 ∧ (K 2280 (M 1744 k 0) 0 = c ↔ M 1338 c 5 = M 1744 k 0)) ∧ ∀ j k : Int, 0 ≤ j → j < k → k < (n : Int) → M 1744 j 0 < M 1744 k 0
/-- besides the rows that are tried all is as in M -/
def TRF (M Z : qm) : Prop := ∀ e x y, e ≠ 2152 → e ≠ 2153 → ¬ (e = 1337 ∧ x = 12) → Z e x y = M e x y
theorem trf_t (f : TRF M Z) (g : TRF Z X) : TRF M X := fun e x y z1 z2 z3 => (g e x y z1 z2 z3).trans (f e x y z1 z2 z3)
theorem lnk_o (f : ∀ e x y, (e = 1338 ∨ e = 1343 ∨ e = 1744 ∨ (e = 1337 ∧ (x = 4 ∨ x = 7))) → Z e x y = M e x y) (h : LKC M K n c) : LKC Z K n c := by
  obtain ⟨h1, h2, h3, h4, h5, h6, h7, h8, h9⟩ := h
  refine ⟨(f _ _ _ (by omega)).trans h1, h2, h3, (f _ _ _ (by omega)).trans h4, (f _ _ _ (by omega)).trans h5, (f _ _ _ (by omega)).trans h6, (f _ _ _ (by omega)).trans h7, fun k k0 k1 => ?_, fun j k j0 jk k1 => ?_⟩
  · rw [f 1744 k 0 (by omega), f 1343 _ 0 (by omega), f 1343 _ 1 (by omega), f 1343 _ 2 (by omega), f 1338 _ 5 (by omega)]
    exact h8 k k0 k1
  · rw [f 1744 j 0 (by omega), f 1744 k 0 (by omega)]
    exact h9 j k j0 jk k1
theorem lnk_i (h : LKC M K n c) (a0 : 0 ≤ a) (a1 : a < n) (b0 : 0 ≤ b) (b1 : b < n) (e : M 1744 a 0 = M 1744 b 0) : a = b := by
  have h9 := h.2.2.2.2.2.2.2.2
  by_cases g : a < b
  · have := h9 a b a0 g b1
    omega
  · by_cases g2 : b < a
    · have := h9 b a b0 g2 a1
      omega
    · omega
theorem wgt_C (h : CLL K x) (hT : M 1337 7 0 = K 2270 12 0) (h6 : K 2270 12 0 ≤ 6000) (h2 : M 1343 x 2 = K 2278 x 0) : qf_X3_weightOf 20000 x M = some (wgt K x) := by
  have b := wgt_b h h6
  unfold CLL at h
  unfold qf_X3_weightOf
  rw [hT, h2, w32_id (x := K 2270 12 0 - K 2278 x 0) (by omega) (by omega), Int.tdiv_eq_ediv_of_nonneg (by omega)]
  unfold wgt at b ⊢
  rw [w32_id (x := 1 + (K 2270 12 0 - K 2278 x 0) / 30) (by omega) (by omega)]
theorem qab_e (a0 : -100 ≤ a - b) (a1 : a - b ≤ 100) : qabs (w32 (a - b)) = qd a b := by
  unfold qabs qd
  rw [w32_id (x := a - b) (by omega) (by omega)]
  by_cases g : 0 ≤ a - b
  · rw [if_pos g, if_pos (show b ≤ a by omega)]
  · rw [if_neg g, if_neg (show ¬ b ≤ a by omega), w32_id (x := 0 - (a - b)) (by omega) (by omega)]
    omega
theorem map_er : ∀ (l : List Int), (∀ y, y ∈ l → f y = f k → y = k) → (l.map f).erase (f k) = (l.erase k).map f := by
  intro l
  induction l with
  | nil => exact fun _ => rfl
  | cons a t ih =>
    intro h
    by_cases e : a = k
    · rw [e, List.map_cons, List.erase_cons_head, List.erase_cons_head]
    · have ne : ¬ f a = f k := fun z => e (h a List.mem_cons_self z)
      rw [List.map_cons, List.erase_cons_tail (by simpa using ne), List.erase_cons_tail (by simpa using e), List.map_cons, ih (fun y hy => h y (List.mem_cons_of_mem _ hy))]
/-- the open calls of the set x -/
def calC (M : qm) (x n : Nat) : List Int := (bts x n 0).map (fun k => M 1744 k 0)
theorem calc_er (h : LKC M K n c) (hx : r < 64) (hm : m < n) (hb : bitN r m = true) : calC M (r - 2 ^ m) n = (calC M r n).erase (M 1744 (m : Int) 0) := by
  have n6 := h.2.1
  unfold calC
  rw [bts_er hx (show m < 6 by omega) hb n 0 (by omega)]
  refine (map_er (f := fun k => M 1744 k 0) (k := (m : Int)) _ (fun y hy e => ?_)).symm
  obtain ⟨j, j1, _, j3, _⟩ := (bts_in n 0 y).mp hy
  exact lnk_i h (by omega) (by omega) (by omega) (by omega) e
/-- whether the call may come next -/
theorem next_C (h : LKC M K n c) (hx : r < 64) (hm : m < n) (hb : bitN r m = true) : qf_X3_mayComeNext 20000 c m r s M = some (b01 (0 < s ∨ ∀ k : Nat, k < n → bitN r k = true → k ≠ m → K 2280 (M 1744 (k : Int) 0) 0 ≠ c)) := by
  have n6 := h.2.1
  have hn := h.1
  have hc := h.2.2.1
  unfold CAR at hc
  obtain ⟨v, ev, hv⟩ := placeOfOpen_r (M := M) (x := M 1338 c 5) (by omega) (by omega)
  have h8 := h.2.2.2.2.2.2.2.1
  unfold qf_X3_mayComeNext
  rw [if_pos (show 0 ≤ (c : Int) ∧ (c : Int) < 4 from ⟨hc.1, hc.2.1⟩), ev]
  simp only [Option.bind_some]
  by_cases g : (0 : Int) < s
  · rw [if_pos g]
    refine congrArg some (b01_t ?_).symm
    exact (Or.inl (by omega))
  · rw [if_neg g]
    rcases hv with ⟨v1, v2⟩ | ⟨v1, v2, v3⟩
    · rw [if_pos v1]
      refine congrArg some (b01_t ?_).symm
      exact (Or.inr (fun k k1 _ _ z => v2 k (by omega) (by omega) ((h8 k (by omega) (by omega)).2.2.2.2.mp z).symm))
    · obtain ⟨R, rfl⟩ : ∃ R : Nat, v = R := ⟨v.toNat, by omega⟩
      have only : ∀ k : Nat, k < n → K 2280 (M 1744 (k : Int) 0) 0 = c → k = R := fun k k1 z => by
        have e := (h8 k (by omega) (by omega)).2.2.2.2.mp z
        have := lnk_i h (a := (k : Int)) (b := (R : Int)) (by omega) (by omega) (by omega) (by omega) (by omega)
        omega
      rw [if_neg (show ¬ (R : Int) = -1 by omega)]
      by_cases g2 : (R : Int) = m
      · rw [if_pos g2]
        refine congrArg some (b01_t ?_).symm
        exact (Or.inr (fun k k1 _ k3 z => k3 (by have := only k k1 z; omega)))
      · rw [if_neg g2, bit_e hx (show R < 6 by omega)]
        by_cases g3 : bitN r R = true
        · rw [if_pos g3, if_neg (by decide)]
          refine congrArg some (b01_f ?_).symm
          exact (fun z => z.elim (fun z => g (by omega)) (fun z => z R (by omega) g3 (by omega) ((h8 R (by omega) (by omega)).2.2.2.2.mpr v3.symm)))
        · rw [if_neg g3, if_pos rfl]
          refine congrArg some (b01_t ?_).symm
          exact (Or.inr (fun k k1 k2 _ z => g3 (by rw [← only k k1 z]; exact k2)))
theorem bit_z_all : ((List.range 64).all (fun x => (List.range 1).all (fun _ => !((List.range 6).all (fun j => !(bitN x j))) || x == 0))) = true := by decide +kernel
theorem bit_z (hn : n < 64) (h : ∀ j, j < 6 → bitN n j = false) : n = 0 := by
  have q := all_2 (m := 0) (f := fun x _ => !((List.range 6).all (fun j => !(bitN x j))) || x == 0) bit_z_all hn (by decide)
  have e : ((List.range 6).all (fun j => !(bitN n j))) = true := by
    rw [List.all_eq_true]
    intro j hj
    rw [h j (List.mem_range.mp hj)]
    rfl
  rw [e] at q
  simpa using q
end GVn
