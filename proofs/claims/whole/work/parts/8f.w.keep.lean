/-! ===== the giving: the class keeps the rows; both tell the same ===== -/
section GVw
variable {M K A X V : qm} {a b d i q w T fl bh many : Int} {c n s x r cs C : Nat} {t u pre E D : List Int} {B : Int × List Int}
theorem bc_all : ((List.range 64).all (fun x => (List.range 1).all (fun _ => qf_J6_bitCount_0f7a4 20000 (x : Int) (fun _ _ _ => 0) == some ((bts x 6 0).length : Int)))) = true := by decide +kernel
theorem bc_e {Z : qm} (h : x < 64) : qf_J6_bitCount_0f7a4 20000 x Z = some ((bts x 6 0).length : Int) := by
  have e : qf_J6_bitCount_0f7a4 20000 x Z = qf_J6_bitCount_0f7a4 20000 x (fun _ _ _ => 0) := rfl
  rw [e]
  exact beq_iff_eq.mp (all_2 (m := 0) (f := fun x _ => qf_J6_bitCount_0f7a4 20000 (x : Int) (fun _ _ _ => 0) == some ((bts x 6 0).length : Int)) bc_all h (by decide))
theorem bts_6 (n6 : n ≤ 6) (hb : ∀ i, n ≤ i → i < 6 → bitN x i = false) : bts x 6 0 = bts x n 0 := by
  refine srt_ext _ _ (bts_pw 6 0) (bts_pw n 0) (fun y => ?_)
  rw [bts_in, bts_in]
  constructor
  · rintro ⟨j, j1, j2, j3, j4⟩
    refine ⟨j, j1, j2, ?_, j4⟩
    by_cases g : j < n
    · omega
    · rw [hb j (by omega) (by omega)] at j4
      cases j4
  · rintro ⟨j, j1, j2, j3, j4⟩
    exact ⟨j, j1, j2, by omega, j4⟩
theorem bh_C (h : LKC M K n c) : max 0 (w32 (M 1338 c 2 - M 1337 7 0)) = bhd K c := by
  have hc4 := h.2.2.1
  unfold CAR at hc4
  rw [h.2.2.2.2.2.1, h.2.2.2.2.2.2.1, w32_id (by omega) (by omega)]
  unfold bhd
  by_cases g : K 2273 c 0 ≤ K 2270 12 0
  · rw [if_pos g]
    omega
  · rw [if_neg g]
    omega
/-- besides the giving all is as in M -/
def KPF (M Z : qm) : Prop := ∀ e x y, e ≠ 1745 → Z e x y = M e x y
/-- what stands for a call in the class -/
def GVD (Z : qm) (c : Int) (p : Int × Int × Int) (x : Int) : Prop := Z 1745 x 0 = c ∧ Z 1745 x 1 = p.1 ∧ Z 1745 x 2 = p.2.1 ∧ Z 1745 x 3 = p.2.2
theorem keepl_C (h : CAR K c) : ∀ (l : List Int) (k N : Nat) (fl bh : Int) (Z : qm), k + l.length ≤ 6 → many = k + l.length → l.length < N → l.Nodup → (∀ y, y ∈ l → CLL K y ∧ M 1343 y 0 = K 2276 y 0 ∧ M 1343 y 1 = K 2277 y 0) → (∀ k' : Int, k ≤ k' → k' < k + l.length → 0 ≤ M 2153 k' 0 ∧ M 2153 k' 0 < 6) → KPF M Z → rl (fun k => M 1744 (M 2153 k 0) 0) l.length k = l → 0 ≤ fl → fl < 60 → 0 ≤ bh → bh ≤ 100000 + 1000 * k → ∃ Y, qf_X3_keepRow_L54 20000 N c (K 2271 c 0) fl bh many k Z = some (.inr ((), Y)) ∧ KPF M Y ∧ (∀ x y, x ∉ l → Y 1745 x y = Z 1745 x y) ∧ ∀ x, x ∈ l → GVD Y c (plcK K c fl bh k l x) x := by
  have hh := h
  unfold CAR at hh
  intro l
  induction l with
  | nil =>
    intro k N fl bh Z k6 hm lN nd cl rg f hr f0 f1 b0 b1
    obtain ⟨N', rfl⟩ : ∃ N', N = N' + 1 := ⟨N - 1, by omega⟩
    refine ⟨Z, ?_, f, fun _ _ _ => rfl, fun x hx => by cases hx⟩
    show qloop _ (N' + 1) ((c : Int), K 2271 c 0, fl, bh, many, (k : Int), Z) = _
    rw [qloop.eq_2]
    (try dsimp only)
    have b : qf_X3_keepRow_L54_b 20000 c (K 2271 c 0) fl bh many k Z = some (.inl (.inr ((), Z))) := by
      unfold qf_X3_keepRow_L54_b
      rw [if_pos (show many ≤ (k : Int) by rw [List.length_nil] at hm; omega)]
    rw [b]
  | cons y t ih =>
    intro k N fl bh Z k6 hm lN nd cl rg f hr f0 f1 b0 b1
    obtain ⟨N', rfl⟩ : ∃ N', N = N' + 1 := ⟨N - 1, by omega⟩
    rw [List.length_cons] at k6 hm lN rg
    rw [List.nodup_cons] at nd
    obtain ⟨_, hr1, hr2⟩ := rl_cons hr
    have hr1' : M 1744 (M 2153 k 0) 0 = y := hr1
    obtain ⟨hy, m0, m1⟩ := cl y List.mem_cons_self
    have o := one_b h hy f0 f1 b0 (by omega)
    have hy' := hy
    unfold CLL at hy'
    have rk := rg k (by omega) (by omega)
    obtain ⟨U, hU⟩ : ∃ U, K 2271 c 0 * qd fl (K 2276 y 0) = U := ⟨_, rfl⟩
    obtain ⟨V, hV⟩ : ∃ V, K 2271 c 0 * qd (K 2276 y 0) (K 2277 y 0) = V := ⟨_, rfl⟩
    rw [hU, hV] at o
    have eU : w32 (qabs (w32 (fl - K 2276 y 0)) * K 2271 c 0) = U := by
      rw [qab_e (by omega) (by omega), Int.mul_comm, hU, w32_id (by omega) (by omega)]
    have eV : w32 (qabs (w32 (K 2277 y 0 - K 2276 y 0)) * K 2271 c 0) = V := by
      rw [qab_e (by omega) (by omega), Int.mul_comm, qd_s, hV, w32_id (by omega) (by omega)]
    obtain ⟨A1, hA1⟩ : ∃ A1, qw Z 1745 y 0 c = A1 := ⟨_, rfl⟩
    obtain ⟨A2, hA2⟩ : ∃ A2, qw A1 1745 y 1 (bh + U) = A2 := ⟨_, rfl⟩
    obtain ⟨A3, hA3⟩ : ∃ A3, qw A2 1745 y 2 (bh + U + 3 + V) = A3 := ⟨_, rfl⟩
    obtain ⟨A4, hA4⟩ : ∃ A4, qw A3 1745 y 3 k = A4 := ⟨_, rfl⟩
    have f1' : KPF M A1 := fun e x y z => by rw [← hA1, qw_a z]; exact f e x y z
    have f2' : KPF M A2 := fun e x y z => by rw [← hA2, qw_a z]; exact f1' e x y z
    have f3' : KPF M A3 := fun e x y z => by rw [← hA3, qw_a z]; exact f2' e x y z
    have f4' : KPF M A4 := fun e x y z => by rw [← hA4, qw_a z]; exact f3' e x y z
    have a21 : A2 1745 y 1 = bh + U := by rw [← hA2]; exact qw_s
    have a42 : A4 1745 y 2 = bh + U + 3 + V := by
      rw [← hA4, qw_ap, if_neg (by omega), ← hA3]
      exact qw_s
    have st : qf_X3_keepRow_L54_b 20000 c (K 2271 c 0) fl bh many k Z = some (.inr ((c : Int), K 2271 c 0, K 2277 y 0, bh + U + 3 + V + 3, many, (k : Int) + 1, A4)) := by
      unfold qf_X3_keepRow_L54_b qbnd
      rw [if_neg (show ¬ many ≤ (k : Int) by omega), if_neg (show ¬ (6 : Int) ≤ (k : Int) by omega), if_pos (show 0 ≤ (k : Int) ∧ (k : Int) < 6 by omega), f 2153 _ _ (by decide), if_pos rk, f 1744 _ _ (by decide), hr1', if_pos (show 0 ≤ y ∧ y < 400 from ⟨hy'.1, hy'.2.1⟩), if_pos (show 0 ≤ y ∧ y < 400 from ⟨hy'.1, hy'.2.1⟩)]
      simp only [hA1]
      rw [show A1 1343 y 0 = K 2276 y 0 from (f1' _ _ _ (by decide)).trans m0, eU, w32_id (x := bh + U) (by omega) (by omega)]
      simp only [hA2]
      rw [a21, show A2 1343 y 0 = K 2276 y 0 from (f2' _ _ _ (by decide)).trans m0, show A2 1343 y 1 = K 2277 y 0 from (f2' _ _ _ (by decide)).trans m1, eV, w32_id (x := bh + U + 3) (by omega) (by omega), w32_id (x := bh + U + 3 + V) (by omega) (by omega)]
      simp only [hA3]
      simp only [hA4]
      rw [a42, show A4 1343 y 1 = K 2277 y 0 from (f4' _ _ _ (by decide)).trans m1, w32_id (x := bh + U + 3 + V + 3) (by omega) (by omega), w32_id (x := (k : Int) + 1) (by omega) (by omega)]
    obtain ⟨Y, y1, y2, y3, y4⟩ := ih (k + 1) N' (K 2277 y 0) (bh + U + 3 + V + 3) A4 (by omega) (by omega) (by omega) nd.2 (fun z hz => cl z (List.mem_cons_of_mem _ hz)) (fun k' k0 k1 => rg k' (by omega) (by omega)) f4' hr2 (by omega) (by omega) (by omega) (by omega)
    have y1' : qf_X3_keepRow_L54 20000 N' c (K 2271 c 0) (K 2277 y 0) (bh + U + 3 + V + 3) many ((k : Int) + 1) A4 = some (.inr ((), Y)) := y1
    refine ⟨Y, ?_, y2, fun x y' hx => ?_, fun x hx => ?_⟩
    · show qloop _ (N' + 1) ((c : Int), K 2271 c 0, fl, bh, many, (k : Int), Z) = _
      rw [qloop.eq_2]
      (try dsimp only)
      rw [st]
      exact y1'
    · have xy : x ≠ y := fun z => hx (by rw [z]; exact List.mem_cons_self)
      rw [y3 x y' (fun z => hx (List.mem_cons_of_mem _ z)), ← hA4, qw_i xy, ← hA3, qw_i xy, ← hA2, qw_i xy, ← hA1, qw_i xy]
    · by_cases xy : x = y
      · rw [xy, plc_h, hU, hV]
        unfold GVD
        rw [y3 y 0 nd.1, y3 y 1 nd.1, y3 y 2 nd.1, y3 y 3 nd.1]
        refine ⟨?_, ?_, ?_, ?_⟩
        · rw [← hA4, qw_ap, if_neg (by omega), ← hA3, qw_ap, if_neg (by omega), ← hA2, qw_ap, if_neg (by omega), ← hA1]
          exact qw_s
        · rw [← hA4, qw_ap, if_neg (by omega), ← hA3, qw_ap, if_neg (by omega)]
          exact a21
        · rw [a42]
          show bh + U + 3 + V = bh + U + (3 + V)
          omega
        · rw [← hA4]
          exact qw_s
      · rw [plc_t xy, hU, hV, show bh + U + (3 + V) + 3 = bh + U + 3 + V + 3 by omega]
        exact y4 x ((List.mem_cons.mp hx).elim (fun z => absurd z xy) id)
/-- besides the giving and what is tried all is as in M -/
def KRF (M Z : qm) : Prop := ∀ e x y, e ≠ 1745 → e ≠ 2152 → e ≠ 2153 → ¬ (e = 1337 ∧ x = 12) → Z e x y = M e x y
theorem keepRow_C (h : LKC M K n c) (hx : x < 64) (hb : ∀ i, n ≤ i → i < 6 → bitN x i = false) : ∃ Y, qf_X3_keepRow 20000 c x M = some ((), Y) ∧ KRF M Y ∧ (∀ x' y, x' ∉ (bst K c (calC M x n)).2 → Y 1745 x' y = M 1745 x' y) ∧ ∀ x', x' ∈ (bst K c (calC M x n)).2 → GVD Y c (plcK K c (K 2272 c 0) (bhd K c) 0 (bst K c (calC M x n)).2 x') x' := by
  have n6 := h.2.1
  have hcar := h.2.2.1
  have hc4 := hcar
  unfold CAR at hc4
  have bb := bhd_b hcar
  obtain ⟨Z, e1, f, hr, rg⟩ := least_C h hx hb
  have gd := calc_g (x := x) h
  have got := bst_got hcar gd
  have nd : (calC M x n).Nodup := List.Pairwise.imp (fun z => Int.ne_of_lt z) gd.1
  have l6 := bts_len (x := x) n 0
  have lc : (calC M x n).length = (bts x n 0).length := by
    unfold calC
    rw [List.length_map]
  obtain ⟨l, hl⟩ : ∃ l, (bst K c (calC M x n)).2 = l := ⟨_, rfl⟩
  rw [hl] at hr got ⊢
  have ll : l.length = (bts x n 0).length := by rw [got.1.length_eq, lc]
  rw [← ll] at hr rg
  have hZ : LKC Z K n c := lnk_o (fun e x y z => f e x y (by omega) (by omega) (by omega)) h
  have z44 : ∀ k, Z 1744 k 0 = M 1744 k 0 := fun k => f _ _ _ (by decide) (by decide) (by omega)
  obtain ⟨Y, y1, y2, y3, y4⟩ := keepl_C (M := Z) (many := (l.length : Int)) hcar l 0 20000 (K 2272 c 0) (bhd K c) Z (by omega) (by omega) (by omega) (got.1.nodup_iff.mpr nd) (fun y hy => by
    have hy2 := got.1.mem_iff.mp hy
    obtain ⟨k, k1, _, e⟩ := calc_m h hy2
    have q := hZ.2.2.2.2.2.2.2.1 k (by omega) (by omega)
    rw [z44, ← e] at q
    exact ⟨q.1, q.2.1, q.2.2.1⟩) (fun k' k0 k1 => by
    have := rg k' (by omega) (by omega)
    omega) (fun _ _ _ _ => rfl) (by
    refine Eq.trans (rl_ext l.length 0 (fun k k0 k1 => ?_)) hr
    show Z 1744 (Z 2153 k 0) 0 = M 1744 (Z 2153 k 0) 0
    exact z44 _) (by omega) (by omega) bb.1 (by omega)
  refine ⟨Y, ?_, fun e x' y z1 z2 z3 z4 => (y2 e x' y z1).trans (f e x' y z2 z3 z4), fun x' y z => (y3 x' y z).trans (f _ _ _ (by decide) (by decide) (by omega)), y4⟩
  unfold qf_X3_keepRow
  rw [e1]
  simp only [Option.bind_some]
  rw [if_pos (show 0 ≤ (c : Int) ∧ (c : Int) < 4 from ⟨hc4.1, hc4.2.1⟩), if_pos (show 0 ≤ (c : Int) ∧ (c : Int) < 4 from ⟨hc4.1, hc4.2.1⟩), if_pos (show 0 ≤ (c : Int) ∧ (c : Int) < 4 from ⟨hc4.1, hc4.2.1⟩), bc_e hx, bts_6 n6 hb, ← ll]
  simp only [Option.bind_some]
  rw [bh_C hZ, hZ.2.2.2.1, hZ.2.2.2.2.1]
  have y1' : qf_X3_keepRow_L54 20000 20000 c (K 2271 c 0) (K 2272 c 0) (bhd K c) (l.length : Int) 0 Z = some (.inr ((), Y)) := y1
  rw [y1']
  rfl
theorem plc_o {Y : qm} {l : List Int} {x : Int} (f : AFR K Y) : plcK Y c (Y 2272 c 0) (bhd Y c) 0 l x = plcK K c (K 2272 c 0) (bhd K c) 0 l x := by
  have g : ∀ e x y, (e = 2271 ∨ e = 2272 ∨ e = 2273 ∨ e = 2276 ∨ e = 2277 ∨ (e = 2270 ∧ x = 12)) → Y e x y = K e x y := fun e x y z => f e x y (by omega) (by omega) (by omega) (by omega)
  unfold plcK bhd
  rw [show (fun x => Y 2276 x 0) = (fun x => K 2276 x 0) from funext (fun x => g _ _ _ (by omega)), show (fun x => Y 2277 x 0) = (fun x => K 2277 x 0) from funext (fun x => g _ _ _ (by omega)), g 2271 c 0 (by omega), g 2272 c 0 (by omega), g 2273 c 0 (by omega), g 2270 12 0 (by omega)]
/-- both sides tell the giving D -/
theorem tells {Y S : qm} {v : Int} {g : Nat} (h : GMT K Y M n cs C E) (hY : AFR K Y) (hSc : S 1337 0 0 = cs) (hS : ∀ e x y, (e = 1338 ∨ e = 1343 ∨ e = 1744 ∨ (e = 1337 ∧ (x = 4 ∨ x = 7))) → S e x y = M e x y) (hlt : ∀ k : Nat, k < n → M 1744 (k : Int) 0 < S 1337 2 0) (hYC : Y 2270 14 0 = C) (hp : 0 < C → 0 < cs) (g6 : g ≤ 100000) (ok : ftC M cs E (dig cs C g)) (hsh : ∀ c : Nat, c < cs → S 2155 c 0 = ((shb E (dig cs C g) c : Nat) : Int)) : ∀ (m c N N2 : Nat) (Z Z2 : qm), c + m = cs → m < N → m < N2 → KRF S Z → TLF Y Z2 → R_given Z Z2 → ∃ X X2, qf_X3_makeGiving_L114 20000 N c Z = some (.inr ((), X)) ∧ qf_X13_give_L158 20000 N2 v g c Z2 = some (.inr ((), X2)) ∧ KRF S X ∧ TLF Y X2 ∧ R_given X X2 ∧ ∀ x, S 1337 2 0 ≤ x → X2 2285 x 0 = Z2 2285 x 0 := by
  have c4 := h.c4
  have n6 := h.n6
  have C6 := gmt_6 h
  have p6 := (pow_6 n6).2
  have p6C := (pow_6 C6).2
  intro m
  induction m with
  | zero =>
    intro c N N2 Z Z2 hc hN hN2 fZ fZ2 hG
    obtain ⟨N', rfl⟩ : ∃ N', N = N' + 1 := ⟨N - 1, by omega⟩
    obtain ⟨N2', rfl⟩ : ∃ N', N2 = N' + 1 := ⟨N2 - 1, by omega⟩
    refine ⟨Z, Z2, ?_, ?_, fZ, fZ2, hG, fun _ _ => rfl⟩
    · show qloop _ (N' + 1) ((c : Int), Z) = _
      rw [qloop.eq_2]
      (try dsimp only)
      have b : qf_X3_makeGiving_L114_b 20000 c Z = some (.inl (.inr ((), Z))) := by
        unfold qf_X3_makeGiving_L114_b
        rw [if_pos (show Z 1337 0 0 ≤ (c : Int) by rw [fZ _ _ _ (by decide) (by decide) (by decide) (by omega)]; omega)]
      rw [b]
    · show qloop _ (N2' + 1) (v, (g : Int), (c : Int), Z2) = _
      rw [qloop.eq_2]
      (try dsimp only)
      have b : qf_X13_give_L158_b 20000 v g c Z2 = some (.inl (.inr ((), Z2))) := by
        unfold qf_X13_give_L158_b
        rw [if_pos (show Z2 2270 0 0 ≤ (c : Int) by rw [fZ2 _ _ _ (by decide) (by decide) (by decide) (by decide), hY _ _ _ (by decide) (by decide) (by decide) (by omega), h.hcs]; omega)]
      rw [b]
  | succ m ih =>
    intro c N N2 Z Z2 hc hN hN2 fZ fZ2 hG
    obtain ⟨N', rfl⟩ : ∃ N', N = N' + 1 := ⟨N - 1, by omega⟩
    obtain ⟨N2', rfl⟩ : ∃ N', N2 = N' + 1 := ⟨N2 - 1, by omega⟩
    have hL := h.hL c (by omega)
    have lZ : LKC Z K n c := lnk_o (fun e x y z => (fZ e x y (by omega) (by omega) (by omega) (by omega)).trans (hS e x y z)) hL
    obtain ⟨x1, hx1⟩ : ∃ x1, shb E (dig cs C g) c = x1 := ⟨_, rfl⟩
    obtain ⟨x2, hx2⟩ : ∃ x2, shb (upl C) (dig cs C g) c = x2 := ⟨_, rfl⟩
    have lt1 := shb_lt1 (D := dig cs C g) (c := c) h
    have lt2 := shb_lt2 (D := dig cs C g) (c := c) h
    have ce := cal_e (D := dig cs C g) (c := c) h
    have zce : calC Z x1 n = calC M x1 n := by
      unfold calC
      rw [show (fun k => Z 1744 k 0) = (fun k => M 1744 k 0) from funext (fun k => (fZ _ _ _ (by decide) (by decide) (by decide) (by omega)).trans (hS _ _ _ (by omega)))]
    rw [hx1] at lt1 ce
    rw [hx2] at lt2 ce
    obtain ⟨X1, e1, k1, k2, k3⟩ := keepRow_C (x := x1) lZ (by omega) (fun i i0 i1 => bit_hi lt1 i0 i1)
    rw [zce] at k2 k3
    have gd := calc_g (x := x1) hL
    have got := bst_got hL.2.2.1 gd
    have ref : rl (fun k => Y 2284 (6 * (64 * (c : Int) + x2) + k) 0) (calC M x1 n).length 0 = (bst K c (calC M x1 n)).2 := by
      rcases gmt_f h (show c < cs by omega) lt2 with ⟨_, _, e⟩ | ⟨⟨j, j1, j2⟩, _⟩
      · rw [ce] at e
        exact e
      · rw [← hx2] at j1
        exact absurd ((ft_e h).mp ok c (by omega) j j1) j2
    obtain ⟨l, hl⟩ : ∃ l, (bst K c (calC M x1 n)).2 = l := ⟨_, rfl⟩
    rw [hl] at k2 k3 got ref
    rw [← got.1.length_eq] at ref
    have cY : CAR Y c := by
      have q := hL.2.2.1
      unfold CAR at q ⊢
      rw [hY 2271 _ _ (by decide) (by decide) (by decide) (by omega), hY 2272 _ _ (by decide) (by decide) (by decide) (by omega), hY 2273 _ _ (by decide) (by decide) (by decide) (by omega), hY 2270 12 _ (by decide) (by decide) (by decide) (by omega)]
      exact q
    have inl : ∀ y, y ∈ l → ∃ k : Nat, k < n ∧ y = M 1744 (k : Int) 0 := fun y hy => by
      obtain ⟨k, k1, _, e⟩ := calc_m hL (got.1.mem_iff.mp hy)
      exact ⟨k, k1, e⟩
    obtain ⟨X3, e3, t1, t2, t3⟩ := tell_K (r := x2) (l := l) (Z := Z2) cY (by omega) (by
        rw [got.1.length_eq, ← ce]
        unfold cal
        rw [List.length_map, bts_6 C6 (fun i i0 i1 => bit_hi lt2 i0 i1)]) (got.1.nodup_iff.mpr (List.Pairwise.imp (fun z => Int.ne_of_lt z) gd.1)) (fun y hy => by
        have q := gd.2.2.1 y (got.1.mem_iff.mp hy)
        unfold CLL at q ⊢
        rw [hY 2276 _ _ (by decide) (by decide) (by decide) (by omega), hY 2277 _ _ (by decide) (by decide) (by decide) (by omega), hY 2278 _ _ (by decide) (by decide) (by decide) (by omega), hY 2270 12 _ (by decide) (by decide) (by decide) (by omega)]
        exact q) fZ2 ref
    have hG2 : R_given X1 X3 := by
      intro x0 x00 x01
      rw [k1 1337 2 0 (by decide) (by decide) (by decide) (by omega)] at x01
      by_cases gx : x0 ∈ l
      · have q1 := k3 x0 gx
        have q2 := t3 x0 gx
        rw [plc_o hY] at q2
        obtain ⟨a1, a2, a3, a4⟩ := q1
        obtain ⟨b1, b2, b3, b4⟩ := q2
        refine Or.inr ⟨by rw [b1]; omega, b1.trans a1.symm, b2.trans a2.symm, b3.trans a3.symm, b4.trans a4.symm⟩
      · rw [k2 x0 0 gx, k2 x0 1 gx, k2 x0 2 gx, k2 x0 3 gx, t2 2285 x0 0 gx, t2 2286 x0 0 gx, t2 2287 x0 0 gx, t2 2288 x0 0 gx]
        exact hG x0 x00 x01
    obtain ⟨Q, Q2, q1, q2, q3, q4, q5, q6⟩ := ih (c + 1) N' N2' X1 X3 (by omega) (by omega) (by omega) (fun e x y z1 z2 z3 z4 => (k1 e x y z1 z2 z3 z4).trans (fZ e x y z1 z2 z3 z4)) t1 hG2
    refine ⟨Q, Q2, ?_, ?_, q3, q4, q5, fun x0 hx0 => (q6 x0 hx0).trans (t2 _ _ _ (fun z => ?_))⟩
    · show qloop _ (N' + 1) ((c : Int), Z) = _
      rw [qloop.eq_2]
      (try dsimp only)
      have b : qf_X3_makeGiving_L114_b 20000 c Z = some (.inr ((c : Int) + 1, X1)) := by
        unfold qf_X3_makeGiving_L114_b
        rw [if_neg (show ¬ Z 1337 0 0 ≤ (c : Int) by rw [fZ _ _ _ (by decide) (by decide) (by decide) (by omega)]; omega), if_pos (show 0 ≤ (c : Int) ∧ (c : Int) < 4 by omega), fZ 2155 _ _ (by decide) (by decide) (by decide) (by omega), hsh c (by omega), hx1, e1]
        simp only [Option.bind_some]
        rw [w32_id (x := (c : Int) + 1) (by omega) (by omega)]
      rw [b]
      exact q1
    · show qloop _ (N2' + 1) (v, (g : Int), (c : Int), Z2) = _
      rw [qloop.eq_2]
      (try dsimp only)
      have g14 : Z2 2270 14 0 = C := (fZ2 _ _ _ (by decide) (by decide) (by decide) (by decide)).trans hYC
      have g0 : Z2 2270 0 0 = cs := ((fZ2 _ _ _ (by decide) (by decide) (by decide) (by decide)).trans (hY _ _ _ (by decide) (by decide) (by decide) (by omega))).trans h.hcs
      have eb := bitsOf_K (K := Z2) (x := g) (c := c) g14 C6 g0 c4 hp g6
      have b : qf_X13_give_L158_b 20000 v g c Z2 = some (.inr (v, (g : Int), (c : Int) + 1, X3)) := by
        unfold qf_X13_give_L158_b
        rw [if_neg (show ¬ Z2 2270 0 0 ≤ (c : Int) by omega), eb, hx2]
        simp only [Option.bind_some]
        rw [e3]
        simp only [Option.bind_some]
        rw [w32_id (x := (c : Int) + 1) (by omega) (by omega)]
      rw [b]
      exact q2
    · obtain ⟨k, k1, e⟩ := inl x0 z
      have := hlt k k1
      omega
end GVw
