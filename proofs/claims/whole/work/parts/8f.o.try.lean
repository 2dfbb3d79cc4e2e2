/-! ===== the giving: the class tries all rows of a set ===== -/
section GVo
variable {M K A W Z X Y V : qm} {a b d i q v w T y fl bh sp : Int} {c n s : Nat} {l t u pre : List Int} {B : Int × List Int}
def BSC (M Z : qm) (n s : Nat) (b : Int × List Int) : Prop := Z 1337 12 0 = b.1 ∧ rl (fun k => M 1744 (Z 2153 k 0) 0) s 0 = b.2 ∧ (b.1 < 9223372036854775807 → ∀ k, 0 ≤ k → k < (s : Int) → 0 ≤ Z 2153 k 0 ∧ Z 2153 k 0 < n)
theorem qd_s : qd a b = qd b a := by
  unfold qd
  by_cases g : b ≤ a
  · rw [if_pos g]
    by_cases g2 : a ≤ b
    · rw [if_pos g2]
      omega
    · rw [if_neg g2]
  · rw [if_neg g, if_pos (show a ≤ b by omega)]
theorem bit_0 (m : Nat) : bitN 0 m = false := by
  unfold bitN
  simp
theorem bts_0 : ∀ (m i : Nat), bts 0 m i = [] := by
  intro m
  induction m with
  | zero => exact fun _ => rfl
  | succ m ih =>
    intro i
    show (if bitN 0 i then (i : Int) :: bts 0 m (i + 1) else bts 0 m (i + 1)) = []
    rw [bit_0, if_neg (by decide)]
    exact ih (i + 1)
theorem calc_m {x : Nat} (h : LKC M K n c) (hy : y ∈ calC M x n) : ∃ k : Nat, k < n ∧ bitN x k = true ∧ y = M 1744 k 0 := by
  obtain ⟨k, hk, e⟩ := List.mem_map.mp hy
  obtain ⟨j, j1, _, j3, j4⟩ := (bts_in n 0 k).mp hk
  exact ⟨j, by omega, j4, by rw [← e, j1]⟩
theorem calc_l {x : Nat} (h : LKC M K n c) (hy : y ∈ calC M x n) : CLL K y := by
  obtain ⟨k, k1, _, e⟩ := calc_m h hy
  rw [e]
  exact (h.2.2.2.2.2.2.2.1 k (by omega) (by omega)).1
theorem prune_C {x m p : Nat} {j : Int} (h : LKC M K n c) (hm : (bts x n 0).length = m) (pl : p + m ≤ 6) (f0 : 0 ≤ fl) (f1 : fl < 60) (b0 : 0 ≤ bh) (b1 : bh ≤ 100000 + 1000 * p) (hc : ∀ t, rco K c (K 2272 c 0) (bhd K c) (pre ++ t) = j + rco K c fl bh t) (hj : B.1 ≤ j) : ((prm m (calC M x n)).map (fun t => pre ++ t)).foldl (rok K c) B = B := by
  unfold rok
  refine fold_no _ (fun l hl _ => ?_)
  obtain ⟨t, ht, e⟩ := List.mem_map.mp hl
  have e' : pre ++ t = l := e
  rw [← e', hc]
  have pm := prm_perm m _ t (by unfold calC; rw [List.length_map]; exact hm) ht
  have lt : t.length = m := by
    rw [pm.length_eq]
    unfold calC
    rw [List.length_map]
    exact hm
  have := rco_b h.2.2.1 t p fl bh f0 f1 b0 b1 (by omega) (fun y hy => calc_l h (pm.mem_iff.mp hy))
  omega
theorem try_C (h : LKC M K n c) (s6 : s ≤ 6) : ∀ (m x p N : Nat) (fl bh j : Int) (pre : List Int) (Z : qm) (B : Int × List Int), (bts x n 0).length = m → m < N → p + m = s → x < 64 → (∀ i, n ≤ i → i < 6 → bitN x i = false) → TRF M Z → rl (fun k => M 1744 (Z 2152 k 0) 0) p 0 = pre → (∀ k, 0 ≤ k → k < (p : Int) → 0 ≤ Z 2152 k 0 ∧ Z 2152 k 0 < n) → 0 ≤ fl → fl < 60 → 0 ≤ bh → bh ≤ 100000 + 1000 * p → 0 ≤ j → j ≤ 30000000 * p → BSC M Z n s B → (∀ t, rco K c (K 2272 c 0) (bhd K c) (pre ++ t) = j + rco K c fl bh t) → (0 < p → ∀ t, t ∈ prm m (calC M x n) → okRow K c (pre ++ t)) → ∃ Y, qr_X3_tryRows 20000 N c x p fl bh j Z = some ((), Y) ∧ TRF M Y ∧ (∀ k, k < (p : Int) → Y 2152 k 0 = Z 2152 k 0) ∧ BSC M Y n s (((prm m (calC M x n)).map (fun t => pre ++ t)).foldl (rok K c) B) := by
  have n6 := h.2.1
  have hcar := h.2.2.1
  have hc4 := hcar
  unfold CAR at hc4
  intro m
  induction m with
  | zero =>
    intro x p N fl bh j pre Z B hm mN ps hx hb f hr hrg f0 f1 b0 b1 j0 j1 hB hc ho
    obtain ⟨N', rfl⟩ : ∃ N', N = N' + 1 := ⟨N - 1, by omega⟩
    have e0 : bts x n 0 = [] := List.eq_nil_of_length_eq_zero hm
    have x0 : x = 0 := bit_z hx (fun k k1 => by
      by_cases g : k < n
      · cases hq : bitN x k with
        | false => rfl
        | true =>
          have : (k : Int) ∈ bts x n 0 := (bts_in n 0 k).mpr ⟨k, rfl, by omega, by omega, hq⟩
          rw [e0] at this
          cases this
      · exact hb k (by omega) k1)
    show ∃ Y, qf_X3_tryRows_B 20000 (qr_X3_tryRows 20000 N') c x p fl bh j Z = some ((), Y) ∧ _
    by_cases g : j < B.1
    · refine ⟨qcp1 (qw Z 1337 12 0 j) 2152 0 2153 0 p, ?_, fun e x' y' z1 z2 z3 => ?_, fun k k1 => ?_, ?_⟩
      · unfold qf_X3_tryRows_B qbnd
        rw [if_pos (show j < Z 1337 12 0 by rw [hB.1]; exact g), if_pos (show (x : Int) = 0 by omega)]
        (try dsimp only)
        rw [if_pos (show 0 ≤ (p : Int) ∧ 0 + (p : Int) ≤ 6 by omega)]
      · rw [qcp1_ap, if_neg (by omega), qw_ap, if_neg (by omega)]
        exact f e x' y' z1 z2 z3
      · rw [qcp1_ap, if_neg (by omega)]
        exact qw_a (by decide)
      · have ok : okRow K c (pre ++ []) := by
          by_cases gp : 0 < p
          · exact ho gp [] (by show ([] : List Int) ∈ [([] : List Int)]; exact List.mem_singleton.mpr rfl)
          · have ep : pre = [] := by
              rw [← hr, show p = 0 by omega]
              rfl
            rw [ep]
            intro x hx
            cases hx
        have cs : rco K c (K 2272 c 0) (bhd K c) (pre ++ []) = j := by
          rw [hc]
          show j + 0 = j
          omega
        have ev : ((prm 0 (calC M x n)).map (fun t => pre ++ t)).foldl (rok K c) B = (j, pre) := by
          show rok K c B (pre ++ []) = (j, pre)
          unfold rok bs1
          refine Eq.trans (if_pos ⟨ok, by rw [cs]; exact g⟩) ?_
          rw [cs, List.append_nil]
        rw [ev]
        have cp : ∀ k, 0 ≤ k → k < (s : Int) → qcp1 (qw Z 1337 12 0 j) 2152 0 2153 0 p 2153 k 0 = Z 2152 k 0 := fun k k0 k1 => by
          rw [qcp1_ap, if_pos (by omega), show k - 0 + 0 = k by omega]
          exact qw_a (by decide)
        refine ⟨?_, ?_, fun _ k k0 k1 => ?_⟩
        · rw [qcp1_ap, if_neg (by omega)]
          exact qw_s
        · rw [show s = p by omega]
          refine Eq.trans (rl_ext p 0 (fun k k0 k1 => ?_)) hr
          show M 1744 _ 0 = M 1744 _ 0
          rw [cp k k0 (by omega)]
        · rw [cp k k0 k1]
          exact hrg k k0 (by omega)
    · refine ⟨Z, ?_, f, fun _ _ => rfl, ?_⟩
      · unfold qf_X3_tryRows_B
        rw [if_neg (show ¬ j < Z 1337 12 0 by rw [hB.1]; exact g)]
      · rw [prune_C h hm (by omega) f0 f1 b0 b1 hc (by omega)]
        exact hB
  | succ m ih =>
    intro x p N fl bh j pre Z B hm mN ps hx hb f hr hrg f0 f1 b0 b1 j0 j1 hB hc ho
    obtain ⟨N', rfl⟩ : ∃ N', N = N' + 1 := ⟨N - 1, by omega⟩
    have x0 : x ≠ 0 := fun z => by
      rw [z, bts_0] at hm
      cases hm
    obtain ⟨L, hL⟩ : ∃ L, calC M x n = L := ⟨_, rfl⟩
    rw [hL] at ho
    have inner : ∀ (r k Nl : Nat) (Z' : qm) (B' : Int × List Int), k + r = n → r < Nl → TRF M Z' → (∀ k', k' < (p : Int) → Z' 2152 k' 0 = Z 2152 k' 0) → BSC M Z' n s B' → ∃ Y, qf_X3_tryRows_B_L49 20000 (qr_X3_tryRows 20000 N') Nl c x p fl bh j (K 2271 c 0) k Z' = some (.inr ((), Y)) ∧ TRF M Y ∧ (∀ k', k' < (p : Int) → Y 2152 k' 0 = Z 2152 k' 0) ∧ BSC M Y n s (((((bts x r k).map (fun k => M 1744 k 0)).flatMap (fun a => (prm m (L.erase a)).map (fun t => a :: t))).map (fun t => pre ++ t)).foldl (rok K c) B') := by
      intro r
      induction r with
      | zero =>
        intro k Nl Z' B' kn rN f' z' hB'
        obtain ⟨N1, rfl⟩ : ∃ N1, Nl = N1 + 1 := ⟨Nl - 1, by omega⟩
        refine ⟨Z', ?_, f', z', hB'⟩
        have zn : Z' 1337 4 0 = n := (f' _ _ _ (by decide) (by decide) (by omega)).trans h.1
        show qloop _ (N1 + 1) ((c : Int), (x : Int), (p : Int), fl, bh, j, K 2271 c 0, (k : Int), Z') = _
        rw [qloop.eq_2]
        (try dsimp only)
        have b : qf_X3_tryRows_B_L49_b 20000 (qr_X3_tryRows 20000 N') c x p fl bh j (K 2271 c 0) k Z' = some (.inl (.inr ((), Z'))) := by
          unfold qf_X3_tryRows_B_L49_b
          rw [if_pos (show Z' 1337 4 0 ≤ (k : Int) by omega)]
        rw [b]
      | succ r ih2 =>
        intro k Nl Z' B' kn rN f' z' hB'
        obtain ⟨N1, rfl⟩ : ∃ N1, Nl = N1 + 1 := ⟨Nl - 1, by omega⟩
        have zn : Z' 1337 4 0 = n := (f' _ _ _ (by decide) (by decide) (by omega)).trans h.1
        have on : ∀ {Y : qm}, qf_X3_tryRows_B_L49_b 20000 (qr_X3_tryRows 20000 N') c x p fl bh j (K 2271 c 0) k Z' = some (.inr ((c : Int), (x : Int), (p : Int), fl, bh, j, K 2271 c 0, (k : Int) + 1, Y)) → qf_X3_tryRows_B_L49 20000 (qr_X3_tryRows 20000 N') (N1 + 1) c x p fl bh j (K 2271 c 0) k Z' = qf_X3_tryRows_B_L49 20000 (qr_X3_tryRows 20000 N') N1 c x p fl bh j (K 2271 c 0) ((k + 1 : Nat) : Int) Y := fun {Y} e => by
          show qloop _ (N1 + 1) ((c : Int), (x : Int), (p : Int), fl, bh, j, K 2271 c 0, (k : Int), Z') = _
          rw [qloop.eq_2]
          (try dsimp only)
          rw [e]
          rfl
        by_cases gb : bitN x k = true
        · have eb : bts x (r + 1) k = (k : Int) :: bts x r (k + 1) := if_pos gb
          have lZ : LKC Z' K n c := lnk_o (fun e x y z => f' e x y (by omega) (by omega) (by omega)) h
          have nx := next_C (s := p) lZ hx (show k < n by omega) gb
          have z44 : ∀ k', Z' 1744 k' 0 = M 1744 k' 0 := fun k' => f' _ _ _ (by decide) (by decide) (by omega)
          have h8 := h.2.2.2.2.2.2.2.1 k (by omega) (by omega)
          obtain ⟨a, ha⟩ : ∃ a, M 1744 (k : Int) 0 = a := ⟨_, rfl⟩
          rw [ha] at h8
          obtain ⟨h81, h82, h83, h84, h85⟩ := h8
          have aL : a ∈ L := by
            rw [← hL, ← ha]
            exact List.mem_map.mpr ⟨k, (bts_in n 0 k).mpr ⟨k, rfl, by omega, by omega, gb⟩, rfl⟩
          have eL : calC M (x - 2 ^ k) n = L.erase a := by
            rw [← hL, ← ha]
            exact calc_er h hx (by omega) gb
          have lL : L.length = m + 1 := by
            rw [← hL]
            unfold calC
            rw [List.length_map]
            exact hm
          rw [eb, List.map_cons, List.flatMap_cons, List.map_append, List.foldl_append, ha]
          by_cases gn : 0 < p ∨ ∀ k' : Nat, k' < n → bitN x k' = true → k' ≠ k → K 2280 (Z' 1744 (k' : Int) 0) 0 ≠ c
          · rw [b01_t gn] at nx
            have o := one_b hcar h81 f0 f1 b0 (by omega)
            have cl := h81
            unfold CLL at cl
            obtain ⟨U, hU⟩ : ∃ U, K 2271 c 0 * qd fl (K 2276 a 0) = U := ⟨_, rfl⟩
            obtain ⟨V, hV⟩ : ∃ V, K 2271 c 0 * qd (K 2276 a 0) (K 2277 a 0) = V := ⟨_, rfl⟩
            obtain ⟨G, hG⟩ : ∃ G, wgt K a * (bh + U) = G := ⟨_, rfl⟩
            rw [hU, hV, hG] at o
            have eU : w32 (qabs (w32 (fl - K 2276 a 0)) * K 2271 c 0) = U := by
              rw [qab_e (by omega) (by omega), Int.mul_comm, hU, w32_id (by omega) (by omega)]
            have eV : w32 (qabs (w32 (K 2277 a 0 - K 2276 a 0)) * K 2271 c 0) = V := by
              rw [qab_e (by omega) (by omega), Int.mul_comm, qd_s, hV, w32_id (by omega) (by omega)]
            obtain ⟨W, hW⟩ : ∃ W, qw Z' 2152 p 0 k = W := ⟨_, rfl⟩
            have fW : TRF M W := fun e x y z1 z2 z3 => by
              rw [← hW, qw_a z1]
              exact f' e x y z1 z2 z3
            have ew : qf_X3_weightOf 20000 a W = some (wgt K a) := wgt_C h81 ((fW _ _ _ (by decide) (by decide) (by omega)).trans h.2.2.2.2.2.2.1) (by omega) ((fW _ _ _ (by decide) (by decide) (by omega)).trans h84)
            have w0 : ∀ k', k' < (p : Int) → W 2152 k' 0 = Z 2152 k' 0 := fun k' k1 => by
              rw [← hW, qw_i (by omega)]
              exact z' k' k1
            have wp : W 2152 p 0 = k := by
              rw [← hW]
              exact qw_s
            have fx : bA (x : Int) (bX (bL 1 (k : Int)) (-1)) = ((x - 2 ^ k : Nat) : Int) := by
              rw [bit_f hx (show k < 6 by omega), if_pos gb]
            obtain ⟨Y1, e1, f1', y1, hB1⟩ := ih (x - 2 ^ k) (p + 1) N' (K 2277 a 0) (bh + U + 3 + V + 3) (j + G + (bh + U + 3 + V)) (pre ++ [a]) W B' (by
                rw [bts_er hx (show k < 6 by omega) gb n 0 (by omega), List.length_erase_of_mem ((bts_in n 0 k).mpr ⟨k, rfl, by omega, by omega, gb⟩)]
                omega) (Nat.lt_of_succ_lt_succ mN) (by omega) (Nat.lt_of_le_of_lt (Nat.sub_le _ _) hx) (fun i i0 i1 => by
                rw [bit_sub hx (show k < 6 by omega) i1 gb, hb i i0 i1]
                rfl) fW (by
                rw [rl_snoc, ← ha]
                refine congr (congrArg _ ?_) ?_
                · rw [← hr]
                  refine rl_ext p 0 (fun k' k0 k1 => ?_)
                  show M 1744 (W 2152 k' 0) 0 = M 1744 (Z 2152 k' 0) 0
                  rw [w0 k' (by omega)]
                · show [M 1744 (W 2152 (0 + (p : Int)) 0) 0] = _
                  rw [Int.zero_add, wp]) (fun k' k0 k1 => by
                by_cases ek : k' = p
                · rw [ek, wp]
                  omega
                · rw [w0 k' (by omega)]
                  exact hrg k' k0 (by omega)) (by omega) (by omega) (by omega) (by omega) (by omega) (by omega) ⟨by
                  rw [← hW, qw_a (by decide)]
                  exact hB'.1, by
                  rw [← hB'.2.1]
                  refine rl_ext s 0 (fun k' k0 k1 => ?_)
                  show M 1744 (W 2153 k' 0) 0 = M 1744 (Z' 2153 k' 0) 0
                  rw [← hW, qw_a (by decide)], fun z k' k0 k1 => by
                  rw [← hW, qw_a (by decide)]
                  exact hB'.2.2 z k' k0 k1⟩ (fun t => by
                rw [List.append_assoc]
                refine (hc ([a] ++ t)).trans ?_
                show j + rco K c fl bh (a :: t) = _
                rw [rco_c, hU, hV, hG, show bh + U + (3 + V) + 3 = bh + U + 3 + V + 3 by omega]
                omega) (fun _ t ht => by
                rw [eL] at ht
                rw [List.append_assoc]
                rcases gn with gn | gn
                · exact ho gn (a :: t) (List.mem_flatMap.mpr ⟨a, aL, List.mem_map.mpr ⟨t, ht, rfl⟩⟩)
                · by_cases gp : 0 < p
                  · exact ho gp (a :: t) (List.mem_flatMap.mpr ⟨a, aL, List.mem_map.mpr ⟨t, ht, rfl⟩⟩)
                  · have ep : pre = [] := by
                      rw [← hr, show p = 0 by omega]
                      rfl
                    rw [ep]
                    intro y hy
                    have hy' : y ∈ t := hy
                    have pm := prm_perm m _ t (by rw [List.length_erase_of_mem aL]; omega) ht
                    have hy2 := pm.mem_iff.mp hy'
                    rw [← eL] at hy2
                    obtain ⟨k', k1, k2, k3⟩ := calc_m h hy2
                    rw [bit_sub hx (show k < 6 by omega) (show k' < 6 by omega) gb, Bool.and_eq_true] at k2
                    have q := gn k' k1 k2.1 (by simpa using k2.2)
                    rw [z44, ← k3] at q
                    exact q)
            have st : qf_X3_tryRows_B_L49_b 20000 (qr_X3_tryRows 20000 N') c x p fl bh j (K 2271 c 0) k Z' = some (.inr ((c : Int), (x : Int), (p : Int), fl, bh, j, K 2271 c 0, (k : Int) + 1, Y1)) := by
              unfold qf_X3_tryRows_B_L49_b qbnd
              rw [if_neg (show ¬ Z' 1337 4 0 ≤ (k : Int) by omega), if_neg (show ¬ (6 : Int) ≤ p by omega), bit_e hx (show k < 6 by omega), if_pos gb, if_neg (by decide), nx]
              simp only [Option.bind_some]
              rw [if_neg (by decide), if_pos (show 0 ≤ (k : Int) ∧ (k : Int) < 6 by omega), z44 k, ha, if_pos (show 0 ≤ a ∧ a < 400 by omega), if_pos (show 0 ≤ (p : Int) ∧ (p : Int) < 6 by omega)]
              simp only [hW]
              rw [ew]
              simp only [Option.bind_some]
              rw [show W 1343 a 1 = K 2277 a 0 from (fW _ _ _ (by decide) (by decide) (by omega)).trans h83, show Z' 1343 a 1 = K 2277 a 0 from (f' _ _ _ (by decide) (by decide) (by omega)).trans h83, show Z' 1343 a 0 = K 2276 a 0 from (f' _ _ _ (by decide) (by decide) (by omega)).trans h82, eU, eV, w32_id (x := bh + U) (by omega) (by omega), w32_id (x := bh + U + 3) (by omega) (by omega), w32_id (x := bh + U + 3 + V) (by omega) (by omega), w32_id (x := bh + U + 3 + V + 3) (by omega) (by omega), hG, w64_id (x := G) (by omega) (by omega), w64_id (x := j + G) (by omega) (by omega), w64_id (x := j + G + (bh + U + 3 + V)) (by omega) (by omega), w32_id (x := (p : Int) + 1) (by omega) (by omega), fx, w32_t (show k < 1000 by omega)]
              have e1' : qr_X3_tryRows 20000 N' c ((x - 2 ^ k : Nat) : Int) ((p : Int) + 1) (K 2277 a 0) (bh + U + 3 + V + 3) (j + G + (bh + U + 3 + V)) W = some ((), Y1) := e1
              rw [e1']
              rfl
            rw [on st]
            rw [eL] at hB1
            have em : ((prm m (L.erase a)).map (fun t => a :: t)).map (fun t => pre ++ t) = (prm m (L.erase a)).map (fun t => pre ++ [a] ++ t) := by
              rw [List.map_map]
              refine congrFun (congrArg _ (funext (fun t => ?_))) _
              show pre ++ a :: t = pre ++ [a] ++ t
              rw [List.append_assoc]
              rfl
            rw [em]
            exact ih2 (k + 1) N1 Y1 _ (by omega) (Nat.lt_of_succ_lt_succ rN) f1' (fun k' k1 => (y1 k' (by omega)).trans (w0 k' k1)) hB1
          · rw [b01_f gn] at nx
            have st : qf_X3_tryRows_B_L49_b 20000 (qr_X3_tryRows 20000 N') c x p fl bh j (K 2271 c 0) k Z' = some (.inr ((c : Int), (x : Int), (p : Int), fl, bh, j, K 2271 c 0, (k : Int) + 1, Z')) := by
              unfold qf_X3_tryRows_B_L49_b
              rw [if_neg (show ¬ Z' 1337 4 0 ≤ (k : Int) by omega), if_neg (show ¬ (6 : Int) ≤ p by omega), bit_e hx (show k < 6 by omega), if_pos gb, if_neg (by decide), nx]
              simp only [Option.bind_some]
              rw [if_pos trivial, w32_t (show k < 1000 by omega)]
            rw [on st]
            have no : (((prm m (L.erase a)).map (fun t => a :: t)).map (fun t => pre ++ t)).foldl (rok K c) B' = B' := by
              unfold rok
              refine fold_no _ (fun l hl ok => absurd ok ?_)
              obtain ⟨t2, ht2, e2⟩ := List.mem_map.mp hl
              obtain ⟨t, ht, e3⟩ := List.mem_map.mp ht2
              have p0 : p = 0 := by omega
              have ep : pre = [] := by
                rw [← hr, p0]
                rfl
              have el : l = a :: t := by
                rw [← e2, ← e3, ep]
                rfl
              rw [el]
              intro z
              refine gn (Or.inr (fun k' k1 k2 k3 => ?_))
              rw [z44]
              refine z _ ?_
              show M 1744 (k' : Int) 0 ∈ t
              have pm := prm_perm m _ t (by rw [List.length_erase_of_mem aL]; omega) ht
              rw [pm.mem_iff, ← eL]
              refine List.mem_map.mpr ⟨k', (bts_in n 0 k').mpr ⟨k', rfl, by omega, by omega, ?_⟩, rfl⟩
              rw [bit_sub hx (show k < 6 by omega) (show k' < 6 by omega) gb, k2]
              simpa using k3
            rw [no]
            exact ih2 (k + 1) N1 Z' B' (by omega) (Nat.lt_of_succ_lt_succ rN) f' z' hB'
        · have eb : bts x (r + 1) k = bts x r (k + 1) := if_neg gb
          have st : qf_X3_tryRows_B_L49_b 20000 (qr_X3_tryRows 20000 N') c x p fl bh j (K 2271 c 0) k Z' = some (.inr ((c : Int), (x : Int), (p : Int), fl, bh, j, K 2271 c 0, (k : Int) + 1, Z')) := by
            unfold qf_X3_tryRows_B_L49_b
            rw [if_neg (show ¬ Z' 1337 4 0 ≤ (k : Int) by omega), if_neg (show ¬ (6 : Int) ≤ p by omega), bit_e hx (show k < 6 by omega), if_neg gb, if_pos rfl, w32_t (show k < 1000 by omega)]
          rw [on st, eb]
          exact ih2 (k + 1) N1 Z' B' (by omega) (Nat.lt_of_succ_lt_succ rN) f' z' hB'
    show ∃ Y, qf_X3_tryRows_B 20000 (qr_X3_tryRows 20000 N') c x p fl bh j Z = some ((), Y) ∧ _
    by_cases g : j < B.1
    · obtain ⟨Y, e1, f1', y1, hB1⟩ := inner n 0 20000 Z B (by omega) (by omega) f (fun _ _ => rfl) hB
      refine ⟨Y, ?_, f1', y1, ?_⟩
      · unfold qf_X3_tryRows_B
        rw [if_pos (show j < Z 1337 12 0 by rw [hB.1]; exact g), if_neg (show ¬ (x : Int) = 0 by omega), if_pos (show 0 ≤ (c : Int) ∧ (c : Int) < 4 from ⟨hc4.1, hc4.2.1⟩), show Z 1338 c 1 = K 2271 c 0 from (f _ _ _ (by decide) (by decide) (by omega)).trans h.2.2.2.1]
        have e1' : qf_X3_tryRows_B_L49 20000 (qr_X3_tryRows 20000 N') 20000 c x p fl bh j (K 2271 c 0) 0 Z = some (.inr ((), Y)) := e1
        rw [e1']
        rfl
      · rw [hL]
        have e2 : prm (m + 1) L = ((bts x n 0).map (fun k => M 1744 k 0)).flatMap (fun a => (prm m (L.erase a)).map (fun t => a :: t)) := by
          show L.flatMap _ = _
          rw [← hL]
          rfl
        rw [e2]
        exact hB1
    · refine ⟨Z, ?_, f, fun _ _ => rfl, ?_⟩
      · unfold qf_X3_tryRows_B
        rw [if_neg (show ¬ j < Z 1337 12 0 by rw [hB.1]; exact g)]
      · rw [prune_C h hm (by omega) f0 f1 b0 b1 hc (by omega)]
        exact hB
end GVo
