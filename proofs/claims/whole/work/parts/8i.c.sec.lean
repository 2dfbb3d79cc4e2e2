/-! ===== passing: what a second needs and keeps ===== -/
section PTc
variable {M K N W : qm} {t u E s : Int}
/-- a finding of the plan as it is -/
def FNX (M K : qm) : Prop := ∃ (M0 K0 A D0 D E F G H C : qm) (q : Int → Int) (m p R : Int) (stt cnt : Int → Int), FNW M K M0 K0 A D0 D E F G H C q m p R stt cnt ∧ CUR M M0
/-- what no second changes -/
def SX (M K : qm) : Prop := M 6 11 0 ≠ 0 ∧ (R_lines M K ∧ R_ends M K ∧ R_doorn M K ∧ R_doors M K) ∧ (R_spaceof M K ∧ R_walk M K ∧ R_rooms M K ∧ R_personn M K ∧ R_calln M K ∧ R_opens M K ∧ R_mpoints M K ∧ R_bound M K ∧ R_blocks M K) ∧ WLB M ∧ FNX M K
theorem fnw_k {M0 K0 A D0 D E' F G H C : qm} {q : Int → Int} {m p R : Int} {stt cnt : Int → Int} (h : FNW M K M0 K0 A D0 D E' F G H C q m p R stt cnt) (hK : FNK K W) : FNW M W M0 K0 A D0 D E' F G H C q m p R stt cnt := by
  obtain ⟨w1, w2, w3, w4, w5, w6⟩ := h
  exact ⟨w1, w2, ⟨fun b i hb => (hK b i (by omega)).trans (w3.1 b i hb), fun l l0 l1 => (hK 2160 l (Or.inl rfl)).trans (w3.2 l l0 l1)⟩, fun x y x0 x1 y0 y1 => (hK 2168 _ (by omega)).trans (w4 x y x0 x1 y0 y1), w5, w6⟩
theorem sx_o (h : SX M K) (o : ∀ (e : Nat) (x y : Int), ((e = 6 ∧ x = 11) ∨ (7 ≤ e ∧ e ≤ 755) ∨ (e = 756 ∧ x = 7) ∨ e = 759 ∨ (e = 1003 ∧ x = 0) ∨ e = 1134 ∨ (e = 1172 ∧ x = 2) ∨ (1337 ≤ e ∧ e ≤ 2155)) → N e x y = M e x y) (p : ∀ (e : Nat) (x y : Int), ((e = 2156 ∧ (x = 9 ∨ x = 27)) ∨ (2157 ≤ e ∧ e ≤ 2207) ∨ (e = 2208 ∧ x = 0) ∨ (e = 2235 ∧ x = 0) ∨ e = 2248 ∨ (e = 2270 ∧ x ≠ 12) ∨ (2271 ≤ e ∧ e ≤ 2303) ∨ e = 2328 ∨ e = 2329) → W e x y = K e x y) : SX N W := by
  obtain ⟨hb, ⟨h1, h2, h3, h4⟩, ⟨h5, h6, h7, h8, h9, h10, h11, h12, h13⟩, hw, hf⟩ := h
  refine ⟨by rw [o 6 11 0 (by omega)]; exact hb, ⟨(R_lines_x (M := M) (K := K) (o 7 0 0 (by omega)) (p 2157 0 0 (by omega)) h1), (R_ends_x (M := M) (K := K) (o 7 0 0 (by omega)) (fun i j => o 8 i j (by omega)) (fun i j => p 2158 i j (by omega)) (fun i j => p 2159 i j (by omega)) (fun i j => p 2160 i j (by omega)) (fun i j => p 2161 i j (by omega)) h2), (R_doorn_x (M := M) (K := K) (o 7 0 0 (by omega)) (fun i j => o 29 i j (by omega)) (fun i j => p 2162 i j (by omega)) h3), (R_doors_x (M := M) (K := K) (fun i j => o 29 i j (by omega)) (fun i j => o 30 i j (by omega)) (fun i j => p 2161 i j (by omega)) (fun i j => p 2163 i j (by omega)) (fun i j => p 2164 i j (by omega)) (fun i j => p 2165 i j (by omega)) h4)⟩, ⟨(R_spaceof_x (M := M) (K := K) (o 6 11 0 (by omega)) (o 51 3 0 (by omega)) (fun i j => o 56 i j (by omega)) (fun i j => p 2329 i j (by omega)) h5), (R_walk_x (M := M) (K := K) (o 6 11 0 (by omega)) (fun i j => o 759 i j (by omega)) (fun i j => p 2328 i j (by omega)) h6), (R_rooms_x (M := M) (K := K) (o 6 11 0 (by omega)) (o 51 3 0 (by omega)) (p 2156 9 0 (by omega)) h7), (R_personn_x (M := M) (K := K) (o 756 7 0 (by omega)) (p 2156 27 0 (by omega)) h8), (R_calln_x (M := M) (K := K) (o 1337 2 0 (by omega)) (p 2270 6 0 (by omega)) h9), (R_opens_x (M := M) (K := K) (o 1337 2 0 (by omega)) (o 1337 4 0 (by omega)) (fun i j => p 2279 i j (by omega)) h10), (R_mpoints_x (M := M) (K := K) (o 6 11 0 (by omega)) (o 1172 2 0 (by omega)) (p 2156 9 0 (by omega)) (p 2208 0 0 (by omega)) h11), (R_bound_x (M := M) (K := K) (o 1003 0 0 (by omega)) (fun i j => o 1134 i j (by omega)) (fun i j => p 2248 i j (by omega)) h12), (R_blocks_x (M := M) (K := K) (o 1003 0 0 (by omega)) (p 2235 0 0 (by omega)) h13)⟩, fun v v0 v1 => ?_, ?_⟩
  · rw [o 759 v 0 (by omega)]
    exact hw v v0 v1
  · obtain ⟨M0, K0, A, D0, D, E, F, G, H, C, q, m, p', R, stt, cnt, hf, hc⟩ := hf
    exact ⟨M0, K0, A, D0, D, E, F, G, H, C, q, m, p', R, stt, cnt, fnw_k (FNW_m hf (fun b i j g => o b i j (by omega))) (fun b i g => p b i 0 (by omega)), (o 7 0 0 (by omega)).trans hc.1, fun l j l0 l1 => (o 8 l j (by omega)).trans (hc.2 l j l0 l1)⟩
theorem sx_F (h : SX M K) (f : Fg 22128727145120783221488305490411252646674434 M N) (g : Fg 131694898927831736381312881657692929566851318366731015927044283881285592837645214222536593055079764553052742978619786133504 K W) : SX N W := by
  obtain ⟨hb, ⟨h1, h2, h3, h4⟩, ⟨h5, h6, h7, h8, h9, h10, h11, h12, h13⟩, hw, hf⟩ := h
  refine ⟨by rw [f 6 11 0 rfl]; exact hb, ⟨(R_lines_x (f 7 0 0 rfl) (g 2157 0 0 rfl) h1), (R_ends_x (f 7 0 0 rfl) (fun i j => Fg_v (a := 8) (j := i) f rfl rfl) (fun i j => Fg_v (a := 2158) (j := i) g rfl rfl) (fun i j => Fg_v (a := 2159) (j := i) g rfl rfl) (fun i j => Fg_v (a := 2160) (j := i) g rfl rfl) (fun i j => Fg_v (a := 2161) (j := i) g rfl rfl) h2), (R_doorn_x (f 7 0 0 rfl) (fun i j => Fg_v (a := 29) (j := i) f rfl rfl) (fun i j => Fg_v (a := 2162) (j := i) g rfl rfl) h3), (R_doors_x (fun i j => Fg_v (a := 29) (j := i) f rfl rfl) (fun i j => Fg_v (a := 30) (j := i) f rfl rfl) (fun i j => Fg_v (a := 2161) (j := i) g rfl rfl) (fun i j => Fg_v (a := 2163) (j := i) g rfl rfl) (fun i j => Fg_v (a := 2164) (j := i) g rfl rfl) (fun i j => Fg_v (a := 2165) (j := i) g rfl rfl) h4)⟩, ⟨(R_spaceof_x (f 6 11 0 rfl) (f 51 3 0 rfl) (fun i j => Fg_v (a := 56) (j := i) f rfl rfl) (fun i j => Fg_v (a := 2329) (j := i) g rfl rfl) h5), (R_walk_x (f 6 11 0 rfl) (fun i j => Fg_v (a := 759) (j := i) f rfl rfl) (fun i j => Fg_v (a := 2328) (j := i) g rfl rfl) h6), (R_rooms_x (f 6 11 0 rfl) (f 51 3 0 rfl) (g 2156 9 0 rfl) h7), (R_personn_x (f 756 7 0 rfl) (g 2156 27 0 rfl) h8), (R_calln_x (f 1337 2 0 rfl) (g 2270 6 0 rfl) h9), (R_opens_x (f 1337 2 0 rfl) (f 1337 4 0 rfl) (fun i j => Fg_v (a := 2279) (j := i) g rfl rfl) h10), (R_mpoints_x (f 6 11 0 rfl) (f 1172 2 0 rfl) (g 2156 9 0 rfl) (g 2208 0 0 rfl) h11), (R_bound_x (f 1003 0 0 rfl) (fun i j => Fg_v (a := 1134) (j := i) f rfl rfl) (fun i j => Fg_v (a := 2248) (j := i) g rfl rfl) h12), (R_blocks_x (f 1003 0 0 rfl) (g 2235 0 0 rfl) h13)⟩, fun v v0 v1 => ?_, ?_⟩
  · rw [show N 759 v 0 = M 759 v 0 from Fg_v f rfl rfl]
    exact hw v v0 v1
  · obtain ⟨M0, K0, A, D0, D, E, F, G, H, C, q, m, p', R, stt, cnt, hf, hc⟩ := hf
    refine ⟨M0, K0, A, D0, D, E, F, G, H, C, q, m, p', R, stt, cnt, fnw_k (FNW_m hf (fun b i j z => ?_)) (fun b i z => ?_), (f 7 0 0 rfl).trans hc.1, fun l j l0 l1 => (Fg_v (a := 8) (j := l) f rfl rfl).trans (hc.2 l j l0 l1)⟩
    · rcases z with ⟨rfl, rfl⟩ | rfl | ⟨rfl, z⟩ | rfl | rfl | rfl | rfl | rfl | rfl | rfl
      · exact f 7 0 j rfl
      · exact Fg_v f rfl rfl
      · rcases z with rfl | rfl | rfl | rfl | rfl <;> exact f _ _ _ rfl
      all_goals exact Fg_v f rfl rfl
    · rcases (show b = 2160 ∨ b = 2166 ∨ b = 2167 ∨ b = 2168 ∨ b = 2174 ∨ b = 2175 ∨ b = 2176 ∨ b = 2177 ∨ b = 2178 ∨ b = 2179 ∨ b = 2180 ∨ b = 2181 ∨ (b = 2157 ∧ (i = 12 ∨ i = 13 ∨ i = 27 ∨ i = 30 ∨ i = 35)) from by omega) with rfl | rfl | rfl | rfl | rfl | rfl | rfl | rfl | rfl | rfl | rfl | rfl | ⟨rfl, w⟩
      all_goals first
        | exact Fg_v g rfl rfl
        | (rcases w with rfl | rfl | rfl | rfl | rfl <;> exact g _ _ _ rfl)
theorem bq_o (h : BQ M K) (o : ∀ (e : Nat) (x y : Int), e = 1140 ∨ e = 1149 ∨ e = 1158 → N e x y = M e x y) (p : ∀ (e : Nat) (x y : Int), (2255 ≤ e ∧ e ≤ 2266) → W e x y = K e x y) : BQ N W := stn_bq (fun s s0 s1 => stn_o (bq_stn h s0 s1) (fun _ => o _ _ _ (by omega)) (fun _ => o _ _ _ (by omega)) (fun _ => o _ _ _ (by omega)) (fun b b0 b1 _ _ => p _ _ _ ⟨by omega, by omega⟩) (fun _ _ _ => p _ _ _ (by omega)))
theorem mx_bq (h : MxI M K E) : BQ M K ∧ R_points M K ∧ R_mvalue M K ∧ R_mnow M K := by
  obtain ⟨h1, h2, h3, h4, h5, h6, h7, h8, h9, h10, h11, h12, h13, h14⟩ := h
  exact ⟨h13.2.2.2.1, h13.2.2.2.2, h7, h6⟩
theorem smk_o (h : SMK M K) (o : ∀ (e : Nat) (x y : Int), ((e = 756 ∧ x = 4) ∨ e = 757 ∨ e = 758) → N e x y = M e x y) (p : ∀ (e : Nat) (x y : Int), (e = 2326 ∨ e = 2329) → W e x y = K e x y) : SMK N W := ⟨(R_smoke_x (M := M) (K := K) (fun i j => o 757 i j (by omega)) (fun i j => p 2326 i j (by omega)) h.1), (R_smoky_x (M := M) (K := K) (o 756 4 0 (by omega)) (fun i j => p 2326 i j (by omega)) h.2.1), (R_sroom_x (M := M) (K := K) (fun i j => o 758 i j (by omega)) (fun i j => p 2326 i j (by omega)) (fun i j => p 2329 i j (by omega)) h.2.2)⟩
def PEC (M K : qm) : Prop := R_persons M K ∧ R_personb M K ∧ R_calls M K ∧ R_personz M K
theorem pec_o (h : PEC M K) (o : ∀ (e : Nat) (x y : Int), ((e = 6 ∧ x = 12) ∨ e = 56 ∨ (e = 756 ∧ x = 7) ∨ e = 761 ∨ (e = 1337 ∧ x = 2) ∨ e = 1343) → N e x y = M e x y) (p : ∀ (e : Nat) (x y : Int), ((e = 2156 ∧ x = 9) ∨ (2276 ≤ e ∧ e ≤ 2279) ∨ (2304 ≤ e ∧ e ≤ 2311)) → W e x y = K e x y) : PEC N W := ⟨(R_persons_x (M := M) (K := K) (o 756 7 0 (by omega)) (fun i j => o 761 i j (by omega)) (fun i j => p 2304 i j (by omega)) (fun i j => p 2305 i j (by omega)) (fun i j => p 2306 i j (by omega)) (fun i j => p 2307 i j (by omega)) (fun i j => p 2308 i j (by omega)) (fun i j => p 2309 i j (by omega)) (fun i j => p 2310 i j (by omega)) (fun i j => p 2311 i j (by omega)) h.1), (R_personb_x (M := M) (K := K) (o 6 12 0 (by omega)) (fun i j => o 56 i j (by omega)) (o 756 7 0 (by omega)) (p 2156 9 0 (by omega)) (fun i j => p 2306 i j (by omega)) (fun i j => p 2307 i j (by omega)) (fun i j => p 2308 i j (by omega)) (fun i j => p 2309 i j (by omega)) (fun i j => p 2311 i j (by omega)) h.2.1), (R_calls_x (M := M) (K := K) (o 6 12 0 (by omega)) (o 1337 2 0 (by omega)) (fun i j => o 1343 i j (by omega)) (fun i j => p 2276 i j (by omega)) (fun i j => p 2277 i j (by omega)) (fun i j => p 2278 i j (by omega)) (fun i j => p 2279 i j (by omega)) h.2.2.1), (R_personz_x (M := M) (K := K) (o 756 7 0 (by omega)) (fun i j => o 761 i j (by omega)) (fun i j => p 2310 i j (by omega)) (fun i j => p 2311 i j (by omega)) h.2.2.2)⟩
def PGA (M K : qm) : Prop := PgI M K ∧ R_rests M K ∧ R_sorted M K
theorem pga_o (h : PGA M K) (o : ∀ (e : Nat) (x y : Int), ((1003 ≤ e ∧ e ≤ 1008) ∨ e = 1049 ∨ e = 1050 ∨ e = 1091 ∨ e = 1132 ∨ e = 1133 ∨ (1136 ≤ e ∧ e ≤ 1138)) → N e x y = M e x y) (p : ∀ (e : Nat) (x y : Int), ((e = 2235 ∧ x ≠ 14) ∨ (2236 ≤ e ∧ e ≤ 2246) ∨ e = 2251) → W e x y = K e x y) (hP : R_points N W) : PGA N W := by
  obtain ⟨⟨h1, h2, h3, h4, h5, h6, h7, h8, h9, h10⟩, h11, h12⟩ := h
  exact ⟨⟨(R_blocks_x (M := M) (K := K) (o 1003 0 0 (by omega)) (p 2235 0 0 (by omega)) h1), (R_kinds_x (M := M) (K := K) (fun i j => o 1004 i j (by omega)) (fun i j => p 2236 i j (by omega)) h2), (R_pq_x (M := M) (K := K) (fun i j => o 1005 i j (by omega)) (fun i j => o 1006 i j (by omega)) (fun i j => p 2237 i j (by omega)) (fun i j => p 2238 i j (by omega)) h3), (R_safe_x (M := M) (K := K) (fun i j => o 1007 i j (by omega)) (fun i j => p 2239 i j (by omega)) h4), (R_outs_x (M := M) (K := K) (fun i j => o 1049 i j (by omega)) (fun i j => o 1050 i j (by omega)) (fun i j => p 2242 i j (by omega)) (fun i j => p 2243 i j (by omega)) (fun i j => p 2244 i j (by omega)) h5), (R_hand_x (M := M) (K := K) (fun i j => o 1132 i j (by omega)) (fun i j => o 1133 i j (by omega)) (fun i j => p 2245 i j (by omega)) (fun i j => p 2246 i j (by omega)) h6), (R_wire_x (M := M) (K := K) (o 1003 0 0 (by omega)) (fun i j => o 1008 i j (by omega)) (fun i j => p 2240 i j (by omega)) h7), (R_row_x (M := M) (K := K) (fun i j => o 1091 i j (by omega)) (fun i j => p 2241 i j (by omega)) h8), hP, (R_failed_x (M := M) (K := K) (fun i j => o 1138 i j (by omega)) (fun i j => p 2251 i j (by omega)) h10)⟩, (R_rests_x (M := M) (K := K) (o 1003 18 0 (by omega)) (p 2235 18 0 (by omega)) h11), (R_sorted_x (M := M) (K := K) (o 1003 0 0 (by omega)) (o 1003 13 0 (by omega)) (o 1003 14 0 (by omega)) (fun i j => o 1004 i j (by omega)) (fun i j => o 1008 i j (by omega)) (fun i j => o 1136 i j (by omega)) (fun i j => o 1137 i j (by omega)) h12)⟩
/-- all that a second needs and keeps -/
def SE (M K : qm) (t u E : Int) : Prop := SX M K ∧ (M 6 12 0 = t ∧ K 2156 2 0 = t ∧ K 2270 12 0 = t ∧ 0 ≤ t ∧ t ≤ 6000) ∧ MxI M K E ∧ BUS M K u ∧ SMK M K ∧ PEC M K ∧ PGA M K
theorem se_time (h : SE M K t u E) (t1 : t + 1 ≤ 6000) : SE (qw M 6 12 0 (t + 1)) (qw (qw (qw K 2156 2 0 (t + 1)) 2208 1 0 (t + 1)) 2270 12 0 (t + 1)) (t + 1) u E := by
  obtain ⟨hx, ⟨e1, e2, e3, e4, e5⟩, hm, hb, hs, hp, hg⟩ := h
  obtain ⟨N, hN⟩ : ∃ N, qw M 6 12 0 (t + 1) = N := ⟨_, rfl⟩
  obtain ⟨W, hW⟩ : ∃ W, qw (qw (qw K 2156 2 0 (t + 1)) 2208 1 0 (t + 1)) 2270 12 0 (t + 1) = W := ⟨_, rfl⟩
  have o : ∀ (e : Nat) (x y : Int), ¬ (e = 6 ∧ x = 12) → N e x y = M e x y := fun e x y g => by
    rw [← hN, qw_ap, if_neg (fun z => g ⟨z.1, z.2.1⟩)]
  have p : ∀ (e : Nat) (x y : Int), (¬ (e = 2156 ∧ x = 2) ∧ ¬ (e = 2208 ∧ x = 1) ∧ ¬ (e = 2270 ∧ x = 12)) → W e x y = K e x y := fun e x y g => by
    rw [← hW, qw_ap, if_neg (fun z => g.2.2 ⟨z.1, z.2.1⟩), qw_ap, if_neg (fun z => g.2.1 ⟨z.1, z.2.1⟩), qw_ap, if_neg (fun z => g.1 ⟨z.1, z.2.1⟩)]
  have n12 : N 6 12 0 = t + 1 := by
    rw [← hN]
    exact qw_s
  have w12 : W 2270 12 0 = t + 1 := by
    rw [← hW]
    exact qw_s
  have w2 : W 2156 2 0 = t + 1 := by
    rw [← hW, qw_a (by decide), qw_a (by decide)]
    exact qw_s
  have w1 : W 2208 1 0 = t + 1 := by
    rw [← hW, qw_a (by decide)]
    exact qw_s
  rw [hN, hW]
  obtain ⟨q1, q2, q3, q4⟩ := mx_bq hm
  have bq : BQ N W := bq_o q1 (fun e x y g => o e x y (by omega)) (fun e x y g => p e x y (by omega))
  have pt : R_points N W := R_points_x (M := M) (K := K) (fun i j => o _ _ _ (by omega)) (fun i j => p _ _ _ (by omega)) q2
  have mv : R_mvalue N W := R_mvalue_x (M := M) (K := K) (fun i j => o _ _ _ (by omega)) (fun i j => p _ _ _ (by omega)) q3
  refine ⟨sx_o hx (fun e x y g => o e x y (by omega)) (fun e x y g => p e x y (by omega)), ⟨n12, w2, w12, by omega, t1⟩, mx_keep hm (fun e x y g => o e x y (by omega)) (fun e x y g => p e x y (by omega)) (by unfold R_mnow; omega) mv (by omega) bq pt, bus_q hb bq (fun e x y g => o e x y (by omega)) (fun e x y g1 g2 g3 g4 => p e x y (by omega)), smk_o hs (fun e x y g => o e x y (by omega)) (fun e x y g => p e x y (by omega)), ⟨?_, fun k k0 k1 => ?_, fun k k0 k1 => ?_, (R_personz_x (M := M) (K := K) (o 756 7 0 (by omega)) (fun i j => o 761 i j (by omega)) (fun i j => p 2310 i j (by omega)) (fun i j => p 2311 i j (by omega)) hp.2.2.2)⟩, pga_o hg (fun e x y g => o e x y (by omega)) (fun e x y g => p e x y (by omega)) pt⟩
  · exact (R_persons_x (M := M) (K := K) (o 756 7 0 (by omega)) (fun i j => o 761 i j (by omega)) (fun i j => p 2304 i j (by omega)) (fun i j => p 2305 i j (by omega)) (fun i j => p 2306 i j (by omega)) (fun i j => p 2307 i j (by omega)) (fun i j => p 2308 i j (by omega)) (fun i j => p 2309 i j (by omega)) (fun i j => p 2310 i j (by omega)) (fun i j => p 2311 i j (by omega)) hp.1)
  · rw [o 756 7 0 (by omega)] at k1
    have z := hp.2.1 k k0 k1
    rw [p 2306 _ _ (by omega), p 2307 _ _ (by omega), p 2308 _ _ (by omega), p 2309 _ _ (by omega), p 2311 _ _ (by omega), p 2156 9 _ (by omega), o 56 _ _ (by omega), n12]
    exact ⟨z.1, z.2.1, z.2.2.1, z.2.2.2.1, by omega, z.2.2.2.2.2⟩
  · rw [o 1337 2 0 (by omega)] at k1
    have z := hp.2.2.1 k k0 k1
    rw [p 2276 _ _ (by omega), p 2277 _ _ (by omega), p 2278 _ _ (by omega), p 2279 _ _ (by omega), o 1343 _ _ (by omega), o 1343 _ _ (by omega), o 1343 _ _ (by omega), n12]
    omega
end PTc
