/-! ===== the law between two calls: pieces of the matrix and the bus (wip/tools/q/genli.py) ===== -/
section LIe
variable {M K N W S T M' K' : qm} {n t E s : Int}
theorem mx_keep2 (h : MxI M K E) (o : ∀ (b : Nat) (i j : Int), ((b = 1172 ∧ (i = 2 ∨ i = 9 ∨ i = 17)) ∨ b = 1176 ∨ b = 1197 ∨ b = 1218 ∨ (1269 ≤ b ∧ b ≤ 1273) ∨ b = 1276) → S b i j = M b i j) (p : ∀ (b : Nat) (i j : Int), ((b = 2208 ∧ (i = 21 ∨ i = 30)) ∨ (2215 ≤ b ∧ b ≤ 2233)) → T b i j = K b i j) (hf : R_mfault S T) (hu : R_muntil S T) (hn : R_mnow S T) (hv : R_mvalue S T) (ht : M 6 12 0 ≤ S 6 12 0) (hB : BQ S T) (hP : R_points S T) : MxI S T E := by
  obtain ⟨h1, h2, h3, h4, h5, h6, h7, h8, h9, h10, h11, h12, h13, h14⟩ := h
  have o_ACmatrixzones : ∀ i j, S 1176 i j = M 1176 i j := fun i j => o 1176 i j (by omega)
  have o_ACmatrixrows : ∀ i j, S 1218 i j = M 1218 i j := fun i j => o 1218 i j (by omega)
  have o_ACmatrixbyRank : ∀ i j, S 1269 i j = M 1269 i j := fun i j => o 1269 i j (by omega)
  have o_ACmatrixacts : ∀ i j, S 1197 i j = M 1197 i j := fun i j => o 1197 i j (by omega)
  have p_ARmatrixactTold : ∀ i j, T 2219 i j = K 2219 i j := fun i j => p 2219 i j (by omega)
  have p_ARmatrixkind : ∀ i j, T 2220 i j = K 2220 i j := fun i j => p 2220 i j (by omega)
  have p_ARmatrixrank : ∀ i j, T 2221 i j = K 2221 i j := fun i j => p 2221 i j (by omega)
  have p_ARmatrixdelay : ∀ i j, T 2222 i j = K 2222 i j := fun i j => p 2222 i j (by omega)
  have p_ARmatrixlatches : ∀ i j, T 2223 i j = K 2223 i j := fun i j => p 2223 i j (by omega)
  have o_ACmatrixstates : ∀ i j, S 1270 i j = M 1270 i j := fun i j => o 1270 i j (by omega)
  refine ⟨?_, ?_, ?_, hf, hu, hn, hv, (R_mzones_x (M := M) (K := K) (fun i j => o 1176 i j (by omega)) (fun i j => p 2215 i j (by omega)) (fun i j => p 2216 i j (by omega)) (fun i j => p 2217 i j (by omega)) h8), (R_mzonep_x (M := M) (K := K) (o 1172 2 0 (by omega)) (fun i j => o 1176 i j (by omega)) (fun i j => p 2215 i j (by omega)) (fun i j => p 2218 i j (by omega)) h9), (R_mrows_x (M := M) (K := K) (o 1172 9 0 (by omega)) (p 2208 21 0 (by omega)) h10), (R_mrow_x (M := M) (K := K) (o 1172 9 0 (by omega)) (fun i j => o 1218 i j (by omega)) (fun i j => p 2215 i j (by omega)) (fun i j => p 2219 i j (by omega)) (fun i j => p 2224 i j (by omega)) (fun i j => p 2225 i j (by omega)) (fun i j => p 2226 i j (by omega)) h11), ?_, ?_, ?_⟩
  · unfold znC
    simp only [o_ACmatrixzones]
    exact h1
  · unfold rwC
    simp only [o_ACmatrixzones, o 1172 9 0 (by omega), o_ACmatrixrows]
    exact h2
  · unfold rkC
    simp only [o_ACmatrixbyRank, o_ACmatrixacts]
    exact h3
  · unfold mactS
    simp only [o_ACmatrixacts, p_ARmatrixactTold, p_ARmatrixkind, p_ARmatrixrank, p_ARmatrixdelay, p_ARmatrixlatches]
    exact h12
  · obtain ⟨g1, g2, g3, g4, g5⟩ := h13
    refine ⟨fun a a0 a1 => ?_, ?_, (R_mevent_x (M := M) (K := K) (o 1172 17 0 (by omega)) (fun i j => o 1276 i j (by omega)) (p 2208 30 0 (by omega)) (fun i j => p 2231 i j (by omega)) (fun i j => p 2232 i j (by omega)) (fun i j => p 2233 i j (by omega)) g3), hB, hP⟩
    · have m := g1 a a0 a1
      unfold msA at m ⊢
      rw [o 1270 a 0 (by omega), o 1271 a 0 (by omega), o 1272 a 0 (by omega), o 1273 a 0 (by omega), p 2227 a 0 (by omega), p 2228 a 0 (by omega), p 2229 a 0 (by omega), p 2230 a 0 (by omega), p_ARmatrixactTold a 0]
      by_cases e : M 1270 a 0 = 1
      · rw [if_pos e] at m ⊢
        omega
      · rw [if_neg e] at m ⊢
        exact m
    · unfold evn
      rw [o 1172 17 0 (by omega), p 2208 30 0 (by omega)]
      exact g2
  · intro i i0 i1
    rw [o_ACmatrixacts, o_ACmatrixstates]
    exact h14 i i0 i1
theorem bus_q2 (h : BUS M K t) (hB : BQ M' K') (e1 : ∀ e x y, e = 1139 ∨ (1167 ≤ e ∧ e ≤ 1171) → M' e x y = M e x y) (e2 : ∀ e x y, 2252 ≤ e → e ≤ 2269 → e ≠ 2255 → e ≠ 2257 → e ≠ 2258 → e ≠ 2259 → K' e x y = K e x y) : BUS M' K' t := by
  obtain ⟨⟨n1, n2, n3⟩, hst, hid, hon, hsp, hds, hlt, hli, hhr, hhd, hh1, hcn, hab, hsb, hib, hie, hms, hu1, hu2⟩ := h
  have m39 : ∀ x y, M' 1139 x y = M 1139 x y := fun x y => e1 _ _ _ (by omega)
  have k52 : ∀ x y, K' 2252 x y = K 2252 x y := fun x y => e2 _ _ _ (by decide) (by decide) (by decide) (by decide) (by decide) (by decide)
  have j1 : ∀ s, 0 ≤ s → s < 8 → M' 1140 s 1 = M 1140 s 1 := fun s s0 s1 => by
    have a := (hst s s0 s1).sy
    have b := (bq_stn hB s0 s1).sy
    rw [e2 2260 _ _ (by decide) (by decide) (by decide) (by decide) (by decide) (by decide)] at b
    omega
  have j9 : ∀ s, 0 ≤ s → s < 8 → M' 1140 s 9 = M 1140 s 9 := fun s s0 s1 => by
    have a := (hst s s0 s1).an
    have b := (bq_stn hB s0 s1).an
    rw [e2 2262 _ _ (by decide) (by decide) (by decide) (by decide) (by decide) (by decide), e2 2263 _ _ (by decide) (by decide) (by decide) (by decide) (by decide) (by decide)] at b
    omega
  have sx : (fun u => K' 2254 u 0) = (fun u => K 2254 u 0) := funext (fun u => e2 _ _ _ (by decide) (by decide) (by decide) (by decide) (by decide) (by decide))
  refine ⟨⟨by rw [m39]; exact n1, by rw [k52]; exact n2, n3⟩, fun s s0 s1 => bq_stn hB s0 s1, ?_, fun u u0 u1 => ?_, ?_, ?_, ltt_o hlt (fun x _ _ => m39 x 0) (fun x => e1 _ _ _ (by omega)) (fun x _ _ => k52 x 0) (fun x => e2 _ _ _ (by decide) (by decide) (by decide) (by decide) (by decide) (by decide)) (Int.le_refl _), fun i i0 i1 => ?_, hrg_o hhr (fun x _ _ => m39 x 0) (fun x => e1 _ _ _ (by omega)) (fun x _ _ => k52 x 0) (fun x => e2 _ _ _ (by decide) (by decide) (by decide) (by decide) (by decide) (by decide)) (fun x _ => e2 _ _ _ (by decide) (by decide) (by decide) (by decide) (by decide) (by decide)), hdr_o hhd (fun x => e1 _ _ _ (by omega)) (fun x => e2 _ _ _ (by decide) (by decide) (by decide) (by decide) (by decide) (by decide)), ?_, fun s s0 s1 => ?_, fun s s0 s1 => ?_, ?_, ?_, ?_, ?_, fun u u0 => ?_, by rw [sx]; exact hu2⟩
  · rw [m39]
    unfold IDR at hid ⊢
    refine ⟨hid.1, fun j j0 j1 j2 => (e2 _ _ _ (by decide) (by decide) (by decide) (by decide) (by decide) (by decide)).trans (hid.2.1 j j0 j1 j2), ?_⟩
    rw [e2 2253 _ _ (by decide) (by decide) (by decide) (by decide) (by decide) (by decide)]
    exact hid.2.2
  · rw [e2 2253 _ _ (by decide) (by decide) (by decide) (by decide) (by decide) (by decide)]
    exact hon u u0 u1
  · obtain ⟨u1, u2, u3⟩ := hsp
    refine ⟨fun u u0 u4 => ?_, fun u u0 => ?_, ?_⟩
    · rw [e2 2254 _ _ (by decide) (by decide) (by decide) (by decide) (by decide) (by decide), e1 1168 _ _ (by omega)]
      exact u1 u u0 u4
    · rw [e2 2254 _ _ (by decide) (by decide) (by decide) (by decide) (by decide) (by decide)]
      exact u2 u u0
    · rw [e1 1168 _ _ (by omega)]
      exact u3
  · rw [m39, k52]
    exact hds
  · rw [e2 2256 _ _ (by decide) (by decide) (by decide) (by decide) (by decide) (by decide), e1 1167 _ _ (by omega)]
    exact hli i i0 i1
  · rw [e2 2269 _ _ (by decide) (by decide) (by decide) (by decide) (by decide) (by decide)]
    exact hh1
  · rw [e2 2264 _ _ (by decide) (by decide) (by decide) (by decide) (by decide) (by decide), e2 2265 _ _ (by decide) (by decide) (by decide) (by decide) (by decide) (by decide)]
    exact hcn s s0 s1
  · rw [j9 s s0 s1, k52]
    exact hab s s0 s1
  · rw [k52]
    intro z s s0 s1
    rw [j1 s s0 s1]
    exact hsb z s s0 s1
  · rw [m39, m39]
    exact hib
  · rw [m39, k52]
    exact hie
  · rw [sx]
    unfold msr at hms ⊢
    rw [m39, k52]
    exact hms
  · rw [e2 2254 _ _ (by decide) (by decide) (by decide) (by decide) (by decide) (by decide)]
    exact hu1 u u0
theorem bus_li (h : BUS M K t) (hL : ∀ i, 0 ≤ i → i < 2048 → K' 2256 i 0 = M' 1167 i 0) (e1 : ∀ e x y, e = 1140 ∨ e = 1149 ∨ e = 1158 ∨ e = 1139 ∨ (1168 ≤ e ∧ e ≤ 1171) → M' e x y = M e x y) (e2 : ∀ e x y, 2252 ≤ e → e ≤ 2269 → e ≠ 2256 → K' e x y = K e x y) : BUS M' K' t := by
  obtain ⟨⟨n1, n2, n3⟩, hst, hid, hon, hsp, hds, hlt, hli, hhr, hhd, hh1, hcn, hab, hsb, hib, hie, hms, hu1, hu2⟩ := h
  have m39 : ∀ x y, M' 1139 x y = M 1139 x y := fun x y => e1 _ _ _ (by omega)
  have m40 : ∀ x y, M' 1140 x y = M 1140 x y := fun x y => e1 _ _ _ (by omega)
  have k52 : ∀ x y, K' 2252 x y = K 2252 x y := fun x y => e2 _ _ _ (by decide) (by decide) (by decide)
  have sx : (fun u => K' 2254 u 0) = (fun u => K 2254 u 0) := funext (fun u => e2 _ _ _ (by decide) (by decide) (by decide))
  refine ⟨⟨by rw [m39]; exact n1, by rw [k52]; exact n2, n3⟩, fun s s0 s1 => stn_o (hst s s0 s1) (fun _ => m40 _ _) (fun _ => e1 _ _ _ (by omega)) (fun _ => e1 _ _ _ (by omega)) (fun b b0 b1 b2 _ => e2 _ _ _ (by omega) (by omega) b2) (fun _ _ _ => e2 _ _ _ (by decide) (by decide) (by decide)), ?_, fun u u0 u1 => ?_, ?_, ?_, ltt_o hlt (fun x _ _ => m39 x 0) (fun x => e1 _ _ _ (by omega)) (fun x _ _ => k52 x 0) (fun x => e2 _ _ _ (by decide) (by decide) (by decide)) (Int.le_refl _), fun i i0 i1 => ?_, hrg_o hhr (fun x _ _ => m39 x 0) (fun x => e1 _ _ _ (by omega)) (fun x _ _ => k52 x 0) (fun x => e2 _ _ _ (by decide) (by decide) (by decide)) (fun x _ => e2 _ _ _ (by decide) (by decide) (by decide)), hdr_o hhd (fun x => e1 _ _ _ (by omega)) (fun x => e2 _ _ _ (by decide) (by decide) (by decide)), ?_, fun s s0 s1 => ?_, fun s s0 s1 => ?_, ?_, ?_, ?_, ?_, fun u u0 => ?_, by rw [sx]; exact hu2⟩
  · rw [m39]
    unfold IDR at hid ⊢
    refine ⟨hid.1, fun j j0 j1 j2 => (e2 _ _ _ (by decide) (by decide) (by decide)).trans (hid.2.1 j j0 j1 j2), ?_⟩
    rw [e2 2253 _ _ (by decide) (by decide) (by decide)]
    exact hid.2.2
  · rw [e2 2253 _ _ (by decide) (by decide) (by decide)]
    exact hon u u0 u1
  · obtain ⟨u1, u2, u3⟩ := hsp
    refine ⟨fun u u0 u4 => ?_, fun u u0 => ?_, ?_⟩
    · rw [e2 2254 _ _ (by decide) (by decide) (by decide), e1 1168 _ _ (by omega)]
      exact u1 u u0 u4
    · rw [e2 2254 _ _ (by decide) (by decide) (by decide)]
      exact u2 u u0
    · rw [e1 1168 _ _ (by omega)]
      exact u3
  · rw [m39, k52]
    exact hds
  · exact hL i i0 i1
  · rw [e2 2269 _ _ (by decide) (by decide) (by decide)]
    exact hh1
  · rw [e2 2264 _ _ (by decide) (by decide) (by decide), e2 2265 _ _ (by decide) (by decide) (by decide)]
    exact hcn s s0 s1
  · rw [m40, k52]
    exact hab s s0 s1
  · rw [k52]
    intro z s s0 s1
    rw [m40]
    exact hsb z s s0 s1
  · rw [m39, m39]
    exact hib
  · rw [m39, k52]
    exact hie
  · rw [sx]
    unfold msr at hms ⊢
    rw [m39, k52]
    exact hms
  · rw [e2 2254 _ _ (by decide) (by decide) (by decide)]
    exact hu1 u u0
theorem FP_MX2 {n2 : Int} (hn : n ≤ n2) (f : Fg 330527984395124299475957654016385519914202341482140609642324397637202895618155658984322251297479677967122698594380150734845 M N) (g : Fg 330527984395124299475817772497377129365437286294154170561098479515267621026344149436780666474471446856259460244647043923967 K W) (h : MxI M K (1200 * n)) (hf : R_mfault N W) (hu : R_muntil N W) (hv : R_mvalue N W) (hp : R_points N W) : MxI N W (1200 * n2) := by
  obtain ⟨b1, b2, b3, b4⟩ := mx_bq h
  have bq : BQ N W := by
    refine bq_p b1 (fun e x y z => ?_) (fun e x y z => ?_)
    · rcases z with rfl | rfl | rfl <;> exact Fg_v f rfl rfl
    · rcases (show e = 2255 ∨ e = 2257 ∨ e = 2258 ∨ e = 2259 ∨ e = 2260 ∨ e = 2261 ∨ e = 2262 ∨ e = 2263 ∨ e = 2264 ∨ e = 2265 ∨ e = 2266 from by omega) with rfl | rfl | rfl | rfl | rfl | rfl | rfl | rfl | rfl | rfl | rfl <;> exact Fg_v g rfl rfl
  refine mx_le (mx_keep2 h (fun e x y z => ?_) (fun e x y z => ?_) hf hu (R_mnow_x (M := M) (K := K) (f 6 12 0 rfl) (g 2208 1 0 rfl) b4) hv (by rw [f 6 12 0 rfl]; exact Int.le_refl _) bq hp) (by omega)
  · rcases (show (e = 1172 ∧ x = 2) ∨ (e = 1172 ∧ x = 9) ∨ (e = 1172 ∧ x = 17) ∨ e = 1176 ∨ e = 1197 ∨ e = 1218 ∨ e = 1269 ∨ e = 1270 ∨ e = 1271 ∨ e = 1272 ∨ e = 1273 ∨ e = 1276 from by omega) with ⟨rfl, rfl⟩ | ⟨rfl, rfl⟩ | ⟨rfl, rfl⟩ | rfl | rfl | rfl | rfl | rfl | rfl | rfl | rfl | rfl
    · exact f 1172 2 y rfl
    · exact f 1172 9 y rfl
    · exact f 1172 17 y rfl
    all_goals exact Fg_v f rfl rfl
  · rcases (show (e = 2208 ∧ x = 21) ∨ (e = 2208 ∧ x = 30) ∨ e = 2215 ∨ e = 2216 ∨ e = 2217 ∨ e = 2218 ∨ e = 2219 ∨ e = 2220 ∨ e = 2221 ∨ e = 2222 ∨ e = 2223 ∨ e = 2224 ∨ e = 2225 ∨ e = 2226 ∨ e = 2227 ∨ e = 2228 ∨ e = 2229 ∨ e = 2230 ∨ e = 2231 ∨ e = 2232 ∨ e = 2233 from by omega) with ⟨rfl, rfl⟩ | ⟨rfl, rfl⟩ | rfl | rfl | rfl | rfl | rfl | rfl | rfl | rfl | rfl | rfl | rfl | rfl | rfl | rfl | rfl | rfl | rfl | rfl | rfl
    · exact g 2208 21 y rfl
    · exact g 2208 30 y rfl
    all_goals exact Fg_v g rfl rfl
theorem FP_MX3 {n2 : Int} (hn : n ≤ n2) (f : Fg 330527984395124299475957654016385519914202341482140609642324397637202895618155658974798997301396238592051702487054370734077 M N) (g : Fg 330527984395124299475957654016320332773670052922039385386706083249463795376883385217948329849712511827025852850541848166399 K W) (h : MxI M K (1200 * n)) (bq : BQ N W) : MxI N W (1200 * n2) := by
  obtain ⟨b1, b2, b3, b4⟩ := mx_bq h
  have hf := h.2.2.2.1
  have hu := h.2.2.2.2.1
  refine mx_le (mx_keep2 h (fun e x y z => ?_) (fun e x y z => ?_) (R_mfault_x (M := M) (K := K) (fun i j => Fg_v (a := 1174) (j := i) f rfl rfl) (fun i j => Fg_v (a := 2210) (j := i) g rfl rfl) hf) (R_muntil_x (M := M) (K := K) (fun i j => Fg_v (a := 1175) (j := i) f rfl rfl) (fun i j => Fg_v (a := 2211) (j := i) g rfl rfl) hu) (R_mnow_x (M := M) (K := K) (f 6 12 0 rfl) (g 2208 1 0 rfl) b4) (R_mvalue_x (M := M) (K := K) (fun i j => Fg_v (a := 1173) (j := i) f rfl rfl) (fun i j => Fg_v (a := 2209) (j := i) g rfl rfl) b3) (by rw [f 6 12 0 rfl]; exact Int.le_refl _) bq (R_points_x (M := M) (K := K) (fun i j => Fg_v (a := 1135) (j := i) f rfl rfl) (fun i j => Fg_v (a := 2247) (j := i) g rfl rfl) b2)) (by omega)
  · rcases (show (e = 1172 ∧ x = 2) ∨ (e = 1172 ∧ x = 9) ∨ (e = 1172 ∧ x = 17) ∨ e = 1176 ∨ e = 1197 ∨ e = 1218 ∨ e = 1269 ∨ e = 1270 ∨ e = 1271 ∨ e = 1272 ∨ e = 1273 ∨ e = 1276 from by omega) with ⟨rfl, rfl⟩ | ⟨rfl, rfl⟩ | ⟨rfl, rfl⟩ | rfl | rfl | rfl | rfl | rfl | rfl | rfl | rfl | rfl
    · exact f 1172 2 y rfl
    · exact f 1172 9 y rfl
    · exact f 1172 17 y rfl
    all_goals exact Fg_v f rfl rfl
  · rcases (show (e = 2208 ∧ x = 21) ∨ (e = 2208 ∧ x = 30) ∨ e = 2215 ∨ e = 2216 ∨ e = 2217 ∨ e = 2218 ∨ e = 2219 ∨ e = 2220 ∨ e = 2221 ∨ e = 2222 ∨ e = 2223 ∨ e = 2224 ∨ e = 2225 ∨ e = 2226 ∨ e = 2227 ∨ e = 2228 ∨ e = 2229 ∨ e = 2230 ∨ e = 2231 ∨ e = 2232 ∨ e = 2233 from by omega) with ⟨rfl, rfl⟩ | ⟨rfl, rfl⟩ | rfl | rfl | rfl | rfl | rfl | rfl | rfl | rfl | rfl | rfl | rfl | rfl | rfl | rfl | rfl | rfl | rfl | rfl | rfl
    · exact g 2208 21 y rfl
    · exact g 2208 30 y rfl
    all_goals exact Fg_v g rfl rfl
theorem bus_k4 (x : Int) : Nat.testBit 330527984395124299475957654016385519914202341482140609642324397637202895618155672912429116658900974056045808816662796828669 (ky 1139 x) = false := by
  have e : ky 1139 x = (if x = 5 then 108 else if x = 6 then 109 else if x = 8 then 110 else if x = 9 then 111 else if x = 10 then 112 else if x = 11 then 113 else if x = 13 then 114 else if x = 15 then 115 else if x = 16 then 116 else if x = 17 then 117 else 118) := rfl
  rw [e]
  (repeat' split) <;> rfl
theorem bus_l4 (x : Int) : Nat.testBit 330527984395124299474838772745367209950968365384266938560375953780400647972704852510070146614359210619278034707416013078527 (ky 2252 x) = false := by
  have e : ky 2252 x = (if x = 0 then 310 else if x = 3 then 311 else if x = 16 then 312 else if x = 17 then 313 else if x = 19 then 314 else if x = 20 then 315 else if x = 21 then 316 else if x = 23 then 317 else if x = 24 then 318 else if x = 25 then 319 else if x = 26 then 320 else 321) := rfl
  rw [e]
  (repeat' split) <;> rfl
theorem FP_BUSQ (f : Fg 330527984395124299475957654016385519914202341482140609642324397637202895618155672912429116658900974056045808816662796828669 M N) (g : Fg 330527984395124299474838772745367209950968365384266938560375953780400647972704852510070146614359210619278034707416013078527 K W) (h : BUS M K (30 * M 6 12 0)) (hB : BQ N W) : BUS N W (30 * N 6 12 0) := by
  rw [f 6 12 0 rfl]
  refine bus_q2 h hB (fun e x y z => ?_) (fun e x y z1 z2 z3 z4 z5 z6 => ?_)
  · rcases (show e = 1139 ∨ e = 1167 ∨ e = 1168 ∨ e = 1169 ∨ e = 1170 ∨ e = 1171 from by omega) with rfl | rfl | rfl | rfl | rfl | rfl
    · exact f 1139 x y (bus_k4 x)
    all_goals exact Fg_v f rfl rfl
  · rcases (show e = 2252 ∨ e = 2253 ∨ e = 2254 ∨ e = 2256 ∨ e = 2260 ∨ e = 2261 ∨ e = 2262 ∨ e = 2263 ∨ e = 2264 ∨ e = 2265 ∨ e = 2266 ∨ e = 2267 ∨ e = 2268 ∨ e = 2269 from by omega) with rfl | rfl | rfl | rfl | rfl | rfl | rfl | rfl | rfl | rfl | rfl | rfl | rfl | rfl
    · exact g 2252 x y (bus_l4 x)
    all_goals exact Fg_v g rfl rfl
theorem bus_k5 (x : Int) : Nat.testBit 330527984395124299475957654016385519914202341482140609642324397637202895618155672912429781272898866513982260720192937000957 (ky 1139 x) = false := by
  have e : ky 1139 x = (if x = 5 then 108 else if x = 6 then 109 else if x = 8 then 110 else if x = 9 then 111 else if x = 10 then 112 else if x = 11 then 113 else if x = 13 then 114 else if x = 15 then 115 else if x = 16 then 116 else if x = 17 then 117 else 118) := rfl
  rw [e]
  (repeat' split) <;> rfl
theorem bus_l5 (x : Int) : Nat.testBit 330527984395124299474837849998967692117812770734889873313862445412046989898708235388095567415437673382560424787794456477695 (ky 2252 x) = false := by
  have e : ky 2252 x = (if x = 0 then 310 else if x = 3 then 311 else if x = 16 then 312 else if x = 17 then 313 else if x = 19 then 314 else if x = 20 then 315 else if x = 21 then 316 else if x = 23 then 317 else if x = 24 then 318 else if x = 25 then 319 else if x = 26 then 320 else 321) := rfl
  rw [e]
  (repeat' split) <;> rfl
theorem FP_BUSL (f : Fg 330527984395124299475957654016385519914202341482140609642324397637202895618155672912429781272898866513982260720192937000957 M N) (g : Fg 330527984395124299474837849998967692117812770734889873313862445412046989898708235388095567415437673382560424787794456477695 K W) (h : BUS M K (30 * M 6 12 0)) (hL : R_blisten N W) : BUS N W (30 * N 6 12 0) := by
  rw [f 6 12 0 rfl]
  refine bus_li h (fun i i0 i1 => (hL i i0 i1).1) (fun e x y z => ?_) (fun e x y z1 z2 z3 => ?_)
  · rcases (show e = 1139 ∨ e = 1140 ∨ e = 1149 ∨ e = 1158 ∨ e = 1168 ∨ e = 1169 ∨ e = 1170 ∨ e = 1171 from by omega) with rfl | rfl | rfl | rfl | rfl | rfl | rfl | rfl
    · exact f 1139 x y (bus_k5 x)
    all_goals exact Fg_v f rfl rfl
  · rcases (show e = 2252 ∨ e = 2253 ∨ e = 2254 ∨ e = 2255 ∨ e = 2257 ∨ e = 2258 ∨ e = 2259 ∨ e = 2260 ∨ e = 2261 ∨ e = 2262 ∨ e = 2263 ∨ e = 2264 ∨ e = 2265 ∨ e = 2266 ∨ e = 2267 ∨ e = 2268 ∨ e = 2269 from by omega) with rfl | rfl | rfl | rfl | rfl | rfl | rfl | rfl | rfl | rfl | rfl | rfl | rfl | rfl | rfl | rfl | rfl
    · exact g 2252 x y (bus_l5 x)
    all_goals exact Fg_v g rfl rfl
theorem bq_col (h : BQ M K) (o : ∀ i j, (j = 0 ∨ j = 1 ∨ j = 2 ∨ j = 8 ∨ j = 9) → N 1140 i j = M 1140 i j) (o1 : ∀ i j, N 1149 i j = M 1149 i j) (o2 : ∀ i j, N 1158 i j = M 1158 i j) (p1 : ∀ i j, W 2259 i j = K 2259 i j) (p2 : ∀ i j, W 2262 i j = K 2262 i j) (p3 : ∀ i j, W 2263 i j = K 2263 i j) : R_banswer N W ∧ R_bqueue N W ∧ BXT N W := by
  obtain ⟨h1, h2, h3, h4, h5, h6, h7, h8⟩ := h
  have eq : ∀ s k, qC N s k = qC M s k := fun s k => funext fun i => o1 s (7 * k + i)
  refine ⟨fun s s0 s1 => ?_, fun s k s0 s1 k0 k1 => ?_, fun s s0 s1 => ?_⟩
  · rw [p2, p3, o s 9 (by omega), o s 8 (by omega)]
    exact h6 s s0 s1
  · rw [o s 0 (by omega)] at k1
    obtain ⟨a1, a2, a3⟩ := h7 s k s0 s1 k0 k1
    rw [eq]
    exact ⟨a1, a2, tgIn_x a3 (fun i _ _ => p1 i 0) (fun _ _ _ => rfl) a1⟩
  · rw [o s 0 (by omega), o s 1 (by omega), o s 2 (by omega), eq]
    simp only [o2, p1]
    exact h8 s s0 s1
theorem bnd_n (h : 0 ≤ n ∧ M 824 12 0 ≤ n ∧ K 2156 24 0 ≤ n ∧ M 824 15 0 ≤ 20 * n ∧ sI (fun u => K 2254 u 0) 182001 ≤ n) (h1 : N 824 12 0 ≤ M 824 12 0 + 1) (h2 : W 2156 24 0 ≤ K 2156 24 0 + 1) (h3 : N 824 15 0 ≤ M 824 15 0 + 20) (h4 : sI (fun u => W 2254 u 0) 182001 ≤ sI (fun u => K 2254 u 0) 182001 + 1) : 0 ≤ n + 1 ∧ N 824 12 0 ≤ n + 1 ∧ W 2156 24 0 ≤ n + 1 ∧ N 824 15 0 ≤ 20 * (n + 1) ∧ sI (fun u => W 2254 u 0) 182001 ≤ n + 1 := by
  omega
theorem sum_same (p : ∀ u, W 2254 u 0 = K 2254 u 0) : sI (fun u => W 2254 u 0) 182001 ≤ sI (fun u => K 2254 u 0) 182001 + 1 := by
  rw [show (fun u => W 2254 u 0) = (fun u => K 2254 u 0) from funext p]
  omega
end LIe
