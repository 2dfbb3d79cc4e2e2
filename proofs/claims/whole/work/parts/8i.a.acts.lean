/-! ===== passing: acts, both sides ===== -/
section PTa
variable {M K S T M' K' : qm} {t E s : Int}
theorem acts_both (h : MxI M K E) (ht : M 6 12 0 = t) (E0 : 0 ≤ E) (E1 : E + 20 < 2147483647) (t0 : 0 ≤ t) (t1 : t ≤ 6000) : ∃ M' a K', qf_X4_runActs 20000 t M = some ((), M') ∧ qf_X14_rankedOne 20000 0 K = some a ∧ qf_X18_second_L61 20000 20000 a 1 K = some (.inr ((), K')) ∧ MxI M' K' (E + 20) ∧ Fg 22127203185263220612146858248992697389940736 M M' ∧ Fg (1973751609322728158430646311549781290260737553695531790793833605345297506781372428058624 ||| 820219086978780714343243095759370041107539690231943260969623997760226754039967563635592039252361216) K K' := by
  obtain ⟨r, e1, z1, z2, z3⟩ := look_r h ht
  obtain ⟨a, ea, _⟩ := rankedOne_r (K := K) (p := 0)
  have z2' := z2
  obtain ⟨h1, h2, h3, h4, h5, h6, h7, h8, h9, h10, h11, h12, h13, h14⟩ := z2'
  obtain ⟨x, ex, y, ey, hxy⟩ := acts_loop h13 E0 E1 z1 h3 t0 t1 ea
  rcases x with x | ⟨_, X⟩
  · exact (show False from hxy).elim
  · rcases y with y | ⟨_, Y⟩
    · exact (show False from hxy).elim
    · (try dsimp only at hxy)
      obtain ⟨g1, g2, g3, g4⟩ := hxy
      have eR : qf_X4_runActs 20000 t M = some ((), X) := by
        unfold qf_X4_runActs
        rw [e1, Option.bind_some, ex, Option.bind_some]
      have fR : Fg 22127203185263220612146858248992697389940736 M X := fr_X4_runActs (M0 := M) Fg_refl _ eR
      exact ⟨X, a, Y, eR, ea, ey, MxI_F z2 z1 g2 g3 g1 g4, fR, g3⟩
/-- what MxI says of the acts -/
theorem mx_acts (h : MxI M K E) : R_macts M K ∧ R_mstate M K ∧ R_msince M K := by
  obtain ⟨h1, h2, h3, h4, h5, h6, h7, h8, h9, h10, h11, h12, h13, h14⟩ := h
  have hm := h13.1
  refine ⟨fun a a0 a1 => ?_, fun a a0 a1 => ?_, fun a a0 a1 b1 b2 => ?_⟩
  · have q := h12 a a0 a1
    have m := (hm a a0 a1).1
    have z := h14 a a0 a1
    rcases q with ⟨q1, q2⟩ | q
    · have z1 := z q2
      exact Or.inl ⟨q1, q2, z1, by omega⟩
    · exact Or.inr q
  · obtain ⟨m1, m2, m3, m4, m5, m6⟩ := hm a a0 a1
    refine ⟨m1, m2, m3, ?_, m5, m6⟩
    by_cases e : M 1270 a 0 = 1
    · rw [if_pos e] at m4 ⊢
      exact m4
    · rw [if_neg e]
      trivial
  · obtain ⟨m1, m2, m3, m4, m5, m6⟩ := hm a a0 a1
    rw [if_neg (by omega)] at m4
    omega
/-- what all but the matrix's own cells leave -/
theorem mx_keep (h : MxI M K E) (o : ∀ (b : Nat) (i j : Int), ((b = 1172 ∧ (i = 2 ∨ i = 9 ∨ i = 17)) ∨ b = 1174 ∨ b = 1175 ∨ b = 1176 ∨ b = 1197 ∨ b = 1218 ∨ (1269 ≤ b ∧ b ≤ 1273) ∨ b = 1276) → S b i j = M b i j) (p : ∀ (b : Nat) (i j : Int), ((b = 2208 ∧ (i = 21 ∨ i = 30)) ∨ b = 2210 ∨ b = 2211 ∨ (2215 ≤ b ∧ b ≤ 2233)) → T b i j = K b i j) (hn : R_mnow S T) (hv : R_mvalue S T) (ht : M 6 12 0 ≤ S 6 12 0) (hB : BQ S T) (hP : R_points S T) : MxI S T E := by
  obtain ⟨h1, h2, h3, h4, h5, h6, h7, h8, h9, h10, h11, h12, h13, h14⟩ := h
  have o_ACmatrixzones : ∀ i j, S 1176 i j = M 1176 i j := fun i j => o 1176 i j (by omega)
  have o_ACmatrixrows : ∀ i j, S 1218 i j = M 1218 i j := fun i j => o 1218 i j (by omega)
  have o_ACmatrixbyRank : ∀ i j, S 1269 i j = M 1269 i j := fun i j => o 1269 i j (by omega)
  have o_ACmatrixacts : ∀ i j, S 1197 i j = M 1197 i j := fun i j => o 1197 i j (by omega)
  have p_ARmatrixactTold : ∀ i j, T 2219 i j = K 2219 i j := fun i j => p 2219 i j (by omega)
  have p_ARmatrixkind : ∀ i j, T 2220 i j = K 2220 i j := fun i j => p 2220 i j (by omega)
  have p_ARmatrixrank : ∀ i j, T 2221 i j = K 2221 i j := fun i j => p 2221 i j (by omega)
  have p_ARmatrixdelay : ∀ i j, T 2222 i j = K 2222 i j := fun i j => p 2222 i j (by omega)
  have p_ARmatrixlatches : ∀ i j, T 2223 i j = K 2223 i j := fun i j => p 2223 i j (by omega)
  have o_ACmatrixstates : ∀ i j, S 1270 i j = M 1270 i j := fun i j => o 1270 i j (by omega)
  refine ⟨?_, ?_, ?_, (R_mfault_x (M := M) (K := K) (fun i j => o 1174 i j (by omega)) (fun i j => p 2210 i j (by omega)) h4), (R_muntil_x (M := M) (K := K) (fun i j => o 1175 i j (by omega)) (fun i j => p 2211 i j (by omega)) h5), hn, hv, (R_mzones_x (M := M) (K := K) (fun i j => o 1176 i j (by omega)) (fun i j => p 2215 i j (by omega)) (fun i j => p 2216 i j (by omega)) (fun i j => p 2217 i j (by omega)) h8), (R_mzonep_x (M := M) (K := K) (o 1172 2 0 (by omega)) (fun i j => o 1176 i j (by omega)) (fun i j => p 2215 i j (by omega)) (fun i j => p 2218 i j (by omega)) h9), (R_mrows_x (M := M) (K := K) (o 1172 9 0 (by omega)) (p 2208 21 0 (by omega)) h10), (R_mrow_x (M := M) (K := K) (o 1172 9 0 (by omega)) (fun i j => o 1218 i j (by omega)) (fun i j => p 2215 i j (by omega)) (fun i j => p 2219 i j (by omega)) (fun i j => p 2224 i j (by omega)) (fun i j => p 2225 i j (by omega)) (fun i j => p 2226 i j (by omega)) h11), ?_, ?_, ?_⟩
  · unfold znC
    simp only [o_ACmatrixzones]
    exact h1
  · unfold rwC
    simp only [o_ACmatrixzones, o 1172 9 0 (by omega), o_ACmatrixrows]
    exact h2
  · unfold rkC
    simp only [o_ACmatrixbyRank, o_ACmatrixacts]
    exact h3
  · unfold mactS
    simp only [o_ACmatrixacts, p_ARmatrixactTold, p_ARmatrixkind, p_ARmatrixrank, p_ARmatrixdelay, p_ARmatrixlatches]
    exact h12
  · obtain ⟨g1, g2, g3, g4, g5⟩ := h13
    refine ⟨fun a a0 a1 => ?_, ?_, (R_mevent_x (M := M) (K := K) (o 1172 17 0 (by omega)) (fun i j => o 1276 i j (by omega)) (p 2208 30 0 (by omega)) (fun i j => p 2231 i j (by omega)) (fun i j => p 2232 i j (by omega)) (fun i j => p 2233 i j (by omega)) g3), hB, hP⟩
    · have m := g1 a a0 a1
      unfold msA at m ⊢
      rw [o 1270 a 0 (by omega), o 1271 a 0 (by omega), o 1272 a 0 (by omega), o 1273 a 0 (by omega), p 2227 a 0 (by omega), p 2228 a 0 (by omega), p 2229 a 0 (by omega), p 2230 a 0 (by omega), p_ARmatrixactTold a 0]
      by_cases e : M 1270 a 0 = 1
      · rw [if_pos e] at m ⊢
        omega
      · rw [if_neg e] at m ⊢
        exact m
    · unfold evn
      rw [o 1172 17 0 (by omega), p 2208 30 0 (by omega)]
      exact g2
  · intro i i0 i1
    rw [o_ACmatrixacts, o_ACmatrixstates]
    exact h14 i i0 i1
/-- a station, and what the acts say of all of them -/
theorem bq_stn (h : BQ M K) (s0 : 0 ≤ s) (s1 : s < 8) : STN M K s := by
  obtain ⟨h1, h2, h3, h4, h5, h6, h7, h8⟩ := h
  have a1 := h1 s s0 s1
  have a2 := h2 s s0 s1
  have a3 := h3 s s0 s1
  have a4 := h4 s s0 s1
  have a5 := h5 s s0 s1
  have a8 := h8 s s0 s1
  exact ⟨a1.1, a1.2.1, a1.2.2, a4.1, a4.2.1, a4.2.2.1, a4.2.2.2, a5, a2, a3, h6 s s0 s1, fun k k0 k1 => h7 s k s0 s1 k0 k1, a8⟩
theorem stn_bq (h : ∀ s, 0 ≤ s → s < 8 → STN M K s) : BQ M K := by
  refine ⟨fun s s0 s1 => ?_, fun s s0 s1 => ?_, fun s s0 s1 => ?_, fun s s0 s1 => ?_, fun s s0 s1 => ?_, fun s s0 s1 => ?_, fun s k s0 s1 k0 k1 => ?_, fun s s0 s1 => ?_⟩
  · have z := h s s0 s1
    exact ⟨z.qd, z.q0, z.q6⟩
  · exact (h s s0 s1).ad
  · exact (h s s0 s1).bs
  · have z := h s s0 s1
    exact ⟨z.sy, z.s0, z.wt, z.w0⟩
  · exact (h s s0 s1).ct
  · exact (h s s0 s1).an
  · exact (h s s0 s1).qu k k0 k1
  · have z := h s s0 s1
    exact ⟨z.sp, z.ws, z.tm⟩
/-- the bus, when no more than queues have changed -/
theorem bus_q (h : BUS M K t) (hB : BQ M' K') (e1 : ∀ e x y, e = 1139 ∨ (1167 ≤ e ∧ e ≤ 1171) → M' e x y = M e x y) (e2 : ∀ e x y, 2252 ≤ e → e ≤ 2269 → e ≠ 2258 → e ≠ 2259 → K' e x y = K e x y) : BUS M' K' t := by
  obtain ⟨⟨n1, n2, n3⟩, hst, hid, hon, hsp, hds, hlt, hli, hhr, hhd, hh1, hcn, hab, hsb, hib, hie, hms, hu1, hu2⟩ := h
  have m39 : ∀ x y, M' 1139 x y = M 1139 x y := fun x y => e1 _ _ _ (by omega)
  have k52 : ∀ x y, K' 2252 x y = K 2252 x y := fun x y => e2 _ _ _ (by decide) (by decide) (by decide) (by decide)
  have j1 : ∀ s, 0 ≤ s → s < 8 → M' 1140 s 1 = M 1140 s 1 := fun s s0 s1 => by
    have a := (hst s s0 s1).sy
    have b := (bq_stn hB s0 s1).sy
    rw [e2 2260 _ _ (by decide) (by decide) (by decide) (by decide)] at b
    omega
  have j9 : ∀ s, 0 ≤ s → s < 8 → M' 1140 s 9 = M 1140 s 9 := fun s s0 s1 => by
    have a := (hst s s0 s1).an
    have b := (bq_stn hB s0 s1).an
    rw [e2 2262 _ _ (by decide) (by decide) (by decide) (by decide), e2 2263 _ _ (by decide) (by decide) (by decide) (by decide)] at b
    omega
  have sx : (fun u => K' 2254 u 0) = (fun u => K 2254 u 0) := funext (fun u => e2 _ _ _ (by decide) (by decide) (by decide) (by decide))
  refine ⟨⟨by rw [m39]; exact n1, by rw [k52]; exact n2, n3⟩, fun s s0 s1 => bq_stn hB s0 s1, ?_, fun u u0 u1 => ?_, ?_, ?_, ltt_o hlt (fun x _ _ => m39 x 0) (fun x => e1 _ _ _ (by omega)) (fun x _ _ => k52 x 0) (fun x => e2 _ _ _ (by decide) (by decide) (by decide) (by decide)) (Int.le_refl _), fun i i0 i1 => ?_, hrg_o hhr (fun x _ _ => m39 x 0) (fun x => e1 _ _ _ (by omega)) (fun x _ _ => k52 x 0) (fun x => e2 _ _ _ (by decide) (by decide) (by decide) (by decide)) (fun x _ => e2 _ _ _ (by decide) (by decide) (by decide) (by decide)), hdr_o hhd (fun x => e1 _ _ _ (by omega)) (fun x => e2 _ _ _ (by decide) (by decide) (by decide) (by decide)), ?_, fun s s0 s1 => ?_, fun s s0 s1 => ?_, ?_, ?_, ?_, ?_, fun u u0 => ?_, by rw [sx]; exact hu2⟩
  · rw [m39]
    unfold IDR at hid ⊢
    refine ⟨hid.1, fun j j0 j1 j2 => (e2 _ _ _ (by decide) (by decide) (by decide) (by decide)).trans (hid.2.1 j j0 j1 j2), ?_⟩
    rw [e2 2253 _ _ (by decide) (by decide) (by decide) (by decide)]
    exact hid.2.2
  · rw [e2 2253 _ _ (by decide) (by decide) (by decide) (by decide)]
    exact hon u u0 u1
  · obtain ⟨u1, u2, u3⟩ := hsp
    refine ⟨fun u u0 u4 => ?_, fun u u0 => ?_, ?_⟩
    · rw [e2 2254 _ _ (by decide) (by decide) (by decide) (by decide), e1 1168 _ _ (by omega)]
      exact u1 u u0 u4
    · rw [e2 2254 _ _ (by decide) (by decide) (by decide) (by decide)]
      exact u2 u u0
    · rw [e1 1168 _ _ (by omega)]
      exact u3
  · rw [m39, k52]
    exact hds
  · rw [e2 2256 _ _ (by decide) (by decide) (by decide) (by decide), e1 1167 _ _ (by omega)]
    exact hli i i0 i1
  · rw [e2 2269 _ _ (by decide) (by decide) (by decide) (by decide)]
    exact hh1
  · rw [e2 2264 _ _ (by decide) (by decide) (by decide) (by decide), e2 2265 _ _ (by decide) (by decide) (by decide) (by decide)]
    exact hcn s s0 s1
  · rw [j9 s s0 s1, k52]
    exact hab s s0 s1
  · rw [k52]
    intro z s s0 s1
    rw [j1 s s0 s1]
    exact hsb z s s0 s1
  · rw [m39, m39]
    exact hib
  · rw [m39, k52]
    exact hie
  · rw [sx]
    unfold msr at hms ⊢
    rw [m39, k52]
    exact hms
  · rw [e2 2254 _ _ (by decide) (by decide) (by decide) (by decide)]
    exact hu1 u u0
end PTa
