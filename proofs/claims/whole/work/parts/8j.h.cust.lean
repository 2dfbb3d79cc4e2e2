/-! ===== the law between two calls: pieces that single calls touch (wip/tools/q/genli.py) ===== -/
section LIh
variable {M K N W S T M' K' : qm} {n t E s : Int}
theorem qP_im {α : Type} {x : Option α} {c : Prop} {Q : α → Prop} (h : c → qP x Q) : qP x (fun s => c → Q s) := fun r e hc => h hc r e
theorem zport_y (e : N 6 11 0 = M 6 11 0) (hb : R_built M K) (h : R_zport M K) (hy : K 2156 1 0 = 0 → ∀ (b : Nat) (i j : Int), 2294 ≤ b → W b i j = K b i j) : R_zport N W := by
  intro z j j0 j1
  rw [e] at z
  have w := hy (by rw [hb.2]; exact z)
  rw [w 2294 j 0 (by decide), w 2295 j 0 (by decide), w 2296 j 0 (by decide), w 2298 j 0 (by decide)]
  exact h z j j0 j1
theorem zpers_y (e : N 6 11 0 = M 6 11 0) (h : R_zpers M K) (hx : M 6 11 0 = 0 → N 756 7 0 = M 756 7 0) : R_zpers N W := by
  intro z
  rw [e] at z
  exact (hx z).trans (h z)
theorem boundz_y (e : N 1003 0 0 = M 1003 0 0) (hb : R_blocks M K) (h : R_boundz M K) (hy : ∀ b, K 2235 0 0 ≤ b → W 2248 b 0 = K 2248 b 0) : R_boundz N W := by
  intro b b0 b1
  rw [e] at b0
  exact (hy b (by rw [hb.2.2]; exact b0)).trans (h b b0 b1)
theorem cux_ln (hx : LNX M N) (e : N 6 11 0 = M 6 11 0) (h : M 6 11 0 ≠ 0 → M 51 1 0 ≠ 0 ∧ M 51 2 0 = 1) : N 6 11 0 ≠ 0 → N 51 1 0 ≠ 0 ∧ N 51 2 0 = 1 := by
  intro z
  rw [e] at z
  rcases hx with s | ⟨s, _⟩
  · rw [s _ _ _ (by decide), s _ _ _ (by decide)]
    exact h z
  · exact absurd s z
theorem fnd_ln (hx : LNX M N) (hK : ∀ l, l ≠ K 2157 0 0 → W 2160 l 0 = K 2160 l 0) (hl : R_lines M K) (f : Fg 330527984395124299475957654016385519914202341482140609642324397637202895618155672912594605219857642423795606012511677169855 M N) (g : Fg 330527984395124299475957654016385519914202341482140609642323578010877845691100414753111954490229022276208511613455346696191 K W) (h : FND M K) : FND N W := by
  have gK : ∀ (b : Nat) (i : Int), ((2166 ≤ b ∧ b ≤ 2168) ∨ (2174 ≤ b ∧ b ≤ 2181) ∨ (b = 2157 ∧ (i = 12 ∨ i = 13 ∨ i = 27 ∨ i = 30 ∨ i = 35))) → W b i 0 = K b i 0 := fun b i z => by
    rcases (show b = 2166 ∨ b = 2167 ∨ b = 2168 ∨ b = 2174 ∨ b = 2175 ∨ b = 2176 ∨ b = 2177 ∨ b = 2178 ∨ b = 2179 ∨ b = 2180 ∨ b = 2181 ∨ (b = 2157 ∧ (i = 12 ∨ i = 13 ∨ i = 27 ∨ i = 30 ∨ i = 35)) from by omega) with rfl | rfl | rfl | rfl | rfl | rfl | rfl | rfl | rfl | rfl | rfl | ⟨rfl, w⟩
    all_goals first
      | exact Fg_v g rfl rfl
      | (rcases w with rfl | rfl | rfl | rfl | rfl <;> exact g _ _ _ rfl)
  have gM : ∀ b i j, (b = 52 ∨ b = 55 ∨ b = 56 ∨ b = 60 ∨ b = 61 ∨ b = 62 ∨ b = 283 ∨ (b = 51 ∧ (i = 3 ∨ i = 12 ∨ i = 14))) → N b i j = M b i j := fun b i j z => by
    rcases z with rfl | rfl | rfl | rfl | rfl | rfl | rfl | ⟨rfl, w⟩
    all_goals first
      | exact Fg_v f rfl rfl
      | (rcases w with rfl | rfl | rfl <;> exact f _ _ _ rfl)
  have e1 : N 51 1 0 = M 51 1 0 := f 51 1 0 rfl
  have n7 : M 7 0 0 ≤ N 7 0 0 := by
    rcases hx with s | ⟨_, _, s⟩
    · rw [s _ _ _ (by decide)]
      exact Int.le_refl _
    · exact s
  have e2 : N 51 2 0 = 0 ∨ ∀ b i j, b ≠ 2332 → N b i j = M b i j := by
    rcases hx with s | ⟨_, s, _⟩
    · exact Or.inr s
    · exact Or.inl s
  have k7 : K 2157 0 0 = M 7 0 0 := hl.2.2
  rcases h with ⟨h1, h2⟩ | ⟨h1, M0, K0, A, D0, D, E, F, G, H, C, q, m, p, R, stt, cnt, w1, w2, w3, w4, w5, w6⟩
  · refine Or.inl ⟨by rw [e1]; exact h1, ?_⟩
    rcases e2 with s | s
    · exact s
    · rw [s _ _ _ (by decide)]
      exact h2
  · refine Or.inr ⟨by rw [e1]; exact h1, M0, K0, A, D0, D, E, F, G, H, C, q, m, p, R, stt, cnt, w1, fun b i j hb => (gM b i j hb).trans (w2 b i j hb), ⟨fun b i hb => (gK b i (by omega)).trans (w3.1 b i hb), fun l l0 l1 => (hK l (by omega)).trans (w3.2 l l0 l1)⟩, fun x y x0 x1 y0 y1 => (gK 2168 _ (by omega)).trans (w4 x y x0 x1 y0 y1), by omega, fun z => ?_⟩
    rcases e2 with s | s
    · omega
    · rw [s _ _ _ (by decide)] at z
      have q := w6 z
      exact ⟨(s _ _ _ (by decide)).trans q.1, fun l j l0 l1 => (s _ _ _ (by decide)).trans (q.2 l j l0 l1)⟩
theorem blk_sorted (h : R_sorted M K) (t : N 1003 13 0 = 0 ∨ ∀ a i j, a = 1003 ∨ a = 1004 ∨ a = 1008 → N a i j = M a i j) (o1 : ∀ i j, N 1136 i j = M 1136 i j) (o2 : ∀ i j, N 1137 i j = M 1137 i j) : R_sorted N W := by
  rcases t with t | t
  · exact Or.inl t
  · exact R_sorted_x (M := M) (K := K) (t _ _ _ (Or.inl rfl)) (t _ _ _ (Or.inl rfl)) (t _ _ _ (Or.inl rfl)) (fun i j => t _ _ _ (Or.inr (Or.inl rfl))) (fun i j => t _ _ _ (Or.inr (Or.inr rfl))) o1 o2 h
theorem portq_y (hp : R_portn M K) (t : M 6 11 0 = 0 ∨ ((∀ b i j, b ≠ 2332 → N b i j = M b i j) ∧ ∀ b i j, b ≠ 2156 → W b i j = K b i j)) (e : N 824 3 0 = M 824 3 0) (e9 : W 2156 9 0 = K 2156 9 0) (h : R_portq M K) : R_portq N W := by
  rcases t with t | ⟨t, _⟩
  · intro p p0 p1
    have z := hp.2.2.2.2.2.2.2 t
    rw [e, z] at p1
    omega
  · exact R_portq_x (M := M) (K := K) (fun i j => t _ _ _ (by decide)) e (fun i j => t _ _ _ (by decide)) e9 h
theorem personb_y (hp : R_zpers M K) (t : M 6 11 0 = 0 ∨ ((∀ b i j, b ≠ 2332 → N b i j = M b i j) ∧ ∀ b i j, b ≠ 2156 → W b i j = K b i j)) (e : N 756 7 0 = M 756 7 0) (e9 : W 2156 9 0 = K 2156 9 0) (h : R_personb M K) : R_personb N W := by
  rcases t with t | ⟨t, s⟩
  · intro p p0 p1
    have z := hp t
    rw [e, z] at p1
    omega
  · intro p p0 p1
    rw [e] at p1
    rw [s 2306 _ _ (by decide), s 2307 _ _ (by decide), s 2308 _ _ (by decide), s 2309 _ _ (by decide), s 2311 _ _ (by decide), e9, t 6 _ _ (by decide), t 56 _ _ (by decide)]
    exact h p p0 p1
theorem rooms_y (t : M 6 11 0 = 0 ∨ ((∀ b i j, b ≠ 2332 → N b i j = M b i j) ∧ ∀ b i j, b ≠ 2156 → W b i j = K b i j)) (e : N 6 11 0 = M 6 11 0) (e9 : W 2156 9 0 = K 2156 9 0) (h : R_rooms M K) : R_rooms N W := by
  intro z
  rw [e] at z
  rcases t with t | ⟨t, s⟩
  · exact absurd t z
  · rw [e9, t 51 _ _ (by decide)]
    exact h z
theorem spaceof_y (t : M 6 11 0 = 0 ∨ ((∀ b i j, b ≠ 2332 → N b i j = M b i j) ∧ ∀ b i j, b ≠ 2156 → W b i j = K b i j)) (e : N 6 11 0 = M 6 11 0) (h : R_spaceof M K) : R_spaceof N W := by
  intro z x y x0 x1 y0 y1
  rw [e] at z
  rcases t with t | ⟨t, s⟩
  · exact absurd t z
  · rw [s 2329 _ _ (by decide), t 51 _ _ (by decide), t 56 _ _ (by decide)]
    exact h z x y x0 x1 y0 y1
theorem cux_y (t : M 6 11 0 = 0 ∨ ((∀ b i j, b ≠ 2332 → N b i j = M b i j) ∧ ∀ b i j, b ≠ 2156 → W b i j = K b i j)) (e : N 6 11 0 = M 6 11 0) (h : M 6 11 0 ≠ 0 → M 51 1 0 ≠ 0 ∧ M 51 2 0 = 1) : N 6 11 0 ≠ 0 → N 51 1 0 ≠ 0 ∧ N 51 2 0 = 1 := by
  intro z
  rw [e] at z
  rcases t with t | ⟨t, s⟩
  · exact absurd t z
  · rw [t 51 _ _ (by decide), t 51 _ _ (by decide)]
    exact h z
theorem zzone_y (h : R_zzone M K) (e : N 6 11 0 = M 6 11 0) (t : (MOC M N ∧ MOK K W) ∨ (M 6 11 0 ≠ 0 ∧ ∃ A Z, MOC M A ∧ MOK K Z ∧ MTF A Z N W)) : R_zzone N W := by
  intro b z z0 z1
  rw [e] at b
  rcases t with ⟨_, t⟩ | ⟨t, _⟩
  · rw [t 2215 z 0 (by omega) (by omega) (by omega) (by omega) (by omega) (by omega) (by omega)]
    exact h b z z0 z1
  · exact absurd b t
theorem bus_db (h : BUS M K (30 * M 6 12 0)) (hs : R_bspoilt N W) (hn : R_bspn N W) (hx : M 1139 8 0 ≤ N 1139 8 0) (hy : DBK K W) (hu : sI (fun u => W 2254 u 0) 182001 ≤ 512) (o : ∀ (e : Nat) (x y : Int), e = 1140 ∨ e = 1149 ∨ e = 1158 ∨ (e = 1139 ∧ x ≠ 8) ∨ e = 1167 ∨ (1169 ≤ e ∧ e ≤ 1171) → N e x y = M e x y) (p : ∀ (e : Nat) (x y : Int), (2253 ≤ e ∧ e ≤ 2269 ∧ e ≠ 2254) ∨ (e = 2252 ∧ x ≠ 3) → W e x y = K e x y) (e6 : N 6 12 0 = M 6 12 0) : BUS N W (30 * N 6 12 0) := by
  obtain ⟨⟨n1, n2, n3⟩, hst, hid, hon, hsp, hds, hlt, hli, hhr, hhd, hh1, hcn, hab, hsb, hib, hie, hms, hu1, hu2⟩ := h
  rw [e6]
  obtain ⟨u, v, a1, a2, a3, a4⟩ := hy
  have m5 : N 1139 5 0 = M 1139 5 0 := o _ _ _ (by omega)
  obtain ⟨s1, s2, s3⟩ := hs
  obtain ⟨b1, b2, b3⟩ := hn
  refine ⟨⟨m5.trans n1, (p _ _ _ (by omega)).trans n2, n3⟩, fun s s0 s1 => stn_o (hst s s0 s1) (fun _ => o _ _ _ (by omega)) (fun _ => o _ _ _ (by omega)) (fun _ => o _ _ _ (by omega)) (fun b b0 b1 b2 _ => p _ _ _ (by omega)) (fun _ _ _ => p _ _ _ (by omega)), ?_, fun u u0 u1 => ?_, ⟨fun t t0 t1 => s1 t (by omega) (by omega), fun t t0 => s2 t (by omega), ?_⟩, ⟨b1, by omega, b2⟩, ltt_o hlt (fun x _ _ => o _ _ _ (by omega)) (fun x => o _ _ _ (by omega)) (fun x _ _ => p _ _ _ (by omega)) (fun x => p _ _ _ (by omega)) (Int.le_refl _), fun i i0 i1 => ?_, hrg_o hhr (fun x _ _ => o _ _ _ (by omega)) (fun x => o _ _ _ (by omega)) (fun x _ _ => p _ _ _ (by omega)) (fun x => p _ _ _ (by omega)) (fun x _ => p _ _ _ (by omega)), hdr_o hhd (fun x => o _ _ _ (by omega)) (fun x => p _ _ _ (by omega)), ?_, fun s s0 s1 => ?_, fun s s0 s1 => ?_, ?_, ?_, ?_, ?_, fun t t0 => ?_, hu⟩
  · rw [o 1139 6 0 (by omega)]
    unfold IDR at hid ⊢
    refine ⟨hid.1, fun j j0 j1 j2 => (p 2253 _ _ (by omega)).trans (hid.2.1 j j0 j1 j2), ?_⟩
    rw [p 2253 _ _ (by omega)]
    exact hid.2.2
  · rw [p 2253 _ _ (by omega)]
    exact hon u u0 u1
  · rw [m5, n1] at s3
    exact s3
  · rw [p 2256 _ _ (by omega), o 1167 _ _ (by omega)]
    exact hli i i0 i1
  · rw [p 2269 _ _ (by omega)]
    exact hh1
  · rw [p 2264 _ _ (by omega), p 2265 _ _ (by omega)]
    exact hcn s s0 s1
  · rw [o 1140 _ _ (by omega), p 2252 24 _ (by omega)]
    exact hab s s0 s1
  · rw [p 2252 16 _ (by omega)]
    intro z s s0 s1
    rw [o 1140 _ _ (by omega)]
    exact hsb z s s0 s1
  · rw [o 1139 6 _ (by omega), o 1139 9 _ (by omega)]
    exact hib
  · rw [o 1139 6 _ (by omega), p 2252 24 _ (by omega)]
    exact hie
  · unfold msr at hms ⊢
    rw [o 1139 9 _ (by omega), p 2252 17 _ (by omega)]
    have es : sI (fun u => W 2254 u 0) (30 * M 6 12 0 + 1) = sI (fun u => K 2254 u 0) (30 * M 6 12 0 + 1) := sI_c (fun x x0 x1 => by
      (try dsimp only)
      rw [a4, if_neg (by omega)])
    rw [es]
    exact hms
  · rw [a4]
    by_cases e : t = u
    · rw [if_pos e]
      rcases a3 with a3 | a3
      · rw [a3, ← e]
        exact hu1 t t0
      · exact Or.inr a3
    · rw [if_neg e]
      exact hu1 t t0
theorem sum_db (h1 : ∀ u, 0 ≤ u → K 2254 u 0 = 0 ∨ K 2254 u 0 = 1) (k0 : 0 ≤ K 2252 0 0) (hy : DBK K W) : sI (fun u => W 2254 u 0) 182001 ≤ sI (fun u => K 2254 u 0) 182001 + 1 := by
  obtain ⟨u, v, a1, a2, a3, a4⟩ := hy
  have e := sI_u (f := fun u => K 2254 u 0) (g := fun u => W 2254 u 0) (c := u) (n := 182001) (by omega) a2 (fun k hk => by
    (try dsimp only)
    rw [a4, if_neg hk])
  (try dsimp only at e)
  rw [e, a4 u, if_pos rfl]
  have z := h1 u (by omega)
  omega
end LIh
