/-! ===== the giving: the call give ===== -/
section GVy
variable {M K A X V Z Y W : qm} {a b d i q w T hm x y : Int} {c n s r cs C : Nat} {t u pre E D : List Int} {B : Int × List Int}
theorem mta_o {x : Nat} (h : ∀ k, Z 2146 k 0 = M 2146 k 0) : MTA Z n c x ↔ MTA M n c x := by
  unfold MTA
  exact ⟨fun g k k1 k2 => by rw [← h]; exact g k k1 k2, fun g k k1 k2 => by rw [h]; exact g k k1 k2⟩
theorem calc_o {x : Nat} (h : ∀ k, Z 1744 k 0 = M 1744 k 0) : calC Z x n = calC M x n := by
  unfold calC
  rw [show (fun k => Z 1744 k 0) = (fun k => M 1744 k 0) from funext h]
theorem give_both (h01 : hm = 0 ∨ hm = 1) (h13 : K 2270 13 0 = hm) (h_time : R_time M K) (hT : K 2270 12 0 = M 6 12 0) (h_carn : R_carn M K) (h_cars : R_cars M K) (h_calln : R_calln M K) (h_calls : R_calls M K) (h_opens : R_opens M K) (h_openl : R_openl M K) (h_openi : R_openi M K) (h_opena : R_opena M K) (h_begun : R_begun M K) (h_begunr : R_begunr M K) : ∃ v X X2, qf_X3_makeGiving 20000 (M 6 12 0) hm M = some (v, X) ∧ qf_X13_give 20000 K = some (v, X2) ∧ R_given X X2 ∧ (∀ x, M 1337 2 0 ≤ x → X2 2285 x 0 = K 2285 x 0) ∧ X 1337 2 0 = M 1337 2 0 ∧ X2 2156 0 0 = K 2156 0 0 := by
  unfold R_time at h_time
  unfold R_carn at h_carn
  unfold R_calln at h_calln
  unfold R_opens at h_opens
  obtain ⟨n, hn⟩ : ∃ n : Nat, M 1337 4 0 = n := ⟨(M 1337 4 0).toNat, by omega⟩
  obtain ⟨cs, hcs⟩ : ∃ cs : Nat, M 1337 0 0 = cs := ⟨(M 1337 0 0).toNat, by omega⟩
  obtain ⟨T, hTT⟩ : ∃ T, M 6 12 0 = T := ⟨_, rfl⟩
  have n6 : n ≤ 6 := by omega
  have c4 : cs ≤ 4 := by omega
  -- the reference chooses
  obtain ⟨W, eW, fW, C0, C6', hch, hinc, hall⟩ := choose_any (K := K) (by omega) (by omega) (by omega) (by omega) (fun x x0 x1 => (h_calls x x0 (by omega)).2.2.2.2.2.2.2.2.2) (by rw [h_calln.2.2, ← h_opens.1]; omega)
  obtain ⟨C, hC⟩ : ∃ C : Nat, W 2270 14 0 = C := ⟨(W 2270 14 0).toNat, by omega⟩
  rw [hC] at hch hinc hall C6'
  have gW : ∀ e x y, (2271 ≤ e ∧ e ≤ 2280) ∨ (e = 2270 ∧ x ≠ 14) → W e x y = K e x y := fun e x y z => fW e x y (by omega) (by omega)
  have w0 : W 2270 0 0 = cs := by rw [gW _ _ _ (by omega)]; omega
  have carW : ∀ c : Nat, c < cs → CAR W c := fun c hc => by
    have q := h_cars c (by omega) (by omega)
    unfold CAR
    rw [gW 2271 _ _ (by omega), gW 2272 _ _ (by omega), gW 2273 _ _ (by omega), gW 2270 12 _ (by omega)]
    omega
  have cllW : ∀ x, 0 ≤ x → x < M 1337 2 0 → CLL W x := fun x x0 x1 => by
    have q := h_calls x x0 x1
    unfold CLL
    rw [gW 2276 _ _ (by omega), gW 2277 _ _ (by omega), gW 2278 _ _ (by omega), gW 2270 12 _ (by omega)]
    omega
  have hp : 0 < C → 0 < cs := fun z => by
    obtain ⟨j, j1, _⟩ := (hch 0 (by omega) (by omega)).2.2.2.2
    omega
  have gvo : GVO W C := ⟨fun c hc => carW c (by omega), by omega, by omega, fun z => by
    rw [gW _ _ _ (by omega)]
    exact (hch 0 (by omega) (by omega)).2.2.1, hC, by omega, fun k k0 k1 => by
    have q := hch k k0 k1
    exact cllW _ q.1 (by omega), hinc⟩
  obtain ⟨Y, eY, fY, hF⟩ := cars_K (T := ((cs ^ C : Nat) : Int)) gvo
  rw [w0] at hF
  have yC : Y 2270 14 0 = C := (fY _ _ _ (by decide) (by decide) (by decide) (by omega)).trans hC
  have yc : Y 2270 0 0 = cs := (fY _ _ _ (by decide) (by decide) (by decide) (by omega)).trans w0
  -- the class is made ready
  obtain ⟨M1, hM1⟩ : ∃ X, qw M 1337 7 0 T = X := ⟨_, rfl⟩
  have f1 : ∀ e x y, ¬ (e = 1337 ∧ x = 7) → M1 e x y = M e x y := fun e x y z => by rw [← hM1, qw_ap, if_neg (by omega)]
  have m17 : M1 1337 7 0 = T := by rw [← hM1]; exact qw_s
  obtain ⟨M2, e2, f2, hcl⟩ := clear_C (M := M1) (hm := hm) (by rw [f1 _ _ _ (by omega)]; omega) (by rw [f1 _ _ _ (by omega)]; omega)
  have g2 : ∀ e x y, e ≠ 1745 → ¬ (e = 1337 ∧ x = 7) → M2 e x y = M e x y := fun e x y z1 z2 => (f2 e x y z1).trans (f1 e x y z2)
  obtain ⟨M3, e3, f3, hW3⟩ := cars33_C (M := M2) (K := W) (n := n) (hm := hm) (by rw [g2 _ _ _ (by decide) (by omega)]; exact hn) n6 (by rw [gW _ _ _ (by omega)]; exact h13) (fun Z fZ k k1 hh => by
    have e44 : M2 1744 (k : Int) 0 = M 1744 (k : Int) 0 := g2 _ _ _ (by decide) (by omega)
    have gZ : ∀ e x y, e ≠ 2146 → e ≠ 1745 → ¬ (e = 1337 ∧ x = 7) → Z e x y = M e x y := fun e x y z1 z2 z3 => (fZ e x y z1).trans (g2 e x y z2 z3)
    have ol := h_openl k (by omega) (by omega)
    have cq := h_calls _ ol.1 ol.2.1
    have bq := h_begunr _ ol.1 ol.2.1
    rw [e44]
    refine carsThat_C (K := W) (by omega) (by omega) (by rw [gZ _ _ _ (by decide) (by decide) (by omega), w0]; exact hcs) ol.1 (by omega) (fun j j0 j1 => ?_) ?_ ?_ ?_ ?_
    · have q := h_cars j j0 (by omega)
      have q2 := h_begun j _ j0 (by omega) ol.1 ol.2.1 ol.2.2
      rw [gW 2274 _ _ (by omega), gW 2275 _ _ (by omega), gW 2280 _ _ (by omega), gZ 1338 j 3 (by decide) (by decide) (by omega), gZ 1338 j 4 (by decide) (by decide) (by omega), gZ 1338 j 5 (by decide) (by decide) (by omega)]
      exact ⟨by omega, by omega, q2⟩
    · rw [gW 2276 _ _ (by omega), gZ 1343 _ 0 (by decide) (by decide) (by omega)]
      exact cq.1.symm
    · rw [gW 2277 _ _ (by omega), gZ 1343 _ 1 (by decide) (by decide) (by omega)]
      exact cq.2.1.symm
    · rw [gW 2280 _ _ (by omega)]
      exact bq.1
    · rw [gW 2280 _ _ (by omega), w0]
      omega)
  have g3 : ∀ e x y, e ≠ 1745 → e ≠ 2146 → ¬ (e = 1337 ∧ x = 7) → M3 e x y = M e x y := fun e x y z1 z2 z3 => (f3 e x y z2).trans (g2 e x y z1 z3)
  have m37 : M3 1337 7 0 = T := ((f3 _ _ _ (by decide)).trans (f2 _ _ _ (by decide))).trans m17
  have lkc : ∀ (Z : qm) (c : Nat), c < cs → (∀ e x y, (e = 1338 ∨ e = 1343 ∨ e = 1744 ∨ (e = 1337 ∧ x = 4)) → Z e x y = M e x y) → Z 1337 7 0 = T → LKC Z W n c := fun Z c hc fZ z7 => by
    have q := h_cars c (by omega) (by omega)
    refine ⟨by rw [fZ _ _ _ (by omega)]; exact hn, n6, carW c hc, ?_, ?_, ?_, ?_, fun k k0 k1 => ?_, fun j k j0 jk k1 => ?_⟩
    · rw [fZ 1338 _ _ (by omega), gW 2271 _ _ (by omega)]
      omega
    · rw [fZ 1338 _ _ (by omega), gW 2272 _ _ (by omega)]
      omega
    · rw [fZ 1338 _ _ (by omega), gW 2273 _ _ (by omega)]
      omega
    · rw [z7, gW 2270 12 _ (by omega)]
      omega
    · have ol := h_openl k k0 (by omega)
      have cq := h_calls _ ol.1 ol.2.1
      have bq := h_begun c _ (by omega) (by omega) ol.1 ol.2.1 ol.2.2
      rw [fZ 1744 k 0 (by omega), fZ 1343 _ 0 (by omega), fZ 1343 _ 1 (by omega), fZ 1343 _ 2 (by omega), fZ 1338 _ 5 (by omega), gW 2276 _ _ (by omega), gW 2277 _ _ (by omega), gW 2278 _ _ (by omega), gW 2280 _ _ (by omega)]
      exact ⟨cllW _ ol.1 ol.2.1, cq.1.symm, cq.2.1.symm, cq.2.2.1.symm, bq⟩
    · rw [fZ 1744 j 0 (by omega), fZ 1744 k 0 (by omega)]
      exact h_openi j k j0 jk (by omega)
  obtain ⟨M4, e4, f4, hR4⟩ := cars_C (M := M3) (K := W) (n := n) (cs := cs) (by rw [g3 _ _ _ (by decide) (by decide) (by omega)]; exact hcs) c4 (fun c hc => lkc M3 c hc (fun e x y z => g3 e x y (by omega) (by omega) (by omega)) m37) (fun k k1 => ⟨(hW3 k k1).1, (hW3 k k1).2.1⟩)
  obtain ⟨M5, hM5⟩ : ∃ X, qw (qfl1 M4 2154 0 4 0) 1337 15 0 9223372036854775807 = X := ⟨_, rfl⟩
  have f5 : ∀ e x y, e ≠ 2154 → ¬ (e = 1337 ∧ x = 15) → M5 e x y = M4 e x y := fun e x y z1 z2 => by rw [← hM5, qw_ap, if_neg (by omega), qfl1_ap, if_neg (by omega)]
  have g5 : ∀ e x y, e ≠ 2154 → e ≠ 2152 → e ≠ 2153 → e ≠ 2147 → ¬ (e = 1337 ∧ (x = 12 ∨ x = 15)) → M5 e x y = M3 e x y := fun e x y z1 z2 z3 z4 z5 => (f5 e x y z1 (by omega)).trans (f4 e x y z2 z3 (by omega) z4)
  have h5 : ∀ e x y, e ≠ 1745 → e ≠ 2146 → e ≠ 2154 → e ≠ 2152 → e ≠ 2153 → e ≠ 2147 → ¬ (e = 1337 ∧ (x = 7 ∨ x = 12 ∨ x = 15)) → M5 e x y = M e x y := fun e x y z1 z2 z3 z4 z5 z6 z7 => (g5 e x y z3 z4 z5 z6 (by omega)).trans (g3 e x y z1 z2 (by omega))
  have m57 : M5 1337 7 0 = T := (g5 _ _ _ (by decide) (by decide) (by decide) (by decide) (by omega)).trans m37
  have m46 : ∀ k, M5 2146 k 0 = M3 2146 k 0 := fun k => g5 _ _ _ (by decide) (by decide) (by decide) (by decide) (by omega)
  have m44 : ∀ k, M5 1744 k 0 = M3 1744 k 0 := fun k => g5 _ _ _ (by decide) (by decide) (by decide) (by decide) (by omega)
  have o44 : ∀ k, M5 1744 k 0 = M 1744 k 0 := fun k => h5 _ _ _ (by decide) (by decide) (by decide) (by decide) (by decide) (by decide) (by omega)
  have hW5 : WCF M5 W n := fun k k1 => by
    rw [m46, m44]
    exact hW3 k k1
  have hL5 : ∀ c : Nat, c < cs → LKC M5 W n c := fun c hc => lkc M5 c hc (fun e x y z => h5 e x y (by omega) (by omega) (by omega) (by omega) (by omega) (by omega) (by omega)) m57
  have hR5 : ∀ c x : Nat, c < cs → x < 2 ^ n → RWC M5 W M5 n c x := fun c x hc hx => by
    have q := hR4 c x hc hx
    unfold RWC at q ⊢
    rw [mta_o m46, calc_o m44, f5 2147 _ _ (by decide) (by omega)]
    exact q
  obtain ⟨E, hE⟩ : ∃ E, sfx (fun i => M5 2146 i 0) n 0 = E := ⟨_, rfl⟩
  have inE : ∀ y, y ∈ E ↔ ∃ k : Nat, y = k ∧ k < n ∧ M5 2146 (k : Int) 0 ≠ 0 := fun y => by
    rw [← hE, sfx_in]
    exact ⟨fun ⟨j, j1, _, j3, j4⟩ => ⟨j, j1, by omega, j4⟩, fun ⟨j, j1, j3, j4⟩ => ⟨j, j1, by omega, by omega, j4⟩⟩
  have mtW : ∀ (j : Nat) (x : Int), mayT W j x ↔ mayT K j x := fun j x => by
    unfold mayT
    rw [gW 2274 _ _ (by omega), gW 2275 _ _ (by omega), gW 2276 _ _ (by omega), gW 2277 _ _ (by omega), gW 2280 _ _ (by omega)]
  have hm : rl (fun k => W 2281 k 0) C 0 = E.map (fun k => M5 1744 k 0) := by
    have eu : rl (fun k => W 2281 k 0) C 0 = (upl C).map (fun k => W 2281 k 0) := by
      unfold upl
      rw [rl_map]
    rw [eu]
    refine srt_ext _ _ (map_pw _ (upl_pw C) (fun y z hy hz yz => hinc y z (upl_in hy).1 yz (upl_in hz).2)) (map_pw _ (by rw [← hE]; exact sfx_pw n 0) (fun y z hy hz yz => ?_)) (fun y => ?_)
    · obtain ⟨j, j1, j2, _⟩ := (inE y).mp hy
      obtain ⟨k, k1, k2, _⟩ := (inE z).mp hz
      rw [o44, o44]
      exact h_openi y z (by omega) yz (by omega)
    · constructor
      · intro hy
        obtain ⟨q, hq, e⟩ := List.mem_map.mp hy
        have qr := upl_in hq
        have e' : W 2281 q 0 = y := e
        have h1 := hch q qr.1 qr.2
        rw [e'] at h1
        obtain ⟨y0, y1, y2, y3, j, j1, j2⟩ := h1
        obtain ⟨k, k0, k1, k2⟩ := h_opena y y0 (by omega) y3
        obtain ⟨k', rfl⟩ : ∃ k' : Nat, k = k' := ⟨k.toNat, by omega⟩
        refine List.mem_map.mpr ⟨(k' : Int), (inE _).mpr ⟨k', rfl, by omega, fun z => ?_⟩, by show M5 1744 (k' : Int) 0 = y; rw [o44]; exact k2⟩
        have w := (hW5 k' (by omega)).2.2 j (by omega)
        rw [z, o44, k2] at w
        have w2 := w.mpr ⟨by rw [gW _ _ _ (by omega)]; exact y2, by omega, (mtW j y).mpr j2⟩
        rw [show ((0 : Int)).toNat = 0 from rfl, bit_0] at w2
        cases w2
      · intro hy
        obtain ⟨k, hk, e⟩ := List.mem_map.mp hy
        obtain ⟨k', rfl, k1, k2⟩ := (inE k).mp hk
        have e' : M5 1744 (k' : Int) 0 = y := e
        rw [o44] at e'
        obtain ⟨z13, j, j1, j2⟩ := home_w hW5 k1 k2
        have w := ((hW5 k' k1).2.2 j j1).mp j2
        rw [o44, e'] at w
        have ol := h_openl k' (by omega) (by omega)
        rw [e'] at ol
        obtain ⟨q, q0, q1, q2⟩ := hall y ol.1 (by omega) (by rw [← gW _ _ _ (by omega)]; exact z13) ⟨ol.2.2, j, by have := w.2.1; omega, (mtW j y).mp w.2.2⟩
        exact List.mem_map.mpr ⟨q, upl_of q0 q1, q2⟩
  have lE : E.length = C := by
    have q := congrArg List.length hm
    rw [rl_len, List.length_map] at q
    exact q.symm
  have gmt : GMT W Y M5 n cs C E := ⟨c4, n6, w0, hE, lE, hm, hW5, hL5, hR5, fun c r hc hr => hF c r (by omega) hr⟩
  -- the class shares, the reference counts through
  obtain ⟨S, eS, fS, _, hBS⟩ := share_C (M := M5) (n := n) (cs := cs) (E := E) (by rw [h5 _ _ _ (by decide) (by decide) (by decide) (by decide) (by decide) (by decide) (by omega)]; exact hcs) c4 (by rw [h5 _ _ _ (by decide) (by decide) (by decide) (by decide) (by decide) (by decide) (by omega)]; exact hn) n6 (fun k k1 => ⟨(hW5 k k1).1, (hW5 k k1).2.1⟩) (fun c x hc hx => gmt_rc gmt hc hx) rfl hE n 0 12 [] [] M5 (9223372036854775807, []) (by omega) (by omega) hE rfl (fun c _ k hk => by cases hk) (fun _ _ _ _ _ _ => rfl) (fun c hc => by
    rw [← hM5, qw_a (by decide), qfl1_ap, if_pos (by omega)]
    rfl) ⟨by rw [← hM5]; exact qw_s, fun z => absurd z (by show ¬ (9223372036854775807 : Int) < 9223372036854775807; omega)⟩
  have em : (fun t : List Int => [] ++ t) = id := funext (fun t => rfl)
  rw [hE, lE, em, List.map_id] at hBS
  obtain ⟨v, g, eg, g6, hv⟩ := best_K (K := Y) yC (by omega) yc c4 hp (fun c x hc hx => gmt_r gmt hc hx)
  obtain ⟨fe, D, hD, okD, hD2⟩ := folds_e (t := dig cs C 0) (B := (9223372036854775807, [])) gmt (by show (1152921504606846976 : Int) ≤ 9223372036854775807; omega)
  rw [hv] at fe
  rw [← fe] at hBS hD2
  have dD : dig cs C g = D := congrArg Prod.snd hD2
  have vD : v = smC M5 cs E D := congrArg Prod.fst hD2
  have vb := sums_b (D := D) gmt
  have okg : ftC M5 cs E (dig cs C g) := by
    rw [dD]
    exact okD
  obtain ⟨Y2, eY2, fY2, hY2⟩ := clear_K (K := Y) (v := v) (g := (g : Int)) (by rw [fY _ _ _ (by decide) (by decide) (by decide) (by omega), gW _ _ _ (by omega)]; omega) (by rw [fY _ _ _ (by decide) (by decide) (by decide) (by omega), gW _ _ _ (by omega)]; omega)
  have y6 : Y 2270 6 0 = M 1337 2 0 := by
    rw [fY _ _ _ (by decide) (by decide) (by decide) (by omega), gW _ _ _ (by omega)]
    exact h_calln.2.2
  rw [y6] at fY2 hY2
  have s2 : S 1337 2 0 = M 1337 2 0 := (fS _ _ _ (by decide) (by decide) (by omega)).trans (h5 _ _ _ (by decide) (by decide) (by decide) (by decide) (by decide) (by decide) (by omega))
  obtain ⟨X, X2, e114, e158, fX, fX2, hG, hz⟩ := tells (S := S) (v := v) (g := g) gmt fY ((fS _ _ _ (by decide) (by decide) (by omega)).trans ((h5 _ _ _ (by decide) (by decide) (by decide) (by decide) (by decide) (by decide) (by omega)).trans hcs)) (fun e x y z => fS e x y (by omega) (by omega) (by omega)) (fun k k1 => by
    rw [o44, s2]
    exact (h_openl k (by omega) (by omega)).2.1) yC hp (by omega) okg (fun c hc => hBS.2 (by show v < 9223372036854775807; omega) c hc) cs 0 20000 20000 S Y2 (by omega) (by omega) (by omega) (fun _ _ _ _ _ _ _ => rfl) (fun e x y z1 z2 z3 z4 => fY2 e x y (by omega)) (fun x x0 x1 => by
    rw [s2] at x1
    have s45 : ∀ j, S 1745 x j = M2 1745 x j := fun j => (fS _ _ _ (by decide) (by decide) (by omega)).trans ((g5 _ _ _ (by decide) (by decide) (by decide) (by decide) (by omega)).trans (f3 _ _ _ (by decide)))
    have m12 : M1 1337 2 0 = M 1337 2 0 := f1 _ _ _ (by omega)
    refine Or.inl ⟨hY2 x x0 x1, ?_, ?_, ?_, ?_⟩
    · rw [s45]
      exact hcl x 0 x0 (by omega) (by omega) (by omega)
    · rw [s45]
      exact hcl x 1 x0 (by omega) (by omega) (by omega)
    · rw [s45]
      exact hcl x 2 x0 (by omega) (by omega) (by omega)
    · rw [s45]
      exact hcl x 3 x0 (by omega) (by omega) (by omega))
  refine ⟨v, X, X2, ?_, ?_, hG, fun x hx => ?_, ?_, ?_⟩
  · unfold qf_X3_makeGiving qbnd
    (try dsimp only)
    rw [hTT, hM1, e2]
    simp only [Option.bind_some]
    rw [e3]
    simp only [Option.bind_some]
    rw [e4]
    simp only [Option.bind_some]
    rw [hM5]
    have eS' : qf_X3_share 20000 0 M5 = some ((), S) := eS
    rw [eS']
    simp only [Option.bind_some]
    have e114' : qf_X3_makeGiving_L114 20000 20000 0 S = some (.inr ((), X)) := e114
    rw [e114']
    simp only [Option.bind_some]
    rw [show X 1337 15 0 = v from (fX _ _ _ (by decide) (by decide) (by decide) (by omega)).trans hBS.1]
  · unfold qf_X13_give
    rw [eW]
    simp only [Option.bind_some]
    rw [all_K hC (by omega) w0 c4]
    simp only [Option.bind_some]
    rw [eY]
    simp only [Option.bind_some]
    rw [eg]
    simp only [Option.bind_some]
    rw [eY2]
    simp only [Option.bind_some]
    have e158' : qf_X13_give_L158 20000 20000 v g 0 Y2 = some (.inr ((), X2)) := e158
    rw [e158']
    rfl
  · rw [hz x (by rw [s2]; exact hx), fY2 _ _ _ (by omega), fY _ _ _ (by decide) (by decide) (by decide) (by omega), fW _ _ _ (by decide) (by omega)]
  · rw [fX _ _ _ (by decide) (by decide) (by decide) (by omega)]
    exact s2
  · rw [fX2 _ _ _ (by decide) (by decide) (by decide) (by decide), fY _ _ _ (by decide) (by decide) (by decide) (by omega), fW _ _ _ (by decide) (by omega)]
theorem op_give (h_built : R_built M K) (h_time : R_time M K) (h_ltime : R_ltime M K) (h_carn : R_carn M K) (h_cars : R_cars M K) (h_calln : R_calln M K) (h_calls : R_calls M K) (h_opens : R_opens M K) (h_openl : R_openl M K) (h_openi : R_openi M K) (h_opena : R_opena M K) (h_begun : R_begun M K) (h_begunr : R_begunr M K) (h_given : R_given M K) (h_givenz : R_givenz M K) (h_macts : R_macts M K) (h_mstate : R_mstate M K) : oK2 cI (qf_L_give 20000 M) (qf_X18_give 20000 K) (fun M' K' => R_given M' K' ∧ R_givenz M' K') := by
  have s_built := h_built
  unfold R_built at s_built
  have bb : ∀ {α β : Type} (a : α) (f : α → Option β), (some a).bind f = f a := fun _ _ => rfl
  by_cases g : M 6 11 0 = 0
  · have eC : qf_L_give 20000 M = some (1, M) := by
      unfold qf_L_give qf_X11_give qf_X11_needState
      rw [if_pos g, bb]
      (try dsimp only)
      rw [bb]
      (try dsimp only)
      rw [if_pos rfl]
    have eK : qf_X18_give 20000 K = some (0, qw K 2156 0 0 1) := by
      unfold qf_X18_give qf_X18_stays qbnd
      rw [show K 2156 1 0 = 0 by omega, if_pos rfl]
      (try dsimp only)
      rw [if_pos (Or.inl rfl), bb]
      (try dsimp only)
      rw [if_pos rfl]
    refine qW_at eC (qW_at eK ⟨(qw_s : qw K 2156 0 0 1 2156 0 0 = 1), fun y => absurd y (show ¬ (1 : Int) = 0 by decide), fun x x0 x1 => ?_, fun x x0 x1 => ?_⟩)
    · show (qw K 2156 0 0 1 2285 x 0 = -1 ∧ _) ∨ (0 ≤ qw K 2156 0 0 1 2285 x 0 ∧ qw K 2156 0 0 1 2285 x 0 = _ ∧ qw K 2156 0 0 1 2286 x 0 = _ ∧ qw K 2156 0 0 1 2287 x 0 = _ ∧ qw K 2156 0 0 1 2288 x 0 = _)
      rw [qw_a (by decide), qw_a (by decide), qw_a (by decide), qw_a (by decide)]
      exact h_given x x0 x1
    · show qw K 2156 0 0 1 2285 x 0 = -1
      rw [qw_a (by decide)]
      exact h_givenz x x0 x1
  · obtain ⟨K1, hK1⟩ : ∃ X, qw K 2156 0 0 0 = X := ⟨_, rfl⟩
    have fK1 : ∀ b x y, ¬ (b = 2156 ∧ x = 0) → K1 b x y = K b x y := fun b x y z => by rw [← hK1, qw_ap, if_neg (by omega)]
    have k0 : K1 2156 0 0 = 0 := by rw [← hK1]; exact qw_s
    have hb1 : K 2156 1 0 = 1 := by omega
    obtain ⟨r, er, hr⟩ := isKindDone_r (M := M) (k := 1)
    obtain ⟨r2, er2, hr2⟩ := done2_r (M := M) (K := K1) (by
      apply R_macts_x (M := M) (K := K) (h := h_macts) <;> first | rfl | exact fun _ _ => rfl | exact fK1 _ _ _ (by omega) | exact fun _ _ => fK1 _ _ _ (by omega)) (by
      apply R_mstate_x (M := M) (K := K) (h := h_mstate) <;> first | rfl | exact fun _ _ => rfl | exact fK1 _ _ _ (by omega) | exact fun _ _ => fK1 _ _ _ (by omega)) (k := 1) (by omega)
    have r01 : r = 0 ∨ r = 1 := by omega
    obtain ⟨K2, hK2⟩ : ∃ X, qw K1 2270 13 0 r = X := ⟨_, rfl⟩
    have fK2 : ∀ b x y, ¬ (b = 2156 ∧ x = 0) → ¬ (b = 2270 ∧ x = 13) → K2 b x y = K b x y := fun b x y z1 z2 => by rw [← hK2, qw_ap, if_neg (by omega)]; exact fK1 b x y z1
    unfold R_ltime at h_ltime
    obtain ⟨v, X, X2, eC, eK, hG, hz, hx2, hx0⟩ := give_both (M := M) (K := K2) (hm := r) r01 (by rw [← hK2]; exact qw_s) (by
      apply R_time_x (M := M) (K := K) (h := h_time) <;> first | rfl | exact fun _ _ => rfl | exact fK2 _ _ _ (by omega) (by omega) | exact fun _ _ => fK2 _ _ _ (by omega) (by omega)) (by rw [fK2 _ _ _ (by omega) (by omega)]; exact h_ltime) (by
      apply R_carn_x (M := M) (K := K) (h := h_carn) <;> first | rfl | exact fun _ _ => rfl | exact fK2 _ _ _ (by omega) (by omega) | exact fun _ _ => fK2 _ _ _ (by omega) (by omega)) (by
      apply R_cars_x (M := M) (K := K) (h := h_cars) <;> first | rfl | exact fun _ _ => rfl | exact fK2 _ _ _ (by omega) (by omega) | exact fun _ _ => fK2 _ _ _ (by omega) (by omega)) (by
      apply R_calln_x (M := M) (K := K) (h := h_calln) <;> first | rfl | exact fun _ _ => rfl | exact fK2 _ _ _ (by omega) (by omega) | exact fun _ _ => fK2 _ _ _ (by omega) (by omega)) (by
      apply R_calls_x (M := M) (K := K) (h := h_calls) <;> first | rfl | exact fun _ _ => rfl | exact fK2 _ _ _ (by omega) (by omega) | exact fun _ _ => fK2 _ _ _ (by omega) (by omega)) (by
      apply R_opens_x (M := M) (K := K) (h := h_opens) <;> first | rfl | exact fun _ _ => rfl | exact fK2 _ _ _ (by omega) (by omega) | exact fun _ _ => fK2 _ _ _ (by omega) (by omega)) (by
      apply R_openl_x (M := M) (K := K) (h := h_openl) <;> first | rfl | exact fun _ _ => rfl | exact fK2 _ _ _ (by omega) (by omega) | exact fun _ _ => fK2 _ _ _ (by omega) (by omega)) (by
      apply R_openi_x (M := M) (K := K) (h := h_openi) <;> first | rfl | exact fun _ _ => rfl | exact fK2 _ _ _ (by omega) (by omega) | exact fun _ _ => fK2 _ _ _ (by omega) (by omega)) (by
      apply R_opena_x (M := M) (K := K) (h := h_opena) <;> first | rfl | exact fun _ _ => rfl | exact fK2 _ _ _ (by omega) (by omega) | exact fun _ _ => fK2 _ _ _ (by omega) (by omega)) (by
      apply R_begun_x (M := M) (K := K) (h := h_begun) <;> first | rfl | exact fun _ _ => rfl | exact fK2 _ _ _ (by omega) (by omega) | exact fun _ _ => fK2 _ _ _ (by omega) (by omega)) (by
      apply R_begunr_x (M := M) (K := K) (h := h_begunr) <;> first | rfl | exact fun _ _ => rfl | exact fK2 _ _ _ (by omega) (by omega) | exact fun _ _ => fK2 _ _ _ (by omega) (by omega))
    have eK2 : qf_X18_give 20000 K = some (v, X2) := by
      have j : qf_X18_give_J33 20000 r K1 = some (v, X2) := by
        unfold qf_X18_give_J33 qbnd
        rw [if_pos r01]
        (try dsimp only)
        rw [hK2, eK, bb]
      unfold qf_X18_give qf_X18_stays qbnd
      rw [hb1, if_neg (by decide), hK1]
      (try dsimp only)
      rw [if_pos (Or.inr rfl), bb]
      (try dsimp only)
      rw [if_neg (by decide), er2, bb]
      (try dsimp only)
      by_cases g2 : r2 ≤ 0
      · rw [if_pos g2, show (0 : Int) = r from by
          rcases hr with ⟨_, h1⟩ | ⟨h0, _⟩
          · rcases hr2 with ⟨h2, _⟩ | ⟨_, h2⟩
            · omega
            · exact absurd h1 h2
          · exact h0.symm]
        exact j
      · rw [if_neg g2, show (1 : Int) = r from by
          rcases hr with ⟨h0, _⟩ | ⟨_, h1⟩
          · exact h0.symm
          · rcases hr2 with ⟨_, h2⟩ | ⟨h2, _⟩
            · exact absurd h2 h1
            · omega]
        exact j
    have eC2 : qf_L_give 20000 M = some (0, qw X 2332 0 0 v) := by
      unfold qf_L_give qf_X11_give qf_X11_needState qf_X11_isHome qbnd
      rw [if_neg g, bb]
      (try dsimp only)
      rw [er, bb]
      (try dsimp only)
      rw [if_pos r01, bb]
      (try dsimp only)
      rw [eC, bb]
      (try dsimp only)
      rw [bb]
    refine qW_at eC2 (qW_at eK2 ⟨?_, fun _ => ?_, fun x x0 x1 => ?_, fun x x0 x1 => ?_⟩)
    · show X2 2156 0 0 = 0
      rw [hx0, ← hK2, qw_a (by decide)]
      exact k0
    · exact (qw_s : qw X 2332 0 0 v 2332 0 0 = v)
    · show (X2 2285 x 0 = -1 ∧ qw X 2332 0 0 v 1745 x 0 = -1 ∧ qw X 2332 0 0 v 1745 x 1 = -1 ∧ qw X 2332 0 0 v 1745 x 2 = -1 ∧ qw X 2332 0 0 v 1745 x 3 = -1) ∨ (0 ≤ X2 2285 x 0 ∧ X2 2285 x 0 = qw X 2332 0 0 v 1745 x 0 ∧ X2 2286 x 0 = qw X 2332 0 0 v 1745 x 1 ∧ X2 2287 x 0 = qw X 2332 0 0 v 1745 x 2 ∧ X2 2288 x 0 = qw X 2332 0 0 v 1745 x 3)
      have x1' : x < qw X 2332 0 0 v 1337 2 0 := x1
      rw [qw_a (by decide)] at x1'
      rw [qw_a (by decide), qw_a (by decide), qw_a (by decide), qw_a (by decide)]
      exact hG x x0 x1'
    · have x0' : qw X 2332 0 0 v 1337 2 0 ≤ x := x0
      rw [qw_a (by decide), hx2] at x0'
      show X2 2285 x 0 = -1
      rw [hz x x0', fK2 _ _ _ (by omega) (by omega)]
      exact h_givenz x x0' x1
end GVy
