/-! ===== what is built, both sides ===== -/
section PK
variable {M K N A B C D D0 E F G H T V W K0 M0 : qm} {a b c d k n m p r s t u v x y h i j R S w l z e f g nn κ pos q : Int} {q' stt cnt o aa : Int → Int} {P : Int → Prop}
theorem FNW_m (h : FNW M K M0 K0 A D0 D E F G H C q' m p R stt cnt) (hN : FNM M N) : FNW N K M0 K0 A D0 D E F G H C q' m p R stt cnt := by
  obtain ⟨h1, h2, h3, h4, h5, h6⟩ := h
  have e7 : N 7 0 0 = M 7 0 0 := hN 7 0 0 (by decide)
  have e8 : ∀ i j, N 8 i j = M 8 i j := fun i j => hN 8 i j (Or.inr (Or.inl rfl))
  have e2 : N 51 2 0 = M 51 2 0 := hN 51 2 0 (by decide)
  refine ⟨h1, fun b i j hb => (hN b i j (by omega)).trans (h2 b i j hb), h3, h4, by rw [e7]; exact h5, fun z => ?_⟩
  rw [e2] at z
  have w := h6 z
  exact ⟨e7.trans w.1, fun l j l0 l1 => (e8 l j).trans (w.2 l j l0 l1)⟩
theorem sfill_r (h : FNW M K M0 K0 A D0 D E F G H C q' m p R stt cnt) : qW (qf_X18_build_L147 20000 20000 0 K) (fun o => ∃ N, o = .inr ((), N) ∧ (∀ b i j, b ≠ 2329 → N b i j = K b i j) ∧ SPO M N) := by
  unfold qf_X18_build_L147
  refine qW_for 576 (fun i u => ∃ N, u = (i, N) ∧ (∀ b i j, b ≠ 2329 → N b i j = K b i j) ∧ ∀ k, 0 ≤ k → k < i → (N 2329 k 0) = oF M (swp k)) ?_ ?_ ⟨K, rfl, fun _ _ _ _ => rfl, fun k a b => by omega⟩ (by decide) (by decide)
  · rintro i _ i0 i1 ⟨N, rfl, hN, hk⟩
    have hF := FNW_n h (N := N) (fun b i j hb _ => hN b i j (by omega))
    have rc := fnw_rcx hF
    have e := at_e rc (x := i % 24) (y := i / 24) (by omega) (by omega) (by omega) (by omega)
    have eo : own M (i % 24) (i / 24) = oF M (swp i) := by
      unfold own ext swp
      rw [if_pos (by omega)]
      rfl
    rw [eo] at e
    unfold qf_X18_build_L147_b
    (try dsimp only)
    rw [if_neg (by omega), Int.tmod_eq_emod_of_nonneg i0, Int.tdiv_eq_ediv_of_nonneg i0, w32_id (x := i + 1) (by omega) (by omega)]
    refine qW_eq e ?_
    rw [if_pos (by omega)]
    refine qW_bnd (qW_some ⟨_, rfl, fun b i j hb => (qw_a hb).trans (hN b i j hb), fun k k0 k1 => ?_⟩)
    rw [qw_one]
    by_cases g : k = i
    · rw [if_pos g, g]
    · rw [if_neg g]
      exact hk k k0 (by omega)
  · rintro _ ⟨N, rfl, hN, hk⟩
    unfold qf_X18_build_L147_b
    (try dsimp only)
    rw [if_pos (by decide)]
    refine qW_some ⟨N, rfl, hN, fun c c0 c1 => ?_⟩
    have sb := swp_b c0 c1
    rw [hk _ sb.1 sb.2.1, sb.2.2.1]
def blC (M : qm) : Option ((Int ⊕ String) × qm) := qbnd (qw M 6 11 0 1) (fun M14 => (qf_X10_numberCells 20000 M14).bind (fun r17 => (qf_X0_findPortals 20000 r17.2).bind (fun r21 => qbnd (qw r21.2 1172 2 0 (w32 ((r21.2 51 3 0) + 10))) (fun M25 => some (.inl (M25 824 3 0), M25)))))
def blK (K : qm) : Option (Int × qm) := qbnd (qw K 2156 1 0 1) (fun M18 => qbnd (qw M18 2156 9 0 (M18 2157 17 0)) (fun M21 => qbnd (qw M21 2208 0 0 (w32 ((M21 2156 9 0) + 10))) (fun M24 => (qf_X18_build_L147 20000 20000 0 M24).bind (fun r => (match r with | .inl o => some o | .inr (_, M30) => (qf_X18_findPortals 20000 M30).bind (fun r32 => (qf_X18_findWays 20000 r32.2).bind (fun r34 => some ((r34.2 2156 10 0), r34.2))))))))
def BLT (M K A B : qm) : Prop := (R_built A B ∧ R_rooms A B ∧ R_mpoints A B ∧ R_walk A B ∧ R_spaceof A B) ∧ (R_portn A B ∧ R_portw A B ∧ R_portc A B ∧ R_porto A B ∧ R_portk A B ∧ R_portr A B ∧ R_portq A B) ∧ (∀ b i j, ¬ (b = 6 ∧ i = 11) → b ≠ 759 → b ≠ 760 → b ≠ 824 → b ≠ 825 → b ≠ 826 → b ≠ 827 → ¬ (b = 1172 ∧ i = 2) → A b i j = M b i j) ∧ (∀ b i j, ¬ (b = 2156 ∧ (i = 1 ∨ i = 9 ∨ i = 10)) → ¬ (b = 2208 ∧ i = 0) → ¬ (2289 ≤ b ∧ b ≤ 2293) → b ≠ 2297 → b ≠ 2328 → b ≠ 2329 → B b i j = K b i j) ∧ (∀ i, 0 ≤ i → A 827 i 0 = 0) ∧ (∀ i, ¬ (i = 3 ∨ i = 7) → A 824 i 0 = M 824 i 0) ∧ A 6 11 0 = 1 ∧ WLB A
theorem built_both (h_lines : R_lines M K) (h_ends : R_ends M K) (h_doorn : R_doorn M K) (h_doors : R_doors M K) (h_spaces : R_spaces M K) (h : FNW M K M0 K0 A D0 D E F G H C q' m p R stt cnt) (hc : CUR M M0) (S1 : 1 ≤ (M 51 3 0)) (S4 : (M 51 3 0) ≤ 40) (hO : OWR M (M 51 3 0)) (hp : 0 ≤ M 6 12 0) (hZ : ZPO K) (hn : ∀ i, 0 ≤ i → i < 576 → (K 2328 i 0) = 0) (hq : (K 2156 10 0) = 0) : ∃ v A B, blC M = some (.inl v, A) ∧ blK K = some (v, B) ∧ BLT M K A B := by
  have s_spaces := h_spaces
  unfold R_spaces at s_spaces
  obtain ⟨S, hS⟩ : ∃ S, (M 51 3 0) = S := ⟨_, rfl⟩
  rw [hS] at S1 S4 hO s_spaces
  -- the class
  obtain ⟨M1, hM1⟩ : ∃ W, qw M 6 11 0 1 = W := ⟨_, rfl⟩
  have m1 : ∀ b i j, ¬ (b = 6 ∧ i = 11) → M1 b i j = M b i j := fun b i j hb => by
    rw [← hM1, qw_ap, if_neg (by omega)]
  have b1 : M1 6 11 0 = 1 := by rw [← hM1]; exact qw_s
  have fM1 : FNW M1 K M0 K0 A D0 D E F G H C q' m p R stt cnt := FNW_m h (fun b i j hb => m1 b i j (by omega))
  have cM1 : CUR M1 M0 := ⟨(m1 _ _ _ (by omega)).trans hc.1, fun l j l0 l1 => (m1 _ _ _ (by omega)).trans (hc.2 l j l0 l1)⟩
  have l1 : R_lines M1 K := R_lines_x (m1 _ _ _ (by omega)) rfl h_lines
  have e1 : R_ends M1 K := R_ends_x (m1 _ _ _ (by omega)) (fun i j => m1 _ _ _ (by omega)) (fun _ _ => rfl) (fun _ _ => rfl) (fun _ _ => rfl) (fun _ _ => rfl) h_ends
  have n1 : R_doorn M1 K := R_doorn_x (m1 _ _ _ (by omega)) (fun i j => m1 _ _ _ (by omega)) (fun _ _ => rfl) h_doorn
  have d1 : R_doors M1 K := R_doors_x (fun i j => m1 _ _ _ (by omega)) (fun i j => m1 _ _ _ (by omega)) (fun _ _ => rfl) (fun _ _ => rfl) (fun _ _ => rfl) (fun _ _ => rfl) h_doors
  obtain ⟨⟨_, M2⟩, eM2, sam, num, wlb⟩ := number_C l1 e1 n1 d1 fM1 cM1
  (try dsimp only at sam num wlb)
  have m2 : ∀ b i j, b ≠ 759 → b ≠ 760 → M2 b i j = M1 b i j := fun b i j h1 h2 => sam b i j h1 h2
  have fM2 : FNW M2 K M0 K0 A D0 D E F G H C q' m p R stt cnt := FNW_m fM1 (fun b i j hb => m2 b i j (by omega) (by omega))
  have cM2 : CUR M2 M0 := ⟨(m2 _ _ _ (by decide) (by decide)).trans cM1.1, fun l j l0 l1 => (m2 _ _ _ (by decide) (by decide)).trans (cM1.2 l j l0 l1)⟩
  have l2 : R_lines M2 K := R_lines_x (m2 _ _ _ (by decide) (by decide)) rfl l1
  have e2 : R_ends M2 K := R_ends_x (m2 _ _ _ (by decide) (by decide)) (fun i j => m2 _ _ _ (by decide) (by decide)) (fun _ _ => rfl) (fun _ _ => rfl) (fun _ _ => rfl) (fun _ _ => rfl) e1
  have n2 : R_doorn M2 K := R_doorn_x (m2 _ _ _ (by decide) (by decide)) (fun i j => m2 _ _ _ (by decide) (by decide)) (fun _ _ => rfl) n1
  have d2 : R_doors M2 K := R_doors_x (fun i j => m2 _ _ _ (by decide) (by decide)) (fun i j => m2 _ _ _ (by decide) (by decide)) (fun _ _ => rfl) (fun _ _ => rfl) (fun _ _ => rfl) (fun _ _ => rfl) d1
  have s1 : M1 51 3 0 = S := (m1 _ _ _ (by omega)).trans hS
  have s2 : M2 51 3 0 = S := (m2 _ _ _ (by decide) (by decide)).trans s1
  have o1 : OWR M1 S := fun v v0 v1 => by
    rw [show oF M1 = oF M from funext (fun v => m1 _ _ _ (by omega))]
    exact hO v v0 v1
  have o2 : OWR M2 S := fun v v0 v1 => by
    rw [show oF M2 = oF M1 from funext (fun v => m2 _ _ _ (by decide) (by decide))]
    exact o1 v v0 v1
  obtain ⟨nn, aa, hE⟩ := enm_ex (KEY M2)
  obtain ⟨⟨_, M3⟩, eM3, ptc⟩ := ports_C l2 e2 n2 d2 fM2 cM2 o2 (by omega) (by omega) hE
  (try dsimp only at ptc)
  have s3 : M3 51 3 0 = S := (ptc.1 _ _ _ (by decide) (by decide) (by decide) (by decide)).trans s2
  -- the reference
  obtain ⟨K1, hK1⟩ : ∃ W, qw (qw (qw K 2156 1 0 1) 2156 9 0 S) 2208 0 0 (S + 10) = W := ⟨_, rfl⟩
  have k1 : ∀ b i j, ¬ (b = 2156 ∧ (i = 1 ∨ i = 9)) → ¬ (b = 2208 ∧ i = 0) → K1 b i j = K b i j := fun b i j h1 h2 => by
    rw [← hK1, qw_ap, if_neg (by omega), qw_ap, if_neg (by omega), qw_ap, if_neg (by omega)]
  have kb : K1 2156 1 0 = 1 ∧ K1 2156 9 0 = S ∧ K1 2208 0 0 = S + 10 := by
    rw [← hK1]
    exact ⟨rfl, rfl, rfl⟩
  have fK1 : FNW M1 K1 M0 K0 A D0 D E F G H C q' m p R stt cnt := FNW_n fM1 (fun b i j h1 h2 => k1 b i j (by omega) (by omega))
  obtain ⟨oo, eK2, K2, rfl, k2, spo⟩ := sfill_r fK1
  have fK2 : FNW M2 K2 M0 K0 A D0 D E F G H C q' m p R stt cnt := FNW_n fM2 (fun b i j h1 h2 => (k2 b i j (by omega)).trans (k1 b i j (by omega) (by omega)))
  have kk : ∀ b i j, b ≤ 2182 → b ≠ 2156 → K2 b i j = K b i j := fun b i j h1 h2 => (k2 b i j (by omega)).trans (k1 b i j (by omega) (by omega))
  have l2' : R_lines M2 K2 := R_lines_x rfl (kk _ _ _ (by decide) (by decide)) l2
  have e2' : R_ends M2 K2 := R_ends_x rfl (fun _ _ => rfl) (fun i j => kk _ _ _ (by decide) (by decide)) (fun i j => kk _ _ _ (by decide) (by decide)) (fun i j => kk _ _ _ (by decide) (by decide)) (fun i j => kk _ _ _ (by decide) (by decide)) e2
  have n2' : R_doorn M2 K2 := R_doorn_x rfl (fun _ _ => rfl) (fun i j => kk _ _ _ (by decide) (by decide)) n2
  have d2' : R_doors M2 K2 := R_doors_x (fun _ _ => rfl) (fun _ _ => rfl) (fun i j => kk _ _ _ (by decide) (by decide)) (fun i j => kk _ _ _ (by decide) (by decide)) (fun i j => kk _ _ _ (by decide) (by decide)) (fun i j => kk _ _ _ (by decide) (by decide)) d2
  have rm2 : K2 2156 9 0 = M2 51 3 0 := by
    rw [k2 _ _ _ (by decide), kb.2.1, s2]
  have pz2 : K2 2156 10 0 = 0 := by
    rw [k2 _ _ _ (by decide), k1 _ _ _ (by omega) (by omega)]
    exact hq
  have zpo2 : ZPO K2 := fun j j0 j1 => by
    rw [k2 _ _ _ (by decide), k2 _ _ _ (by decide), k2 _ _ _ (by decide), k2 _ _ _ (by decide), k1 _ _ _ (by omega) (by omega), k1 _ _ _ (by omega) (by omega), k1 _ _ _ (by omega) (by omega), k1 _ _ _ (by omega) (by omega)]
    exact hZ j j0 j1
  have o2s : OWR M2 (M2 51 3 0) := by rw [s2]; exact o2
  obtain ⟨⟨_, K3⟩, eK3, rki⟩ := ports_K l2' e2' n2' d2' fK2 cM2 o2s (by omega) (by omega) rm2 hE pz2
  (try dsimp only at rki)
  have k3 := rki.1
  have fK3 : FNW M1 K3 M0 K0 A D0 D E F G H C q' m p R stt cnt := kfr_n (FNW_n fM1 (fun b i j h1 h2 => (k2 b i j (by omega)).trans (k1 b i j (by omega) (by omega)))) k3
  have kk3 : ∀ b i j, b ≤ 2182 → b ≠ 2156 → K3 b i j = K b i j := fun b i j h1 h2 => (k3 b i j (by omega) (by omega) (by omega)).trans (kk b i j h1 h2)
  have l3 : R_lines M1 K3 := R_lines_x rfl (kk3 _ _ _ (by decide) (by decide)) l1
  have e3 : R_ends M1 K3 := R_ends_x rfl (fun _ _ => rfl) (fun i j => kk3 _ _ _ (by decide) (by decide)) (fun i j => kk3 _ _ _ (by decide) (by decide)) (fun i j => kk3 _ _ _ (by decide) (by decide)) (fun i j => kk3 _ _ _ (by decide) (by decide)) e1
  have n3 : R_doorn M1 K3 := R_doorn_x rfl (fun _ _ => rfl) (fun i j => kk3 _ _ _ (by decide) (by decide)) n1
  have d3 : R_doors M1 K3 := R_doors_x (fun _ _ => rfl) (fun _ _ => rfl) (fun i j => kk3 _ _ _ (by decide) (by decide)) (fun i j => kk3 _ _ _ (by decide) (by decide)) (fun i j => kk3 _ _ _ (by decide) (by decide)) (fun i j => kk3 _ _ _ (by decide) (by decide)) d1
  have spo3 : SPO M1 K3 := fun c c0 c1 => by
    rw [k3 _ _ _ (by decide) (by decide) (by omega)]
    exact spo c c0 c1
  have nz3 : ∀ i, 0 ≤ i → i < 576 → K3 2328 i 0 = 0 := fun i i0 i1 => by
    rw [k3 _ _ _ (by decide) (by decide) (by omega), k2 _ _ _ (by decide), k1 _ _ _ (by omega) (by omega)]
    exact hn i i0 i1
  obtain ⟨⟨_, K4⟩, eK4, k4, nuk⟩ := findWays_r spo3 (fun v v0 v1 => (o1 v v0 v1).1) (pas_k l3 e3 n3 d3 fK3 cM1) nz3
  (try dsimp only at k4 nuk)
  have wlk : R_walk M2 K4 := walk_both num nuk
  have k4' : ∀ b i j, b ≠ 2328 → K4 b i j = K3 b i j := fun b i j hb => k4 b i j hb
  have b2 : M2 6 11 0 ≠ 0 := by
    rw [m2 _ _ _ (by decide) (by decide), b1]
    decide
  have p2 : 0 ≤ M2 6 12 0 := by
    rw [m2 _ _ _ (by decide) (by decide), m1 _ _ _ (by omega)]
    exact hp
  have rki4 : RKI M2 K2 K3 aa nn := rki
  obtain ⟨q1, q2, q3, q4, q5, q6, q7⟩ := ports_both l2' e2' n2' d2' fK2 cM2 o2s (by omega) rm2 b2 p2 zpo2 hE ptc rki4
  obtain ⟨A', hA⟩ : ∃ W, qw M3 1172 2 0 (S + 10) = W := ⟨_, rfl⟩
  have a1 : ∀ b i j, ¬ (b = 1172 ∧ i = 2) → A' b i j = M3 b i j := fun b i j hb => by
    rw [← hA, qw_ap, if_neg (by omega)]
  have a2 : A' 1172 2 0 = S + 10 := by rw [← hA]; exact qw_s
  have c3 : ∀ b i j, b ≠ 824 → b ≠ 825 → b ≠ 826 → b ≠ 827 → M3 b i j = M2 b i j := fun b i j h1 h2 h3 h4 => ptc.1 b i j h1 h2 h3 h4
  have am : ∀ b i j, b ≠ 824 → b ≠ 825 → b ≠ 826 → b ≠ 827 → b ≠ 759 → b ≠ 760 → ¬ (b = 6 ∧ i = 11) → ¬ (b = 1172 ∧ i = 2) → A' b i j = M b i j := fun b i j h1 h2 h3 h4 h5 h6 h7 h8 => by
    rw [a1 b i j h8, c3 b i j h1 h2 h3 h4, m2 b i j h5 h6, m1 b i j h7]
  have k5 : ∀ b i j, ¬ (b = 2156 ∧ (i = 1 ∨ i = 9 ∨ i = 10)) → ¬ (b = 2208 ∧ i = 0) → ¬ (2289 ≤ b ∧ b ≤ 2293) → b ≠ 2297 → b ≠ 2328 → b ≠ 2329 → K4 b i j = K b i j := fun b i j h1 h2 h3 h4 h5 h6 => by
    rw [k4' b i j h5, k3 b i j (by omega) h4 (by omega), k2 b i j h6, k1 b i j (by omega) h2]
  have K43 : ∀ b i j, b ≠ 2328 → K4 b i j = K3 b i j := k4'
  have kr9 : K4 2156 9 0 = S := by
    rw [k4' _ _ _ (by decide), k3 _ _ _ (by decide) (by decide) (by decide), rm2, s2]
  refine ⟨nn, A', K4, ?_, ?_, ⟨⟨?_, ?_, ?_, ?_, ?_⟩, ⟨?_, ?_, ?_, ?_, ?_, ?_, ?_⟩, ?_, ?_, ?_, ?_, ?_, ?_⟩⟩
  · unfold blC
    refine qW_e (qW_bnd ?_)
    rw [hM1]
    refine qW_eq eM2 (qW_eq eM3 ?_)
    (try dsimp only)
    rw [s3, w32_id (x := S + 10) (by omega) (by omega), hA]
    refine qW_bnd (qW_some ?_)
    have pv : A' 824 3 0 = nn := (a1 _ _ _ (by omega)).trans ptc.2.1
    rw [pv]
  · unfold blK
    refine qW_e (qW_bnd ?_)
    have es : qw K 2156 1 0 1 2157 17 0 = S := s_spaces.2.2.1
    rw [es]
    refine qW_bnd ?_
    have e9 : qw (qw K 2156 1 0 1) 2156 9 0 S 2156 9 0 = S := qw_s
    rw [e9, w32_id (x := S + 10) (by omega) (by omega)]
    refine qW_bnd ?_
    rw [hK1]
    refine qW_eq eK2 ?_
    (try dsimp only)
    refine qW_eq eK3 (qW_eq eK4 ?_)
    have pv : K4 2156 10 0 = nn := (k4' _ _ _ (by decide)).trans rki.2.1
    (try dsimp only)
    rw [pv]
    exact qW_some rfl
  · unfold R_built
    rw [a1 _ _ _ (by omega), c3 _ _ _ (by decide) (by decide) (by decide) (by decide), m2 _ _ _ (by decide) (by decide), b1, k4' _ _ _ (by decide), k3 _ _ _ (by decide) (by decide) (by decide), k2 _ _ _ (by decide), kb.1]
    exact ⟨Or.inr rfl, rfl⟩
  · unfold R_rooms
    intro _
    rw [kr9, am 51 3 0 (by decide) (by decide) (by decide) (by decide) (by decide) (by decide) (by decide) (by decide), hS]
    exact ⟨rfl, S1, S4⟩
  · unfold R_mpoints
    rw [a2, kr9, k4' _ _ _ (by decide), k3 _ _ _ (by decide) (by decide) (by decide), k2 _ _ _ (by decide), kb.2.2]
    exact ⟨by omega, by omega, rfl, fun _ => rfl⟩
  · refine R_walk_x ((a1 _ _ _ (by omega)).trans (c3 _ _ _ (by decide) (by decide) (by decide) (by decide))) (fun i j => (a1 _ _ _ (by omega)).trans (c3 _ _ _ (by decide) (by decide) (by decide) (by decide))) (fun _ _ => rfl) wlk
  · unfold R_spaceof
    intro _ x y x0 x1 y0 y1
    have es : swp (24 * x + y) = 24 * y + x := by
      unfold swp
      omega
    have sp := spo3 (24 * x + y) (by omega) (by omega)
    rw [es] at sp
    have ob := o1 (24 * x + y) (by omega) (by omega)
    have e56 : A' 56 (24 * x + y) 0 = oF M1 (24 * x + y) := (a1 _ _ _ (by omega)).trans ((c3 _ _ _ (by decide) (by decide) (by decide) (by decide)).trans (m2 _ _ _ (by decide) (by decide)))
    have e51 : A' 51 3 0 = S := (am 51 3 0 (by decide) (by decide) (by decide) (by decide) (by decide) (by decide) (by decide) (by decide)).trans hS
    have eK : K4 2329 (24 * y + x) 0 = oF M1 (24 * x + y) := (k4' _ _ _ (by decide)).trans sp
    rw [eK, e56, e51]
    exact ⟨rfl, ob.1, ob.2⟩
  · exact R_portn_x (a1 _ _ _ (by omega)) (a1 _ _ _ (by omega)) (a1 _ _ _ (by omega)) (fun i j => a1 _ _ _ (by omega)) (fun i j => a1 _ _ _ (by omega)) (fun i j => a1 _ _ _ (by omega)) (k4' _ _ _ (by decide)) q1
  · exact R_portw_x (a1 _ _ _ (by omega)) (a1 _ _ _ (by omega)) (fun i j => a1 _ _ _ (by omega)) (k4' _ _ _ (by decide)) (fun i j => k4' _ _ _ (by decide)) (fun i j => k4' _ _ _ (by decide)) (fun i j => k4' _ _ _ (by decide)) (fun i j => k4' _ _ _ (by decide)) q2
  · exact R_portc_x (a1 _ _ _ (by omega)) (fun i j => a1 _ _ _ (by omega)) (fun i j => k4' _ _ _ (by decide)) (fun i j => k4' _ _ _ (by decide)) (fun i j => k4' _ _ _ (by decide)) (fun i j => k4' _ _ _ (by decide)) (fun i j => k4' _ _ _ (by decide)) (fun i j => k4' _ _ _ (by decide)) q3
  · exact R_porto_x (a1 _ _ _ (by omega)) (a1 _ _ _ (by omega)) (fun i j => a1 _ _ _ (by omega)) (fun i j => k4' _ _ _ (by decide)) (fun i j => k4' _ _ _ (by decide)) (fun i j => k4' _ _ _ (by decide)) q4
  · exact R_portk_x (a1 _ _ _ (by omega)) (a1 _ _ _ (by omega)) (fun i j => a1 _ _ _ (by omega)) (fun i j => k4' _ _ _ (by decide)) (fun i j => k4' _ _ _ (by decide)) q5
  · exact R_portr_x (a1 _ _ _ (by omega)) (a1 _ _ _ (by omega)) (fun i j => a1 _ _ _ (by omega)) (fun i j => k4' _ _ _ (by decide)) (fun i j => k4' _ _ _ (by decide)) (fun i j => k4' _ _ _ (by decide)) (fun i j => k4' _ _ _ (by decide)) (fun i j => k4' _ _ _ (by decide)) (fun i j => k4' _ _ _ (by decide)) q6
  · exact R_portq_x (fun i j => a1 _ _ _ (by omega)) (a1 _ _ _ (by omega)) (fun i j => a1 _ _ _ (by omega)) (k4' _ _ _ (by decide)) q7
  · intro b i j h1 h2 h3 h4 h5 h6 h7 h8
    exact am b i j h4 h5 h6 h7 h2 h3 h1 h8
  · exact k5
  · intro i i0
    rw [a1 _ _ _ (by omega)]
    exact ptc.2.2.2.2.2.2.2.1 i i0
  · intro i hi
    rw [a1 _ _ _ (by omega), ptc.2.2.2.1 i hi, m2 _ _ _ (by decide) (by decide), m1 _ _ _ (by omega)]
  · rw [a1 _ _ _ (by omega), c3 _ _ _ (by decide) (by decide) (by decide) (by decide), m2 _ _ _ (by decide) (by decide), b1]
  · intro v v0 v1
    rw [a1 _ _ _ (by omega), c3 _ _ _ (by decide) (by decide) (by decide) (by decide)]
    exact wlb v v0 v1
end PK
