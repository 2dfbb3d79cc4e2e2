/-! ===== passing: all go, both sides ===== -/
section PSv
variable {M K N V W Y A B C D D0 E F G H K0 M0 N2 K2 : qm} {c d e k m p q' r s t u v x y l z τ R n j : Int} {q stt cnt : Int → Int}
theorem lv_run (h_lines : R_lines M K) (h_ends : R_ends M K) (h_doorn : R_doorn M K) (h_doors : R_doors M K) (h_spaceof : R_spaceof M K) (h_smoke : R_smoke M K) (h_walk : R_walk M K) (h_rooms : R_rooms M K) (h_persons : R_persons M K) (h_personb : R_personb M K) (h_personn : R_personn M K) (hb : M 6 11 0 ≠ 0) (hw : WLB M) (hf : FNW M Y M0 K0 A D0 D E F G H C q m q' R stt cnt) (hc : CUR M M0) (et : K 2156 2 0 = τ) (hτ : 0 ≤ τ) (ht : τ ≤ M 6 12 0) (hL : LIN M V τ (M 756 7 0) n) : ∀ (d : Nat) (k r : Int) (f f2 : Nat) (N W : qm), n - k = d → 0 ≤ k → LVI M V K k N W → NXG W (M 756 7 0) r → d < f → d < f2 → ∃ k' N2 K2, qf_X10_movePersons_L37 20000 f τ n k N = some (.inr ((), N2)) ∧ qf_X18_leave_L49 20000 f2 r W = some (.inr ((), K2)) ∧ LVI M V K k' N2 K2 := by
  obtain ⟨n0, n1, n2⟩ := id h_personn
  intro d
  induction d with
  | zero =>
    intro k r f f2 N W e k0 hI hr h1 h2
    rcases lv_next h_persons h_personb h_rooms h_walk hb hw et hL hI k0 hr with ⟨z, _, _⟩ | ⟨z, no⟩
    · omega
    · obtain ⟨f', rfl⟩ : ∃ f', f2 = f' + 1 := ⟨f2 - 1, by omega⟩
      refine ⟨k, N, W, lv_rest h_walk h_persons h_personb h_rooms hb et n1 hL hI k0 no 0 k f e (Int.le_refl k) h1, ?_, hI⟩
      unfold qf_X18_leave_L49
      rw [qloop.eq_2]
      (try dsimp only)
      unfold qf_X18_leave_L49_b
      rw [if_pos (show r < 0 by omega)]
  | succ d ih =>
    intro k r f f2 N W e k0 hI hr h1 h2
    obtain ⟨g', rfl⟩ : ∃ f', f2 = f' + 1 := ⟨f2 - 1, by omega⟩
    rcases lv_next h_persons h_personb h_rooms h_walk hb hw et hL hI k0 hr with ⟨kn, hv, er⟩ | ⟨z, no⟩
    · obtain ⟨f', rfl⟩ : ∃ f', f = f' + 1 := ⟨f - 1, by omega⟩
      have z := hL.2.2.2.1 k k0 kn
      obtain ⟨N2, K2, e1, e2, hJ⟩ := lv_step h_lines h_ends h_doorn h_doors h_spaceof h_smoke h_walk h_rooms h_persons h_personb hb hf hc et hτ ht n1 hL hI k0 kn hv
      have e8 : N 802 k 0 = V 802 k 0 := hI.2.1 _ _ _ (by decide)
      have p27 : K2 2156 27 0 = M 756 7 0 := (hJ.2.2.1 _ _ _ (by decide)).trans n2
      have p9 : K2 2156 9 0 = K 2156 9 0 := hJ.2.2.1 _ _ _ (by decide)
      have pps : PPS K2 := fun p p0 p1 pr => by
        have b := hJ.1.2.1 p p0 (by rw [hJ.2.1 _ _ _ (by decide), hL.2.2.1 _ _ _ (by decide)]; omega)
        rw [if_neg (show ¬ K2 2306 p 0 = K2 2156 9 0 by omega)] at b
        omega
      obtain ⟨r', e3, hr'⟩ := next_K pps (by omega) (by omega)
      rw [p27] at hr'
      rw [← er] at e1 e2 e8 z
      have b1 : qf_X10_movePersons_L37_b 20000 τ n k N = some (.inr (τ, n, k + 1, N2)) := by
        unfold qf_X10_movePersons_L37_b
        rw [if_neg (show ¬ n ≤ k by omega), if_pos (show 0 ≤ k ∧ k < 40 by have := hL.2.1; omega), e8, e1, Option.bind_some, w32_id (x := k + 1) (by omega) (by have := hL.2.1; omega)]
      have b2 : qf_X18_leave_L49_b 20000 r W = some (.inr (r', K2)) := by
        unfold qf_X18_leave_L49_b qbnd
        rw [if_neg (show ¬ r < 0 by omega), if_pos (show 0 ≤ r ∧ r < 40 by omega)]
        (try dsimp only)
        rw [e2, Option.bind_some]
        (try dsimp only)
        rw [e3, Option.bind_some]
      obtain ⟨k', N3, K3, x1, x2, x3⟩ := ih (k + 1) r' f' g' N2 K2 (by omega) (by omega) hJ hr' (by omega) (by omega)
      refine ⟨k', N3, K3, ?_, ?_, x3⟩
      · unfold qf_X10_movePersons_L37 at x1 ⊢
        rw [qloop.eq_2]
        (try dsimp only)
        rw [b1]
        exact x1
      · unfold qf_X18_leave_L49 at x2 ⊢
        rw [qloop.eq_2]
        (try dsimp only)
        rw [b2]
        exact x2
    · refine ⟨k, N, W, lv_rest h_walk h_persons h_personb h_rooms hb et n1 hL hI k0 no (d + 1) k f e (Int.le_refl k) h1, ?_, hI⟩
      unfold qf_X18_leave_L49
      rw [qloop.eq_2]
      (try dsimp only)
      unfold qf_X18_leave_L49_b
      rw [if_pos (show r < 0 by omega)]
/-- persons leave: both sides -/
theorem leave_both (h_lines : R_lines M K) (h_ends : R_ends M K) (h_doorn : R_doorn M K) (h_doors : R_doors M K) (h_spaceof : R_spaceof M K) (h_smoke : R_smoke M K) (h_walk : R_walk M K) (h_rooms : R_rooms M K) (h_persons : R_persons M K) (h_personb : R_personb M K) (h_personn : R_personn M K) (hb : M 6 11 0 ≠ 0) (hw : WLB M) (hf : FNW M Y M0 K0 A D0 D E F G H C q m q' R stt cnt) (hc : CUR M M0) (et : K 2156 2 0 = τ) (hτ : 0 ≤ τ) (ht : M 6 12 0 = τ) (h_personz : R_personz M K) : ∃ N2 K2, qf_X10_movePersons 20000 τ M = some ((), N2) ∧ qf_X18_leave 20000 K = some ((), K2) ∧ R_persons N2 K2 ∧ R_personb N2 K2 ∧ R_personz N2 K2 ∧ (∀ e x y, e ≠ 761 → e ≠ 802 → e ≠ 803 → N2 e x y = M e x y) ∧ (∀ e x y, ¬ (2306 ≤ e ∧ e ≤ 2308) → e ≠ 2310 → e ≠ 2311 → e ≠ 2330 → e ≠ 2331 → K2 e x y = K e x y) := by
  obtain ⟨n0, n1, n2⟩ := id h_personn
  have s_lines := h_lines
  unfold R_lines at s_lines
  obtain ⟨M1, c1, c2, c3⟩ := wnt_C (τ := τ) (M := M) (K := K) h_lines
  obtain ⟨K1, k1, k2, k3⟩ := wnt_K (K := K)
  have p27 : K1 2156 27 0 = M 756 7 0 := (k2 _ _ _ (by decide)).trans n2
  obtain ⟨K2, j1, j2, j3⟩ := wnt_P (K := K1) (by omega)
  have o : ∀ e x y, (e ≠ 803) → M1 e x y = M e x y := c2
  have p : ∀ e x y, (e ≠ 2330 ∧ e ≠ 2331) → K2 e x y = K e x y := fun e x y g => (j2 e x y g.2).trans (k2 e x y g.1)
  have r1 : R_lines M1 K2 := (R_lines_x (M := M) (K := K) (o 7 0 0 (by decide)) (p 2157 0 0 (by decide)) h_lines)
  have r2 : R_ends M1 K2 := (R_ends_x (M := M) (K := K) (o 7 0 0 (by decide)) (fun i j => o 8 i j (by decide)) (fun i j => p 2158 i j (by decide)) (fun i j => p 2159 i j (by decide)) (fun i j => p 2160 i j (by decide)) (fun i j => p 2161 i j (by decide)) h_ends)
  have r3 : R_doorn M1 K2 := (R_doorn_x (M := M) (K := K) (o 7 0 0 (by decide)) (fun i j => o 29 i j (by decide)) (fun i j => p 2162 i j (by decide)) h_doorn)
  have r4 : R_doors M1 K2 := (R_doors_x (M := M) (K := K) (fun i j => o 29 i j (by decide)) (fun i j => o 30 i j (by decide)) (fun i j => p 2161 i j (by decide)) (fun i j => p 2163 i j (by decide)) (fun i j => p 2164 i j (by decide)) (fun i j => p 2165 i j (by decide)) h_doors)
  have r5 : R_spaceof M1 K2 := (R_spaceof_x (M := M) (K := K) (o 6 11 0 (by decide)) (o 51 3 0 (by decide)) (fun i j => o 56 i j (by decide)) (fun i j => p 2329 i j (by decide)) h_spaceof)
  have r6 : R_smoke M1 K2 := (R_smoke_x (M := M) (K := K) (fun i j => o 757 i j (by decide)) (fun i j => p 2326 i j (by decide)) h_smoke)
  have r7 : R_walk M1 K2 := (R_walk_x (M := M) (K := K) (o 6 11 0 (by decide)) (fun i j => o 759 i j (by decide)) (fun i j => p 2328 i j (by decide)) h_walk)
  have r8 : R_rooms M1 K2 := (R_rooms_x (M := M) (K := K) (o 6 11 0 (by decide)) (o 51 3 0 (by decide)) (p 2156 9 0 (by decide)) h_rooms)
  have r9 : R_persons M1 K2 := (R_persons_x (M := M) (K := K) (o 756 7 0 (by decide)) (fun i j => o 761 i j (by decide)) (fun i j => p 2304 i j (by decide)) (fun i j => p 2305 i j (by decide)) (fun i j => p 2306 i j (by decide)) (fun i j => p 2307 i j (by decide)) (fun i j => p 2308 i j (by decide)) (fun i j => p 2309 i j (by decide)) (fun i j => p 2310 i j (by decide)) (fun i j => p 2311 i j (by decide)) h_persons)
  have r10 : R_personb M1 K2 := (R_personb_x (M := M) (K := K) (o 6 12 0 (by decide)) (fun i j => o 56 i j (by decide)) (o 756 7 0 (by decide)) (p 2156 9 0 (by decide)) (fun i j => p 2306 i j (by decide)) (fun i j => p 2307 i j (by decide)) (fun i j => p 2308 i j (by decide)) (fun i j => p 2309 i j (by decide)) (fun i j => p 2311 i j (by decide)) h_personb)
  have r11 : R_personn M1 K2 := (R_personn_x (M := M) (K := K) (o 756 7 0 (by decide)) (p 2156 27 0 (by decide)) h_personn)
  have r12 : R_personz M1 K2 := (R_personz_x (M := M) (K := K) (o 756 7 0 (by decide)) (fun i j => o 761 i j (by decide)) (fun i j => p 2310 i j (by decide)) (fun i j => p 2311 i j (by decide)) h_personz)
  have hb1 : M1 6 11 0 ≠ 0 := by
    rw [o _ _ _ (by decide)]
    exact hb
  have hw1 : WLB M1 := fun v v0 v1 => by
    rw [o _ _ _ (by decide)]
    exact hw v v0 v1
  have hf1 : FNW M1 Y M0 K0 A D0 D E F G H C q m q' R stt cnt := FNW_m hf (fun b i j g => o b i j (by omega))
  have hc1 : CUR M1 M0 := ⟨(o _ _ _ (by decide)).trans hc.1, fun l j l0 l1 => (o _ _ _ (by decide)).trans (hc.2 l j l0 l1)⟩
  have et1 : K2 2156 2 0 = τ := (p _ _ _ (by decide)).trans et
  have ht1 : M1 6 12 0 = τ := (o _ _ _ (by decide)).trans ht
  have ps1 := psC_of r11 r9 r10
  obtain ⟨n, V, l1, l2⟩ := line_C (τ := τ) ps1
  have m7 : M1 756 7 0 = M 756 7 0 := o _ _ _ (by decide)
  have q27 : K2 2156 27 0 = M 756 7 0 := (p _ _ _ (by decide)).trans n2
  have pps : PPS K2 := fun p p0 p1 pr => by
    have b := r10 p p0 (by omega)
    rw [if_neg (show ¬ K2 2306 p 0 = K2 2156 9 0 by omega)] at b
    omega
  obtain ⟨r, e3, hr⟩ := next_K pps (by omega) (by omega)
  rw [q27, ← m7] at hr
  have hV : ∀ e x y, e ≠ 802 → V e x y = M1 e x y := l2.2.2.1
  have pv := pe_keep (M := M1) (K := K2) (N := V) (W := K2) (fun e x y g => hV e x y g.1) (fun _ _ _ _ => rfl) r9 r10 r12
  have hI : LVI M1 V K2 0 V K2 := ⟨⟨pv.1, pv.2.1, ⟨fun l e a0 a1 b0 b1 => by
    rw [o _ _ _ (by decide)] at a1
    rw [hV _ _ _ (by decide), c3 l e a0 a1 b0 b1, j2 _ _ _ (by decide), k3 _ (by omega) (by omega)]
    exact ⟨rfl, Int.le_refl 0⟩, pv.2.2⟩⟩, fun _ _ _ _ => rfl, fun _ _ _ _ => rfl, fun j a b => by omega, fun q q0 q1 _ => ⟨j3 q q0 (by omega), rfl, rfl, rfl, rfl⟩⟩
  have n40 : n ≤ 40 := by
    have := l2.2.1
    omega
  have nn := l2.1
  obtain ⟨k', N3, K3, x1, x2, x3⟩ := lv_run (τ := τ) r1 r2 r3 r4 r5 r6 r7 r8 r9 r10 r11 hb1 hw1 hf1 hc1 et1 hτ (by omega) l2 n.toNat 0 r 20000 20000 V K2 (by omega) (Int.le_refl 0) hI hr (by omega) (by omega)
  refine ⟨N3, K3, ?_, ?_, x3.1.1, x3.1.2.1, x3.1.2.2.2, fun e x y g1 g2 g3 => (x3.2.1 e x y ⟨g1, g3⟩).trans ((hV e x y g2).trans (o e x y g3)), fun e x y g1 g2 g3 g4 g5 => (x3.2.2.1 e x y ⟨g1, g2, g3, g4, g5⟩).trans (p e x y ⟨g4, g5⟩)⟩
  · unfold qf_X10_movePersons
    rw [c1, Option.bind_some]
    (try dsimp only)
    rw [l1, Option.bind_some]
    (try dsimp only)
    rw [x1, Option.bind_some]
  · unfold qf_X18_leave
    rw [k1, Option.bind_some]
    (try dsimp only)
    rw [j1, Option.bind_some]
    (try dsimp only)
    rw [e3, Option.bind_some]
    (try dsimp only)
    rw [x2, Option.bind_some]
end PSv
