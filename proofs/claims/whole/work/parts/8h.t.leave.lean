/-! ===== passing: both sides when some have gone ===== -/
section PSt
variable {M K N V W N' W' : qm} {a c d e i j k l n m p q r s t u v x y z τ P : Int}
/-- when k of the turns have gone -/
def LVI (M V K : qm) (k : Int) (N W : qm) : Prop := (R_persons N W ∧ R_personb N W ∧ WNT (M 7 0 0) N W ∧ R_personz N W) ∧ (∀ e x y, (e ≠ 761 ∧ e ≠ 803) → N e x y = V e x y) ∧ (∀ e x y, (¬ (2306 ≤ e ∧ e ≤ 2308) ∧ e ≠ 2310 ∧ e ≠ 2311 ∧ e ≠ 2330 ∧ e ≠ 2331) → W e x y = K e x y) ∧ (∀ j, 0 ≤ j → j < k → W 2331 (V 802 j 0) 0 = 1) ∧ ∀ q, 0 ≤ q → q < M 756 7 0 → (∀ j, 0 ≤ j → j < k → V 802 j 0 ≠ q) → W 2331 q 0 = 0 ∧ W 2306 q 0 = K 2306 q 0 ∧ W 2307 q 0 = K 2307 q 0 ∧ W 2308 q 0 = K 2308 q 0 ∧ W 2311 q 0 = K 2311 q 0
theorem pe_keep (o : ∀ e x y, (e ≠ 802 ∧ e ≠ 803) → N e x y = M e x y) (p : ∀ e x y, (e ≠ 2330 ∧ e ≠ 2331) → W e x y = K e x y) (h_persons : R_persons M K) (h_personb : R_personb M K) (h_personz : R_personz M K) : R_persons N W ∧ R_personb N W ∧ R_personz N W := ⟨(R_persons_x (M := M) (K := K) (o 756 7 0 (by decide)) (fun i j => o 761 i j (by decide)) (fun i j => p 2304 i j (by decide)) (fun i j => p 2305 i j (by decide)) (fun i j => p 2306 i j (by decide)) (fun i j => p 2307 i j (by decide)) (fun i j => p 2308 i j (by decide)) (fun i j => p 2309 i j (by decide)) (fun i j => p 2310 i j (by decide)) (fun i j => p 2311 i j (by decide)) h_persons), (R_personb_x (M := M) (K := K) (o 6 12 0 (by decide)) (fun i j => o 56 i j (by decide)) (o 756 7 0 (by decide)) (p 2156 9 0 (by decide)) (fun i j => p 2306 i j (by decide)) (fun i j => p 2307 i j (by decide)) (fun i j => p 2308 i j (by decide)) (fun i j => p 2309 i j (by decide)) (fun i j => p 2311 i j (by decide)) h_personb), (R_personz_x (M := M) (K := K) (o 756 7 0 (by decide)) (fun i j => o 761 i j (by decide)) (fun i j => p 2310 i j (by decide)) (fun i j => p 2311 i j (by decide)) h_personz)⟩
theorem lv_rel (p : ∀ e x y, (¬ (2306 ≤ e ∧ e ≤ 2308) ∧ e ≠ 2310 ∧ e ≠ 2311 ∧ e ≠ 2330 ∧ e ≠ 2331) → W e x y = K e x y) (h_lines : R_lines M K) (h_ends : R_ends M K) (h_doorn : R_doorn M K) (h_doors : R_doors M K) (h_spaceof : R_spaceof M K) (h_smoke : R_smoke M K) (h_walk : R_walk M K) (h_rooms : R_rooms M K) : R_lines M W ∧ R_ends M W ∧ R_doorn M W ∧ R_doors M W ∧ R_spaceof M W ∧ R_smoke M W ∧ R_walk M W ∧ R_rooms M W := by
  have o : ∀ e x y, (1 = 1) → M e x y = M e x y := fun _ _ _ _ => rfl
  exact ⟨(R_lines_x (M := M) (K := K) (o 7 0 0 (by decide)) (p 2157 0 0 (by decide)) h_lines), (R_ends_x (M := M) (K := K) (o 7 0 0 (by decide)) (fun i j => o 8 i j (by decide)) (fun i j => p 2158 i j (by decide)) (fun i j => p 2159 i j (by decide)) (fun i j => p 2160 i j (by decide)) (fun i j => p 2161 i j (by decide)) h_ends), (R_doorn_x (M := M) (K := K) (o 7 0 0 (by decide)) (fun i j => o 29 i j (by decide)) (fun i j => p 2162 i j (by decide)) h_doorn), (R_doors_x (M := M) (K := K) (fun i j => o 29 i j (by decide)) (fun i j => o 30 i j (by decide)) (fun i j => p 2161 i j (by decide)) (fun i j => p 2163 i j (by decide)) (fun i j => p 2164 i j (by decide)) (fun i j => p 2165 i j (by decide)) h_doors), (R_spaceof_x (M := M) (K := K) (o 6 11 0 (by decide)) (o 51 3 0 (by decide)) (fun i j => o 56 i j (by decide)) (fun i j => p 2329 i j (by decide)) h_spaceof), (R_smoke_x (M := M) (K := K) (fun i j => o 757 i j (by decide)) (fun i j => p 2326 i j (by decide)) h_smoke), (R_walk_x (M := M) (K := K) (o 6 11 0 (by decide)) (fun i j => o 759 i j (by decide)) (fun i j => p 2328 i j (by decide)) h_walk), (R_rooms_x (M := M) (K := K) (o 6 11 0 (by decide)) (o 51 3 0 (by decide)) (p 2156 9 0 (by decide)) h_rooms)⟩
/-- what a turn is worth -/
theorem urg_two (h_persons : R_persons M K) (h_personb : R_personb M K) (h_rooms : R_rooms M K) (h_walk : R_walk M K) (hb : M 6 11 0 ≠ 0) (hw : WLB M) (p0 : 0 ≤ p) (p1 : p < M 756 7 0) (et : K 2156 2 0 = τ) (hg : GOE M τ p) : (NBR K p = 0 ∧ URG M p = 2147483647 ∧ M 759 (24 * K 2307 p 0 + K 2308 p 0) 0 = -1) ∨ (0 < NBR K p ∧ URG M p = NBR K p ∧ NBR K p ≤ 577) := by
  obtain ⟨_, m⟩ := may_both h_persons h_personb h_rooms hb p0 p1 et
  have q := m hg
  have w := h_walk (K 2307 p 0) (K 2308 p 0) q.1 q.2.1 q.2.2.1 q.2.2.2.1 hb
  have b := hw (24 * K 2307 p 0 + K 2308 p 0) (by omega) (by omega)
  unfold NBR URG
  rw [q.2.2.2.2.1, q.2.2.2.2.2]
  rcases w with ⟨w1, w2⟩ | ⟨w1, w2⟩
  · rw [if_pos w2]
    exact Or.inl ⟨w1, rfl, w2⟩
  · rw [if_neg (by omega)]
    exact Or.inr ⟨w1, w2, by omega⟩
theorem lv_mgo (h : LVI M V K k N W) (q0 : 0 ≤ q) (q1 : q < M 756 7 0) (hq : ∀ j, 0 ≤ j → j < k → V 802 j 0 ≠ q) : NBR W q = NBR K q ∧ (MAY W q ↔ MAY K q) ∧ (MGO W q ↔ MAY K q ∧ 0 < NBR K q) := by
  obtain ⟨_, _, f, _, g⟩ := h
  obtain ⟨a1, a2, a3, a4, a5⟩ := g q q0 q1 hq
  have eN : NBR W q = NBR K q := by
    unfold NBR
    rw [a3, a4, f 2328 _ 0 (by decide)]
  have eM : MAY W q ↔ MAY K q := by
    unfold MAY
    rw [a2, a5, f 2156 9 0 (by decide), f 2156 2 0 (by decide), f 2309 q 0 (by decide), f 2305 q 0 (by decide)]
  refine ⟨eN, eM, ?_⟩
  unfold MGO
  rw [a1, eN, eM]
  exact ⟨fun w => w.2, fun w => ⟨rfl, w⟩⟩
theorem lin_ne (h : LIN M V τ P n) (j0 : 0 ≤ j) (jk : j < k) (kn : k < n) : V 802 j 0 ≠ V 802 k 0 := by
  intro e
  have b := h.2.2.2.2.2 j k j0 jk kn
  unfold BEF at b
  rw [e] at b
  omega
theorem lv_next (h_persons : R_persons M K) (h_personb : R_personb M K) (h_rooms : R_rooms M K) (h_walk : R_walk M K) (hb : M 6 11 0 ≠ 0) (hw : WLB M) (et : K 2156 2 0 = τ) (hL : LIN M V τ (M 756 7 0) n) (h : LVI M V K k N W) (k0 : 0 ≤ k) (hr : NXG W (M 756 7 0) r) : (k < n ∧ 0 < NBR K (V 802 k 0) ∧ r = V 802 k 0) ∨ (r = -1 ∧ ∀ j, k ≤ j → j < n → NBR K (V 802 j 0) = 0 ∧ M 759 (24 * K 2307 (V 802 j 0) 0 + K 2308 (V 802 j 0) 0) 0 = -1) := by
  have ur : ∀ j, 0 ≤ j → j < n → (NBR K (V 802 j 0) = 0 ∧ URG M (V 802 j 0) = 2147483647 ∧ M 759 (24 * K 2307 (V 802 j 0) 0 + K 2308 (V 802 j 0) 0) 0 = -1) ∨ (0 < NBR K (V 802 j 0) ∧ URG M (V 802 j 0) = NBR K (V 802 j 0) ∧ NBR K (V 802 j 0) ≤ 577) := fun j j0 j1 => by
    have z := hL.2.2.2.1 j j0 j1
    exact urg_two h_persons h_personb h_rooms h_walk hb hw z.1 z.2.1 et z.2.2
  have mg : ∀ j, k ≤ j → j < n → NBR W (V 802 j 0) = NBR K (V 802 j 0) ∧ (0 < NBR K (V 802 j 0) → MGO W (V 802 j 0)) := fun j j0 j1 => by
    have z := hL.2.2.2.1 j (by omega) j1
    have y := lv_mgo h z.1 z.2.1 (fun i i0 i1 => lin_ne hL i0 (by omega) j1)
    exact ⟨y.1, fun w => y.2.2.mpr ⟨(may_both h_persons h_personb h_rooms hb z.1 z.2.1 et).1.mp z.2.2, w⟩⟩
  have no : (∀ p, 0 ≤ p → p < M 756 7 0 → ¬ MGO W p) → ∀ j, k ≤ j → j < n → NBR K (V 802 j 0) = 0 ∧ M 759 (24 * K 2307 (V 802 j 0) 0 + K 2308 (V 802 j 0) 0) 0 = -1 := fun hn j j0 j1 => by
    have z := hL.2.2.2.1 j (by omega) j1
    rcases ur j (by omega) j1 with u | u
    · exact ⟨u.1, u.2.2⟩
    · exact absurd ((mg j j0 j1).2 u.1) (hn _ z.1 z.2.1)
  rcases hr with ⟨e, hn⟩ | ⟨r0, r1, rg, rm⟩
  · exact Or.inr ⟨e, no hn⟩
  · have ng : ∀ j, 0 ≤ j → j < k → V 802 j 0 ≠ r := fun j j0 j1 e => by
      have z := h.2.2.2.1 j j0 j1
      rw [e] at z
      have y := rg.1
      omega
    have rw' := lv_mgo h r0 r1 ng
    have rk := rw'.2.2.mp rg
    have rgo := (may_both h_persons h_personb h_rooms hb r0 r1 et).1.mpr rk.1
    obtain ⟨j, j0, j1, ej⟩ := hL.2.2.2.2.1 r r0 r1 rgo
    have kj : k ≤ j := Classical.byContradiction (fun z => ng j j0 (by omega) ej)
    have uj := ur j j0 j1
    rw [ej] at uj
    have rk2 := rk.2
    have uj' : URG M r = NBR K r ∧ NBR K r ≤ 577 := by
      rcases uj with u | u
      · exact absurd u.1 (by omega)
      · exact u.2
    have uk := ur k k0 (by omega)
    refine Or.inl ⟨by omega, ?_, ?_⟩
    · rcases uk with u | u
      · by_cases e : k = j
        · rw [e, ej]
          exact rk2
        · have b := hL.2.2.2.2.2 k j k0 (by omega) j1
          unfold BEF at b
          rw [ej] at b
          omega
      · exact u.1
    · by_cases e : k = j
      · rw [e, ej]
      · have b := hL.2.2.2.2.2 k j k0 (by omega) j1
        unfold BEF at b
        rw [ej] at b
        have zk := hL.2.2.2.1 k k0 (by omega)
        have m1 := mg k (Int.le_refl k) (by omega)
        rcases uk with u | u
        · omega
        · have y := rm _ zk.1 zk.2.1 (m1.2 u.1)
          rw [m1.1, rw'.1] at y
          omega
end PSt
