/-! ===== the class numbers the cells ===== -/
section VD
variable {M K N A B C D D0 E F G H T V W K0 M0 : qm} {a b c d k n m p r q' s t u v x y h i j R S w l z hd e : Int} {q stt cnt o f : Int → Int} {P : Int → Prop}
theorem ins_e (hN : SAM M N) : qf_X10_isInSpace 20000 c N = some (b01 (INS M c)) := by
  refine qW_e ?_
  unfold qf_X10_isInSpace
  by_cases g : c < 0
  · rw [if_pos g, b01_f (fun z => by have := z.1; omega)]
    exact qW_some rfl
  · rw [if_neg g]
    by_cases g2 : 576 ≤ c
    · rw [if_pos g2, b01_f (fun z => by have := z.2.1; omega)]
      exact qW_some rfl
    · have e : N 56 c 0 = oF M c := hN _ _ _ (by decide) (by decide)
      rw [if_neg g2, if_pos (by omega)]
      by_cases g3 : N 56 c 0 = -1
      · rw [if_pos g3, b01_f (fun z => z.2.2 (e.symm.trans g3))]
        exact qW_some rfl
      · rw [if_neg g3, b01_t ⟨by omega, by omega, fun z => g3 (e.trans z)⟩]
        exact qW_some rfl
theorem beside_e (h_lines : R_lines M K) (h_ends : R_ends M K) (h_doorn : R_doorn M K) (h_doors : R_doors M K) (h : FNW M K M0 K0 A D0 D E F G H C q m p R stt cnt) (hc : CUR M M0) (hN : SAM M N) (c0 : 0 ≤ c) (c1 : c < 576) : qf_X10_isBesideOutside 20000 c N = some (b01 (∃ d, 0 ≤ d ∧ d ≤ 3 ∧ ¬ INS M (cb c d) ∧ GOC M c d)) := by
  refine qW_e ?_
  unfold qf_X10_isBesideOutside
  refine qW_call (Q := fun o => (o = .inl 1 ∧ ∃ d, 0 ≤ d ∧ d ≤ 3 ∧ ¬ INS M (cb c d) ∧ GOC M c d) ∨ (o = .inr () ∧ ¬ ∃ d, 0 ≤ d ∧ d ≤ 3 ∧ ¬ INS M (cb c d) ∧ GOC M c d)) ?_ ?_
  · unfold qf_X10_isBesideOutside_L2
    refine qW_for 4 (fun d u => u = (c, d) ∧ ∀ k, 0 ≤ k → k < d → ¬ (¬ INS M (cb c k) ∧ GOC M c k)) ?_ ?_ ⟨rfl, fun k a b => by omega⟩ (by decide) (by decide)
    · rintro d _ d0 d1 ⟨rfl, hd⟩
      unfold qf_X10_isBesideOutside_L2_b
      (try dsimp only)
      rw [if_neg (by omega), w32_id (x := d + 1) (by omega) (by omega)]
      refine qW_eq (cb_e c0 c1 d0 (by omega)) ?_
      refine qW_eq (ins_e hN) ?_
      have nxt : ¬ (¬ INS M (cb c d) ∧ GOC M c d) → ∀ k, 0 ≤ k → k < d + 1 → ¬ (¬ INS M (cb c k) ∧ GOC M c k) := fun z k k0 k1 => by
        by_cases e : k = d
        · rw [e]
          exact z
        · exact hd k k0 (by omega)
      by_cases g : INS M (cb c d)
      · rw [b01_t g, if_neg (by decide)]
        exact qW_some ⟨rfl, nxt (fun z => z.1 g)⟩
      · rw [b01_f g, if_pos rfl]
        refine qW_eq (canGo_e h_lines h_ends h_doorn h_doors h hc hN c0 c1 d0 (by omega)) ?_
        by_cases g2 : GOC M c d
        · rw [b01_t g2, if_neg (by decide)]
          exact qW_some (Or.inl ⟨rfl, d, d0, by omega, g, g2⟩)
        · rw [b01_f g2, if_pos rfl]
          exact qW_some ⟨rfl, nxt (fun z => g2 z.2)⟩
    · rintro _ ⟨rfl, hd⟩
      unfold qf_X10_isBesideOutside_L2_b
      (try dsimp only)
      rw [if_pos (by decide)]
      refine qW_some (Or.inr ⟨rfl, ?_⟩)
      rintro ⟨d, d0, d1, z⟩
      exact hd d d0 (by omega) z
  · rintro _ (⟨rfl, z⟩ | ⟨rfl, z⟩)
    · rw [b01_t z]
      exact qW_some rfl
    · rw [b01_f z]
      exact qW_some rfl
theorem bqi_c {w w' q q' : Int → Int} (h : BQI M w q n hd e) (h1 : ∀ x, w' x = w x) (h2 : ∀ x, q' x = q x) : BQI M w' q' n hd e := by
  rw [show w' = w from funext h1, show q' = q from funext h2]
  exact h
/-- those at the outside -/
theorem first_C (h_lines : R_lines M K) (h_ends : R_ends M K) (h_doorn : R_doorn M K) (h_doors : R_doors M K) (h : FNW M K M0 K0 A D0 D E F G H C q m p R stt cnt) (hc : CUR M M0) : qW (qf_X10_numberCells_L4 20000 20000 0 0 M) (fun o => ∃ n N, o = .inr (n, N) ∧ SAM M N ∧ BQI M (fun v => (N 759 v 0)) (fun j => (N 760 j 0)) n 0 0) := by
  have st : ∀ c, 0 ≤ c → c < 576 → (CEG M (-1) c ↔ INS M c ∧ ∃ d, 0 ≤ d ∧ d ≤ 3 ∧ ¬ INS M (cb c d) ∧ GOC M c d) := fun c c0 c1 => ⟨fun z => ⟨z.1, by
    rcases z.2 with ⟨_, y⟩ | ⟨y, _⟩
    · exact y
    · have := y.1
      omega⟩, fun z => ⟨z.1, Or.inl ⟨rfl, z.2⟩⟩⟩
  unfold qf_X10_numberCells_L4
  refine qW_for 576 (fun c u => ∃ n N, u = (n, c, N) ∧ SAM M N ∧ (∀ v, 0 ≤ v → v < c → (CEG M (-1) v ∧ (N 759 v 0) = 1) ∨ (¬ CEG M (-1) v ∧ (N 759 v 0) = -1)) ∧ (0 ≤ n ∧ n ≤ c) ∧ (∀ j, 0 ≤ j → j < n → 0 ≤ (N 760 j 0) ∧ (N 760 j 0) < c ∧ CEG M (-1) (N 760 j 0)) ∧ (∀ i j, 0 ≤ i → i < j → j < n → (N 760 i 0) < (N 760 j 0)) ∧ ∀ v, 0 ≤ v → v < c → CEG M (-1) v → ∃ j, 0 ≤ j ∧ j < n ∧ (N 760 j 0) = v) ?_ ?_ ⟨0, M, rfl, fun _ _ _ _ _ => rfl, fun v a b => by omega, by decide, fun j a b => by omega, fun i j a b c => by omega, fun v a b => by omega⟩ (by decide) (by decide)
  · rintro c _ c0 c1 ⟨n, N, rfl, hN, hw, hn, hq, hm, hv⟩
    unfold qf_X10_numberCells_L4_b
    (try dsimp only)
    rw [if_neg (by omega), if_pos (by omega), w32_id (x := c + 1) (by omega) (by omega)]
    refine qW_bnd ?_
    have s1 : SAM M (qw N 759 c 0 (-1)) := fun b i j b1 b2 => (qw_a b1).trans (hN b i j b1 b2)
    refine qW_eq (ins_e s1) ?_
    have skip : ¬ CEG M (-1) c → ∃ n' N', (n, c + 1, qw N 759 c 0 (-1)) = (n', c + 1, N') ∧ SAM M N' ∧ (∀ v, 0 ≤ v → v < c + 1 → (CEG M (-1) v ∧ (N' 759 v 0) = 1) ∨ (¬ CEG M (-1) v ∧ (N' 759 v 0) = -1)) ∧ (0 ≤ n' ∧ n' ≤ c + 1) ∧ (∀ j, 0 ≤ j → j < n' → 0 ≤ (N' 760 j 0) ∧ (N' 760 j 0) < c + 1 ∧ CEG M (-1) (N' 760 j 0)) ∧ (∀ i j, 0 ≤ i → i < j → j < n' → (N' 760 i 0) < (N' 760 j 0)) ∧ ∀ v, 0 ≤ v → v < c + 1 → CEG M (-1) v → ∃ j, 0 ≤ j ∧ j < n' ∧ (N' 760 j 0) = v := fun ns => by
      have eq : ∀ j, qw N 759 c 0 (-1) 760 j 0 = (N 760 j 0) := fun j => qw_a (by decide)
      refine ⟨n, _, rfl, s1, fun v v0 v1 => ?_, ⟨hn.1, by omega⟩, fun j j0 j1 => ?_, fun i j i0 ij jn => ?_, fun v v0 v1 hs => ?_⟩
      · rw [qw_ap]
        by_cases g : v = c
        · rw [if_pos ⟨rfl, g, rfl⟩, g]
          exact Or.inr ⟨ns, rfl⟩
        · rw [if_neg (by omega)]
          exact hw v v0 (by omega)
      · rw [eq]
        have := hq j j0 j1
        exact ⟨this.1, by omega, this.2.2⟩
      · rw [eq, eq]
        exact hm i j i0 ij jn
      · have vc : v ≠ c := fun z => ns (by rw [← z]; exact hs)
        obtain ⟨j, j0, j1, ej⟩ := hv v v0 (by omega) hs
        exact ⟨j, j0, j1, by rw [eq]; exact ej⟩
    by_cases g : INS M c
    · rw [b01_t g, if_neg (by decide)]
      refine qW_eq (beside_e h_lines h_ends h_doorn h_doors h hc s1 c0 c1) ?_
      by_cases g2 : ∃ d, 0 ≤ d ∧ d ≤ 3 ∧ ¬ INS M (cb c d) ∧ GOC M c d
      · have sc : CEG M (-1) c := (st c c0 c1).mpr ⟨g, g2⟩
        rw [b01_t g2, if_neg (by decide), if_pos (by omega)]
        refine qW_bnd ?_
        rw [if_pos (by omega), w32_id (x := n + 1) (by omega) (by omega)]
        refine qW_bnd (qW_some ?_)
        have ew : ∀ v, qw (qw (qw N 759 c 0 (-1)) 759 c 0 1) 760 n 0 c 759 v 0 = if v = c then 1 else (N 759 v 0) := fun v => by
          rw [qw_a (by decide), qw_ap, qw_ap]
          by_cases g : v = c
          · rw [if_pos ⟨rfl, g, rfl⟩, if_pos g]
          · rw [if_neg (by omega), if_neg (by omega), if_neg g]
        have eq : ∀ j, qw (qw (qw N 759 c 0 (-1)) 759 c 0 1) 760 n 0 c 760 j 0 = if j = n then c else (N 760 j 0) := fun j => by
          rw [qw_ap, qw_a (by decide), qw_a (by decide)]
          by_cases g : j = n
          · rw [if_pos ⟨rfl, g, rfl⟩, if_pos g]
          · rw [if_neg (by omega), if_neg g]
        refine ⟨n + 1, _, rfl, fun b i j b1 b2 => ?_, fun v v0 v1 => ?_, ⟨by omega, by omega⟩, fun j j0 j1 => ?_, fun i j i0 ij jn => ?_, fun v v0 v1 hs => ?_⟩
        · rw [qw_a b2, qw_a b1, qw_a b1]
          exact hN b i j b1 b2
        · rw [ew]
          by_cases gv : v = c
          · rw [if_pos gv, gv]
            exact Or.inl ⟨sc, rfl⟩
          · rw [if_neg gv]
            exact hw v v0 (by omega)
        · rw [eq]
          by_cases gj : j = n
          · rw [if_pos gj]
            exact ⟨c0, by omega, sc⟩
          · rw [if_neg gj]
            have := hq j j0 (by omega)
            exact ⟨this.1, by omega, this.2.2⟩
        · rw [eq, eq, if_neg (by omega : ¬ i = n)]
          by_cases gj : j = n
          · rw [if_pos gj]
            exact (hq i i0 (by omega)).2.1
          · rw [if_neg gj]
            exact hm i j i0 ij (by omega)
        · by_cases gv : v = c
          · exact ⟨n, by omega, by omega, by rw [eq, if_pos rfl]; exact gv.symm⟩
          · obtain ⟨j, j0, j1, ej⟩ := hv v v0 (by omega) hs
            exact ⟨j, j0, by omega, by rw [eq, if_neg (by omega)]; exact ej⟩
      · rw [b01_f g2, if_pos rfl]
        exact qW_some (skip (fun z => g2 ((st c c0 c1).mp z).2))
    · rw [b01_f g, if_pos rfl]
      exact qW_some (skip (fun z => g z.1))
  · rintro _ ⟨n, N, rfl, hN, hw, hn, hq, hm, hv⟩
    unfold qf_X10_numberCells_L4_b
    (try dsimp only)
    rw [if_pos (by decide)]
    have one : ∀ j, 0 ≤ j → j < n → (N 759 (N 760 j 0) 0) = 1 := fun j j0 j1 => by
      have z := hq j j0 j1
      rcases hw _ z.1 z.2.1 with y | y
      · exact y.2
      · exact absurd z.2.2 y.1
    refine qW_some ⟨n, N, rfl, hN, fun v v0 v1 => ?_, ⟨hn.1, hn.2, fun j j0 j1 => ?_⟩, fun i j i0 ij jn => ?_, fun v v0 v1 hx => ?_, fun j j0 j1 => ?_, fun j d j0 j1 d0 d1 hj => by omega, fun v hs => ?_⟩
    · (try dsimp only)
      rcases hw v v0 v1 with y | y
      · rw [y.2]
        exact Or.inr ⟨by decide, ceg_1 y.1⟩
      · exact Or.inl y.2
    · have z := hq j j0 j1
      have y := one j j0 j1
      exact ⟨z.1, z.2.1, by (try dsimp only); omega, by (try dsimp only); omega⟩
    · have z := hm i j i0 ij jn
      have y1 := one i i0 (by omega)
      have y2 := one j (by omega) jn
      exact ⟨by (try dsimp only); omega, by (try dsimp only); omega⟩
    · rcases hw v v0 v1 with y | y
      · exact hv v v0 v1 y.1
      · exact absurd y.2 hx
    · have y1 := one j j0 j1
      have y2 := one 0 (by decide) (by omega)
      (try dsimp only)
      omega
    · rcases hw v hs.1.1 hs.1.2.1 with y | y
      · (try dsimp only)
        omega
      · exact absurd hs y.1
end VD
