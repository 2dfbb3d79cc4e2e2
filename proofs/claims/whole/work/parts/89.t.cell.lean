/-! ===== the reference numbers the cells ===== -/
section VF
variable {M K N A B C D D0 E F G H T V W K0 M0 : qm} {a b c d k n m p r q' s t u v x y h i j R S w l z hd e : Int} {q stt cnt o f : Int → Int} {P : Int → Prop}
def swp (i : Int) : Int := 24 * (i % 24) + i / 24
theorem swp_b (i0 : 0 ≤ i) (i1 : i < 576) : 0 ≤ swp i ∧ swp i < 576 ∧ swp (swp i) = i ∧ swp i / 24 = i % 24 ∧ swp i % 24 = i / 24 := by
  unfold swp
  omega
/-- the spaces, as the reference keeps them -/
def SPO (M K : qm) : Prop := ∀ c, 0 ≤ c → c < 576 → (K 2329 (swp c) 0) = oF M c
def NUF (K N : qm) : Prop := ∀ b i j, b ≠ 2328 → N b i j = K b i j
theorem isCell_e : qf_X18_isCell 20000 x y N = some (b01 (0 ≤ x ∧ x < 24 ∧ 0 ≤ y ∧ y < 24)) := by
  refine qW_e ?_
  unfold qf_X18_isCell
  refine qW_eq isIn_e ?_
  rcases b01_o (p := 0 ≤ x ∧ x < 24) with ⟨e, z⟩ | ⟨e, z⟩
  · rw [e, if_neg (by decide)]
    refine qW_eq isIn_e ?_
    rcases b01_o (p := 0 ≤ y ∧ y < 24) with ⟨e2, z2⟩ | ⟨e2, z2⟩
    · rw [e2, if_neg (by decide), b01_t (by omega)]
      exact qW_some rfl
    · rw [e2, if_pos rfl, b01_f (by omega)]
      exact qW_some rfl
  · rw [e, if_pos rfl, b01_f (by omega)]
    exact qW_some rfl
theorem outs_e (hS : SPO M K) (hO : ∀ v, 0 ≤ v → v < 576 → -1 ≤ oF M v) (hN : NUF K N) : qf_X18_isOutside 20000 x y N = some (b01 (¬ (0 ≤ x ∧ x < 24 ∧ 0 ≤ y ∧ y < 24 ∧ INS M (24 * x + y)))) := by
  refine qW_e ?_
  unfold qf_X18_isOutside
  refine qW_eq isCell_e ?_
  rcases b01_o (p := 0 ≤ x ∧ x < 24 ∧ 0 ≤ y ∧ y < 24) with ⟨e, z⟩ | ⟨e, z⟩
  · have hs := hS (24 * x + y) (by omega) (by omega)
    have ho := hO (24 * x + y) (by omega) (by omega)
    have es : swp (24 * x + y) = 24 * y + x := by
      unfold swp
      omega
    rw [es] at hs
    have en : (N 2329 (24 * y + x) 0) = oF M (24 * x + y) := (hN _ _ _ (by decide)).trans hs
    rw [e, if_neg (by decide), w32_id (x := 24 * y) (by omega) (by omega), w32_id (x := 24 * y + x) (by omega) (by omega), if_pos (by omega)]
    by_cases g : 0 ≤ (N 2329 (24 * y + x) 0)
    · rw [if_pos g, b01_f (fun w => w ⟨z.1, z.2.1, z.2.2.1, z.2.2.2, by omega, by omega, by omega⟩)]
      exact qW_some rfl
    · rw [if_neg g, b01_t (fun w => w.2.2.2.2.2.2 (by omega))]
      exact qW_some rfl
  · rw [e, if_pos rfl, b01_t (fun w => z ⟨w.1, w.2.1, w.2.2.1, w.2.2.2.1⟩)]
    exact qW_some rfl
/-- at the cell c, and beside it -/
theorem outs_c (hS : SPO M K) (hO : ∀ v, 0 ≤ v → v < 576 → -1 ≤ oF M v) (hN : NUF K N) (c0 : 0 ≤ c) (c1 : c < 576) (d0 : 0 ≤ d) (d1 : d ≤ 3) : qf_X18_isOutside 20000 (c / 24) (c % 24) N = some (b01 (¬ INS M c)) ∧ ∃ X Y, qf_X18_nextX 20000 (c / 24) d N = some X ∧ qf_X18_nextY 20000 (c % 24) d N = some Y ∧ qf_X18_isOutside 20000 X Y N = some (b01 (¬ INS M (cb c d))) ∧ (INS M (cb c d) → 0 ≤ X ∧ X < 24 ∧ 0 ≤ Y ∧ Y < 24 ∧ 24 * Y + X = swp (cb c d)) := by
  have ec : 24 * (c / 24) + c % 24 = c := by omega
  refine ⟨?_, ?_⟩
  · rw [outs_e hS hO hN, ec]
    congr 1
    exact b01_c ⟨fun z y => z ⟨by omega, by omega, by omega, by omega, y⟩, fun z y => z y.2.2.2.2⟩
  · have key : ∀ X Y, (0 ≤ X ∧ X < 24 ∧ 0 ≤ Y ∧ Y < 24 ∧ cb c d = 24 * X + Y) ∨ (¬ (0 ≤ X ∧ X < 24 ∧ 0 ≤ Y ∧ Y < 24) ∧ cb c d = -1) → qf_X18_isOutside 20000 X Y N = some (b01 (¬ INS M (cb c d))) ∧ (INS M (cb c d) → 0 ≤ X ∧ X < 24 ∧ 0 ≤ Y ∧ Y < 24 ∧ 24 * Y + X = swp (cb c d)) := by
      intro X Y hk
      rcases hk with ⟨a1, a2, a3, a4, e⟩ | ⟨no, e⟩
      · rw [outs_e hS hO hN, e]
        refine ⟨?_, fun _ => ⟨a1, a2, a3, a4, by unfold swp; omega⟩⟩
        congr 1
        exact b01_c ⟨fun z y => z ⟨a1, a2, a3, a4, y⟩, fun z y => z y.2.2.2.2⟩
      · rw [outs_e hS hO hN, e]
        refine ⟨?_, fun z => by have := z.1; omega⟩
        congr 1
        exact b01_c ⟨fun _ y => by have := y.1; omega, fun _ y => no ⟨y.1, y.2.1, y.2.2.1, y.2.2.2.1⟩⟩
    unfold qf_X18_nextX qf_X18_nextY
    rw [w32_id (x := c / 24 + 1) (by omega) (by omega), w32_id (x := c / 24 - 1) (by omega) (by omega), w32_id (x := c / 24 + 0) (by omega) (by omega), w32_id (x := c % 24 + 1) (by omega) (by omega), w32_id (x := c % 24 - 1) (by omega) (by omega), w32_id (x := c % 24 + 0) (by omega) (by omega), Int.add_zero, Int.add_zero]
    rcases (by omega : d = 0 ∨ d = 1 ∨ d = 2 ∨ d = 3) with rfl | rfl | rfl | rfl
    · refine ⟨c / 24 + 1, c % 24, rfl, rfl, key _ _ ?_⟩
      have e : cb c 0 = if 23 ≤ c / 24 then -1 else c + 24 := rfl
      rw [e]
      by_cases g : 23 ≤ c / 24
      · rw [if_pos g]
        exact Or.inr ⟨by omega, rfl⟩
      · rw [if_neg g]
        exact Or.inl (by omega)
    · refine ⟨c / 24 - 1, c % 24, rfl, rfl, key _ _ ?_⟩
      have e : cb c 1 = if c / 24 ≤ 0 then -1 else c - 24 := rfl
      rw [e]
      by_cases g : c / 24 ≤ 0
      · rw [if_pos g]
        exact Or.inr ⟨by omega, rfl⟩
      · rw [if_neg g]
        exact Or.inl (by omega)
    · refine ⟨c / 24, c % 24 + 1, rfl, rfl, key _ _ ?_⟩
      have e : cb c 2 = if 23 ≤ c % 24 then -1 else c + 1 := rfl
      rw [e]
      by_cases g : 23 ≤ c % 24
      · rw [if_pos g]
        exact Or.inr ⟨by omega, rfl⟩
      · rw [if_neg g]
        exact Or.inl (by omega)
    · refine ⟨c / 24, c % 24 - 1, rfl, rfl, key _ _ ?_⟩
      have e : cb c 3 = if c % 24 ≤ 0 then -1 else c - 1 := rfl
      rw [e]
      by_cases g : c % 24 ≤ 0
      · rw [if_pos g]
        exact Or.inr ⟨by omega, rfl⟩
      · rw [if_neg g]
        exact Or.inl (by omega)
/-- what the plan of the reference says -/
def PAS (M K : qm) : Prop := ∀ N c d, NUF K N → 0 ≤ c → c < 576 → 0 ≤ d → d ≤ 3 → qf_X18_passes 20000 (c / 24) (c % 24) d N = some (b01 (GOC M c d))
theorem pas_k (h_lines : R_lines M K) (h_ends : R_ends M K) (h_doorn : R_doorn M K) (h_doors : R_doors M K) (h : FNW M K M0 K0 A D0 D E F G H C q m p R stt cnt) (hc : CUR M M0) : PAS M K := by
  intro N c d hN c0 c1 d0 d1
  have cl := hc.1
  have r1 : R_lines M N := R_lines_x rfl (hN _ _ _ (by decide)) h_lines
  have r2 : R_ends M N := R_ends_x rfl (fun _ _ => rfl) (fun i j => hN _ _ _ (by decide)) (fun i j => hN _ _ _ (by decide)) (fun i j => hN _ _ _ (by decide)) (fun i j => hN _ _ _ (by decide)) h_ends
  have r3 : R_doorn M N := R_doorn_x rfl (fun _ _ => rfl) (fun i j => hN _ _ _ (by decide)) h_doorn
  have r4 : R_doors M N := R_doors_x (fun _ _ => rfl) (fun _ _ => rfl) (fun i j => hN _ _ _ (by decide)) (fun i j => hN _ _ _ (by decide)) (fun i j => hN _ _ _ (by decide)) (fun i j => hN _ _ _ (by decide)) h_doors
  have pe := passes_e r1 r2 r3 r4 (fun l k l0 l1 k0 k1 d x y hl hk => onU_one h.1.2.1 h.1.2.2.1 l0 (by omega) k0 (by omega) ((cur_on hc l0 (by omega)).mp hl) ((cur_on hc k0 (by omega)).mp hk)) (x := c / 24) (y := c % 24) (by omega) (by omega) (by omega) (by omega) d0 d1
  rw [pe, show 24 * (c / 24) + c % 24 = c by omega]
theorem first_K (hS : SPO M K) (hO : ∀ v, 0 ≤ v → v < 576 → -1 ≤ oF M v) (hP : PAS M K) (hz : ∀ i, 0 ≤ i → i < 576 → (K 2328 i 0) = 0) : qW (qf_X18_findWays_L4 20000 20000 1 0 K) (fun o => ∃ N, o = .inr ((), N) ∧ NUF K N ∧ ∀ c, 0 ≤ c → c < 576 → (CEG M (-1) c ∧ (N 2328 (swp c) 0) = 1) ∨ (¬ CEG M (-1) c ∧ (N 2328 (swp c) 0) = 0)) := by
  have st : ∀ c, 0 ≤ c → c < 576 → (CEG M (-1) c ↔ INS M c ∧ ∃ d, 0 ≤ d ∧ d ≤ 3 ∧ ¬ INS M (cb c d) ∧ GOC M c d) := fun c c0 c1 => ⟨fun z => ⟨z.1, by
    rcases z.2 with ⟨_, y⟩ | ⟨y, _⟩
    · exact y
    · have := y.1
      omega⟩, fun z => ⟨z.1, Or.inl ⟨rfl, z.2⟩⟩⟩
  unfold qf_X18_findWays_L4
  refine qW_for 576 (fun i u => ∃ N, u = (1, i, N) ∧ NUF K N ∧ (∀ k, 0 ≤ k → k < i → (CEG M (-1) (swp k) ∧ (N 2328 k 0) = 1) ∨ (¬ CEG M (-1) (swp k) ∧ (N 2328 k 0) = 0)) ∧ ∀ k, i ≤ k → k < 576 → (N 2328 k 0) = 0) ?_ ?_ ⟨K, rfl, fun _ _ _ _ => rfl, fun v a b => by omega, fun k a b => hz k a b⟩ (by decide) (by decide)
  · rintro i _ i0 i1 ⟨N, rfl, hN, hd, hr⟩
    have sb := swp_b i0 i1
    obtain ⟨c, hc⟩ : ∃ c, swp i = c := ⟨_, rfl⟩
    rw [hc] at sb
    have tX : Int.tmod i 24 = c / 24 := by rw [Int.tmod_eq_emod_of_nonneg i0]; omega
    have tY : Int.tdiv i 24 = c % 24 := by rw [Int.tdiv_eq_ediv_of_nonneg i0]; omega
    unfold qf_X18_findWays_L4_b
    (try dsimp only)
    rw [if_neg (by omega), w32_id (x := i + 1) (by omega) (by omega)]
    refine qW_call (Q := fun o => ∃ N', o = .inr ((), N') ∧ NUF K N' ∧ (∀ k, k ≠ i → (N' 2328 k 0) = (N 2328 k 0)) ∧ ((CEG M (-1) c ∧ (N' 2328 i 0) = 1) ∨ (¬ CEG M (-1) c ∧ (N' 2328 i 0) = 0))) ?_ ?_
    · unfold qf_X18_findWays_L13
      refine qW_for 4 (fun d u => ∃ N', u = (1, i, d, N') ∧ NUF K N' ∧ (∀ k, k ≠ i → (N' 2328 k 0) = (N 2328 k 0)) ∧ (INS M c ∨ d = 0) ∧ (((∃ e, 0 ≤ e ∧ e < d ∧ ¬ INS M (cb c e) ∧ GOC M c e) ∧ (N' 2328 i 0) = 1) ∨ (¬ (∃ e, 0 ≤ e ∧ e < d ∧ ¬ INS M (cb c e) ∧ GOC M c e) ∧ (N' 2328 i 0) = 0))) ?_ ?_ ⟨N, rfl, hN, fun _ _ => rfl, Or.inr rfl, Or.inr ⟨fun ⟨e, a, b, _⟩ => by omega, hr i (Int.le_refl i) i1⟩⟩ (by decide) (by decide)
      · rintro d _ d0 d1 ⟨N', rfl, hN', hk, hi, hv⟩
        obtain ⟨o1, X, Y, nx, ny, o2, _⟩ := outs_c hS hO hN' sb.1 sb.2.1 d0 (show d ≤ 3 by omega)
        have ps := hP N' c d hN' sb.1 sb.2.1 d0 (by omega)
        unfold qf_X18_findWays_L13_b
        (try dsimp only)
        rw [if_neg (by omega), tX, tY]
        refine qW_eq o1 ?_
        have i5 : 0 ≤ i ∧ i < 576 := ⟨i0, i1⟩
        by_cases g : INS M c
        · rw [b01_f (fun z => z g), if_pos rfl]
          refine qW_eq nx (qW_eq ny (qW_eq o2 ?_))
          have no : ¬ (¬ INS M (cb c d) ∧ GOC M c d) → ∃ N'', (1, i, d + 1, qw N' 2328 i 0 (N' 2328 i 0)) = ((1 : Int), i, d + 1, N'') ∧ NUF K N'' ∧ (∀ k, k ≠ i → (N'' 2328 k 0) = (N 2328 k 0)) ∧ (INS M c ∨ d + 1 = 0) ∧ (((∃ e, 0 ≤ e ∧ e < d + 1 ∧ ¬ INS M (cb c e) ∧ GOC M c e) ∧ (N'' 2328 i 0) = 1) ∨ (¬ (∃ e, 0 ≤ e ∧ e < d + 1 ∧ ¬ INS M (cb c e) ∧ GOC M c e) ∧ (N'' 2328 i 0) = 0)) := fun z => by
            refine ⟨_, rfl, fun b i j hb => (qw_a hb).trans (hN' b i j hb), fun k kn => ?_, Or.inl g, ?_⟩
            · rw [qw_ap, if_neg (by omega)]
              exact hk k kn
            · rw [qw_s]
              rcases hv with ⟨⟨e, a, b, y⟩, w⟩ | ⟨y, w⟩
              · exact Or.inl ⟨⟨e, a, by omega, y⟩, w⟩
              · refine Or.inr ⟨?_, w⟩
                rintro ⟨e, a, b, x⟩
                by_cases ed : e = d
                · rw [ed] at x
                  exact z x
                · exact y ⟨e, a, by omega, x⟩
          have yes : (¬ INS M (cb c d) ∧ GOC M c d) → ∃ N'', (1, i, d + 1, qw N' 2328 i 0 1) = ((1 : Int), i, d + 1, N'') ∧ NUF K N'' ∧ (∀ k, k ≠ i → (N'' 2328 k 0) = (N 2328 k 0)) ∧ (INS M c ∨ d + 1 = 0) ∧ (((∃ e, 0 ≤ e ∧ e < d + 1 ∧ ¬ INS M (cb c e) ∧ GOC M c e) ∧ (N'' 2328 i 0) = 1) ∨ (¬ (∃ e, 0 ≤ e ∧ e < d + 1 ∧ ¬ INS M (cb c e) ∧ GOC M c e) ∧ (N'' 2328 i 0) = 0)) := fun z => by
            refine ⟨_, rfl, fun b i j hb => (qw_a hb).trans (hN' b i j hb), fun k kn => ?_, Or.inl g, Or.inl ⟨⟨d, d0, by omega, z⟩, qw_s⟩⟩
            rw [qw_ap, if_neg (by omega)]
            exact hk k kn
          unfold qf_X18_findWays_J76 qf_X18_findWays_J77
          rw [w32_id (x := d + 1) (by omega) (by omega)]
          by_cases g1 : INS M (cb c d)
          · rw [b01_f (fun z => z g1), if_pos rfl, if_pos rfl, if_pos i5, if_pos i5]
            exact qW_bnd (qW_some (no (fun z => z.1 g1)))
          · rw [b01_t g1, if_neg (by decide)]
            refine qW_eq ps ?_
            by_cases g2 : GOC M c d
            · rw [b01_t g2, if_neg (by decide), if_neg (by decide), if_pos i5]
              exact qW_bnd (qW_some (yes ⟨g1, g2⟩))
            · rw [b01_f g2, if_pos rfl, if_pos rfl, if_pos i5, if_pos i5]
              exact qW_bnd (qW_some (no (fun z => g2 z.2)))
        · rw [b01_t g, if_neg (by decide)]
          have d00 : d = 0 := by
            rcases hi with z | z
            · exact absurd z g
            · exact z
          refine qW_some ⟨N', rfl, hN', hk, Or.inr ⟨fun z => g z.1, ?_⟩⟩
          rcases hv with ⟨⟨e, a, b, _⟩, _⟩ | ⟨_, w⟩
          · omega
          · exact w
      · rintro _ ⟨N', rfl, hN', hk, hi, hv⟩
        unfold qf_X18_findWays_L13_b
        (try dsimp only)
        rw [if_pos (by decide)]
        refine qW_some ⟨N', rfl, hN', hk, ?_⟩
        have ic : INS M c := by
          rcases hi with z | z
          · exact z
          · omega
        rcases hv with ⟨⟨e, a, b, y⟩, w⟩ | ⟨y, w⟩
        · exact Or.inl ⟨(st c sb.1 sb.2.1).mpr ⟨ic, e, a, by omega, y⟩, w⟩
        · refine Or.inr ⟨fun z => ?_, w⟩
          obtain ⟨e, a, b, x⟩ := ((st c sb.1 sb.2.1).mp z).2
          exact y ⟨e, a, by omega, x⟩
    · rintro _ ⟨N', rfl, hN', hk, hv⟩
      refine qW_some ⟨N', rfl, hN', fun k k0 k1 => ?_, fun k k0 k1 => ?_⟩
      · by_cases e : k = i
        · rw [e, hc]
          exact hv
        · rw [hk k e]
          exact hd k k0 (by omega)
      · rw [hk k (by omega)]
        exact hr k (by omega) k1
  · rintro _ ⟨N, rfl, hN, hd, hr⟩
    unfold qf_X18_findWays_L4_b
    (try dsimp only)
    rw [if_pos (by decide)]
    refine qW_some ⟨N, rfl, hN, fun c c0 c1 => ?_⟩
    have sb := swp_b c0 c1
    have z := hd (swp c) sb.1 sb.2.1
    rw [sb.2.2.1] at z
    exact z
end VF
