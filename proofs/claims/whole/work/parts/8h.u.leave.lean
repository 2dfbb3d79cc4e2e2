/-! ===== passing: the next one goes, both sides ===== -/
section PSu
variable {M K N V W Y A B C D D0 E F G H K0 M0 N2 K2 : qm} {c d e k m p q' r s t u v x y l z τ R n j : Int} {q stt cnt : Int → Int}
theorem lv_step (h_lines : R_lines M K) (h_ends : R_ends M K) (h_doorn : R_doorn M K) (h_doors : R_doors M K) (h_spaceof : R_spaceof M K) (h_smoke : R_smoke M K) (h_walk : R_walk M K) (h_rooms : R_rooms M K) (h_persons : R_persons M K) (h_personb : R_personb M K) (hb : M 6 11 0 ≠ 0) (hf : FNW M Y M0 K0 A D0 D E F G H C q m q' R stt cnt) (hc : CUR M M0) (et : K 2156 2 0 = τ) (hτ : 0 ≤ τ) (ht : τ ≤ M 6 12 0) (hn : M 756 7 0 ≤ 40) (hL : LIN M V τ (M 756 7 0) n) (h : LVI M V K k N W) (k0 : 0 ≤ k) (kn : k < n) (hv : 0 < NBR K (V 802 k 0)) : ∃ N2 K2, qf_X10_moveOne 20000 (V 802 k 0) τ N = some ((), N2) ∧ qf_X18_step 20000 (V 802 k 0) (qw W 2331 (V 802 k 0) 0 1) = some ((), K2) ∧ LVI M V K (k + 1) N2 K2 := by
  have z := hL.2.2.2.1 k k0 kn
  have ng : ∀ j, 0 ≤ j → j < k → V 802 j 0 ≠ V 802 k 0 := fun j j0 j1 => lin_ne hL j0 j1 kn
  obtain ⟨p, hp⟩ : ∃ p, V 802 k 0 = p := ⟨_, rfl⟩
  rw [hp] at z hv ng ⊢
  obtain ⟨⟨i1, i2, i3, iz⟩, i4, i5, i6, i7⟩ := id h
  obtain ⟨W1, hW1⟩ : ∃ W1, qw W 2331 p 0 1 = W1 := ⟨_, rfl⟩
  have w1 : ∀ e x y, e ≠ 2331 → W1 e x y = W e x y := fun e x y g => by
    rw [← hW1]
    exact qw_a g
  have w5 : ∀ e x y, (¬ (2306 ≤ e ∧ e ≤ 2308) ∧ e ≠ 2310 ∧ e ≠ 2311 ∧ e ≠ 2330 ∧ e ≠ 2331) → W1 e x y = K e x y := fun e x y g => (w1 e x y g.2.2.2.2).trans (i5 e x y g)
  have g7 := i7 p z.1 z.2.1 ng
  have mb := (may_both h_persons h_personb h_rooms hb z.1 z.2.1 et).2 z.2.2
  have eN : ∀ e x y, (e ≠ 761 ∧ e ≠ 803 ∧ e ≠ 802) → N e x y = M e x y := fun e x y g => (i4 e x y ⟨g.1, g.2.1⟩).trans (hL.2.2.1 e x y g.2.2)
  have pN : N 756 7 0 = M 756 7 0 := eN _ _ _ (by decide)
  have pn := i1 p z.1 (by omega)
  obtain ⟨r1, r2, r3, r4, r5, r6, r7, r8⟩ := lv_rel w5 h_lines h_ends h_doorn h_doors h_spaceof h_smoke h_walk h_rooms
  have hw : WNT (M 7 0 0) N W1 := fun l e l0 l1 e0 e1 => by
    rw [w1 _ _ _ (by decide)]
    exact i3 l e l0 l1 e0 e1
  rw [hW1]
  have v0 : 0 < W1 2328 (24 * K 2308 p 0 + K 2307 p 0) 0 := by
    rw [w5 2328 _ 0 (by decide)]
    exact hv
  obtain ⟨N2, K2, e1, e2, hm⟩ := move_both (τ := τ) r1 r2 r3 r4 r5 r6 r7 r8 hb hf hc (show SAN M N from fun b i j g => eN b i j (by omega)) (show SLV M N from fun b i j g => eN b i j (by omega)) (eN 51 3 0 (by decide)) hw z.1 (by omega) mb.1 mb.2.1 mb.2.2.1 mb.2.2.2.1 (pn.2.1.symm.trans g7.2.2.1) (pn.2.2.1.symm.trans g7.2.2.2.1) ((w1 _ _ _ (by decide)).trans g7.2.2.1) ((w1 _ _ _ (by decide)).trans g7.2.2.2.1) v0 ((w5 2156 2 0 (by decide)).trans et)
  refine ⟨N2, K2, e1, e2, ?_⟩
  have q1 : R_persons N W1 ∧ R_personb N W1 ∧ R_personz N W1 := pe_keep (fun _ _ _ _ => rfl) (fun e x y g => w1 e x y g.2) i1 i2 iz
  have me : W1 2331 p 0 = 1 := by
    rw [← hW1]
    exact qw_s
  have m6 : ∀ j, 0 ≤ j → j < k + 1 → W1 2331 (V 802 j 0) 0 = 1 := fun j j0 j1 => by
    by_cases e : j = k
    · rw [e, hp]
      exact me
    · rw [← hW1, qw_i (ng j j0 (by omega))]
      exact i6 j j0 (by omega)
  have m7 : ∀ q, 0 ≤ q → q < M 756 7 0 → (∀ j, 0 ≤ j → j < k + 1 → V 802 j 0 ≠ q) → q ≠ p ∧ W1 2331 q 0 = 0 ∧ W1 2306 q 0 = K 2306 q 0 ∧ W1 2307 q 0 = K 2307 q 0 ∧ W1 2308 q 0 = K 2308 q 0 ∧ W1 2311 q 0 = K 2311 q 0 := fun q q0 q1 hq => by
    have qp : q ≠ p := fun e => hq k k0 (by omega) (hp.trans e.symm)
    have y := i7 q q0 q1 (fun j j0 j1 => hq j j0 (by omega))
    rw [w1 2306 _ _ (by decide), w1 2307 _ _ (by decide), w1 2308 _ _ (by decide), w1 2311 _ _ (by decide)]
    refine ⟨qp, ?_, y.2⟩
    rw [← hW1, qw_i qp]
    exact y.1
  rcases hm with ⟨rfl, rfl⟩ | ⟨N', K', r, x, y, rfl, rfl, a1, a2, a3, a4, a5⟩
  · exact ⟨⟨q1.1, q1.2.1, hw, q1.2.2⟩, i4, w5, m6, fun q q0 q1 hq => (m7 q q0 q1 hq).2⟩
  · have q2 := pe_keep (M := N) (K := W1) (N := N') (W := K') (fun e x y g => a2 e x y g.2) (fun e x y g => a3 e x y g.1) q1.1 q1.2.1 q1.2.2
    have k9 : K' 2156 9 0 = W1 2156 9 0 := a3 _ _ _ (by decide)
    have n56 : ∀ c, N' 56 c 0 = M 56 c 0 := fun c => (a2 _ _ _ (by decide)).trans (eN _ _ _ (by decide))
    have n7 : N' 756 7 0 = M 756 7 0 := (a2 _ _ _ (by decide)).trans pN
    have n6 : N' 6 12 0 = M 6 12 0 := (a2 _ _ _ (by decide)).trans (eN _ _ _ (by decide))
    have q3 := ent_both (p := p) (r := r) (x := x) (y := y) (τ := τ) q2.1 q2.2.1 z.1 (by omega) hτ (by omega) (by rw [k9]; exact a4) (by
      rw [k9, n56]
      exact a5)
    refine ⟨⟨q3.1, q3.2, fun l e l0 l1 e0 e1 => ?_, fun k k0 k1 => ?_⟩, fun e x y g => (enT_a g.1).trans ((a2 e x y g.2).trans (i4 e x y g)), fun e x y g => (enS_a (by omega)).trans ((a3 e x y g.2.2.2.1).trans (w5 e x y g)), fun j j0 j1 => ?_, fun q q0 q1 hq => ?_⟩
    · rw [enT_a (by decide), enS_a (by decide)]
      exact a1 l e l0 l1 e0 e1
    · rw [enT_a (by decide)] at k0
      have y := q2.2.2 k k0 k1
      have kp : k ≠ p := by omega
      rw [enS_o kp, enS_o kp, enT_o kp, enT_o kp]
      exact y
    · rw [enS_a (by decide), a3 _ _ _ (by decide)]
      exact m6 j j0 j1
    · have y := m7 q q0 q1 hq
      rw [enS_o y.1, enS_o y.1, enS_o y.1, enS_o y.1, enS_o y.1, a3 _ _ _ (by decide), a3 _ _ _ (by decide), a3 _ _ _ (by decide), a3 _ _ _ (by decide), a3 _ _ _ (by decide)]
      exact y.2
/-- those who are left have no way: nobody of them moves (class) -/
theorem lv_rest (h_walk : R_walk M K) (h_persons : R_persons M K) (h_personb : R_personb M K) (h_rooms : R_rooms M K) (hb : M 6 11 0 ≠ 0) (et : K 2156 2 0 = τ) (hn : M 756 7 0 ≤ 40) (hL : LIN M V τ (M 756 7 0) n) (h : LVI M V K k N W) (k0 : 0 ≤ k) (no : ∀ j, k ≤ j → j < n → NBR K (V 802 j 0) = 0 ∧ M 759 (24 * K 2307 (V 802 j 0) 0 + K 2308 (V 802 j 0) 0) 0 = -1) : ∀ (d : Nat) (j : Int) (f : Nat), n - j = d → k ≤ j → d < f → qf_X10_movePersons_L37 20000 f τ n j N = some (.inr ((), N)) := by
  obtain ⟨⟨i1, i2, i3, iz⟩, i4, i5, i6, i7⟩ := id h
  have eN : ∀ e x y, (e ≠ 761 ∧ e ≠ 803 ∧ e ≠ 802) → N e x y = M e x y := fun e x y g => (i4 e x y ⟨g.1, g.2.1⟩).trans (hL.2.2.1 e x y g.2.2)
  have pN : N 756 7 0 = M 756 7 0 := eN _ _ _ (by decide)
  intro d
  induction d with
  | zero =>
    intro j f e kj hf
    obtain ⟨f', rfl⟩ : ∃ f', f = f' + 1 := ⟨f - 1, by omega⟩
    unfold qf_X10_movePersons_L37
    rw [qloop.eq_2]
    (try dsimp only)
    unfold qf_X10_movePersons_L37_b
    rw [if_pos (show n ≤ j by omega)]
  | succ d ih =>
    intro j f e kj hf
    obtain ⟨f', rfl⟩ : ∃ f', f = f' + 1 := ⟨f - 1, by omega⟩
    have j0 : 0 ≤ j := by omega
    have jn : j < n := by omega
    have z := hL.2.2.2.1 j j0 jn
    have g7 := i7 _ z.1 z.2.1 (fun i a b => lin_ne hL a (by omega) jn)
    have mb := (may_both h_persons h_personb h_rooms hb z.1 z.2.1 et).2 z.2.2
    have nj := no j kj jn
    have e8 : N 802 j 0 = V 802 j 0 := i4 _ _ _ (by decide)
    obtain ⟨p, hp⟩ : ∃ p, V 802 j 0 = p := ⟨_, rfl⟩
    rw [hp] at z g7 mb nj e8
    have pn := i1 p z.1 (by omega)
    have mn := move_no (τ := τ) h_walk hb (show SLV M N from fun b i j g => eN b i j (by omega)) z.1 (by omega) mb.1 mb.2.1 mb.2.2.1 mb.2.2.2.1 (pn.2.1.symm.trans g7.2.2.1) (pn.2.2.1.symm.trans g7.2.2.2.1) nj.2
    have bd : qf_X10_movePersons_L37_b 20000 τ n j N = some (.inr (τ, n, j + 1, N)) := by
      unfold qf_X10_movePersons_L37_b
      rw [if_neg (show ¬ n ≤ j by omega), if_pos (show 0 ≤ j ∧ j < 40 by have := hL.2.1; omega), e8, mn, Option.bind_some, w32_id (x := j + 1) (by omega) (by have := hL.2.1; omega)]
    have nx := ih (j + 1) f' (by omega) (by omega) (by omega)
    unfold qf_X10_movePersons_L37 at nx ⊢
    rw [qloop.eq_2]
    (try dsimp only)
    rw [bd]
    exact nx
end PSu
