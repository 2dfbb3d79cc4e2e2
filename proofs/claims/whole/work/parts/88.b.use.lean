/-! ===== rings, asked of both ===== -/
section UR
variable {M K A B C D D0 E F G H T V K0 M0 : qm} {a b c d k n m p r q' s t u v x y h i R S w : Int} {q stt cnt o : Int → Int}
/-- the k-th of those with v -/
def RNK (o : Int → Int) (R v k r : Int) : Prop := 0 ≤ r ∧ r < R ∧ o r = v ∧ sI (fun i => b01 (o i = v)) r = k
theorem rnk_one (h : RNK o R v k r) (h2 : RNK o R v k s) : r = s := by
  have key : ∀ a b, RNK o R v k a → RNK o R v k b → ¬ a < b := by
    intro a b ha hb ab
    have q := sI_mono (f := fun i => b01 (o i = v)) (a := a + 1) (b := b) (by have := ha.1; omega) (by omega) (fun _ _ _ => b01_b.1)
    rw [sI_s ha.1] at q
    (try dsimp only at q)
    rw [b01_t ha.2.2.1, ha.2.2.2, hb.2.2.2] at q
    omega
  have a := key r s h h2
  have b := key s r h2 h
  omega
theorem fnw_tab (h : FNW M K M0 K0 A D0 D E F G H C q m p R stt cnt) : M 51 12 0 = R ∧ M 51 14 0 = sI cnt R ∧ 0 ≤ R ∧ R ≤ 220 ∧ (∀ r, 0 ≤ r → r < R → (M 62 r 0) = lfs D G (stt r) ∧ (M 62 r 1) = sI cnt r ∧ (M 62 r 2) = cnt r) ∧ (K 2157 35 0) = R ∧ (∀ r, 0 ≤ r → r < R → (K 2180 r 0) = stt r ∧ (K 2181 r 0) = cnt r ∧ 0 ≤ stt r ∧ stt r < 2 * p ∧ 1 ≤ cnt r) ∧ sI cnt R ≤ 440 ∧ 0 ≤ sI cnt R ∧ sI cnt R = 2 * p := by
  have fp := fnw_fpi h
  obtain ⟨⟨h1, h2, h3, h4, h5, h6, h7, h8, h9, h10⟩, hM, hK, _⟩ := h
  have room := rng_room h1 h2 h3 h4 fp.2.2 fp.2.1 h10.2.2.2.2.2.2.2.2 h10.2.1
  have p5 := fp.2.1.2.2.2.2.2.2.2.1
  have mt : ∀ r j, M 62 r j = C 62 r j := fun r j => hM _ r j (by omega)
  have pos : 0 ≤ sI cnt R := by
    rw [room.1]
    exact sI_n (fun _ _ _ => b01_b.1)
  have all : sI cnt R = 2 * p := by
    rw [room.1]
    have e : sI (fun s => b01 (cov (nxs A G p) stt cnt R s)) (2 * p) = sI (fun _ => 1) (2 * p) := sI_c (fun s s0 s1 => b01_t (h7.2.2.2.2 s s0 s1))
    have p0 := fp.2.1.2.2.2.2.2.2.1
    rw [e, sI_const]
    omega
  refine ⟨(hM 51 12 0 (by omega)).trans h10.2.2.2.2.2.2.1, (hM 51 14 0 (by omega)).trans h10.2.2.2.2.2.2.2.1, h10.2.2.2.2.2.2.2.2, by omega, fun r r0 r1 => ?_, ?_, fun r r0 r1 => ?_, by omega, pos, all⟩
  · rw [mt, mt, mt]
    exact h10.2.2.2.1 r r0 r1
  · rw [hK.1 2157 35 (by omega)]
    exact h7.2.2.2.1.2.2.2.2.1
  · have w := h7.2.2.2.1.2.2.2.1 r r0 r1
    have g := h10.2.1 r r0 r1
    rw [hK.1 _ r (by omega), hK.1 _ r (by omega)]
    exact ⟨w.1, w.2, g.1, g.2.1, g.2.2.1⟩
theorem use_ringC (h : FNW M K M0 K0 A D0 D E F G H C q m p R stt cnt) (k0 : 0 ≤ k) : ∃ f, qf_X2_findRing 20000 v k M = some f ∧ ((f = -1 ∧ ∀ r, ¬ RNK (fun r => lfs D G (stt r)) R v k r) ∨ RNK (fun r => lfs D G (stt r)) R v k f) := by
  obtain ⟨t1, t2, t3, t4, t5, _⟩ := fnw_tab h
  have q : qW (qf_X2_findRing 20000 v k M) (fun f => (f = -1 ∧ ∀ r, ¬ RNK (fun r => lfs D G (stt r)) R v k r) ∨ RNK (fun r => lfs D G (stt r)) R v k f) := by
    unfold qf_X2_findRing
    refine qW_call (Q := fun o => (∃ f, o = .inl f ∧ RNK (fun r => lfs D G (stt r)) R v k f) ∨ (o = .inr () ∧ ∀ r, ¬ RNK (fun r => lfs D G (stt r)) R v k r)) ?_ ?_
    · unfold qf_X2_findRing_L5
      refine qW_for R (fun r s => s = (v, k, sI (fun i => b01 (lfs D G (stt i) = v)) r, r) ∧ ∀ i, i < r → ¬ RNK (fun r => lfs D G (stt r)) R v k i) ?_ ?_ ⟨rfl, fun i i0 z => by have := z.1; omega⟩ t3 (by omega)
      · rintro r _ r0 r1 ⟨rfl, hr⟩
        have sb := sI_b (g := fun i => b01 (lfs D G (stt i) = v)) r0 (fun _ _ _ => b01_b)
        have ss := sI_s (f := fun i => b01 (lfs D G (stt i) = v)) r0
        have w := (t5 r r0 r1).1
        unfold qf_X2_findRing_L5_b
        (try dsimp only at ss ⊢)
        rw [if_neg (by omega), if_pos (by omega), w32_id (x := r + 1) (by omega) (by omega), w32_id (x := sI (fun i => b01 (lfs D G (stt i) = v)) r + 1) (by omega) (by omega)]
        have nx : ¬ RNK (fun r => lfs D G (stt r)) R v k r → ∀ i, i < r + 1 → ¬ RNK (fun r => lfs D G (stt r)) R v k i := fun z i hi => by
          by_cases g : i = r
          · rw [g]
            exact z
          · exact hr i (by omega)
        by_cases g1 : lfs D G (stt r) = v
        · rw [b01_t g1] at ss
          rw [if_pos (by omega)]
          by_cases g2 : sI (fun i => b01 (lfs D G (stt i) = v)) r = k
          · rw [if_pos g2]
            exact qW_some (Or.inl ⟨r, rfl, r0, r1, g1, g2⟩)
          · rw [if_neg g2, ← ss]
            exact qW_some ⟨rfl, nx (fun z => g2 z.2.2.2)⟩
        · rw [b01_f g1, Int.add_zero] at ss
          rw [if_neg (by omega), ← ss]
          refine qW_some ⟨?_, nx (fun z => g1 z.2.2.1)⟩
          rw [ss]
      · rintro _ ⟨rfl, hr⟩
        unfold qf_X2_findRing_L5_b
        (try dsimp only)
        rw [if_pos (by omega)]
        refine qW_some (Or.inr ⟨rfl, fun r z => hr r z.2.1 z⟩)
    · rintro o (⟨f, rfl, hf⟩ | ⟨rfl, hn⟩)
      · exact qW_some (Or.inr hf)
      · exact qW_some (Or.inl ⟨rfl, hn⟩)
  obtain ⟨f, e, hf⟩ := q
  exact ⟨f, e, hf⟩
theorem use_ringK (h : FNW M K M0 K0 A D0 D E F G H C q m p R stt cnt) (k0 : 0 ≤ k) (k1 : k < 2147483648) (hs : qf_X16_isSpace 20000 v K = some 1) : ∃ f, qf_X16_ringOf 20000 v k K = some f ∧ ((f = -1 ∧ ∀ r, ¬ RNK (fun r => lfs D G (stt r)) R v k r) ∨ RNK (fun r => lfs D G (stt r)) R v k f) := by
  obtain ⟨t1, t2, t3, t4, t5, t6, t7, _⟩ := fnw_tab h
  have q : qW (qf_X16_ringOf 20000 v k K) (fun f => (f = -1 ∧ ∀ r, ¬ RNK (fun r => lfs D G (stt r)) R v k r) ∨ RNK (fun r => lfs D G (stt r)) R v k f) := by
    unfold qf_X16_ringOf
    refine qW_call (Q := fun o => (∃ f, o = .inl f ∧ RNK (fun r => lfs D G (stt r)) R v k f) ∨ (o = .inr () ∧ ∀ r, ¬ RNK (fun r => lfs D G (stt r)) R v k r)) ?_ ?_
    · unfold qf_X16_ringOf_L5
      refine qW_for R (fun r s => s = (v, k, k - sI (fun i => b01 (lfs D G (stt i) = v)) r, r) ∧ (sI (fun i => b01 (lfs D G (stt i) = v)) r ≤ k) ∧ ∀ i, i < r → ¬ RNK (fun r => lfs D G (stt r)) R v k i) ?_ ?_ ⟨by rw [sI_0, Int.sub_zero], by rw [sI_0]; exact k0, fun i i0 z => by have := z.1; omega⟩ t3 (by omega)
      · rintro r _ r0 r1 ⟨rfl, hk, hr⟩
        have sb := sI_b (g := fun i => b01 (lfs D G (stt i) = v)) r0 (fun _ _ _ => b01_b)
        have ss := sI_s (f := fun i => b01 (lfs D G (stt i) = v)) r0
        have w := t7 r r0 r1
        have el := use_left h w.2.2.1 w.2.2.2.1
        rw [← w.1] at el
        unfold qf_X16_ringOf_L5_b
        (try dsimp only at ss ⊢)
        rw [if_neg (by omega), w32_id (x := r + 1) (by omega) (by omega)]
        refine qW_eq hs ?_
        (try dsimp only)
        rw [if_neg (by decide), if_neg (by omega), if_pos (by omega)]
        refine qW_eq el ?_
        (try dsimp only)
        have nx : ¬ RNK (fun r => lfs D G (stt r)) R v k r → ∀ i, i < r + 1 → ¬ RNK (fun r => lfs D G (stt r)) R v k i := fun z i hi => by
          by_cases g : i = r
          · rw [g]
            exact z
          · exact hr i (by omega)
        rw [w.1]
        by_cases g1 : lfs D G (stt r) = v
        · rw [b01_t g1] at ss
          rw [if_pos g1]
          by_cases g2 : sI (fun i => b01 (lfs D G (stt i) = v)) r = k
          · rw [if_pos (by omega)]
            exact qW_some (Or.inl ⟨r, rfl, r0, r1, g1, g2⟩)
          · rw [if_neg (by omega)]
            rw [w32_id (by omega) (by omega)]
            refine qW_some ⟨?_, by omega, nx (fun z => g2 z.2.2.2)⟩
            rw [ss, show k - sI (fun i => b01 (lfs D G (stt i) = v)) r - 1 = k - (sI (fun i => b01 (lfs D G (stt i) = v)) r + 1) by omega]
        · rw [b01_f g1, Int.add_zero] at ss
          rw [if_neg g1]
          refine qW_some ⟨?_, by omega, nx (fun z => g1 z.2.2.1)⟩
          rw [ss]
      · rintro _ ⟨rfl, hk, hr⟩
        unfold qf_X16_ringOf_L5_b
        (try dsimp only)
        rw [if_pos (by omega)]
        refine qW_some (Or.inr ⟨rfl, fun r z => hr r z.2.1 z⟩)
    · rintro o (⟨f, rfl, hf⟩ | ⟨rfl, hn⟩)
      · exact qW_some (Or.inr hf)
      · exact qW_some (Or.inl ⟨rfl, hn⟩)
  obtain ⟨f, e, hf⟩ := q
  exact ⟨f, e, hf⟩
end UR
