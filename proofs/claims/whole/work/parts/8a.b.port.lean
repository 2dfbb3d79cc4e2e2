/-! ===== the reference's pieces of a line, in their order ===== -/
section PG
variable {M K N A B C D D0 E F G H T V W K0 M0 : qm} {a b c d k n m p r s t u v x y h i j R S w l z e f g nn κ pos : Int} {q stt cnt o aa : Int → Int} {P : Int → Prop}
theorem FNW_n (h : FNW M K M0 K0 A D0 D E F G H C q m p R stt cnt) (hN : ∀ b i j, b ≤ 2181 → b ≠ 2156 → N b i j = K b i j) : FNW M N M0 K0 A D0 D E F G H C q m p R stt cnt :=
  ⟨h.1, h.2.1, ⟨fun b i hb => (hN b i 0 (by omega) (by omega)).trans (h.2.2.1.1 b i hb), fun l l0 l1 => (hN _ _ _ (by decide) (by decide)).trans (h.2.2.1.2 l l0 l1)⟩, fun x y a b c d => (hN _ _ _ (by decide) (by decide)).trans (h.2.2.2.1 x y a b c d), h.2.2.2.2⟩
noncomputable def CLN (K : qm) (l n : Int) : Int := sI (fun q => b01 ((K 2176 q 0) = l)) n
theorem cln_s (n0 : 0 ≤ n) : CLN K l (n + 1) = CLN K l n + b01 ((K 2176 n 0) = l) := sI_s n0
theorem pieceOf_e (p0 : 0 ≤ p) (p1 : p ≤ 220) (hp : (K 2157 30 0) = p) (k0 : 0 ≤ k) (k1 : k ≤ 1000) : ∃ r, qf_X16_pieceOf 20000 l k K = some r ∧ ((r = -1 ∧ CLN K l p ≤ k) ∨ (0 ≤ r ∧ r < p ∧ (K 2176 r 0) = l ∧ CLN K l r = k)) := by
  show qW _ (fun r => (r = -1 ∧ CLN K l p ≤ k) ∨ (0 ≤ r ∧ r < p ∧ (K 2176 r 0) = l ∧ CLN K l r = k))
  unfold qf_X16_pieceOf
  refine qW_call (Q := fun o => (o = .inr () ∧ CLN K l p ≤ k) ∨ ∃ r, o = .inl r ∧ 0 ≤ r ∧ r < p ∧ (K 2176 r 0) = l ∧ CLN K l r = k) ?_ ?_
  · unfold qf_X16_pieceOf_L5
    refine qW_for p (fun i u => u = (l, k - CLN K l i, i) ∧ CLN K l i ≤ k) ?_ ?_ ⟨by unfold CLN; rw [sI_z (Int.le_refl 0), Int.sub_zero], by unfold CLN; rw [sI_z (Int.le_refl 0)]; exact k0⟩ p0 (by omega)
    · rintro i _ i0 i1 ⟨rfl, hk⟩
      have s := cln_s (K := K) (l := l) i0
      have c0 : 0 ≤ CLN K l i := sI_n (fun _ _ _ => b01_b.1)
      unfold qf_X16_pieceOf_L5_b
      (try dsimp only)
      rw [if_neg (by omega), if_pos (by omega), w32_id (x := i + 1) (by omega) (by omega), w32_id (x := k - CLN K l i - 1) (by omega) (by omega)]
      by_cases g : (K 2176 i 0) = l
      · rw [b01_t g] at s
        rw [if_pos g]
        by_cases g2 : k - CLN K l i = 0
        · rw [if_pos g2]
          exact qW_some (Or.inr ⟨i, rfl, i0, i1, g, by omega⟩)
        · rw [if_neg g2]
          exact qW_some ⟨by rw [show k - CLN K l i - 1 = k - CLN K l (i + 1) by omega], by omega⟩
      · rw [b01_f g] at s
        rw [if_neg g]
        exact qW_some ⟨by rw [show k - CLN K l i = k - CLN K l (i + 1) by omega], by omega⟩
    · rintro _ ⟨rfl, hk⟩
      unfold qf_X16_pieceOf_L5_b
      (try dsimp only)
      rw [if_pos (by omega)]
      exact qW_some (Or.inl ⟨rfl, hk⟩)
  · rintro _ (⟨rfl, hk⟩ | ⟨r, rfl, hr⟩)
    · exact qW_some (Or.inl ⟨rfl, hk⟩)
    · exact qW_some (Or.inr hr)
theorem cln_m (s0 : 0 ≤ s) (su : s < u) (hs : (K 2176 s 0) = l) : CLN K l s < CLN K l u := by
  have key : ∀ n : Nat, CLN K l (s + 1) ≤ CLN K l (s + 1 + n) := by
    intro n
    induction n with
    | zero => rw [show s + 1 + ((0 : Nat) : Int) = s + 1 by omega]; exact Int.le_refl _
    | succ n ih =>
      have c := cln_s (K := K) (l := l) (n := s + 1 + n) (by omega)
      have b := (b01_b (p := (K 2176 (s + 1 + n) 0) = l)).1
      rw [show s + 1 + ((n + 1 : Nat) : Int) = s + 1 + n + 1 by omega]
      omega
  have k := key (u - (s + 1)).toNat
  rw [show s + 1 + (((u - (s + 1)).toNat : Nat) : Int) = u by omega] at k
  have c := cln_s (K := K) (l := l) s0
  rw [b01_t hs] at c
  omega
/-- pieces of a line lie one behind another -/
theorem lo_m (h : FNW M K M0 K0 A D0 D E F G H C q m p R stt cnt) (hc : CUR M M0) (s0 : 0 ≤ s) (su : s < u) (u1 : u < p) (hl : sL G (2 * s) = sL G (2 * u)) : loA M G (2 * s) + sN G (2 * s) ≤ loA M G (2 * u) := by
  have fp := fnw_fpi h
  have lu := loA_b h hc (s := 2 * u) (by omega) (by omega)
  have ls := loA_b h hc (s := 2 * s) (by omega) (by omega)
  have e1 : 2 * s / 2 = s := by omega
  have e2 : 2 * u / 2 = u := by omega
  have lt : loA M G (2 * s) < loA M G (2 * u) := by
    have od := fp.2.1.2.2.2.2.2.2.2.2.2.2 s u s0 su u1
    have os := fp.2.1.2.2.2.2.2.2.2.2.1 s s0 (by omega)
    have ou := fp.2.1.2.2.2.2.2.2.2.2.1 u (by omega) u1
    have hl' : (G 2176 s 0) = (G 2176 u 0) := by
      unfold sL at hl
      rw [e1, e2] at hl
      exact hl
    have fr : (G 2177 s 0) < (G 2177 u 0) := by omega
    obtain ⟨o0, o1, a0, ab, bm, oa, ob, _⟩ := os
    obtain ⟨v0, v1, c0, cb', cm, oc, od', _⟩ := ou
    have kk := fp.2.1.2.1.2.2 _ _ a0 fr (by omega)
    have pa := fp.2.1.2.1.2.1 _ a0 (by omega)
    have pc := fp.2.1.2.1.2.1 _ c0 (by omega)
    unfold kp at kk
    unfold onp onL at oa oc
    rw [hl'] at oa
    have eb := ends_b h.1.2.1 v0 v1
    unfold loA
    rw [hl, e1, e2]
    omega
  apply Classical.byContradiction
  intro z
  have := piece_one h hc (by omega) u1 s0 (by omega) hl (t := loA M G (2 * u)) (Int.le_refl _) (by omega) (by omega) (by omega)
  omega
end PG
