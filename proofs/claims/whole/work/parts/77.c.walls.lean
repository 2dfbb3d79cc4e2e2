section WC
variable {M K A : qm} {l d x y : Int}
theorem draw_in {lv at_ st d0 : Int} {k : Nat} (hl : (lv = 0 ∧ d0 = 1 ∧ st = 1) ∨ (lv = 1 ∧ d0 = 0 ∧ st = 25)) (k24 : k ≤ 24) (a0 : 0 ≤ at_) (ha : at_ + st * k < 625 + st) (a1 : at_ < 625) : qf_X2_drawWalls_L82 20000 20000 l lv at_ k 0 A = some (.inr ((), wst A l d0 at_ st k)) := by
  refine qW_e ?_
  unfold qf_X2_drawWalls_L82
  refine qW_for k (fun i s => s = (l, lv, at_, (k : Int), i, wst A l d0 at_ st i.toNat)) ?_ ?_ ?_ (by omega) (by omega)
  · rintro i _ i0 i1 rfl
    unfold qf_X2_drawWalls_L82_b qf_X2_drawWalls_J102 qf_X2_drawWalls_J116
    (try dsimp only)
    have e : (i + 1).toNat = i.toNat + 1 := by omega
    have ew : wst A l d0 at_ st (i.toNat + 1) = qw (wst A l d0 at_ st i.toNat) 52 d0 (at_ + st * (i.toNat : Int)) l := rfl
    have ei : ((i.toNat : Nat) : Int) = i := by omega
    rw [ei] at ew
    rw [if_neg (show ¬ (k : Int) ≤ i by omega), e, ew]
    rcases hl with ⟨rfl, rfl, rfl⟩ | ⟨rfl, rfl, rfl⟩
    · rw [if_pos rfl, if_pos (by decide), if_pos rfl, w32_id (x := i * 1) (by omega) (by omega), w32_id (x := at_ + i * 1) (by omega) (by omega), if_pos ⟨by omega, by omega⟩, w32_id (x := i + 1) (by omega) (by omega), show at_ + i * 1 = at_ + 1 * i by omega]
      refine qW_bnd ?_
      exact qW_some rfl
    · rw [if_neg (by decide), if_pos (by decide), if_neg (by decide), w32_id (x := i * 25) (by omega) (by omega), w32_id (x := at_ + i * 25) (by omega) (by omega), if_pos ⟨by omega, by omega⟩, w32_id (x := i + 1) (by omega) (by omega), show at_ + i * 25 = at_ + 25 * i by omega]
      refine qW_bnd ?_
      exact qW_some rfl
  · rintro _ rfl
    unfold qf_X2_drawWalls_L82_b
    (try dsimp only)
    rw [if_pos (Int.le_refl _)]
    exact qW_some (by rw [Int.toNat_natCast])
  · exact rfl
theorem draw_r (h_lines : R_lines M K) (h_ends : R_ends M K) : qW (qf_X2_drawWalls 20000 M) (fun r => WAL M r.2 (M 7 0 0)) := by
  unfold R_lines at h_lines
  obtain ⟨n, hn⟩ : ∃ v, (M 7 0 0) = v := ⟨_, rfl⟩
  unfold qf_X2_drawWalls
  refine qW_bnd ?_
  (try dsimp only)
  refine qW_bnd ?_
  (try dsimp only)
  refine qW_call (Q := fun o => ∃ A, o = .inr ((), A) ∧ WAL M A (M 7 0 0)) ?_ ?_
  · unfold qf_X2_drawWalls_L22
    refine qW_for (M 7 0 0) (fun i s => ∃ A, s = (i, A) ∧ WAL M A i) ?_ ?_ ?_ (by omega) (by omega)
    · rintro i _ i0 i1 ⟨A, rfl, hA⟩
      have f := fun j => hA.1 8 i j (by decide)
      have fl := hA.1 7 0 0 (by decide)
      have s := wal_s h_ends hA i0 i1
      have q := h_ends i i0 i1
      obtain ⟨e0, h0⟩ : ∃ v, (M 8 i 0) = v := ⟨_, rfl⟩
      obtain ⟨e1, h1⟩ : ∃ v, (M 8 i 1) = v := ⟨_, rfl⟩
      obtain ⟨e2, h2⟩ : ∃ v, (M 8 i 2) = v := ⟨_, rfl⟩
      obtain ⟨e3, h3⟩ : ∃ v, (M 8 i 3) = v := ⟨_, rfl⟩
      have b : 0 ≤ e0 ∧ 0 ≤ e1 ∧ e2 ≤ 24 ∧ e3 ≤ 24 ∧ ((e1 = e3 ∧ e0 < e2) ∨ (e1 < e3 ∧ e0 = e2)) := by
        rcases q.1 with g | g
        · rw [g, if_pos rfl, if_pos rfl] at q
          omega
        · rw [g, if_neg (by decide), if_neg (by decide)] at q
          omega
      rw [h0, h1, h2, h3] at s
      clear q
      unfold qf_X2_drawWalls_L22_b qf_X8_isLevel qf_X8_lengthOf
      (try dsimp only)
      have k0 := (f 0).trans h0
      have k1 := (f 1).trans h1
      have k2 := (f 2).trans h2
      have k3 := (f 3).trans h3
      have hi : 0 ≤ i ∧ i < 20 := ⟨i0, by omega⟩
      rw [if_neg (show ¬ A 7 0 0 ≤ i by omega)]
      simp only [hi, true_and, and_true, and_self, if_true, reduceIte]
      obtain ⟨k, hk⟩ : ∃ k : Nat, e2 - e0 + e3 - e1 = k := ⟨(e2 - e0 + e3 - e1).toNat, by omega⟩
      rw [hk] at s
      rw [Int.toNat_natCast] at s
      by_cases g : e1 = e3
      · rw [if_pos g, if_pos g] at s
        rw [if_pos (show A 8 i 1 = A 8 i 3 by omega), k0, k1, k2, k3, w32_id (x := e0 * 25) (by omega) (by omega), w32_id (x := e0 * 25 + e1) (by omega) (by omega), w32_id (x := e2 - e0) (by omega) (by omega), w32_id (x := e2 - e0 + e3) (by omega) (by omega), w32_id (x := e2 - e0 + e3 - e1) (by omega) (by omega), w32_id (x := i + 1) (by omega) (by omega), show e0 * 25 + e1 = 25 * e0 + e1 by omega, hk]
        refine qW_bind (qW_some ?_)
        refine qW_bind (qW_some ?_)
        refine qW_eq (draw_in (d0 := 0) (st := 25) (Or.inr ⟨rfl, rfl, rfl⟩) (by omega) (by omega) (by omega) (by omega)) ?_
        exact qW_some ⟨_, rfl, s⟩
      · rw [if_neg g, if_neg g] at s
        rw [if_neg (show ¬ A 8 i 1 = A 8 i 3 by omega), k0, k1, k2, k3, w32_id (x := e0 * 25) (by omega) (by omega), w32_id (x := e0 * 25 + e1) (by omega) (by omega), w32_id (x := e2 - e0) (by omega) (by omega), w32_id (x := e2 - e0 + e3) (by omega) (by omega), w32_id (x := e2 - e0 + e3 - e1) (by omega) (by omega), w32_id (x := i + 1) (by omega) (by omega), show e0 * 25 + e1 = 25 * e0 + e1 by omega, hk]
        refine qW_bind (qW_some ?_)
        refine qW_bind (qW_some ?_)
        refine qW_eq (draw_in (d0 := 1) (st := 1) (Or.inl ⟨rfl, rfl, rfl⟩) (by omega) (by omega) (by omega) (by omega)) ?_
        exact qW_some ⟨_, rfl, s⟩
    · rintro _ ⟨A, rfl, hA⟩
      have fl := hA.1 7 0 0 (by decide)
      unfold qf_X2_drawWalls_L22_b
      (try dsimp only)
      rw [if_pos (show A 7 0 0 ≤ (M 7 0 0) by omega)]
      exact qW_some ⟨A, rfl, hA⟩
    · refine ⟨_, rfl, fun b i j hb => ?_, fun d x y a0 a1 a2 a3 a4 a5 => Or.inl ⟨?_, fun l b0 b1 => by omega⟩⟩
      · rw [qfl2_ap, if_neg (fun z => hb z.1), qfl2_ap, if_neg (fun z => hb z.1)]
      · rw [qfl2_ap]
        by_cases g : d = 1
        · rw [if_pos ⟨rfl, g, by omega, by omega⟩]
        · rw [if_neg (fun z => g z.2.1), qfl2_ap, if_pos ⟨rfl, by omega, by omega, by omega⟩]
  · rintro _ ⟨A, rfl, hA⟩
    exact qW_some hA
end WC
