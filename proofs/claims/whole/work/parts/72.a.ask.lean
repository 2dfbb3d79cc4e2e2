/-! ===== why a card is refused: the class's side ===== -/
def Nd (M : qm) (tg n m : Int) : Prop := ∃ v, LN M tg n v ∧ 0 ≤ v ∧ v ≤ m
theorem LN_u {M : qm} {tg n v u : Int} (h : LN M tg n v) (h2 : LN M tg n u) : v = u := by
  rcases h with ⟨k, k0, k1, k2, k3, k4, k5⟩ | ⟨k4, k5⟩
  · rcases h2 with ⟨j, j0, j1, j2, j3, j4, j5⟩ | ⟨j4, j5⟩
    · by_cases e : j = k
      · rw [k5, j5, e]
      · by_cases e2 : j < k
        · exact absurd ⟨k2, k3⟩ (j4 k e2 k1)
        · exact absurd ⟨j2, j3⟩ (k4 j (by omega) j1)
    · exact absurd ⟨k2, k3⟩ (j4 k k0 k1)
  · rcases h2 with ⟨j, j0, j1, j2, j3, j4, j5⟩ | ⟨j4, j5⟩
    · exact absurd ⟨j2, j3⟩ (k4 j j0 j1)
    · rw [k5, j5]
theorem nd_v {M : qm} {tg n m v : Int} (h : LN M tg n v) : Nd M tg n m ↔ 0 ≤ v ∧ v ≤ m := by
  refine ⟨fun ⟨u, hu, u0, u1⟩ => ?_, fun g => ⟨v, h, g.1, g.2⟩⟩
  have e := LN_u hu h
  omega
def spn (d f t : Int) : Prop := (f ≤ t ∧ f ≤ d ∧ d < t) ∨ (t < f ∧ (f ≤ d ∨ d < t))
theorem spn_r {M : qm} {d f t : Int} : qf_X0_isInSpan 20000 d f t M = some (b01 (spn d f t)) := by
  have h : (spn d f t ∧ b01 (spn d f t) = 1) ∨ (¬ spn d f t ∧ b01 (spn d f t) = 0) := by
    rcases b01_o (p := spn d f t) with h | h
    · exact Or.inl ⟨h.2, h.1⟩
    · exact Or.inr ⟨h.2, h.1⟩
  generalize b01 (spn d f t) = x at h ⊢
  unfold spn at h
  unfold qf_X0_isInSpan
  by_cases g1 : t < f
  · rw [if_pos g1]
    by_cases g2 : f ≤ d
    · rw [if_pos g2]
      refine congrArg some ?_
      omega
    · rw [if_neg g2]
      by_cases g3 : t ≤ d
      · rw [if_pos g3]
        refine congrArg some ?_
        omega
      · rw [if_neg g3]
        refine congrArg some ?_
        omega
  · rw [if_neg g1]
    by_cases g2 : d < f
    · rw [if_pos g2]
      refine congrArg some ?_
      omega
    · rw [if_neg g2]
      by_cases g3 : t ≤ d
      · rw [if_pos g3]
        refine congrArg some ?_
        omega
      · rw [if_neg g3]
        refine congrArg some ?_
        omega
section CL
variable {M K : qm} {tg n m c g z p room : Int}
theorem isNoted_r (c0 : 0 ≤ (M 824 13 0)) (c1 : (M 824 13 0) ≤ 512) (h_notek : R_notek M K) (h_tellt : R_tellt M K) : qf_X0_isNoted 20000 tg n m M = some (b01 (Nd M tg n m)) := by
  obtain ⟨u, eu, hu⟩ := latestNote_r (M := M) (tg := tg) (n := n) c0 c1
  have hs := LN_n h_notek h_tellt hu
  have hd := nd_v (m := m) hu
  unfold qf_X0_isNoted
  rw [eu]
  show (if u = -1 then some 0 else if m < u then some 0 else some 1) = _
  by_cases e : u = -1
  · rw [if_pos e, b01_f (fun x => by have := hd.mp x; omega)]
  · rw [if_neg e]
    by_cases e2 : m < u
    · rw [if_pos e2, b01_f (fun x => by have := hd.mp x; omega)]
    · rw [if_neg e2, b01_t (hd.mpr (by omega))]
theorem cardRefusal_r (c0 : 0 ≤ (M 824 13 0)) (c1 : (M 824 13 0) ≤ 512) (h_notek : R_notek M K) (h_tellt : R_tellt M K) (hc : 0 ≤ c ∧ c < 60) : qf_X0_cardRefusal 20000 c m n M = some (if (M 828 c 2) < n then if m ≤ (M 828 c 1) then if b01 (Nd M (100 + c) n m) = 0 then 0 else 3 else 2 else 1) := by
  unfold qf_X0_cardRefusal
  rw [if_pos hc, if_pos hc, w32_id (x := 100 + c) (by omega) (by omega), isNoted_r c0 c1 h_notek h_tellt]
  show (if (M 828 c 2) < n then if m ≤ (M 828 c 1) then (if b01 (Nd M (100 + c) n m) = 0 then some 0 else some 3) else some 2 else some 1) = _
  by_cases g1 : (M 828 c 2) < n
  · rw [if_pos g1, if_pos g1]
    by_cases g2 : m ≤ (M 828 c 1)
    · rw [if_pos g2, if_pos g2]
      by_cases g3 : b01 (Nd M (100 + c) n m) = 0
      · rw [if_pos g3, if_pos g3]
      · rw [if_neg g3, if_neg g3]
    · rw [if_neg g2, if_neg g2]
  · rw [if_neg g1, if_neg g1]
/-- a right that helps -/
def rgP (M : qm) (m n g z k : Int) : Prop := (M 889 k 0) = g ∧ (M 889 k 1) = z ∧ (M 889 k 5) < n ∧ (M 889 k 4) ≤ m ∧ spn (Int.tmod m 1440) (M 889 k 2) (M 889 k 3) ∧ b01 (Nd M k n m) = 0
theorem rightLoop_r (c0 : 0 ≤ (M 824 13 0)) (c1 : (M 824 13 0) ≤ 512) (h_notek : R_notek M K) (h_tellt : R_tellt M K) (r0 : 0 ≤ (M 824 10 0)) (r1 : (M 824 10 0) ≤ 16) : qW (qf_X0_hasRight_L43 20000 20000 m n g z 0 M) (fun o => match o with
    | .inl r => r = 1 ∧ ∃ k, 0 ≤ k ∧ k < (M 824 10 0) ∧ rgP M m n g z k
    | .inr _ => ∀ k, 0 ≤ k → k < (M 824 10 0) → ¬ rgP M m n g z k) := by
  unfold qf_X0_hasRight_L43
  refine qW_for (M 824 10 0) (fun i s => s = (m, n, g, z, i) ∧ ∀ k, 0 ≤ k → k < i → ¬ rgP M m n g z k) ?_ ?_ ⟨rfl, all_0⟩ r0 (by omega)
  · rintro i _ i0 i1 ⟨rfl, hi⟩
    have e1 : w32 (i + 1) = i + 1 := w32_id (by omega) (by omega)
    have hr : 0 ≤ i ∧ i < 16 := by omega
    unfold qf_X0_hasRight_L43_b qf_X0_hasRight_J92 qf_X0_hasRight_J93 qf_X0_hasRight_J126 qf_X0_hasRight_J127
    (try dsimp only)
    rw [spn_r, isNoted_r c0 c1 h_notek h_tellt, if_neg (show ¬ (M 824 10 0) ≤ i by omega), if_pos hr, e1]
    simp only [Option.bind_some, if_pos rfl, if_neg (show ¬ (1 : Int) = 0 by decide)]
    have no : ¬ rgP M m n g z i → ∀ k, 0 ≤ k → k < i + 1 → ¬ rgP M m n g z k := fun h => all_s hi h
    have hsp : (spn (Int.tmod m 1440) (M 889 i 2) (M 889 i 3) ∧ b01 (spn (Int.tmod m 1440) (M 889 i 2) (M 889 i 3)) = 1) ∨ (¬ spn (Int.tmod m 1440) (M 889 i 2) (M 889 i 3) ∧ b01 (spn (Int.tmod m 1440) (M 889 i 2) (M 889 i 3)) = 0) := by
      rcases b01_o (p := spn (Int.tmod m 1440) (M 889 i 2) (M 889 i 3)) with h | h
      · exact Or.inl ⟨h.2, h.1⟩
      · exact Or.inr ⟨h.2, h.1⟩
    generalize b01 (spn (Int.tmod m 1440) (M 889 i 2) (M 889 i 3)) = sv at hsp ⊢
    by_cases g1 : (M 889 i 0) = g
    · rw [if_pos g1]
      by_cases g2 : (M 889 i 1) = z
      · rw [if_pos g2]
        by_cases g3 : n ≤ (M 889 i 5)
        · rw [if_pos g3]
          have N := no (fun h => by have := h.2.2.1; omega)
          split
          · exact qW_some ⟨rfl, N⟩
          · split
            · exact qW_some ⟨rfl, N⟩
            · exact qW_some ⟨rfl, N⟩
        · rw [if_neg g3]
          by_cases g4 : m < (M 889 i 4)
          · rw [if_pos g4]
            exact qW_some ⟨rfl, no (fun h => by have := h.2.2.2.1; omega)⟩
          · rw [if_neg g4]
            rcases hsp with ⟨g5, g6⟩ | ⟨g5, g6⟩
            · rw [g6, if_neg (by decide)]
              by_cases g7 : b01 (Nd M i n m) = 0
              · rw [if_pos g7]
                exact qW_some ⟨rfl, i, i0, i1, g1, g2, by omega, by omega, g5, g7⟩
              · rw [if_neg g7]
                exact qW_some ⟨rfl, no (fun h => g7 h.2.2.2.2.2)⟩
            · rw [g6, if_pos rfl]
              exact qW_some ⟨rfl, no (fun h => g5 h.2.2.2.2.1)⟩
      · rw [if_neg g2]
        have N := no (fun h => g2 h.2.1)
        split
        · exact qW_some ⟨rfl, N⟩
        · split
          · exact qW_some ⟨rfl, N⟩
          · exact qW_some ⟨rfl, N⟩
    · rw [if_neg g1]
      have N := no (fun h => g1 h.1)
      split
      · exact qW_some ⟨rfl, N⟩
      · split
        · exact qW_some ⟨rfl, N⟩
        · exact qW_some ⟨rfl, N⟩
  · rintro _ ⟨rfl, hi⟩
    unfold qf_X0_hasRight_L43_b
    (try dsimp only)
    rw [if_pos (Int.le_refl _)]
    exact qW_some hi
/-- the zone of a room, as the class asks -/
noncomputable def zoV (M : qm) (room : Int) : Int := if 0 ≤ room ∧ room < (M 51 3 0) then Int.tmod (M 58 room 0) 10 else -1
theorem zoneOf_r (h0 : (M 51 3 0) ≤ 100) : qf_X10_zoneOf 20000 room M = some (zoV M room) := by
  unfold qf_X10_zoneOf zoV
  by_cases g1 : room < 0
  · rw [if_pos g1, if_neg (by omega)]
  · rw [if_neg g1]
    by_cases g2 : (M 51 3 0) ≤ room
    · rw [if_pos g2, if_neg (by omega)]
    · rw [if_neg g2, if_pos (by omega), if_pos (by omega)]
def HR (M : qm) (c room m n : Int) : Prop := room = (M 51 3 0) ∨ ∃ k, 0 ≤ k ∧ k < (M 824 10 0) ∧ rgP M m n (M 761 (M 828 c 0) 6) (zoV M room) k
theorem hasRight_r (c0 : 0 ≤ (M 824 13 0)) (c1 : (M 824 13 0) ≤ 512) (h_notek : R_notek M K) (h_tellt : R_tellt M K) (r0 : 0 ≤ (M 824 10 0)) (r1 : (M 824 10 0) ≤ 16) (hc : 0 ≤ c ∧ c < 60) (hp : 0 ≤ (M 828 c 0) ∧ (M 828 c 0) < 40) (h0 : (M 51 3 0) ≤ 100) : qf_X0_hasRight 20000 c room m n M = some (b01 (HR M c room m n)) := by
  unfold qf_X0_hasRight qf_X10_outside qf_X10_groupOf
  rw [zoneOf_r h0]
  refine qW_e (qW_bind (qW_some ?_))
  by_cases e : room = (M 51 3 0)
  · rw [if_pos e, b01_t (show HR M c room m n from Or.inl e)]
    exact qW_some rfl
  · rw [if_neg e, if_pos hc, if_pos hp]
    refine qW_bind (qW_some (qW_bind (qW_some ?_)))
    refine qW_call (rightLoop_r c0 c1 h_notek h_tellt r0 r1) ?_
    rintro (o | o) h
    · exact qW_some (by rw [h.1, b01_t (show HR M c room m n from Or.inr h.2)])
    · refine qW_some (b01_f ?_).symm
      rintro (x | ⟨k, k0, k1, k2⟩)
      · exact e x
      · exact h k k0 k1 k2
end CL
