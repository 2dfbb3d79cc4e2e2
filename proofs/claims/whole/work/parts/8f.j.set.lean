/-! ===== the giving: the row of a set ===== -/
section GVj
variable {M K A W Z X Y : qm} {a b d i j k p q v w T x y : Int} {c m n s r C : Nat} {l t u pre : List Int} {B : Int × List Int}
/-- besides the row all is as in K -/
def RWF (K Z : qm) : Prop := ∀ e x y, e ≠ 2282 → ¬ (e = 2270 ∧ x = 16) → Z e x y = K e x y
theorem mayT_o (f : RWF K Z) : mayT Z a x ↔ mayT K a x := by
  unfold mayT
  rw [f 2274 _ _ (by decide) (by omega), f 2275 _ _ (by decide) (by omega), f 2276 _ _ (by decide) (by omega), f 2277 _ _ (by decide) (by omega), f 2280 _ _ (by decide) (by omega)]
theorem set_K (n0 : 0 ≤ K 2270 0 0) (n1 : K 2270 0 0 ≤ 4) (hh : 0 < C → K 2270 13 0 = 0) (hc : (c : Int) < K 2270 0 0) (hC : K 2270 14 0 = C) (C6 : C ≤ 6) (r64 : r < 64) (hch : ∀ k, 0 ≤ k → k < (C : Int) → 0 ≤ K 2281 k 0 ∧ K 2281 k 0 < 400) : ∀ (m i : Nat) (Z : qm) (pre : List Int) (N : Nat), i + m = C → m < N → RWF K Z → Z 2270 16 0 = pre.length → rl (fun k => Z 2282 k 0) pre.length 0 = pre → pre.length ≤ i → ∃ Y, RWF K Y ∧ ((qf_X13_findRow_L24 20000 N c r d i Z = some (.inr ((), Y)) ∧ (∀ k, k ∈ bts r m i → mayT K c (K 2281 k 0)) ∧ Y 2270 16 0 = (pre.length + (bts r m i).length : Nat) ∧ rl (fun k => Y 2282 k 0) (pre.length + (bts r m i).length) 0 = pre ++ (bts r m i).map (fun k => K 2281 k 0)) ∨ (qf_X13_findRow_L24 20000 N c r d i Z = some (.inl ((), Y)) ∧ ∃ k, k ∈ bts r m i ∧ ¬ mayT K c (K 2281 k 0))) := by
  intro m
  induction m with
  | zero =>
    intro i Z pre N im mN f hz hr pl
    obtain ⟨N', rfl⟩ : ∃ N', N = N' + 1 := ⟨N - 1, by omega⟩
    refine ⟨Z, f, Or.inl ⟨?_, fun k hk => (by cases hk), hz, ?_⟩⟩
    · show qloop _ (N' + 1) ((c : Int), (r : Int), d, (i : Int), Z) = _
      rw [qloop.eq_2]
      (try dsimp only)
      have b : qf_X13_findRow_L24_b 20000 c r d i Z = some (.inl (.inr ((), Z))) := by
        unfold qf_X13_findRow_L24_b
        rw [if_pos (show Z 2270 14 0 ≤ (i : Int) by rw [f _ _ _ (by decide) (by omega), hC]; omega)]
      rw [b]
    · show rl (fun k => Z 2282 k 0) pre.length 0 = pre ++ []
      rw [List.append_nil]
      exact hr
  | succ m ih =>
    intro i Z pre N im mN f hz hr pl
    obtain ⟨N', rfl⟩ : ∃ N', N = N' + 1 := ⟨N - 1, by omega⟩
    have z14 : Z 2270 14 0 = C := (f _ _ _ (by decide) (by omega)).trans hC
    have z81 : Z 2281 i 0 = K 2281 i 0 := f _ _ _ (by decide) (by omega)
    have ch := hch i (by omega) (by omega)
    obtain ⟨v, hv⟩ : ∃ v, K 2281 i 0 = v := ⟨_, rfl⟩
    rw [hv] at ch z81
    have go : ∀ {o : (Unit × qm)}, qf_X13_findRow_L24_b 20000 c r d i Z = some (.inl (.inl o)) → qf_X13_findRow_L24 20000 (N' + 1) c r d i Z = some (.inl o) := fun {o} e => by
      show qloop _ (N' + 1) ((c : Int), (r : Int), d, (i : Int), Z) = _
      rw [qloop.eq_2]
      (try dsimp only)
      rw [e]
    have on : ∀ {Y : qm}, qf_X13_findRow_L24_b 20000 c r d i Z = some (.inr ((c : Int), (r : Int), d, (i : Int) + 1, Y)) → qf_X13_findRow_L24 20000 (N' + 1) c r d i Z = qf_X13_findRow_L24 20000 N' c r d ((i + 1 : Nat) : Int) Y := fun {Y} e => by
      show qloop _ (N' + 1) ((c : Int), (r : Int), d, (i : Int), Z) = _
      rw [qloop.eq_2]
      (try dsimp only)
      rw [e]
      rfl
    by_cases g : bitN r i = true
    · have eb : bts r (m + 1) i = (i : Int) :: bts r m (i + 1) := if_pos g
      obtain ⟨X, hX⟩ : ∃ X, qw (qw Z 2282 pre.length 0 v) 2270 16 0 ((pre.length : Int) + 1) = X := ⟨_, rfl⟩
      have fX : RWF K X := fun e x y z1 z2 => by
        rw [← hX, qw_ap, if_neg (by omega), qw_ap, if_neg (by omega)]
        exact f e x y z1 z2
      have x16 : X 2270 16 0 = (pre.length : Int) + 1 := by rw [← hX]; exact qw_s
      have xr : rl (fun k => X 2282 k 0) (pre.length + 1) 0 = pre ++ [v] := by
        rw [rl_snoc]
        have e1 : X 2282 (0 + (pre.length : Int)) 0 = v := by
          rw [← hX, qw_a (by decide), Int.zero_add]
          exact qw_s
        rw [e1, rl_ext (g := fun k => Z 2282 k 0) pre.length 0 (fun k k0 k1 => by
          show X 2282 k 0 = _
          rw [← hX, qw_a (by decide), qw_i (by omega)]), hr]
      have x81 : X 2281 i 0 = v := (fX _ _ _ (by decide) (by omega)).trans hv
      obtain ⟨w, w16, ew, hw⟩ := carsOf_K (K := X) (x := v) (by rw [fX _ _ _ (by decide) (by omega)]; exact n0) (by rw [fX _ _ _ (by decide) (by omega)]; exact n1) ch.1 ch.2 (by rw [fX _ _ _ (by decide) (by omega)]; exact hh (by omega))
      have hwc := hw c (by omega)
      rw [mayT_o fX, fX 2270 0 0 (by decide) (by omega)] at hwc
      have st : qf_X13_findRow_L24_b 20000 c r d i Z = (if bitN w c = true then some (.inr ((c : Int), (r : Int), d, (i : Int) + 1, X)) else some (.inl (.inl ((), X)))) := by
        unfold qf_X13_findRow_L24_b qbnd
        rw [if_neg (show ¬ Z 2270 14 0 ≤ (i : Int) by omega), bit_e r64 (show i < 6 by omega), if_pos g, if_pos rfl]
        simp only [if_pos (show 0 ≤ (i : Int) ∧ (i : Int) < 6 by omega)]
        rw [hz, if_pos (show 0 ≤ (pre.length : Int) ∧ (pre.length : Int) < 6 by omega), z81]
        rw [show qw Z 2282 (pre.length : Int) 0 v 2270 16 0 = pre.length from (qw_a (by decide)).trans hz, w32_id (x := (pre.length : Int) + 1) (by omega) (by omega), hX, x81, ew]
        simp only [Option.bind_some]
        rw [bit_e (show w < 64 by omega) (show c < 6 by omega), w32_id (x := (i : Int) + 1) (by omega) (by omega)]
        by_cases gw : bitN w c = true
        · rw [if_pos gw, if_neg (by decide), if_pos gw]
        · rw [if_neg gw, if_pos rfl, if_neg gw]
      by_cases gw : bitN w c = true
      · rw [if_pos gw] at st
        obtain ⟨Y, fY, hY⟩ := ih (i + 1) X (pre ++ [v]) N' (by omega) (by omega) fX (by rw [x16, List.length_append]; rfl) (by rw [List.length_append]; exact xr) (by rw [List.length_append, List.length_singleton]; omega)
        refine ⟨Y, fY, ?_⟩
        rw [eb, on st]
        rcases hY with ⟨y1, y2, y3, y4⟩ | ⟨y1, k, y2, y3⟩
        · rw [List.length_append, List.length_singleton] at y3 y4
          have el : pre.length + 1 + (bts r m (i + 1)).length = pre.length + ((i : Int) :: bts r m (i + 1)).length := by
            rw [List.length_cons]
            omega
          rw [el] at y3 y4
          refine Or.inl ⟨y1, fun k hk => ?_, y3, ?_⟩
          · rw [List.mem_cons] at hk
            rcases hk with hk | hk
            · rw [hk, hv]
              exact (hwc.mp gw).2
            · exact y2 k hk
          · rw [y4, List.map_cons, List.append_assoc, hv]
            rfl
        · exact Or.inr ⟨y1, k, List.mem_cons_of_mem _ y2, y3⟩
      · rw [if_neg gw] at st
        refine ⟨X, fX, Or.inr ⟨go st, i, ?_, fun z => gw (hwc.mpr ⟨hc, by rw [← hv]; exact z⟩)⟩⟩
        rw [eb]
        exact List.mem_cons_self
    · have eb : bts r (m + 1) i = bts r m (i + 1) := if_neg g
      have st : qf_X13_findRow_L24_b 20000 c r d i Z = some (.inr ((c : Int), (r : Int), d, (i : Int) + 1, Z)) := by
        unfold qf_X13_findRow_L24_b
        rw [if_neg (show ¬ Z 2270 14 0 ≤ (i : Int) by omega), bit_e r64 (show i < 6 by omega), if_neg g, if_neg (by decide), w32_id (x := (i : Int) + 1) (by omega) (by omega)]
      obtain ⟨Y, fY, hY⟩ := ih (i + 1) Z pre N' (by omega) (by omega) f hz hr (by omega)
      refine ⟨Y, fY, ?_⟩
      rw [eb, on st]
      exact hY
end GVj
