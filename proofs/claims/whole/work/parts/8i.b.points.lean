/-! ===== passing: the first four points, both sides ===== -/
section PTb
variable {M K : qm} {v d : Int}
def ptA (A : qm) (v d : Int) : qm := qw (qw (qw (qw A 1135 0 0 v) 1135 1 0 d) 1135 2 0 (A 756 4 0)) 1135 3 0 (A 1337 4 0)
def ptB (A B : qm) (v d : Int) : qm := qw (qw (qw (qw B 2247 0 0 v) 2247 1 0 d) 2247 2 0 (A 756 4 0)) 2247 3 0 (A 1337 4 0)
theorem ptA_o {e : Nat} {x y : Int} (h : e ≠ 1135) : ptA M v d e x y = M e x y := by
  unfold ptA
  rw [qw_a h, qw_a h, qw_a h, qw_a h]
theorem ptB_o {e : Nat} {x y : Int} (h : e ≠ 2247) : ptB M K v d e x y = K e x y := by
  unfold ptB
  rw [qw_a h, qw_a h, qw_a h, qw_a h]
theorem fpts_both (h_macts : R_macts M K) (h_mstate : R_mstate M K) (h_personn : R_personn M K) (h_persons : R_persons M K) (h_personb : R_personb M K) (h_smoky : R_smoky M K) (h_calln : R_calln M K) (h_calls : R_calls M K) (h_opens : R_opens M K) (h_points : R_points M K) : ∃ v d, qf_X10_countFreeInside 20000 M = some v ∧ qf_X18_inSpaces 20000 K = some v ∧ qf_X4_countDone 20000 (qw M 1135 0 0 v) = some d ∧ qf_X14_done 20000 (-1) (qw K 2247 0 0 v) = some d ∧ qf_X18_smokes 20000 (-1) (qw (qw K 2247 0 0 v) 2247 1 0 d) = some (M 756 4 0) ∧ qf_X13_many 20000 (qw (qw (qw K 2247 0 0 v) 2247 1 0 d) 2247 2 0 (M 756 4 0)) = some (M 1337 4 0) ∧ R_points (ptA M v d) (ptB M K v d) := by
  have s_personn := h_personn
  unfold R_personn at s_personn
  have s_calln := h_calln
  unfold R_calln at s_calln
  have s_smoky := h_smoky
  unfold R_smoky at s_smoky
  have s_opens := h_opens
  unfold R_opens at s_opens
  obtain ⟨v, ev, hv⟩ := countFreeInside_r (psC_of h_personn h_persons h_personb)
  obtain ⟨w, ew, hw⟩ := inSpaces_r (M := K) (by omega) (by omega)
  have vw : w = v := by
    rw [hw, hv]
    exact free_eq h_personn h_persons h_personb
  rw [vw] at ew
  have vb : 0 ≤ v ∧ v ≤ M 756 7 0 := by
    rw [hv]
    exact sI_b s_personn.1 (fun _ _ _ => ite01)
  obtain ⟨d, ed, hd⟩ := countDone_r (M := qw M 1135 0 0 v)
  obtain ⟨d', ed', hd'⟩ := done_r (M := qw K 2247 0 0 v) (x := -1)
  have dd : d' = d := by
    have o : ∀ e x y, (e ≠ 1135) → qw M 1135 0 0 v e x y = M e x y := fun _ _ _ h => qw_a h
    have p : ∀ e x y, (e ≠ 2247) → qw K 2247 0 0 v e x y = K e x y := fun _ _ _ h => qw_a h
    have h1 : R_macts (qw M 1135 0 0 v) (qw K 2247 0 0 v) := (R_macts_x (M := M) (K := K) (fun i j => o 1197 i j (by decide)) (fun i j => o 1270 i j (by decide)) (fun i j => p 2219 i j (by decide)) (fun i j => p 2220 i j (by decide)) (fun i j => p 2221 i j (by decide)) (fun i j => p 2222 i j (by decide)) (fun i j => p 2223 i j (by decide)) (fun i j => p 2227 i j (by decide)) h_macts)
    have h2 : R_mstate (qw M 1135 0 0 v) (qw K 2247 0 0 v) := (R_mstate_x (M := M) (K := K) (o 6 12 0 (by decide)) (fun i j => o 1270 i j (by decide)) (fun i j => o 1271 i j (by decide)) (fun i j => o 1272 i j (by decide)) (fun i j => o 1273 i j (by decide)) (fun i j => p 2227 i j (by decide)) (fun i j => p 2228 i j (by decide)) (fun i j => p 2229 i j (by decide)) (fun i j => p 2230 i j (by decide)) h_mstate)
    exact hd'.trans ((done_eq h1 h2).trans hd.symm)
  rw [dd] at ed'
  have db : 0 ≤ d ∧ d ≤ 20 := by
    rw [hd]
    exact sI_b (by decide) (fun _ _ _ => ite01)
  obtain ⟨s, es, hs⟩ := smokes_r (M := qw (qw K 2247 0 0 v) 2247 1 0 d) (x := -1)
  have ss : s = M 756 4 0 := by
    rw [hs, s_smoky]
    refine sI_c (fun c _ _ => ?_)
    (try dsimp only)
    rw [qw_a (by decide), qw_a (by decide)]
    by_cases e : K 2326 c 0 = 0
    · rw [if_pos e, if_neg (fun x => x.1 e)]
    · rw [if_neg e, if_pos ⟨e, Or.inl (by decide)⟩]
  rw [ss] at es
  have sb : 0 ≤ M 756 4 0 ∧ M 756 4 0 ≤ 576 := by
    rw [s_smoky]
    refine sI_b (by decide) (fun c _ _ => ?_)
    (try dsimp only)
    by_cases e : K 2326 c 0 = 0
    · rw [if_pos e]
      omega
    · rw [if_neg e]
      omega
  obtain ⟨Z, hZ⟩ : ∃ Z, qw (qw (qw K 2247 0 0 v) 2247 1 0 d) 2247 2 0 (M 756 4 0) = Z := ⟨_, rfl⟩
  have o : ∀ e x y, (1 = 1) → M e x y = M e x y := fun _ _ _ _ => rfl
  have p : ∀ e x y, (e ≠ 2247) → Z e x y = K e x y := fun _ _ _ h => by
    rw [← hZ, qw_a h, qw_a h, qw_a h]
  have k1 : R_calls M Z := (R_calls_x (M := M) (K := K) (o 6 12 0 (by decide)) (o 1337 2 0 (by decide)) (fun i j => o 1343 i j (by decide)) (fun i j => p 2276 i j (by decide)) (fun i j => p 2277 i j (by decide)) (fun i j => p 2278 i j (by decide)) (fun i j => p 2279 i j (by decide)) h_calls)
  have k2 : R_opens M Z := (R_opens_x (M := M) (K := K) (o 1337 2 0 (by decide)) (o 1337 4 0 (by decide)) (fun i j => p 2279 i j (by decide)) h_opens)
  have k3 : R_calln M Z := (R_calln_x (M := M) (K := K) (o 1337 2 0 (by decide)) (p 2270 6 0 (by decide)) h_calln)
  have z6 : Z 2270 6 0 = K 2270 6 0 := p _ _ _ (by decide)
  obtain ⟨m, em, hm⟩ := many_r (M := Z) (by omega) (by omega)
  have mm : m = M 1337 4 0 := hm.trans (opens_eq2 k1 k2 k3)
  rw [mm] at em
  refine ⟨v, d, ev, ew, ed, ed', es, by rw [hZ]; exact em, fun i i0 i1 => ?_⟩
  have q := h_points i i0 i1
  unfold ptA ptB
  by_cases e3 : i = 3
  · rw [e3, qw_s, qw_s]
    omega
  · rw [qw_i e3, qw_i e3]
    by_cases e2 : i = 2
    · rw [e2, qw_s, qw_s]
      omega
    · rw [qw_i e2, qw_i e2]
      by_cases e1 : i = 1
      · rw [e1, qw_s, qw_s]
        omega
      · rw [qw_i e1, qw_i e1]
        by_cases e0 : i = 0
        · rw [e0, qw_s, qw_s]
          omega
        · rw [qw_i e0, qw_i e0]
          exact q
end PTb
