section BX
variable {M K A B C D D0 E F G H T V K0 M0 : qm} {a b c d k n m p r q' s t u v x y h i j R S w x1 x2 L N : Int} {q stt cnt o f : Int → Int} {P : Int → Prop}
theorem sI_even (hp : 0 ≤ p) : sI f (2 * p) = sI (fun q => f (2 * q) + f (2 * q + 1)) p := by
  have key : ∀ k : Nat, sI f (2 * k) = sI (fun q => f (2 * q) + f (2 * q + 1)) k := by
    intro k
    induction k with
    | zero => rfl
    | succ k ih =>
      rw [show ((k + 1 : Nat) : Int) = (k : Int) + 1 by omega, show 2 * ((k : Int) + 1) = 2 * k + 1 + 1 by omega, sI_s (by omega), sI_s (by omega), ih, sI_s (f := fun q => f (2 * q) + f (2 * q + 1)) (by omega)]
      omega
  have q := key p.toNat
  rw [show ((p.toNat : Nat) : Int) = p by omega] at q
  exact q
/-- the number of a unit: its low place, and its direction -/
def uky (x y d : Int) : Int := 2 * (25 * x + y) + d
def memU (G : qm) (s v : Int) : Prop := ∃ i, 0 ≤ i ∧ i < sN G (2 * s) ∧ v = uky (gx (sW G (2 * s)) (sX G (2 * s)) i) (gy (sW G (2 * s)) (sY G (2 * s)) i) (sW G (2 * s))
theorem memU_w (h : FNW M K M0 K0 A D0 D E F G H C q m p R stt cnt) (s0 : 0 ≤ s) (s1 : s < p) : (sW G (2 * s) = 0 ∨ sW G (2 * s) = 1) ∧ (∀ i, 0 ≤ i → i < sN G (2 * s) → 0 ≤ gx (sW G (2 * s)) (sX G (2 * s)) i ∧ gx (sW G (2 * s)) (sX G (2 * s)) i ≤ 24 ∧ 0 ≤ gy (sW G (2 * s)) (sY G (2 * s)) i ∧ gy (sW G (2 * s)) (sY G (2 * s)) i ≤ 24 ∧ wf A (sW G (2 * s)) (gx (sW G (2 * s)) (sX G (2 * s)) i) (gy (sW G (2 * s)) (sY G (2 * s)) i) ≠ -1) ∧ 0 ≤ sN G (2 * s) ∧ sN G (2 * s) ≤ 24 := by
  have ok := (fnw_ok h (by omega : 0 ≤ 2 * s) (by omega)).1
  refine ⟨?_, fun i i0 i1 => ?_, ?_, ?_⟩
  · unfold sW
    rw [show (2 * s) % 2 = 0 by omega]
    split
    · exact Or.inr rfl
    · exact Or.inl rfl
  · have r := ok.1.2.2.1 i i0 (by omega)
    have w := ok.1.2.2.2.1 i i0 i1
    refine ⟨r.1, r.2.1, r.2.2.1, r.2.2.2, ?_⟩
    rw [w, ok.2.1]
    have := ok.2.2.1
    omega
  · have := ok.1.1
    omega
  · exact ok.1.2.1
theorem memU_cnt (h : FNW M K M0 K0 A D0 D E F G H C q m p R stt cnt) (s0 : 0 ≤ s) (s1 : s < p) : sI (fun v => b01 (memU G s v)) 1250 = sN G (2 * s) := by
  obtain ⟨w, u, n0, n24⟩ := memU_w h s0 s1
  have e := inj_eq (N := 1250) (sN G (2 * s)).toNat (fun v => memU G s v) (fun i => uky (gx (sW G (2 * s)) (sX G (2 * s)) i) (gy (sW G (2 * s)) (sY G (2 * s)) i) (sW G (2 * s))) (fun i a b => by
    have z := u i a (by omega)
    refine ⟨?_, ?_, i, a, by omega, rfl⟩
    · unfold uky
      omega
    · unfold uky
      omega) (fun i j a b c z => by
    have zi := u i a (by omega)
    have zj := u j (by omega) (by omega)
    have eq : gx (sW G (2 * s)) (sX G (2 * s)) i = gx (sW G (2 * s)) (sX G (2 * s)) j ∧ gy (sW G (2 * s)) (sY G (2 * s)) i = gy (sW G (2 * s)) (sY G (2 * s)) j := by
      (try dsimp only at z)
      unfold uky at z
      omega
    have o := unit_one h s0 s1 s0 s1 rfl rfl a (by omega) (by omega) (by omega) eq.1 eq.2
    omega) (fun v v0 v1 z => by
    obtain ⟨i, i0, i1, e⟩ := z
    exact ⟨i, i0, by omega, e.symm⟩)
  rw [e]
  omega
/-- the units of walls that two spaces have between them, piece by piece -/
theorem betw_sum (h : FNW M K M0 K0 A D0 D E F G H C q m p R stt cnt) {c : Int → Int → Prop} : sI (fun v => b01 (wf A (v % 2) (v / 50) (v / 2 % 25) ≠ -1 ∧ c (lfo (oF D) (-1) (v / 50) (v / 2 % 25) (v % 2)) (lfo (oF D) (-1) (v / 50) (v / 2 % 25) (rgt (v % 2))))) 1250 = sI (fun s => b01 (c (lfs D G (2 * s)) (lfs D G (2 * s + 1))) * sN G (2 * s)) p := by
  have fp := fnw_fpi h
  have p0 := fp.2.1.2.2.2.2.2.2.1
  have pt : ∀ v, 0 ≤ v → v < 1250 → b01 (wf A (v % 2) (v / 50) (v / 2 % 25) ≠ -1 ∧ c (lfo (oF D) (-1) (v / 50) (v / 2 % 25) (v % 2)) (lfo (oF D) (-1) (v / 50) (v / 2 % 25) (rgt (v % 2)))) = sI (fun s => b01 (memU G s v) * b01 (c (lfs D G (2 * s)) (lfs D G (2 * s + 1)))) p := by
    intro v v0 v1
    have ux : ∀ x y d, 0 ≤ x → x ≤ 24 → 0 ≤ y → y ≤ 24 → 0 ≤ d → d ≤ 1 → v = uky x y d → v / 50 = x ∧ v / 2 % 25 = y ∧ v % 2 = d := fun x y d a b c e f g z => by
      unfold uky at z
      omega
    by_cases g : wf A (v % 2) (v / 50) (v / 2 % 25) ≠ -1
    · obtain ⟨s, j, s0, s1, s2, j0, j1, jx, jy⟩ := unit_piece h (x := v / 50) (y := v / 2 % 25) (d := v % 2) (by omega) (by omega) (by omega) (by omega) (by omega) (by omega) g
      have hm : memU G s v := ⟨j, j0, j1, by rw [s2, jx, jy]; unfold uky; omega⟩
      have lr := unit_lr h s0 s1 j0 j1
      rw [s2, jx, jy] at lr
      have e1 : sI (fun t => b01 (memU G t v) * b01 (c (lfs D G (2 * t)) (lfs D G (2 * t + 1)))) p = sI (fun t => if t = s then b01 (c (lfs D G (2 * t)) (lfs D G (2 * t + 1))) else 0) p := sI_c (fun t t0 t1 => by
        (try dsimp only)
        by_cases e : t = s
        · rw [if_pos e, e, b01_t hm, Int.one_mul]
        · rw [if_neg e, b01_f, Int.zero_mul]
          rintro ⟨i, i0, i1, ei⟩
          have mw := memU_w h t0 t1
          have z := mw.2.1 i i0 i1
          have w := ux _ _ _ z.1 z.2.1 z.2.2.1 z.2.2.2.1 (by omega) (by omega) ei
          refine e (unit_one h t0 t1 s0 s1 w.2.2.symm s2 i0 i1 j0 j1 ?_ ?_).1
          · rw [jx, w.2.2]
            exact w.1.symm
          · rw [jy, w.2.2]
            exact w.2.1.symm)
      have e2 := sI_one (f := fun t => b01 (c (lfs D G (2 * t)) (lfs D G (2 * t + 1)))) (c := s) (n := p) s0 s1
      (try dsimp only at e2)
      rw [e1, e2]
      refine b01_c ⟨fun z => ?_, fun z => ⟨g, ?_⟩⟩
      · have := z.2
        rw [lr.1, lr.2] at this
        exact this
      · rw [lr.1, lr.2]
        exact z
    · rw [b01_f (fun z => g z.1)]
      refine (sI_none (fun t t0 t1 => ?_)).symm
      (try dsimp only)
      rw [b01_f, Int.zero_mul]
      rintro ⟨i, i0, i1, ei⟩
      have mw := memU_w h t0 t1
      have z := mw.2.1 i i0 i1
      have w := ux _ _ _ z.1 z.2.1 z.2.2.1 z.2.2.2.1 (by omega) (by omega) ei
      rw [w.1, w.2.1, w.2.2] at g
      exact g z.2.2.2.2
  rw [sI_c pt, sI_swap]
  refine sI_c (fun s s0 s1 => ?_)
  (try dsimp only)
  rw [sI_mulr, memU_cnt h s0 s1, Int.mul_comm]
end BX
