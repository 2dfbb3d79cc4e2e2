/-! ===== the reference's sides ===== -/
section SI
variable {M K A E G : qm} {n m p k v z l x y w c r i j a b s t L : Int}
def sF (G : qm) (s : Int) : Int := if s % 2 = 0 then (G 2177 (s / 2) 0) else (G 2178 (s / 2) 0)
def sT (G : qm) (s : Int) : Int := if s % 2 = 0 then (G 2178 (s / 2) 0) else (G 2177 (s / 2) 0)
def sL (G : qm) (s : Int) : Int := (G 2176 (s / 2) 0)
def sW (G : qm) (s : Int) : Int := (if (G 2160 (sL G s) 0) = 0 then 1 else 0) + 2 * (s % 2)
def sX (G : qm) (s : Int) : Int := (G 2174 (sF G s) 0)
def sY (G : qm) (s : Int) : Int := (G 2175 (sF G s) 0)
def sN (G : qm) (s : Int) : Int := (G 2174 (G 2178 (s / 2) 0) 0) - (G 2174 (G 2177 (s / 2) 0) 0) + (G 2175 (G 2178 (s / 2) 0) 0) - (G 2175 (G 2177 (s / 2) 0) 0)
theorem sF_e (s0 : 0 ≤ s) (s1 : s < 920) : qf_X16_sideFrom 20000 s G = some (sF G s) := by
  unfold qf_X16_sideFrom sF
  rw [Int.tdiv_eq_ediv_of_nonneg s0, Int.tmod_eq_emod_of_nonneg s0]
  by_cases g : s % 2 = 0
  · rw [if_pos g, if_pos g, if_pos (by omega)]
  · rw [if_neg g, if_neg g, if_pos (by omega)]
theorem sT_e (s0 : 0 ≤ s) (s1 : s < 920) : qf_X16_sideTo 20000 s G = some (sT G s) := by
  unfold qf_X16_sideTo sT
  rw [Int.tdiv_eq_ediv_of_nonneg s0, Int.tmod_eq_emod_of_nonneg s0]
  by_cases g : s % 2 = 0
  · rw [if_pos g, if_pos g, if_pos (by omega)]
  · rw [if_neg g, if_neg g, if_pos (by omega)]
theorem sW_e (s0 : 0 ≤ s) (s1 : s < 920) (l0 : 0 ≤ sL G s) (l1 : sL G s < 20) : qf_X16_sideWay 20000 s G = some (sW G s) := by
  unfold sL at l0 l1
  unfold qf_X16_sideWay qf_X16_sideWay_J21 sW sL
  rw [Int.tdiv_eq_ediv_of_nonneg s0, Int.tmod_eq_emod_of_nonneg s0, if_pos (by omega), if_pos (by omega), w32_id (x := 2 * (s % 2)) (by omega) (by omega), w32_id (x := 1 + 2 * (s % 2)) (by omega) (by omega), w32_id (x := 0 + 2 * (s % 2)) (by omega) (by omega)]
  split <;> rfl
/-- a side of a piece: where it is, and how long -/
def SDE (M A G : qm) (n s : Int) : Prop := PCE M A n (sX G s) (sY G s) (sW G s) (sN G s) ∧ wf A (sW G s) (sX G s) (sY G s) = sL G s ∧ 0 ≤ sL G s ∧ sL G s < n ∧ 0 ≤ sX G s ∧ sX G s ≤ 24 ∧ 0 ≤ sY G s ∧ sY G s ≤ 24 ∧ 0 ≤ sW G s ∧ sW G s ≤ 3 ∧ (G 2174 (sT G s) 0) = gx (sW G s) (sX G s) (sN G s) ∧ (G 2175 (sT G s) 0) = gy (sW G s) (sY G s) (sN G s) ∧ 0 ≤ sF G s ∧ sF G s < (G 2157 27 0) ∧ 0 ≤ sT G s ∧ sT G s < (G 2157 27 0)
theorem kp_lt (hP : PTS G m) (i0 : 0 ≤ i) (i1 : i < m) (j0 : 0 ≤ j) (j1 : j < m) (h : kp G i < kp G j) : i < j := by
  apply Classical.byContradiction
  intro z
  by_cases e : i = j
  · rw [e] at h
    omega
  · have := hP.2.2 j i j0 (by omega) i1
    omega
theorem kp_eq (hP : PTS G m) (i0 : 0 ≤ i) (i1 : i < m) (j0 : 0 ≤ j) (j1 : j < m) (h : kp G i = kp G j) : i = j := by
  rcases Int.lt_trichotomy i j with g | g | g
  · have := hP.2.2 i j i0 g j1
    omega
  · exact g
  · have := hP.2.2 j i j0 g i1
    omega
theorem ends_lt (h_ends : R_ends M K) (hP : PTS G m) (l0 : 0 ≤ l) (l1 : l < (M 7 0 0)) (h : IPC M G m l a b) : (lev M l ∧ (G 2175 a 0) = (M 8 l 1) ∧ (G 2175 b 0) = (M 8 l 1) ∧ (M 8 l 0) ≤ (G 2174 a 0) ∧ (G 2174 a 0) < (G 2174 b 0) ∧ (G 2174 b 0) ≤ (M 8 l 2)) ∨ (¬ lev M l ∧ (G 2174 a 0) = (M 8 l 0) ∧ (G 2174 b 0) = (M 8 l 0) ∧ (M 8 l 1) ≤ (G 2175 a 0) ∧ (G 2175 a 0) < (G 2175 b 0) ∧ (G 2175 b 0) ≤ (M 8 l 3)) := by
  obtain ⟨a0, ab, bm, oa, ob, _⟩ := h
  have lt := hP.2.2 a b a0 ab bm
  have el := ends_b h_ends l0 l1
  unfold kp at lt
  unfold onp onL at oa ob
  by_cases ll : lev M l
  · refine Or.inl ⟨ll, ?_⟩
    unfold lev at ll
    omega
  · refine Or.inr ⟨ll, ?_⟩
    unfold lev at ll
    omega
/-- between them no place is a point -/
theorem mid_no (h_ends : R_ends M K) (hA : WAL M A (M 7 0 0)) (hP : PTS G m) (hL : ∀ x y, pin G m x y ↔ PL M (M 7 0 0) (M 7 0 0) x y) (l0 : 0 ≤ l) (l1 : l < (M 7 0 0)) (h : IPC M G m l a b) (x0 : 0 ≤ x) (x1 : x ≤ 24) (y0 : 0 ≤ y) (y1 : y ≤ 24) (ho : onL M l x y) (k1 : kp G a < 25 * x + y) (k2 : 25 * x + y < kp G b) : ¬ PT M A (M 7 0 0) x y := by
  intro z
  obtain ⟨c, c0, c1, c2, c3⟩ := (hL x y).mpr ((PL_PT h_ends hA x0 x1 y0 y1).mpr z)
  obtain ⟨a0, ab, bm, oa, ob, no⟩ := h
  have ek : kp G c = 25 * x + y := by
    unfold kp
    rw [c2, c3]
  refine no c (kp_lt hP a0 (by omega) c0 c1 (by omega)) (kp_lt hP c0 c1 (by omega) bm (by omega)) ?_
  unfold onp
  rw [c2, c3]
  exact ho
/-- the lines lie as they lay -/
def PFL (M K E : qm) : Prop := ∀ l, 0 ≤ l → l < (M 7 0 0) → (E 2160 l 0) = (K 2160 l 0)
theorem PFL_p (h : PLS K E) : PFL M K E := fun l _ _ => h.2.2.1 l
theorem side_ok (h_lines : R_lines M K) (h_ends : R_ends M K) (h_alone : R_alone M K) (hA : WAL M A (M 7 0 0)) (hK : PFL M K E) (h : FPI M E G m p) (s0 : 0 ≤ s) (s1 : s < 2 * p) : SDE M A G (M 7 0 0) s := by
  obtain ⟨f1, f2, f3, f4, f5, f6, f7, f8, f9, f10, f11⟩ := h
  have w := f9 (s / 2) (by omega) (by omega)
  obtain ⟨l, hl⟩ : ∃ l, (G 2176 (s / 2) 0) = l := ⟨_, rfl⟩
  obtain ⟨a, ha⟩ : ∃ l, (G 2177 (s / 2) 0) = l := ⟨_, rfl⟩
  obtain ⟨b, hb⟩ : ∃ l, (G 2178 (s / 2) 0) = l := ⟨_, rfl⟩
  rw [hl, ha, hb] at w
  obtain ⟨l0, l1, ip⟩ := w
  have ee := ends_lt h_ends f2 l0 l1 ip
  have mid := fun x y => mid_no (x := x) (y := y) h_ends hA f2 f5 l0 l1 ip
  obtain ⟨a0, ab, bm, oa, ob, no⟩ := ip
  have el := ends_b h_ends l0 l1
  have bA := f2.2.1 a a0 (by omega)
  have bB := f2.2.1 b (by omega) bm
  have pA : PT M A (M 7 0 0) (G 2174 a 0) (G 2175 a 0) := (PL_PT h_ends hA bA.1 bA.2.1 bA.2.2.1 bA.2.2.2).mp ((f5 _ _).mp ⟨a, a0, by omega, rfl, rfl⟩)
  have pB : PT M A (M 7 0 0) (G 2174 b 0) (G 2175 b 0) := (PL_PT h_ends hA bB.1 bB.2.1 bB.2.2.1 bB.2.2.2).mp ((f5 _ _).mp ⟨b, by omega, bm, rfl, rfl⟩)
  have fl : (G 2160 l 0) = (K 2160 l 0) := (f1 _ l 0 (Or.inl (by decide)) (by omega)).trans (hK l l0 l1)
  have lf := lev_f h_ends l0 l1
  have kA : kp G a = 25 * (G 2174 a 0) + (G 2175 a 0) := rfl
  have kB : kp G b = 25 * (G 2174 b 0) + (G 2175 b 0) := rfl
  have eL : sL G s = l := hl
  have eN : sN G s = (G 2174 b 0) - (G 2174 a 0) + (G 2175 b 0) - (G 2175 a 0) := by
    unfold sN
    rw [ha, hb]
  obtain ⟨X, hX⟩ : ∃ v, (G 2174 a 0) = v := ⟨_, rfl⟩
  obtain ⟨Y, hY⟩ : ∃ v, (G 2175 a 0) = v := ⟨_, rfl⟩
  obtain ⟨U, hU⟩ : ∃ v, (G 2174 b 0) = v := ⟨_, rfl⟩
  obtain ⟨V, hV⟩ : ∃ v, (G 2175 b 0) = v := ⟨_, rfl⟩
  rw [hX, hY, hU, hV] at ee eN
  rw [hX, hY] at bA pA kA
  rw [hU, hV] at bB pB kB
  have par : s % 2 = 0 ∨ s % 2 = 1 := by omega
  rcases par with g | g
  · have eF : sF G s = a := by unfold sF; rw [if_pos g]; exact ha
    have eT : sT G s = b := by unfold sT; rw [if_pos g]; exact hb
    have eX : sX G s = X := by unfold sX; rw [eF]; exact hX
    have eY : sY G s = Y := by unfold sY; rw [eF]; exact hY
    rcases ee with ⟨ll, e1, e2, e3, e4, e5⟩ | ⟨ll, e1, e2, e3, e4, e5⟩
    · have eW : sW G s = 0 := by
        have : (G 2160 (sL G s) 0) = 1 := by
          rw [eL, fl]
          rcases lf with z | z
          · exact z.1
          · exact absurd ll z.2
        unfold sW
        rw [this, if_neg (by decide)]
        omega
      have q : ∀ j, 0 ≤ j → j < sN G s → wf A 0 (X + j) Y = l := fun j j0 j1 => wf_is h_ends h_alone hA (by omega) (by omega) (by omega) (by omega) (by decide) (by decide) l0 l1 (Or.inl ⟨rfl, Or.inl ⟨rfl, ll, by omega, by omega, by omega⟩⟩)
      have q0 := q 0 (by decide) (by omega)
      rw [Int.add_zero] at q0
      unfold SDE
      rw [eW, eX, eY, eL, eT, eF, f3, hU, hV]
      refine ⟨⟨by omega, by omega, fun j j0 j1 => ?_, fun j j0 j1 => ?_, fun j j0 j1 => ?_, ?_⟩, q0, l0, l1, by omega, by omega, by omega, by omega, by decide, by decide, ?_, ?_, a0, by omega, by omega, bm⟩
      · show 0 ≤ X + j ∧ X + j ≤ 24 ∧ 0 ≤ Y ∧ Y ≤ 24
        omega
      · rw [q0]
        exact q j j0 j1
      · show ¬ PT M A (M 7 0 0) (X + j) Y
        exact mid _ _ (by omega) (by omega) (by omega) (by omega) (by unfold onL; unfold lev at ll; omega) (by omega) (by omega)
      · show PT M A (M 7 0 0) (X + sN G s) Y
        rw [show X + sN G s = U by omega, show Y = V by omega]
        exact pB
      · show U = X + sN G s
        omega
      · show V = Y
        omega
    · have eW : sW G s = 1 := by
        have : (G 2160 (sL G s) 0) = 0 := by
          rw [eL, fl]
          rcases lf with z | z
          · exact absurd z.2 ll
          · exact z.1
        unfold sW
        rw [this, if_pos rfl]
        omega
      have q : ∀ j, 0 ≤ j → j < sN G s → wf A 1 X (Y + j) = l := fun j j0 j1 => wf_is h_ends h_alone hA (by omega) (by omega) (by omega) (by omega) (by decide) (by decide) l0 l1 (Or.inr (Or.inl ⟨rfl, Or.inr ⟨rfl, ll, by omega, by omega, by omega⟩⟩))
      have q0 := q 0 (by decide) (by omega)
      rw [Int.add_zero] at q0
      unfold SDE
      rw [eW, eX, eY, eL, eT, eF, f3, hU, hV]
      refine ⟨⟨by omega, by omega, fun j j0 j1 => ?_, fun j j0 j1 => ?_, fun j j0 j1 => ?_, ?_⟩, q0, l0, l1, by omega, by omega, by omega, by omega, by decide, by decide, ?_, ?_, a0, by omega, by omega, bm⟩
      · show 0 ≤ X ∧ X ≤ 24 ∧ 0 ≤ Y + j ∧ Y + j ≤ 24
        omega
      · rw [q0]
        exact q j j0 j1
      · show ¬ PT M A (M 7 0 0) X (Y + j)
        exact mid _ _ (by omega) (by omega) (by omega) (by omega) (by unfold onL; unfold lev at ll; omega) (by omega) (by omega)
      · show PT M A (M 7 0 0) X (Y + sN G s)
        rw [show Y + sN G s = V by omega, show X = U by omega]
        exact pB
      · show U = X
        omega
      · show V = Y + sN G s
        omega
  · have g0 : ¬ s % 2 = 0 := by omega
    have eF : sF G s = b := by unfold sF; rw [if_neg g0]; exact hb
    have eT : sT G s = a := by unfold sT; rw [if_neg g0]; exact ha
    have eX : sX G s = U := by unfold sX; rw [eF]; exact hU
    have eY : sY G s = V := by unfold sY; rw [eF]; exact hV
    rcases ee with ⟨ll, e1, e2, e3, e4, e5⟩ | ⟨ll, e1, e2, e3, e4, e5⟩
    · have eW : sW G s = 2 := by
        have : (G 2160 (sL G s) 0) = 1 := by
          rw [eL, fl]
          rcases lf with z | z
          · exact z.1
          · exact absurd ll z.2
        unfold sW
        rw [this, if_neg (by decide)]
        omega
      have q : ∀ j, 0 ≤ j → j < sN G s → wf A 2 (U - j) V = l := fun j j0 j1 => wf_is h_ends h_alone hA (by omega) (by omega) (by omega) (by omega) (by decide) (by decide) l0 l1 (Or.inr (Or.inr (Or.inl ⟨rfl, Or.inl ⟨rfl, ll, by omega, by omega, by omega⟩⟩)))
      have q0 := q 0 (by decide) (by omega)
      rw [Int.sub_zero] at q0
      unfold SDE
      rw [eW, eX, eY, eL, eT, eF, f3, hX, hY]
      refine ⟨⟨by omega, by omega, fun j j0 j1 => ?_, fun j j0 j1 => ?_, fun j j0 j1 => ?_, ?_⟩, q0, l0, l1, by omega, by omega, by omega, by omega, by decide, by decide, ?_, ?_, by omega, bm, a0, by omega⟩
      · show 0 ≤ U - j ∧ U - j ≤ 24 ∧ 0 ≤ V ∧ V ≤ 24
        omega
      · rw [q0]
        exact q j j0 j1
      · show ¬ PT M A (M 7 0 0) (U - j) V
        exact mid _ _ (by omega) (by omega) (by omega) (by omega) (by unfold onL; unfold lev at ll; omega) (by omega) (by omega)
      · show PT M A (M 7 0 0) (U - sN G s) V
        rw [show U - sN G s = X by omega, show V = Y by omega]
        exact pA
      · show X = U - sN G s
        omega
      · show Y = V
        omega
    · have eW : sW G s = 3 := by
        have : (G 2160 (sL G s) 0) = 0 := by
          rw [eL, fl]
          rcases lf with z | z
          · exact absurd z.2 ll
          · exact z.1
        unfold sW
        rw [this, if_pos rfl]
        omega
      have q : ∀ j, 0 ≤ j → j < sN G s → wf A 3 U (V - j) = l := fun j j0 j1 => wf_is h_ends h_alone hA (by omega) (by omega) (by omega) (by omega) (by decide) (by decide) l0 l1 (Or.inr (Or.inr (Or.inr ⟨rfl, Or.inr ⟨rfl, ll, by omega, by omega, by omega⟩⟩)))
      have q0 := q 0 (by decide) (by omega)
      rw [Int.sub_zero] at q0
      unfold SDE
      rw [eW, eX, eY, eL, eT, eF, f3, hX, hY]
      refine ⟨⟨by omega, by omega, fun j j0 j1 => ?_, fun j j0 j1 => ?_, fun j j0 j1 => ?_, ?_⟩, q0, l0, l1, by omega, by omega, by omega, by omega, by decide, by decide, ?_, ?_, by omega, bm, a0, by omega⟩
      · show 0 ≤ U ∧ U ≤ 24 ∧ 0 ≤ V - j ∧ V - j ≤ 24
        omega
      · rw [q0]
        exact q j j0 j1
      · show ¬ PT M A (M 7 0 0) U (V - j)
        exact mid _ _ (by omega) (by omega) (by omega) (by omega) (by unfold onL; unfold lev at ll; omega) (by omega) (by omega)
      · show PT M A (M 7 0 0) U (V - sN G s)
        rw [show V - sN G s = Y by omega, show U = X by omega]
        exact pA
      · show X = U
        omega
      · show Y = V - sN G s
        omega
end SI
