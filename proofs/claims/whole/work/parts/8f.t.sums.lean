/-! ===== the giving: the reference's numbers of givings ===== -/
section GVt
variable {M K A Z X Y V : qm} {a b d i q v w T y : Int} {c n s x cs C : Nat} {l t u pre E D : List Int} {B : Int × List Int}
def upl (m : Nat) : List Int := rl (fun k => k) m 0
theorem upl_s (m : Nat) : upl (m + 1) = upl m ++ [(m : Int)] := by
  unfold upl
  rw [rl_snoc]
  show _ ++ [0 + (m : Int)] = _
  rw [Int.zero_add]
theorem upl_l (m : Nat) : (upl m).length = m := rl_len m 0
theorem upl_in {m : Nat} {y : Int} (h : y ∈ upl m) : 0 ≤ y ∧ y < m := by
  obtain ⟨i, i0, i1, i2⟩ := rl_in m 0 y h
  have i2' : i = y := i2
  omega
theorem upl_of {m : Nat} {y : Int} (y0 : 0 ≤ y) (y1 : y < m) : y ∈ upl m := rl_mem (f := fun k => k) m 0 y y0 (by omega)
theorem upl_pw : ∀ (m : Nat), (upl m).Pairwise (· < ·) := by
  intro m
  induction m with
  | zero => exact List.Pairwise.nil
  | succ m ih =>
    rw [upl_s, List.pairwise_append]
    refine ⟨ih, List.pairwise_singleton _ _, fun a ha b hb => ?_⟩
    rw [List.mem_singleton] at hb
    have := upl_in ha
    omega
theorem dig_l : ∀ (m i : Nat), (dig cs m i).length = m := by
  intro m
  induction m with
  | zero => exact fun _ => rfl
  | succ m ih =>
    intro i
    show (dig cs m (i / cs) ++ [((i % cs : Nat) : Int)]).length = m + 1
    rw [List.length_append, ih]
    rfl
theorem bitsl_K (hC : K 2270 14 0 = C) (C6 : C ≤ 6) (hcs : K 2270 0 0 = cs) (c4 : cs ≤ 4) (hp : 0 < C → 0 < cs) : ∀ (m i t N : Nat), m ≤ C → m < N → t < 64 → i ≤ 100000 → (∀ j, j < m → bitN t j = false) → qf_X13_bitsOf_L13 20000 N c t i ((m : Int) - 1) K = some (.inr ((t + shb (upl m) (dig cs m i) c : Nat) : Int)) := by
  intro m
  induction m with
  | zero =>
    intro i t N mC mN t64 iB hb
    obtain ⟨N', rfl⟩ : ∃ N', N = N' + 1 := ⟨N - 1, by omega⟩
    show qloop _ (N' + 1) ((c : Int), (t : Int), (i : Int), ((0 : Nat) : Int) - 1) = _
    rw [qloop.eq_2]
    (try dsimp only)
    have b : qf_X13_bitsOf_L13_b 20000 c t i (((0 : Nat) : Int) - 1) K = some (.inl (.inr (t : Int))) := by
      unfold qf_X13_bitsOf_L13_b
      rw [if_pos (by omega)]
    rw [b]
    rfl
  | succ m ih =>
    intro i t N mC mN t64 iB hb
    obtain ⟨N', rfl⟩ : ∃ N', N = N' + 1 := ⟨N - 1, by omega⟩
    have c0 := hp (by omega)
    have off := hb m (by omega)
    have le : i / cs ≤ i := Nat.div_le_self i cs
    have et : Int.tmod (i : Int) (cs : Int) = ((i % cs : Nat) : Int) := by
      rw [Int.tmod_eq_emod_of_nonneg (by omega)]
      rfl
    have ed : Int.tdiv (i : Int) (cs : Int) = ((i / cs : Nat) : Int) := by
      rw [Int.tdiv_eq_ediv_of_nonneg (by omega)]
      rfl
    have dg : dig cs (m + 1) i = dig cs m (i / cs) ++ [((i % cs : Nat) : Int)] := rfl
    obtain ⟨dq, hdq⟩ : ∃ d : Nat, i / cs = d := ⟨_, rfl⟩
    obtain ⟨rm, hrm⟩ : ∃ d : Nat, i % cs = d := ⟨_, rfl⟩
    rw [hdq] at le ed dg
    rw [hrm] at et dg
    obtain ⟨t', ht'⟩ : ∃ t' : Nat, (t + if (rm : Int) = (c : Int) then 2 ^ m else 0) = t' := ⟨_, rfl⟩
    have st : qf_X13_bitsOf_L13_b 20000 c t i (((m + 1 : Nat) : Int) - 1) K = some (.inr ((c : Int), (t' : Int), (dq : Int), (m : Int) - 1)) := by
      unfold qf_X13_bitsOf_L13_b qf_X13_bitsOf_J38
      rw [hcs, et, ed, show ((m + 1 : Nat) : Int) - 1 = m by omega, if_neg (show ¬ (m : Int) < 0 by omega), if_neg (show ¬ (cs : Int) = 0 by omega), if_neg (show ¬ (cs : Int) = 0 by omega), bit_o t64 (show m < 6 by omega), off, if_neg (show ¬ false = true by decide), bO_z t64, w32_id (x := (dq : Int)) (by omega) (by omega), w32_id (x := (m : Int) - 1) (by omega) (by omega)]
      by_cases g : (rm : Int) = (c : Int)
      · rw [if_pos g] at ht' ⊢
        rw [ht']
      · rw [if_neg g] at ht' ⊢
        rw [← ht', Nat.add_zero, if_neg (show ¬ (cs : Int) = 0 by omega)]
    show qloop _ (N' + 1) ((c : Int), (t : Int), (i : Int), ((m + 1 : Nat) : Int) - 1) = _
    rw [qloop.eq_2]
    (try dsimp only)
    rw [st]
    (try dsimp only)
    have t64' : t' < 64 := by
      rw [← ht']
      by_cases g : (rm : Int) = (c : Int)
      · rw [if_pos g]
        exact bit_lt t64 (by omega) off
      · rw [if_neg g]
        omega
    have r := ih dq t' N' (by omega) (by omega) t64' (by omega) (fun j j1 => by
      rw [← ht']
      by_cases g : (rm : Int) = (c : Int)
      · rw [if_pos g, bit_add t64 (by omega) (by omega) off, hb j (by omega)]
        simp
        omega
      · rw [if_neg g, Nat.add_zero]
        exact hb j (by omega))
    refine Eq.trans r ?_
    have e : shb (upl (m + 1)) (dig cs (m + 1) i) c = shb (upl m) (dig cs m dq) c + (if (rm : Int) = (c : Int) then 2 ^ m else 0) := by
      rw [upl_s, dg, shb_app _ _ (by rw [upl_l, dig_l])]
      show _ + ((if (rm : Int) = (c : Int) then 2 ^ ((m : Int)).toNat else 0) + 0) = _
      rw [show ((m : Int)).toNat = m by omega, Nat.add_zero]
    rw [e, ← ht']
    refine congrArg some (congrArg Sum.inr ?_)
    omega
theorem bitsOf_K (hC : K 2270 14 0 = C) (C6 : C ≤ 6) (hcs : K 2270 0 0 = cs) (c4 : cs ≤ 4) (hp : 0 < C → 0 < cs) (hi : x ≤ 100000) : qf_X13_bitsOf 20000 x c K = some ((shb (upl C) (dig cs C x) c : Nat) : Int) := by
  have r := bitsl_K (c := c) hC C6 hcs c4 hp C x 0 20000 (Nat.le_refl _) (by omega) (by decide) hi (fun j _ => bit_0 j)
  unfold qf_X13_bitsOf
  rw [hC, w32_id (x := (C : Int) - 1) (by omega) (by omega)]
  have r' : qf_X13_bitsOf_L13 20000 20000 c 0 x ((C : Int) - 1) K = some (.inr ((0 + shb (upl C) (dig cs C x) c : Nat) : Int)) := r
  rw [r', Nat.zero_add]
  rfl
noncomputable def smR (K : qm) (cs C : Nat) (D : List Int) : Int := sI (fun c => K 2283 (64 * c + ((shb (upl C) D c.toNat : Nat) : Int)) 0) cs
theorem sumOf_K (hC : K 2270 14 0 = C) (C6 : C ≤ 6) (hcs : K 2270 0 0 = cs) (c4 : cs ≤ 4) (hp : 0 < C → 0 < cs) (hR : ∀ c x : Nat, c < cs → x < 2 ^ C → 0 ≤ K 2283 (64 * (c : Int) + x) 0 ∧ K 2283 (64 * (c : Int) + x) 0 ≤ 1152921504606846976) (hi : x ≤ 100000) : qf_X13_sumOf 20000 x K = some (smR K cs C (dig cs C x)) := by
  have p6 := (pow_6 C6).2
  obtain ⟨o, e1, v, rfl, hv⟩ : qW (qf_X13_sumOf_L5 20000 20000 x 0 0 K) (fun o => ∃ v, o = .inr v ∧ v = smR K cs C (dig cs C x)) := by
    unfold qf_X13_sumOf_L5
    refine qW_for cs (fun i s => ∃ v, s = ((x : Int), v, i) ∧ v = sI (fun c => K 2283 (64 * c + ((shb (upl C) (dig cs C x) c.toNat : Nat) : Int)) 0) i ∧ 0 ≤ v ∧ v ≤ 1152921504606846976 * i) ?_ ?_ ⟨0, rfl, (sI_0).symm, by omega, by omega⟩ (by omega) (by omega)
    · rintro i _ i0 i1 ⟨v, rfl, hv, v0, v1⟩
      have lt := shb_lt (c := i.toNat) (D := dig cs C x) C6 (upl_pw C) (fun k h => upl_in h)
      have be := bitsOf_K (c := i.toNat) hC C6 hcs c4 hp hi
      have r := hR i.toNat _ (by omega) lt
      obtain ⟨P, hP⟩ : ∃ P : Nat, 2 ^ C = P := ⟨_, rfl⟩
      rw [hP] at lt p6
      obtain ⟨S, hS⟩ : ∃ S : Int, ((shb (upl C) (dig cs C x) i.toNat : Nat) : Int) = S := ⟨_, rfl⟩
      have S0 : 0 ≤ S := by omega
      have S1 : S < 64 := by omega
      rw [hS, show ((i.toNat : Nat) : Int) = i by omega] at be r
      obtain ⟨Q, hQ⟩ : ∃ Q : Int, K 2283 (64 * i + S) 0 = Q := ⟨_, rfl⟩
      rw [hQ] at r
      show qW (qf_X13_sumOf_L5_b 20000 x v i K) _
      unfold qf_X13_sumOf_L5_b
      rw [if_neg (show ¬ K 2270 0 0 ≤ i by omega), be]
      simp only [Option.bind_some]
      rw [w32_id (x := 64 * i) (by omega) (by omega), w32_id (x := 64 * i + S) (by omega) (by omega), if_pos (show 0 ≤ 64 * i + S ∧ 64 * i + S < 256 by omega), hQ, w64_id (x := v + Q) (by omega) (by omega), w32_id (x := i + 1) (by omega) (by omega)]
      refine qW_some ⟨_, rfl, ?_, by omega, by omega⟩
      rw [sI_s i0, ← hv]
      show v + Q = v + K 2283 (64 * i + ((shb (upl C) (dig cs C x) i.toNat : Nat) : Int)) 0
      rw [hS, hQ]
    · rintro _ ⟨v, rfl, hv, v0, v1⟩
      show qW (qf_X13_sumOf_L5_b 20000 x v cs K) _
      unfold qf_X13_sumOf_L5_b
      rw [if_pos (show K 2270 0 0 ≤ (cs : Int) by omega)]
      exact qW_some ⟨v, rfl, hv⟩
  unfold qf_X13_sumOf
  rw [e1]
  simp only [Option.bind_some]
  rw [hv]
theorem pow_46 (c4 : cs ≤ 4) (C6 : C ≤ 6) : cs ^ C ≤ 4096 := Nat.le_trans (Nat.pow_le_pow_left c4 C) (Nat.le_trans (Nat.pow_le_pow_right (by decide) C6) (by decide))
theorem all_K (hC : K 2270 14 0 = C) (C6 : C ≤ 6) (hcs : K 2270 0 0 = cs) (c4 : cs ≤ 4) : qf_X13_give_L8 20000 20000 1 0 K = some (.inr ((cs ^ C : Nat) : Int)) := by
  obtain ⟨o, e1, ho⟩ : qW (qf_X13_give_L8 20000 20000 1 0 K) (fun o => o = .inr ((cs ^ C : Nat) : Int)) := by
    unfold qf_X13_give_L8
    refine qW_for C (fun i s => s = (((cs ^ i.toNat : Nat) : Int), i)) ?_ ?_ rfl (by omega) (by omega)
    · rintro i _ i0 i1 rfl
      obtain ⟨I, rfl⟩ : ∃ I : Nat, i = I := ⟨i.toNat, by omega⟩
      have p := pow_46 (C := I + 1) c4 (by omega)
      have e : ((cs ^ I : Nat) : Int) * (cs : Int) = ((cs ^ (I + 1) : Nat) : Int) := by
        rw [Nat.pow_succ]
        rfl
      show qW (qf_X13_give_L8_b 20000 ((cs ^ ((I : Int)).toNat : Nat) : Int) I K) _
      unfold qf_X13_give_L8_b
      rw [if_neg (show ¬ K 2270 14 0 ≤ (I : Int) by omega), hcs, show ((I : Int)).toNat = I by omega, e, w32_id (x := ((cs ^ (I + 1) : Nat) : Int)) (by omega) (by omega), w32_id (x := (I : Int) + 1) (by omega) (by omega)]
      refine qW_some ?_
      rw [show ((I : Int) + 1).toNat = I + 1 by omega]
    · rintro _ rfl
      show qW (qf_X13_give_L8_b 20000 ((cs ^ ((C : Int)).toNat : Nat) : Int) C K) _
      unfold qf_X13_give_L8_b
      rw [if_pos (by omega), show ((C : Int)).toNat = C by omega]
      exact qW_some rfl
  rw [e1, ho]
theorem dig_all2 (h : 0 < C → 0 < cs) : (List.range (cs ^ C)).map (dig cs C) = asg cs C := by
  by_cases g : 0 < C
  · exact dig_all (h g) C
  · rw [show C = 0 by omega, Nat.pow_zero]
    rfl
theorem best_K (hC : K 2270 14 0 = C) (C6 : C ≤ 6) (hcs : K 2270 0 0 = cs) (c4 : cs ≤ 4) (hp : 0 < C → 0 < cs) (hR : ∀ c x : Nat, c < cs → x < 2 ^ C → 0 ≤ K 2283 (64 * (c : Int) + x) 0 ∧ K 2283 (64 * (c : Int) + x) 0 ≤ 1152921504606846976) : ∃ (v : Int) (i : Nat), qf_X13_give_L79 20000 20000 ((cs ^ C : Nat) : Int) 1152921504606846976 0 0 K = some (.inr (v, (i : Int))) ∧ i ≤ 4096 ∧ (asg cs C).foldl (bs1 (smR K cs C) (fun _ => True)) (1152921504606846976, dig cs C 0) = (v, dig cs C i) := by
  have p := pow_46 (C := C) c4 C6
  obtain ⟨P, hP⟩ : ∃ P : Nat, cs ^ C = P := ⟨_, rfl⟩
  obtain ⟨o, e1, v, i, rfl, ho, hi⟩ : qW (qf_X13_give_L79 20000 20000 ((cs ^ C : Nat) : Int) 1152921504606846976 0 0 K) (fun o => ∃ (v : Int) (i : Nat), o = .inr (v, (i : Int)) ∧ i ≤ 4096 ∧ ((List.range P).map (dig cs C)).foldl (bs1 (smR K cs C) (fun _ => True)) (1152921504606846976, dig cs C 0) = (v, dig cs C i)) := by
    rw [hP] at p ⊢
    unfold qf_X13_give_L79
    refine qW_for P (fun j s => ∃ (v : Int) (i : Nat), s = ((P : Int), v, (i : Int), j) ∧ (i : Int) ≤ j ∧ ((List.range j.toNat).map (dig cs C)).foldl (bs1 (smR K cs C) (fun _ => True)) (1152921504606846976, dig cs C 0) = (v, dig cs C i)) ?_ ?_ ⟨1152921504606846976, 0, rfl, by omega, rfl⟩ (by omega) (by omega)
    · rintro j _ j0 j1 ⟨v, i, rfl, h1, h2⟩
      obtain ⟨J, rfl⟩ : ∃ J : Nat, j = J := ⟨j.toNat, by omega⟩
      have se := sumOf_K (x := J) hC C6 hcs c4 hp hR (by omega)
      rw [show ((J : Int)).toNat = J by omega] at h2
      have nx : ∀ (v' : Int) (i' : Nat), (i' : Int) ≤ (J : Int) + 1 → bs1 (smR K cs C) (fun _ => True) (v, dig cs C i) (dig cs C J) = (v', dig cs C i') → ∃ (v2 : Int) (i2 : Nat), (((P : Int), v', (i' : Int), (J : Int) + 1) : Int × Int × Int × Int) = ((P : Int), v2, (i2 : Int), (J : Int) + 1) ∧ (i2 : Int) ≤ (J : Int) + 1 ∧ ((List.range ((J : Int) + 1).toNat).map (dig cs C)).foldl (bs1 (smR K cs C) (fun _ => True)) (1152921504606846976, dig cs C 0) = (v2, dig cs C i2) := fun v' i' z1 z2 => ⟨v', i', rfl, z1, by
        rw [show ((J : Int) + 1).toNat = J + 1 by omega, List.range_succ, List.map_append, List.foldl_append, h2]
        exact z2⟩
      show qW (qf_X13_give_L79_b 20000 P v i J K) _
      unfold qf_X13_give_L79_b qf_X13_give_J107
      rw [if_neg (show ¬ (P : Int) ≤ (J : Int) by omega), se]
      simp only [Option.bind_some]
      rw [w32_id (x := (J : Int) + 1) (by omega) (by omega)]
      by_cases g : v ≤ smR K cs C (dig cs C J)
      · rw [if_pos g, if_pos g]
        exact qW_some (nx v i (by omega) (bs1_n (fun z => by have z2 : smR K cs C (dig cs C J) < v := z.2; omega)))
      · rw [if_neg g, if_neg g]
        exact qW_some (nx _ J (by omega) (bs1_y ⟨trivial, by show smR K cs C (dig cs C J) < v; omega⟩))
    · rintro _ ⟨v, i, rfl, h1, h2⟩
      rw [show ((P : Int)).toNat = P by omega] at h2
      show qW (qf_X13_give_L79_b 20000 P v i P K) _
      unfold qf_X13_give_L79_b
      rw [if_pos (Int.le_refl _)]
      exact qW_some ⟨v, i, rfl, by omega, h2⟩
  rw [← hP, dig_all2 hp] at hi
  exact ⟨v, i, e1, ho, hi⟩
end GVt
