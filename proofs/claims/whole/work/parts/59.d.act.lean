/-! ===== an act's second, both sides ===== -/
/-- an act's state, both sides -/
def msA (M K : qm) (a : Int) : Prop := (K 2227 a 0) = (M 1270 a 0) ∧ 0 ≤ (M 1270 a 0) ∧ (M 1270 a 0) ≤ 2 ∧ (if (M 1270 a 0) = 1 then (K 2228 a 0) = (M 1271 a 0) ∧ 0 ≤ (M 1271 a 0) ∧ (M 1271 a 0) ≤ (M 6 12 0) ∧ (K 2229 a 0) = (M 1272 a 0) ∧ (K 2230 a 0) = (M 1273 a 0) else ((K 2228 a 0) = -1 ∨ (K 2219 a 0) = 0) ∧ (K 2229 a 0) = 0 ∧ (K 2230 a 0) = 0) ∧ ((K 2229 a 0) = 0 ∨ (K 2229 a 0) = 1) ∧ ((K 2230 a 0) = 0 ∨ (K 2230 a 0) = 1)
def R_mst (M K : qm) : Prop := ∀ a, 0 ≤ a → a < 20 → msA M K a
def stB (b : Nat) : Bool := b == 1270 || b == 1271 || b == 1272 || b == 1273 || b == 2227 || b == 2228 || b == 2229 || b == 2230 || b == 2219
theorem msA_x {M K S T : qm} {a : Int} (ht : (S 6 12 0) = (M 6 12 0)) (h1 : ∀ b, stB b = true → b < 2156 → S b a 0 = M b a 0) (h2 : ∀ b, stB b = true → 2156 ≤ b → T b a 0 = K b a 0) (h : msA M K a) : msA S T a := by
  unfold msA
  rw [ht, h1 _ rfl (by decide), h1 _ rfl (by decide), h1 _ rfl (by decide), h1 _ rfl (by decide), h2 _ rfl (by decide), h2 _ rfl (by decide), h2 _ rfl (by decide), h2 _ rfl (by decide), h2 _ rfl (by decide)]
  exact h
theorem mst_upd {M K S T : qm} {a : Int} (ht : (S 6 12 0) = (M 6 12 0)) (h1 : ∀ b, stB b = true → b < 2156 → ∀ i, i ≠ a → S b i 0 = M b i 0) (h2 : ∀ b, stB b = true → 2156 ≤ b → ∀ i, i ≠ a → T b i 0 = K b i 0) (h : R_mst M K) (ha : msA S T a) : R_mst S T := by
  intro i i0 i1
  by_cases e : i = a
  · rw [e]
    exact ha
  · exact msA_x ht (fun b hb h => h1 b hb h i e) (fun b hb h => h2 b hb h i e) (h i i0 i1)
/-- acts as they are told -/
def mactS (M K : qm) : Prop := ∀ a, 0 ≤ a → a < 20 → ((K 2219 a 0) = 0 ∧ (M 1197 a 0) = 0) ∨ ((K 2219 a 0) = 1 ∧ (M 1197 a 0) = 1 ∧ (K 2220 a 0) = (M 1197 a 1) ∧ 0 ≤ (K 2220 a 0) ∧ (K 2220 a 0) ≤ 5 ∧ (K 2221 a 0) = (M 1197 a 2) ∧ (K 2222 a 0) = (M 1197 a 3) ∧ 0 ≤ (K 2222 a 0) ∧ (K 2222 a 0) ≤ 600 ∧ (K 2223 a 0) = (M 1197 a 4) ∧ ((K 2223 a 0) = 0 ∨ (K 2223 a 0) = 1))
/-- what does not change while acts go -/
def ZR (M K : qm) (t : Int) : Prop := znC M ∧ rwC M ∧ lkC M t M ∧ (M 6 12 0) = t ∧ R_mfault M K ∧ R_muntil M K ∧ R_mnow M K ∧ R_mvalue M K ∧ R_mzones M K ∧ R_mzonep M K ∧ R_mrows M K ∧ R_mrow M K ∧ mactS M K
/-- what does -/
def AcR (M K : qm) (E : Int) : Prop := R_mst M K ∧ evn M K E ∧ R_mevent M K ∧ BQ M K ∧ R_points M K
theorem rests_r {K : qm} {a : Int} (a0 : 0 ≤ a) (a1 : a < 20) : qf_X14_rests 20000 a K = some ((), qw (qw (qw (qw K 2227 a 0 0) 2228 a 0 (-1)) 2229 a 0 0) 2230 a 0 0) := by
  have h : 0 ≤ a ∧ a < 20 := ⟨a0, a1⟩
  unfold qf_X14_rests
  simp only [if_pos h, qbnd]
/-- behind go(): what the event does -/
def goDo (a : Int) (r : Int × qm) : Option (Unit × qm) := if r.1 < 0 then some ((), r.2) else qf_X18_does 20000 a r.1 r.2
theorem stF {b : Nat} (h : stB b = false) : b ≠ 1270 ∧ b ≠ 1271 ∧ b ≠ 1272 ∧ b ≠ 1273 ∧ b ≠ 2227 ∧ b ≠ 2228 ∧ b ≠ 2229 ∧ b ≠ 2230 := by
  refine ⟨?_, ?_, ?_, ?_, ?_, ?_, ?_, ?_⟩ <;> (rintro rfl; cases h)
/-- the reference's row of states of an act -/
def rsW (K : qm) (a v1 v2 v3 v4 : Int) : qm := qw (qw (qw (qw K 2227 a 0 v1) 2228 a 0 v2) 2229 a 0 v3) 2230 a 0 v4
theorem rsW_o {K : qm} {a v1 v2 v3 v4 : Int} {b : Nat} {i j : Int} (h : stB b = false ∨ i ≠ a) : rsW K a v1 v2 v3 v4 b i j = K b i j := by
  unfold rsW
  rcases h with h | h
  · obtain ⟨_, _, _, _, h1, h2, h3, h4⟩ := stF h
    rw [qw_a h4, qw_a h3, qw_a h2, qw_a h1]
  · simp only [qw_ap]
    rw [if_neg (by omega), if_neg (by omega), if_neg (by omega), if_neg (by omega)]
theorem rsW_v {K : qm} {a v1 v2 v3 v4 : Int} : rsW K a v1 v2 v3 v4 2227 a 0 = v1 ∧ rsW K a v1 v2 v3 v4 2228 a 0 = v2 ∧ rsW K a v1 v2 v3 v4 2229 a 0 = v3 ∧ rsW K a v1 v2 v3 v4 2230 a 0 = v4 := by
  unfold rsW
  refine ⟨?_, ?_, ?_, qw_s⟩
  · rw [qw_a (by decide), qw_a (by decide), qw_a (by decide), qw_s]
  · rw [qw_a (by decide), qw_a (by decide), qw_s]
  · rw [qw_a (by decide), qw_s]
theorem rsW_F {K : qm} {a v1 v2 v3 v4 : Int} : Fg 1973751609322728158430646311549781290260737553695531790793833605345297506781372428058624 K (rsW K a v1 v2 v3 v4) := Fg_wa (k := ky 2230 0) (Fg_wa (k := ky 2229 0) (Fg_wa (k := ky 2228 0) (Fg_wa (k := ky 2227 0) Fg_refl rfl rfl) rfl rfl) rfl rfl) rfl rfl
/-- an event of an act, with the reference's states set before or behind -/
theorem act_ev {M K K2 : qm} {a d t E v2 v3 v4 : Int} (a0 : 0 ≤ a) (a1 : a < 20) (d01 : d = 0 ∨ d = 1) (hA : AcR M K E) (hE : E < 2147483647) (hkind : (K 2220 a 0) = (M 1197 a 1)) (hnow : (K 2208 1 0) = t) (ht : (M 6 12 0) = t) (T : qm) (hK : ∀ b i j, stB b = false ∨ i ≠ a → K2 b i j = K b i j) (hKF : Fg 1973751609322728158430646311549781290260737553695531790793833605345297506781372428058624 K K2) (hT : teW K2 T a d) (hTf : ∀ c x j, evA c = false → (c ≠ 2208 ∨ x ≠ 30) → T c x j = K2 c x j) (hTF : Fg 1973751609322728158430646311549781290260737553695531790793833605345297506781372428058624 K2 T) (T2 : qm) (hT2 : ∀ b i j, stB b = false ∨ i ≠ a → T2 b i j = T b i j) (hT2F : Fg 1973751609322728158430646311549781290260737553695531790793833605345297506781372428058624 T T2) (hv : T2 2227 a 0 = (if d = 0 then 0 else 2) ∧ T2 2228 a 0 = -1 ∧ T2 2229 a 0 = 0 ∧ T2 2230 a 0 = 0) : qW (qf_X4_setDone 20000 a d t M) (fun x => qW (qf_X18_does 20000 a d T2) (fun y => AcR x.2 y.2 (E + 1) ∧ Fg 11325279729724950027965494710678647285481472 M x.2 ∧ Fg (1973751609322728158430646311549781290260737553695531790793833605345297506781372428058624 ||| 820219086978780714343243095759370041107539690231943260969623997760226754039967563635592039252361216) K y.2 ∧ (∀ i j, x.2 1270 i j = if i = a ∧ j = 0 then (if d = 0 then 0 else 2) else M 1270 i j))) := by
  obtain ⟨hm, hn, he, hB, hP⟩ := hA
  have nst : ∀ b, (bsA b = true ∨ b = 2258 ∨ b = 2259 ∨ b = 2247 ∨ b = 2220 ∨ b = 2208) → stB b = false := by
    intro b hb
    rcases hb with hb | rfl | rfl | rfl | rfl | rfl
    · unfold bsA at hb
      simp only [Bool.or_eq_true, beq_iff_eq] at hb
      rcases hb with (((((((rfl | rfl) | rfl) | rfl) | rfl) | rfl) | rfl) | rfl) | rfl <;> rfl
    · rfl
    · rfl
    · rfl
    · rfl
    · rfl
  have nev : ∀ b, (bsA b = true ∨ b = 2258 ∨ b = 2259 ∨ b = 2247 ∨ b = 2220) → evA b = false ∧ b ≠ 2208 := by
    intro b hb
    rcases hb with hb | rfl | rfl | rfl | rfl
    · unfold bsA at hb
      simp only [Bool.or_eq_true, beq_iff_eq] at hb
      rcases hb with (((((((rfl | rfl) | rfl) | rfl) | rfl) | rfl) | rfl) | rfl) | rfl <;> exact ⟨rfl, by decide⟩
    · exact ⟨rfl, by decide⟩
    · exact ⟨rfl, by decide⟩
    · exact ⟨rfl, by decide⟩
    · exact ⟨rfl, by decide⟩
  have k8 : ∀ i j, K2 2208 i j = K 2208 i j := fun i j => hK _ _ _ (Or.inl rfl)
  have B2 : BQ M K2 := BQ_x (fun _ _ => rfl) (fun _ _ => rfl) (fun _ _ => rfl) (fun b hb i j => hK _ _ _ (Or.inl (nst b (by rcases hb with h | h | h; exact Or.inl h; exact Or.inr (Or.inl h); exact Or.inr (Or.inr (Or.inl h)))))) hB
  have P2 : R_points M K2 := R_points_x (M := M) (K := K) (fun _ _ => rfl) (fun i j => hK _ _ _ (Or.inl rfl)) hP
  have n2 : evn M K2 E := by
    unfold evn
    rw [k8]
    exact hn
  have e2 : R_mevent M K2 := R_mevent_x (M := M) (K := K) rfl (fun _ _ => rfl) (k8 30 0) (fun i j => hK _ _ _ (Or.inl rfl)) (fun i j => hK _ _ _ (Or.inl rfl)) (fun i j => hK _ _ _ (Or.inl rfl)) he
  have hT3 : teW K2 T2 a d := by
    unfold teW
    rw [hT2 _ _ _ (Or.inl rfl), hT2 _ _ _ (Or.inl rfl), hT2 _ _ _ (Or.inl rfl), hT2 _ _ _ (Or.inl rfl)]
    refine ⟨hT.1, hT.2.1, hT.2.2.1, hT.2.2.2.1, fun k k0 k1 => ?_⟩
    rw [hT2 _ _ _ (Or.inl rfl), hT2 _ _ _ (Or.inl rfl), hT2 _ _ _ (Or.inl rfl)]
    exact hT.2.2.2.2 k k0 k1
  refine qW2_mono (event_both (M := M) (K := K2) (T := T2) (E := E) (t := t) a0 a1 d01 B2 P2 (by rw [hK _ _ _ (Or.inl rfl)]; exact hkind) n2 hE e2 hT3 ((k8 1 0).trans hnow) (fun b hb i j => ?_)) (fun x y h => ?_)
  · rw [hT2 _ _ _ (Or.inl (nst b (by rcases hb with h | h | h | h | h; exact Or.inl h; exact Or.inr (Or.inl h); exact Or.inr (Or.inr (Or.inl h)); exact Or.inr (Or.inr (Or.inr (Or.inl h))); exact Or.inr (Or.inr (Or.inr (Or.inr (Or.inl h))))))), hTf _ _ _ (nev b hb).1 (Or.inl (nev b hb).2)]
  · obtain ⟨h1, h2, h3, h4, h5, h6, h7⟩ := h
    refine ⟨⟨?_, h3, h4, h1, h2⟩, h5, Fg_tr (Fg_mono (Fg_tr (Fg_tr hKF hTF) hT2F) rfl) (Fg_mono h6 rfl), h7⟩
    refine mst_upd (M := M) (K := K) (a := a) (h5 6 12 0 rfl) (fun b hb hl i hi => ?_) (fun b hb hl i hi => ?_) hm ?_
    · unfold stB at hb
      simp only [Bool.or_eq_true, beq_iff_eq] at hb
      rcases hb with (((((((rfl | rfl) | rfl) | rfl) | rfl) | rfl) | rfl) | rfl) | rfl
      · rw [h7, if_neg (fun x => hi x.1)]
      · exact Fg_v h5 rfl rfl
      · exact Fg_v h5 rfl rfl
      · exact Fg_v h5 rfl rfl
      · omega
      · omega
      · omega
      · omega
      · omega
    · unfold stB at hb
      simp only [Bool.or_eq_true, beq_iff_eq] at hb
      rcases hb with (((((((rfl | rfl) | rfl) | rfl) | rfl) | rfl) | rfl) | rfl) | rfl
      · omega
      · omega
      · omega
      · omega
      · rw [show y.2 2227 i 0 = T2 2227 i 0 from Fg_v h6 rfl rfl, hT2 _ _ _ (Or.inr hi), hTf _ _ _ rfl (Or.inl (by decide)), hK _ _ _ (Or.inr hi)]
      · rw [show y.2 2228 i 0 = T2 2228 i 0 from Fg_v h6 rfl rfl, hT2 _ _ _ (Or.inr hi), hTf _ _ _ rfl (Or.inl (by decide)), hK _ _ _ (Or.inr hi)]
      · rw [show y.2 2229 i 0 = T2 2229 i 0 from Fg_v h6 rfl rfl, hT2 _ _ _ (Or.inr hi), hTf _ _ _ rfl (Or.inl (by decide)), hK _ _ _ (Or.inr hi)]
      · rw [show y.2 2230 i 0 = T2 2230 i 0 from Fg_v h6 rfl rfl, hT2 _ _ _ (Or.inr hi), hTf _ _ _ rfl (Or.inl (by decide)), hK _ _ _ (Or.inr hi)]
      · rw [show y.2 2219 i 0 = T2 2219 i 0 from Fg_v h6 rfl rfl, hT2 _ _ _ (Or.inr hi), hTf _ _ _ rfl (Or.inl (by decide)), hK _ _ _ (Or.inr hi)]
    · have y1 : y.2 2227 a 0 = T2 2227 a 0 := Fg_v h6 rfl rfl
      have y2 : y.2 2228 a 0 = T2 2228 a 0 := Fg_v h6 rfl rfl
      have y3 : y.2 2229 a 0 = T2 2229 a 0 := Fg_v h6 rfl rfl
      have y4 : y.2 2230 a 0 = T2 2230 a 0 := Fg_v h6 rfl rfl
      have x1 := h7 a 0
      rw [if_pos ⟨rfl, rfl⟩] at x1
      obtain ⟨v1, v2, v3, v4⟩ := hv
      unfold msA
      rw [y1, y2, y3, y4, x1, v1, v2, v3, v4]
      by_cases e : d = 0
      · rw [if_pos e, if_neg (by decide)]
        omega
      · rw [if_neg e, if_neg (by decide)]
        omega
