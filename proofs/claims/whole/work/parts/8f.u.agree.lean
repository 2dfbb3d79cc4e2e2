/-! ===== the giving: both sides find the same one ===== -/
section GVu
variable {M K A Z X Y V : qm} {a b d i q v w T y : Int} {c n s x r cs C : Nat} {l t u pre E D : List Int} {B : Int × List Int}
theorem rl_map {f g : Int → Int} : ∀ (m : Nat) (i : Int), (rl f m i).map g = rl (fun k => g (f k)) m i := by
  intro m
  induction m with
  | zero => exact fun _ => rfl
  | succ m ih =>
    intro i
    show g (f i) :: (rl f m (i + 1)).map g = g (f i) :: rl (fun k => g (f k)) m (i + 1)
    rw [ih]
/-- the cars for each place, in the class -/
def WCF (Z K : qm) (n : Nat) : Prop := ∀ k : Nat, k < n → 0 ≤ Z 2146 (k : Int) 0 ∧ Z 2146 (k : Int) 0 < 16 ∧ ∀ j : Nat, j < 4 → (bitN (Z 2146 (k : Int) 0).toNat j = true ↔ K 2270 13 0 = 0 ∧ (j : Int) < K 2270 0 0 ∧ mayT K j (Z 1744 (k : Int) 0))
/-- both sides have the same cars and calls, and what stands for sets -/
def GMT (K Y M : qm) (n cs C : Nat) (E : List Int) : Prop := (cs ≤ 4) ∧ (n ≤ 6) ∧ (K 2270 0 0 = cs) ∧ (sfx (fun i => M 2146 i 0) n 0 = E) ∧ (E.length = C) ∧ (rl (fun k => K 2281 k 0) C 0 = E.map (fun k => M 1744 k 0)) ∧ (WCF M K n) ∧ (∀ c : Nat, c < cs → LKC M K n c) ∧ (∀ c x : Nat, c < cs → x < 2 ^ n → RWC M K M n c x) ∧ (∀ c r : Nat, c < cs → r < 2 ^ C → FBR K Y c r C (64 * c + r))
theorem GMT.c4 {K Y M : qm} {n cs C : Nat} {E : List Int} (h : GMT K Y M n cs C E) : cs ≤ 4 := h.1
theorem GMT.n6 {K Y M : qm} {n cs C : Nat} {E : List Int} (h : GMT K Y M n cs C E) : n ≤ 6 := h.2.1
theorem GMT.hcs {K Y M : qm} {n cs C : Nat} {E : List Int} (h : GMT K Y M n cs C E) : K 2270 0 0 = cs := h.2.2.1
theorem GMT.hE {K Y M : qm} {n cs C : Nat} {E : List Int} (h : GMT K Y M n cs C E) : sfx (fun i => M 2146 i 0) n 0 = E := h.2.2.2.1
theorem GMT.hC {K Y M : qm} {n cs C : Nat} {E : List Int} (h : GMT K Y M n cs C E) : E.length = C := h.2.2.2.2.1
theorem GMT.hm {K Y M : qm} {n cs C : Nat} {E : List Int} (h : GMT K Y M n cs C E) : rl (fun k => K 2281 k 0) C 0 = E.map (fun k => M 1744 k 0) := h.2.2.2.2.2.1
theorem GMT.hW {K Y M : qm} {n cs C : Nat} {E : List Int} (h : GMT K Y M n cs C E) : WCF M K n := h.2.2.2.2.2.2.1
theorem GMT.hL {K Y M : qm} {n cs C : Nat} {E : List Int} (h : GMT K Y M n cs C E) : ∀ c : Nat, c < cs → LKC M K n c := h.2.2.2.2.2.2.2.1
theorem GMT.hR {K Y M : qm} {n cs C : Nat} {E : List Int} (h : GMT K Y M n cs C E) : ∀ c x : Nat, c < cs → x < 2 ^ n → RWC M K M n c x := h.2.2.2.2.2.2.2.2.1
theorem GMT.hF {K Y M : qm} {n cs C : Nat} {E : List Int} (h : GMT K Y M n cs C E) : ∀ c r : Nat, c < cs → r < 2 ^ C → FBR K Y c r C (64 * c + r) := h.2.2.2.2.2.2.2.2.2
theorem gmt_p (h : GMT K Y M n cs C E) : E.Pairwise (· < ·) := by
  rw [← h.hE]
  exact sfx_pw n 0
theorem gmt_k (h : GMT K Y M n cs C E) (hy : y ∈ E) : ∃ k : Nat, y = k ∧ k < n ∧ M 2146 (k : Int) 0 ≠ 0 := by
  rw [← h.hE] at hy
  obtain ⟨j, j1, _, j3, j4⟩ := (sfx_in n 0 y).mp hy
  exact ⟨j, j1, by omega, j4⟩
theorem gmt_k2 (h : GMT K Y M n cs C E) (hy : y ∈ E) : 0 ≤ y ∧ y < n := by
  obtain ⟨k, k1, k2, _⟩ := gmt_k h hy
  omega
theorem gmt_6 (h : GMT K Y M n cs C E) : C ≤ 6 := by
  have n6 := h.n6
  rw [← h.hC, ← h.hE]
  have : ∀ (m i : Nat), (sfx (fun i => M 2146 i 0) m i).length ≤ m := by
    intro m
    induction m with
    | zero => exact fun _ => Nat.le_refl _
    | succ m ih =>
      intro i
      show (if (fun i => M 2146 i 0) (i : Int) = 0 then sfx (fun i => M 2146 i 0) m (i + 1) else (i : Int) :: sfx (fun i => M 2146 i 0) m (i + 1)).length ≤ m + 1
      have := ih (i + 1)
      by_cases g : (fun i => M 2146 i 0) (i : Int) = 0
      · rw [if_pos g]
        omega
      · rw [if_neg g, List.length_cons]
        omega
  have := this n 0
  omega
theorem gmt_s (h : GMT K Y M n cs C E) : (sbl (upl C) D c).map (fun k => K 2281 k 0) = (sbl E D c).map (fun k => M 1744 k 0) := by
  rw [← sbl_map, ← sbl_map, ← h.hm]
  unfold upl
  rw [rl_map]
theorem gmt_b (h : GMT K Y M n cs C E) : bts (shb (upl C) D c) C 0 = sbl (upl C) D c := bts_shb (gmt_6 h) (upl_pw C) (fun k hk => upl_in hk)
theorem gmt_b2 (h : GMT K Y M n cs C E) : bts (shb E D c) n 0 = sbl E D c := bts_shb h.n6 (gmt_p h) (fun k hk => gmt_k2 h hk)
theorem cal_e (h : GMT K Y M n cs C E) : cal K (shb (upl C) D c) C = calC M (shb E D c) n := by
  unfold cal calC
  rw [gmt_b h, gmt_b2 h, gmt_s h]
theorem home_w (h : WCF M K n) (hk : s < n) (h0 : M 2146 (s : Int) 0 ≠ 0) : K 2270 13 0 = 0 ∧ ∃ j : Nat, j < 4 ∧ bitN (M 2146 (s : Int) 0).toNat j = true := by
  obtain ⟨w0, w1, w2⟩ := h s hk
  have ex : ∃ j : Nat, j < 4 ∧ bitN (M 2146 (s : Int) 0).toNat j = true := by
    refine Classical.byContradiction (fun z => h0 ?_)
    have e : (M 2146 (s : Int) 0).toNat = 0 := bit_eq (by omega) (by decide) (fun j j1 => by
      rw [bit_0]
      cases hb : bitN (M 2146 (s : Int) 0).toNat j with
      | false => rfl
      | true => exact absurd ⟨j, j1, hb⟩ z)
    omega
  obtain ⟨j, j1, j2⟩ := ex
  exact ⟨((w2 j j1).mp j2).1, j, j1, j2⟩
theorem ft_e (h : GMT K Y M n cs C E) : ftC M cs E D ↔ ∀ c : Nat, c < cs → ∀ k, k ∈ bts (shb (upl C) D c) C 0 → mayT K c (K 2281 k 0) := by
  have c4 := h.c4
  constructor
  · intro ok c hc k hk
    rw [gmt_b h] at hk
    have e : K 2281 k 0 ∈ (sbl E D c).map (fun k => M 1744 k 0) := by
      rw [← gmt_s h]
      exact List.mem_map.mpr ⟨k, hk, rfl⟩
    obtain ⟨j, hj, e2⟩ := List.mem_map.mp e
    have q := ok c hc j hj
    obtain ⟨J, rfl, J1, J2⟩ := gmt_k h ((sbl_sl E D).subset hj)
    have e2' : M 1744 (J : Int) 0 = K 2281 k 0 := e2
    rw [← e2']
    exact (((h.hW J J1).2.2 c (by omega)).mp q).2.2
  · intro ok c hc j hj
    obtain ⟨J, rfl, J1, J2⟩ := gmt_k h ((sbl_sl E D).subset hj)
    have e : M 1744 (J : Int) 0 ∈ (sbl (upl C) D c).map (fun k => K 2281 k 0) := by
      rw [gmt_s h]
      exact List.mem_map.mpr ⟨(J : Int), hj, rfl⟩
    obtain ⟨k, hk, e2⟩ := List.mem_map.mp e
    have q := ok c hc k (by rw [gmt_b h]; exact hk)
    have e2' : K 2281 k 0 = M 1744 (J : Int) 0 := e2
    rw [e2'] at q
    exact ((h.hW J J1).2.2 c (by omega)).mpr ⟨(home_w h.hW J1 J2).1, by rw [h.hcs]; omega, q⟩
theorem cal_g (h : GMT K Y M n cs C E) (hc : c < cs) : GDL K c (cal K r C) := by
  have hl := h.hL c hc
  have C6 := gmt_6 h
  have inE : ∀ y, y ∈ cal K r C → ∃ j : Nat, j < n ∧ y = M 1744 (j : Int) 0 := fun y hy => by
    obtain ⟨k, hk, e⟩ := List.mem_map.mp hy
    obtain ⟨j1, a1, _, a3, _⟩ := (bts_in C 0 k).mp hk
    have e1 : K 2281 k 0 ∈ E.map (fun k => M 1744 k 0) := by
      rw [← h.hm]
      exact rl_mem (f := fun k => K 2281 k 0) C 0 k (by omega) (by omega)
    obtain ⟨j, hj, e2⟩ := List.mem_map.mp e1
    obtain ⟨J, rfl, J1, _⟩ := gmt_k h hj
    exact ⟨J, J1, by rw [← e]; exact e2.symm⟩
  have pw : (E.map (fun k => M 1744 k 0)).Pairwise (· < ·) := map_pw E (gmt_p h) (fun y z hy hz yz => by
    have a := gmt_k2 h hy
    have b := gmt_k2 h hz
    exact hl.2.2.2.2.2.2.2.2 y z a.1 yz b.2)
  rw [← h.hm] at pw
  refine ⟨?_, ?_, fun y hy => ?_, fun y z hy hz ey ez => ?_⟩
  · refine map_pw _ (bts_pw C 0) (fun y z hy hz yz => ?_)
    obtain ⟨j1, a1, _, a3, _⟩ := (bts_in C 0 y).mp hy
    obtain ⟨j2, b1, _, b3, _⟩ := (bts_in C 0 z).mp hz
    exact rl_pw (f := fun k => K 2281 k 0) C 0 pw y z (by omega) yz (by omega)
  · unfold cal
    rw [List.length_map]
    have := bts_len (x := r) C 0
    omega
  · obtain ⟨j, j1, e⟩ := inE y hy
    rw [e]
    exact (hl.2.2.2.2.2.2.2.1 j (by omega) (by omega)).1
  · obtain ⟨j1, a1, a2⟩ := inE y hy
    obtain ⟨j2, b1, b2⟩ := inE z hz
    rw [a2] at ey
    rw [b2] at ez
    have p1 := (hl.2.2.2.2.2.2.2.1 j1 (by omega) (by omega)).2.2.2.2.mp ey
    have p2 := (hl.2.2.2.2.2.2.2.1 j2 (by omega) (by omega)).2.2.2.2.mp ez
    rw [a2, b2, ← p1, ← p2]
theorem gmt_f (h : GMT K Y M n cs C E) (hc : c < cs) (hr : r < 2 ^ C) : ((∀ k, k ∈ bts r C 0 → mayT K c (K 2281 k 0)) ∧ Y 2283 (64 * c + r) 0 = (bst K c (cal K r C)).1 ∧ rl (fun k => Y 2284 (6 * (64 * (c : Int) + r) + k) 0) (cal K r C).length 0 = (bst K c (cal K r C)).2) ∨ ((∃ k, k ∈ bts r C 0 ∧ ¬ mayT K c (K 2281 k 0)) ∧ Y 2283 (64 * c + r) 0 = 1152921504606846976) := fbr_b (h.hL c hc).2.2.1 (cal_g h hc) (h.hF c r hc hr)
/-- what stands for a set is no less than 0 and no more than NEVER -/
theorem gmt_r (h : GMT K Y M n cs C E) (hc : c < cs) (hr : r < 2 ^ C) : 0 ≤ Y 2283 (64 * (c : Int) + r) 0 ∧ Y 2283 (64 * (c : Int) + r) 0 ≤ 1152921504606846976 := by
  have g := bst_got (h.hL c hc).2.2.1 (cal_g (r := r) h hc)
  rcases gmt_f h hc hr with ⟨_, e, _⟩ | ⟨_, e⟩
  · rw [e]
    omega
  · rw [e]
    omega
theorem gmt_rc (h : GMT K Y M n cs C E) (hc : c < cs) (hx : x < 2 ^ n) : 0 ≤ M 2147 c x ∧ M 2147 c x ≤ 180000000 := by
  have g := bst_got (h.hL c hc).2.2.1 (calc_g (x := x) (h.hL c hc))
  rcases h.hR c x hc hx with ⟨_, e⟩ | ⟨_, e⟩
  · rw [e]
    exact g.2
  · rw [e]
    omega
theorem shb_lt2 (h : GMT K Y M n cs C E) : shb (upl C) D c < 2 ^ C := shb_lt (gmt_6 h) (upl_pw C) (fun k hk => upl_in hk)
theorem shb_lt1 (h : GMT K Y M n cs C E) : shb E D c < 2 ^ n := shb_lt h.n6 (gmt_p h) (fun k hk => gmt_k2 h hk)
theorem mta_f (h : GMT K Y M n cs C E) (hc : c < cs) (ok : ftC M cs E D) : MTA M n c (shb E D c) := fun k k1 k2 => by
  refine ok c hc k ?_
  rw [← gmt_b2 h]
  exact (bts_in n 0 k).mpr ⟨k, rfl, by omega, by omega, k2⟩
theorem sums_e (h : GMT K Y M n cs C E) (ok : ftC M cs E D) : smC M cs E D = smR Y cs C D := by
  unfold smC smR
  refine sI_c (fun c c0 c1 => ?_)
  obtain ⟨k, rfl⟩ : ∃ k : Nat, c = k := ⟨c.toNat, by omega⟩
  show M 2147 (k : Int) ((shb E D ((k : Int)).toNat : Nat) : Int) = Y 2283 (64 * (k : Int) + ((shb (upl C) D ((k : Int)).toNat : Nat) : Int)) 0
  rw [show ((k : Int)).toNat = k by omega]
  have hk : k < cs := by omega
  have e1 : M 2147 (k : Int) ((shb E D k : Nat) : Int) = (bst K k (calC M (shb E D k) n)).1 := by
    rcases h.hR k _ hk (shb_lt1 h) with ⟨_, e⟩ | ⟨z, _⟩
    · exact e
    · exact absurd (mta_f h hk ok) z
  rcases gmt_f h hk (shb_lt2 (D := D) (c := k) h) with ⟨_, e, _⟩ | ⟨⟨j, j1, j2⟩, _⟩
  · rw [e1, e, cal_e h]
  · exact absurd ((ft_e h).mp ok k hk j j1) j2
theorem sums_n (h : GMT K Y M n cs C E) (no : ¬ ftC M cs E D) : 1152921504606846976 ≤ smR Y cs C D := by
  have ex : ∃ c : Nat, c < cs ∧ ∃ k, k ∈ bts (shb (upl C) D c) C 0 ∧ ¬ mayT K c (K 2281 k 0) := by
    refine Classical.byContradiction (fun z => no ((ft_e h).mpr (fun c hc k hk => ?_)))
    exact Classical.byContradiction (fun z2 => z ⟨c, hc, k, hk, z2⟩)
  obtain ⟨c, hc, k, hk, nk⟩ := ex
  have p := sI_p (f := fun c => Y 2283 (64 * c + ((shb (upl C) D c.toNat : Nat) : Int)) 0) (c := (c : Int)) (n := (cs : Int)) (by omega) (by omega) (fun j j0 j1 => by
    obtain ⟨J, rfl⟩ : ∃ J : Nat, j = J := ⟨j.toNat, by omega⟩
    show 0 ≤ Y 2283 (64 * (J : Int) + ((shb (upl C) D ((J : Int)).toNat : Nat) : Int)) 0
    rw [show ((J : Int)).toNat = J by omega]
    exact (gmt_r h (by omega) (shb_lt2 h)).1)
  (try dsimp only at p)
  rw [show ((c : Int)).toNat = c by omega] at p
  rcases gmt_f h hc (shb_lt2 (D := D) (c := c) h) with ⟨z, _, _⟩ | ⟨_, e⟩
  · exact absurd (z k hk) nk
  · rw [e] at p
    exact p
theorem sums_b (h : GMT K Y M n cs C E) : smC M cs E D ≤ 800000000 := by
  have c4 := h.c4
  have q := sI_le (f := fun c => M 2147 c ((shb E D c.toNat : Nat) : Int)) (g := fun _ => 180000000) (n := (cs : Int)) (fun j j0 j1 => by
    obtain ⟨J, rfl⟩ : ∃ J : Nat, j = J := ⟨j.toNat, by omega⟩
    show M 2147 (J : Int) ((shb E D ((J : Int)).toNat : Nat) : Int) ≤ 180000000
    rw [show ((J : Int)).toNat = J by omega]
    exact (gmt_rc h (by omega) (shb_lt1 h)).2)
  rw [sI_const] at q
  unfold smC
  omega
theorem folds_s (h : GMT K Y M n cs C E) : ∀ (ls : List (List Int)) (B : Int × List Int), B.1 ≤ 1152921504606846976 → ls.foldl (bs1 (smR Y cs C) (fun _ => True)) B = ls.foldl (bs1 (smC M cs E) (ftC M cs E)) B := by
  intro ls
  induction ls with
  | nil => exact fun _ _ => rfl
  | cons D t ih =>
    intro B hB
    rw [List.foldl_cons, List.foldl_cons]
    by_cases ok : ftC M cs E D
    · have e := sums_e h ok
      by_cases g : smC M cs E D < B.1
      · rw [bs1_y ⟨trivial, by rw [← e]; exact g⟩, bs1_y ⟨ok, g⟩, e]
        exact ih _ (by show smR Y cs C D ≤ _; omega)
      · rw [bs1_n (fun z => by have z2 := z.2; omega), bs1_n (fun z => g z.2)]
        exact ih _ hB
    · have e := sums_n h ok
      rw [bs1_n (fun z => by have z2 := z.2; omega), bs1_n (fun z => ok z.1)]
      exact ih _ hB
theorem fit_ex {P : Int → Nat → Prop} : ∀ (E : List Int), (∀ k, k ∈ E → ∃ c : Nat, c < cs ∧ P k c) → ∃ D, D ∈ asg cs E.length ∧ ∀ c : Nat, c < cs → ∀ k, k ∈ sbl E D c → P k c := by
  intro E
  induction E with
  | nil =>
    intro _
    exact ⟨[], List.mem_singleton.mpr rfl, fun c _ k hk => by cases hk⟩
  | cons k ks ih =>
    intro h
    obtain ⟨D, hD, hP⟩ := ih (fun j hj => h j (List.mem_cons_of_mem _ hj))
    obtain ⟨a, ha, pa⟩ := h k List.mem_cons_self
    refine ⟨(a : Int) :: D, List.mem_flatMap.mpr ⟨a, List.mem_range.mpr ha, List.mem_map.mpr ⟨D, hD, rfl⟩⟩, fun c hc j hj => ?_⟩
    have hj' : j ∈ (if (a : Int) = (c : Int) then k :: sbl ks D c else sbl ks D c) := hj
    by_cases g : (a : Int) = (c : Int)
    · rw [if_pos g] at hj'
      rcases List.mem_cons.mp hj' with e | e
      · rw [e, ← show a = c by omega]
        exact pa
      · exact hP c hc j e
    · rw [if_neg g] at hj'
      exact hP c hc j hj'
/-- the same giving on both sides -/
theorem folds_e (h : GMT K Y M n cs C E) (hB : 1152921504606846976 ≤ B.1) : (asg cs C).foldl (bs1 (smR Y cs C) (fun _ => True)) (1152921504606846976, t) = (asg cs C).foldl (bs1 (smC M cs E) (ftC M cs E)) B ∧ ∃ D, D ∈ asg cs C ∧ ftC M cs E D ∧ (asg cs C).foldl (bs1 (smC M cs E) (ftC M cs E)) B = (smC M cs E D, D) := by
  have c4 := h.c4
  have ex : ∃ D, D ∈ asg cs C ∧ ftC M cs E D := by
    rw [← h.hC]
    exact fit_ex (P := fun k c => bitN (M 2146 k 0).toNat c = true) E (fun k hk => by
      obtain ⟨J, rfl, J1, J2⟩ := gmt_k h hk
      obtain ⟨_, j, j1, j2⟩ := home_w h.hW J1 J2
      have q := ((h.hW J J1).2.2 j j1).mp j2
      rw [h.hcs] at q
      exact ⟨j, by omega, j2⟩)
  have lo : ∀ D, smC M cs E D < B.1 := fun D => by
    have := sums_b (D := D) h
    omega
  refine ⟨?_, fold_got _ _ (fun D _ _ => lo D) ex⟩
  rw [folds_s h _ _ (Int.le_refl _)]
  exact fold_any _ _ _ (fun D _ _ => ⟨by
    have := sums_b (D := D) h
    show _ < (1152921504606846976 : Int)
    omega, lo D⟩) ex
end GVu
