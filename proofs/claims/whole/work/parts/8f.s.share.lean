/-! ===== the giving: the class shares the calls out ===== -/
section GVs
variable {M K A Z X Y V : qm} {a b d i q v w T y : Int} {c n s x cs : Nat} {l t u pre E D : List Int} {B : Int × List Int} {W : Int → Int}
/-- the places from i on that some car may take -/
def sfx (W : Int → Int) : Nat → Nat → List Int
  | 0, _ => []
  | m + 1, i => if W (i : Int) = 0 then sfx W m (i + 1) else (i : Int) :: sfx W m (i + 1)
theorem sfx_in : ∀ (m i : Nat) (y : Int), y ∈ sfx W m i ↔ ∃ j : Nat, y = j ∧ i ≤ j ∧ j < i + m ∧ W (j : Int) ≠ 0 := by
  intro m
  induction m with
  | zero =>
    intro i y
    exact ⟨fun h => (by cases h), fun ⟨j, _, j0, j1, _⟩ => (by omega)⟩
  | succ m ih =>
    intro i y
    have st : y ∈ sfx W (m + 1) i ↔ (y = i ∧ W (i : Int) ≠ 0) ∨ y ∈ sfx W m (i + 1) := by
      show y ∈ (if W (i : Int) = 0 then sfx W m (i + 1) else (i : Int) :: sfx W m (i + 1)) ↔ _
      by_cases g : W (i : Int) = 0
      · rw [if_pos g]
        exact ⟨Or.inr, fun h => h.elim (fun z => absurd g z.2) id⟩
      · rw [if_neg g, List.mem_cons]
        exact ⟨fun h => h.elim (fun z => Or.inl ⟨z, g⟩) Or.inr, fun h => h.elim (fun z => Or.inl z.1) Or.inr⟩
    rw [st, ih]
    constructor
    · rintro (⟨h1, h2⟩ | ⟨j, j1, j2, j3, j4⟩)
      · exact ⟨i, h1, Nat.le_refl _, by omega, h2⟩
      · exact ⟨j, j1, by omega, by omega, j4⟩
    · rintro ⟨j, j1, j2, j3, j4⟩
      by_cases e : j = i
      · rw [e] at j1 j4
        exact Or.inl ⟨j1, j4⟩
      · exact Or.inr ⟨j, j1, by omega, by omega, j4⟩
theorem sfx_pw : ∀ (m i : Nat), (sfx W m i).Pairwise (· < ·) := by
  intro m
  induction m with
  | zero => exact fun _ => List.Pairwise.nil
  | succ m ih =>
    intro i
    show (if W (i : Int) = 0 then sfx W m (i + 1) else (i : Int) :: sfx W m (i + 1)).Pairwise (· < ·)
    by_cases g : W (i : Int) = 0
    · rw [if_pos g]
      exact ih (i + 1)
    · rw [if_neg g, List.pairwise_cons]
      refine ⟨fun y hy => ?_, ih (i + 1)⟩
      obtain ⟨j, j1, j2, _, _⟩ := (sfx_in m (i + 1) y).mp hy
      omega
/-- besides the shares all is as in M -/
def SHG (M Z : qm) : Prop := ∀ e x y, e ≠ 2154 → e ≠ 2155 → ¬ (e = 1337 ∧ x = 15) → Z e x y = M e x y
noncomputable def smC (M : qm) (cs : Nat) (E D : List Int) : Int := sI (fun c => M 2147 c ((shb E D c.toNat : Nat) : Int)) cs
def ftC (M : qm) (cs : Nat) (E D : List Int) : Prop := ∀ c : Nat, c < cs → ∀ k, k ∈ sbl E D c → bitN (M 2146 k 0).toNat c = true
def BSS (Z : qm) (cs : Nat) (E : List Int) (b : Int × List Int) : Prop := Z 1337 15 0 = b.1 ∧ (b.1 < 9223372036854775807 → ∀ c : Nat, c < cs → Z 2155 c 0 = ((shb E b.2 c : Nat) : Int))
theorem bit_top_all : ((List.range 64).all (fun x => (List.range 7).all (fun n => !((List.range 6).all (fun j => decide (j < n) || !(bitN x j))) || decide (x < 2 ^ n)))) = true := by decide +kernel
theorem bit_top (hx : x < 64) (n6 : n ≤ 6) (h : ∀ j, n ≤ j → j < 6 → bitN x j = false) : x < 2 ^ n := by
  have q := all_2 (f := fun x n => !((List.range 6).all (fun j => decide (j < n) || !(bitN x j))) || decide (x < 2 ^ n)) bit_top_all hx (show n < 7 by omega)
  have e : ((List.range 6).all (fun j => decide (j < n) || !(bitN x j))) = true := by
    rw [List.all_eq_true]
    intro j hj
    have j6 := List.mem_range.mp hj
    by_cases g : j < n
    · rw [decide_eq_true g]
      rfl
    · rw [h j (by omega) j6]
      simp
  rw [e] at q
  simpa using q
theorem shb_lt (n6 : n ≤ 6) (hp : E.Pairwise (· < ·)) (hk : ∀ k, k ∈ E → 0 ≤ k ∧ k < n) : shb E D c < 2 ^ n := by
  have q := shb_bit (c := c) E D hp (fun k h => by have := hk k h; omega)
  refine bit_top q.1 n6 (fun j j0 j1 => ?_)
  cases hq : bitN (shb E D c) j with
  | false => rfl
  | true =>
    have z := (q.2 j j1).mp hq
    have := hk _ ((sbl_sl E D).subset z)
    omega
theorem keepShares_C (hcs : M 1337 0 0 = cs) (c4 : cs ≤ 4) (n6 : n ≤ 6) (hR : ∀ c x : Nat, c < cs → x < 2 ^ n → 0 ≤ M 2147 c x ∧ M 2147 c x ≤ 180000000) (hp : E.Pairwise (· < ·)) (hk : ∀ k, k ∈ E → 0 ≤ k ∧ k < n) (f : SHG M Z) (hZ : ∀ c : Nat, c < cs → Z 2154 c 0 = ((shb E D c : Nat) : Int)) (hB : BSS Z cs E B) (ok : ftC M cs E D) : ∃ Y, qf_X3_keepShares 20000 Z = some ((), Y) ∧ SHG M Y ∧ (∀ c : Nat, c < cs → Y 2154 c 0 = Z 2154 c 0) ∧ BSS Y cs E (bs1 (smC M cs E) (ftC M cs E) B D) := by
  have p6 := (pow_6 n6).2
  have zc : Z 1337 0 0 = cs := (f _ _ _ (by decide) (by decide) (by omega)).trans hcs
  obtain ⟨o, e1, v, rfl, hv, v0, v1⟩ : qW (qf_X3_keepShares_L4 20000 20000 0 0 Z) (fun o => ∃ v, o = .inr v ∧ v = smC M cs E D ∧ 0 ≤ v ∧ v ≤ 800000000) := by
    unfold qf_X3_keepShares_L4
    refine qW_for cs (fun i s => ∃ v, s = (v, i) ∧ v = sI (fun c => M 2147 c ((shb E D c.toNat : Nat) : Int)) i ∧ 0 ≤ v ∧ v ≤ 180000000 * i) ?_ ?_ ⟨0, rfl, (sI_0).symm, by omega, by omega⟩ (by omega) (by omega)
    · rintro i _ i0 i1 ⟨v, rfl, hv, v0, v1⟩
      obtain ⟨c, rfl⟩ : ∃ c : Nat, i = c := ⟨i.toNat, by omega⟩
      have lt := shb_lt (c := c) (D := D) n6 hp hk
      have z47 : Z 2147 c ((shb E D c : Nat) : Int) = M 2147 c ((shb E D c : Nat) : Int) := f _ _ _ (by decide) (by decide) (by omega)
      have r := hR c _ (by omega) lt
      obtain ⟨S, hS⟩ : ∃ S : Nat, shb E D c = S := ⟨_, rfl⟩
      rw [hS] at lt z47 r
      obtain ⟨P, hP⟩ : ∃ P : Nat, 2 ^ n = P := ⟨_, rfl⟩
      rw [hP] at lt p6
      show qW (qf_X3_keepShares_L4_b 20000 v c Z) _
      unfold qf_X3_keepShares_L4_b
      rw [if_neg (show ¬ Z 1337 0 0 ≤ (c : Int) by omega), if_pos (show 0 ≤ (c : Int) ∧ (c : Int) < 4 by omega), if_pos (show 0 ≤ (c : Int) ∧ (c : Int) < 4 by omega), hZ c (by omega), hS, if_pos (show 0 ≤ (S : Int) ∧ (S : Int) < 64 by omega), z47, w64_id (x := v + M 2147 c S) (by omega) (by omega), w32_id (x := (c : Int) + 1) (by omega) (by omega)]
      refine qW_some ⟨_, rfl, ?_, by omega, by omega⟩
      rw [sI_s (by omega), ← hv]
      show v + M 2147 c S = v + M 2147 c ((shb E D ((c : Int)).toNat : Nat) : Int)
      rw [show ((c : Int)).toNat = c by omega, hS]
    · rintro _ ⟨v, rfl, hv, v0, v1⟩
      show qW (qf_X3_keepShares_L4_b 20000 v cs Z) _
      unfold qf_X3_keepShares_L4_b
      rw [if_pos (show Z 1337 0 0 ≤ (cs : Int) by omega)]
      exact qW_some ⟨v, rfl, hv, v0, by omega⟩
  have st : qf_X3_keepShares 20000 Z = (if Z 1337 15 0 ≤ v then some ((), Z) else some ((), qcp1 (qw Z 1337 15 0 v) 2154 0 2155 0 cs)) := by
    unfold qf_X3_keepShares qbnd
    rw [e1]
    simp only [Option.bind_some]
    rw [show qw Z 1337 15 0 v 1337 0 0 = cs from (qw_i (by decide)).trans zc, if_pos (show 0 ≤ (cs : Int) ∧ 0 + (cs : Int) ≤ 4 by omega)]
  rw [hB.1] at st
  by_cases g : B.1 ≤ v
  · rw [if_pos g] at st
    refine ⟨Z, st, f, fun _ _ => rfl, ?_⟩
    rw [bs1_n (fun z => by rw [← hv] at z; omega)]
    exact hB
  · rw [if_neg g] at st
    refine ⟨_, st, fun e x y z1 z2 z3 => ?_, fun c hc => ?_, ?_⟩
    · rw [qcp1_ap, if_neg (by omega), qw_ap, if_neg (by omega)]
      exact f e x y z1 z2 z3
    · rw [qcp1_ap, if_neg (by omega)]
      exact qw_a (by decide)
    · rw [bs1_y ⟨ok, by rw [← hv]; omega⟩, ← hv]
      refine ⟨?_, fun _ c hc => ?_⟩
      · rw [qcp1_ap, if_neg (by omega)]
        exact qw_s
      · rw [qcp1_ap, if_pos (by omega), show (c : Int) - 0 + 0 = c by omega]
        exact (qw_a (by decide)).trans (hZ c hc)
theorem share_C (hcs : M 1337 0 0 = cs) (c4 : cs ≤ 4) (hn : M 1337 4 0 = n) (n6 : n ≤ 6) (hw : ∀ k : Nat, k < n → 0 ≤ M 2146 (k : Int) 0 ∧ M 2146 (k : Int) 0 < 16) (hR : ∀ c x : Nat, c < cs → x < 2 ^ n → 0 ≤ M 2147 c x ∧ M 2147 c x ≤ 180000000) (hW : (fun i => M 2146 i 0) = W) (hE : sfx W n 0 = E) : ∀ (r k N : Nat) (E1 D1 : List Int) (Z : qm) (B : Int × List Int), k + r = n → r < N → E1 ++ sfx W r k = E → E1.length = D1.length → ftC M cs E1 D1 → SHG M Z → (∀ c : Nat, c < cs → Z 2154 c 0 = ((shb E1 D1 c : Nat) : Int)) → BSS Z cs E B → ∃ Y, qr_X3_share 20000 N k Z = some ((), Y) ∧ SHG M Y ∧ (∀ c : Nat, c < cs → Y 2154 c 0 = Z 2154 c 0) ∧ BSS Y cs E (((asg cs (sfx W r k).length).map (fun t => D1 ++ t)).foldl (bs1 (smC M cs E) (ftC M cs E)) B) := by
  have hp : E.Pairwise (· < ·) := by
    rw [← hE]
    exact sfx_pw n 0
  have hk : ∀ k, k ∈ E → 0 ≤ k ∧ k < n := fun k h => by
    rw [← hE] at h
    obtain ⟨j, j1, _, j3, _⟩ := (sfx_in n 0 k).mp h
    omega
  intro r
  induction r with
  | zero =>
    intro k N E1 D1 Z B kn rN eE le ok f hZ hB
    obtain ⟨N', rfl⟩ : ∃ N', N = N' + 1 := ⟨N - 1, by omega⟩
    have eE' : E1 = E := by
      rw [← eE]
      exact (List.append_nil _).symm
    rw [eE'] at hZ ok
    obtain ⟨Y, e1, y1, y2, y3⟩ := keepShares_C hcs c4 n6 hR hp hk f hZ hB ok
    refine ⟨Y, ?_, y1, y2, ?_⟩
    · show qf_X3_share_B 20000 (qr_X3_share 20000 N') k Z = some ((), Y)
      unfold qf_X3_share_B
      rw [if_neg (show ¬ (k : Int) < Z 1337 4 0 by rw [f _ _ _ (by decide) (by decide) (by omega)]; omega), e1]
      rfl
    · show BSS Y cs E (bs1 (smC M cs E) (ftC M cs E) B (D1 ++ []))
      rw [List.append_nil]
      exact y3
  | succ r ih =>
    intro k N E1 D1 Z B kn rN eE le ok f hZ hB
    obtain ⟨N', rfl⟩ : ∃ N', N = N' + 1 := ⟨N - 1, by omega⟩
    have zn : Z 1337 4 0 = n := (f _ _ _ (by decide) (by decide) (by omega)).trans hn
    have hv := hw k (by omega)
    obtain ⟨v, hv'⟩ : ∃ v : Nat, M 2146 (k : Int) 0 = v := ⟨(M 2146 (k : Int) 0).toNat, by omega⟩
    have Wk : W (k : Int) = v := by
      rw [← hW]
      exact hv'
    have z46 : Z 2146 (k : Int) 0 = v := (f _ _ _ (by decide) (by decide) (by omega)).trans hv'
    by_cases g0 : v = 0
    · have es : sfx W (r + 1) k = sfx W r (k + 1) := if_pos (by omega)
      rw [es] at eE ⊢
      obtain ⟨Y, e1, y1⟩ := ih (k + 1) N' E1 D1 Z B (by omega) (by omega) eE le ok f hZ hB
      refine ⟨Y, ?_, y1⟩
      show qf_X3_share_B 20000 (qr_X3_share 20000 N') k Z = some ((), Y)
      unfold qf_X3_share_B
      rw [if_pos (show (k : Int) < Z 1337 4 0 by omega), if_pos (show 0 ≤ (k : Int) ∧ (k : Int) < 6 by omega), if_pos (show Z 2146 (k : Int) 0 = 0 by omega), w32_s (show k < 1000 by omega), e1]
      rfl
    · have es : sfx W (r + 1) k = (k : Int) :: sfx W r (k + 1) := if_neg (by omega)
      rw [es] at eE ⊢
      obtain ⟨m, hm⟩ : ∃ m, (sfx W r (k + 1)).length = m := ⟨_, rfl⟩
      rw [List.length_cons, hm]
      have eE2 : (E1 ++ [(k : Int)]) ++ sfx W r (k + 1) = E := by
        rw [List.append_assoc]
        exact eE
      have hpE := hp
      rw [← eE, List.pairwise_append] at hpE
      have hp1 := hpE.1
      have hk1 : ∀ j, j ∈ E1 → 0 ≤ j ∧ j < (k : Int) := fun j hj => ⟨(hk j (by rw [← eE]; exact List.mem_append_left _ hj)).1, hpE.2.2 j hj k List.mem_cons_self⟩
      have inner : ∀ (r2 a Nl : Nat) (Z' : qm) (B' : Int × List Int), a + r2 = cs → r2 < Nl → SHG M Z' → (∀ c : Nat, c < cs → Z' 2154 c 0 = ((shb E1 D1 c : Nat) : Int)) → BSS Z' cs E B' → ∃ Y, qf_X3_share_B_L32 20000 (qr_X3_share 20000 N') Nl k a Z' = some (.inr ((), Y)) ∧ SHG M Y ∧ (∀ c : Nat, c < cs → Y 2154 c 0 = ((shb E1 D1 c : Nat) : Int)) ∧ BSS Y cs E ((((List.range' a r2).flatMap (fun (a : Nat) => (asg cs m).map (fun t => (a : Int) :: t))).map (fun t => D1 ++ t)).foldl (bs1 (smC M cs E) (ftC M cs E)) B') := by
        intro r2
        induction r2 with
        | zero =>
          intro a Nl Z' B' ac rN2 f' z' hB'
          obtain ⟨N1, rfl⟩ : ∃ N1, Nl = N1 + 1 := ⟨Nl - 1, by omega⟩
          refine ⟨Z', ?_, f', z', hB'⟩
          show qloop _ (N1 + 1) ((k : Int), (a : Int), Z') = _
          rw [qloop.eq_2]
          (try dsimp only)
          have b : qf_X3_share_B_L32_b 20000 (qr_X3_share 20000 N') k a Z' = some (.inl (.inr ((), Z'))) := by
            unfold qf_X3_share_B_L32_b
            rw [if_pos (show Z' 1337 0 0 ≤ (a : Int) by rw [f' _ _ _ (by decide) (by decide) (by omega)]; omega)]
          rw [b]
        | succ r2 ih2 =>
          intro a Nl Z' B' ac rN2 f' z' hB'
          obtain ⟨N1, rfl⟩ : ∃ N1, Nl = N1 + 1 := ⟨Nl - 1, by omega⟩
          have zc : Z' 1337 0 0 = cs := (f' _ _ _ (by decide) (by decide) (by omega)).trans hcs
          have z46' : Z' 2146 (k : Int) 0 = v := (f' _ _ _ (by decide) (by decide) (by omega)).trans hv'
          have on : ∀ {Y : qm}, qf_X3_share_B_L32_b 20000 (qr_X3_share 20000 N') k a Z' = some (.inr ((k : Int), (a : Int) + 1, Y)) → qf_X3_share_B_L32 20000 (qr_X3_share 20000 N') (N1 + 1) k a Z' = qf_X3_share_B_L32 20000 (qr_X3_share 20000 N') N1 k ((a + 1 : Nat) : Int) Y := fun {Y} e => by
            show qloop _ (N1 + 1) ((k : Int), (a : Int), Z') = _
            rw [qloop.eq_2]
            (try dsimp only)
            rw [e]
            rfl
          rw [List.range'_succ, List.flatMap_cons, List.map_append, List.foldl_append]
          by_cases gb : bitN v a = true
          · obtain ⟨S, hS⟩ : ∃ S : Nat, shb E1 D1 a = S := ⟨_, rfl⟩
            have sb := shb_bit (c := a) E1 D1 hp1 (fun j hj => by have := hk1 j hj; omega)
            rw [hS] at sb
            have off : bitN S k = false := by
              cases hq : bitN S k with
              | false => rfl
              | true =>
                have z := (sb.2 k (by omega)).mp hq
                have := hk1 _ ((sbl_sl E1 D1).subset z)
                omega
            have za : Z' 2154 (a : Int) 0 = S := by
              rw [z' a (by omega), hS]
            obtain ⟨Z1, hZ1⟩ : ∃ Z1, qw Z' 2154 (a : Int) 0 ((S + 2 ^ k : Nat) : Int) = Z1 := ⟨_, rfl⟩
            have f1 : SHG M Z1 := fun e x y z1 z2 z3 => by
              rw [← hZ1, qw_a z1]
              exact f' e x y z1 z2 z3
            have sh : ∀ c : Nat, shb (E1 ++ [(k : Int)]) (D1 ++ [(a : Int)]) c = shb E1 D1 c + (if a = c then 2 ^ k else 0) := fun c => by
              rw [shb_app E1 D1 le]
              show shb E1 D1 c + ((if (a : Int) = (c : Int) then 2 ^ ((k : Int)).toNat else 0) + 0) = _
              rw [show ((k : Int)).toNat = k by omega]
              by_cases g : a = c
              · rw [if_pos g, if_pos (show (a : Int) = c by omega)]
                omega
              · rw [if_neg g, if_neg (show ¬ (a : Int) = c by omega)]
            obtain ⟨Y1, e1, y1, y2, y3⟩ := ih (k + 1) N' (E1 ++ [(k : Int)]) (D1 ++ [(a : Int)]) Z1 B' (by omega) (by omega) eE2 (by rw [List.length_append, List.length_append, le]; rfl) (fun c hc j hj => by
                rw [sbl_app E1 D1 le] at hj
                rcases List.mem_append.mp hj with z | z
                · exact ok c hc j z
                · have z2 : j ∈ (if (a : Int) = (c : Int) then [(k : Int)] else []) := z
                  by_cases g : (a : Int) = (c : Int)
                  · rw [if_pos g, List.mem_singleton] at z2
                    rw [z2, hv', show ((v : Int)).toNat = v by omega, ← show a = c by omega]
                    exact gb
                  · rw [if_neg g] at z2
                    cases z2) f1 (fun c hc => by
                rw [sh c]
                by_cases g : a = c
                · rw [if_pos g, ← g, hS, ← hZ1]
                  exact qw_s
                · rw [if_neg g, ← hZ1, qw_i (by omega), z' c hc, Nat.add_zero]) ⟨by
                  rw [← hZ1, qw_a (by decide)]
                  exact hB'.1, fun z c hc => by
                  rw [← hZ1, qw_a (by decide)]
                  exact hB'.2 z c hc⟩
            have y1a : Y1 2154 (a : Int) 0 = ((S + 2 ^ k : Nat) : Int) := by
              rw [y2 a (by omega), ← hZ1]
              exact qw_s
            have on1 : bitN (S + 2 ^ k) k = true := by
              rw [bit_add sb.1 (by omega) (by omega) off]
              simp
            have bk : bA ((S + 2 ^ k : Nat) : Int) (bX (bL 1 (k : Int)) (-1)) = S := by
              rw [bit_f (bit_lt sb.1 (by omega) off) (by omega), if_pos on1]
              omega
            have st : qf_X3_share_B_L32_b 20000 (qr_X3_share 20000 N') k a Z' = some (.inr ((k : Int), (a : Int) + 1, qw Y1 2154 (a : Int) 0 S)) := by
              unfold qf_X3_share_B_L32_b qbnd
              rw [if_neg (show ¬ Z' 1337 0 0 ≤ (a : Int) by omega), if_pos (show 0 ≤ (k : Int) ∧ (k : Int) < 6 by omega), z46', bit_e (show v < 64 by omega) (show a < 6 by omega), if_pos gb, if_neg (by decide)]
              simp only [if_pos (show 0 ≤ (a : Int) ∧ (a : Int) < 4 by omega)]
              rw [za, bit_o sb.1 (by omega), off, if_neg (show ¬ false = true by decide), hZ1, w32_s (show k < 1000 by omega), e1]
              simp only [Option.bind_some]
              rw [y1a, bk, w32_t (show a < 1000 by omega)]
            rw [on st]
            have em : ((asg cs m).map (fun t => (a : Int) :: t)).map (fun t => D1 ++ t) = (asg cs m).map (fun t => D1 ++ [(a : Int)] ++ t) := by
              rw [List.map_map]
              refine congrFun (congrArg _ (funext (fun t => ?_))) _
              show D1 ++ (a : Int) :: t = D1 ++ [(a : Int)] ++ t
              rw [List.append_assoc]
              rfl
            rw [em]
            rw [hm] at y3
            refine ih2 (a + 1) N1 _ _ (by omega) (by omega) (fun e x y z1 z2 z3 => ?_) (fun c hc => ?_) ⟨?_, fun z c hc => ?_⟩
            · rw [qw_a z1]
              exact y1 e x y z1 z2 z3
            · by_cases g : c = a
              · rw [g, hS]
                exact qw_s
              · rw [qw_i (by omega), y2 c hc, ← hZ1, qw_i (by omega)]
                exact z' c hc
            · rw [qw_a (by decide)]
              exact y3.1
            · rw [qw_a (by decide)]
              exact y3.2 z c hc
          · have st : qf_X3_share_B_L32_b 20000 (qr_X3_share 20000 N') k a Z' = some (.inr ((k : Int), (a : Int) + 1, Z')) := by
              unfold qf_X3_share_B_L32_b
              rw [if_neg (show ¬ Z' 1337 0 0 ≤ (a : Int) by omega), if_pos (show 0 ≤ (k : Int) ∧ (k : Int) < 6 by omega), z46', bit_e (show v < 64 by omega) (show a < 6 by omega), if_neg gb, if_pos rfl, w32_t (show a < 1000 by omega)]
            rw [on st]
            have no : (((asg cs m).map (fun t => (a : Int) :: t)).map (fun t => D1 ++ t)).foldl (bs1 (smC M cs E) (ftC M cs E)) B' = B' := by
              refine fold_no _ (fun l hl okl => absurd okl ?_)
              obtain ⟨t2, ht2, e2⟩ := List.mem_map.mp hl
              obtain ⟨t, ht, e3⟩ := List.mem_map.mp ht2
              intro z
              have q := z a (by omega) k (by
                rw [← e2, ← e3, ← eE]
                show (k : Int) ∈ sbl (E1 ++ (k : Int) :: sfx W r (k + 1)) (D1 ++ (a : Int) :: t) a
                rw [sbl_app E1 D1 le]
                refine List.mem_append_right _ ?_
                show (k : Int) ∈ (if (a : Int) = (a : Int) then (k : Int) :: sbl (sfx W r (k + 1)) t a else sbl (sfx W r (k + 1)) t a)
                rw [if_pos rfl]
                exact List.mem_cons_self)
              rw [hv', show ((v : Int)).toNat = v by omega] at q
              exact gb q
            rw [no]
            exact ih2 (a + 1) N1 Z' B' (by omega) (by omega) f' z' hB'
      obtain ⟨Y, e1, y1, y2, y3⟩ := inner cs 0 20000 Z B (by omega) (by omega) f hZ hB
      refine ⟨Y, ?_, y1, fun c hc => (y2 c hc).trans (hZ c hc).symm, ?_⟩
      · show qf_X3_share_B 20000 (qr_X3_share 20000 N') k Z = some ((), Y)
        unfold qf_X3_share_B
        have e1' : qf_X3_share_B_L32 20000 (qr_X3_share 20000 N') 20000 k 0 Z = some (.inr ((), Y)) := e1
        rw [if_pos (show (k : Int) < Z 1337 4 0 by omega), if_pos (show 0 ≤ (k : Int) ∧ (k : Int) < 6 by omega), if_neg (show ¬ Z 2146 (k : Int) 0 = 0 by omega), e1']
        rfl
      · show BSS Y cs E ((((List.range cs).flatMap (fun (a : Nat) => (asg cs m).map (fun t => (a : Int) :: t))).map (fun t => D1 ++ t)).foldl (bs1 (smC M cs E) (ftC M cs E)) B)
        rw [List.range_eq_range']
        exact y3
end GVs
