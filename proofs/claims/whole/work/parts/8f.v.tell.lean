/-! ===== the giving: what is found is told ===== -/
section GVv
variable {M K A X V : qm} {a b d i q v w T fl bh sp many : Int} {c n s r cs C : Nat} {t u pre E D : List Int} {B : Int × List Int}
/-- second of picking, of setting down, and place of a call in a row -/
def plc (sp : Int) (fr to : Int → Int) : Int → Int → Int → List Int → Int → Int × Int × Int
  | _, _, _, [], _ => (0, 0, 0)
  | fl, bh, k, y :: t, x => if x = y then (bh + sp * qd fl (fr y), bh + sp * qd fl (fr y) + (3 + sp * qd (fr y) (to y)), k) else plc sp fr to (to y) (bh + sp * qd fl (fr y) + (3 + sp * qd (fr y) (to y)) + 3) (k + 1) t x
def plcK (K : qm) (c : Int) (fl bh k : Int) (l : List Int) (x : Int) : Int × Int × Int := plc (K 2271 c 0) (fun x => K 2276 x 0) (fun x => K 2277 x 0) fl bh k l x
theorem plc_h {k y : Int} : plcK K a fl bh k (y :: t) y = (bh + K 2271 a 0 * qd fl (K 2276 y 0), bh + K 2271 a 0 * qd fl (K 2276 y 0) + (3 + K 2271 a 0 * qd (K 2276 y 0) (K 2277 y 0)), k) := by
  unfold plcK plc
  exact if_pos rfl
theorem plc_t {k x y : Int} (h : x ≠ y) : plcK K a fl bh k (y :: t) x = plcK K a (K 2277 y 0) (bh + K 2271 a 0 * qd fl (K 2276 y 0) + (3 + K 2271 a 0 * qd (K 2276 y 0) (K 2277 y 0)) + 3) (k + 1) t x := by
  unfold plcK
  rw [plc]
  exact if_neg h
/-- besides what is told all is as in K -/
def TLF (K Z : qm) : Prop := ∀ e x y, e ≠ 2285 → e ≠ 2286 → e ≠ 2287 → e ≠ 2288 → Z e x y = K e x y
theorem way_T {Z : qm} (h : CAR K a) (f : TLF K Z) (a0 : 0 ≤ fl) (a1 : fl < 60) (b0 : 0 ≤ b) (b1 : b < 60) : qf_X13_way 20000 a fl b Z = some (K 2271 a 0 * qd fl b) := by
  have hZ : CAR Z a := by
    unfold CAR at h ⊢
    rw [f 2271 _ _ (by decide) (by decide) (by decide) (by decide), f 2272 _ _ (by decide) (by decide) (by decide) (by decide), f 2273 _ _ (by decide) (by decide) (by decide) (by decide), f 2270 _ _ (by decide) (by decide) (by decide) (by decide)]
    exact h
  have q := lway_K hZ a0 a1 b0 b1
  rw [f 2271 _ _ (by decide) (by decide) (by decide) (by decide)] at q
  exact q
/-- what stands for a call in the reference -/
def TLD (Z : qm) (c : Int) (p : Int × Int × Int) (x : Int) : Prop := Z 2285 x 0 = c ∧ Z 2286 x 0 = p.1 ∧ Z 2287 x 0 = p.2.1 ∧ Z 2288 x 0 = p.2.2
theorem telll_K (h : CAR K c) (hd : 64 * (c : Int) + r = d) (r64 : r < 64) : ∀ (l : List Int) (k N : Nat) (fl bh : Int) (Z : qm), k + l.length ≤ 6 → many = k + l.length → l.length < N → l.Nodup → (∀ y, y ∈ l → CLL K y) → TLF K Z → rl (fun k => K 2284 (6 * d + k) 0) l.length k = l → 0 ≤ fl → fl < 60 → 0 ≤ bh → bh ≤ 100000 + 1000 * k → ∃ Y, qf_X13_tell_L47 20000 N c r bh fl many k Z = some (.inr ((), Y)) ∧ TLF K Y ∧ (∀ e x y, x ∉ l → Y e x y = Z e x y) ∧ ∀ x, x ∈ l → TLD Y c (plcK K c fl bh k l x) x := by
  have hh := h
  unfold CAR at hh
  intro l
  induction l with
  | nil =>
    intro k N fl bh Z k6 hm lN nd cl f hr f0 f1 b0 b1
    obtain ⟨N', rfl⟩ : ∃ N', N = N' + 1 := ⟨N - 1, by omega⟩
    refine ⟨Z, ?_, f, fun _ _ _ _ => rfl, fun x hx => by cases hx⟩
    show qloop _ (N' + 1) ((c : Int), (r : Int), bh, fl, many, (k : Int), Z) = _
    rw [qloop.eq_2]
    (try dsimp only)
    have b : qf_X13_tell_L47_b 20000 c r bh fl many k Z = some (.inl (.inr ((), Z))) := by
      unfold qf_X13_tell_L47_b
      rw [if_pos (show many ≤ (k : Int) by rw [List.length_nil] at hm; omega)]
    rw [b]
  | cons y t ih =>
    intro k N fl bh Z k6 hm lN nd cl f hr f0 f1 b0 b1
    obtain ⟨N', rfl⟩ : ∃ N', N = N' + 1 := ⟨N - 1, by omega⟩
    rw [List.length_cons] at k6 hm lN
    rw [List.nodup_cons] at nd
    obtain ⟨_, hr1, hr2⟩ := rl_cons hr
    have hr1' : K 2284 (6 * d + k) 0 = y := hr1
    have hy := cl y List.mem_cons_self
    have o := one_b h hy f0 f1 b0 (by omega)
    have hy' := hy
    unfold CLL at hy'
    obtain ⟨U, hU⟩ : ∃ U, K 2271 c 0 * qd fl (K 2276 y 0) = U := ⟨_, rfl⟩
    obtain ⟨V, hV⟩ : ∃ V, K 2271 c 0 * qd (K 2276 y 0) (K 2277 y 0) = V := ⟨_, rfl⟩
    rw [hU, hV] at o
    obtain ⟨A1, hA1⟩ : ∃ A1, qw Z 2285 y 0 c = A1 := ⟨_, rfl⟩
    obtain ⟨A2, hA2⟩ : ∃ A2, qw A1 2288 y 0 k = A2 := ⟨_, rfl⟩
    obtain ⟨A3, hA3⟩ : ∃ A3, qw A2 2286 y 0 (bh + U) = A3 := ⟨_, rfl⟩
    obtain ⟨A4, hA4⟩ : ∃ A4, qw A3 2287 y 0 (bh + U + 3 + V) = A4 := ⟨_, rfl⟩
    have f1' : TLF K A1 := fun e x y z1 z2 z3 z4 => by rw [← hA1, qw_a z1]; exact f e x y z1 z2 z3 z4
    have f2' : TLF K A2 := fun e x y z1 z2 z3 z4 => by rw [← hA2, qw_a z4]; exact f1' e x y z1 z2 z3 z4
    have f3' : TLF K A3 := fun e x y z1 z2 z3 z4 => by rw [← hA3, qw_a z2]; exact f2' e x y z1 z2 z3 z4
    have f4' : TLF K A4 := fun e x y z1 z2 z3 z4 => by rw [← hA4, qw_a z3]; exact f3' e x y z1 z2 z3 z4
    have e1 := way_T h f2' f0 f1 hy'.2.2.1 hy'.2.2.2.1
    have e2 := way_T h f3' hy'.2.2.1 hy'.2.2.2.1 hy'.2.2.2.2.1 hy'.2.2.2.2.2.1
    rw [hU] at e1
    rw [hV] at e2
    have a86 : A3 2286 y 0 = bh + U := by rw [← hA3]; exact qw_s
    have a87 : A4 2287 y 0 = bh + U + 3 + V := by rw [← hA4]; exact qw_s
    have zr : Z 2284 (6 * d + k) 0 = y := (f _ _ _ (by decide) (by decide) (by decide) (by decide)).trans hr1'
    have st : qf_X13_tell_L47_b 20000 c r bh fl many k Z = some (.inr ((c : Int), (r : Int), bh + U + 3 + V + 3, K 2277 y 0, many, (k : Int) + 1, A4)) := by
      unfold qf_X13_tell_L47_b qbnd
      rw [if_neg (show ¬ many ≤ (k : Int) by omega), w32_id (x := 64 * (c : Int)) (by omega) (by omega), w32_id (x := 64 * (c : Int) + r) (by omega) (by omega), hd, w32_id (x := 6 * d) (by omega) (by omega), w32_id (x := 6 * d + (k : Int)) (by omega) (by omega), if_pos (show 0 ≤ 6 * d + (k : Int) ∧ 6 * d + (k : Int) < 1536 by omega), zr]
      simp only [if_pos (show 0 ≤ y ∧ y < 400 from ⟨hy'.1, hy'.2.1⟩)]
      rw [hA1]
      simp only [hA2]
      rw [show A2 2276 y 0 = K 2276 y 0 from f2' _ _ _ (by decide) (by decide) (by decide) (by decide), e1]
      simp only [Option.bind_some]
      rw [w32_id (x := bh + U) (by omega) (by omega)]
      simp only [hA3]
      rw [show A3 2276 y 0 = K 2276 y 0 from f3' _ _ _ (by decide) (by decide) (by decide) (by decide), show A3 2277 y 0 = K 2277 y 0 from f3' _ _ _ (by decide) (by decide) (by decide) (by decide), e2]
      simp only [Option.bind_some]
      rw [a86, w32_id (x := bh + U + 3) (by omega) (by omega), w32_id (x := bh + U + 3 + V) (by omega) (by omega)]
      simp only [hA4]
      rw [a87, show A4 2277 y 0 = K 2277 y 0 from f4' _ _ _ (by decide) (by decide) (by decide) (by decide), w32_id (x := bh + U + 3 + V + 3) (by omega) (by omega), w32_id (x := (k : Int) + 1) (by omega) (by omega)]
    obtain ⟨Y, y1, y2, y3, y4⟩ := ih (k + 1) N' (K 2277 y 0) (bh + U + 3 + V + 3) A4 (by omega) (by omega) (by omega) nd.2 (fun z hz => cl z (List.mem_cons_of_mem _ hz)) f4' hr2 (by omega) (by omega) (by omega) (by omega)
    have y1' : qf_X13_tell_L47 20000 N' c r (bh + U + 3 + V + 3) (K 2277 y 0) many ((k : Int) + 1) A4 = some (.inr ((), Y)) := y1
    refine ⟨Y, ?_, y2, fun e x y' hx => ?_, fun x hx => ?_⟩
    · show qloop _ (N' + 1) ((c : Int), (r : Int), bh, fl, many, (k : Int), Z) = _
      rw [qloop.eq_2]
      (try dsimp only)
      rw [st]
      exact y1'
    · have xy : x ≠ y := fun z => hx (by rw [z]; exact List.mem_cons_self)
      rw [y3 e x y' (fun z => hx (List.mem_cons_of_mem _ z)), ← hA4, qw_ap, if_neg (by omega), ← hA3, qw_ap, if_neg (by omega), ← hA2, qw_ap, if_neg (by omega), ← hA1, qw_ap, if_neg (by omega)]
    · by_cases xy : x = y
      · rw [xy, plc_h, hU, hV]
        unfold TLD
        rw [y3 2285 y 0 nd.1, y3 2286 y 0 nd.1, y3 2287 y 0 nd.1, y3 2288 y 0 nd.1]
        refine ⟨?_, ?_, ?_, ?_⟩
        · rw [← hA4, qw_a (by decide), ← hA3, qw_a (by decide), ← hA2, qw_a (by decide), ← hA1]
          exact qw_s
        · rw [← hA4, qw_a (by decide)]
          exact a86
        · rw [a87]
          show bh + U + 3 + V = bh + U + (3 + V)
          omega
        · rw [← hA4, qw_a (by decide), ← hA3, qw_a (by decide), ← hA2]
          exact qw_s
      · rw [plc_t xy, hU, hV, show bh + U + (3 + V) + 3 = bh + U + 3 + V + 3 by omega]
        exact y4 x ((List.mem_cons.mp hx).elim (fun z => absurd z xy) id)
def cnb (x : Nat) : Nat → Nat
  | 0 => 0
  | m + 1 => cnb x m + if bitN x m then 1 else 0
theorem cnb_all : ((List.range 64).all (fun x => (List.range 1).all (fun _ => cnb x 6 == (bts x 6 0).length))) = true := by decide +kernel
theorem cnb_e (h : r < 64) : cnb r 6 = (bts r 6 0).length := beq_iff_eq.mp (all_2 (m := 0) (f := fun x _ => cnb x 6 == (bts x 6 0).length) cnb_all h (by decide))
theorem cnb_b : ∀ m : Nat, cnb r m ≤ m := by
  intro m
  induction m with
  | zero => exact Nat.le_refl _
  | succ m ih =>
    show cnb r m + (if bitN r m then 1 else 0) ≤ m + 1
    by_cases g : bitN r m = true
    · rw [if_pos g]
      omega
    · rw [if_neg g]
      omega
theorem many_K {Z : qm} (r64 : r < 64) : qf_X13_tell_L20 20000 20000 a r b d 0 0 Z = some (.inr ((bts r 6 0).length : Int)) := by
  obtain ⟨o, e1, ho⟩ : qW (qf_X13_tell_L20 20000 20000 a r b d 0 0 Z) (fun o => o = .inr ((cnb r 6 : Nat) : Int)) := by
    unfold qf_X13_tell_L20
    refine qW_for 6 (fun i s => s = (a, (r : Int), b, d, ((cnb r i.toNat : Nat) : Int), i)) ?_ ?_ rfl (by omega) (by omega)
    · rintro i _ i0 i1 rfl
      obtain ⟨I, rfl⟩ : ∃ I : Nat, i = I := ⟨i.toNat, by omega⟩
      have cb := cnb_b (r := r) I
      show qW (qf_X13_tell_L20_b 20000 a r b d ((cnb r ((I : Int)).toNat : Nat) : Int) I Z) _
      unfold qf_X13_tell_L20_b
      rw [if_neg (show ¬ (6 : Int) ≤ (I : Int) by omega), show ((I : Int)).toNat = I by omega, bit_e r64 (show I < 6 by omega), w32_id (x := (I : Int) + 1) (by omega) (by omega)]
      have e : w32 (((cnb r I : Nat) : Int) + (if bitN r I = true then 1 else 0)) = ((cnb r (I + 1) : Nat) : Int) := by
        show _ = ((cnb r I + (if bitN r I then 1 else 0) : Nat) : Int)
        by_cases g : bitN r I = true
        · rw [if_pos g, if_pos g, w32_id (by omega) (by omega)]
          rfl
        · rw [if_neg g, if_neg g, w32_id (by omega) (by omega)]
          rfl
      rw [e]
      refine qW_some ?_
      rw [show ((I : Int) + 1).toNat = I + 1 by omega]
    · rintro _ rfl
      show qW (qf_X13_tell_L20_b 20000 a r b d ((cnb r ((6 : Int)).toNat : Nat) : Int) 6 Z) _
      unfold qf_X13_tell_L20_b
      rw [if_pos (by omega)]
      exact qW_some rfl
  rw [e1, ho, cnb_e r64]
theorem begins_K {Z : qm} (h : CAR K c) (f : TLF K Z) : qf_X13_begins 20000 c Z = some (bhd K c) := by
  unfold CAR at h
  unfold qf_X13_begins bhd
  rw [f 2273 _ _ (by decide) (by decide) (by decide) (by decide), f 2270 12 _ (by decide) (by decide) (by decide) (by decide), if_pos (show 0 ≤ (c : Int) ∧ (c : Int) < 4 by omega)]
  by_cases g : K 2273 c 0 ≤ K 2270 12 0
  · rw [if_pos g, if_pos g]
  · rw [if_neg g, if_neg g, if_pos (show 0 ≤ (c : Int) ∧ (c : Int) < 4 by omega), w32_id (x := K 2273 c 0 - K 2270 12 0) (by omega) (by omega)]
theorem tell_K {l : List Int} {Z : qm} (h : CAR K c) (r64 : r < 64) (hl : l.length = (bts r 6 0).length) (nd : l.Nodup) (cl : ∀ y, y ∈ l → CLL K y) (f : TLF K Z) (hr : rl (fun k => K 2284 (6 * (64 * (c : Int) + r) + k) 0) l.length 0 = l) : ∃ Y, qf_X13_tell 20000 c r Z = some ((), Y) ∧ TLF K Y ∧ (∀ e x y, x ∉ l → Y e x y = Z e x y) ∧ ∀ x, x ∈ l → TLD Y c (plcK K c (K 2272 c 0) (bhd K c) 0 l x) x := by
  have hh := h
  unfold CAR at hh
  have bb := bhd_b h
  have l6 := bts_len (x := r) 6 0
  obtain ⟨Y, y1, y2⟩ := telll_K (many := (l.length : Int)) h rfl r64 l 0 20000 (K 2272 c 0) (bhd K c) Z (by omega) (by omega) (by omega) nd cl f hr (by omega) (by omega) bb.1 (by omega)
  refine ⟨Y, ?_, y2⟩
  unfold qf_X13_tell
  rw [begins_K h f]
  simp only [Option.bind_some]
  rw [if_pos (show 0 ≤ (c : Int) ∧ (c : Int) < 4 by omega), many_K r64]
  simp only [Option.bind_some]
  rw [← hl, f 2272 _ _ (by decide) (by decide) (by decide) (by decide)]
  have y1' : qf_X13_tell_L47 20000 20000 c r (bhd K c) (K 2272 c 0) (l.length : Int) 0 Z = some (.inr ((), Y)) := y1
  rw [y1']
  rfl
end GVv
