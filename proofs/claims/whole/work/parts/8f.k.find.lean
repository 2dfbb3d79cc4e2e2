/-! ===== the giving: the reference's best row of a set ===== -/
section GVk
variable {M K A W Z X Y : qm} {a b d i j k p q v w T x y : Int} {c m n s r C : Nat} {l t u pre : List Int} {B : Int × List Int}
theorem rok_o (h : ∀ e x y, (e = 2271 ∨ e = 2272 ∨ e = 2273 ∨ e = 2276 ∨ e = 2277 ∨ e = 2278 ∨ e = 2280 ∨ (e = 2270 ∧ x = 12)) → Z e x y = K e x y) : rok Z a = rok K a := by
  have e1 : wgt Z = wgt K := funext (fun x => by unfold wgt; rw [h 2270 12 0 (by omega), h _ _ _ (by omega)])
  have e2 : (fun x => Z 2276 x 0) = (fun x => K 2276 x 0) := funext (fun x => h _ _ _ (by omega))
  have e3 : (fun x => Z 2277 x 0) = (fun x => K 2277 x 0) := funext (fun x => h _ _ _ (by omega))
  have e4 : rco Z a (Z 2272 a 0) (bhd Z a) = rco K a (K 2272 a 0) (bhd K a) := by
    funext l
    unfold rco bhd
    rw [e1, e2, e3, h 2271 a 0 (by omega), h 2272 a 0 (by omega), h 2273 a 0 (by omega), h 2270 12 0 (by omega)]
  have e5 : okRow Z a = okRow K a := by
    funext l
    unfold okRow
    exact propext ⟨fun q x hx => by rw [← h 2280 x 0 (by omega)]; exact q x hx, fun q x hx => by rw [h 2280 x 0 (by omega)]; exact q x hx⟩
  unfold rok
  rw [e4, e5]
theorem map_pw {f : Int → Int} : ∀ (l : List Int), l.Pairwise (· < ·) → (∀ x y, x ∈ l → y ∈ l → x < y → f x < f y) → (l.map f).Pairwise (· < ·) := by
  intro l
  induction l with
  | nil => exact fun _ _ => List.Pairwise.nil
  | cons a t ih =>
    intro h g
    rw [List.pairwise_cons] at h
    rw [List.map_cons, List.pairwise_cons]
    refine ⟨fun y hy => ?_, ih h.2 (fun x y hx hy => g x y (List.mem_cons_of_mem _ hx) (List.mem_cons_of_mem _ hy))⟩
    obtain ⟨z, hz, e⟩ := List.mem_map.mp hy
    rw [← e]
    exact g a z List.mem_cons_self (List.mem_cons_of_mem _ hz) (h.1 z hz)
/-- the calls of the set r -/
def cal (K : qm) (r C : Nat) : List Int := (bts r C 0).map (fun k => K 2281 k 0)
/-- what stands at d for the car c and the set r -/
def FBR (K Y : qm) (c r C : Nat) (d : Int) : Prop := ((∀ k, k ∈ bts r C 0 → mayT K c (K 2281 k 0)) ∧ ∃ l0, BSD Y d (cal K r C).length ((prm (cal K r C).length (cal K r C)).foldl (rok K c) (1152921504606846976, l0))) ∨ ((∃ k, k ∈ bts r C 0 ∧ ¬ mayT K c (K 2281 k 0)) ∧ Y 2283 d 0 = 1152921504606846976)
theorem findRow_K (h : CAR K c) (n1 : K 2270 0 0 ≤ 4) (hh : 0 < C → K 2270 13 0 = 0) (hc : (c : Int) < K 2270 0 0) (hC : K 2270 14 0 = C) (C6 : C ≤ 6) (r64 : r < 64) (hch : ∀ k, 0 ≤ k → k < (C : Int) → CLL K (K 2281 k 0)) (hinc : ∀ j k, 0 ≤ j → j < k → k < (C : Int) → K 2281 j 0 < K 2281 k 0) : ∃ Y, qf_X13_findRow 20000 c r K = some ((), Y) ∧ FBR K Y c r C (64 * c + r) ∧ ∀ e x y, ¬ (e = 2284 ∧ 6 * (64 * (c : Int) + r) ≤ x ∧ x < 6 * (64 * (c : Int) + r) + 6) → ¬ (e = 2283 ∧ x = 64 * (c : Int) + r) → e ≠ 2282 → ¬ (e = 2270 ∧ x = 16) → Y e x y = K e x y := by
  have hcar := h
  unfold CAR at hcar
  obtain ⟨d, hd⟩ : ∃ d : Int, 64 * (c : Int) + r = d := ⟨_, rfl⟩
  have d0 : 0 ≤ d := by omega
  have d1 : d < 256 := by omega
  rw [hd]
  obtain ⟨K1, hK1⟩ : ∃ X, qw (qw K 2283 d 0 1152921504606846976) 2270 16 0 0 = X := ⟨_, rfl⟩
  have f1 : ∀ e x y, ¬ (e = 2283 ∧ x = d) → ¬ (e = 2270 ∧ x = 16) → K1 e x y = K e x y := fun e x y z1 z2 => by rw [← hK1, qw_ap, if_neg (by omega), qw_ap, if_neg (by omega)]
  have k16 : K1 2270 16 0 = 0 := by rw [← hK1]; exact qw_s
  have k83 : K1 2283 d 0 = 1152921504606846976 := by rw [← hK1, qw_a (by decide)]; exact qw_s
  have k81 : ∀ k, K1 2281 k 0 = K 2281 k 0 := fun k => f1 _ _ _ (by omega) (by omega)
  have mt : ∀ x, mayT K1 c x ↔ mayT K c x := fun x => by
    unfold mayT
    rw [f1 2274 _ _ (by omega) (by omega), f1 2275 _ _ (by omega) (by omega), f1 2276 _ _ (by omega) (by omega), f1 2277 _ _ (by omega) (by omega), f1 2280 _ _ (by omega) (by omega)]
  have st : ∀ o, qf_X13_findRow_L24 20000 20000 c r d 0 K1 = some o → qf_X13_findRow 20000 c r K = (match o with | .inl o => some o | .inr (_, M16) => (qf_X13_findRow_L97 20000 20000 c d 1 M16).bind (fun r => (match r with | .inl o => some o | .inr (_, M33) => some ((), M33)))) := fun o ho => by
    unfold qf_X13_findRow qbnd
    rw [w32_id (x := 64 * (c : Int)) (by omega) (by omega), w32_id (x := 64 * (c : Int) + r) (by omega) (by omega), hd, if_pos (show 0 ≤ d ∧ d < 256 from ⟨d0, d1⟩)]
    (try dsimp only)
    rw [hK1, ho]
    rfl
  obtain ⟨Y, fY, hY⟩ := set_K (K := K1) (c := c) (C := C) (r := r) (d := d) (by rw [f1 _ _ _ (by omega) (by omega)]; omega) (by rw [f1 _ _ _ (by omega) (by omega)]; exact n1) (fun z => (f1 _ _ _ (by omega) (by omega)).trans (hh z)) (by rw [f1 _ _ _ (by omega) (by omega)]; exact hc) (by rw [f1 _ _ _ (by omega) (by omega)]; exact hC) C6 r64 (fun k k0 k1 => by
    have q := hch k k0 k1
    unfold CLL at q
    rw [k81]
    exact ⟨q.1, q.2.1⟩) C 0 K1 [] 20000 (by omega) (by omega) (fun _ _ _ _ _ => rfl) k16 rfl (Nat.le_refl _)
  have gY : ∀ e x y, ¬ (e = 2283 ∧ x = d) → e ≠ 2282 → ¬ (e = 2270 ∧ x = 16) → Y e x y = K e x y := fun e x y z1 z2 z3 => (fY e x y z2 z3).trans (f1 e x y z1 z3)
  rcases hY with ⟨e1, e2, e3, e4⟩ | ⟨e1, k, e2, e3⟩
  · have e1' := st _ e1
    (try dsimp only at e1')
    obtain ⟨l, hl⟩ : ∃ l, cal K r C = l := ⟨_, rfl⟩
    have el : ([] : List Int) ++ (bts r C 0).map (fun k => K1 2281 k 0) = l := by
      rw [List.nil_append, ← hl]
      unfold cal
      rw [show (fun k => K1 2281 k 0) = (fun k => K 2281 k 0) from funext k81]
    have ll : (bts r C 0).length = l.length := by
      rw [← hl]
      unfold cal
      rw [List.length_map]
    rw [el, List.length_nil, Nat.zero_add, ll] at e4
    rw [List.length_nil, Nat.zero_add, ll] at e3
    have l6 : l.length ≤ 6 := by
      rw [← ll]
      have := bts_len (x := r) C 0
      omega
    have pw : l.Pairwise (· < ·) := by
      rw [← hl]
      refine map_pw _ (bts_pw C 0) (fun x y hx hy xy => ?_)
      obtain ⟨j1, a1, a2, a3, _⟩ := (bts_in C 0 x).mp hx
      obtain ⟨j2, b1, b2, b3, _⟩ := (bts_in C 0 y).mp hy
      exact hinc x y (by omega) xy (by omega)
    have cl : ∀ x, x ∈ l → CLL Y x := fun x hx => by
      rw [← hl] at hx
      obtain ⟨k, hk, e⟩ := List.mem_map.mp hx
      obtain ⟨j1, a1, a2, a3, _⟩ := (bts_in C 0 k).mp hk
      have q := hch k (by omega) (by omega)
      rw [← e]
      unfold CLL at q ⊢
      rw [gY 2276 _ _ (by omega) (by omega) (by omega), gY 2277 _ _ (by omega) (by omega) (by omega), gY 2278 _ _ (by omega) (by omega) (by omega), gY 2270 12 _ (by omega) (by omega) (by omega)]
      exact q
    have hY2 : CAR Y c := by
      unfold CAR
      rw [gY 2271 _ _ (by omega) (by omega) (by omega), gY 2272 _ _ (by omega) (by omega) (by omega), gY 2273 _ _ (by omega) (by omega) (by omega), gY 2270 12 _ (by omega) (by omega) (by omega)]
      exact hcar
    obtain ⟨V, v1, v2, v3⟩ := rows_K (K := Y) (c := c) (s := l.length) (l := l) (B := (1152921504606846976, rl (fun k => Y 2284 (6 * d + k) 0) l.length 0)) hY2 d0 d1 e3 l6 e4 pw cl ⟨(fY _ _ _ (by decide) (by omega)).trans k83, rfl⟩ (prm_720 rfl l6)
    rw [rok_o (Z := Y) (K := K) (fun e x y z => gY e x y (by omega) (by omega) (by omega))] at v2
    refine ⟨V, ?_, Or.inl ⟨fun k hk => ?_, rl (fun k => Y 2284 (6 * d + k) 0) l.length 0, ?_⟩, fun e x y z1 z2 z3 z4 => (v3 e x y z1 z2 z3).trans (gY e x y z2 z3 z4)⟩
    · rw [e1', v1]
      rfl
    · have q := e2 k hk
      rw [k81] at q
      exact (mt _).mp q
    · rw [hl]
      exact v2
  · have e1' := st _ e1
    (try dsimp only at e1')
    refine ⟨Y, e1', Or.inr ⟨⟨k, e2, fun z => e3 ?_⟩, (fY _ _ _ (by decide) (by omega)).trans k83⟩, fun e x y z1 z2 z3 z4 => gY e x y z2 z3 z4⟩
    rw [k81]
    exact (mt _).mpr z
end GVk
