/-! ===== the class's finding on the empty plan, from the fresh memory ===== -/
theorem yn_ma {X Y : Nat} : Int32.ofNat X * (25 : Int32) + Int32.ofNat Y = Int32.ofNat (X * 25 + Y) := by
  rw [Int32.ofNat_add, Int32.ofNat_mul]
  rfl
theorem upd_c {q : Nat} {v : Int32} : upd (fun _ => v) q v = fun _ => v := by
  funext j
  unfold upd
  split <;> rfl
theorem yp {S : zm_S} {a ci k : Nat} {fs : List Value} {v : Value} (h : S.1 a = .inl (ci, fs)) (h6 : 6 ≤ a) (hn : a < S.2) (hk : k < fs.length) : zp S a ci k v = some (sU S a (.inl (ci, fs.set k v))) := by
  unfold zp
  rw [if_pos ⟨h6, hn⟩, h]
  exact if_pos ⟨rfl, hk⟩
section XF
variable {N : Nat} {B : zm_S} {fo : List Value} {X Y : Nat}
theorem x_w0 (H : hB B fo) {p : Nat} (hp : p < 625) : (zg_r B 51 2 4).bind (fun b4 => (za_r B b4 (0 : Int32)).bind (fun b5 => (za_x B 0 b5 (Int32.ofNat p)).bind (fun v6 => some (v6, B)))) = some (-1, B) := by
  obtain ⟨h2, h51, f4, f6, f17, h52, g, h, h53, h54, hg, hh⟩ := H
  refine zb_to (yg_r h51 (by decide) (by rw [h2]; decide) f4) ?_
  refine zb_to (yx_r (q := 0) h52 (Or.inl rfl) (by rw [h2]; decide) (by decide) (by decide) rfl) ?_
  refine zb_to (yx_i h53 (by rw [h2]; decide) hp (by decide)) ?_
  rw [hg p hp]
theorem x_w1 (H : hB B fo) {p : Nat} (hp : p < 625) : (zg_r B 51 2 4).bind (fun b4 => (za_r B b4 (1 : Int32)).bind (fun b5 => (za_x B 0 b5 (Int32.ofNat p)).bind (fun v6 => some (v6, B)))) = some (-1, B) := by
  obtain ⟨h2, h51, f4, f6, f17, h52, g, h, h53, h54, hg, hh⟩ := H
  refine zb_to (yg_r h51 (by decide) (by rw [h2]; decide) f4) ?_
  refine zb_to (yx_r (q := 1) h52 (Or.inl rfl) (by rw [h2]; decide) (by decide) (by decide) rfl) ?_
  refine zb_to (yx_i h54 (by rw [h2]; decide) hp (by decide)) ?_
  rw [hh p hp]
theorem x_wf0 (H : hB B fo) (hX : X ≤ 24) (hY : Y ≤ 24) : zf_X2_wallFrom N 51 (Int32.ofNat X) (Int32.ofNat Y) 0 B = some (-1, B) := by
  unfold zf_X2_wallFrom
  rw [if_pos (by decide), yn_ma]
  by_cases h : 24 ≤ X
  · exact if_pos ((yn_le (a := 24) (by decide) (by omega)).mpr h)
  · rw [if_neg (fun q => by
      have := (yn_le (a := 24) (b := X) (by decide) (by omega)).mp q
      omega)]
    exact x_w0 H (by omega)
theorem x_wf1 (H : hB B fo) (hX : X ≤ 24) (hY : Y ≤ 24) : zf_X2_wallFrom N 51 (Int32.ofNat X) (Int32.ofNat Y) 1 B = some (-1, B) := by
  unfold zf_X2_wallFrom
  rw [if_neg (by decide), if_pos (by decide), yn_ma]
  by_cases h : 24 ≤ Y
  · exact if_pos ((yn_le (a := 24) (by decide) (by omega)).mpr h)
  · rw [if_neg (fun q => by
      have := (yn_le (a := 24) (b := Y) (by decide) (by omega)).mp q
      omega)]
    exact x_w1 H (by omega)
theorem x_wf2 (H : hB B fo) (hX : X ≤ 24) (hY : Y ≤ 24) : zf_X2_wallFrom N 51 (Int32.ofNat X) (Int32.ofNat Y) 2 B = some (-1, B) := by
  unfold zf_X2_wallFrom
  rw [if_neg (by decide), if_neg (by decide), if_pos (by decide)]
  by_cases h : X ≤ 0
  · exact if_pos ((yn_le (b := 0) (by omega) (by decide)).mpr h)
  · rw [if_neg (fun q => by
      have := (yn_le (a := X) (b := 0) (by omega) (by decide)).mp q
      omega), show Int32.ofNat X - (1 : Int32) = Int32.ofNat (X - 1) from (Int32.ofNat_sub X 1 (by omega)).symm, yn_ma]
    exact x_w0 H (by omega)
theorem x_wf3 (H : hB B fo) (hX : X ≤ 24) (hY : Y ≤ 24) : zf_X2_wallFrom N 51 (Int32.ofNat X) (Int32.ofNat Y) 3 B = some (-1, B) := by
  unfold zf_X2_wallFrom
  rw [if_neg (by decide), if_neg (by decide), if_neg (by decide)]
  by_cases h : Y ≤ 0
  · exact if_pos ((yn_le (b := 0) (by omega) (by decide)).mpr h)
  · rw [if_neg (fun q => by
      have := (yn_le (a := Y) (b := 0) (by omega) (by decide)).mp q
      omega), yn_ma, show Int32.ofNat (X * 25 + Y) - (1 : Int32) = Int32.ofNat (X * 25 + Y - 1) from (Int32.ofNat_sub (X * 25 + Y) 1 (by omega)).symm]
    exact x_w1 H (by omega)
theorem x_mi (H : hB B fo) (f5 : fo[5]? = some (.ref 55)) (h55 : B.1 55 = .inr (2, 625, .inl (fun _ => 0))) (hX : X ≤ 24) : ∀ (m Y : Nat), Y ≤ 25 → 25 < Y + m → zf_X2_markPoints_L10 N m 51 (Int32.ofNat X) (Int32.ofNat Y) B = some (.inr ((), B)) := by
  intro m
  induction m with
  | zero => intro Y h1 h2; omega
  | succ m ih =>
    intro Y h1 h2
    have hB2 : B.2 = 2333 := H.1
    rw [zf_X2_markPoints_L10]
    by_cases hY : Y = 25
    · subst hY
      exact if_pos (by decide)
    · rw [if_neg (fun q => by
        have := (yn_lt (a := 24) (b := Y) (by decide) (by omega)).mp q
        omega)]
      have hi : zi B 51 2 = some () := yi H.2.1 (by decide) (by rw [hB2]; decide)
      refine zb_to hi ?_
      refine zb_to (x_wf0 H hX (by omega)) ?_
      rw [if_pos rfl]
      refine zb_to hi ?_
      refine zb_to (x_wf2 H hX (by omega)) ?_
      rw [if_pos rfl]
      unfold zf_X2_markPoints_J43
      refine zb_to hi ?_
      refine zb_to (x_wf1 H hX (by omega)) ?_
      rw [if_pos rfl]
      refine zb_to hi ?_
      refine zb_to (x_wf3 H hX (by omega)) ?_
      rw [if_pos rfl]
      unfold zf_X2_markPoints_J71
      refine zb_to (yg_r H.2.1 (by decide) (by rw [hB2]; decide) f5) ?_
      rw [if_pos rfl]
      unfold zf_X2_markPoints_J96
      rw [yn_ma]
      refine zb_to (ys_z (q := X * 25 + Y) (Or.inl rfl) h55 (by decide) (by show 55 < B.2; rw [hB2]; decide) (by omega) (by decide)) ?_
      rw [upd_c, show sU B 55 (.inr (2, 625, .inl (fun _ => 0))) = B from sU_id h55]
      rw [yn_s]
      exact ih (Y + 1) (by omega) (by omega)
theorem x_mo (H : hB B fo) (f5 : fo[5]? = some (.ref 55)) (h55 : B.1 55 = .inr (2, 625, .inl (fun _ => 0))) (hN : 30 ≤ N) : ∀ (m X : Nat), X ≤ 25 → 25 < X + m → zf_X2_markPoints_L2 N m 51 (Int32.ofNat X) B = some (.inr ((), B)) := by
  intro m
  induction m with
  | zero => intro X h1 h2; omega
  | succ m ih =>
    intro X h1 h2
    rw [zf_X2_markPoints_L2]
    by_cases hX : X = 25
    · subst hX
      exact if_pos (by decide)
    · rw [if_neg (fun q => by
        have := (yn_lt (a := 24) (b := X) (by decide) (by omega)).mp q
        omega)]
      refine zb_to (x_mi H f5 h55 (X := X) (by omega) N 0 (by omega) (by omega)) ?_
      show zf_X2_markPoints_L2 N m 51 (Int32.ofNat X + (1 : Int32)) B = _
      rw [yn_s]
      exact ih (X + 1) (by omega) (by omega)
theorem x_mp (H : hB B fo) (f0 : fo[0]? = some (.ref 7)) (f5 : fo[5]? = some (.ref 55)) (h55 : B.1 55 = .inr (2, 625, .inl (fun _ => 0))) {ps : List Value} (h7 : B.1 7 = .inl (8, ps)) (p0 : ps[0]? = some (.int 0)) : zf_X2_markPoints 4000 51 B = some ((), B) := by
  have hB2 : B.2 = 2333 := H.1
  unfold zf_X2_markPoints
  refine zb_to (x_mo H f5 h55 (N := 4000) (by decide) 4000 0 (by decide) (by decide)) ?_
  have e : zf_X2_markPoints_L112 4000 4000 51 (0 : Int32) B = some (.inr ((), B)) := by
    show zf_X2_markPoints_L112 4000 (3999 + 1) 51 (0 : Int32) B = _
    rw [zf_X2_markPoints_L112]
    refine zb_to (yg_r H.2.1 (by decide) (by rw [hB2]; decide) f0) ?_
    refine zb_to (yg_i h7 (by decide) (by rw [hB2]; decide) p0) ?_
    exact if_pos (by decide)
  show (zf_X2_markPoints_L112 4000 4000 51 (0 : Int32) B).bind _ = _
  rw [e]
  rfl
/-- a fill from an edge where there is nothing unseen -/
theorem x_fe (H : hB B fo) {f : Nat → Int32} (h57 : B.1 57 = .inr (0, 576, .inl f)) (hf : ∀ c, c < 576 → f c = -1) {c : Nat} (hc : c < 576) {d : Int32} : zf_X2_fillFromEdge N 51 (Int32.ofNat c) d B = some ((), B) := by
  have hB2 : B.2 = 2333 := H.1
  obtain ⟨-, h51, -, f6, -⟩ := H
  unfold zf_X2_fillFromEdge
  refine zb_to (yg_r h51 (by decide) (by rw [hB2]; decide) f6) ?_
  refine zb_to (yx_i h57 (by rw [hB2]; decide) hc (by decide)) ?_
  rw [hf c hc]
  exact if_neg (by decide)
theorem yn_mb {X Y : Nat} : Int32.ofNat X * (24 : Int32) + Int32.ofNat Y = Int32.ofNat (X * 24 + Y) := by
  rw [Int32.ofNat_add, Int32.ofNat_mul]
  rfl
theorem x_fs (H : hB B fo) {f : Nat → Int32} (h57 : B.1 57 = .inr (0, 576, .inl f)) (hf : ∀ c, c < 576 → f c = -1) : ∀ (m k : Nat), k ≤ 24 → 24 < k + m → zf_X2_fillSpaces_L11 N m 51 (Int32.ofNat k) B = some (.inr ((), B)) := by
  intro m
  induction m with
  | zero => intro k h1 h2; omega
  | succ m ih =>
    intro k h1 h2
    have hB2 : B.2 = 2333 := H.1
    rw [zf_X2_fillSpaces_L11]
    by_cases hk : k = 24
    · subst hk
      exact if_pos (by decide)
    · rw [if_neg (fun q => by
        have := (yn_le (a := 24) (b := k) (by decide) (by omega)).mp q
        omega)]
      have hi : zi B 51 2 = some () := yi H.2.1 (by decide) (by rw [hB2]; decide)
      unfold zf_X2_cellNumber
      refine zb_to rfl ?_
      refine zb_to hi ?_
      refine zb_to (show zf_X2_fillFromEdge N 51 ((23 : Int32) * (24 : Int32) + Int32.ofNat k) (0 : Int32) B = some ((), B) from by
        rw [show (23 : Int32) = Int32.ofNat 23 from rfl, yn_mb]
        exact x_fe H h57 hf (by omega)) ?_
      refine zb_to rfl ?_
      refine zb_to hi ?_
      refine zb_to (show zf_X2_fillFromEdge N 51 ((0 : Int32) * (24 : Int32) + Int32.ofNat k) (1 : Int32) B = some ((), B) from by
        rw [show (0 : Int32) = Int32.ofNat 0 from rfl, yn_mb]
        exact x_fe H h57 hf (by omega)) ?_
      refine zb_to rfl ?_
      refine zb_to hi ?_
      refine zb_to (show zf_X2_fillFromEdge N 51 (Int32.ofNat k * (24 : Int32) + (23 : Int32)) (2 : Int32) B = some ((), B) from by
        rw [show (23 : Int32) = Int32.ofNat 23 from rfl, yn_mb]
        exact x_fe H h57 hf (by omega)) ?_
      refine zb_to rfl ?_
      refine zb_to hi ?_
      refine zb_to (show zf_X2_fillFromEdge N 51 (Int32.ofNat k * (24 : Int32) + (0 : Int32)) (3 : Int32) B = some ((), B) from by
        rw [show (0 : Int32) = Int32.ofNat 0 from rfl, yn_mb]
        exact x_fe H h57 hf (by omega)) ?_
      rw [yn_s]
      exact ih (k + 1) (by omega) (by omega)
theorem x_fn (H : hB B fo) {f : Nat → Int32} (h57 : B.1 57 = .inr (0, 576, .inl f)) (hf : ∀ c, c < 576 → f c = -1) : ∀ (m k : Nat), k ≤ 576 → 576 < k + m → zf_X2_fillSpaces_L72 N m 51 (Int32.ofNat k) B = some (.inr ((), B)) := by
  intro m
  induction m with
  | zero => intro k h1 h2; omega
  | succ m ih =>
    intro k h1 h2
    have hB2 : B.2 = 2333 := H.1
    rw [zf_X2_fillSpaces_L72]
    by_cases hk : k = 576
    · subst hk
      exact if_pos (by decide)
    · rw [if_neg (fun q => by
        have := (yn_le (a := 576) (b := k) (by decide) (by omega)).mp q
        omega)]
      refine zb_to (yg_r H.2.1 (by decide) (by rw [hB2]; decide) H.2.2.2.1) ?_
      refine zb_to (yx_i h57 (by rw [hB2]; decide) (by omega) (by decide)) ?_
      rw [hf k (by omega), if_neg (by decide), yn_s]
      exact ih (k + 1) (by omega) (by omega)
theorem x_t1 (h2 : B.2 = 2333) (h51 : B.1 51 = .inl (2, fo)) (f16 : fo[16]? = some (.ref 724)) (h724 : B.1 724 = .inr (2, 2500, .inl (fun _ => 0))) : ∀ (m k : Nat), k ≤ 2500 → 2500 < k + m → zf_X2_traceRings_L12 N m 51 (Int32.ofNat k) B = some (.inr ((), B)) := by
  intro m
  induction m with
  | zero => intro k h1 h2; omega
  | succ m ih =>
    intro k h1 hm
    rw [zf_X2_traceRings_L12]
    refine zb_to (yg_r h51 (by decide) (by rw [h2]; decide) f16) ?_
    refine zb_to (yx_n h724 (by rw [h2]; decide) (by decide)) ?_
    by_cases hk : k = 2500
    · subst hk
      exact if_pos (by decide)
    · rw [if_neg (fun q => by
        have := (yn_le (a := 2500) (b := k) (by decide) (by omega)).mp q
        omega)]
      refine zb_to (yg_r h51 (by decide) (by rw [h2]; decide) f16) ?_
      refine zb_to (ys_z (q := k) (Or.inl rfl) h724 (by decide) (by rw [h2]; decide) (by omega) (by decide)) ?_
      rw [upd_c, show sU B 724 (.inr (2, 2500, .inl (fun _ => 0))) = B from sU_id h724, yn_s]
      exact ih (k + 1) (by omega) (by omega)
theorem x_t3 (h2 : B.2 = 2333) (h51 : B.1 51 = .inl (2, fo)) (f5 : fo[5]? = some (.ref 55)) (h55 : B.1 55 = .inr (2, 625, .inl (fun _ => 0))) {at' : Nat} (ha : at' < 625) : ∀ (m k : Nat), k ≤ 4 → 4 < k + m → zf_X2_traceRings_L53 N m 51 (Int32.ofNat at') (Int32.ofNat k) B = some (.inr ((), B)) := by
  intro m
  induction m with
  | zero => intro k h1 h2; omega
  | succ m ih =>
    intro k h1 hm
    rw [zf_X2_traceRings_L53]
    by_cases hk : k = 4
    · subst hk
      exact if_pos (by decide)
    · rw [if_neg (fun q => by
        have := (yn_le (a := 4) (b := k) (by decide) (by omega)).mp q
        omega)]
      refine zb_to (yg_r h51 (by decide) (by rw [h2]; decide) f5) ?_
      refine zb_to (yx_i h55 (by rw [h2]; decide) ha (by decide)) ?_
      rw [if_pos rfl]
      unfold zf_X2_traceRings_J88 zf_X2_traceRings_J89
      rw [if_pos rfl, yn_s]
      exact ih (k + 1) (by omega) (by omega)
theorem x_t4 (h2 : B.2 = 2333) (h51 : B.1 51 = .inl (2, fo)) (f5 : fo[5]? = some (.ref 55)) (h55 : B.1 55 = .inr (2, 625, .inl (fun _ => 0))) (hN : 10 < N) : ∀ (m k : Nat), k ≤ 625 → 625 < k + m → zf_X2_traceRings_L44 N m 51 (Int32.ofNat k) B = some (.inr ((), B)) := by
  intro m
  induction m with
  | zero => intro k h1 h2; omega
  | succ m ih =>
    intro k h1 hm
    rw [zf_X2_traceRings_L44]
    by_cases hk : k = 625
    · subst hk
      exact if_pos (by decide)
    · rw [if_neg (fun q => by
        have := (yn_le (a := 625) (b := k) (by decide) (by omega)).mp q
        omega)]
      refine zb_to (x_t3 h2 h51 f5 h55 (at' := k) (by omega) N 0 (by omega) (by omega)) ?_
      show zf_X2_traceRings_L44 N m 51 (Int32.ofNat k + (1 : Int32)) B = _
      rw [yn_s]
      exact ih (k + 1) (by omega) (by omega)
end XF
def fo1 : List Value := [.ref 7, .int 0, .int 0, .int 0, .ref 52, .ref 55, .ref 57, .ref 56, .ref 59, .ref 58, .ref 60, .ref 61, .int 0, .ref 62, .int 0, .ref 283, .ref 724, .ref 725, .ref 726]
def xA (xs w : Nat → Int32) : zm_S := sU (sU (sU (fS 7 xs w) 51 (.inl (2, fo1))) 53 (.inr (0, 625, .inl (fun j => if j < 625 then -1 else 0)))) 54 (.inr (0, 625, .inl (fun j => if j < 625 then -1 else 0)))
/-- the memory behind the class's finding: what the flood left in its two rows is f and g -/
def xE (xs w f g : Nat → Int32) : zm_S := sU (sU (sU (sU (bF (xA xs w) f g) 61 (.inr (0, 100, .inl (fun j => if j < 100 then 0 else 0)))) 59 (.inr (0, 100, .inl (fun j => if j < 100 then 0 else 0)))) 726 (.inr (0, 100, .inl (fun j => if j < 100 then 0 else 0)))) 51 (.inl (2, [.ref 7, .int 1, .int 1, .int 0, .ref 52, .ref 55, .ref 57, .ref 56, .ref 59, .ref 58, .ref 60, .ref 61, .int 0, .ref 62, .int 0, .ref 283, .ref 724, .ref 725, .ref 726]))
set_option maxHeartbeats 4000000 in
set_option maxRecDepth 100000 in
theorem hB_A {xs w : Nat → Int32} : hB (xA xs w) fo1 := ⟨rfl, rfl, rfl, rfl, rfl, rfl, _, _, rfl, rfl, fun j hj => if_pos hj, fun j hj => if_pos hj⟩
theorem hB_s {B : zm_S} {fo : List Value} {a : Nat} {c : zm_C} (H : hB B fo) (ha : a ≠ 51 ∧ a ≠ 52 ∧ a ≠ 53 ∧ a ≠ 54) : hB (sU B a c) fo := by
  obtain ⟨h2, h51, f4, f6, f17, h52, g, h, h53, h54, hg, hh⟩ := H
  exact ⟨h2, (sU_n ha.1.symm).trans h51, f4, f6, f17, (sU_n ha.2.1.symm).trans h52, g, h, (sU_n ha.2.2.1.symm).trans h53, (sU_n ha.2.2.2.symm).trans h54, hg, hh⟩
theorem hB_F {B : zm_S} {fo : List Value} {f g : Nat → Int32} (H : hB B fo) : hB (bF B f g) fo := hB_s (hB_s H (by decide)) (by decide)
set_option maxHeartbeats 4000000 in
set_option maxRecDepth 100000 in
theorem x_sp {xs w : Nat → Int32} : ∃ f g : Nat → Int32, zf_X2_fillSpaces 4000 51 (xA xs w) = some ((), sU (bF (xA xs w) f g) 51 (.inl (2, fo1))) := by
  have HF : ∀ f g, hB (bF (xA xs w) f g) fo1 := fun f g => hB_F hB_A
  let f3 : Nat → Int32 := fun j => if j < 576 then -3 else 0
  have h3 : ∀ j, j < 576 → f3 j = -3 := fun j hj => if_pos hj
  obtain ⟨n', f', g', e1, I⟩ := x_out (N := 4000) HF rfl (by decide) 4000 0 1 (upd f3 552 (-1)) (upd (fun _ => 0) 0 (Int32.ofNat 552)) (by decide) (by decide) (by
    refine ⟨by decide, ?_, ?_, ?_, ?_, ?_, ?_, if_pos rfl⟩
    · intro j hj
      unfold upd
      split
      · exact Or.inr rfl
      · exact Or.inl (h3 j hj)
    · intro j hj
      have : j = 0 := by omega
      subst this
      exact ⟨552, by decide, if_pos rfl, if_pos rfl⟩
    · rw [cn_up (h3 552 (by decide)) (by decide) (by decide), cn_0 h3]
    · intro c hc hf
      by_cases e : c = 552
      · subst e
        exact ⟨0, by decide, if_pos rfl⟩
      · unfold upd at hf
        rw [if_neg e, h3 c hc] at hf
        exact absurd hf (by decide)
    · intro j hj
      exact absurd hj (Nat.not_lt_zero _)
    · intro c _ _ e he
      exact absurd he (Nat.not_lt_zero _))
  have hall := x_all I
  refine ⟨f', g', ?_⟩
  have hF := HF f' g'
  have h57 : (bF (xA xs w) f' g').1 57 = .inr (0, 576, .inl f') := (sU_n (by decide)).trans sU_s
  unfold zf_X2_fillSpaces
  refine zb_to (yg_r (fs := fo1) (b := 57) hB_A.2.1 (by decide) (Nat.le_of_ble_eq_true rfl) rfl) ?_
  refine zb_to (j_fill (f := fun _ => 0) (n := 576) (show (xA xs w).1 57 = _ from rfl) (by decide) (Nat.le_of_ble_eq_true rfl) (by decide) (by decide)) ?_
  have e2 : zf_X2_fill 4000 51 (Int32.ofNat 552) (-1) (sU (xA xs w) 57 (.inr (0, 576, .inl f3))) = some (Int32.ofNat n', bF (xA xs w) f' g') := by
    unfold zf_X2_fill
    refine zb_to (yg_r (fs := fo1) (b := 57) (sU_n (by decide)) (by decide) (Nat.le_of_ble_eq_true rfl) rfl) ?_
    refine zb_to (ys_i (q := 552) (n := 576) (f := f3) sU_s (by decide) (Nat.le_of_ble_eq_true rfl) (by decide) (by decide)) ?_
    refine zb_to (yg_r (fs := fo1) (b := 725) ((sU_n (by decide)).trans (sU_n (by decide))) (by decide) (Nat.le_of_ble_eq_true rfl) rfl) ?_
    refine zb_to (ys_i (q := 0) (n := 576) (f := fun _ => 0) ((sU_n (by decide)).trans (sU_n (by decide))) (by decide) (Nat.le_of_ble_eq_true rfl) (by decide) (by decide)) ?_
    rw [sU_sU]
    refine zb_to e1 ?_
    rfl
  have e3 : zf_X2_fillFromEdge 4000 51 (Int32.ofNat 552) 0 (sU (xA xs w) 57 (.inr (0, 576, .inl f3))) = some ((), bF (xA xs w) f' g') := by
    unfold zf_X2_fillFromEdge
    refine zb_to (yg_r (fs := fo1) (b := 57) (sU_n (by decide)) (by decide) (Nat.le_of_ble_eq_true rfl) rfl) ?_
    refine zb_to (yx_i (q := 552) (n := 576) (f := f3) sU_s (Nat.le_of_ble_eq_true rfl) (by decide) (by decide)) ?_
    rw [if_pos (h3 552 (by decide))]
    refine zb_to (yi (fs := fo1) (sU_n (by decide)) (by decide) (Nat.le_of_ble_eq_true rfl)) ?_
    refine zb_to (x_wb (N := 4000) (c := 552) (d := 0) (hB_s hB_A (by decide)) (by decide) (by decide)) ?_
    rw [if_pos rfl]
    refine zb_to (yi (fs := fo1) (sU_n (by decide)) (by decide) (Nat.le_of_ble_eq_true rfl)) ?_
    refine zb_to e2 ?_
    rfl
  have hi : zi (bF (xA xs w) f' g') 51 2 = some () := yi hF.2.1 (by decide) (Nat.le_of_ble_eq_true rfl)
  have e4 : zf_X2_fillSpaces_L11 4000 4000 51 (0 : Int32) (sU (xA xs w) 57 (.inr (0, 576, .inl f3))) = some (.inr ((), bF (xA xs w) f' g')) := by
    show zf_X2_fillSpaces_L11 4000 (3999 + 1) 51 (0 : Int32) _ = _
    rw [zf_X2_fillSpaces_L11, if_neg (by decide)]
    unfold zf_X2_cellNumber
    refine zb_to rfl ?_
    refine zb_to (yi (fs := fo1) (sU_n (by decide)) (by decide) (Nat.le_of_ble_eq_true rfl)) ?_
    refine zb_to (show zf_X2_fillFromEdge 4000 51 ((23 : Int32) * (24 : Int32) + (0 : Int32)) (0 : Int32) _ = _ from e3) ?_
    refine zb_to rfl ?_
    refine zb_to hi ?_
    refine zb_to (x_fe (c := 0) (d := 1) hF h57 hall (by decide)) ?_
    refine zb_to rfl ?_
    refine zb_to hi ?_
    refine zb_to (x_fe (c := 23) (d := 2) hF h57 hall (by decide)) ?_
    refine zb_to rfl ?_
    refine zb_to hi ?_
    refine zb_to (x_fe (c := 0) (d := 3) hF h57 hall (by decide)) ?_
    exact x_fs hF h57 hall 3999 1 (by decide) (by decide)
  refine zb_to e4 ?_
  refine zb_to (yp (fs := fo1) hF.2.1 (by decide) (Nat.le_of_ble_eq_true rfl) (by decide)) ?_
  have hG : hB (sU (bF (xA xs w) f' g') 51 (.inl (2, fo1))) fo1 := by
    rw [show sU (bF (xA xs w) f' g') 51 (.inl (2, fo1)) = bF (xA xs w) f' g' from sU_id hF.2.1]
    exact hF
  have h57' : (sU (bF (xA xs w) f' g') 51 (.inl (2, fo1))).1 57 = .inr (0, 576, .inl f') := (sU_n (by decide)).trans h57
  refine zb_to (x_fn hG h57' hall 4000 0 (by decide) (by decide)) ?_
  rfl
set_option maxHeartbeats 4000000 in
set_option maxRecDepth 100000 in
theorem x_find {xs w : Nat → Int32} : ∃ f g : Nat → Int32, zf_X2_findSpaces 4000 51 (fS 7 xs w) = some (0, xE xs w f g) := by
  obtain ⟨f, g, e⟩ := x_sp (xs := xs) (w := w)
  refine ⟨f, g, ?_⟩
  unfold zf_X2_findSpaces
  refine zb_to (yg_i fc_51 (by decide) (Nat.le_of_ble_eq_true rfl) rfl) ?_
  refine zb_to (yi fc_51 (by decide) (Nat.le_of_ble_eq_true rfl)) ?_
  refine zb_to (show zf_X2_swapBefore 4000 51 (fS 7 xs w) = some ((), sU (fS 7 xs w) 51 (.inl (2, fo1))) from by
    unfold zf_X2_swapBefore
    refine zb_to (yg_r fc_51 (by decide) (Nat.le_of_ble_eq_true rfl) rfl) ?_
    refine zb_to (yg_r fc_51 (by decide) (Nat.le_of_ble_eq_true rfl) rfl) ?_
    refine zb_to (yp fc_51 (by decide) (Nat.le_of_ble_eq_true rfl) (by decide)) ?_
    refine zb_to (yp sU_s (by decide) (Nat.le_of_ble_eq_true rfl) (by decide)) ?_
    refine zb_to (yg_r sU_s (by decide) (Nat.le_of_ble_eq_true rfl) rfl) ?_
    refine zb_to (yg_r sU_s (by decide) (Nat.le_of_ble_eq_true rfl) rfl) ?_
    refine zb_to (yp sU_s (by decide) (Nat.le_of_ble_eq_true rfl) (by decide)) ?_
    refine zb_to (yp sU_s (by decide) (Nat.le_of_ble_eq_true rfl) (by decide)) ?_
    rw [sU_sU, sU_sU, sU_sU]
    rfl) ?_
  refine zb_to (yi sU_s (by decide) (Nat.le_of_ble_eq_true rfl)) ?_
  refine zb_to (show zf_X2_drawWalls 4000 51 (sU (fS 7 xs w) 51 (.inl (2, fo1))) = some ((), xA xs w) from by
    unfold zf_X2_drawWalls
    refine zb_to (yg_r (fs := fo1) (b := 52) sU_s (by decide) (Nat.le_of_ble_eq_true rfl) rfl) ?_
    refine zb_to (yx_r (q := 0) (b := 53) (t := 4) (n := 2) (g := fun i => if i < 2 then some (53 + i) else none) rfl (Or.inl rfl) (Nat.le_of_ble_eq_true rfl) (by decide) (by decide) rfl) ?_
    refine zb_to (j_fill (n := 625) (f := fun _ => 0) rfl (by decide) (Nat.le_of_ble_eq_true rfl) (by decide) (by decide)) ?_
    refine zb_to (yg_r (fs := fo1) (b := 52) rfl (by decide) (Nat.le_of_ble_eq_true rfl) rfl) ?_
    refine zb_to (yx_r (q := 1) (b := 54) (t := 4) (n := 2) (g := fun i => if i < 2 then some (53 + i) else none) rfl (Or.inl rfl) (Nat.le_of_ble_eq_true rfl) (by decide) (by decide) rfl) ?_
    refine zb_to (j_fill (n := 625) (f := fun _ => 0) rfl (by decide) (Nat.le_of_ble_eq_true rfl) (by decide) (by decide)) ?_
    refine zb_to (show zf_X2_drawWalls_L22 4000 4000 51 (0 : Int32) (xA xs w) = some (.inr ((), xA xs w)) from by
      show zf_X2_drawWalls_L22 4000 (3999 + 1) 51 (0 : Int32) _ = _
      rw [zf_X2_drawWalls_L22]
      refine zb_to (yg_r hB_A.2.1 (by decide) (Nat.le_of_ble_eq_true rfl) rfl) ?_
      refine zb_to (yg_i (v := 0) (fs := (.int 0 :: .ref 8 :: .ref 29 :: .ref 30 :: [])) rfl (by decide) (Nat.le_of_ble_eq_true rfl) rfl) ?_
      exact if_pos (by decide)) ?_
    rfl) ?_
  refine zb_to (yi hB_A.2.1 (by decide) (Nat.le_of_ble_eq_true rfl)) ?_
  refine zb_to (x_mp hB_A rfl rfl rfl (ps := (.int 0 :: .ref 8 :: .ref 29 :: .ref 30 :: [])) rfl rfl) ?_
  refine zb_to (yi hB_A.2.1 (by decide) (Nat.le_of_ble_eq_true rfl)) ?_
  refine zb_to e ?_
  refine zb_to (yi sU_s (by decide) (Nat.le_of_ble_eq_true rfl)) ?_
  refine zb_to (show zf_X2_traceRings 4000 51 (sU (bF (xA xs w) f g) 51 (.inl (2, fo1))) = some ((), sU (sU (bF (xA xs w) f g) 51 (.inl (2, fo1))) 61 (.inr (0, 100, .inl (fun j => if j < 100 then 0 else 0)))) from by
    unfold zf_X2_traceRings
    refine zb_to (yp (fs := fo1) sU_s (by decide) (Nat.le_of_ble_eq_true rfl) (by decide)) ?_
    refine zb_to (yp (fs := fo1) sU_s (by decide) (Nat.le_of_ble_eq_true rfl) (by decide)) ?_
    rw [sU_sU, sU_sU]
    refine zb_to (show zf_X2_traceRings_L12 4000 4000 51 (0 : Int32) (sU (bF (xA xs w) f g) 51 (.inl (2, fo1))) = _ from x_t1 rfl (sU_s (c := .inl (2, fo1))) rfl rfl 4000 0 (by decide) (by decide)) ?_
    refine zb_to (yg_r (fs := fo1) (b := 61) sU_s (by decide) (Nat.le_of_ble_eq_true rfl) rfl) ?_
    refine zb_to (j_fill (n := 100) (f := fun _ => 0) rfl (by decide) (Nat.le_of_ble_eq_true rfl) (by decide) (by decide)) ?_
    refine zb_to (show zf_X2_traceRings_L44 4000 4000 51 (0 : Int32) _ = _ from x_t4 (fo := fo1) rfl rfl rfl rfl (by decide) 4000 0 (by decide) (by decide)) ?_
    rfl) ?_
  refine zb_to (yi (fs := fo1) rfl (by decide) (Nat.le_of_ble_eq_true rfl)) ?_
  refine zb_to (show zf_X2_giveNamesOn 4000 51 0 (sU (sU (bF (xA xs w) f g) 51 (.inl (2, fo1))) 61 (.inr (0, 100, .inl (fun j => if j < 100 then 0 else 0)))) = some ((), sU (sU (sU (sU (bF (xA xs w) f g) 51 (.inl (2, fo1))) 61 (.inr (0, 100, .inl (fun j => if j < 100 then 0 else 0)))) 59 (.inr (0, 100, .inl (fun j => if j < 100 then 0 else 0)))) 726 (.inr (0, 100, .inl (fun j => if j < 100 then 0 else 0)))) from by
    unfold zf_X2_giveNamesOn
    refine zb_to (yg_r (fs := fo1) (b := 59) rfl (by decide) (Nat.le_of_ble_eq_true rfl) rfl) ?_
    refine zb_to (j_fill (n := 100) (f := fun _ => 0) rfl (by decide) (Nat.le_of_ble_eq_true rfl) (by decide) (by decide)) ?_
    refine zb_to (yg_r (fs := fo1) (b := 726) rfl (by decide) (Nat.le_of_ble_eq_true rfl) rfl) ?_
    refine zb_to (j_fill (n := 100) (f := fun _ => 0) rfl (by decide) (Nat.le_of_ble_eq_true rfl) (by decide) (by decide)) ?_
    rfl) ?_
  refine zb_to (yg_i (v := 0) (fs := fo1) rfl (by decide) (Nat.le_of_ble_eq_true rfl) rfl) ?_
  refine zb_to (yp (fs := fo1) rfl (by decide) (Nat.le_of_ble_eq_true rfl) (by decide)) ?_
  refine zb_to (yp sU_s (by decide) (Nat.le_of_ble_eq_true rfl) (by decide)) ?_
  refine zb_to (yg_i (v := 0) sU_s (by decide) (Nat.le_of_ble_eq_true rfl) rfl) ?_
  rw [sU_sU]
  rw [sU_cm (a := 51) (b := 61) (by decide), sU_cm (a := 51) (b := 59) (by decide), sU_cm (a := 51) (b := 726) (by decide), sU_sU]
  rfl
