/-! ===== say, fact, sentence on the fresh memory ===== -/
theorem sh8 {k : Nat} (hk : k < 8) : ((Int32.ofNat (8 * k)).toInt64 &&& 63) = Int64.ofNat (8 * k) := by
  match k, hk with
  | 0, _ => decide
  | 1, _ => decide
  | 2, _ => decide
  | 3, _ => decide
  | 4, _ => decide
  | 5, _ => decide
  | 6, _ => decide
  | 7, _ => decide
  | k + 8, h => exact absurd h (by omega)
def okb (n : Nat) : Prop := n = 0 ∨ (32 ≤ n ∧ n ≤ 126)
def cnt (w : Int64) : Nat → Nat
  | 0 => 0
  | k + 1 => cnt w k + (if by8 w k = 0 then 0 else 1)
theorem cnt_le {w : Int64} : ∀ {k : Nat}, cnt w k ≤ k
  | 0 => Nat.le_refl _
  | k + 1 => by
    have := cnt_le (w := w) (k := k)
    unfold cnt
    split <;> omega
theorem cnt_mono {w : Int64} {k : Nat} : ∀ {d : Nat}, cnt w k ≤ cnt w (k + d)
  | 0 => Nat.le_refl _
  | d + 1 => by
    have := cnt_mono (w := w) (k := k) (d := d)
    show cnt w k ≤ cnt w (k + d) + _
    omega
def goodw (w : Int64) : Prop := ∀ k, k < 8 → okb (by8 w k)
section SAY
variable {N : Nat} {w : Int64} {S : zm_S}
theorem s_ok (hN : 9 < N) : ∀ (m k : Nat), k ≤ 8 → 8 < k + m → (∀ j, j < k → okb (by8 w j)) → (goodw w ∧ zf_X6_isSayable_L2 N m w (Int32.ofNat (8 * k)) S = some (.inr ((), S))) ∨ (¬ goodw w ∧ zf_X6_isSayable_L2 N m w (Int32.ofNat (8 * k)) S = some (.inl (0, S))) := by
  intro m
  induction m with
  | zero => intro k h1 h2; omega
  | succ m ih =>
    intro k h1 h2 h3
    rw [zf_X6_isSayable_L2]
    by_cases hk : k = 8
    · subst hk
      exact Or.inl ⟨h3, if_pos (by decide)⟩
    · have hk8 : k < 8 := by omega
      rw [if_neg (fun q => by
        have := (yn_le (a := 64) (b := 8 * k) (by decide) (by omega)).mp q
        omega), sh8 hk8, wb hk8]
      have hb := by8_lt (w := w) (k := k)
      have hs : Int32.ofNat (8 * k) + (8 : Int32) = Int32.ofNat (8 * (k + 1)) := by
        rw [show 8 * (k + 1) = 8 * k + 8 from by omega, Int32.ofNat_add]
        rfl
      have go : okb (by8 w k) → (goodw w ∧ zf_X6_isSayable_L2 N m w (Int32.ofNat (8 * k) + (8 : Int32)) S = some (.inr ((), S))) ∨ (¬ goodw w ∧ zf_X6_isSayable_L2 N m w (Int32.ofNat (8 * k) + (8 : Int32)) S = some (.inl (0, S))) := by
        intro hok
        rw [hs]
        refine ih (k + 1) (by omega) (by omega) (fun j hj => ?_)
        by_cases e : j = k
        · rw [e]
          exact hok
        · exact h3 j (by omega)
      by_cases c0 : by8 w k = 0
      · rw [if_pos ((lg_0 hb).mpr c0)]
        exact go (Or.inl c0)
      · rw [if_neg (fun q => c0 ((lg_0 hb).mp q))]
        by_cases c1 : by8 w k < 32
        · rw [if_pos ((lg_32 hb).mpr c1)]
          refine Or.inr ⟨fun g => ?_, rfl⟩
          rcases g k hk8 with h | h <;> omega
        · rw [if_neg (fun q => c1 ((lg_32 hb).mp q))]
          by_cases c2 : by8 w k ≤ 126
          · rw [if_pos ((lg_126 hb).mpr c2)]
            exact go (Or.inr ⟨by omega, c2⟩)
          · rw [if_neg (fun q => c2 ((lg_126 hb).mp q))]
            refine Or.inr ⟨fun g => ?_, rfl⟩
            rcases g k hk8 with h | h <;> omega
theorem s_sayable : (goodw w ∧ zf_X6_isSayable 4000 w S = some (1, S)) ∨ (¬ goodw w ∧ zf_X6_isSayable 4000 w S = some (0, S)) := by
  unfold zf_X6_isSayable
  rcases s_ok (N := 4000) (w := w) (S := S) (by decide) 4000 0 (by decide) (by decide) (fun j hj => absurd hj (Nat.not_lt_zero _)) with ⟨h, e⟩ | ⟨h, e⟩
  · exact Or.inl ⟨h, zb_to e rfl⟩
  · exact Or.inr ⟨h, zb_to e rfl⟩
theorem s_room_L {a : Nat} (hN : 9 < N) : ∀ (m k : Nat), k ≤ 8 → 8 < k + m → zf_X6_hasRoomFor_L5 N m a w (Int32.ofNat (cnt w k)) (Int32.ofNat (8 * k)) S = some (.inr (Int32.ofNat (cnt w 8), S)) := by
  intro m
  induction m with
  | zero => intro k h1 h2; omega
  | succ m ih =>
    intro k h1 h2
    rw [zf_X6_hasRoomFor_L5]
    by_cases hk : k = 8
    · subst hk
      exact if_pos (by decide)
    · have hk8 : k < 8 := by omega
      rw [if_neg (fun q => by
        have := (yn_le (a := 64) (b := 8 * k) (by decide) (by omega)).mp q
        omega), sh8 hk8, wb hk8]
      have hb := by8_lt (w := w) (k := k)
      have hs : Int32.ofNat (8 * k) + (8 : Int32) = Int32.ofNat (8 * (k + 1)) := by
        rw [show 8 * (k + 1) = 8 * k + 8 from by omega, Int32.ofNat_add]
        rfl
      have ih2 := ih (k + 1) (by omega) (by omega)
      unfold zf_X6_hasRoomFor_J31
      by_cases c0 : by8 w k = 0
      · rw [if_pos ((lg_0 hb).mpr c0), hs]
        rw [show cnt w (k + 1) = 0 + cnt w k from by
          show cnt w k + _ = _
          rw [if_pos c0]
          omega, Int32.ofNat_add] at ih2
        rw [Int32.add_comm]
        first | exact ih2 | (rw [Int32.add_comm]; exact ih2)
      · rw [if_neg (fun q => c0 ((lg_0 hb).mp q)), hs]
        rw [show cnt w (k + 1) = 1 + cnt w k from by
          show cnt w k + _ = _
          rw [if_neg c0]
          omega, Int32.ofNat_add] at ih2
        first | exact ih2 | (rw [Int32.add_comm]; exact ih2)
theorem s_room {fs : List Value} (h : S.1 727 = .inl (6, fs)) (hn : 727 < S.2) (h0 : fs[1]? = some (.int 0)) : zf_X6_hasRoomFor 4000 727 w S = some (1, S) := by
  unfold zf_X6_hasRoomFor
  refine zb_to (s_room_L (w := w) (S := S) (a := 727) (N := 4000) (by decide) 4000 0 (by decide) (by decide)) ?_
  refine zb_to (yg_i h (by decide) hn h0) ?_
  have hc := cnt_le (w := w) (k := 8)
  refine if_neg ?_
  rw [show (0 : Int32) + Int32.ofNat (cnt w 8) = Int32.ofNat (cnt w 8) from Int32.zero_add _]
  intro q
  have := (yn_lt (a := 800) (b := cnt w 8) (by decide) (by omega)).mp q
  omega
theorem ys_c {a n q : Nat} {f : Nat → Int32} {x : Int32} (h : S.1 a = .inr (3, n, .inl f)) (h6 : 6 ≤ a) (hn : a < S.2) (hq : q < n) (hs : n < 2147483648) : zs_c S a (Int32.ofNat q) x = some (sU S a (.inr (3, n, .inl (upd f q (vp_nar .char x))))) := by
  have e := yn_to (a := q) (by omega)
  unfold zs_c
  rw [if_pos ⟨h6, hn⟩, h]
  refine (if_pos rfl).trans ((if_neg (yn_in hq hs)).trans ?_)
  rw [e]
  rfl
/-- 56, 48 .. 0, -8 -/
def sI (k : Nat) : Int32 := Int32.ofInt (8 * (k : Int) - 8)
theorem sI_s {k : Nat} (hk : k < 8) : ¬ sI (k + 1) < 0 ∧ ((sI (k + 1)).toInt64 &&& 63) = Int64.ofNat (8 * k) ∧ sI (k + 1) + (-8 : Int32) = sI k := by
  match k, hk with
  | 0, _ => decide
  | 1, _ => decide
  | 2, _ => decide
  | 3, _ => decide
  | 4, _ => decide
  | 5, _ => decide
  | 6, _ => decide
  | 7, _ => decide
  | k + 8, h => exact absurd h (by omega)
/-- 7, 6 .. 0, -1 -/
def sJ (k : Nat) : Int32 := Int32.ofInt ((k : Int) - 1)
theorem sJ_s {k : Nat} (hk : k < 8) : ¬ sJ (k + 1) < 0 ∧ (((8 : Int32) * sJ (k + 1)).toInt64 &&& 63) = Int64.ofNat (8 * k) ∧ sJ (k + 1) + (-1 : Int32) = sJ k := by
  match k, hk with
  | 0, _ => decide
  | 1, _ => decide
  | 2, _ => decide
  | 3, _ => decide
  | 4, _ => decide
  | 5, _ => decide
  | 6, _ => decide
  | 7, _ => decide
  | k + 8, h => exact absurd h (by omega)
theorem sK_s {k : Nat} (hk : k < 8) : (((8 : Int32) * Int32.ofNat k).toInt64 &&& 63) = Int64.ofNat (8 * k) := by
  match k, hk with
  | 0, _ => decide
  | 1, _ => decide
  | 2, _ => decide
  | 3, _ => decide
  | 4, _ => decide
  | 5, _ => decide
  | 6, _ => decide
  | 7, _ => decide
  | k + 8, h => exact absurd h (by omega)
def cT (n : Nat) : List Value := [.ref 728, .int (Int32.ofNat n), .ref 729, .ref 730, .ref 731, .int 0, .int 0, .ref 732, .ref 733, .ref 734]
def cS (B : zm_S) (f : Nat → Int32) (n : Nat) : zm_S := sU (sU B 728 (.inr (3, 800, .inl f))) 727 (.inl (6, cT n))
theorem s_app_L {B : zm_S} (hB : B.2 = 2333) : ∀ (m k n : Nat) (f : Nat → Int32), k ≤ 8 → k < m → n + k ≤ 800 → ∃ f' : Nat → Int32, zf_X6_append_L3 N m 727 w (sI k) (cS B f n) = some (.inr ((), cS B f' (n + cnt w k))) := by
  intro m
  induction m with
  | zero => intro k n f h1 h2; omega
  | succ m ih =>
    intro k n f h1 h2 h3
    rw [zf_X6_append_L3]
    cases k with
    | zero => exact ⟨f, if_pos (by decide)⟩
    | succ k =>
      obtain ⟨a1, a2, a3⟩ := sI_s (k := k) (by omega)
      have hb := by8_lt (w := w) (k := k)
      have h2' : (cS B f n).2 = 2333 := hB
      rw [if_neg a1, a2, wb (by omega), a3]
      by_cases c0 : by8 w k = 0
      · rw [if_pos ((lg_0 hb).mpr c0)]
        obtain ⟨f', e⟩ := ih k n f (by omega) (by omega) (by omega)
        refine ⟨f', e.trans ?_⟩
        rw [show cnt w (k + 1) = cnt w k from by
          show cnt w k + _ = _
          rw [if_pos c0]
          omega]
      · rw [if_neg (fun q => c0 ((lg_0 hb).mp q))]
        obtain ⟨f', e⟩ := ih k (n + 1) (upd f n (vp_nar .char ((((Int64.ofNat (by8 w k)).toInt32).toUInt32 % 65536).toInt32))) (by omega) (by omega) (by omega)
        refine ⟨f', ?_⟩
        rw [show n + cnt w (k + 1) = n + 1 + cnt w k from by
          show n + (cnt w k + _) = _
          rw [if_neg c0]
          omega]
        refine zb_to (yg_i (fs := cT n) sU_s (by decide) (by rw [h2']; decide) rfl) ?_
        rw [if_neg (fun q => by
          have := (yn_le (a := 800) (b := n) (by decide) (by omega)).mp q
          omega)]
        refine zb_to (yg_r (fs := cT n) (b := 728) sU_s (by decide) (by rw [h2']; decide) rfl) ?_
        refine zb_to (yg_i (fs := cT n) (v := Int32.ofNat n) sU_s (by decide) (by rw [h2']; decide) rfl) ?_
        refine zb_to (ys_c (n := 800) (f := f) ((sU_n (by decide)).trans sU_s) (by decide) (by show 728 < (cS B f n).2; rw [h2']; decide) (by omega) (by decide)) ?_
        refine zb_to (yg_i (fs := cT n) (v := Int32.ofNat n) ((sU_n (by decide)).trans sU_s) (by decide) (by show 727 < (cS B f n).2; rw [h2']; decide) rfl) ?_
        refine zb_to (yp (fs := cT n) ((sU_n (by decide)).trans sU_s) (by decide) (by show 727 < (cS B f n).2; rw [h2']; decide) (Nat.le_of_ble_eq_true rfl)) ?_
        refine Eq.trans ?_ e
        congr 1
        show sU (sU (sU (sU B 728 _) 727 _) 728 _) 727 (.inl (6, (cT n).set 1 (.int (Int32.ofNat n + 1)))) = _
        rw [sU_cm (a := 727) (b := 728) (by decide), sU_sU, sU_sU, yn_s]
        rfl
theorem s_app {B : zm_S} (hB : B.2 = 2333) {f : Nat → Int32} : ∃ f' : Nat → Int32, zf_X6_append 4000 727 w (cS B f 0) = some (Int32.ofNat (cnt w 8), cS B f' (cnt w 8)) := by
  obtain ⟨f', e⟩ := s_app_L (N := 4000) (w := w) hB 4000 8 0 f (by decide) (by decide) (by decide)
  rw [Nat.zero_add] at e
  refine ⟨f', ?_⟩
  unfold zf_X6_append
  refine zb_to e ?_
  refine zb_to (yg_i (fs := cT (cnt w 8)) (v := Int32.ofNat (cnt w 8)) sU_s (by decide) (by show 727 < B.2; rw [hB]; decide) rfl) ?_
  rfl
theorem c_ch_L (hN : 9 < N) : ∀ (m k : Nat), k ≤ 8 → 8 < k + m → (∀ j, j < k → okb (by8 w j)) → (goodw w ∧ zf_X15_characters_L4 N m w (Int32.ofNat (cnt w k)) (Int32.ofNat k) S = some (.inr (Int32.ofNat (cnt w 8), S))) ∨ (¬ goodw w ∧ zf_X15_characters_L4 N m w (Int32.ofNat (cnt w k)) (Int32.ofNat k) S = some (.inl (-1, S))) := by
  intro m
  induction m with
  | zero => intro k h1 h2; omega
  | succ m ih =>
    intro k h1 h2 h3
    rw [zf_X15_characters_L4]
    by_cases hk : k = 8
    · subst hk
      exact Or.inl ⟨h3, if_pos (by decide)⟩
    · have hk8 : k < 8 := by omega
      have hb := by8_lt (w := w) (k := k)
      rw [if_neg (fun q => by
        have := (yn_le (a := 8) (b := k) (by decide) (by omega)).mp q
        omega)]
      have eb : zf_X15_byteOf N w (Int32.ofNat k) S = some (Int32.ofNat (by8 w k), S) := by
        unfold zf_X15_byteOf
        rw [sK_s hk8, wb hk8, i64_32 hb]
      rw [eb]
      have go : okb (by8 w k) → (goodw w ∧ zf_X15_characters_L4 N m w (Int32.ofNat (cnt w (k + 1))) (Int32.ofNat k + (1 : Int32)) S = some (.inr (Int32.ofNat (cnt w 8), S))) ∨ (¬ goodw w ∧ zf_X15_characters_L4 N m w (Int32.ofNat (cnt w (k + 1))) (Int32.ofNat k + (1 : Int32)) S = some (.inl (-1, S))) := by
        intro hok
        rw [yn_s]
        refine ih (k + 1) (by omega) (by omega) (fun j hj => ?_)
        by_cases e : j = k
        · rw [e]
          exact hok
        · exact h3 j (by omega)
      by_cases c0 : by8 w k = 0
      · have e1 : cnt w (k + 1) = cnt w k := by
          show cnt w k + _ = _
          rw [if_pos c0]
          omega
        have go2 := go (Or.inl c0)
        rw [e1] at go2
        rw [c0]
        have st : (some (Int32.ofNat 0, S)).bind (fun r2 => if r2.1 ≤ 0 then zf_X15_characters_J29 N (zf_X15_characters_L4 N m) w (Int32.ofNat (cnt w k)) (Int32.ofNat k) r2.1 r2.2 else if r2.1 < (32 : Int32) then some (.inl ((-1 : Int32), r2.2)) else zf_X15_characters_J29 N (zf_X15_characters_L4 N m) w (Int32.ofNat (cnt w k)) (Int32.ofNat k) r2.1 r2.2) = zf_X15_characters_L4 N m w (Int32.ofNat (cnt w k)) (Int32.ofNat k + (1 : Int32)) S := by
          show zf_X15_characters_J29 N (zf_X15_characters_L4 N m) w (Int32.ofNat (cnt w k)) (Int32.ofNat k) (Int32.ofNat 0) S = _
          unfold zf_X15_characters_J29 zf_X15_characters_J49
          rw [if_pos (by decide), if_pos (by decide), Int32.add_zero]
        rw [st]
        exact go2
      · have e1 : cnt w (k + 1) = cnt w k + 1 := by
          show cnt w k + _ = _
          rw [if_neg c0]
        have n0 : ¬ Int32.ofNat (by8 w k) ≤ 0 := fun q => by
          have := (yn_le (a := by8 w k) (b := 0) (by omega) (by decide)).mp q
          omega
        by_cases c1 : by8 w k < 32
        · refine Or.inr ⟨fun g => ?_, ?_⟩
          · rcases g k hk8 with h | h <;> omega
          · refine Eq.trans (if_neg n0) ?_
            exact if_pos (show Int32.ofNat (by8 w k) < (32 : Int32) from (yn_lt (a := by8 w k) (b := 32) (by omega) (by decide)).mpr c1)
        · have n1 : ¬ Int32.ofNat (by8 w k) < (32 : Int32) := fun q => by
            have := (yn_lt (a := by8 w k) (b := 32) (by omega) (by decide)).mp q
            omega
          by_cases c2 : by8 w k ≤ 126
          · have go2 := go (Or.inr ⟨by omega, c2⟩)
            rw [e1] at go2
            have st : (some (Int32.ofNat (by8 w k), S)).bind (fun r2 => if r2.1 ≤ 0 then zf_X15_characters_J29 N (zf_X15_characters_L4 N m) w (Int32.ofNat (cnt w k)) (Int32.ofNat k) r2.1 r2.2 else if r2.1 < (32 : Int32) then some (.inl ((-1 : Int32), r2.2)) else zf_X15_characters_J29 N (zf_X15_characters_L4 N m) w (Int32.ofNat (cnt w k)) (Int32.ofNat k) r2.1 r2.2) = zf_X15_characters_L4 N m w (Int32.ofNat (cnt w k + 1)) (Int32.ofNat k + (1 : Int32)) S := by
              refine Eq.trans (if_neg n0) (Eq.trans (if_neg n1) ?_)
              show zf_X15_characters_J29 N (zf_X15_characters_L4 N m) w (Int32.ofNat (cnt w k)) (Int32.ofNat k) (Int32.ofNat (by8 w k)) S = _
              unfold zf_X15_characters_J29 zf_X15_characters_J49
              rw [if_pos (show Int32.ofNat (by8 w k) ≤ (126 : Int32) from (yn_le (a := by8 w k) (b := 126) (by omega) (by decide)).mpr c2), if_neg n0, yn_s (k := cnt w k)]
            rw [st]
            exact go2
          · refine Or.inr ⟨fun g => ?_, ?_⟩
            · rcases g k hk8 with h | h <;> omega
            · refine Eq.trans (if_neg n0) (Eq.trans (if_neg n1) ?_)
              show zf_X15_characters_J29 N (zf_X15_characters_L4 N m) w (Int32.ofNat (cnt w k)) (Int32.ofNat k) (Int32.ofNat (by8 w k)) S = _
              unfold zf_X15_characters_J29
              rw [if_neg (show ¬ Int32.ofNat (by8 w k) ≤ (126 : Int32) from fun q => by
                have := (yn_le (a := by8 w k) (b := 126) (by omega) (by decide)).mp q
                omega)]
theorem c_ch : (goodw w ∧ zf_X15_characters 4000 w S = some (Int32.ofNat (cnt w 8), S)) ∨ (¬ goodw w ∧ zf_X15_characters 4000 w S = some (-1, S)) := by
  unfold zf_X15_characters
  rcases c_ch_L (N := 4000) (w := w) (S := S) (by decide) 4000 0 (by decide) (by decide) (fun j hj => absurd hj (Nat.not_lt_zero _)) with ⟨h, e⟩ | ⟨h, e⟩
  · exact Or.inl ⟨h, zb_to e rfl⟩
  · exact Or.inr ⟨h, zb_to e rfl⟩
def rT (n : Nat) : List Value := [.ref 2185, .int (Int32.ofNat n), .int 0, .ref 2186, .ref 2187, .int 0, .ref 2188, .ref 2189, .ref 2190, .ref 2191, .int 0, .ref 2192, .ref 2193, .ref 2194, .ref 2195, .int 0, .ref 2196, .ref 2197, .int (-1 : Int32), .ref 2198, .ref 2199, .ref 2200, .ref 2201, .ref 2202, .ref 2203, .ref 2204, .int 0, .int 0, .int 0, .long 0, .int 0, .int 0, .int 0, .int 0, .int 0, .ref 2205, .int 0, .ref 2206, .ref 2207, .int 0, .int 0, .long 0, .long 0, .long 0]
def rS (B : zm_S) (f : Nat → Int32) (n : Nat) : zm_S := sU (sU B 2185 (.inr (0, 800, .inl f))) 2184 (.inl (15, rT n))
theorem r_say_L {B : zm_S} (hB : 2334 ≤ B.2 + 1) : ∀ (m k n : Nat) (f : Nat → Int32), k ≤ 8 → k < m → n + k ≤ 800 → ∃ f' : Nat → Int32, zf_X15_say_L3 N m 2184 w (sJ k) (rS B f n) = some (.inr ((), rS B f' (n + cnt w k))) := by
  intro m
  induction m with
  | zero => intro k n f h1 h2; omega
  | succ m ih =>
    intro k n f h1 h2 h3
    rw [zf_X15_say_L3]
    cases k with
    | zero => exact ⟨f, if_pos (by decide)⟩
    | succ k =>
      obtain ⟨a1, a2, a3⟩ := sJ_s (k := k) (by omega)
      have hb := by8_lt (w := w) (k := k)
      have h2' : 2333 ≤ (rS B f n).2 := by show 2333 ≤ B.2; omega
      have eb : ∀ T : zm_S, zf_X15_byteOf N w (sJ (k + 1)) T = some (Int32.ofNat (by8 w k), T) := fun T => by
        unfold zf_X15_byteOf
        rw [a2, wb (by omega), i64_32 hb]
      rw [if_neg a1]
      by_cases c0 : by8 w k = 0
      · obtain ⟨f', e⟩ := ih k n f (by omega) (by omega) (by omega)
        refine ⟨f', ?_⟩
        rw [show cnt w (k + 1) = cnt w k from by
          show cnt w k + _ = _
          rw [if_pos c0]
          omega]
        refine zb_to (eb _) ?_
        rw [if_pos (show Int32.ofNat (by8 w k) ≤ 0 from by rw [c0]; decide), a3]
        exact e
      · obtain ⟨f', e⟩ := ih k (n + 1) (upd f n (Int32.ofNat (by8 w k))) (by omega) (by omega) (by omega)
        refine ⟨f', ?_⟩
        rw [show n + cnt w (k + 1) = n + 1 + cnt w k from by
          show n + (cnt w k + _) = _
          rw [if_neg c0]
          omega]
        refine zb_to (eb _) ?_
        rw [if_neg (show ¬ Int32.ofNat (by8 w k) ≤ 0 from fun q => by
          have := (yn_le (a := by8 w k) (b := 0) (by omega) (by decide)).mp q
          omega), a3]
        refine zb_to (yg_r (fs := rT n) (b := 2185) sU_s (by decide) (by show 2184 < (rS B f n).2; omega) rfl) ?_
        refine zb_to (yg_i (fs := rT n) (v := Int32.ofNat n) sU_s (by decide) (by show 2184 < (rS B f n).2; omega) rfl) ?_
        refine zb_to (eb _) ?_
        refine zb_to (ys_i (n := 800) (f := f) ((sU_n (by decide)).trans sU_s) (by decide) (by show 2185 < (rS B f n).2; omega) (by omega) (by decide)) ?_
        refine zb_to (yg_i (fs := rT n) (v := Int32.ofNat n) ((sU_n (by decide)).trans sU_s) (by decide) (by show 2184 < (rS B f n).2; omega) rfl) ?_
        refine zb_to (yp (fs := rT n) ((sU_n (by decide)).trans sU_s) (by decide) (by show 2184 < (rS B f n).2; omega) (Nat.le_of_ble_eq_true rfl)) ?_
        refine Eq.trans ?_ e
        congr 1
        show sU (sU (sU (sU B 2185 _) 2184 _) 2185 _) 2184 (.inl (15, (rT n).set 1 (.int (Int32.ofNat n + 1)))) = _
        rw [sU_cm (a := 2184) (b := 2185) (by decide), sU_sU, sU_sU, yn_s]
        rfl
theorem r_say {B : zm_S} (hB : 2334 ≤ B.2 + 1) {f : Nat → Int32} (h1 : B.1 2184 = .inl (15, rT 0)) (h2 : B.1 2185 = .inr (0, 800, .inl f)) : ∃ f' : Nat → Int32, zf_X15_say 4000 2184 w B = some (Int32.ofNat (cnt w 8), rS B f' (cnt w 8)) := by
  obtain ⟨f', e⟩ := r_say_L (N := 4000) (w := w) hB 4000 8 0 f (by decide) (by decide) (by decide)
  rw [Nat.zero_add] at e
  have e0 : rS B f 0 = B := by
    unfold rS
    rw [sU_id h2, sU_id h1]
  rw [e0] at e
  refine ⟨f', ?_⟩
  unfold zf_X15_say
  refine zb_to (show zf_X15_say_L3 4000 4000 2184 w (7 : Int32) B = _ from e) ?_
  refine zb_to (yg_i (fs := rT (cnt w 8)) (v := Int32.ofNat (cnt w 8)) sU_s (by decide) (by show 2184 < B.2; omega) rfl) ?_
  rfl
end SAY
