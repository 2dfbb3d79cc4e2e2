/-! ===== the class's finding on the empty plan: the flood ===== -/
def nb (c d : Nat) : Option Nat := if d = 0 then (if c / 24 < 23 then some (c + 24) else none) else if d = 1 then (if 0 < c / 24 then some (c - 24) else none) else if d = 2 then (if c % 24 < 23 then some (c + 1) else none) else (if 0 < c % 24 then some (c - 1) else none)
theorem nb_lt {c d m : Nat} (hc : c < 576) (h : nb c d = some m) : m < 576 := by
  unfold nb at h
  split at h
  · split at h
    · cases h; omega
    · cases h
  · split at h
    · split at h
      · cases h; omega
      · cases h
    · split at h
      · split at h
        · cases h; omega
        · cases h
      · split at h
        · cases h; omega
        · cases h
theorem nb_0 {c : Nat} : nb c 0 = if c / 24 < 23 then some (c + 24) else none := rfl
theorem nb_1 {c : Nat} : nb c 1 = if 0 < c / 24 then some (c - 24) else none := rfl
theorem nb_2 {c : Nat} : nb c 2 = if c % 24 < 23 then some (c + 1) else none := rfl
theorem nb_3 {c : Nat} : nb c 3 = if 0 < c % 24 then some (c - 1) else none := rfl
theorem x_cb {N a0 : Nat} {S : zm_S} {c d : Nat} (hc : c < 576) (hd : d < 4) : zf_X2_cellBeside N a0 (Int32.ofNat c) (Int32.ofNat d) S = some (((nb c d).elim (-1 : Int32) Int32.ofNat), S) := by
  have e1 := yn_d24 hc
  have e2 := yn_r24 hc
  have q1 : c / 24 < 2147483648 := by omega
  have q2 : c % 24 < 2147483648 := by omega
  unfold zf_X2_cellBeside
  rw [e1, e2]
  match d, hd with
  | 0, _ =>
    rw [nb_0, if_pos (show (Int32.ofNat 0).toInt = 0 from by decide)]
    by_cases h : c / 24 < 23
    · rw [if_neg (show ¬ (23 : Int32) ≤ Int32.ofNat (c / 24) from fun q => by
        have := (yn_le (a := 23) (by decide) q1).mp q
        omega), if_pos h]
      show some (Int32.ofNat c + Int32.ofNat 24, S) = some (Int32.ofNat (c + 24), S)
      rw [Int32.ofNat_add]
    · rw [if_pos (show (23 : Int32) ≤ Int32.ofNat (c / 24) from (yn_le (a := 23) (by decide) q1).mpr (by omega)), if_neg h]
      rfl
  | 1, _ =>
    rw [nb_1, if_neg (show ¬ (Int32.ofNat 1).toInt = 0 from by decide), if_pos (show (Int32.ofNat 1).toInt = 1 from by decide)]
    by_cases h : 0 < c / 24
    · rw [if_neg (show ¬ Int32.ofNat (c / 24) ≤ 0 from fun q => by
        have := (yn_le (b := 0) q1 (by decide)).mp q
        omega), if_pos h]
      show some (Int32.ofNat c - Int32.ofNat 24, S) = some (Int32.ofNat (c - 24), S)
      rw [Int32.ofNat_sub c 24 (by omega)]
    · rw [if_pos (show Int32.ofNat (c / 24) ≤ 0 from (yn_le (b := 0) q1 (by decide)).mpr (by omega)), if_neg h]
      rfl
  | 2, _ =>
    rw [nb_2, if_neg (show ¬ (Int32.ofNat 2).toInt = 0 from by decide), if_neg (show ¬ (Int32.ofNat 2).toInt = 1 from by decide), if_pos (show (Int32.ofNat 2).toInt = 2 from by decide)]
    by_cases h : c % 24 < 23
    · rw [if_neg (show ¬ (23 : Int32) ≤ Int32.ofNat (c % 24) from fun q => by
        have := (yn_le (a := 23) (by decide) q2).mp q
        omega), if_pos h]
      show some (Int32.ofNat c + Int32.ofNat 1, S) = some (Int32.ofNat (c + 1), S)
      rw [Int32.ofNat_add]
    · rw [if_pos (show (23 : Int32) ≤ Int32.ofNat (c % 24) from (yn_le (a := 23) (by decide) q2).mpr (by omega)), if_neg h]
      rfl
  | 3, _ =>
    rw [nb_3, if_neg (show ¬ (Int32.ofNat 3).toInt = 0 from by decide), if_neg (show ¬ (Int32.ofNat 3).toInt = 1 from by decide), if_neg (show ¬ (Int32.ofNat 3).toInt = 2 from by decide)]
    by_cases h : 0 < c % 24
    · rw [if_neg (show ¬ Int32.ofNat (c % 24) ≤ 0 from fun q => by
        have := (yn_le (b := 0) q2 (by decide)).mp q
        omega), if_pos h]
      show some (Int32.ofNat c - Int32.ofNat 1, S) = some (Int32.ofNat (c - 1), S)
      rw [Int32.ofNat_sub c 1 (by omega)]
    · rw [if_pos (show Int32.ofNat (c % 24) ≤ 0 from (yn_le (b := 0) q2 (by decide)).mpr (by omega)), if_neg h]
      rfl
  | d + 4, h => exact absurd h (by omega)
theorem x_pb {N a0 : Nat} {S : zm_S} {c d : Nat} (hc : c < 576) (hd : d < 4) : ∃ p, p < 625 ∧ zf_X2_placeBeside N a0 (Int32.ofNat c) (Int32.ofNat d) S = some (Int32.ofNat p, S) := by
  have e1 := yn_d24 hc
  have e2 := yn_r24 hc
  have e3 : Int32.ofNat (c / 24) * (25 : Int32) + Int32.ofNat (c % 24) = Int32.ofNat (c / 24 * 25 + c % 24) := by
    rw [Int32.ofNat_add, Int32.ofNat_mul]
    rfl
  unfold zf_X2_placeBeside
  rw [e1, e2, e3]
  match d, hd with
  | 0, _ =>
    refine ⟨c / 24 * 25 + c % 24 + 25, by omega, ?_⟩
    rw [if_pos (by decide)]
    show some (Int32.ofNat (c / 24 * 25 + c % 24) + Int32.ofNat 25, S) = _
    rw [← Int32.ofNat_add]
  | 1, _ =>
    refine ⟨c / 24 * 25 + c % 24, by omega, ?_⟩
    rw [if_neg (by decide), if_neg (by decide)]
  | 2, _ =>
    refine ⟨c / 24 * 25 + c % 24 + 1, by omega, ?_⟩
    rw [if_neg (by decide), if_pos (by decide)]
    show some (Int32.ofNat (c / 24 * 25 + c % 24) + Int32.ofNat 1, S) = _
    rw [← Int32.ofNat_add]
  | 3, _ =>
    refine ⟨c / 24 * 25 + c % 24, by omega, ?_⟩
    rw [if_neg (by decide), if_neg (by decide)]
  | d + 4, h => exact absurd h (by omega)
/-- walls without a line; the finding's cells where they lie -/
def hB (B : zm_S) (fo : List Value) : Prop := B.2 = 2333 ∧ B.1 51 = .inl (2, fo) ∧ fo[4]? = some (.ref 52) ∧ fo[6]? = some (.ref 57) ∧ fo[17]? = some (.ref 725) ∧ B.1 52 = .inr (4, 2, .inr (.inr (fun i => if i < 2 then some (53 + i) else none))) ∧
  ∃ g h : Nat → Int32, B.1 53 = .inr (0, 625, .inl g) ∧ B.1 54 = .inr (0, 625, .inl h) ∧ (∀ j, j < 625 → g j = -1) ∧ ∀ j, j < 625 → h j = -1
theorem x_wb {N : Nat} {B : zm_S} {fo : List Value} (H : hB B fo) {c d : Nat} (hc : c < 576) (hd : d < 4) : zf_X2_wallBeside N 51 (Int32.ofNat c) (Int32.ofNat d) B = some (-1, B) := by
  obtain ⟨h2, h51, f4, f6, f17, h52, g, h, h53, h54, hg, hh⟩ := H
  obtain ⟨p, hp, e⟩ := x_pb (N := N) (a0 := 51) (S := B) hc hd
  unfold zf_X2_wallBeside
  refine zb_to (yi h51 (by decide) (by rw [h2]; decide)) ?_
  refine zb_to e ?_
  by_cases hd2 : (2 : Int32) ≤ Int32.ofNat d
  · rw [if_pos hd2]
    refine zb_to (yg_r h51 (by decide) (by rw [h2]; decide) f4) ?_
    refine zb_to (yx_r (q := 0) h52 (Or.inl rfl) (by rw [h2]; decide) (by decide) (by decide) rfl) ?_
    refine zb_to (yx_i h53 (by rw [h2]; decide) hp (by decide)) ?_
    rw [hg p hp]
  · rw [if_neg hd2]
    refine zb_to (yg_r h51 (by decide) (by rw [h2]; decide) f4) ?_
    refine zb_to (yx_r (q := 1) h52 (Or.inl rfl) (by rw [h2]; decide) (by decide) (by decide) rfl) ?_
    refine zb_to (yx_i h54 (by rw [h2]; decide) hp (by decide)) ?_
    rw [hh p hp]
def cn (f : Nat → Int32) : Nat → Nat
  | 0 => 0
  | m + 1 => cn f m + (if f m = -3 then 0 else 1)
theorem cn_ge {f : Nat → Int32} {q : Nat} {v : Int32} : ∀ {m : Nat}, m ≤ q → cn (upd f q v) m = cn f m
  | 0, _ => rfl
  | m + 1, h => by
    unfold cn
    rw [cn_ge (by omega), show upd f q v m = f m from if_neg (by omega)]
theorem cn_up {f : Nat → Int32} {q : Nat} {v : Int32} (hq : f q = -3) (hv : v ≠ -3) : ∀ {m : Nat}, q < m → cn (upd f q v) m = cn f m + 1
  | 0, h => absurd h (Nat.not_lt_zero _)
  | m + 1, h => by
    unfold cn
    by_cases e : q = m
    · subst e
      rw [cn_ge (Nat.le_refl _), show upd f q v q = v from if_pos rfl, if_neg hv, if_pos hq]
    · rw [cn_up hq hv (m := m) (by omega), show upd f q v m = f m from if_neg (fun x => e x.symm)]
      omega
theorem cn_le {f : Nat → Int32} : ∀ {m : Nat}, cn f m ≤ m
  | 0 => Nat.le_refl _
  | m + 1 => by
    have := cn_le (f := f) (m := m)
    unfold cn
    split <;> omega
theorem cn_lt {f : Nat → Int32} {q : Nat} (hq : f q = -3) : ∀ {m : Nat}, q < m → cn f m < m
  | 0, h => absurd h (Nat.not_lt_zero _)
  | m + 1, h => by
    unfold cn
    by_cases e : q = m
    · subst e
      have := cn_le (f := f) (m := q)
      rw [if_pos hq]
      omega
    · have := cn_lt hq (m := m) (by omega)
      split <;> omega
theorem cn_0 {f : Nat → Int32} : ∀ {m : Nat}, (∀ j, j < m → f j = -3) → cn f m = 0
  | 0, _ => rfl
  | m + 1, h => by
    unfold cn
    rw [cn_0 (fun j hj => h j (by omega)), if_pos (h m (by omega))]
def bF (B : zm_S) (f g : Nat → Int32) : zm_S := sU (sU B 57 (.inr (0, 576, .inl f))) 725 (.inr (0, 576, .inl g))
/-- what holds while the flood goes on -/
def xI (k d n : Nat) (f g : Nat → Int32) : Prop := n ≤ 576 ∧ (∀ j, j < 576 → f j = -3 ∨ f j = -1) ∧ (∀ j, j < n → ∃ c, c < 576 ∧ g j = Int32.ofNat c ∧ f c = -1) ∧ cn f 576 = n ∧ (∀ c, c < 576 → f c = -1 → ∃ j, j < n ∧ g j = Int32.ofNat c) ∧
  (∀ j, j < k → ∀ c, c < 576 → g j = Int32.ofNat c → ∀ e, e < 4 → ∀ m, nb c e = some m → f m = -1) ∧ (∀ c, c < 576 → g k = Int32.ofNat c → ∀ e, e < d → ∀ m, nb c e = some m → f m = -1) ∧ f 552 = -1
theorem xb_of {α β : Type} {P : Option β → Prop} {u : Option α} {v : α} {f : α → Option β} (e : u = some v) (h : P (f v)) : P (u.bind f) := by
  rw [e]
  exact h
theorem xb_pos {β : Type} {P : Option β → Prop} {c : Prop} {d : Decidable c} {x y : Option β} (hc : c) (h : P x) : P (@ite _ c d x y) := by
  rw [if_pos hc]
  exact h
theorem xb_neg {β : Type} {P : Option β → Prop} {c : Prop} {d : Decidable c} {x y : Option β} (hc : ¬ c) (h : P y) : P (@ite _ c d x y) := by
  rw [if_neg hc]
  exact h
def xR (B : zm_S) (k n : Nat) (x : Option ((Int32 × zm_S) ⊕ (Int32 × zm_S))) : Prop := ∃ (n' : Nat) (f' g' : Nat → Int32), x = some (.inr (Int32.ofNat n', bF B f' g')) ∧ n ≤ n' ∧ xI k 4 n' f' g'
theorem x_in {N : Nat} {B : zm_S} {fo : List Value} (H : ∀ f g, hB (bF B f g) fo) (hB2 : B.2 = 2333) {k : Nat} :
    ∀ (m d n : Nat) (f g : Nat → Int32), d ≤ 4 → 4 < d + m → k < n → xI k d n f g → xR B k n (zf_X2_fill_L28 N m 51 (-1) (Int32.ofNat n) (Int32.ofNat k) (Int32.ofNat d) (bF B f g)) := by
  intro m
  induction m with
  | zero => intro d n f g h1 h2; omega
  | succ m ih =>
    intro d n f g h1 h2 hkn I
    rw [zf_X2_fill_L28]
    by_cases hd : d = 4
    · subst hd
      exact ⟨n, f, g, if_pos (by decide), Nat.le_refl _, I⟩
    · have hd4 : d < 4 := by omega
      have hnle : ¬ (4 : Int32) ≤ Int32.ofNat d := fun q => by
        have := (yn_le (a := 4) (b := d) (by decide) (by omega)).mp q
        omega
      obtain ⟨i1, i2, i3, i4, i5, i6, i7, i8⟩ := id I
      obtain ⟨c, hc, hgk, hfc⟩ := i3 k hkn
      obtain ⟨s2, s51, s4, s6, s17, -, -⟩ := H f g
      have s725 : (bF B f g).1 725 = .inr (0, 576, .inl g) := sU_s
      have s57 : (bF B f g).1 57 = .inr (0, 576, .inl f) := (sU_n (by decide)).trans sU_s
      have hN : (bF B f g).2 = 2333 := s2
      have go : ∀ (n2 : Nat) (f2 g2 : Nat → Int32), n ≤ n2 → xI k (d + 1) n2 f2 g2 → xR B k n (zf_X2_fill_L28 N m 51 (-1) (Int32.ofNat n2) (Int32.ofNat k) (Int32.ofNat d + (1 : Int32)) (bF B f2 g2)) := by
        intro n2 f2 g2 hn2 I2
        rw [yn_s]
        obtain ⟨n', f', g', e1, e2, e3⟩ := ih (d + 1) n2 f2 g2 (by omega) (by omega) (by omega) I2
        exact ⟨n', f', g', e1, by omega, e3⟩
      have r1 : zg_r (bF B f g) 51 2 17 = some 725 := yg_r s51 (by decide) (by rw [hN]; decide) s17
      have r2 : za_x (bF B f g) 0 725 (Int32.ofNat k) = some (Int32.ofNat c) := by
        rw [yx_i s725 (by rw [hN]; decide) (by omega) (by decide), hgk]
      have r3 : zi (bF B f g) 51 2 = some () := yi s51 (by decide) (by rw [hN]; decide)
      have r4 : zg_r (bF B f g) 51 2 6 = some 57 := yg_r s51 (by decide) (by rw [hN]; decide) s6
      refine xb_neg (P := xR B k n) hnle ?_
      refine xb_of (P := xR B k n) r1 ?_
      refine xb_of (P := xR B k n) r2 ?_
      refine xb_of (P := xR B k n) r3 ?_
      refine xb_of (P := xR B k n) (x_cb hc hd4) ?_
      cases hnb : nb c d with
      | none =>
        refine xb_pos (P := xR B k n) rfl ?_
        unfold zf_X2_fill_J76 zf_X2_fill_J77
        refine xb_pos (P := xR B k n) rfl ?_
        refine go n f g (Nat.le_refl _) ⟨i1, i2, i3, i4, i5, i6, ?_, i8⟩
        intro c2 hc2 hg2 e he m2 hm2
        have ec : c2 = c := (yn_eq (by omega) (by omega)).mp (hg2.symm.trans hgk)
        subst ec
        by_cases ed : e = d
        · subst ed
          rw [hnb] at hm2
          cases hm2
        · exact i7 c2 hc2 hg2 e (by omega) m2 hm2
      | some q =>
        have hq := nb_lt hc hnb
        refine xb_neg (P := xR B k n) (show ¬ Int32.ofNat q = -1 from yn_m1 (by omega)) ?_
        refine xb_of (P := xR B k n) r1 ?_
        refine xb_of (P := xR B k n) r2 ?_
        refine xb_of (P := xR B k n) r3 ?_
        refine xb_of (P := xR B k n) (x_wb (H f g) hc hd4) ?_
        refine xb_pos (P := xR B k n) rfl ?_
        unfold zf_X2_fill_J77
        refine xb_neg (P := xR B k n) (by decide) ?_
        refine xb_of (P := xR B k n) r4 ?_
        refine xb_of (P := xR B k n) (yx_i s57 (by rw [hN]; decide) hq (by decide)) ?_
        by_cases hf : f q = -3
        · refine xb_pos (P := xR B k n) hf ?_
          have hn : n < 576 := by
            have := cn_lt hf (m := 576) hq
            omega
          refine xb_neg (P := xR B k n) (fun w => by
            have := (yn_le (a := 576) (b := n) (by decide) (by omega)).mp w
            omega) ?_
          refine xb_of (P := xR B k n) r4 ?_
          have es : sU (bF B f g) 57 (.inr (0, 576, .inl (upd f q (-1)))) = bF B (upd f q (-1)) g := by
            unfold bF
            rw [sU_cm (a := 725) (b := 57) (by decide), sU_sU]
          refine xb_of (P := xR B k n) (v := bF B (upd f q (-1)) g) ((ys_i s57 (by decide) (by rw [hN]; decide) hq (by decide)).trans (congrArg some es)) ?_
          obtain ⟨u2, u51, u4, u6, u17, -, -⟩ := H (upd f q (-1)) g
          have hN' : (bF B (upd f q (-1)) g).2 = 2333 := u2
          refine xb_of (P := xR B k n) (yg_r u51 (by decide) (by rw [hN']; decide) u17) ?_
          have es2 : sU (bF B (upd f q (-1)) g) 725 (.inr (0, 576, .inl (upd g n (Int32.ofNat q)))) = bF B (upd f q (-1)) (upd g n (Int32.ofNat q)) := by
            unfold bF
            rw [sU_sU]
          refine xb_of (P := xR B k n) (v := bF B (upd f q (-1)) (upd g n (Int32.ofNat q))) ((ys_i (n := 576) (f := g) sU_s (by decide) (by show 725 < (bF B (upd f q (-1)) g).2; rw [hN']; decide) hn (by decide)).trans (congrArg some es2)) ?_
          rw [yn_s (k := n)]
          have mono : ∀ x, f x = -1 → upd f q (-1) x = -1 := fun x hx => by
            unfold upd
            split
            · rfl
            · exact hx
          refine go (n + 1) _ _ (by omega) ⟨by omega, ?_, ?_, ?_, ?_, ?_, ?_, mono 552 i8⟩
          · intro j hj
            unfold upd
            split
            · exact Or.inr rfl
            · exact i2 j hj
          · intro j hj
            by_cases ej : j = n
            · subst ej
              exact ⟨q, hq, if_pos rfl, if_pos rfl⟩
            · obtain ⟨c2, a1, a2, a3⟩ := i3 j (by omega)
              exact ⟨c2, a1, (if_neg ej).trans a2, mono c2 a3⟩
          · rw [cn_up hf (by decide) hq, i4]
          · intro c2 hc2 hf2
            by_cases eq : c2 = q
            · subst eq
              exact ⟨n, by omega, if_pos rfl⟩
            · have hf3 : f c2 = -1 := by
                have := hf2
                unfold upd at this
                rw [if_neg eq] at this
                exact this
              obtain ⟨j, a1, a2⟩ := i5 c2 hc2 hf3
              exact ⟨j, by omega, (if_neg (by omega)).trans a2⟩
          · intro j hj c2 hc2 hg2 e he m2 hm2
            have hg3 : g j = Int32.ofNat c2 := by
              have := hg2
              unfold upd at this
              rw [if_neg (by omega)] at this
              exact this
            exact mono m2 (i6 j hj c2 hc2 hg3 e he m2 hm2)
          · intro c2 hc2 hg2 e he m2 hm2
            have hg3 : g k = Int32.ofNat c2 := by
              have := hg2
              unfold upd at this
              rw [if_neg (by omega)] at this
              exact this
            have ec : c2 = c := (yn_eq (by omega) (by omega)).mp (hg3.symm.trans hgk)
            subst ec
            by_cases ed : e = d
            · subst ed
              rw [hnb] at hm2
              cases hm2
              exact if_pos rfl
            · exact mono m2 (i7 c2 hc2 hg3 e (by omega) m2 hm2)
        · refine xb_neg (P := xR B k n) hf ?_
          refine go n f g (Nat.le_refl _) ⟨i1, i2, i3, i4, i5, i6, ?_, i8⟩
          intro c2 hc2 hg2 e he m2 hm2
          have ec : c2 = c := (yn_eq (by omega) (by omega)).mp (hg2.symm.trans hgk)
          subst ec
          by_cases ed : e = d
          · subst ed
            rw [hnb] at hm2
            cases hm2
            exact (i2 q hq).resolve_left hf
          · exact i7 c2 hc2 hg2 e (by omega) m2 hm2
def xR2 (B : zm_S) (x : Option ((Int32 × zm_S) ⊕ (Int32 × zm_S))) : Prop := ∃ (n' : Nat) (f' g' : Nat → Int32), x = some (.inr (Int32.ofNat n', bF B f' g')) ∧ xI n' 0 n' f' g'
theorem x_out {N : Nat} {B : zm_S} {fo : List Value} (H : ∀ f g, hB (bF B f g) fo) (hB2 : B.2 = 2333) (hN : 4 < N) :
    ∀ (m k n : Nat) (f g : Nat → Int32), k ≤ n → 576 < k + m → xI k 0 n f g → xR2 B (zf_X2_fill_L19 N m 51 (-1) (Int32.ofNat n) (Int32.ofNat k) (bF B f g)) := by
  intro m
  induction m with
  | zero => intro k n f g h1 h2 I; have := I.1; omega
  | succ m ih =>
    intro k n f g h1 h2 I
    rw [zf_X2_fill_L19]
    have hn := I.1
    by_cases hk : k = n
    · subst hk
      exact ⟨k, f, g, if_pos ((yn_le (by omega) (by omega)).mpr (Nat.le_refl _)), I⟩
    · refine xb_neg (P := xR2 B) (fun q => by
        have := (yn_le (a := n) (b := k) (by omega) (by omega)).mp q
        omega) ?_
      obtain ⟨n1, f1, g1, e1, e2, I1⟩ := x_in H hB2 (k := k) N 0 n f g (by omega) (by omega) (by omega) I
      refine xb_of (P := xR2 B) e1 ?_
      show xR2 B (zf_X2_fill_L19 N m 51 (-1) (Int32.ofNat n1) (Int32.ofNat k + (1 : Int32)) (bF B f1 g1))
      rw [yn_s]
      obtain ⟨j1, j2, j3, j4, j5, j6, j7, j8⟩ := I1
      refine ih (k + 1) n1 f1 g1 (by omega) (by omega) ⟨j1, j2, j3, j4, j5, ?_, fun c _ _ e he => absurd he (Nat.not_lt_zero _), j8⟩
      intro j hj c hc hg e he m2 hm2
      by_cases ej : j = k
      · subst ej
        exact j7 c hc hg e he m2 hm2
      · exact j6 j (by omega) c hc hg e he m2 hm2
/-- the flood covers an open plane -/
theorem x_all {n : Nat} {f g : Nat → Int32} (I : xI n 0 n f g) : ∀ c, c < 576 → f c = -1 := by
  obtain ⟨-, -, -, -, j5, j6, -, j8⟩ := I
  have step : ∀ c, c < 576 → f c = -1 → ∀ e, e < 4 → ∀ m, nb c e = some m → f m = -1 := by
    intro c hc hf e he m hm
    obtain ⟨j, hj, hg⟩ := j5 c hc hf
    exact j6 j hj c hc hg e he m hm
  have row : ∀ y, y < 24 → f (552 + y) = -1 := by
    intro y
    induction y with
    | zero => exact fun _ => j8
    | succ y ih =>
      intro hy
      refine step (552 + y) (by omega) (ih (by omega)) 2 (by decide) (552 + (y + 1)) ?_
      unfold nb
      rw [if_neg (by decide), if_neg (by decide), if_pos rfl, if_pos (by omega)]
      rfl
  have col : ∀ x, x < 24 → ∀ y, y < 24 → f (552 + y - 24 * x) = -1 := by
    intro x
    induction x with
    | zero => exact fun _ y hy => row y hy
    | succ x ih =>
      intro hx y hy
      refine step (552 + y - 24 * x) (by omega) (ih (by omega) y hy) 1 (by decide) (552 + y - 24 * (x + 1)) ?_
      unfold nb
      rw [if_neg (by decide), if_pos rfl, if_pos (by omega)]
      congr 1
  intro c hc
  have := col (23 - c / 24) (by omega) (c % 24) (by omega)
  rw [show 552 + c % 24 - 24 * (23 - c / 24) = c from by omega] at this
  exact this
