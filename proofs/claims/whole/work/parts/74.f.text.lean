/-! ===== a sentence written by the class and made by the reference ===== -/
section TS
variable {β : Type} {M K A : qm} {cs : List Int} {n : Nat} {x v t i1 i2 i3 i4 i5 : Int}
def wpa (x v : Int) : List Int := byl x 8 ++ 32 :: nd5 v
def CA (M : qm) (cs : List Int) (n : Nat) (A : qm) : Prop := A = wT 909 908 2 cs M ∧ cs.length ≤ n ∧ 0 ≤ M 908 2 0 ∧ M 908 2 0 ≤ 2000
theorem CA_b (h : CA M cs n A) : 0 ≤ A 908 2 0 ∧ A 908 2 0 ≤ 2000 + n := by
  obtain ⟨rfl, h1, h2, h3⟩ := h
  rw [wT_n (by decide)]
  omega
theorem CA_s {d : List Int} {m : Nat} (h : CA M cs n A) (hd : d.length ≤ m) : CA M (cs ++ d) (n + m) (wT 909 908 2 d A) := by
  obtain ⟨rfl, h1, h2, h3⟩ := h
  refine ⟨wT_app.symm, ?_, h2, h3⟩
  rw [List.length_append]
  omega
theorem wpa_l : (wpa x v).length ≤ 15 := by
  have a := byl_l (x := x) (k := 8)
  have b := nd5_l (v := v)
  unfold wpa
  rw [List.length_append, List.length_cons]
  omega
theorem cP_q {T : β → Prop} {f : Unit × qm → Option β} (h : CA M cs n A) (hn : n ≤ 150) (v0 : 0 ≤ v) (v1 : v ≤ 99999) (g : ∀ B, CA M (cs ++ wpa x v) (n + 15) B → qW (f ((), B)) T) : qW ((qf_X5_writePart 20000 x v A).bind f) T := by
  have b := CA_b h
  exact qW_eq (cPart v0 v1 b.1 (by omega)) (g _ (CA_s h wpa_l))
theorem cN_q {T : β → Prop} {f : Unit × qm → Option β} (h : CA M cs n A) (hn : n ≤ 150) (v0 : 0 ≤ v) (v1 : v ≤ 99999) (g : ∀ B, CA M (cs ++ nd5 v) (n + 6) B → qW (f ((), B)) T) : qW ((qf_X5_writeNumber 20000 v A).bind f) T := by
  have b := CA_b h
  exact qW_eq (cNum v0 v1 b.1 (by omega)) (g _ (CA_s h nd5_l))
theorem cW_q {T : β → Prop} {f : Unit × qm → Option β} (h : CA M cs n A) (hn : n ≤ 150) (v0 : 0 ≤ v) (v1 : v < 65536) (g : ∀ B, CA M (cs ++ [v]) (n + 1) B → qW (f ((), B)) T) : qW ((qf_X5_write 20000 v A).bind f) T := by
  have b := CA_b h
  exact qW_eq (cW_r b.1 (by omega) v0 v1) (g _ (CA_s h (Nat.le_refl 1)))
def RA (M : qm) (cs : List Int) (n : Nat) (A : qm) : Prop := A = wT 2234 2208 35 cs M ∧ cs.length ≤ n ∧ M 2208 35 0 = 0
theorem RA_b (h : RA M cs n A) : 0 ≤ A 2208 35 0 ∧ A 2208 35 0 ≤ n := by
  obtain ⟨rfl, h1, h2⟩ := h
  rw [wT_n (by decide)]
  omega
theorem RA_s {d : List Int} {m : Nat} (h : RA M cs n A) (hd : d.length ≤ m) : RA M (cs ++ d) (n + m) (wT 2234 2208 35 d A) := by
  obtain ⟨rfl, h1, h2⟩ := h
  refine ⟨wT_app.symm, ?_, h2⟩
  rw [List.length_append]
  omega
theorem rW_q {T : β → Prop} {f : Unit × qm → Option β} (h : RA M cs n A) (hn : n ≤ 180) (t0 : 0 ≤ t) (ht : t < 32 ^ 6) (g : ∀ B, RA M (cs ++ (wl 6 t ++ [32])) (n + 7) B → qW (f ((), B)) T) : qW ((qf_X14_word 20000 t A).bind f) T := by
  have b := RA_b h
  refine qW_eq (rWord t0 ht b.1 (by omega)) (g _ (RA_s h ?_))
  have := wl_l (n := 6) (t := t)
  rw [List.length_append]
  simp only [List.length_cons, List.length_nil]
  omega
theorem rN_q {T : β → Prop} {f : Unit × qm → Option β} (h : RA M cs n A) (hn : n ≤ 180) (v0 : 0 ≤ v) (v1 : v ≤ 99999) (g : ∀ B, RA M (cs ++ nd5 v) (n + 6) B → qW (f ((), B)) T) : qW ((qf_X14_number 20000 v A).bind f) T := by
  have b := RA_b h
  exact qW_eq (rNum v0 v1 b.1 (by omega)) (g _ (RA_s h nd5_l))
theorem rL_q {T : β → Prop} {f : Unit × qm → Option β} (h : RA M cs n A) (hn : n ≤ 180) (g : ∀ B, RA M (cs ++ [v]) (n + 1) B → qW (f ((), B)) T) : qW ((qf_X14_letter 20000 v A).bind f) T := by
  have b := RA_b h
  exact qW_eq (rW_r b.1 (by omega)) (g _ (RA_s h (Nat.le_refl 1)))
/-- numbers one after another -/
def nums (a : Int) : Nat → List Int
  | 0 => []
  | n + 1 => nums a n ++ nd5 (a + n)
theorem nums_l {a : Int} {n : Nat} : (nums a n).length ≤ 6 * n := by
  induction n with
  | zero => exact Nat.le_refl _
  | succ n ih =>
    show (nums a n ++ nd5 (a + n)).length ≤ _
    have := nd5_l (v := a + n)
    rw [List.length_append]
    omega
def txt (i1 i2 i3 i4 i5 : Int) : List Int := (if i1 = 0 then wpa 2054123109 i2 ++ (wpa 474147546227 i3 ++ (byl 28518 8 ++ 32 :: nums i4 i5.toNat)) else if i1 = 1 then wpa 6382452 i2 ++ (wpa 1802071652 i3 ++ (wpa 1918987883 i4 ++ wpa 431198331257 i5)) else if i1 = 2 then wpa 2003330414 i2 ++ wpa 1685022067 i3 else if i1 = 3 then wpa 2003330414 i2 ++ (wpa 38 i3 ++ wpa 1685022067 i4) else wpa 1752132708 i2) ++ [59, 32]
/-- the numbers a sentence may name -/
def sok (i1 i2 i3 i4 i5 : Int) : Prop := (0 ≤ i1 ∧ i1 ≤ 4) ∧ (0 ≤ i2 ∧ i2 ≤ 9999) ∧ (i1 ≠ 4 → 0 ≤ i3 ∧ i3 ≤ 9999) ∧ (i1 = 0 ∨ i1 = 1 ∨ i1 = 3 → 0 ≤ i4 ∧ i4 ≤ 9999) ∧ (i1 = 0 → 1 ≤ i5 ∧ i5 ≤ 12) ∧ (i1 = 1 → 0 ≤ i5 ∧ i5 ≤ 9999)
theorem cEnd {m : Nat} (h : CA M cs m A) (hm : m ≤ 140) : qW (qf_X5_writeSentence_J192 20000 A) (fun r => ∃ B, r = (B 908 2 0, B) ∧ CA M (cs ++ [59, 32]) (m + 2) B) := by
  unfold qf_X5_writeSentence_J192
  refine cW_q h (by omega) (by decide) (by decide) (fun B hB => ?_)
  refine cW_q hB (by omega) (by decide) (by decide) (fun D hD => ?_)
  refine qW_some ⟨D, rfl, ?_⟩
  rw [List.append_assoc] at hD
  exact hD
theorem cTxt (hs : sok i1 i2 i3 i4 i5) (hL : 0 ≤ M 908 1 0 ∧ M 908 1 0 ≤ 2000) : qW (qf_X5_writeSentence 20000 i1 i2 i3 i4 i5 M) (fun r => ∃ B, r = (B 908 2 0, B) ∧ CA (qw M 908 2 0 (M 908 1 0)) (txt i1 i2 i3 i4 i5) 150 B) := by
  obtain ⟨a1, a2, a3, a4, a5, a6⟩ := hs
  have st : CA (qw M 908 2 0 (M 908 1 0)) [] 0 (qw M 908 2 0 (M 908 1 0)) := ⟨rfl, Nat.le_refl _, hL⟩
  have up : ∀ {cs : List Int} {n : Nat} {B : qm}, CA (qw M 908 2 0 (M 908 1 0)) cs n B → n ≤ 150 → CA (qw M 908 2 0 (M 908 1 0)) cs 150 B := fun h hn => ⟨h.1, by have := h.2.1; omega, h.2.2⟩
  unfold qf_X5_writeSentence txt
  refine qW_bnd ?_
  (try dsimp only)
  by_cases g0 : i1 = 0
  · rw [if_pos g0, if_pos g0]
    have b3 := a3 (by omega)
    have b4 := a4 (by omega)
    have b5 := a5 g0
    refine cP_q st (by decide) (by omega) (by omega) (fun B hB => ?_)
    refine cP_q hB (by decide) (by omega) (by omega) (fun B hB => ?_)
    refine cP_q hB (by decide) (by omega) (by omega) (fun B hB => ?_)
    refine qW_call (Q := fun o => ∃ D, o = .inr ((), D) ∧ CA (qw M 908 2 0 (M 908 1 0)) ((wpa 2054123109 i2 ++ wpa 474147546227 i3) ++ (byl 28518 8 ++ 32 :: nums i4 i5.toNat)) 120 D) ?_ ?_
    · unfold qf_X5_writeSentence_L68
      obtain ⟨k, hk⟩ : ∃ k : Nat, i5 = k + 1 := ⟨(i5 - 1).toNat, by omega⟩
      refine qW_for k (fun i s => ∃ D, s = (i4, i5, i + 1, D) ∧ CA (qw M 908 2 0 (M 908 1 0)) ((wpa 2054123109 i2 ++ wpa 474147546227 i3) ++ (byl 28518 8 ++ 32 :: nums i4 (i + 1).toNat)) (45 + 6 * i.toNat) D) ?_ ?_ ?_ (by omega) (by omega)
      · rintro i _ i0 i1 ⟨D, rfl, hD⟩
        unfold qf_X5_writeSentence_L68_b
        (try dsimp only)
        rw [if_neg (by omega), if_neg (by omega), w32_id (x := i4 + (i + 1)) (by omega) (by omega), w32_id (x := i + 1 + 1) (by omega) (by omega)]
        refine cN_q hD (by omega) (by omega) (by omega) (fun E hE => ?_)
        refine qW_some ⟨E, rfl, ?_⟩
        have e : (i + 1 + 1).toNat = (i + 1).toNat + 1 := by omega
        have e2 : nums i4 (i + 1 + 1).toNat = nums i4 (i + 1).toNat ++ nd5 (i4 + (i + 1)) := by
          rw [e]
          show nums i4 (i + 1).toNat ++ nd5 (i4 + ((i + 1).toNat : Int)) = _
          rw [show (((i + 1).toNat : Nat) : Int) = i + 1 by omega]
        rw [e2, show (45 + 6 * (i + 1).toNat) = 45 + 6 * i.toNat + 6 by omega]
        simp only [List.append_assoc, List.cons_append] at hE ⊢
        exact hE
      · rintro _ ⟨D, rfl, hD⟩
        unfold qf_X5_writeSentence_L68_b
        (try dsimp only)
        rw [if_pos (by omega)]
        refine qW_some ⟨D, rfl, ?_⟩
        rw [show ((k : Int) + 1).toNat = i5.toNat by omega] at hD
        exact ⟨hD.1, by have := hD.2.1; omega, hD.2.2⟩
      · refine ⟨B, rfl, ?_⟩
        have e : nums i4 ((0 : Int) + 1).toNat = nd5 i4 := by
          show [] ++ nd5 (i4 + ((0 : Nat) : Int)) = _
          rw [List.nil_append, show i4 + ((0 : Nat) : Int) = i4 by omega]
        rw [e]
        exact hB
    · rintro _ ⟨D, rfl, hD⟩
      (try dsimp only)
      unfold qf_X5_writeSentence_J97
      refine qW_mono (cEnd hD (by decide)) ?_
      rintro _ ⟨E, rfl, hE⟩
      refine ⟨E, rfl, ?_⟩
      rw [List.append_assoc (wpa 2054123109 i2)] at hE
      exact up hE (by decide)
  · rw [if_neg g0, if_neg g0]
    have pk : ∀ {T : Int × qm → Prop} {c d : List Int} {m : Nat} {B : qm}, CA (qw M 908 2 0 (M 908 1 0)) c m B → m ≤ 140 → d = c ++ [59, 32] → (∀ r, (∃ B, r = (B 908 2 0, B) ∧ CA (qw M 908 2 0 (M 908 1 0)) d 150 B) → T r) → qW (qf_X5_writeSentence_J192 20000 B) T := by
      intro T c d m B h hm e hT
      refine qW_mono (cEnd h hm) ?_
      rintro _ ⟨E, rfl, hE⟩
      refine hT _ ⟨E, rfl, ?_⟩
      rw [e]
      exact up hE (by omega)
    by_cases g1 : i1 = 1
    · rw [if_pos g1, if_pos g1]
      have b3 := a3 (by omega)
      have b4 := a4 (by omega)
      have b6 := a6 g1
      refine cP_q st (by decide) (by omega) (by omega) (fun B hB => ?_)
      refine cP_q hB (by decide) (by omega) (by omega) (fun B hB => ?_)
      refine cP_q hB (by decide) (by omega) (by omega) (fun B hB => ?_)
      refine cP_q hB (by decide) (by omega) (by omega) (fun B hB => ?_)
      exact pk hB (by decide) (by simp only [List.append_assoc, List.nil_append]) (fun _ z => z)
    · rw [if_neg g1, if_neg g1]
      by_cases g2 : i1 = 2
      · rw [if_pos g2, if_pos g2]
        have b3 := a3 (by omega)
        refine cP_q st (by decide) (by omega) (by omega) (fun B hB => ?_)
        refine cP_q hB (by decide) (by omega) (by omega) (fun B hB => ?_)
        exact pk hB (by decide) (by simp only [List.append_assoc, List.nil_append]) (fun _ z => z)
      · rw [if_neg g2, if_neg g2]
        by_cases g3 : i1 = 3
        · rw [if_pos g3, if_pos g3]
          have b3 := a3 (by omega)
          have b4 := a4 (by omega)
          refine cP_q st (by decide) (by omega) (by omega) (fun B hB => ?_)
          refine cP_q hB (by decide) (by omega) (by omega) (fun B hB => ?_)
          refine cP_q hB (by decide) (by omega) (by omega) (fun B hB => ?_)
          exact pk hB (by decide) (by simp only [List.append_assoc, List.nil_append]) (fun _ z => z)
        · rw [if_neg g3, if_neg g3]
          refine cP_q st (by decide) (by omega) (by omega) (fun B hB => ?_)
          exact pk hB (by decide) (by simp only [List.append_assoc, List.nil_append]) (fun _ z => z)
end TS
