/-! ===== what is written: lists of characters ===== -/
section TX
variable {M K : qm} {T S : Nat} {s c v M0 : Int}
def wT (T S : Nat) (s : Int) : List Int → qm → qm
  | [], M => M
  | c :: cs, M => wT T S s cs (qw (qw M T (M S s 0) 0 c) S s 0 (M S s 0 + 1))
theorem wT_app {a b : List Int} : wT T S s (a ++ b) M = wT T S s b (wT T S s a M) := by
  induction a generalizing M with
  | nil => rfl
  | cons c cs ih => exact ih
theorem wT_n (h : S ≠ T) {cs : List Int} : wT T S s cs M S s 0 = M S s 0 + cs.length := by
  induction cs generalizing M with
  | nil => simp [wT]
  | cons c cs ih =>
    show wT T S s cs (qw (qw M T (M S s 0) 0 c) S s 0 (M S s 0 + 1)) S s 0 = _
    rw [ih, qw_ap, if_pos ⟨rfl, rfl, rfl⟩]
    simp only [List.length_cons]
    omega
theorem wT_o {b : Nat} (h : b ≠ T) (h2 : b ≠ S) {cs : List Int} {i j : Int} : wT T S s cs M b i j = M b i j := by
  induction cs generalizing M with
  | nil => rfl
  | cons c cs ih =>
    show wT T S s cs (qw (qw M T (M S s 0) 0 c) S s 0 (M S s 0 + 1)) b i j = _
    rw [ih, qw_a h2, qw_a h]
theorem wT_S (h : S ≠ T) {cs : List Int} {i j : Int} (hi : ¬ (i = s ∧ j = 0)) : wT T S s cs M S i j = M S i j := by
  induction cs generalizing M with
  | nil => rfl
  | cons c cs ih =>
    show wT T S s cs (qw (qw M T (M S s 0) 0 c) S s 0 (M S s 0 + 1)) S i j = _
    rw [ih, qw_ap, if_neg (fun z => hi z.2), qw_a h]
/-- what stands in the text after -/
theorem wT_T (h : S ≠ T) {cs : List Int} {i : Int} : wT T S s cs M T i 0 = if M S s 0 ≤ i ∧ i < M S s 0 + cs.length then cs.getD (i - M S s 0).toNat 0 else M T i 0 := by
  induction cs generalizing M with
  | nil =>
    rw [if_neg (by simp only [List.length_nil]; omega)]
    rfl
  | cons c cs ih =>
    show wT T S s cs (qw (qw M T (M S s 0) 0 c) S s 0 (M S s 0 + 1)) T i 0 = _
    have e : (qw (qw M T (M S s 0) 0 c) S s 0 (M S s 0 + 1)) S s 0 = M S s 0 + 1 := by
      rw [qw_ap, if_pos ⟨rfl, rfl, rfl⟩]
    rw [ih, e, List.length_cons]
    by_cases g : M S s 0 = i
    · rw [if_neg (by omega), if_pos (by omega), qw_a (Ne.symm h), qw_ap, if_pos ⟨rfl, g.symm, rfl⟩, show (i - M S s 0).toNat = 0 by omega]
      rfl
    · by_cases g2 : M S s 0 ≤ i ∧ i < M S s 0 + ((cs.length + 1 : Nat) : Int)
      · rw [if_pos (by omega), if_pos g2, show (i - M S s 0).toNat = (i - (M S s 0 + 1)).toNat + 1 by omega]
        rfl
      · rw [if_neg (by omega), if_neg g2, qw_a (Ne.symm h), qw_ap, if_neg (fun z => g z.2.1.symm)]
/-- the class writes one -/
theorem cW_r (h0 : 0 ≤ M 908 2 0) (h1 : M 908 2 0 < 2200) (c0 : 0 ≤ c) (c1 : c < 65536) : qf_X5_write 20000 c M = some ((), wT 909 908 2 [c] M) := by
  refine qW_e ?_
  unfold qf_X5_write
  rw [if_neg (by omega), if_pos ⟨h0, h1⟩, show c % 65536 = c by omega]
  refine qW_bnd ?_
  (try dsimp only)
  rw [qw_a (show (908 : Nat) ≠ 909 by decide), w32_id (by omega) (by omega)]
  refine qW_bnd ?_
  exact qW_some rfl
/-- the reference's letter -/
theorem rW_r (h0 : 0 ≤ K 2208 35 0) (h1 : K 2208 35 0 < 200) : qf_X14_letter 20000 c K = some ((), wT 2234 2208 35 [c] K) := by
  refine qW_e ?_
  unfold qf_X14_letter
  rw [if_pos ⟨h0, h1⟩]
  refine qW_bnd ?_
  (try dsimp only)
  rw [qw_a (show (2208 : Nat) ≠ 2234 by decide), w32_id (by omega) (by omega)]
  refine qW_bnd ?_
  exact qW_some rfl
def nd1 (v : Int) : List Int := [48 + v % 10, 32]
def nd2 (v : Int) : List Int := if v ≤ 9 then nd1 v else (48 + v / 10 % 10) :: nd1 v
def nd3 (v : Int) : List Int := if v ≤ 99 then nd2 v else (48 + v / 100 % 10) :: nd2 v
def nd4 (v : Int) : List Int := if v ≤ 999 then nd3 v else (48 + v / 1000 % 10) :: nd3 v
def nd5 (v : Int) : List Int := if v ≤ 9999 then nd4 v else (48 + v / 10000) :: nd4 v
theorem nd1_l : (nd1 v).length = 2 := rfl
theorem nd2_l : (nd2 v).length ≤ 3 := by
  have := nd1_l (v := v)
  unfold nd2
  split
  · omega
  · simp only [List.length_cons]
    omega
theorem nd3_l : (nd3 v).length ≤ 4 := by
  have := nd2_l (v := v)
  unfold nd3
  split
  · omega
  · simp only [List.length_cons]
    omega
theorem nd4_l : (nd4 v).length ≤ 5 := by
  have := nd3_l (v := v)
  unfold nd4
  split
  · omega
  · simp only [List.length_cons]
    omega
theorem nd5_l : (nd5 v).length ≤ 6 := by
  have := nd4_l (v := v)
  unfold nd5
  split
  · omega
  · simp only [List.length_cons]
    omega
theorem wT_n1 (h : S ≠ T) : wT T S s [c] M S s 0 = M S s 0 + 1 := wT_n h
theorem wb_ {α : Type} {x : Option (Unit × qm)} {A : qm} {g : Unit × qm → Option α} {o : Option α} (e : x = some ((), A)) (h : g ((), A) = o) : x.bind g = o := by
  rw [e]
  exact h
theorem rN1 (v0 : 0 ≤ v) (v1 : v ≤ 99999) (h0 : 0 ≤ K 2208 35 0) (h1 : K 2208 35 0 ≤ 194) : qf_X14_number_J81 20000 v K = some ((), wT 2234 2208 35 (nd1 v) K) := by
  unfold qf_X14_number_J81
  have n1 := wT_n1 (T := 2234) (S := 2208) (s := 35) (M := K) (c := 48 + v % 10) (by decide)
  rw [Int.tmod_eq_emod_of_nonneg v0, w32_id (by omega) (by omega)]
  refine wb_ (rW_r (by omega) (by omega)) ?_
  (try dsimp only)
  refine wb_ (rW_r (by omega) (by omega)) ?_
  rfl
theorem rN2 (v0 : 0 ≤ v) (v1 : v ≤ 99999) (h0 : 0 ≤ K 2208 35 0) (h1 : K 2208 35 0 ≤ 193) : qf_X14_number_J61 20000 v K = some ((), wT 2234 2208 35 (nd2 v) K) := by
  unfold qf_X14_number_J61 nd2
  by_cases g : v ≤ 9
  · rw [if_pos g, if_pos g]
    exact rN1 v0 v1 h0 (by omega)
  · rw [if_neg g, if_neg g, Int.tdiv_eq_ediv_of_nonneg v0, Int.tmod_eq_emod_of_nonneg (by omega), w32_id (by omega) (by omega)]
    have n1 := wT_n1 (T := 2234) (S := 2208) (s := 35) (M := K) (c := 48 + v / 10 % 10) (by decide)
    refine wb_ (rW_r (by omega) (by omega)) ?_
    (try dsimp only)
    exact rN1 v0 v1 (by omega) (by omega)
theorem rN3 (v0 : 0 ≤ v) (v1 : v ≤ 99999) (h0 : 0 ≤ K 2208 35 0) (h1 : K 2208 35 0 ≤ 192) : qf_X14_number_J41 20000 v K = some ((), wT 2234 2208 35 (nd3 v) K) := by
  unfold qf_X14_number_J41 nd3
  by_cases g : v ≤ 99
  · rw [if_pos g, if_pos g]
    exact rN2 v0 v1 h0 (by omega)
  · rw [if_neg g, if_neg g, Int.tdiv_eq_ediv_of_nonneg v0, Int.tmod_eq_emod_of_nonneg (by omega), w32_id (by omega) (by omega)]
    have n1 := wT_n1 (T := 2234) (S := 2208) (s := 35) (M := K) (c := 48 + v / 100 % 10) (by decide)
    refine wb_ (rW_r (by omega) (by omega)) ?_
    (try dsimp only)
    exact rN2 v0 v1 (by omega) (by omega)
theorem rN4 (v0 : 0 ≤ v) (v1 : v ≤ 99999) (h0 : 0 ≤ K 2208 35 0) (h1 : K 2208 35 0 ≤ 191) : qf_X14_number_J19 20000 v K = some ((), wT 2234 2208 35 (nd4 v) K) := by
  unfold qf_X14_number_J19 nd4
  by_cases g : v ≤ 999
  · rw [if_pos g, if_pos g]
    exact rN3 v0 v1 h0 (by omega)
  · rw [if_neg g, if_neg g, Int.tdiv_eq_ediv_of_nonneg v0, Int.tmod_eq_emod_of_nonneg (by omega), w32_id (by omega) (by omega)]
    have n1 := wT_n1 (T := 2234) (S := 2208) (s := 35) (M := K) (c := 48 + v / 1000 % 10) (by decide)
    refine wb_ (rW_r (by omega) (by omega)) ?_
    (try dsimp only)
    exact rN3 v0 v1 (by omega) (by omega)
theorem rNum (v0 : 0 ≤ v) (v1 : v ≤ 99999) (h0 : 0 ≤ K 2208 35 0) (h1 : K 2208 35 0 ≤ 190) : qf_X14_number 20000 v K = some ((), wT 2234 2208 35 (nd5 v) K) := by
  unfold qf_X14_number nd5
  by_cases g : v ≤ 9999
  · rw [if_pos g, if_pos g]
    exact rN4 v0 v1 h0 (by omega)
  · rw [if_neg g, if_neg g, Int.tdiv_eq_ediv_of_nonneg v0, w32_id (by omega) (by omega)]
    have n1 := wT_n1 (T := 2234) (S := 2208) (s := 35) (M := K) (c := 48 + v / 10000) (by decide)
    refine wb_ (rW_r (by omega) (by omega)) ?_
    (try dsimp only)
    exact rN4 v0 v1 (by omega) (by omega)
/-- the class's digit at a place p: written, or left out at the front -/
theorem cD_w {p b d : Int} (p1 : 1 ≤ p) (hd : Int.tmod (w32 (Int.tdiv v p)) 10 = d) (d0 : 0 ≤ d) (d9 : d ≤ 9) (go : d ≠ 0 ∨ b ≠ 0 ∨ p = 1) (h0 : 0 ≤ M 908 2 0) (h1 : M 908 2 0 < 2200) : qf_X5_writeNumber_L6_b 20000 v b p M = some (.inr (v, 1, Int.tdiv p 10, wT 909 908 2 [48 + d] M)) := by
  unfold qf_X5_writeNumber_L6_b qf_X5_writeNumber_J32 qf_X5_writeNumber_J44
  rw [if_neg (by omega), if_neg (by omega), hd, w32_id (x := 48 + d) (by omega) (by omega), show (48 + d) % 65536 = 48 + d by omega]
  have w := cW_r (M := M) (c := 48 + d) h0 h1 (by omega) (by omega)
  by_cases g : d = 0
  · rw [if_pos g]
    by_cases g2 : b = 0
    · rw [if_pos g2, if_pos (by omega)]
      exact wb_ w rfl
    · rw [if_neg g2]
      exact wb_ w rfl
  · rw [if_neg g]
    exact wb_ w rfl
theorem cD_n {p : Int} (p1 : 2 ≤ p) (hd : Int.tmod (w32 (Int.tdiv v p)) 10 = 0) : qf_X5_writeNumber_L6_b 20000 v 0 p M = some (.inr (v, 0, Int.tdiv p 10, M)) := by
  unfold qf_X5_writeNumber_L6_b qf_X5_writeNumber_J44
  rw [if_neg (by omega), if_neg (by omega), hd, if_pos rfl, if_pos rfl, if_neg (by omega)]
theorem tdm {p : Int} (v0 : 0 ≤ v) (v1 : v ≤ 99999) (p1 : 1 ≤ p) : Int.tmod (w32 (Int.tdiv v p)) 10 = v / p % 10 := by
  have a : 0 ≤ v / p := Int.ediv_nonneg v0 (by omega)
  have b : v / p ≤ v := Int.ediv_le_self p v0
  rw [Int.tdiv_eq_ediv_of_nonneg v0, w32_id (by omega) (by omega), Int.tmod_eq_emod_of_nonneg a]
theorem cN0 {k : Nat} {b : Int} : qloop (fun s => qf_X5_writeNumber_L6_b 20000 s.1 s.2.1 s.2.2.1 s.2.2.2) (k + 1) (v, b, 0, M) = some (.inr ((), M)) := ql_l rfl
theorem cN1 {k : Nat} {b : Int} (v0 : 0 ≤ v) (v1 : v ≤ 99999) (h0 : 0 ≤ M 908 2 0) (h1 : M 908 2 0 ≤ 2190) : qloop (fun s => qf_X5_writeNumber_L6_b 20000 s.1 s.2.1 s.2.2.1 s.2.2.2) (k + 1 + 1) (v, b, 1, M) = some (.inr ((), wT 909 908 2 [48 + v % 10] M)) := by
  have e := tdm (v := v) (p := 1) v0 v1 (by decide)
  rw [Int.ediv_one] at e
  exact (ql_r (cD_w (by decide) e (by omega) (by omega) (Or.inr (Or.inr rfl)) h0 (by omega))).trans cN0
theorem cNs {k : Nat} {b p q : Int} {L : List Int} (v0 : 0 ≤ v) (v1 : v ≤ 99999) (h0 : 0 ≤ M 908 2 0) (h1 : M 908 2 0 ≤ 2180) (p2 : 2 ≤ p) (hq : Int.tdiv p 10 = q) (hb : (b = 0 ∧ v < 10 * p) ∨ (b = 1 ∧ 10 * p ≤ v))
    (h : ∀ (M : qm) (b : Int), 0 ≤ M 908 2 0 → M 908 2 0 ≤ M0 + 1 → ((b = 0 ∧ v < p) ∨ (b = 1 ∧ p ≤ v)) → qloop (fun s => qf_X5_writeNumber_L6_b 20000 s.1 s.2.1 s.2.2.1 s.2.2.2) k (v, b, q, M) = some (.inr ((), wT 909 908 2 L M))) (hM : M 908 2 0 ≤ M0) : qloop (fun s => qf_X5_writeNumber_L6_b 20000 s.1 s.2.1 s.2.2.1 s.2.2.2) (k + 1) (v, b, p, M) = some (.inr ((), wT 909 908 2 (if v < p then L else (48 + v / p % 10) :: L) M)) := by
  have e := tdm (v := v) (p := p) v0 v1 (by omega)
  have a : 0 ≤ v / p := Int.ediv_nonneg v0 (by omega)
  by_cases g : v < p
  · rw [if_pos g]
    have z : v / p = 0 := Int.ediv_eq_zero_of_lt v0 g
    obtain ⟨b0, _⟩ : b = 0 ∧ v < 10 * p := by
      rcases hb with q | q
      · exact q
      · omega
    rw [b0]
    rw [z] at e
    refine (ql_r (cD_n p2 e)).trans ?_
    rw [hq]
    exact h M 0 h0 (by omega) (Or.inl ⟨rfl, g⟩)
  · rw [if_neg g]
    have n1 := wT_n1 (T := 909) (S := 908) (s := 2) (M := M) (c := 48 + v / p % 10) (by decide)
    have go : v / p % 10 ≠ 0 ∨ b ≠ 0 ∨ p = 1 := by
      rcases hb with ⟨q1, q2⟩ | ⟨q1, q2⟩
      · have x1 : 1 ≤ v / p := (Int.le_ediv_iff_mul_le (by omega)).mpr (by omega)
        have x2 : v / p < 10 := (Int.ediv_lt_iff_lt_mul (by omega)).mpr (by omega)
        omega
      · omega
    refine (ql_r (cD_w (by omega) e (by omega) (by omega) go h0 (by omega))).trans ?_
    rw [hq]
    exact h _ 1 (by omega) (by omega) (Or.inr ⟨rfl, by omega⟩)
def ld1 (v : Int) : List Int := [48 + v % 10]
def ld2 (v : Int) : List Int := if v < 10 then ld1 v else (48 + v / 10 % 10) :: ld1 v
def ld3 (v : Int) : List Int := if v < 100 then ld2 v else (48 + v / 100 % 10) :: ld2 v
def ld4 (v : Int) : List Int := if v < 1000 then ld3 v else (48 + v / 1000 % 10) :: ld3 v
def ld5 (v : Int) : List Int := if v < 10000 then ld4 v else (48 + v / 10000 % 10) :: ld4 v
theorem ld_nd (v0 : 0 ≤ v) (v1 : v ≤ 99999) : nd5 v = ld5 v ++ [32] := by
  have e1 : nd1 v = ld1 v ++ [32] := rfl
  have e2 : nd2 v = ld2 v ++ [32] := by
    unfold nd2 ld2
    by_cases g : v ≤ 9
    · rw [if_pos g, if_pos (by omega), e1]
    · rw [if_neg g, if_neg (by omega), e1]
      rfl
  have e3 : nd3 v = ld3 v ++ [32] := by
    unfold nd3 ld3
    by_cases g : v ≤ 99
    · rw [if_pos g, if_pos (by omega), e2]
    · rw [if_neg g, if_neg (by omega), e2]
      rfl
  have e4 : nd4 v = ld4 v ++ [32] := by
    unfold nd4 ld4
    by_cases g : v ≤ 999
    · rw [if_pos g, if_pos (by omega), e3]
    · rw [if_neg g, if_neg (by omega), e3]
      rfl
  unfold nd5 ld5
  by_cases g : v ≤ 9999
  · rw [if_pos g, if_pos (by omega), e4]
  · rw [if_neg g, if_neg (by omega), e4, show v / 10000 % 10 = v / 10000 by omega]
    rfl
theorem cNum (v0 : 0 ≤ v) (v1 : v ≤ 99999) (h0 : 0 ≤ M 908 2 0) (h1 : M 908 2 0 ≤ 2170) : qf_X5_writeNumber 20000 v M = some ((), wT 909 908 2 (nd5 v) M) := by
  have l := ld_nd v0 v1
  have n5 := nd5_l (v := v)
  have e : qf_X5_writeNumber_L6 20000 20000 v 0 10000 M = some (.inr ((), wT 909 908 2 (ld5 v) M)) := by
    refine cNs (k := 19999) (M0 := 2170) (L := ld4 v) v0 v1 h0 (by omega) (by decide) (show Int.tdiv 10000 10 = 1000 from by decide) (Or.inl ⟨rfl, by omega⟩) (fun M b a1 a2 a3 => ?_) h1
    refine cNs (k := 19998) (M0 := 2171) (L := ld3 v) v0 v1 a1 (by omega) (by decide) (show Int.tdiv 1000 10 = 100 from by decide) (by omega) (fun M b a1 a2 a3 => ?_) (by omega)
    refine cNs (k := 19997) (M0 := 2172) (L := ld2 v) v0 v1 a1 (by omega) (by decide) (show Int.tdiv 100 10 = 10 from by decide) (by omega) (fun M b a1 a2 a3 => ?_) (by omega)
    refine cNs (k := 19996) (M0 := 2173) (L := ld1 v) v0 v1 a1 (by omega) (by decide) (show Int.tdiv 10 10 = 1 from by decide) (by omega) (fun M b a1 a2 a3 => ?_) (by omega)
    exact cN1 (k := 19994) v0 v1 a1 (by omega)
  have n := wT_n (T := 909) (S := 908) (s := 2) (M := M) (cs := ld5 v) (by decide)
  have ll : (ld5 v).length + 1 = (nd5 v).length := by rw [l, List.length_append]; rfl
  unfold qf_X5_writeNumber
  rw [e, l, wT_app]
  show (qf_X5_write 20000 32 (wT 909 908 2 (ld5 v) M)).bind _ = _
  exact wb_ (cW_r (by omega) (by omega) (by decide) (by decide)) rfl
/-- the bytes of a word, top first, without the empty ones -/
def byl (x : Int) : Nat → List Int
  | 0 => []
  | k + 1 => byl x k ++ (if y8 x (7 - k) = 0 then [] else [y8 x (7 - k)])
theorem byl_l {x : Int} {k : Nat} : (byl x k).length ≤ k := by
  induction k with
  | zero => exact Nat.le_refl _
  | succ k ih =>
    show (byl x k ++ (if y8 x (7 - k) = 0 then [] else [y8 x (7 - k)])).length ≤ _
    rw [List.length_append]
    split
    · simp only [List.length_nil]
      omega
    · simp only [List.length_cons, List.length_nil]
      omega
theorem cPart {x : Int} (v0 : 0 ≤ v) (v1 : v ≤ 99999) (h0 : 0 ≤ M 908 2 0) (h1 : M 908 2 0 ≤ 2160) : qf_X5_writePart 20000 x v M = some ((), wT 909 908 2 (byl x 8 ++ 32 :: nd5 v) M) := by
  have n := fun k => wT_n (T := 909) (S := 908) (s := 2) (M := M) (cs := byl x k) (by decide)
  have e : qf_X5_writePart_L4 20000 20000 x v 56 M = some (.inr ((), wT 909 908 2 (byl x 8) M)) := by
    refine qW_e ?_
    unfold qf_X5_writePart_L4
    refine qW_for 8 (fun i s => s = (x, v, 8 * (7 - i), wT 909 908 2 (byl x i.toNat) M)) ?_ ?_ ?_ (by decide) (by decide)
    · rintro i _ i0 i1 rfl
      obtain ⟨k, rfl⟩ : ∃ k : Nat, i = k := ⟨i.toNat, by omega⟩
      have nk := n k
      have lk := byl_l (x := x) (k := k)
      have y := y8_b (x := x) (k := 7 - k)
      have st : byl x (k + 1) = byl x k ++ (if y8 x (7 - k) = 0 then [] else [y8 x (7 - k)]) := rfl
      unfold qf_X5_writePart_L4_b
      (try dsimp only)
      rw [if_neg (show ¬ 8 * (7 - (k : Int)) < 0 by omega), lA_y (by omega) (by omega), w32_id (x := 8 * (7 - (k : Int)) - 8) (by omega) (by omega), show ((k : Int) + 1).toNat = k + 1 by omega, show ((k : Int)).toNat = k by omega, st, wT_app]
      by_cases g : y8 x (7 - k) = 0
      · rw [if_pos g, if_pos g]
        exact qW_some (show (_ : Int × Int × Int × qm) = _ by rw [show 8 * (7 - (k : Int)) - 8 = 8 * (7 - ((k : Int) + 1)) by omega]; rfl)
      · rw [if_neg g, if_neg g, w32_id (x := y8 x (7 - k)) (by omega) (by omega), show y8 x (7 - (k : Int)) % 65536 = y8 x (7 - k) by omega]
        refine qW_eq (cW_r (by omega) (by omega) (by omega) (by omega)) ?_
        exact qW_some (show (_ : Int × Int × Int × qm) = _ by rw [show 8 * (7 - (k : Int)) - 8 = 8 * (7 - ((k : Int) + 1)) by omega])
    · rintro _ rfl
      unfold qf_X5_writePart_L4_b
      (try dsimp only)
      rw [if_pos (show 8 * (7 - (8 : Int)) < 0 by omega)]
      exact qW_some rfl
    · exact rfl
  have n8 := n 8
  have l8 := byl_l (x := x) (k := 8)
  have n9 := wT_n1 (T := 909) (S := 908) (s := 2) (M := wT 909 908 2 (byl x 8) M) (c := 32) (by decide)
  unfold qf_X5_writePart
  rw [e, wT_app]
  show (qf_X5_write 20000 32 (wT 909 908 2 (byl x 8) M)).bind _ = _
  refine wb_ (cW_r (by omega) (by omega) (by decide) (by decide)) ?_
  (try dsimp only)
  exact wb_ (cNum v0 v1 (by omega) (by omega)) rfl
/-- the letters of a word by fives of bits, lowest first -/
def wl : Nat → Int → List Int
  | 0, _ => []
  | n + 1, t => if t ≤ 0 then [] else (96 + t % 32) :: wl n (t / 32)
theorem wl_l {n : Nat} {t : Int} : (wl n t).length ≤ n := by
  induction n generalizing t with
  | zero => exact Nat.le_refl _
  | succ n ih =>
    show (if t ≤ 0 then [] else (96 + t % 32) :: wl n (t / 32)).length ≤ _
    have := ih (t := t / 32)
    split
    · simp only [List.length_nil]
      omega
    · simp only [List.length_cons, List.length_nil]
      omega
theorem rWl {n k : Nat} {t : Int} (hn : n < k) (t0 : 0 ≤ t) (ht : t < 32 ^ n) (h0 : 0 ≤ K 2208 35 0) (h1 : K 2208 35 0 + n ≤ 200) : qloop (fun s => qf_X14_word_L2_b 20000 s.1 s.2) k (t, K) = some (.inr ((), wT 2234 2208 35 (wl n t) K)) := by
  induction n generalizing k t K with
  | zero =>
    obtain ⟨k, rfl⟩ : ∃ j, k = j + 1 := ⟨k - 1, by omega⟩
    have e : t = 0 := by
      rw [Int.pow_zero] at ht
      omega
    rw [e]
    exact ql_l rfl
  | succ n ih =>
    obtain ⟨k, rfl⟩ : ∃ j, k = j + 1 := ⟨k - 1, by omega⟩
    show _ = some (Sum.inr ((), wT 2234 2208 35 (if t ≤ 0 then [] else (96 + t % 32) :: wl n (t / 32)) K))
    by_cases g : t ≤ 0
    · rw [if_pos g]
      refine ql_l ?_
      unfold qf_X14_word_L2_b
      rw [if_pos g]
      rfl
    · rw [if_neg g]
      have n1 := wT_n1 (T := 2234) (S := 2208) (s := 35) (M := K) (c := 96 + t % 32) (by decide)
      have st : qf_X14_word_L2_b 20000 t K = some (.inr (t / 32, wT 2234 2208 35 [96 + t % 32] K)) := by
        unfold qf_X14_word_L2_b
        rw [if_neg g, Int.tmod_eq_emod_of_nonneg t0, Int.tdiv_eq_ediv_of_nonneg t0, w32_id (by omega) (by omega)]
        exact wb_ (rW_r (by omega) (by omega)) rfl
      refine (ql_r st).trans ?_
      refine ih (by omega) (by omega) ?_ (by omega) (by omega)
      rw [Int.pow_succ] at ht
      omega
theorem rWord {t : Int} (t0 : 0 ≤ t) (ht : t < 32 ^ 6) (h0 : 0 ≤ K 2208 35 0) (h1 : K 2208 35 0 ≤ 190) : qf_X14_word 20000 t K = some ((), wT 2234 2208 35 (wl 6 t ++ [32]) K) := by
  have n := wT_n (T := 2234) (S := 2208) (s := 35) (M := K) (cs := wl 6 t) (by decide)
  have l := wl_l (n := 6) (t := t)
  have e : qf_X14_word_L2 20000 20000 t K = some (.inr ((), wT 2234 2208 35 (wl 6 t) K)) := rWl (by decide) t0 ht h0 (by omega)
  unfold qf_X14_word
  rw [e, wT_app]
  show (qf_X14_letter 20000 32 (wT 2234 2208 35 (wl 6 t) K)).bind _ = _
  exact wb_ (rW_r (by omega) (by omega)) rfl
end TX
