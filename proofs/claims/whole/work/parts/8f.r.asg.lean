/-! ===== the giving: who takes what; the numbers of givings ===== -/
section GVr
variable {M K A W Z X Y V : qm} {a b d i k p q v w T y : Int} {c n s x r C cs : Nat} {l t u pre E E2 D D2 : List Int} {f : Int → Int}
theorem fl_one {α β : Type} {g : α → β} : ∀ ls : List α, ls.flatMap (fun a => [g a]) = ls.map g := by
  intro ls
  induction ls with
  | nil => rfl
  | cons a t ih =>
    rw [List.flatMap_cons, ih]
    rfl
theorem fl_map {α β γ : Type} {g : α → List β} {h : β → γ} : ∀ ls : List α, (ls.flatMap g).map h = ls.flatMap (fun a => (g a).map h) := by
  intro ls
  induction ls with
  | nil => rfl
  | cons a t ih => rw [List.flatMap_cons, List.map_append, ih, List.flatMap_cons]
theorem map_fl {α β γ : Type} {g : β → List γ} {h : α → β} : ∀ ls : List α, (ls.map h).flatMap g = ls.flatMap (fun a => g (h a)) := by
  intro ls
  induction ls with
  | nil => rfl
  | cons a t ih => rw [List.map_cons, List.flatMap_cons, ih, List.flatMap_cons]
theorem fl_fl {α β γ : Type} {g : α → List β} {h : β → List γ} : ∀ ls : List α, (ls.flatMap g).flatMap h = ls.flatMap (fun a => (g a).flatMap h) := by
  intro ls
  induction ls with
  | nil => rfl
  | cons a t ih => rw [List.flatMap_cons, List.flatMap_append, ih, List.flatMap_cons]
/-- all rows of so many cars -/
def asg (cs : Nat) : Nat → List (List Int)
  | 0 => [[]]
  | m + 1 => (List.range cs).flatMap (fun (a : Nat) => (asg cs m).map (fun t => (a : Int) :: t))
def snl (cs : Nat) (D : List Int) : List (List Int) := (List.range cs).map (fun (b : Nat) => D ++ [(b : Int)])
theorem asg_s : ∀ m : Nat, asg cs (m + 1) = (asg cs m).flatMap (snl cs) := by
  intro m
  induction m with
  | zero =>
    show (List.range cs).flatMap (fun (a : Nat) => [[(a : Int)]]) = [[]].flatMap (snl cs)
    rw [fl_one, List.flatMap_cons, List.flatMap_nil, List.append_nil]
    rfl
  | succ m ih =>
    show (List.range cs).flatMap (fun (a : Nat) => (asg cs (m + 1)).map (fun t => (a : Int) :: t)) = ((List.range cs).flatMap (fun (a : Nat) => (asg cs m).map (fun t => (a : Int) :: t))).flatMap (snl cs)
    rw [fl_fl, ih]
    refine congrArg (fun g => (List.range cs).flatMap g) (funext (fun a => ?_))
    rw [fl_map, map_fl]
    refine congrArg (fun g => (asg cs m).flatMap g) (funext (fun D => ?_))
    unfold snl
    rw [List.map_map]
    rfl
theorem asg_m : ∀ (m : Nat) (D : List Int), D ∈ asg cs m → D.length = m ∧ ∀ x, x ∈ D → 0 ≤ x ∧ x < cs := by
  intro m
  induction m with
  | zero =>
    intro D h
    have h' : D ∈ [([] : List Int)] := h
    rw [List.mem_singleton] at h'
    rw [h']
    exact ⟨rfl, fun x hx => (by cases hx)⟩
  | succ m ih =>
    intro D h
    obtain ⟨a, ha, h2⟩ := List.mem_flatMap.mp h
    obtain ⟨t, ht, e⟩ := List.mem_map.mp h2
    have q := ih t ht
    have a1 := List.mem_range.mp ha
    rw [← e]
    refine ⟨by rw [List.length_cons, q.1], fun x hx => ?_⟩
    rcases List.mem_cons.mp hx with z | z
    · omega
    · exact q.2 x z
/-- the digits of a number, the highest first -/
def dig (cs : Nat) : Nat → Nat → List Int
  | 0, _ => []
  | m + 1, i => dig cs m (i / cs) ++ [((i % cs : Nat) : Int)]
theorem rng_mul (N c : Nat) : List.range (N * c) = (List.range N).flatMap (fun q => (List.range c).map (fun r => q * c + r)) := by
  induction N with
  | zero =>
    rw [Nat.zero_mul]
    rfl
  | succ N ih =>
    rw [Nat.succ_mul, List.range_add, ih, List.range_succ, List.flatMap_append, List.flatMap_cons, List.flatMap_nil, List.append_nil]
theorem dig_all (hc : 0 < cs) : ∀ m : Nat, (List.range (cs ^ m)).map (dig cs m) = asg cs m := by
  intro m
  induction m with
  | zero =>
    rw [Nat.pow_zero]
    rfl
  | succ m ih =>
    rw [Nat.pow_succ, rng_mul, fl_map, asg_s, ← ih, map_fl]
    refine congrArg (fun g => (List.range (cs ^ m)).flatMap g) (funext (fun q => ?_))
    unfold snl
    rw [List.map_map]
    refine List.map_congr_left (fun r hr => ?_)
    have r1 := List.mem_range.mp hr
    show dig cs m ((q * cs + r) / cs) ++ [(((q * cs + r) % cs : Nat) : Int)] = dig cs m q ++ [(r : Int)]
    rw [Nat.mul_comm q cs, Nat.mul_add_div hc, Nat.mul_add_mod, Nat.div_eq_of_lt r1, Nat.mod_eq_of_lt r1, Nat.add_zero]
/-- the set that the car c takes: of the places E, dealt out by D -/
def shb : List Int → List Int → Nat → Nat
  | [], _, _ => 0
  | _ :: _, [], _ => 0
  | k :: ks, a :: D, c => (if a = (c : Int) then 2 ^ k.toNat else 0) + shb ks D c
def sbl : List Int → List Int → Nat → List Int
  | [], _, _ => []
  | _ :: _, [], _ => []
  | k :: ks, a :: D, c => if a = (c : Int) then k :: sbl ks D c else sbl ks D c
theorem shb_app : ∀ (E D : List Int), E.length = D.length → shb (E ++ E2) (D ++ D2) c = shb E D c + shb E2 D2 c := by
  intro E
  induction E with
  | nil =>
    intro D h
    cases D with
    | nil =>
      show shb E2 D2 c = 0 + shb E2 D2 c
      omega
    | cons a t => cases h
  | cons k ks ih =>
    intro D h
    cases D with
    | nil => cases h
    | cons a t =>
      have q := ih t (by simpa using h)
      show (if a = (c : Int) then 2 ^ k.toNat else 0) + shb (ks ++ E2) (t ++ D2) c = (if a = (c : Int) then 2 ^ k.toNat else 0) + shb ks t c + shb E2 D2 c
      rw [q]
      omega
theorem sbl_app : ∀ (E D : List Int), E.length = D.length → sbl (E ++ E2) (D ++ D2) c = sbl E D c ++ sbl E2 D2 c := by
  intro E
  induction E with
  | nil =>
    intro D h
    cases D with
    | nil => rfl
    | cons a t => cases h
  | cons k ks ih =>
    intro D h
    cases D with
    | nil => cases h
    | cons a t =>
      have q := ih t (by simpa using h)
      show (if a = (c : Int) then k :: sbl (ks ++ E2) (t ++ D2) c else sbl (ks ++ E2) (t ++ D2) c) = (if a = (c : Int) then k :: sbl ks t c else sbl ks t c) ++ sbl E2 D2 c
      rw [q]
      by_cases g : a = (c : Int)
      · rw [if_pos g, if_pos g]
        rfl
      · rw [if_neg g, if_neg g]
theorem sbl_map : ∀ (E D : List Int), sbl (E.map f) D c = (sbl E D c).map f := by
  intro E
  induction E with
  | nil => exact fun _ => rfl
  | cons k ks ih =>
    intro D
    cases D with
    | nil => rfl
    | cons a t =>
      show (if a = (c : Int) then f k :: sbl (ks.map f) t c else sbl (ks.map f) t c) = (if a = (c : Int) then k :: sbl ks t c else sbl ks t c).map f
      rw [ih t]
      by_cases g : a = (c : Int)
      · rw [if_pos g, if_pos g]
        rfl
      · rw [if_neg g, if_neg g]
theorem sbl_sl : ∀ (E D : List Int), (sbl E D c).Sublist E := by
  intro E
  induction E with
  | nil => exact fun _ => List.Sublist.refl _
  | cons k ks ih =>
    intro D
    cases D with
    | nil => exact List.nil_sublist _
    | cons a t =>
      show (if a = (c : Int) then k :: sbl ks t c else sbl ks t c).Sublist (k :: ks)
      by_cases g : a = (c : Int)
      · rw [if_pos g]
        exact (ih t).cons₂ k
      · rw [if_neg g]
        exact (ih t).cons k
theorem bit_lt_all : ((List.range 64).all (fun x => (List.range 6).all (fun k => bitN x k || decide (x + 2 ^ k < 64)))) = true := by decide +kernel
theorem bit_lt (hn : n < 64) (hm : s < 6) (h : bitN n s = false) : n + 2 ^ s < 64 := by
  have q := all_2 (f := fun x k => bitN x k || decide (x + 2 ^ k < 64)) bit_lt_all hn hm
  rw [h] at q
  simpa using q
theorem shb_bit : ∀ (E D : List Int), E.Pairwise (· < ·) → (∀ k, k ∈ E → 0 ≤ k ∧ k < 6) → shb E D c < 64 ∧ ∀ j : Nat, j < 6 → (bitN (shb E D c) j = true ↔ (j : Int) ∈ sbl E D c) := by
  intro E
  induction E with
  | nil =>
    intro D _ _
    refine ⟨(show (0 : Nat) < 64 by decide), fun j j1 => ?_⟩
    show bitN 0 j = true ↔ (j : Int) ∈ []
    rw [bit_0]
    exact ⟨fun z => (by cases z), fun z => (by cases z)⟩
  | cons k ks ih =>
    intro D hp hk
    cases D with
    | nil =>
      refine ⟨(show (0 : Nat) < 64 by decide), fun j j1 => ?_⟩
      show bitN 0 j = true ↔ (j : Int) ∈ []
      rw [bit_0]
      exact ⟨fun z => (by cases z), fun z => (by cases z)⟩
    | cons a t =>
      rw [List.pairwise_cons] at hp
      obtain ⟨q1, q2⟩ := ih t hp.2 (fun j hj => hk j (List.mem_cons_of_mem _ hj))
      have k6 := hk k List.mem_cons_self
      show (if a = (c : Int) then 2 ^ k.toNat else 0) + shb ks t c < 64 ∧ ∀ j : Nat, j < 6 → (bitN ((if a = (c : Int) then 2 ^ k.toNat else 0) + shb ks t c) j = true ↔ (j : Int) ∈ (if a = (c : Int) then k :: sbl ks t c else sbl ks t c))
      by_cases g : a = (c : Int)
      · rw [if_pos g, if_pos g, Nat.add_comm]
        have off : bitN (shb ks t c) k.toNat = false := by
          cases hq : bitN (shb ks t c) k.toNat with
          | false => rfl
          | true =>
            have z := (q2 k.toNat (by omega)).mp hq
            have z2 := (sbl_sl ks t).subset z
            have := hp.1 _ z2
            omega
        refine ⟨bit_lt q1 (by omega) off, fun j j1 => ?_⟩
        rw [bit_add q1 (by omega) j1 off, Bool.or_eq_true, q2 j j1, beq_iff_eq, List.mem_cons]
        exact ⟨fun z => z.elim Or.inr (fun e => Or.inl (by omega)), fun z => z.elim (fun e => Or.inr (by omega)) Or.inl⟩
      · rw [if_neg g, if_neg g, Nat.zero_add]
        exact ⟨q1, q2⟩
/-- two growing rows with the same members are the same -/
theorem srt_ext : ∀ (l t : List Int), l.Pairwise (· < ·) → t.Pairwise (· < ·) → (∀ x, x ∈ l ↔ x ∈ t) → l = t := by
  intro l
  induction l with
  | nil =>
    intro t _ _ h
    cases t with
    | nil => rfl
    | cons b t => exact absurd ((h b).mpr List.mem_cons_self) (by intro z; cases z)
  | cons a l ih =>
    intro t hl ht h
    cases t with
    | nil => exact absurd ((h a).mp List.mem_cons_self) (by intro z; cases z)
    | cons b t =>
      rw [List.pairwise_cons] at hl ht
      have ab : a = b := by
        rcases List.mem_cons.mp ((h a).mp List.mem_cons_self) with e | e
        · exact e
        · rcases List.mem_cons.mp ((h b).mpr List.mem_cons_self) with e2 | e2
          · exact e2.symm
          · have := ht.1 a e
            have := hl.1 b e2
            omega
      rw [← ab] at h ht ⊢
      rw [ih t hl.2 ht.2 (fun x => ?_)]
      have q := h x
      rw [List.mem_cons, List.mem_cons] at q
      refine ⟨fun z => (q.mp (Or.inr z)).elim (fun e => ?_) id, fun z => (q.mpr (Or.inr z)).elim (fun e => ?_) id⟩
      · have := hl.1 x z
        omega
      · have := ht.1 x z
        omega
theorem bts_shb (n6 : n ≤ 6) (hp : E.Pairwise (· < ·)) (hk : ∀ k, k ∈ E → 0 ≤ k ∧ k < n) : bts (shb E D c) n 0 = sbl E D c := by
  have q := shb_bit (c := c) E D hp (fun k h => by have := hk k h; omega)
  refine srt_ext _ _ (bts_pw n 0) (List.Pairwise.sublist (sbl_sl E D) hp) (fun x => ?_)
  rw [bts_in]
  constructor
  · rintro ⟨j, j1, _, j3, j4⟩
    rw [j1]
    exact (q.2 j (by omega)).mp j4
  · intro z
    have z2 := hk x ((sbl_sl E D).subset z)
    obtain ⟨j, rfl⟩ : ∃ j : Nat, x = j := ⟨x.toNat, by omega⟩
    exact ⟨j, rfl, by omega, by omega, (q.2 j (by omega)).mpr z⟩
end GVr
