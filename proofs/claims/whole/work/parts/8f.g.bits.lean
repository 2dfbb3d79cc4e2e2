/-! ===== the giving: sets as bits; how many rows ===== -/
section GVg
variable {M K A W Z X Y : qm} {a b c d i j k p q v w T x y : Int} {m n s : Nat} {l t u pre x1 x2 : List Int} {B : Int × List Int}
def bitN (x i : Nat) : Bool := (x / 2 ^ i) % 2 == 1
theorem bit_all : ((List.range 64).all (fun x => (List.range 6).all (fun i => bA (bR (x : Int) (i : Int)) 1 == (if bitN x i then 1 else 0)))) = true := by decide +kernel
theorem bit_off : ((List.range 64).all (fun x => (List.range 6).all (fun i => bA (x : Int) (bX (bL 1 (i : Int)) (-1)) == ((if bitN x i then x - 2 ^ i else x : Nat) : Int)))) = true := by decide +kernel
theorem bit_on : ((List.range 64).all (fun x => (List.range 6).all (fun i => bO (x : Int) (bL 1 (i : Int)) == ((if bitN x i then x else x + 2 ^ i : Nat) : Int)))) = true := by decide +kernel
theorem all_2 {f : Nat → Nat → Bool} {A B : Nat} (h : ((List.range A).all (fun x => (List.range B).all (fun i => f x i))) = true) (hx : n < A) (hi : m < B) : f n m = true := by
  rw [List.all_eq_true] at h
  have h1 := h n (List.mem_range.mpr hx)
  rw [List.all_eq_true] at h1
  exact h1 m (List.mem_range.mpr hi)
theorem bit_e (hx : n < 64) (hi : m < 6) : bA (bR (n : Int) (m : Int)) 1 = (if bitN n m then 1 else 0) := by
  have q := all_2 bit_all hx hi
  exact beq_iff_eq.mp q
theorem bit_f (hx : n < 64) (hi : m < 6) : bA (n : Int) (bX (bL 1 (m : Int)) (-1)) = ((if bitN n m then n - 2 ^ m else n : Nat) : Int) := beq_iff_eq.mp (all_2 bit_off hx hi)
theorem bit_o (hx : n < 64) (hi : m < 6) : bO (n : Int) (bL 1 (m : Int)) = ((if bitN n m then n else n + 2 ^ m : Nat) : Int) := beq_iff_eq.mp (all_2 bit_on hx hi)
/-- the bits that are set, the least first -/
def bts (x : Nat) : Nat → Nat → List Int
  | 0, _ => []
  | m + 1, i => if bitN x i then (i : Int) :: bts x m (i + 1) else bts x m (i + 1)
/-- as many rows as that -/
def fct : Nat → Nat
  | 0 => 1
  | m + 1 => (m + 1) * fct m
theorem flat_le {g : Int → List (List Int)} {F : Nat} : ∀ (xs : List Int), (∀ x, x ∈ xs → (g x).length ≤ F) → (xs.flatMap g).length ≤ xs.length * F := by
  intro xs
  induction xs with
  | nil =>
    intro _
    exact Nat.zero_le _
  | cons a t ih =>
    intro h
    rw [List.flatMap_cons, List.length_append, List.length_cons, Nat.add_mul, Nat.one_mul]
    have h1 := h a List.mem_cons_self
    have h2 := ih (fun x hx => h x (List.mem_cons_of_mem _ hx))
    omega
theorem prm_len : ∀ (m : Nat) (l : List Int), l.length = m → (prm m l).length ≤ fct m := by
  intro m
  induction m with
  | zero =>
    intro l h
    exact Nat.le_refl _
  | succ m ih =>
    intro l h
    have q := flat_le (g := fun a => (prm m (l.erase a)).map (fun t => a :: t)) (F := fct m) l (fun x hx => by
      (try dsimp only)
      rw [List.length_map]
      refine ih _ ?_
      rw [List.length_erase_of_mem hx]
      omega)
    rw [h] at q
    exact q
theorem prm_720 (h : l.length = m) (m6 : m ≤ 6) : (prm m l).length ≤ 720 := by
  have q := prm_len m l h
  have f : fct m ≤ 720 := by
    have c : m = 0 ∨ m = 1 ∨ m = 2 ∨ m = 3 ∨ m = 4 ∨ m = 5 ∨ m = 6 := (by omega)
    rcases c with rfl | rfl | rfl | rfl | rfl | rfl | rfl <;> decide
  omega
/-- what is not better changes nothing -/
theorem fold_no {cost : List Int → Int} {ok : List Int → Prop} : ∀ (ls : List (List Int)), (∀ l, l ∈ ls → ok l → B.1 ≤ cost l) → ls.foldl (bs1 cost ok) B = B := by
  intro ls
  induction ls with
  | nil =>
    intro _
    rfl
  | cons a t ih =>
    intro h
    rw [List.foldl_cons]
    have e : bs1 cost ok B a = B := by
      unfold bs1
      refine if_neg (fun z => ?_)
      have := h a List.mem_cons_self z.1
      omega
    rw [e]
    exact ih (fun l hl => h l (List.mem_cons_of_mem _ hl))
end GVg
