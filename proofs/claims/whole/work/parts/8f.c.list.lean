/-! ===== the giving: rows as lists ===== -/
section GVc
variable {M K A W Z X : qm} {a b c i j k p q v w T : Int} {f g : Int → Int} {m n : Nat} {l t u x1 x2 pre : List Int}
theorem rl_len : ∀ (m : Nat) (i : Int), (rl f m i).length = m := by
  intro m
  induction m with
  | zero => exact fun _ => rfl
  | succ m ih => exact fun i => congrArg Nat.succ (ih (i + 1))
theorem rl_ext : ∀ (m : Nat) (j : Int), (∀ i, j ≤ i → i < j + m → f i = g i) → rl f m j = rl g m j := by
  intro m
  induction m with
  | zero => exact fun _ _ => rfl
  | succ m ih =>
    intro j h
    show f j :: rl f m (j + 1) = g j :: rl g m (j + 1)
    rw [h j (by omega) (by omega), ih (j + 1) (fun i i0 i1 => h i (by omega) (by omega))]
theorem rl_app : ∀ (m n : Nat) (i : Int), rl f (m + n) i = rl f m i ++ rl f n (i + m) := by
  intro m
  induction m with
  | zero =>
    intro n i
    rw [Nat.zero_add, show i + ((0 : Nat) : Int) = i by omega]
    rfl
  | succ m ih =>
    intro n i
    rw [show m + 1 + n = (m + n) + 1 by omega]
    show f i :: rl f (m + n) (i + 1) = f i :: (rl f m (i + 1) ++ rl f n (i + ((m + 1 : Nat) : Int)))
    rw [ih n (i + 1), show i + 1 + (m : Int) = i + ((m + 1 : Nat) : Int) by omega]
theorem rl_split (h : rl f m i = u ++ t) : m = u.length + t.length ∧ rl f u.length i = u ∧ rl f t.length (i + u.length) = t := by
  have e : m = u.length + t.length := by
    have := congrArg List.length h
    rw [rl_len, List.length_append] at this
    exact this
  rw [e, rl_app] at h
  have q := List.append_inj h (rl_len _ _)
  exact ⟨e, q.1, q.2⟩
theorem rl_cons (h : rl f m i = a :: t) : m = t.length + 1 ∧ f i = a ∧ rl f t.length (i + 1) = t := by
  have e : m = t.length + 1 := by
    have := congrArg List.length h
    rw [rl_len] at this
    exact this
  rw [e] at h
  have q : f i :: rl f t.length (i + 1) = a :: t := h
  injection q with q1 q2
  exact ⟨e, q1, q2⟩
theorem rl_mem : ∀ (m : Nat) (j i : Int), j ≤ i → i < j + m → f i ∈ rl f m j := by
  intro m
  induction m with
  | zero =>
    intro j i h1 h2
    omega
  | succ m ih =>
    intro j i h1 h2
    show f i ∈ f j :: rl f m (j + 1)
    by_cases e : i = j
    · rw [e]
      exact List.mem_cons_self
    · exact List.mem_cons_of_mem _ (ih (j + 1) i (by omega) (by omega))
theorem rl_pw {R : Int → Int → Prop} : ∀ (m : Nat) (i : Int), (rl f m i).Pairwise R → ∀ j k, i ≤ j → j < k → k < i + m → R (f j) (f k) := by
  intro m
  induction m with
  | zero =>
    intro i _ j k h1 h2 h3
    omega
  | succ m ih =>
    intro i h j k h1 h2 h3
    have h' : (f i :: rl f m (i + 1)).Pairwise R := h
    rw [List.pairwise_cons] at h'
    by_cases e : j = i
    · rw [e]
      exact h'.1 _ (rl_mem m (i + 1) k (by omega) (by omega))
    · exact ih (i + 1) h'.2 j k (by omega) h2 (by omega)
theorem rl_snoc (m : Nat) (i : Int) : rl f (m + 1) i = rl f m i ++ [f (i + m)] := by
  rw [rl_app]
  rfl
theorem rl_rev : ∀ (m : Nat) (j r : Int), (∀ i, j ≤ i → i < j + m → f i = g (r + j + m - 1 - i)) → rl f m j = (rl g m r).reverse := by
  intro m
  induction m with
  | zero => exact fun _ _ _ => rfl
  | succ m ih =>
    intro j r h
    rw [rl_snoc (f := g) m r, List.reverse_append]
    show f j :: rl f m (j + 1) = g (r + m) :: (rl g m r).reverse
    rw [h j (by omega) (by omega), show r + j + ((m + 1 : Nat) : Int) - 1 - j = r + m by omega, ih (j + 1) r (fun i i0 i1 => by rw [h i (by omega) (by omega), show r + j + ((m + 1 : Nat) : Int) - 1 - i = r + (j + 1) + (m : Int) - 1 - i by omega])]
/-- the next row, as a list -/
theorem next_list {s : Nat} (hs : K 2270 16 0 = s) (s6 : s ≤ 6) (hr : rl (fun i => K 2282 i 0) s 0 = pre ++ a :: (x2.reverse ++ b :: x1.reverse)) (hS : (x1 ++ a :: b :: x2).Pairwise (· < ·)) : ∃ Y, qf_X13_nextRow 20000 K = some (1, Y) ∧ rl (fun i => Y 2282 i 0) s 0 = pre ++ b :: (x1 ++ a :: x2) ∧ ∀ d x y, d ≠ 2282 → Y d x y = K d x y := by
  obtain ⟨f, hf⟩ : ∃ f : Int → Int, (fun i => K 2282 i 0) = f := ⟨_, rfl⟩
  have kf : ∀ i, K 2282 i 0 = f i := fun i => by rw [← hf]
  rw [hf] at hr
  obtain ⟨e1, r1, r2⟩ := rl_split hr
  rw [Int.zero_add] at r2
  obtain ⟨_, fa, r3⟩ := rl_cons r2
  obtain ⟨_, r4, r5⟩ := rl_split r3
  rw [List.length_reverse] at r4 r5
  obtain ⟨_, fb, r6⟩ := rl_cons r5
  rw [List.length_reverse] at r6
  obtain ⟨p, hp⟩ : ∃ p : Int, (pre.length : Int) = p := ⟨_, rfl⟩
  obtain ⟨d1, hd1⟩ : ∃ d : Nat, x1.length = d := ⟨_, rfl⟩
  obtain ⟨d2, hd2⟩ : ∃ d : Nat, x2.length = d := ⟨_, rfl⟩
  rw [hp] at fa r3 r4 fb r6 r5
  rw [hd2] at r4 fb r5 r6
  rw [hd1] at r6
  have es : (s : Int) = p + 1 + d2 + 1 + d1 := by
    simp only [List.length_append, List.length_cons, List.length_reverse] at e1
    omega
  obtain ⟨q, hq⟩ : ∃ q : Int, p + 1 + (d2 : Int) = q := ⟨_, rfl⟩
  rw [hq] at fb r5 r6
  rw [List.pairwise_append] at hS
  obtain ⟨s1, s2, s3⟩ := hS
  rw [List.pairwise_cons] at s2
  have ab : a < b := s2.1 b List.mem_cons_self
  have lt1 : ∀ x, x ∈ x1 → x < a := fun x hx => s3 x hx a List.mem_cons_self
  have pw : (x2.reverse ++ b :: x1.reverse).Pairwise (fun x y => y < x) := by
    have e : x2.reverse ++ b :: x1.reverse = (x1 ++ b :: x2).reverse := by
      rw [List.reverse_append, List.reverse_cons, List.append_assoc]
      rfl
    rw [e, List.pairwise_reverse, List.pairwise_append]
    exact ⟨s1, s2.2, fun x hx y hy => s3 x hx y (List.mem_cons_of_mem _ hy)⟩
  have et : (x2.reverse ++ b :: x1.reverse).length = d2 + 1 + d1 := by
    simp only [List.length_append, List.length_cons, List.length_reverse]
    omega
  rw [et] at r3
  have pc : ∀ j k, p + 1 ≤ j → j < k → k < s → f k < f j := fun j k j0 jk k1 => by
    rw [← r3] at pw
    exact rl_pw _ _ pw j k j0 jk (by omega)
  obtain ⟨Y, y1, y2, y3, y4⟩ := next_some (K := K) (s := s) (p := p) (q := q) hs (by omega) (by omega) (by omega) (by omega) (by
    rw [kf, kf, fa]
    by_cases z : q = p + 1
    · rw [← z, fb]
      exact ab
    · have := pc (p + 1) q (by omega) (by omega) (by omega)
      omega) (fun i i0 i1 => by
    rw [kf, kf]
    exact pc i (i + 1) (by omega) (by omega) i1) (by rw [kf, kf, fa, fb]; exact ab) (fun i i0 i1 => by
    rw [kf, kf, fa]
    have mm := rl_mem (f := f) d1 (q + 1) i (by omega) (by omega)
    rw [r6] at mm
    exact lt1 _ (List.mem_reverse.mp mm))
  refine ⟨Y, y1, ?_, fun d x y z => y4 d x y (by omega)⟩
  obtain ⟨G, hG⟩ : ∃ G : Int → Int, (fun i => if i = q then a else f i) = G := ⟨_, rfl⟩
  have gq : G q = a := by
    rw [← hG]
    exact if_pos rfl
  have gn : ∀ i, i ≠ q → G i = f i := fun i z => by
    rw [← hG]
    exact if_neg z
  have gl : rl G (d2 + (1 + d1)) (p + 1) = x2.reverse ++ a :: x1.reverse := by
    rw [rl_app, rl_app, hq, rl_ext d2 (p + 1) (fun i i0 i1 => gn i (by omega)), r4]
    rw [show q + ((1 : Nat) : Int) = q + 1 by omega, rl_ext d1 (q + 1) (fun i i0 i1 => gn i (by omega)), r6]
    show x2.reverse ++ ([G q] ++ x1.reverse) = _
    rw [gq]
    rfl
  have yr : rl (fun i => Y 2282 i 0) (d2 + (1 + d1)) (p + 1) = x1 ++ a :: x2 := by
    rw [rl_rev (g := G) (d2 + (1 + d1)) (p + 1) (p + 1) (fun i i0 i1 => by
      show Y 2282 i 0 = _
      rw [y3 i (by omega) (by omega), show p + 1 + (p + 1) + ((d2 + (1 + d1) : Nat) : Int) - 1 - i = s + p - i by omega, kf, kf, fa]
      by_cases z : (s : Int) + p - i = q
      · rw [if_pos z, z, gq]
      · rw [if_neg z, gn _ z]), gl, List.reverse_append, List.reverse_cons, List.reverse_reverse, List.reverse_reverse, List.append_assoc]
    rfl
  rw [show s = pre.length + (1 + (d2 + (1 + d1))) by omega, rl_app, rl_app, rl_ext (g := f) pre.length 0 (fun i i0 i1 => by
    show Y 2282 i 0 = _
    rw [y4 _ _ _ (by omega), kf]), r1, show (0 : Int) + (pre.length : Int) = p by omega, show p + ((1 : Nat) : Int) = p + 1 by omega, yr]
  show pre ++ ([Y 2282 p 0] ++ (x1 ++ a :: x2)) = _
  rw [y2, kf, fb]
  rfl
end GVc
