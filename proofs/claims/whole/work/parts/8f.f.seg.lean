/-! ===== the giving: the loop over all rows ===== -/
section GVf
variable {M K A W Z X Y : qm} {a b c d i j k p q v w T : Int} {m n s : Nat} {l t u pre x1 x2 : List Int} {B : Int × List Int}
theorem seg_g (h : CAR K c) (d0 : 0 ≤ d) (d1 : d < 256) (hs : K 2270 16 0 = s) (s6 : s ≤ 6) : ∀ (m : Nat) (l pre : List Int) (Z : qm) (B : Int × List Int), l.length = m → l.Pairwise (· < ·) → (∀ x, x ∈ pre ++ l → CLL K x) → GS K Z d s (pre ++ l) B → ∃ (k : Nat) (Z' : qm), (∀ n, gD c d (n + k) Z = gD c d n Z') ∧ k + 1 = (prm m l).length ∧ GS K Z' d s (pre ++ l.reverse) (((prm m l).tail.map (fun t => pre ++ t)).foldl (rok K c) B) := by
  intro m
  induction m with
  | zero =>
    intro l pre Z B lm hS hl g
    cases l with
    | nil => exact ⟨0, Z, fun n => rfl, rfl, g⟩
    | cons a t => cases lm
  | succ m ih =>
    intro l pre Z B lm hS hl g
    have inner : ∀ (x2 x1 : List Int) (a : Int) (Z : qm) (B : Int × List Int), l = x1 ++ a :: x2 → GS K Z d s (pre ++ a :: (x1 ++ x2)) B → ∃ (k : Nat) (Z' : qm), (∀ n, gD c d (n + k) Z = gD c d n Z') ∧ k + 1 = ((a :: x2).flatMap (fun x => (prm m (l.erase x)).map (fun t => x :: t))).length ∧ GS K Z' d s (pre ++ l.reverse) ((((a :: x2).flatMap (fun x => (prm m (l.erase x)).map (fun t => x :: t))).tail.map (fun t => pre ++ t)).foldl (rok K c) B) := by
      intro x2
      induction x2 with
      | nil =>
        intro x1 a Z B el g
        have q := srt_er (el ▸ hS)
        rw [← el, List.append_nil] at q
        rw [List.append_nil] at g
        have lx : x1.length = m := by
          have := congrArg List.length el
          simp only [List.length_append, List.length_cons, List.length_nil] at this
          omega
        obtain ⟨k, Z', e1, e2, e3⟩ := ih x1 (pre ++ [a]) Z B lx q.2 (fun x hx => hl x (by
          rw [el]
          simp only [List.mem_append, List.mem_cons, List.not_mem_nil, or_false] at hx ⊢
          rcases hx with (hx | hx) | hx
          · exact Or.inl hx
          · exact Or.inr (Or.inr hx)
          · exact Or.inr (Or.inl hx))) (by rw [List.append_assoc]; exact g)
        obtain ⟨r, hr⟩ := prm_head m x1 lx
        rw [List.flatMap_cons, q.1, List.flatMap_nil, List.append_nil]
        refine ⟨k, Z', e1, by rw [List.length_map]; exact e2, ?_⟩
        rw [hr] at e3 ⊢
        have e : l.reverse = a :: x1.reverse := by
          rw [el, List.reverse_append]
          rfl
        rw [e]
        simp only [List.map_cons, List.tail_cons, List.map_map] at e3 ⊢
        rw [List.append_assoc] at e3
        have ef : (fun t => pre ++ [a] ++ t) = ((fun t => pre ++ t) ∘ fun t => a :: t) := funext (fun t => by
          show pre ++ [a] ++ t = pre ++ a :: t
          rw [List.append_assoc]
          rfl)
        rw [← ef]
        exact e3
      | cons b x3 ih2 =>
        intro x1 a Z B el g
        have hS' : (x1 ++ a :: b :: x3).Pairwise (· < ·) := el ▸ hS
        have q := srt_er hS'
        rw [← el] at q
        have lx : (x1 ++ b :: x3).length = m := by
          have := congrArg List.length el
          simp only [List.length_append, List.length_cons] at this ⊢
          omega
        obtain ⟨k1, Z1, e1, e2, e3⟩ := ih (x1 ++ b :: x3) (pre ++ [a]) Z B lx q.2 (fun x hx => hl x (by
          rw [el]
          simp only [List.mem_append, List.mem_cons, List.not_mem_nil, or_false] at hx ⊢
          rcases hx with (hx | hx) | hx | hx | hx
          · exact Or.inl hx
          · exact Or.inr (Or.inr (Or.inl hx))
          · exact Or.inr (Or.inl hx)
          · exact Or.inr (Or.inr (Or.inr (Or.inl hx)))
          · exact Or.inr (Or.inr (Or.inr (Or.inr hx))))) (by rw [List.append_assoc]; exact g)
        have er : pre ++ [a] ++ (x1 ++ b :: x3).reverse = pre ++ a :: (x3.reverse ++ b :: x1.reverse) := by
          rw [List.reverse_append, List.reverse_cons, List.append_assoc, List.append_assoc]
          rfl
        rw [er] at e3
        obtain ⟨Y, f1, f2⟩ := step_g h d0 d1 hs s6 e3 hS' (fun x hx => hl x (by
          rw [el]
          simp only [List.mem_append, List.mem_cons] at hx ⊢
          rcases hx with hx | hx | hx | hx | hx
          · exact Or.inl hx
          · exact Or.inr (Or.inr (Or.inr (Or.inl hx)))
          · exact Or.inr (Or.inl hx)
          · exact Or.inr (Or.inr (Or.inl hx))
          · exact Or.inr (Or.inr (Or.inr (Or.inr hx)))))
        have el2 : l = (x1 ++ [a]) ++ b :: x3 := by
          rw [el, List.append_assoc]
          rfl
        have e4 : x1 ++ a :: x3 = (x1 ++ [a]) ++ x3 := by
          rw [List.append_assoc]
          rfl
        have f2' := f2
        rw [e4] at f2'
        obtain ⟨k2, Z2, h1, h2, h3⟩ := ih2 (x1 ++ [a]) b Y _ el2 f2'
        have q2 := srt_er (el2 ▸ hS)
        rw [← el2] at q2
        obtain ⟨r, hr⟩ := prm_head m (x1 ++ b :: x3) lx
        obtain ⟨r2, hr2⟩ := prm_head m ((x1 ++ [a]) ++ x3) (by
          simp only [List.length_append, List.length_cons, List.length_nil] at lx ⊢
          omega)
        refine ⟨k2 + 1 + k1, Z2, fun n => ?_, ?_, ?_⟩
        · rw [show n + (k2 + 1 + k1) = (n + k2 + 1) + k1 by omega, e1, f1, h1]
        · rw [List.flatMap_cons, List.length_append, ← h2, q.1, List.length_map, ← e2]
          omega
        · rw [List.flatMap_cons (x := a), q.1, hr]
          rw [hr] at e3 f2 f2' h3
          rw [List.flatMap_cons (x := b), q2.1, hr2] at h3 ⊢
          simp only [List.map_cons, List.tail_cons, List.map_map, List.cons_append, List.map_append, List.foldl_append, List.foldl_cons] at h3 ⊢
          have ef : (fun t => pre ++ [a] ++ t) = ((fun t => pre ++ t) ∘ fun t => a :: t) := funext (fun t => by
            show pre ++ [a] ++ t = pre ++ a :: t
            rw [List.append_assoc]
            rfl)
          rw [← ef]
          exact h3
    cases l with
    | nil => cases lm
    | cons a t => exact inner t [] a Z B rfl g
/-- all rows: the first one of the least cost -/
theorem rows_K (h : CAR K c) (d0 : 0 ≤ d) (d1 : d < 256) (hs : K 2270 16 0 = s) (s6 : s ≤ 6) (hr : rl (fun i => K 2282 i 0) s 0 = l) (hS : l.Pairwise (· < ·)) (hl : ∀ x, x ∈ l → CLL K x) (hb : BSD K d s B) (hk : (prm s l).length ≤ 720) : ∃ Y, qf_X13_findRow_L97 20000 20000 c d 1 K = some (.inr ((), Y)) ∧ BSD Y d s ((prm s l).foldl (rok K c) B) ∧ ∀ e x y, ¬ (e = 2284 ∧ 6 * d ≤ x ∧ x < 6 * d + 6) → ¬ (e = 2283 ∧ x = d) → e ≠ 2282 → Y e x y = K e x y := by
  have lm : l.length = s := by
    rw [← hr]
    exact rl_len _ _
  obtain ⟨Y, e1, g1⟩ := look_g h d0 d1 hs s6 hl (⟨fun _ _ _ _ _ _ => rfl, hr, hb⟩ : GS K K d s l B)
  obtain ⟨k, Z, e2, e3, g2⟩ := seg_g h d0 d1 hs s6 s l [] Y _ lm hS hl g1
  obtain ⟨r, hr2⟩ := prm_head s l lm
  have zs : Z 2270 16 0 = s := (g2.1 _ _ _ (by omega) (by omega) (by omega)).trans hs
  have pw : (l.reverse).Pairwise (fun x y => y < x) := List.pairwise_reverse.mpr hS
  have nn := next_none (K := Z) zs (by omega) (by omega) (fun i i0 i1 => by
    have g3 := g2.2.1
    rw [List.nil_append] at g3
    rw [← g3] at pw
    exact rl_pw (f := fun i => Z 2282 i 0) s 0 pw i (i + 1) i0 (by omega) (by omega))
  refine ⟨Z, ?_, ?_, g2.1⟩
  · rw [show (20000 : Nat) = 19999 + 1 from rfl, e1, show (19999 : Nat) = (19998 - k + 1) + k by omega, e2]
    unfold gD
    rw [nn]
    exact l97_0
  · have q := g2.2.2
    rw [hr2] at q ⊢
    have em : (fun t : List Int => [] ++ t) = id := funext (fun t => rfl)
    rw [em, List.map_id] at q
    exact q
end GVf
