section VG
variable {M K N : qm} {a b c d k n m p r s t u v x y h i j g e g2 : Int}
noncomputable def CNN (N : qm) : Int := sI (fun i => b01 ((N 2328 i 0) ≠ 0)) 576
theorem CNN_b : CNN N ≤ 576 := sI_l (by decide) (fun _ _ _ => b01_b.2)
def NST (M K N : qm) : Prop := NUF K N ∧ ∀ c, 0 ≤ c → c < 576 → (N 2328 (swp c) 0) = 0 ∨ (1 ≤ (N 2328 (swp c) 0) ∧ (N 2328 (swp c) 0) ≤ CNN N ∧ RC (CEG M) (-1) (N 2328 (swp c) 0) c)
theorem nst_b (h : NST M K N) (c0 : 0 ≤ c) (c1 : c < 576) : (N 2328 (swp c) 0) = 0 ∨ (1 ≤ (N 2328 (swp c) 0) ∧ (N 2328 (swp c) 0) ≤ 576 ∧ RC (CEG M) (-1) (N 2328 (swp c) 0) c) := by
  have q := CNN_b (N := N)
  rcases h.2 c c0 c1 with e | ⟨e1, e2, e3⟩
  · exact Or.inl e
  · exact Or.inr ⟨e1, by omega, e3⟩
theorem swp_i (c0 : 0 ≤ c) (c1 : c < 576) (x0 : 0 ≤ x) (x1 : x < 576) (h : swp x = swp c) : x = c := by
  have a := swp_b c0 c1
  have b := swp_b x0 x1
  rw [h] at b
  omega
theorem nst_w (h : NST M K N) (c0 : 0 ≤ c) (c1 : c < 576) (v0 : 0 ≤ v) (v1 : v < 576) (he : CEG M v c) (hv : 1 ≤ (N 2328 (swp v) 0)) (hl : (N 2328 (swp c) 0) = 0 ∨ (N 2328 (swp v) 0) + 1 < (N 2328 (swp c) 0)) : NST M K (qw N 2328 (swp c) 0 ((N 2328 (swp v) 0) + 1)) ∧ ∀ x, 0 ≤ x → x < 576 → qw N 2328 (swp c) 0 ((N 2328 (swp v) 0) + 1) 2328 (swp x) 0 = if x = c then (N 2328 (swp v) 0) + 1 else (N 2328 (swp x) 0) := by
  have bv := h.2 v v0 v1
  have bc := h.2 c c0 c1
  have sc := swp_b c0 c1
  obtain ⟨U, hU⟩ : ∃ U, (N 2328 (swp v) 0) = U := ⟨_, rfl⟩
  rw [hU] at bv hl hv ⊢
  have U0 : U ≤ CNN N ∧ RC (CEG M) (-1) U v := by
    rcases bv with e | e
    · omega
    · exact e.2
  have ew : ∀ i, qw N 2328 (swp c) 0 (U + 1) 2328 i 0 = if i = swp c then U + 1 else (N 2328 i 0) := by
    intro i
    rw [qw_ap]
    by_cases g : i = swp c
    · rw [if_pos g, if_pos ⟨rfl, g, rfl⟩]
    · rw [if_neg g, if_neg (by omega)]
  have ex : ∀ x, 0 ≤ x → x < 576 → qw N 2328 (swp c) 0 (U + 1) 2328 (swp x) 0 = if x = c then U + 1 else (N 2328 (swp x) 0) := by
    intro x x0 x1
    rw [ew]
    by_cases g : x = c
    · rw [g, if_pos rfl, if_pos rfl]
    · rw [if_neg (fun z => g (swp_i c0 c1 x0 x1 z)), if_neg g]
  have cn : CNN (qw N 2328 (swp c) 0 (U + 1)) = CNN N + if (N 2328 (swp c) 0) = 0 then 1 else 0 := by
    unfold CNN
    have one := sI_one (f := fun _ => if (N 2328 (swp c) 0) = 0 then 1 else 0) (c := swp c) (n := 576) sc.1 sc.2.1
    (try dsimp only at one)
    refine Eq.trans ?_ (congrArg (fun z => sI (fun i => b01 ((N 2328 i 0) ≠ 0)) 576 + z) one)
    refine Eq.trans ?_ sI_add
    refine sI_c (fun i i0 i1 => ?_)
    (try dsimp only)
    rw [ew]
    by_cases g : i = swp c
    · rw [if_pos g, if_pos g, g, b01_t (by omega)]
      by_cases z : (N 2328 (swp c) 0) = 0
      · rw [if_pos z, b01_f (fun y => y z)]
        rfl
      · rw [if_neg z, b01_t z]
        rfl
    · rw [if_neg g, if_neg g, Int.add_zero]
  refine ⟨⟨fun b i j hb => (qw_a hb).trans (h.1 b i j hb), fun x x0 x1 => ?_⟩, ex⟩
  rw [ex x x0 x1, cn]
  by_cases g : x = c
  · rw [if_pos g, g]
    refine Or.inr ⟨by omega, ?_, (RC_s (by omega)).mpr ⟨v, U0.2, he⟩⟩
    by_cases z : (N 2328 (swp c) 0) = 0
    · rw [if_pos z]
      omega
    · rw [if_neg z]
      rcases bc with e | e
      · exact absurd e z
      · omega
  · rw [if_neg g]
    rcases h.2 x x0 x1 with e | e
    · exact Or.inl e
    · refine Or.inr ⟨e.1, ?_, e.2.2⟩
      split <;> omega
def NBF (M N : qm) (r : Int) : Prop := ∀ c k, 0 ≤ c → c < 576 → k ≤ r → DK (CEG M) (-1) c k → (N 2328 (swp c) 0) = k
/-- pairs that were gone through -/
def PRC (M : qm) (i d c e v : Int) : Prop := 0 ≤ c ∧ c < 576 ∧ 0 ≤ e ∧ e ≤ 3 ∧ (swp c < i ∨ (swp c = i ∧ e < d)) ∧ INS M c ∧ INS M v ∧ cb c e = v ∧ GOC M c e
def NPS (M K N : qm) (r g i d : Int) : Prop := NST M K N ∧ NBF M N r ∧ (∀ c e v, PRC M i d c e v → DK (CEG M) (-1) v r → (N 2328 (swp c) 0) ≠ 0 ∧ (N 2328 (swp c) 0) ≤ r + 1) ∧ ((g = 0 ∧ ∀ c e v, PRC M i d c e v → (N 2328 (swp v) 0) ≠ 0 → (N 2328 (swp c) 0) ≠ 0 ∧ (N 2328 (swp c) 0) ≤ (N 2328 (swp v) 0) + 1) ∨ (g = 1 ∧ r < 576))
/-- nothing is left -/
def NCL (M N : qm) : Prop := ∀ c e v, 0 ≤ e → e ≤ 3 → INS M c → INS M v → cb c e = v → GOC M c e → (N 2328 (swp v) 0) ≠ 0 → (N 2328 (swp c) 0) ≠ 0 ∧ (N 2328 (swp c) 0) ≤ (N 2328 (swp v) 0) + 1
theorem nps_k (h : NPS M K N r g i d) (hi : swp c = i) (hk : INS M c → INS M (cb c d) → GOC M c d → (N 2328 (swp (cb c d)) 0) ≠ 0 → (N 2328 (swp c) 0) ≠ 0 ∧ (N 2328 (swp c) 0) ≤ (N 2328 (swp (cb c d)) 0) + 1) (c0 : 0 ≤ c) (c1 : c < 576) (r1 : 1 ≤ r) : NPS M K N r g i (d + 1) := by
  obtain ⟨h1, h2, h3, h4⟩ := h
  have cs : ∀ x e v, PRC M i (d + 1) x e v → PRC M i d x e v ∨ (x = c ∧ e = d ∧ v = cb c d ∧ INS M c ∧ INS M (cb c d) ∧ GOC M c d) := by
    rintro x e v ⟨a1, a2, a3, a4, a5, a6, a7, a8, a9⟩
    by_cases z : swp x = i ∧ e = d
    · have xc := swp_i c0 c1 a1 a2 (z.1.trans hi.symm)
      rw [xc] at a6 a8 a9
      rw [z.2] at a8 a9
      exact Or.inr ⟨xc, z.2, a8.symm, a6, by rw [a8]; exact a7, a9⟩
    · exact Or.inl ⟨a1, a2, a3, a4, by omega, a6, a7, a8, a9⟩
  refine ⟨h1, h2, fun x e v hp hd => ?_, ?_⟩
  · rcases cs x e v hp with z | ⟨rfl, rfl, rfl, a, b, w⟩
    · exact h3 x e v z hd
    · have e1 := h2 _ r b.1 b.2.1 (Int.le_refl r) hd
      have := hk a b w (by omega)
      exact ⟨this.1, by omega⟩
  · rcases h4 with ⟨e, z⟩ | z
    · refine Or.inl ⟨e, fun x e v hp hn => ?_⟩
      rcases cs x e v hp with y | ⟨rfl, rfl, rfl, a, b, w⟩
      · exact z x e v y hn
      · exact hk a b w hn
    · exact Or.inr z
theorem nps_w (h : NPS M K N r g i d) (hi : swp c = i) (c0 : 0 ≤ c) (c1 : c < 576) (r1 : 1 ≤ r) (r2 : r ≤ 576) (d0 : 0 ≤ d) (d1 : d ≤ 3) (ic : INS M c) (iv : INS M (cb c d)) (go : GOC M c d) (hv : 1 ≤ (N 2328 (swp (cb c d)) 0)) (hl : (N 2328 (swp c) 0) = 0 ∨ (N 2328 (swp (cb c d)) 0) + 1 < (N 2328 (swp c) 0)) : NPS M K (qw N 2328 (swp c) 0 ((N 2328 (swp (cb c d)) 0) + 1)) r 1 i (d + 1) := by
  obtain ⟨v, hv'⟩ : ∃ v, cb c d = v := ⟨_, rfl⟩
  have bk := cbk_b c0 c1 d0 d1 (by have := iv.1; omega)
  have gb := goc_back (M := M) c0 c1 d0 d1 (by have := iv.1; omega)
  have he : CEG M (cb c d) c := ⟨ic, Or.inr ⟨iv, bck d, bk.2.2.1, bk.2.2.2.1, bk.2.2.2.2.1, gb.mpr go⟩⟩
  obtain ⟨sw, sv⟩ := nst_w h.1 c0 c1 iv.1 iv.2.1 he hv hl
  obtain ⟨h1, h2, h3, h4⟩ := h
  have vc : cb c d ≠ c := by
    intro z
    rcases hl with y | y
    · rw [z] at hv
      omega
    · rw [z] at y
      omega
  have bc := nst_b sw c0 c1
  have oc := nst_b h1 c0 c1
  have nv := sv c c0 c1
  rw [if_pos rfl] at nv
  have lt : r < 576 := by
    apply Classical.byContradiction
    intro z
    rw [nv] at bc
    rcases bc with e | e
    · omega
    · obtain ⟨k, k1, kd⟩ := DK_ex e.2.2
      have := h2 c k c0 c1 (by omega) kd
      have := ceg_0 kd c0
      omega
  have other : ∀ x, 0 ≤ x → x < 576 → x ≠ c → qw N 2328 (swp c) 0 ((N 2328 (swp (cb c d)) 0) + 1) 2328 (swp x) 0 = (N 2328 (swp x) 0) := fun x x0 x1 xc => by
    rw [sv x x0 x1, if_neg xc]
  have bf : NBF M (qw N 2328 (swp c) 0 ((N 2328 (swp (cb c d)) 0) + 1)) r := by
    intro x k x0 x1 kr kd
    by_cases g : x = c
    · rw [g] at kd ⊢
      have e1 := h2 c k c0 c1 kr kd
      have k1 := ceg_0 kd c0
      rw [nv] at bc
      rcases bc with e | e
      · omega
      · have := DK_le kd e.2.2
        omega
    · rw [other x x0 x1 g]
      exact h2 x k x0 x1 kr kd
  have mid : NPS M K (qw N 2328 (swp c) 0 ((N 2328 (swp (cb c d)) 0) + 1)) r 1 i d := by
    refine ⟨sw, bf, fun x e w hp hd => ?_, Or.inr ⟨rfl, lt⟩⟩
    have old := h3 x e w hp hd
    by_cases g : x = c
    · rw [g] at old ⊢
      rw [nv]
      exact ⟨by omega, by omega⟩
    · rw [other x hp.1 hp.2.1 g]
      exact old
  refine nps_k mid hi (fun _ _ _ _ => ?_) c0 c1 r1
  rw [nv, other _ iv.1 iv.2.1 vc]
  exact ⟨by omega, Int.le_refl _⟩
end VG
