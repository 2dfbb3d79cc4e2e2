/-! ===== cells by their steps from outside ===== -/
section VC
variable {M K N : qm} {a b c d k n m p r s t u v x y h i j hd e B : Int} {q w : Int → Int}
def INS (M : qm) (c : Int) : Prop := 0 ≤ c ∧ c < 576 ∧ oF M c ≠ -1
def CEG (M : qm) (u v : Int) : Prop := INS M v ∧ ((u = -1 ∧ ∃ d, 0 ≤ d ∧ d ≤ 3 ∧ ¬ INS M (cb v d) ∧ GOC M v d) ∨ (INS M u ∧ ∃ d, 0 ≤ d ∧ d ≤ 3 ∧ cb u d = v ∧ GOC M u d))
def BQI (M : qm) (w q : Int → Int) (n hd e : Int) : Prop := (∀ v, 0 ≤ v → v < 576 → w v = -1 ∨ (1 ≤ w v ∧ DK (CEG M) (-1) v (w v))) ∧ (0 ≤ n ∧ n ≤ 576 ∧ ∀ j, 0 ≤ j → j < n → 0 ≤ q j ∧ q j < 576 ∧ w (q j) ≠ -1 ∧ w (q j) ≤ j + 1) ∧ (∀ i j, 0 ≤ i → i < j → j < n → q i ≠ q j ∧ w (q i) ≤ w (q j)) ∧ (∀ v, 0 ≤ v → v < 576 → w v ≠ -1 → ∃ j, 0 ≤ j ∧ j < n ∧ q j = v) ∧ (∀ j, hd ≤ j → j < n → w (q j) ≤ w (q hd) + 1) ∧ (∀ j d, 0 ≤ j → j < n → 0 ≤ d → d ≤ 3 → (j < hd ∨ (j = hd ∧ d < e)) → INS M (cb (q j) d) → GOC M (q j) d → w (cb (q j) d) ≠ -1) ∧ ∀ v, CEG M (-1) v → w v ≠ -1
theorem ceg_0 (h : DK (CEG M) (-1) v k) (v0 : 0 ≤ v) : 1 ≤ k := by
  have k0 := h.1.1
  apply Classical.byContradiction
  intro z
  have e : k = 0 := by omega
  rw [e] at h
  have := RC_0.mp h.1
  omega
theorem ceg_1 (h : CEG M (-1) v) : DK (CEG M) (-1) v 1 := by
  have v0 := h.1.1
  refine ⟨(RC_s (k := 0) (by decide)).mpr ⟨-1, RC_0.mpr rfl, h⟩, fun j hj z => ?_⟩
  have j0 := z.1
  have e : j = 0 := by omega
  rw [e] at z
  have := RC_0.mp z
  omega
/-- all that are near have their number -/
theorem bqi_in (h : BQI M w q n hd e) (hb : ∀ j, 0 ≤ j → j < n → w (q j) < B → j < hd) : ∀ k : Nat, ∀ v, 0 ≤ v → v < 576 → DK (CEG M) (-1) v k → (k : Int) ≤ B → w v ≠ -1 := by
  obtain ⟨h1, h2, h3, h4, h5, h6, h7⟩ := h
  intro k
  induction k with
  | zero =>
    intro v v0 v1 hk _
    have := ceg_0 hk v0
    omega
  | succ k ih =>
    intro v v0 v1 hk kb
    rw [show ((k + 1 : Nat) : Int) = (k : Int) + 1 by omega] at hk kb
    obtain ⟨u, du, ed⟩ := DK_pre (by omega) hk
    rcases ed.2 with ⟨rfl, _⟩ | ⟨iu, d, d0, d1, ev, go⟩
    · exact h7 v ed
    · have lu := ih u iu.1 iu.2.1 du (by omega)
      obtain ⟨j, j0, j1, ej⟩ := h4 u iu.1 iu.2.1 lu
      have wu : w u = k := by
        rcases h1 u iu.1 iu.2.1 with z | z
        · exact absurd z lu
        · exact DK_one z.2 du
      have jh := hb j j0 j1 (by rw [ej, wu]; omega)
      have z := h6 j d j0 j1 d0 d1 (Or.inl jh) (by rw [ej, ev]; exact ed.1) (by rw [ej]; exact go)
      rw [ej, ev] at z
      exact z
theorem bqi_k (h : BQI M w q n hd e) (hk : INS M (cb (q hd) e) → GOC M (q hd) e → w (cb (q hd) e) ≠ -1) : BQI M w q n hd (e + 1) := by
  obtain ⟨h1, h2, h3, h4, h5, h6, h7⟩ := h
  refine ⟨h1, h2, h3, h4, h5, fun j d j0 j1 d0 d1 hj hi hg => ?_, h7⟩
  by_cases g : j = hd ∧ d = e
  · rw [g.1, g.2] at hi hg ⊢
    exact hk hi hg
  · exact h6 j d j0 j1 d0 d1 (by omega) hi hg
theorem bqi_h (h : BQI M w q n hd 4) (h0 : 0 ≤ hd) : BQI M w q n (hd + 1) 0 := by
  obtain ⟨h1, h2, h3, h4, h5, h6, h7⟩ := h
  refine ⟨h1, h2, h3, h4, fun j j0 j1 => ?_, fun j d j0 j1 d0 d1 hj hi hg => h6 j d j0 j1 d0 d1 (by omega) hi hg, h7⟩
  have a := h5 j (by omega) j1
  have b := (h3 hd (hd + 1) h0 (by omega) (by omega)).2
  omega
theorem bqi_s (h : BQI M w q n hd e) (h0 : 0 ≤ hd) (hn : hd < n) (e0 : 0 ≤ e) (e1 : e ≤ 3) (iv : INS M (cb (q hd) e)) (go : GOC M (q hd) e) (wv : w (cb (q hd) e) = -1) : n < 576 ∧ BQI M (fun x => if x = cb (q hd) e then w (q hd) + 1 else w x) (fun j => if j = n then cb (q hd) e else q j) (n + 1) hd (e + 1) := by
  have hin := bqi_in h (B := w (q hd)) (fun j j0 j1 z => by
    apply Classical.byContradiction
    intro g
    by_cases ej : j = hd
    · rw [ej] at z
      omega
    · have := (h.2.2.1 hd j h0 (by omega) j1).2
      omega)
  obtain ⟨h1, h2, h3, h4, h5, h6, h7⟩ := h
  obtain ⟨v, hv⟩ : ∃ v, cb (q hd) e = v := ⟨_, rfl⟩
  rw [hv] at iv wv ⊢
  have qh := h2.2.2 hd h0 hn
  have wu : 1 ≤ w (q hd) ∧ DK (CEG M) (-1) (q hd) (w (q hd)) := by
    rcases h1 _ qh.1 qh.2.1 with z | z
    · exact absurd z qh.2.2.1
    · exact z
  have iu : INS M (q hd) := by
    have k1 := wu.1
    have dd := wu.2
    rw [show w (q hd) = w (q hd) - 1 + 1 by omega] at dd
    obtain ⟨_, _, ed⟩ := DK_pre (by omega) dd
    exact ed.1
  have ed : CEG M (q hd) v := ⟨iv, Or.inr ⟨iu, e, e0, e1, hv, go⟩⟩
  have n5 : n < 576 := by
    have z := inj_le (N := 576) n.toNat (fun x => w x ≠ -1) q (fun j a b => by
        have t := h2.2.2 j a (by omega)
        exact ⟨t.1, t.2.1, t.2.2.1⟩) (fun i j a b c z => by
      exact (h3 i j a b (by omega)).1 z)
    have y := sI_le (f := fun x => b01 (w x ≠ -1)) (g := fun x => 1 - if x = v then 1 else 0) (n := 576) (fun x x0 x1 => by
      (try dsimp only)
      by_cases g : x = v
      · rw [if_pos g, g, b01_f (fun y => y wv)]
        exact Int.le_refl _
      · rw [if_neg g]
        have := (b01_b (p := w x ≠ -1)).2
        omega)
    have one := sI_one (f := fun _ => (1 : Int)) (c := v) (n := 576) iv.1 iv.2.1
    have ad := sI_add (f := fun x => 1 - if x = v then (1 : Int) else 0) (g := fun x => if x = v then (1 : Int) else 0) (n := 576)
    have cs : sI (fun x => (1 - if x = v then (1 : Int) else 0) + if x = v then (1 : Int) else 0) 576 = 1 * 576 := by
      refine Eq.trans (sI_c (g := fun _ => (1 : Int)) (fun x _ _ => by (try dsimp only); omega)) ?_
      rw [sI_const]
      rfl
    (try dsimp only at z y one ad cs)
    omega
  refine ⟨n5, fun x x0 x1 => ?_, ⟨by omega, by omega, fun j j0 j1 => ?_⟩, fun i j i0 ij jn => ?_, fun x x0 x1 hx => ?_, fun j j0 j1 => ?_, fun j d j0 j1 d0 d1 hj hi hg => ?_, fun x hx => ?_⟩
  · (try dsimp only)
    by_cases g : x = v
    · rw [if_pos g, g]
      refine Or.inr ⟨by omega, DK_nx wu.2 ed (fun j hj z => ?_)⟩
      have j0 := z.1.1
      have := hin j.toNat v iv.1 iv.2.1 (by rw [show ((j.toNat : Nat) : Int) = j by omega]; exact z) (by omega)
      exact this wv
    · rw [if_neg g]
      exact h1 x x0 x1
  · (try dsimp only)
    by_cases g : j = n
    · rw [if_pos g, if_pos rfl]
      exact ⟨iv.1, iv.2.1, by omega, by omega⟩
    · rw [if_neg g]
      have z := h2.2.2 j j0 (by omega)
      rw [if_neg (fun y => z.2.2.1 (by rw [y]; exact wv))]
      exact z
  · (try dsimp only)
    have zi := h2.2.2 i i0 (by omega)
    have ni : q i ≠ v := fun y => zi.2.2.1 (by rw [y]; exact wv)
    rw [if_neg (by omega : ¬ i = n), if_neg ni]
    by_cases g : j = n
    · rw [if_pos g, if_pos rfl]
      refine ⟨ni, ?_⟩
      by_cases gh : hd ≤ i
      · exact h5 i gh (by omega)
      · have := (h3 i hd i0 (by omega) hn).2
        omega
    · rw [if_neg g]
      have zj := h2.2.2 j (by omega) (by omega)
      rw [if_neg (fun y => zj.2.2.1 (by rw [y]; exact wv))]
      exact h3 i j i0 ij (by omega)
  · (try dsimp only at hx ⊢)
    by_cases g : x = v
    · exact ⟨n, by omega, by omega, by rw [if_pos rfl]; exact g.symm⟩
    · rw [if_neg g] at hx
      obtain ⟨j, j0, j1, ej⟩ := h4 x x0 x1 hx
      exact ⟨j, j0, by omega, by rw [if_neg (by omega)]; exact ej⟩
  · (try dsimp only)
    have nh : q hd ≠ v := fun y => qh.2.2.1 (by rw [y]; exact wv)
    rw [if_neg (by omega : ¬ hd = n), if_neg nh]
    by_cases g : j = n
    · rw [if_pos g, if_pos rfl]
      exact Int.le_refl _
    · rw [if_neg g]
      have zj := h2.2.2 j (by omega) (by omega)
      rw [if_neg (fun y => zj.2.2.1 (by rw [y]; exact wv))]
      exact h5 j j0 (by omega)
  · (try dsimp only at hi hg ⊢)
    by_cases g : j = n
    · omega
    · rw [if_neg g] at hi hg ⊢
      by_cases gv : cb (q j) d = v
      · rw [if_pos gv]
        omega
      · rw [if_neg gv]
        by_cases g2 : j = hd ∧ d = e
        · rw [g2.1, g2.2] at gv
          exact absurd hv gv
        · exact h6 j d j0 (by omega) d0 d1 (by omega) hi hg
  · (try dsimp only)
    by_cases g : x = v
    · rw [if_pos g]
      omega
    · rw [if_neg g]
      exact h7 x hx
/-- at the end -/
theorem bqi_e (h : BQI M w q n n e) (v0 : 0 ≤ v) (v1 : v < 576) : (w v = -1 ∧ ∀ k, ¬ DK (CEG M) (-1) v k) ∨ (1 ≤ w v ∧ DK (CEG M) (-1) v (w v)) := by
  rcases h.1 v v0 v1 with z | z
  · refine Or.inl ⟨z, fun k hk => ?_⟩
    have k0 := hk.1.1
    exact bqi_in h (B := k) (fun j _ j1 _ => j1) k.toNat v v0 v1 (by rw [show ((k.toNat : Nat) : Int) = k by omega]; exact hk) (by omega) z
  · exact Or.inr z
end VC
