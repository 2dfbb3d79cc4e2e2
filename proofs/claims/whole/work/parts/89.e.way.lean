section WZ
variable {M K N : qm} {a b c d k n r s t u v x y i j S g l h to : Int} {E : Int → Int → Prop} {dn dn' : Int → Int → Prop}
noncomputable def dlv (M : qm) (l : Int) : Int := 1 - b01 (lev M l)
def uxx (M : qm) (l t : Int) : Int := if (M 8 l 1) = (M 8 l 3) then (M 8 l 0) + t else (M 8 l 0)
def uyy (M : qm) (l t : Int) : Int := if (M 8 l 1) = (M 8 l 3) then (M 8 l 1) else (M 8 l 1) + t
def dll (M : qm) (l : Int) : Int := if (M 8 l 1) = (M 8 l 3) then 0 else 1
def lef (M : qm) (l t : Int) : Int := lfo (oF M) (-1) (uxx M l t) (uyy M l t) (dll M l)
def rit (M : qm) (l t : Int) : Int := lfo (oF M) (-1) (uxx M l t) (uyy M l t) (rgt (dll M l))
def EDG (M : qm) (u v : Int) : Prop := ∃ l d t, 0 ≤ l ∧ l < (M 7 0 0) ∧ 0 ≤ d ∧ d < (M 29 l 0) ∧ (M 30 l (3 * d)) ≤ t ∧ t < (M 30 l (3 * d + 1)) ∧ ((lef M l t = u ∧ rit M l t = v) ∨ (lef M l t = v ∧ rit M l t = u))
def OWR (M : qm) (S : Int) : Prop := ∀ v, 0 ≤ v → v < 576 → -1 ≤ oF M v ∧ oF M v < S
theorem lr_b (h : OWR M S) (S0 : 0 ≤ S) : (-1 ≤ lef M l t ∧ lef M l t < S) ∧ -1 ≤ rit M l t ∧ rit M l t < S := by
  unfold lef rit lfo ext
  refine ⟨?_, ?_⟩
  · split
    · exact h _ (by omega) (by omega)
    · omega
  · split
    · exact h _ (by omega) (by omega)
    · omega
theorem room_e (h_lines : R_lines M K) (h_ends : R_ends M K) (l0 : 0 ≤ l) (l1 : l < (M 7 0 0)) (t0 : 0 ≤ t) (t1 : t < (M 8 l 2) - (M 8 l 0) + (M 8 l 3) - (M 8 l 1)) (hN : ofr 725 M N) : qf_X2_roomLeft 20000 l t N = some (lef M l t) ∧ qf_X2_roomRight 20000 l t N = some (rit M l t) ∧ 0 ≤ uxx M l t ∧ uxx M l t ≤ 24 ∧ 0 ≤ uyy M l t ∧ uyy M l t ≤ 24 := by
  have s_lines := h_lines
  unfold R_lines at s_lines
  have q := ends_b h_ends l0 l1
  have c20 : 0 ≤ l ∧ l < 20 := ⟨l0, by omega⟩
  have e : ∀ j, N 8 l j = (M 8 l j) := fun j => hN _ _ _ (by decide)
  have oN : oF N = oF M := by
    funext v
    exact hN _ v 0 (by decide)
  have sp := fun x y (x0 : -1 ≤ x) (x1 : x ≤ 24) (y0 : -1 ≤ y) (y1 : y ≤ 24) => spaceAt_e (C := N) (x := x) (y := y) x0 x1 y0 y1
  rw [oN] at sp
  by_cases g : (M 8 l 1) = (M 8 l 3)
  · have hx : qf_X2_unitX 20000 l t N = some ((M 8 l 0) + t) := by
      unfold qf_X2_unitX qf_X8_isLevel
      rw [if_pos c20, if_pos c20, if_pos c20, e, e, e, if_pos g]
      refine qW_e (qW_bind (qW_some ?_))
      rw [if_neg (by decide), w32_id (by omega) (by omega)]
      exact qW_some rfl
    have hy : qf_X2_unitY 20000 l t N = some (M 8 l 1) := by
      unfold qf_X2_unitY qf_X8_isLevel
      rw [if_pos c20, if_pos c20, if_pos c20, e, e, if_pos g]
      refine qW_e (qW_bind (qW_some ?_))
      rw [if_neg (by decide), w32_id (by omega) (by omega), Int.add_zero]
      exact qW_some rfl
    have hl : qf_X8_isLevel 20000 l N = some 1 := by
      unfold qf_X8_isLevel
      rw [if_pos c20, if_pos c20, e, e, if_pos g]
    have ux : uxx M l t = (M 8 l 0) + t := if_pos g
    have uy : uyy M l t = (M 8 l 1) := if_pos g
    have dl : dll M l = 0 := if_pos g
    refine ⟨?_, ?_, by omega, by omega, by omega, by omega⟩
    · unfold qf_X2_roomLeft lef
      rw [ux, uy, dl]
      refine qW_e (qW_eq hx (qW_eq hy (qW_eq hl ?_)))
      rw [if_neg (by decide)]
      exact qW_eq (sp _ _ (by omega) (by omega) (by omega) (by omega)) (qW_some rfl)
    · unfold qf_X2_roomRight rit
      rw [ux, uy, dl]
      refine qW_e (qW_eq hx (qW_eq hy (qW_eq hl ?_)))
      rw [if_neg (by decide), w32_id (x := (M 8 l 1) - 1) (by omega) (by omega)]
      exact qW_eq (sp _ _ (by omega) (by omega) (by omega) (by omega)) (qW_some rfl)
  · have hx : qf_X2_unitX 20000 l t N = some (M 8 l 0) := by
      unfold qf_X2_unitX qf_X8_isLevel
      rw [if_pos c20, if_pos c20, if_pos c20, e, e, e, if_neg g]
      refine qW_e (qW_bind (qW_some ?_))
      rw [if_pos rfl, w32_id (by omega) (by omega), Int.add_zero]
      exact qW_some rfl
    have hy : qf_X2_unitY 20000 l t N = some ((M 8 l 1) + t) := by
      unfold qf_X2_unitY qf_X8_isLevel
      rw [if_pos c20, if_pos c20, if_pos c20, e, e, if_neg g]
      refine qW_e (qW_bind (qW_some ?_))
      rw [if_pos rfl, w32_id (by omega) (by omega)]
      exact qW_some rfl
    have hl : qf_X8_isLevel 20000 l N = some 0 := by
      unfold qf_X8_isLevel
      rw [if_pos c20, if_pos c20, e, e, if_neg g]
    have ux : uxx M l t = (M 8 l 0) := if_neg g
    have uy : uyy M l t = (M 8 l 1) + t := if_neg g
    have dl : dll M l = 1 := if_neg g
    refine ⟨?_, ?_, by omega, by omega, by omega, by omega⟩
    · unfold qf_X2_roomLeft lef
      rw [ux, uy, dl]
      refine qW_e (qW_eq hx (qW_eq hy (qW_eq hl ?_)))
      rw [if_pos rfl, w32_id (x := (M 8 l 0) - 1) (by omega) (by omega)]
      exact qW_eq (sp _ _ (by omega) (by omega) (by omega) (by omega)) (qW_some rfl)
    · unfold qf_X2_roomRight rit
      rw [ux, uy, dl]
      refine qW_e (qW_eq hx (qW_eq hy (qW_eq hl ?_)))
      rw [if_pos rfl]
      exact qW_eq (sp _ _ (by omega) (by omega) (by omega) (by omega)) (qW_some rfl)
/-- a door is gone through, unit by unit -/
theorem go_r (h_lines : R_lines M K) (h_ends : R_ends M K) (h_doorn : R_doorn M K) (h_doors : R_doors M K) (hO : OWR M S) (S0 : 0 ≤ S) (S1 : S ≤ 100) (r0 : 0 ≤ r) (r1 : r ≤ S) (l0 : 0 ≤ l) (l1 : l < (M 7 0 0)) (d0 : 0 ≤ d) (d1 : d < (M 29 l 0)) (h : BFI (EDG M) s S M N r g dn) : qW (qf_X2_goThrough 20000 l d r N) (fun o => (o.1 = 0 ∨ o.1 = 1) ∧ BFI (EDG M) s S M o.2 r (if o.1 = 0 then g else 1) (fun u v => dn u v ∨ ∃ t, (M 30 l (3 * d)) ≤ t ∧ t < (M 30 l (3 * d + 1)) ∧ ((lef M l t = u ∧ rit M l t = v) ∨ (lef M l t = v ∧ rit M l t = u)))) := by
  have s_lines := h_lines
  unfold R_lines at s_lines
  have dn6 := h_doorn l l0 (by omega)
  have dp := h_doors l d l0 (by omega) d0 d1
  have qe := h_ends l l0 l1
  have eb := ends_b h_ends l0 l1
  have len : (K 2161 l 0) = (M 8 l 2) - (M 8 l 0) + (M 8 l 3) - (M 8 l 1) := by
    rcases qe.1 with z | z
    · rw [z, if_pos rfl, if_pos rfl] at qe
      omega
    · rw [z, if_neg (by decide), if_neg (by decide)] at qe
      omega
  have c20 : 0 ≤ l ∧ l < 20 := ⟨l0, by omega⟩
  obtain ⟨f, hf⟩ : ∃ f, (M 30 l (3 * d)) = f := ⟨_, rfl⟩
  obtain ⟨e, hee⟩ : ∃ e, (M 30 l (3 * d + 1)) = e := ⟨_, rfl⟩
  rw [hf, hee] at dp
  have eT : qf_X8_toOf 20000 l d N = some e := by
    unfold qf_X8_toOf
    rw [if_pos c20, w32_id (x := 3 * d) (by omega) (by omega), w32_id (x := 3 * d + 1) (by omega) (by omega), if_pos (by omega), h.1 _ _ _ (by decide), hee]
  have eF : qf_X8_fromOf 20000 l d N = some f := by
    unfold qf_X8_fromOf
    rw [if_pos c20, w32_id (x := 3 * d) (by omega) (by omega), if_pos (by omega), h.1 _ _ _ (by decide), hf]
  rw [hf, hee]
  unfold qf_X2_goThrough
  refine qW_eq eT (qW_eq eF ?_)
  refine qW_call (Q := fun o => ∃ g' N', o = .inr (g', N') ∧ (g' = 0 ∨ g' = 1) ∧ BFI (EDG M) s S M N' r (if g' = 0 then g else 1) (fun u v => dn u v ∨ ∃ t, f ≤ t ∧ t < e ∧ ((lef M l t = u ∧ rit M l t = v) ∨ (lef M l t = v ∧ rit M l t = u)))) ?_ ?_
  · unfold qf_X2_goThrough_L25
    refine qW_for (e - f) (fun i u => ∃ g' N', u = (l, r, g', e, f + i, N') ∧ (g' = 0 ∨ g' = 1) ∧ BFI (EDG M) s S M N' r (if g' = 0 then g else 1) (fun u v => dn u v ∨ ∃ t, f ≤ t ∧ t < f + i ∧ ((lef M l t = u ∧ rit M l t = v) ∨ (lef M l t = v ∧ rit M l t = u)))) ?_ ?_ ⟨0, N, by rw [Int.add_zero], Or.inl rfl, by rw [if_pos rfl]; exact BFI_m h (fun u v _ _ _ _ z => by
      rcases z with z | ⟨t, a, b, _⟩
      · exact Or.inl z
      · omega)⟩ (by omega) (by omega)
    · rintro i _ i0 i1 ⟨g', N', rfl, hg, hN⟩
      have re := room_e h_lines h_ends l0 l1 (t := f + i) (by omega) (by omega) hN.1
      obtain ⟨a, ha⟩ : ∃ a, lef M l (f + i) = a := ⟨_, rfl⟩
      obtain ⟨b, hb⟩ : ∃ b, rit M l (f + i) = b := ⟨_, rfl⟩
      have lb := lr_b (l := l) (t := f + i) hO S0
      rw [ha, hb] at re lb
      have ed1 : EDG M a b := ⟨l, d, f + i, l0, l1, d0, d1, by omega, by omega, Or.inl ⟨ha, hb⟩⟩
      have ed2 : EDG M b a := ⟨l, d, f + i, l0, l1, d0, d1, by omega, by omega, Or.inr ⟨ha, hb⟩⟩
      have c1 : 0 ≤ a + 1 ∧ a + 1 < 576 := by omega
      have c2 : 0 ≤ b + 1 ∧ b + 1 < 576 := by omega
      have grow : ∀ (N2 : qm) (g2 : Int) (dn2 : Int → Int → Prop), BFI (EDG M) s S M N2 r g2 dn2 → (∀ u v, (dn u v ∨ ∃ t, f ≤ t ∧ t < f + i ∧ ((lef M l t = u ∧ rit M l t = v) ∨ (lef M l t = v ∧ rit M l t = u))) → dn2 u v) → (dn2 a b ∨ (N2 725 (a + 1) 0) ≠ r ∨ (N2 725 (b + 1) 0) ≠ -1) → (dn2 b a ∨ (N2 725 (b + 1) 0) ≠ r ∨ (N2 725 (a + 1) 0) ≠ -1) → BFI (EDG M) s S M N2 r g2 (fun u v => dn u v ∨ ∃ t, f ≤ t ∧ t < f + (i + 1) ∧ ((lef M l t = u ∧ rit M l t = v) ∨ (lef M l t = v ∧ rit M l t = u))) := by
        intro N2 g2 dn2 hB hm h1 h2
        refine BFI_m hB (fun u v _ _ _ _ z => ?_)
        rcases z with z | ⟨t, t0, t1, z⟩
        · exact Or.inl (hm u v (Or.inl z))
        · by_cases et : t = f + i
          · rw [et, ha, hb] at z
            rcases z with ⟨rfl, rfl⟩ | ⟨rfl, rfl⟩
            · exact h1
            · exact h2
          · exact Or.inl (hm u v (Or.inr ⟨t, t0, by omega, z⟩))
      unfold qf_X2_goThrough_L25_b qf_X2_goThrough_J92
      (try dsimp only)
      rw [if_neg (by omega)]
      refine qW_eq re.1 (qW_eq re.2.1 ?_)
      (try dsimp only)
      rw [w32_id (x := a + 1) (by omega) (by omega), w32_id (x := b + 1) (by omega) (by omega), w32_id (x := f + i + 1) (by omega) (by omega), w32_id (x := r + 1) (by omega) (by omega), if_pos c1]
      have stay : ((N' 725 (a + 1) 0) ≠ r ∨ (N' 725 (b + 1) 0) ≠ -1) → ((N' 725 (b + 1) 0) ≠ r ∨ (N' 725 (a + 1) 0) ≠ -1) → ∃ g2 N2, (l, r, g', e, f + i + 1, N') = (l, r, g2, e, f + (i + 1), N2) ∧ (g2 = 0 ∨ g2 = 1) ∧ BFI (EDG M) s S M N2 r (if g2 = 0 then g else 1) (fun u v => dn u v ∨ ∃ t, f ≤ t ∧ t < f + (i + 1) ∧ ((lef M l t = u ∧ rit M l t = v) ∨ (lef M l t = v ∧ rit M l t = u))) := fun h1 h2 => ⟨g', N', by rw [Int.add_assoc], hg, grow N' _ _ hN (fun u v z => z) (Or.inr h1) (Or.inr h2)⟩
      have setb : (N' 725 (a + 1) 0) = r → (N' 725 (b + 1) 0) = -1 → ∃ g2 N2, (l, r, (1 : Int), e, f + i + 1, qw N' 725 (b + 1) 0 (r + 1)) = (l, r, g2, e, f + (i + 1), N2) ∧ (g2 = 0 ∨ g2 = 1) ∧ BFI (EDG M) s S M N2 r (if g2 = 0 then g else 1) (fun u v => dn u v ∨ ∃ t, f ≤ t ∧ t < f + (i + 1) ∧ ((lef M l t = u ∧ rit M l t = v) ∨ (lef M l t = v ∧ rit M l t = u))) := fun h1 h2 => by
        have B := BFI_s r0 hN lb.1.1 lb.1.2 lb.2.1 lb.2.2 ed1 h1 h2
        refine ⟨1, _, by rw [Int.add_assoc], Or.inr rfl, ?_⟩
        rw [if_neg (by decide)]
        refine grow _ _ _ B (fun u v z => Or.inl z) (Or.inl (Or.inr ⟨rfl, rfl⟩)) (Or.inr (Or.inl ?_))
        rw [qw_s]
        omega
      have seta : (N' 725 (b + 1) 0) = r → (N' 725 (a + 1) 0) = -1 → ∃ g2 N2, (l, r, (1 : Int), e, f + i + 1, qw N' 725 (a + 1) 0 (r + 1)) = (l, r, g2, e, f + (i + 1), N2) ∧ (g2 = 0 ∨ g2 = 1) ∧ BFI (EDG M) s S M N2 r (if g2 = 0 then g else 1) (fun u v => dn u v ∨ ∃ t, f ≤ t ∧ t < f + (i + 1) ∧ ((lef M l t = u ∧ rit M l t = v) ∨ (lef M l t = v ∧ rit M l t = u))) := fun h1 h2 => by
        have B := BFI_s r0 hN lb.2.1 lb.2.2 lb.1.1 lb.1.2 ed2 h1 h2
        refine ⟨1, _, by rw [Int.add_assoc], Or.inr rfl, ?_⟩
        rw [if_neg (by decide)]
        refine grow _ _ _ B (fun u v z => Or.inl z) (Or.inr (Or.inl ?_)) (Or.inl (Or.inr ⟨rfl, rfl⟩))
        rw [qw_s]
        omega
      by_cases g1 : (N' 725 (a + 1) 0) = r
      · rw [if_pos g1, if_pos c2]
        by_cases g2 : (N' 725 (b + 1) 0) = -1
        · rw [if_pos g2, if_pos c2]
          exact qW_bnd (qW_some (setb g1 g2))
        · rw [if_neg g2, if_pos c2]
          by_cases g3 : (N' 725 (b + 1) 0) = r
          · rw [if_pos g3, if_pos c1, if_neg (by omega)]
            exact qW_some (stay (Or.inr g2) (Or.inr (by omega)))
          · rw [if_neg g3]
            exact qW_some (stay (Or.inr g2) (Or.inl g3))
      · rw [if_neg g1, if_pos c2]
        by_cases g3 : (N' 725 (b + 1) 0) = r
        · rw [if_pos g3, if_pos c1]
          by_cases g4 : (N' 725 (a + 1) 0) = -1
          · rw [if_pos g4, if_pos c1]
            exact qW_bnd (qW_some (seta g3 g4))
          · rw [if_neg g4]
            exact qW_some (stay (Or.inl g1) (Or.inr g4))
        · rw [if_neg g3]
          exact qW_some (stay (Or.inl g1) (Or.inl g3))
    · rintro _ ⟨g', N', rfl, hg, hN⟩
      unfold qf_X2_goThrough_L25_b
      (try dsimp only)
      rw [if_pos (by omega)]
      refine qW_some ⟨g', N', rfl, hg, ?_⟩
      rw [show f + (e - f) = e by omega] at hN
      exact hN
  · rintro _ ⟨g', N', rfl, hg, hN⟩
    (try dsimp only)
    rw [if_pos hg]
    exact qW_some ⟨hg, hN⟩
end WZ
