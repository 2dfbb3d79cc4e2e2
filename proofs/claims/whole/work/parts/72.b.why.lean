/-! ===== why a card is refused: the reference's side ===== -/
section WH
variable {M K : qm} {c n m b v r g z d to fr : Int}
theorem LT0 (h_tellt : R_tellt M K) (h_tellc : R_tellc M K) (c0 : 0 ≤ c) (c1 : c < (M 824 8 0)) (hn : n ≤ (M 824 12 0)) (h : LT K 0 c n v) : ((M 828 c 2) < n ∧ 0 ≤ v) ∨ (n ≤ (M 828 c 2) ∧ v = -1) := by
  have q := h_tellc c c0 c1
  rcases h with ⟨t, t0, t1, t2, t3, t4, t5⟩ | ⟨t4, t5⟩
  · have y := h_tellt t t0 (by omega)
    have x := y.2.2.2.2.1 t2
    rw [t3] at x
    refine Or.inl ⟨by omega, ?_⟩
    rw [t5]
    exact y.2.2.2.1
  · by_cases e : (M 828 c 2) < n
    · exact absurd ⟨q.2.2.1, q.2.2.2⟩ (t4 _ q.1 e)
    · exact Or.inr ⟨by omega, t5⟩
theorem LT1 (h_tellt : R_tellt M K) (h_tellr : R_tellr M K) (c0 : 0 ≤ c) (c1 : c < (M 824 10 0)) (hn : n ≤ (M 824 12 0)) (h : LT K 1 c n v) : ((M 889 c 5) < n ∧ 0 ≤ v) ∨ (n ≤ (M 889 c 5) ∧ v = -1) := by
  have q := h_tellr c c0 c1
  rcases h with ⟨t, t0, t1, t2, t3, t4, t5⟩ | ⟨t4, t5⟩
  · have y := h_tellt t t0 (by omega)
    have x := y.2.2.2.2.2 t2
    rw [t3] at x
    refine Or.inl ⟨by omega, ?_⟩
    rw [t5]
    exact y.2.2.2.1
  · by_cases e : (M 889 c 5) < n
    · exact absurd ⟨q.2.2.1, q.2.2.2⟩ (t4 _ q.1 e)
    · exact Or.inr ⟨by omega, t5⟩
theorem spans_r (hr : 0 ≤ r ∧ r < 16) : qf_X18_spans 20000 r g z d K = some (b01 (spn d (K 2316 r 0) (K 2317 r 0) ∧ (K 2314 r 0) = g ∧ (K 2315 r 0) = z)) := by
  have h : (spn d (K 2316 r 0) (K 2317 r 0) ∧ (K 2314 r 0) = g ∧ (K 2315 r 0) = z ∧ b01 (spn d (K 2316 r 0) (K 2317 r 0) ∧ (K 2314 r 0) = g ∧ (K 2315 r 0) = z) = 1) ∨ (¬ (spn d (K 2316 r 0) (K 2317 r 0) ∧ (K 2314 r 0) = g ∧ (K 2315 r 0) = z) ∧ b01 (spn d (K 2316 r 0) (K 2317 r 0) ∧ (K 2314 r 0) = g ∧ (K 2315 r 0) = z) = 0) := by
    rcases b01_o (p := spn d (K 2316 r 0) (K 2317 r 0) ∧ (K 2314 r 0) = g ∧ (K 2315 r 0) = z) with h | h
    · exact Or.inl ⟨h.2.1, h.2.2.1, h.2.2.2, h.1⟩
    · exact Or.inr ⟨h.2, h.1⟩
  generalize b01 (spn d (K 2316 r 0) (K 2317 r 0) ∧ (K 2314 r 0) = g ∧ (K 2315 r 0) = z) = x at h ⊢
  unfold spn at h
  unfold qf_X18_spans qf_X18_spans_J16 qf_X18_spans_J34 qf_X18_spans_J65 qf_X18_spans_J94 qf_X18_spans_J98 qf_X18_spans_J99
  simp only [if_pos hr, if_true, reduceIte, if_neg (show ¬ (1 : Int) = 0 by decide)]
  (repeat' split) <;> (refine congrArg some ?_; omega)
theorem zoneOf_k (h_names : R_names M K) (h_spaces : R_spaces M K) (hz : (K 2156 9 0) = (M 51 3 0)) (t0 : 0 ≤ to) (t1 : to ≤ (K 2156 9 0)) : qf_X18_zoneOf 20000 to K = some (zoV M to) := by
  have s_spaces := h_spaces
  unfold R_spaces at s_spaces
  unfold qf_X18_zoneOf zoV
  by_cases e : to = (K 2156 9 0)
  · rw [if_pos e, if_neg (by omega)]
  · have q := h_names to t0 (by omega)
    rw [if_neg e, if_pos (by omega), if_pos (by omega), q.1]
end WH
section WH2
variable {M K : qm} {c n m b to fr : Int}
theorem whyLoop_r (h_rightn : R_rightn M K) (h_rights : R_rights M K) (h_cardn : R_cardn M K) (h_cards : R_cards M K) (h_personn : R_personn M K) (h_persons : R_persons M K) (h_names : R_names M K) (h_spaces : R_spaces M K) (hTL : TL M K) (c1 : (M 824 13 0) ≤ 512) (t1 : (M 824 12 0) ≤ 512) (hz : (K 2156 9 0) = (M 51 3 0)) (hc : 0 ≤ c ∧ c < (M 824 8 0)) (b0 : 0 ≤ b) (hn : n = if (K 2156 45 0) ≤ b then (K 2156 45 0) else b) (to0 : 0 ≤ to) (to1 : to ≤ (K 2156 9 0)) : qW (qf_X18_why_L89 20000 20000 c to m b 0 0 K) (fun o => o = .inr (b01 (∃ k, 0 ≤ k ∧ k < (M 824 10 0) ∧ rgP M m n (M 761 (M 828 c 0) 6) (zoV M to) k))) := by
  obtain ⟨h1, h_tellt, h_tellc, h_tellr, h_notek, h_noteo, h_notex⟩ := hTL
  have s_rightn := h_rightn
  unfold R_rightn at s_rightn
  have s_cardn := h_cardn
  unfold R_cardn at s_cardn
  have s_personn := h_personn
  unfold R_personn at s_personn
  have s_telln := h1
  unfold R_telln at s_telln
  have hn2 : n ≤ (M 824 12 0) := by
    by_cases e : (K 2156 45 0) ≤ b
    · rw [if_pos e] at hn
      omega
    · rw [if_neg e] at hn
      omega
  have qc := h_cards c hc.1 hc.2
  have hp : 0 ≤ (K 2312 c 0) ∧ (K 2312 c 0) < 40 := by omega
  have qp := h_persons (K 2312 c 0) hp.1 (by omega)
  have hc60 : 0 ≤ c ∧ c < 60 := by omega
  have eg : (K 2304 (K 2312 c 0) 0) = (M 761 (M 828 c 0) 6) := by
    rw [qp.2.2.2.2.2.2.1, qc.1]
  unfold qf_X18_why_L89
  refine qW_for (M 824 10 0) (fun i s => s = (c, to, m, b, b01 (∃ k, 0 ≤ k ∧ k < i ∧ rgP M m n (M 761 (M 828 c 0) 6) (zoV M to) k), i)) ?_ ?_ ?_ s_rightn.1 (by omega)
  · rintro i _ i0 i1 rfl
    have e1 : w32 (i + 1) = i + 1 := w32_id (by omega) (by omega)
    have hr : 0 ≤ i ∧ i < 16 := by omega
    have hs : b01 (∃ k, 0 ≤ k ∧ k < i + 1 ∧ rgP M m n (M 761 (M 828 c 0) 6) (zoV M to) k) = b01 ((∃ k, 0 ≤ k ∧ k < i ∧ rgP M m n (M 761 (M 828 c 0) 6) (zoV M to) k) ∨ rgP M m n (M 761 (M 828 c 0) 6) (zoV M to) i) := b01_c (ex_s i0)
    unfold qf_X18_why_L89_b
    (try dsimp only)
    rw [if_neg (show ¬ (K 2156 39 0) ≤ i by omega)]
    rcases b01_o (p := ∃ k, 0 ≤ k ∧ k < i ∧ rgP M m n (M 761 (M 828 c 0) 6) (zoV M to) k) with ⟨f1, f2⟩ | ⟨f1, f2⟩
    · rw [f1, if_neg (by decide)]
      refine qW_some ?_
      show Sum.inr 1 = Sum.inr (b01 _)
      obtain ⟨k, k0, k1, k2⟩ := f2
      rw [b01_t ⟨k, k0, by omega, k2⟩]
    · rw [f1, if_pos rfl]
      have no : ¬ rgP M m n (M 761 (M 828 c 0) 6) (zoV M to) i → b01 (∃ k, 0 ≤ k ∧ k < i + 1 ∧ rgP M m n (M 761 (M 828 c 0) 6) (zoV M to) k) = 0 := fun h => hs.trans (b01_f (fun x => x.elim f2 h))
      have ye : rgP M m n (M 761 (M 828 c 0) 6) (zoV M to) i → b01 (∃ k, 0 ≤ k ∧ k < i + 1 ∧ rgP M m n (M 761 (M 828 c 0) 6) (zoV M to) k) = 1 := fun h => hs.trans (b01_t (Or.inr h))
      refine qW_call (lastTold_r (K := K) (kd := 2) (w := i) (n := n) (by omega) (by omega) b0 hn) ?_
      intro v hv
      refine qW_call (lastTold_r (K := K) (kd := 1) (w := i) (n := n) (by omega) (by omega) b0 hn) ?_
      intro w hw
      obtain ⟨u, eu, hu⟩ := latestNote_r (M := M) (tg := i) (n := n) s_telln.2.2.1 c1
      have vu := LT_LN h_tellt h_notek h_noteo h_notex (Or.inl ⟨rfl, rfl, by omega⟩) i0 hn2 hv hu
      have hs2 := LN_n h_notek h_tellt hu
      have hd := nd_v (m := m) hu
      have h1w := LT1 h_tellt h_tellr i0 i1 hn2 hw
      have qr := h_rights i i0 i1
      subst vu
      have stop : ¬ rgP M m n (M 761 (M 828 c 0) 6) (zoV M to) i → qW (qf_X18_why_J194 20000 c to m b i K) (fun o => o = .inr (c, to, m, b, b01 (∃ k, 0 ≤ k ∧ k < i + 1 ∧ rgP M m n (M 761 (M 828 c 0) 6) (zoV M to) k), i + 1)) := fun h => by
        unfold qf_X18_why_J194
        exact qW_some (by rw [no h, e1])
      have go : (M 889 i 5) < n → (M 889 i 4) ≤ m → ¬ Nd M i n m → qW (qf_X18_why_J148 20000 c to m b i K) (fun o => o = .inr (c, to, m, b, b01 (∃ k, 0 ≤ k ∧ k < i + 1 ∧ rgP M m n (M 761 (M 828 c 0) 6) (zoV M to) k), i + 1)) := by
        intro a1 a2 a3
        unfold qf_X18_why_J148 qf_X18_why_J153
        rw [if_neg (by decide), if_pos hc60, if_pos hp, zoneOf_k h_names h_spaces hz to0 to1, eg]
        refine qW_bind (qW_some (qW_eq (spans_r hr) ?_))
        rw [qr.1, qr.2.1, qr.2.2.1, qr.2.2.2.1]
        (try dsimp only)
        refine qW_b (fun h => stop (fun x => h ⟨x.2.2.2.2.1, x.1, x.2.1⟩)) (fun h => qW_some ?_)
        rw [ye ⟨h.2.1, h.2.2, a1, a2, h.1, b01_f a3⟩, e1]
      have no152 : ¬ rgP M m n (M 761 (M 828 c 0) 6) (zoV M to) i → qW (qf_X18_why_J152 20000 c to m b i K) (fun o => o = .inr (c, to, m, b, b01 (∃ k, 0 ≤ k ∧ k < i + 1 ∧ rgP M m n (M 761 (M 828 c 0) 6) (zoV M to) k), i + 1)) := fun h => by
        unfold qf_X18_why_J152 qf_X18_why_J153
        rw [if_pos rfl]
        exact stop h
      refine qW_mono (Q := fun o => o = Sum.inr (c, to, m, b, b01 (∃ k, 0 ≤ k ∧ k < i + 1 ∧ rgP M m n (M 761 (M 828 c 0) 6) (zoV M to) k), i + 1)) ?_ (by rintro _ rfl; exact rfl)
      by_cases g1 : w < 0
      · rw [if_pos g1]
        exact no152 (fun x => by have := x.2.2.1; omega)
      · rw [if_neg g1, if_pos hr]
        by_cases g2 : m < (K 2318 i 0)
        · rw [if_pos g2]
          exact no152 (fun x => by have := x.2.2.2.1; omega)
        · rw [if_neg g2]
          by_cases g3 : v < 0
          · rw [if_pos g3]
            exact go (by omega) (by omega) (fun x => by have := hd.mp x; omega)
          · rw [if_neg g3]
            by_cases g4 : v ≤ m
            · rw [if_pos g4]
              exact no152 (fun x => by have := b01_0.mp x.2.2.2.2.2; exact this (hd.mpr ⟨by omega, g4⟩))
            · rw [if_neg g4]
              exact go (by omega) (by omega) (fun x => by have := hd.mp x; omega)
  · rintro _ rfl
    unfold qf_X18_why_L89_b
    (try dsimp only)
    rw [if_pos (show (K 2156 39 0) ≤ (M 824 10 0) by omega)]
    exact qW_some rfl
  · rw [b01_f (by rintro ⟨k, k0, k1, _⟩; omega)]
theorem why_r (h_rightn : R_rightn M K) (h_rights : R_rights M K) (h_cardn : R_cardn M K) (h_cards : R_cards M K) (h_personn : R_personn M K) (h_persons : R_persons M K) (h_names : R_names M K) (h_spaces : R_spaces M K) (hTL : TL M K) (c1 : (M 824 13 0) ≤ 512) (t1 : (M 824 12 0) ≤ 512) (hz : (K 2156 9 0) = (M 51 3 0)) (hc : 0 ≤ c ∧ c < (M 824 8 0)) (b0 : 0 ≤ b) (hn : n = if (K 2156 45 0) ≤ b then (K 2156 45 0) else b) (to0 : 0 ≤ to) (to1 : to ≤ (K 2156 9 0)) : qf_X18_why 20000 c to m b fr K = some (if (M 828 c 2) < n then if m ≤ (M 828 c 1) then if b01 (Nd M (100 + c) n m) = 0 then (if 0 ≤ fr ∧ (M 761 (M 828 c 0) 0) ≠ fr then 4 else if b01 (HR M c to m n) = 0 then 5 else 0) else 3 else 2 else 1) := by
  have hL := whyLoop_r (m := m) h_rightn h_rights h_cardn h_cards h_personn h_persons h_names h_spaces hTL c1 t1 hz hc b0 hn to0 to1
  obtain ⟨h1, h_tellt, h_tellc, h_tellr, h_notek, h_noteo, h_notex⟩ := hTL
  have s_rightn := h_rightn
  unfold R_rightn at s_rightn
  have s_cardn := h_cardn
  unfold R_cardn at s_cardn
  have s_personn := h_personn
  unfold R_personn at s_personn
  have s_telln := h1
  unfold R_telln at s_telln
  have hn2 : n ≤ (M 824 12 0) := by
    by_cases e : (K 2156 45 0) ≤ b
    · rw [if_pos e] at hn
      omega
    · rw [if_neg e] at hn
      omega
  have qc := h_cards c hc.1 hc.2
  have hp : 0 ≤ (K 2312 c 0) ∧ (K 2312 c 0) < 40 := by omega
  have qp := h_persons (K 2312 c 0) hp.1 (by omega)
  have hc60 : 0 ≤ c ∧ c < 60 := by omega
  have er : (K 2306 (K 2312 c 0) 0) = (M 761 (M 828 c 0) 0) := by
    rw [qp.1, qc.1]
  have tail : qf_X18_why_J71 20000 c to m b K = some (if b01 (HR M c to m n) = 0 then 5 else 0) := by
    refine qW_e ?_
    unfold qf_X18_why_J71 qf_X18_why_J84
    by_cases e : to = (K 2156 9 0)
    · rw [if_pos e, b01_t (show HR M c to m n from Or.inl (by omega)), if_neg (by decide)]
      have hl : qf_X18_why_L89 20000 20000 c to m b 1 0 K = some (.inr 1) := by
        have e2 : qf_X18_why_L89_b 20000 c to m b 1 0 K = some (.inl (.inr 1)) := by
          unfold qf_X18_why_L89_b
          by_cases g : (K 2156 39 0) ≤ 0
          · rw [if_pos g]
          · rw [if_neg g, if_neg (by decide)]
        unfold qf_X18_why_L89
        show qloop _ (19999 + 1) _ = _
        unfold qloop
        (try dsimp only)
        rw [e2]
      rw [hl]
      refine qW_bind (qW_some ?_)
      unfold qf_X18_why_J203
      exact qW_some rfl
    · rw [if_neg e]
      refine qW_call hL ?_
      rintro _ rfl
      unfold qf_X18_why_J203
      have hh : b01 (HR M c to m n) = b01 (∃ k, 0 ≤ k ∧ k < (M 824 10 0) ∧ rgP M m n (M 761 (M 828 c 0) 6) (zoV M to) k) := b01_c ⟨fun x => x.elim (fun y => absurd (y.trans hz.symm) e) (fun y => y), fun x => Or.inr x⟩
      rw [hh]
      (try dsimp only)
      split
      · exact qW_some rfl
      · exact qW_some rfl
  refine qW_e ?_
  unfold qf_X18_why
  refine qW_call (lastTold_r (K := K) (kd := 0) (w := c) (n := n) (by omega) (by omega) b0 hn) ?_
  intro v hv
  have h0 := LT0 h_tellt h_tellc hc.1 hc.2 hn2 hv
  by_cases g1 : (M 828 c 2) < n
  · rw [if_pos g1, if_pos (by omega), if_pos hc60]
    by_cases g2 : m ≤ (M 828 c 1)
    · rw [if_pos g2, if_pos (by omega)]
      refine qW_call (lastTold_r (K := K) (kd := 3) (w := c) (n := n) (by omega) (by omega) b0 hn) ?_
      intro w hw
      obtain ⟨u, eu, hu⟩ := latestNote_r (M := M) (tg := 100 + c) (n := n) s_telln.2.2.1 c1
      have vu := LT_LN h_tellt h_notek h_noteo h_notex (Or.inr ⟨rfl, by omega⟩) hc.1 hn2 hw hu
      have hs2 := LN_n h_notek h_tellt hu
      have hd := nd_v (m := m) hu
      subst vu
      have hnx : b01 (Nd M (100 + c) n m) = 0 → qW (qf_X18_why_J48 20000 c to m b fr K) (fun x => x = if 0 ≤ fr ∧ (M 761 (M 828 c 0) 0) ≠ fr then 4 else if b01 (HR M c to m n) = 0 then 5 else 0) := by
        intro _
        unfold qf_X18_why_J48
        rw [tail, er]
        by_cases g3 : fr < 0
        · rw [if_pos g3, if_neg (show ¬ (0 ≤ fr ∧ (M 761 (M 828 c 0) 0) ≠ fr) by omega)]
          exact qW_some rfl
        · rw [if_neg g3, if_pos hc60, if_pos hp]
          by_cases g4 : (M 761 (M 828 c 0) 0) = fr
          · rw [if_pos g4, if_neg (show ¬ (0 ≤ fr ∧ (M 761 (M 828 c 0) 0) ≠ fr) by omega)]
            exact qW_some rfl
          · rw [if_neg g4, if_pos (show 0 ≤ fr ∧ (M 761 (M 828 c 0) 0) ≠ fr by omega)]
            exact qW_some rfl
      by_cases g3 : w < 0
      · have z : b01 (Nd M (100 + c) n m) = 0 := b01_f (fun x => by have := hd.mp x; omega)
        rw [if_pos g3, if_pos z]
        exact hnx z
      · rw [if_neg g3]
        by_cases g4 : m < w
        · have z : b01 (Nd M (100 + c) n m) = 0 := b01_f (fun x => by have := hd.mp x; omega)
          rw [if_pos g4, if_pos z]
          exact hnx z
        · have z : b01 (Nd M (100 + c) n m) = 1 := b01_t (hd.mpr (by omega))
          rw [if_neg g4, z, if_neg (by decide)]
          exact qW_some rfl
    · rw [if_neg g2, if_neg (by omega)]
      exact qW_some rfl
  · rw [if_neg g1, if_neg (by omega)]
    exact qW_some rfl
end WH2
