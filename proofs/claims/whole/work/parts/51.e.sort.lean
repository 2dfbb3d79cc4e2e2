/-! ===== the reference's sorting, to its end ===== -/
def FmR (M S : qm) : Prop := ∀ b i j, b ≠ 2249 → b ≠ 2250 → S b i j = M b i j
theorem okR_f {M S : qm} (h : okR M) (f : FmR M S) : okR S ∧ KR S = KR M ∧ WR S = WR M ∧ S 2235 0 0 = M 2235 0 0 := by
  have e0 : S 2235 0 0 = M 2235 0 0 := f _ _ _ (by decide) (by decide)
  have e1 : ∀ i j, S 2236 i j = M 2236 i j := fun i j => f _ _ _ (by decide) (by decide)
  have e2 : ∀ i j, S 2240 i j = M 2240 i j := fun i j => f _ _ _ (by decide) (by decide)
  refine ⟨?_, ?_, ?_, e0⟩
  · unfold okR at *
    simp only [e0, e1, e2]
    exact h
  · unfold KR
    simp only [e1]
  · unfold WR
    simp only [e2]
theorem wR {M : qm} (h : okR M) {b : Int} (h0 : 0 ≤ b) (h1 : b < (M 2235 0 0)) : ∀ i, 0 ≤ i → i < 3 → WR M b i = -1 ∨ (0 ≤ WR M b i ∧ WR M b i < (M 2235 0 0)) := by
  intro i i0 i1
  have q := h.2.2.2 b i h0 h1 i0 i1
  unfold WR
  omega
theorem mcPR {M S : qm} {t c : Int} (h : okR M) (hp : ∀ c, 0 ≤ c → c < (M 2235 0 0) → (S 2250 c 0 ≠ 0 ↔ pk (fun k => S 2249 k 0) t c)) (c0 : 0 ≤ c) (c1 : c < (M 2235 0 0)) : mc (KR M) (WR M) (PR S) c ↔ mc (KR M) (WR M) (pk (fun k => S 2249 k 0) t) c :=
  mc_c (n := (M 2235 0 0)) rfl (fun _ _ _ => rfl) (h.2.2.1 c c0 (by have := h.2.1; omega)) (wR h c0 c1) (fun d d0 d1 => hp d d0 d1)
def J1 (M : qm) (i v : Int) (S : qm) : Prop := FmR M S ∧ dst (M 2235 0 0) (fun k => S 2249 k 0) i ∧ (∀ c, 0 ≤ c → c < (M 2235 0 0) → (S 2250 c 0 ≠ 0 ↔ pk (fun k => S 2249 k 0) i c)) ∧ (∀ k, 0 ≤ k → k < i → lst (M 2235 0 0) (KR M) (WR M) (fun k => S 2249 k 0) k) ∧ (v = 0 ∨ v = 1) ∧ (v = 0 → ∀ c, 0 ≤ c → c < (M 2235 0 0) → pk (fun k => S 2249 k 0) i c ∨ ¬ mc (KR M) (WR M) (pk (fun k => S 2249 k 0) i) c)
set_option maxHeartbeats 1000000 in
theorem sortR_1 {M : qm} (h : okR M) {i v : Int} {S : qm} (hI : J1 M i v S) : qW (qf_X17_sort_L27_b 20000 i v S) (fun o => match o with
    | .inl r => (match r with | .inl _ => False | .inr r => J1 M r.1 0 r.2)
    | .inr s => J1 M s.1 s.2.1 s.2.2 ∧ ((M 2235 0 0) - s.1).toNat + s.2.1.toNat < ((M 2235 0 0) - i).toNat + v.toNat) := by
  obtain ⟨hF, hd, hp, hl, hv, hst⟩ := hI
  obtain ⟨hS, eK, eW, eN⟩ := okR_f h hF
  have n0 := h.1
  have n1 := h.2.1
  have i0 := hd.1
  have i1 := hd.2.1
  unfold qf_X17_sort_L27_b
  by_cases gv : v = 0
  · rw [if_pos gv]
    refine qW_some ?_
    exact ⟨hF, hd, hp, hl, Or.inl rfl, fun _ => hst gv⟩
  · have ev : v = 1 := by omega
    rw [if_neg gv, eN, w32_id (x := M 2235 0 0 - 1) (by omega) (by omega), ← eN]
    refine qW_call (leastR hS) ?_
    rw [eK, eW, eN]
    rintro (o | r) hr
    · exact hr.elim
    · (try dsimp only at hr ⊢)
      unfold qf_X17_sort_J87
      rcases hr with ⟨rfl, hr⟩ | ⟨r0, r1, hP, hr, hb⟩
      · rw [if_pos (by decide), if_pos rfl]
        refine qW_some ⟨⟨hF, hd, hp, hl, Or.inl rfl, fun _ c c0 c1 => ?_⟩, by (try dsimp only); omega⟩
        rcases hr c c0 c1 with x | x
        · exact Or.inl ((hp c c0 c1).mp x)
        · exact Or.inr (fun y => x ((mcPR h hp c0 c1).mpr y))
      · have npk : ¬ pk (fun k => S 2249 k 0) i r := fun x => hP ((hp r r0 r1).mpr x)
        have il := stk_lt (dst_stk hd) r0 r1 (dst_p hd r0 r1 npk)
        have e1 : w32 (i + 1) = i + 1 := w32_id (by omega) (by omega)
        rw [if_neg (by omega), if_neg (by decide), if_pos ⟨r0, by omega⟩, e1]
        refine qW_bnd ?_
        rw [if_pos ⟨i0, by omega⟩]
        refine qW_bnd (qW_some ?_)
        have er1 : ∀ b x y, qw (qw S 2250 r 0 1) 2249 i 0 r b x y = if b = 2249 ∧ x = i ∧ y = 0 then r else if b = 2250 ∧ x = r ∧ y = 0 then 1 else S b x y := fun _ _ _ => rfl
        generalize qw (qw S 2250 r 0 1) 2249 i 0 r = S' at er1
        have fq : ∀ k, S' 2249 k 0 = if k = i then r else S 2249 k 0 := by
          intro k
          rw [er1]
          by_cases e : k = i
          · rw [if_pos ⟨rfl, e, rfl⟩, if_pos e]
          · rw [if_neg (fun x => e x.2.1), if_neg (by simp), if_neg e]
        have fp : ∀ d, S' 2250 d 0 = if d = r then 1 else S 2250 d 0 := by
          intro d
          rw [er1, if_neg (by simp)]
          by_cases e : d = r
          · rw [if_pos ⟨rfl, e, rfl⟩, if_pos e]
          · rw [if_neg (fun x => e x.2.1), if_neg e]
        have epk : ∀ k, k ≤ i → pk (fun k => S' 2249 k 0) k = pk (fun k => S 2249 k 0) k := fun k kt => funext (fun b => propext (pk_c (fun j j0 j1 => by (try dsimp only); rw [fq, if_neg (by omega)])))
        refine ⟨⟨fun b x y h1 h2 => ?_, ⟨by (try dsimp only); omega, by (try dsimp only); omega, fun k k0 k1 => ?_⟩, fun c c0 c1 => ?_, fun k k0 k1 => ?_, Or.inr rfl, fun x => by (try dsimp only at x); omega⟩, by (try dsimp only); omega⟩
        · (try dsimp only)
          rw [er1, if_neg (fun q => h1 q.1), if_neg (fun q => h2 q.1)]
          exact hF b x y h1 h2
        · (try dsimp only at k1 ⊢)
          rw [epk k (by omega), fq]
          by_cases ek : k = i
          · rw [if_pos ek, ek]
            exact ⟨r0, r1, npk⟩
          · rw [if_neg ek]
            exact hd.2.2 k k0 (by omega)
        · (try dsimp only)
          rw [fp]
          by_cases ec : c = r
          · rw [if_pos ec]
            exact ⟨fun _ => ⟨i, i0, by omega, by (try dsimp only); rw [fq, if_pos rfl, ec]⟩, fun _ => by decide⟩
          · rw [if_neg ec, hp c c0 c1]
            constructor
            · rintro ⟨j, j0, j1, x⟩
              exact ⟨j, j0, by omega, by (try dsimp only); rw [fq, if_neg (by omega)]; exact x⟩
            · rintro ⟨j, j0, j1, x⟩
              (try dsimp only at x)
              rw [fq] at x
              by_cases ej : j = i
              · rw [if_pos ej] at x
                exact absurd x.symm ec
              · rw [if_neg ej] at x
                exact ⟨j, j0, by omega, x⟩
        · (try dsimp only at k1 ⊢)
          by_cases ek : k = i
          · subst ek
            unfold lst
            (try dsimp only)
            rw [epk k (Int.le_refl _), fq, if_pos rfl]
            refine ⟨r0, r1, npk, (mcPR h hp r0 r1).mp hr, fun b b0 b1 => ?_⟩
            rcases hb b b0 b1 with x | x
            · exact Or.inl ((hp b b0 (by omega)).mp x)
            · exact Or.inr (fun y => x ((mcPR h hp b0 (by omega)).mpr y))
          · refine lst_c k0 (fun j j0 j1 => ?_) (hl k k0 (by omega))
            (try dsimp only)
            rw [fq, if_neg (by omega)]
def J2 (M : qm) (m t c : Int) (S : qm) : Prop := 0 ≤ c ∧ c ≤ (M 2235 0 0) ∧ FmR M S ∧ 0 ≤ m ∧ m ≤ t ∧ dst (M 2235 0 0) (fun k => S 2249 k 0) t ∧ (∀ b, 0 ≤ b → b < (M 2235 0 0) → (S 2250 b 0 ≠ 0 ↔ pk (fun k => S 2249 k 0) m b)) ∧ (∀ k, 0 ≤ k → k < m → lst (M 2235 0 0) (KR M) (WR M) (fun k => S 2249 k 0) k) ∧ (∀ b, 0 ≤ b → b < (M 2235 0 0) → pk (fun k => S 2249 k 0) m b ∨ ¬ mc (KR M) (WR M) (pk (fun k => S 2249 k 0) m) b) ∧ (∀ k, m ≤ k → k < t → (∀ b, 0 ≤ b → b < S 2249 k 0 → pk (fun k => S 2249 k 0) k b)) ∧ (∀ b, 0 ≤ b → b < (M 2235 0 0) → (pk (fun k => S 2249 k 0) t b ↔ (pk (fun k => S 2249 k 0) m b ∨ b < c)))
set_option maxHeartbeats 1000000 in
theorem sortR_2 {M : qm} (h : okR M) {m t c : Int} {S : qm} (hI : J2 M m t c S) : qW (qf_X17_sort_L117_b 20000 m t c S) (fun o => match o with
    | .inl r => (match r with | .inl _ => False | .inr r => J2 M m (M 2235 0 0) (M 2235 0 0) r.2)
    | .inr s => s.1 = m ∧ J2 M m s.2.1 s.2.2.1 s.2.2.2 ∧ ((M 2235 0 0) - s.2.2.1).toNat < ((M 2235 0 0) - c).toNat) := by
  obtain ⟨c0, c1, hF, m0, mt, hd, hp, hl, hst, htl, hc⟩ := hI
  obtain ⟨hS, eK, eW, eN⟩ := okR_f h hF
  have n1 := h.2.1
  have t0 := hd.1
  have t1 := hd.2.1
  unfold qf_X17_sort_L117_b
  rw [eN]
  by_cases gi : (M 2235 0 0) ≤ c
  · rw [if_pos gi]
    have ec : c = (M 2235 0 0) := by omega
    have et : t = (M 2235 0 0) := stk_full (dst_stk hd) (fun b b0 b1 => (hc b b0 b1).mpr (Or.inr (by omega)))
    subst ec
    subst et
    exact qW_some ⟨c0, c1, hF, m0, mt, hd, hp, hl, hst, htl, hc⟩
  · rw [if_neg gi, if_pos ⟨c0, by omega⟩]
    have e1 : w32 (c + 1) = c + 1 := w32_id (by omega) (by omega)
    rw [e1]
    by_cases e2 : S 2250 c 0 = 0
    · have npm : ¬ pk (fun k => S 2249 k 0) m c := fun x => (hp c c0 (by omega)).mpr x e2
      have npt : ¬ pk (fun k => S 2249 k 0) t c := fun x => by
        rcases (hc c c0 (by omega)).mp x with y | y
        · exact npm y
        · omega
      have tl := stk_lt (dst_stk hd) c0 (by omega) (dst_p hd c0 (by omega) npt)
      have e3 : w32 (t + 1) = t + 1 := w32_id (by omega) (by omega)
      rw [if_pos e2, if_pos ⟨t0, by omega⟩, e3]
      refine qW_bnd (qW_some ?_)
      have er1 : ∀ b x y, qw S 2249 t 0 c b x y = if b = 2249 ∧ x = t ∧ y = 0 then c else S b x y := fun _ _ _ => rfl
      generalize qw S 2249 t 0 c = S' at er1
      have fq : ∀ k, S' 2249 k 0 = if k = t then c else S 2249 k 0 := by
        intro k
        rw [er1]
        by_cases e : k = t
        · rw [if_pos ⟨rfl, e, rfl⟩, if_pos e]
        · rw [if_neg (fun x => e x.2.1), if_neg e]
      have fp : ∀ d, S' 2250 d 0 = S 2250 d 0 := fun d => by rw [er1, if_neg (by simp)]
      have epk : ∀ k, k ≤ t → pk (fun k => S' 2249 k 0) k = pk (fun k => S 2249 k 0) k := fun k kt => funext (fun b => propext (pk_c (fun j j0 j1 => by (try dsimp only); rw [fq, if_neg (by omega)])))
      have eup : ∀ b, pk (fun k => S' 2249 k 0) (t + 1) b ↔ (pk (fun k => S 2249 k 0) t b ∨ b = c) := by
        intro b
        constructor
        · rintro ⟨j, j0, j1, x⟩
          (try dsimp only at x)
          rw [fq] at x
          by_cases ej : j = t
          · rw [if_pos ej] at x
            exact Or.inr x.symm
          · rw [if_neg ej] at x
            exact Or.inl ⟨j, j0, by omega, x⟩
        · rintro (⟨j, j0, j1, x⟩ | rfl)
          · exact ⟨j, j0, by omega, by (try dsimp only); rw [fq, if_neg (by omega)]; exact x⟩
          · exact ⟨t, t0, by omega, by (try dsimp only); rw [fq, if_pos rfl]⟩
      refine ⟨rfl, ⟨by (try dsimp only); omega, by (try dsimp only); omega, fun b x y h1 h2 => ?_, m0, by (try dsimp only); omega, ⟨by (try dsimp only); omega, by (try dsimp only); omega, fun k k0 k1 => ?_⟩, fun b b0 b1 => ?_, fun k k0 k1 => ?_, fun b b0 b1 => ?_, fun k k0 k1 => ?_, fun b b0 b1 => ?_⟩, by (try dsimp only); omega⟩
      · (try dsimp only)
        rw [er1, if_neg (fun q => h1 q.1)]
        exact hF b x y h1 h2
      · (try dsimp only at k1 ⊢)
        rw [epk k (by omega), fq]
        by_cases ek : k = t
        · rw [if_pos ek, ek]
          exact ⟨c0, by omega, npt⟩
        · rw [if_neg ek]
          exact hd.2.2 k k0 (by omega)
      · (try dsimp only)
        rw [fp, epk m mt]
        exact hp b b0 b1
      · refine lst_c k0 (fun j j0 j1 => ?_) (hl k k0 k1)
        (try dsimp only)
        rw [fq, if_neg (by omega)]
      · (try dsimp only)
        rw [epk m mt]
        exact hst b b0 b1
      · (try dsimp only at k1 ⊢)
        rw [epk k (by omega), fq]
        by_cases ek : k = t
        · rw [if_pos ek, ek]
          intro b b0 b1
          exact (hc b b0 (by omega)).mpr (Or.inr b1)
        · rw [if_neg ek]
          exact htl k k0 (by omega)
      · (try dsimp only)
        rw [eup b, epk m mt, hc b b0 b1]
        constructor
        · rintro ((x | x) | x)
          · exact Or.inl x
          · exact Or.inr (by omega)
          · exact Or.inr (by omega)
        · rintro (x | x)
          · exact Or.inl (Or.inl x)
          · by_cases e : b = c
            · exact Or.inr e
            · exact Or.inl (Or.inr (by omega))
    · rw [if_neg e2]
      refine qW_some ⟨rfl, ⟨by (try dsimp only); omega, by (try dsimp only); omega, hF, m0, mt, hd, hp, hl, hst, htl, fun b b0 b1 => ?_⟩, by (try dsimp only); omega⟩
      (try dsimp only)
      rw [hc b b0 b1]
      constructor
      · rintro (x | x)
        · exact Or.inl x
        · exact Or.inr (by omega)
      · rintro (x | x)
        · exact Or.inl x
        · by_cases e : b = c
          · rw [e]
            exact Or.inl ((hp c c0 (by omega)).mp e2)
          · exact Or.inr (by omega)
set_option maxHeartbeats 1000000 in
theorem sortR {M : qm} (h : okR M) : qW (qf_X17_sort 20000 M) (fun r => FmR M r.2 ∧ Srt (M 2235 0 0) (KR M) (WR M) (fun k => r.2 2249 k 0) r.1) := by
  have n0 := h.1
  have n1 := h.2.1
  unfold qf_X17_sort
  refine qW_call (Q := fun o => match o with | .inl _ => False | .inr r => FmR M r.2 ∧ ∀ c, 0 ≤ c → c < (M 2235 0 0) → r.2 2250 c 0 = 0) ?_ ?_
  · refine qW_loop (fun s => 0 ≤ s.1 ∧ s.1 ≤ (M 2235 0 0) ∧ FmR M s.2 ∧ ∀ c, 0 ≤ c → c < s.1 → s.2 2250 c 0 = 0) (fun s => ((M 2235 0 0) - s.1).toNat) ?_ _ _ ?_ ?_
    · rintro ⟨i, S⟩ ⟨g1, g2, g3, g4⟩
      (try dsimp only at g1 g2 g3 g4 ⊢)
      unfold qf_X17_sort_L2_b
      rw [(okR_f h g3).2.2.2]
      by_cases gi : (M 2235 0 0) ≤ i
      · rw [if_pos gi]
        exact qW_some ⟨g3, fun c c0 c1 => g4 c c0 (by omega)⟩
      · rw [if_neg gi, if_pos ⟨g1, by omega⟩, w32_id (x := i + 1) (by omega) (by omega)]
        refine qW_bnd (qW_some ⟨⟨by (try dsimp only); omega, by (try dsimp only); omega, fun b x y h1 h2 => ?_, fun c c0 c1 => ?_⟩, by (try dsimp only); omega⟩)
        · (try dsimp only)
          rw [qw_ap, if_neg (fun q => h2 q.1)]
          exact g3 b x y h1 h2
        · (try dsimp only at c1 ⊢)
          rw [qw_ap]
          by_cases e : c = i
          · rw [if_pos ⟨rfl, e, rfl⟩]
          · rw [if_neg (fun q => e q.2.1)]
            exact g4 c c0 (by omega)
    · exact ⟨Int.le_refl _, n0, fun _ _ _ _ _ => rfl, fun c c0 c1 => absurd c1 (by (try dsimp only); omega)⟩
    · (try dsimp only)
      omega
  · rintro (o | ⟨u, S⟩) hI
    · exact hI.elim
    · obtain ⟨hF, hz⟩ := hI
      (try dsimp only at hF hz ⊢)
      refine qW_call (Q := fun o => match o with | .inl _ => False | .inr r => J1 M r.1 0 r.2) ?_ ?_
      · refine qW_loop (fun s => J1 M s.1 s.2.1 s.2.2) (fun s => ((M 2235 0 0) - s.1).toNat + s.2.1.toNat) (fun s hI => qW_mono (sortR_1 h hI) (fun o ho => ?_)) _ _ ?_ ?_
        · rcases o with (o | o) | o
          · exact ho
          · exact ho
          · exact ho
        · refine ⟨hF, ⟨Int.le_refl _, n0, fun k k0 k1 => by (try dsimp only at k1); omega⟩, fun c c0 c1 => ?_, fun k k0 k1 => by (try dsimp only at k1); omega, Or.inr rfl, fun x => by (try dsimp only at x); omega⟩
          (try dsimp only)
          rw [hz c c0 c1]
          refine ⟨fun x => absurd rfl x, ?_⟩
          rintro ⟨j, j0, j1, -⟩
          omega
        · (try dsimp only)
          omega
      · rintro (o | ⟨m, S1⟩) hI
        · exact hI.elim
        · obtain ⟨hF1, hd, hp, hl, -, hst⟩ := hI
          (try dsimp only at hF1 hd hp hl hst ⊢)
          refine qW_call (Q := fun o => match o with | .inl _ => False | .inr r => J2 M m (M 2235 0 0) (M 2235 0 0) r.2) ?_ ?_
          · refine qW_loop (fun s => s.1 = m ∧ J2 M m s.2.1 s.2.2.1 s.2.2.2) (fun s => ((M 2235 0 0) - s.2.2.1).toNat) (fun s hI => ?_) _ _ ?_ ?_
            · obtain ⟨a, t, c, S2⟩ := s
              obtain ⟨ea, hI⟩ := hI
              (try dsimp only at ea hI ⊢)
              subst ea
              refine qW_mono (sortR_2 h hI) (fun o ho => ?_)
              rcases o with (o | o) | o
              · exact ho
              · exact ho
              · exact ⟨⟨ho.1, ho.2.1⟩, ho.2.2⟩
            · refine ⟨rfl, Int.le_refl _, n0, hF1, hd.1, Int.le_refl _, hd, hp, hl, hst rfl, fun k k0 k1 => by (try dsimp only at k0 k1); omega, fun b b0 b1 => ?_⟩
              (try dsimp only)
              exact ⟨Or.inl, fun x => x.resolve_right (by omega)⟩
            · (try dsimp only)
              omega
          · rintro (o | ⟨u2, S2⟩) hI
            · exact hI.elim
            · obtain ⟨-, -, hF2, m0, mt, hd2, hp2, hl2, hst2, htl2, hc2⟩ := hI
              exact qW_some ⟨hF2, m0, mt, hl2, hst2, fun k k0 k1 => ⟨(hd2.2.2 k (by omega) k1).1, (hd2.2.2 k (by omega) k1).2.1, (hd2.2.2 k (by omega) k1).2.2, htl2 k k0 k1⟩⟩
