/-! ===== what events do, both sides ===== -/
/-- what is being said comes first in the queue -/
def BXT (M K : qm) : Prop := ∀ s, 0 ≤ s → s < 8 → (0 ≤ M 1140 s 1 → 0 < M 1140 s 0 ∧ M 1140 s 2 = -1 ∧ M 1140 s 1 < 13 * (qC M s 0 4 + 7) - 2 ∧ ∀ j, 0 ≤ j → j < qC M s 0 4 + 7 → M 1158 s j = K 2259 (144 * s + j) 0) ∧ (0 ≤ M 1140 s 2 → 0 < M 1140 s 0) ∧ (M 1140 s 2 = -1 → 0 < M 1140 s 0 → qC M s 0 6 ≤ 3)
theorem BXT_x {M M' K K' : qm} (c1 : ∀ i j, M' 1140 i j = M 1140 i j) (c2 : ∀ i j, M' 1149 i j = M 1149 i j) (c3 : ∀ i j, M' 1158 i j = M 1158 i j) (hk : ∀ i j, K' 2259 i j = K 2259 i j) (h : BXT M K) : BXT M' K' := by
  intro s s0 s1
  have eq : qC M' s 0 = qC M s 0 := funext fun i => c2 s (7 * 0 + i)
  rw [c1, c1, c1, eq]
  simp only [c3, hk]
  exact h s s0 s1
theorem en_BXT {M K S T : qm} {s k : Int} (h : enW M K S T s k) (hk : M 1140 s 0 = k) (s0 : 0 ≤ s) (s1 : s < 8) (k1 : k < 6) (hs : ∀ i j, S 1158 i j = M 1158 i j) (hq : R_bqueued M K) (hr : R_bqueue M K) (hx : BXT M K) : BXT S T := by
  intro i i0 i1
  obtain ⟨h1, h2, h3, h4, h5, h6, h7, h8, h9⟩ := h
  have qi := hq i i0 i1
  have qs := hq s s0 s1
  obtain ⟨x1, x2, x3⟩ := hx i i0 i1
  have j1 : ∀ j, j ≠ 0 → S 1140 i j = M 1140 i j := fun j hj => by rw [h1, if_neg (fun w => hj w.2)]
  have fq : 0 < M 1140 i 0 → ∀ j, 0 ≤ j → j < 7 → qC S i 0 j = qC M i 0 j := fun g j a b => h2 i (7 * 0 + j) (by
    by_cases e : i = s
    · exact Or.inr (Or.inl (by rw [e] at g; omega))
    · exact Or.inl e)
  have ft : 0 < M 1140 i 0 → ∀ j, 0 ≤ j → j < 24 → T 2259 (144 * i + j) 0 = K 2259 (144 * i + j) 0 := fun g j a b => h8 _ (by
    by_cases e : i = s
    · rw [e] at g ⊢
      omega
    · omega)
  have c0 : 0 < M 1140 i 0 → 0 < S 1140 i 0 := fun g => by
    rw [h1]
    by_cases e : i = s ∧ (0 : Int) = 0
    · rw [if_pos e]
      omega
    · rw [if_neg e]
      exact g
  rw [j1 1 (by decide), j1 2 (by decide)]
  refine ⟨fun w => ?_, fun w => c0 (x2 w), fun w g => ?_⟩
  · obtain ⟨y1, y2, y3, y4⟩ := x1 w
    have qo := (hr i 0 i0 i1 (Int.le_refl 0) y1).1
    have n14 := qo.2.2.2.2.2.2.2.2.1
    rw [fq y1 4 (by decide) (by decide)]
    exact ⟨c0 y1, y2, y3, fun j a b => by
      rw [hs, ft y1 j a (by omega)]
      exact y4 j a b⟩
  · by_cases e : 0 < M 1140 i 0
    · rw [fq e 6 (by decide) (by decide)]
      exact x3 w e
    · by_cases es : i = s
      · have k0 : k = 0 := by
          rw [es] at e
          omega
        rw [k0] at h4
        rw [es, h4]
        decide
      · rw [h1, if_neg (fun z => es z.1)] at g
        exact absurd g e
def BQ (M K : qm) : Prop := R_bqueued M K ∧ R_baddr M K ∧ R_bbusy M K ∧ R_bsaying M K ∧ R_bcounts M K ∧ R_banswer M K ∧ R_bqueue M K ∧ BXT M K
theorem BQ_x {M M' K K' : qm} (c1 : ∀ i j, M' 1140 i j = M 1140 i j) (c2 : ∀ i j, M' 1149 i j = M 1149 i j) (c3 : ∀ i j, M' 1158 i j = M 1158 i j) (hk : ∀ b, bsA b = true ∨ b = 2258 ∨ b = 2259 → ∀ i j, K' b i j = K b i j) (h : BQ M K) : BQ M' K' := by
  obtain ⟨h1, h2, h3, h4, h5, h6, h7, h8⟩ := h
  refine ⟨?_, ?_, ?_, ?_, ?_, ?_, R_bqueue_x c1 c2 (hk _ (Or.inr (Or.inr rfl))) h7, BXT_x c1 c2 c3 (hk _ (Or.inr (Or.inr rfl))) h8⟩
  · intro s s0 s1
    rw [c1, hk _ (Or.inr (Or.inl rfl))]
    exact h1 s s0 s1
  · intro s s0 s1
    rw [c1, hk _ (Or.inl rfl)]
    exact h2 s s0 s1
  · intro s s0 s1
    rw [c1, hk _ (Or.inl rfl)]
    exact h3 s s0 s1
  · intro s s0 s1
    rw [c1, c1, hk _ (Or.inl rfl), hk _ (Or.inl rfl)]
    exact h4 s s0 s1
  · intro s s0 s1
    rw [c1, c1, c1, hk _ (Or.inl rfl), hk _ (Or.inl rfl), hk _ (Or.inl rfl)]
    exact h5 s s0 s1
  · intro s s0 s1
    rw [c1, c1, hk _ (Or.inl rfl), hk _ (Or.inl rfl)]
    exact h6 s s0 s1
theorem en_BQ {M K S T : qm} {s k : Int} (h : enW M K S T s k) (s0 : 0 ≤ s) (s1 : s < 8) (hk : (M 1140 s 0) = k) (k1 : k < 6) (hs : ∀ i j, S 1158 i j = M 1158 i j) (hr : BQ M K) : BQ S T := by
  obtain ⟨h1, h2, h3, h4, h5, h6, h7, h8⟩ := hr
  have q := h1 s s0 s1
  exact ⟨en_queued h s0 s1 (by omega) k1 h1, en_addr h h2, en_busy h h3, en_saying h h4, en_counts h h5, en_answer h h6, en_queue h s0 s1 hk (by omega) k1 h1 h7, en_BXT h hk s0 s1 k1 hs h1 h7 h8⟩
/-- set points: class from M to S, reference from K to T -/
theorem setp_r {M K : qm} {a d : Int} (a0 : 0 ≤ a) (a1 : a < 20) (d01 : d = 0 ∨ d = 1) (h_points : R_points M K) {r : Int} (hr : M 1276 r 2 = d) (hk : (K 2220 a 0) = (M 1197 a 1)) : qW (qf_X4_setDone_J104 20000 a r M) (fun x => qW (qf_X18_does_J43 20000 a d K) (fun y => R_points x.2 y.2 ∧ (∀ b i j, b ≠ 1135 → x.2 b i j = M b i j) ∧ (∀ b i j, b ≠ 2247 → y.2 b i j = K b i j))) := by
  have e6 : Int.tmod a 6 = a % 6 := tm_e a0
  unfold qf_X4_setDone_J104 qf_X18_does_J43
  rw [if_pos ⟨a0, a1⟩, if_pos (show 0 ≤ a ∧ a < 40 by omega), hk, e6, w32_id (x := 4 + a % 6) (by omega) (by omega)]
  by_cases e : (M 1197 a 1) = 3
  · rw [if_pos e, if_pos e, if_pos (by omega), if_pos (by omega)]
    refine qW_bnd (qW_some (qW_bnd (qW_some ⟨fun i i0 i1 => ?_, fun b i j hb => qw_a hb, fun b i j hb => qw_a hb⟩)))
    (try dsimp only)
    rw [hr]
    have q := h_points i i0 i1
    by_cases ei : i = 4 + a % 6
    · rw [ei, qw_s, qw_s]
      omega
    · rw [qw_i ei, qw_i ei]
      exact q
  · rw [if_neg e, if_neg e]
    exact qW_some (qW_some ⟨h_points, fun _ _ _ _ => rfl, fun _ _ _ _ => rfl⟩)
theorem does_both {M K : qm} {a d : Int} (a0 : 0 ≤ a) (a1 : a < 20) (d01 : d = 0 ∨ d = 1) (hB : BQ M K) (h_points : R_points M K) {r : Int} (hr : M 1276 r 2 = d) (hk : (K 2220 a 0) = (M 1197 a 1)) : qW (if (M 1197 a 1) = 2 then (qf_X1_hasRoomInQueue 20000 7 M).bind (fun r23 => if r23 = 0 then qf_X4_setDone_J104 20000 a r M else (qf_X1_enqueue 20000 7 0 a 1 2 (M 1276 r 2) M).bind (fun r27 => qf_X4_setDone_J104 20000 a r r27.2)) else qf_X4_setDone_J104 20000 a r M) (fun x => qW (qf_X18_does 20000 a d K) (fun y => BQ x.2 y.2 ∧ R_points x.2 y.2 ∧ Fg 11325279729724950027965494710678647285481472 M x.2 ∧ Fg 820219086978780714343243095759370041107539690231943260969623997760226754039967563635592039252361216 K y.2 ∧ ∀ b i j, b ≠ 1140 → b ≠ 1149 → b ≠ 1135 → x.2 b i j = M b i j)) := by
  have hBq := hB.1
  have hBa := hB.2.1
  have q7 := hBq 7 (by decide) (by decide)
  have end_ : ∀ (M2 K2 : qm), BQ M2 K2 → R_points M2 K2 → M2 1276 r 2 = d → K2 2220 a 0 = M2 1197 a 1 → Fg 11325279729724950027965494710678647285481472 M M2 → Fg 820219086978780714343243095759370041107539690231943260969623997760226754039967563635592039252361216 K K2 → (∀ b i j, b ≠ 1140 → b ≠ 1149 → b ≠ 1135 → M2 b i j = M b i j) → qW (qf_X4_setDone_J104 20000 a r M2) (fun x => qW (qf_X18_does_J43 20000 a d K2) (fun y => BQ x.2 y.2 ∧ R_points x.2 y.2 ∧ Fg 11325279729724950027965494710678647285481472 M x.2 ∧ Fg 820219086978780714343243095759370041107539690231943260969623997760226754039967563635592039252361216 K y.2 ∧ ∀ b i j, b ≠ 1140 → b ≠ 1149 → b ≠ 1135 → x.2 b i j = M b i j)) := by
    intro M2 K2 b2 p2 r2 k2 f2 g2 s2
    refine qW2_mono (qW2_and (setp_r a0 a1 d01 p2 r2 k2) (fr_X4_setDone_J104 (M0 := M2) Fg_refl) (fr_X18_does_J43 (M0 := K2) Fg_refl)) (fun x y h => ?_)
    obtain ⟨⟨h1, h2, h3⟩, f3, f4⟩ := h
    refine ⟨BQ_x (fun i j => h2 _ _ _ (by decide)) (fun i j => h2 _ _ _ (by decide)) (fun i j => h2 _ _ _ (by decide)) (fun b hb i j => h3 _ _ _ ?_) b2, h1, Fg_tr f2 (Fg_mono f3 rfl), Fg_tr g2 (Fg_mono f4 rfl), fun b i j b1 b2 b3 => (h2 _ _ _ b3).trans (s2 b i j b1 b2 b3)⟩
    rcases hb with hb | rfl | rfl
    · rintro rfl
      cases hb
    · decide
    · decide
  unfold qf_X18_does
  rw [if_pos (show 0 ≤ a ∧ a < 40 by omega), hk]
  by_cases e : (M 1197 a 1) = 2
  · rw [if_pos e, if_pos e, q7.1]
    unfold qf_X1_hasRoomInQueue
    rw [if_pos (by decide)]
    by_cases g : 6 ≤ (M 1140 7 0)
    · rw [if_pos g, if_pos g]
      exact qW_bind (qW_some (qW_pos rfl (end_ M K hB h_points hr hk Fg_refl Fg_refl (fun _ _ _ _ _ _ => rfl))))
    · rw [if_neg g, if_neg g]
      refine qW_bind (qW_some (qW_neg (by decide) ?_))
      rw [hr]
      obtain ⟨r1, er, t1, et, v1, v2, v3, vc, hW⟩ := en_both (M := M) (K := K) (s := 7) (p := 0) (m := a) (n := 2) (b := d) (g := 1) hBq hBa (by decide) (by decide) (by omega) (by decide) (by decide) a0 (by omega) (fun _ => by omega) (by decide) (by decide) (by omega) (by omega)
      have fe : Fg 1993841993677373809355710590420516864 M r1.2 := fr_X1_enqueue (M0 := M) Fg_refl r1 er
      have ft : Fg 820219021793629471639688335169108012007438536584954663659663977403732374699765971208817441383645184 K t1.2 := fr_X12_send (M0 := K) Fg_refl t1 et
      refine qW_eq er ?_
      refine qW_swap (qW_eq et (qW_swap ?_))
      refine end_ r1.2 t1.2 (en_BQ hW (by decide) (by decide) rfl (by omega) (fun i j => vc _ _ _ (by decide) (by decide)) hB) ?_ ?_ ?_ (Fg_mono fe rfl) (Fg_mono ft rfl) (fun b i j b1 b2 _ => vc b i j b1 b2)
      · exact R_points_x (M := M) (K := K) (fun i j => Fg_v fe rfl rfl) (fun i j => Fg_v ft rfl rfl) h_points
      · exact (Fg_v (a := 1276) (j := r) (x := 2) fe rfl rfl).trans hr
      · rw [show t1.2 2220 a 0 = K 2220 a 0 from Fg_v ft rfl rfl, show r1.2 1197 a 1 = M 1197 a 1 from Fg_v fe rfl rfl]
        exact hk
  · rw [if_neg e, if_neg e]
    exact end_ M K hB h_points hr hk Fg_refl Fg_refl (fun _ _ _ _ _ _ => rfl)
