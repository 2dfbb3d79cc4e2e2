/-! ===== the bus: what a telegram leaves ===== -/
def bsA (b : Nat) : Bool := b == 2255 || b == 2257 || b == 2260 || b == 2261 || b == 2262 || b == 2263 || b == 2264 || b == 2265 || b == 2266
/-- station s gets a telegram at place k of its queue: class from M to S, reference from K to T -/
def enW (M K S T : qm) (s k : Int) : Prop := (∀ i j, S 1140 i j = if i = s ∧ j = 0 then k + 1 else M 1140 i j) ∧ (∀ i j, (i ≠ s ∨ j < 7 * k ∨ 7 * k + 7 ≤ j) → S 1149 i j = M 1149 i j) ∧ qOK (qC S s k) ∧ qC S s k 6 = 0 ∧ tgIn T (qC S s k) (144 * s + 24 * k) ∧ T 2258 s 0 = k + 1 ∧ (∀ i, i ≠ s → T 2258 i 0 = K 2258 i 0) ∧ (∀ i, i < 144 * s + 24 * k ∨ 144 * s + 24 * k + 24 ≤ i → T 2259 i 0 = K 2259 i 0) ∧ ∀ b i j, bsA b = true → T b i j = K b i j
theorem en_queued {M K S T : qm} {s k : Int} (h : enW M K S T s k) (s0 : 0 ≤ s) (s1 : s < 8) (k0 : 0 ≤ k) (k1 : k < 6) (hr : R_bqueued M K) : R_bqueued S T := by
  intro i i0 i1
  have q := hr i i0 i1
  rw [h.1]
  by_cases e : i = s
  · rw [if_pos ⟨e, rfl⟩, e, h.2.2.2.2.2.1]
    omega
  · rw [if_neg (fun x => e x.1), h.2.2.2.2.2.2.1 i e]
    exact q
theorem en_queue {M K S T : qm} {s k : Int} (h : enW M K S T s k) (s0 : 0 ≤ s) (s1 : s < 8) (hk : (M 1140 s 0) = k) (k0 : 0 ≤ k) (k1 : k < 6) (hb : R_bqueued M K) (hr : R_bqueue M K) : R_bqueue S T := by
  intro i l i0 i1 l0 l1
  obtain ⟨h1, h2, h3, h4, h5, h6, h7, h8, h9⟩ := h
  rw [h1] at l1
  have qi := hb i i0 i1
  by_cases e : i = s ∧ l = k
  · rw [e.1, e.2]
    exact ⟨h3, fun _ => h4, h5⟩
  · have l2 : l < (M 1140 i 0) := by
      by_cases e2 : i = s
      · rw [if_pos ⟨e2, rfl⟩] at l1
        rw [e2, hk]
        omega
      · rw [if_neg (fun x => e2 x.1)] at l1
        exact l1
    obtain ⟨g1, g2, g3⟩ := hr i l i0 i1 l0 l2
    have eq : ∀ x, 0 ≤ x → x < 7 → qC S i l x = qC M i l x := fun x x0 x1 => h2 i (7 * l + x) (by
      by_cases e2 : i = s
      · exact Or.inr (Or.inl (by rw [e2] at l2; omega))
      · exact Or.inl e2)
    refine ⟨?_, fun x => ?_, ?_⟩
    · unfold qOK
      rw [eq 0 (by decide) (by decide), eq 1 (by decide) (by decide), eq 2 (by decide) (by decide), eq 3 (by decide) (by decide), eq 4 (by decide) (by decide), eq 5 (by decide) (by decide), eq 6 (by decide) (by decide)]
      exact g1
    · rw [eq 6 (by decide) (by decide)]
      exact g2 x
    · refine tgIn_x g3 (fun x x0 x1 => h8 x ?_) eq g1
      by_cases e2 : i = s
      · rw [e2] at l2 x0 x1
        omega
      · omega
theorem en_addr {M K S T : qm} {s k : Int} (h : enW M K S T s k) (hr : R_baddr M K) : R_baddr S T := by
  intro i i0 i1
  rw [h.1, if_neg (by omega), h.2.2.2.2.2.2.2.2 _ _ _ rfl]
  exact hr i i0 i1
theorem en_busy {M K S T : qm} {s k : Int} (h : enW M K S T s k) (hr : R_bbusy M K) : R_bbusy S T := by
  intro i i0 i1
  rw [h.1, if_neg (by omega), h.2.2.2.2.2.2.2.2 _ _ _ rfl]
  exact hr i i0 i1
theorem en_saying {M K S T : qm} {s k : Int} (h : enW M K S T s k) (hr : R_bsaying M K) : R_bsaying S T := by
  intro i i0 i1
  rw [h.1, if_neg (by omega), h.1, if_neg (by omega), h.2.2.2.2.2.2.2.2 _ _ _ rfl, h.2.2.2.2.2.2.2.2 _ _ _ rfl]
  exact hr i i0 i1
theorem en_counts {M K S T : qm} {s k : Int} (h : enW M K S T s k) (hr : R_bcounts M K) : R_bcounts S T := by
  intro i i0 i1
  rw [h.1, if_neg (by omega), h.1, if_neg (by omega), h.1, if_neg (by omega), h.2.2.2.2.2.2.2.2 _ _ _ rfl, h.2.2.2.2.2.2.2.2 _ _ _ rfl, h.2.2.2.2.2.2.2.2 _ _ _ rfl]
  exact hr i i0 i1
/-- answers that are being said -/
def R_banswer (M K : qm) : Prop := ∀ s, 0 ≤ s → s < 8 → ((K 2262 s 0) = -1 ∧ (M 1140 s 9) = -1) ∨ ((K 2262 s 0) = (M 1140 s 8) ∧ 0 ≤ (M 1140 s 8) ∧ (M 1140 s 8) < 256 ∧ (K 2263 s 0) = (M 1140 s 9) ∧ 0 ≤ (M 1140 s 9) ∧ (M 1140 s 9) ≤ 10)
theorem en_answer {M K S T : qm} {s k : Int} (h : enW M K S T s k) (hr : R_banswer M K) : R_banswer S T := by
  intro i i0 i1
  rw [h.1, if_neg (by omega), h.1, if_neg (by omega), h.2.2.2.2.2.2.2.2 _ _ _ rfl, h.2.2.2.2.2.2.2.2 _ _ _ rfl]
  exact hr i i0 i1
/-- both sides at once -/
theorem en_both {M K : qm} (h_bqueued : R_bqueued M K) (h_baddr : R_baddr M K) {s p m n b g : Int} (s0 : 0 ≤ s) (s1 : s < 8) (k1 : (M 1140 s 0) < 6) (p0 : 0 ≤ p) (p1 : p ≤ 3) (m0 : 0 ≤ m) (m1 : m < 65536) (g1 : g ≠ 0 → m < 256) (n0 : 1 ≤ n) (n1 : n ≤ 14) (b0 : 0 ≤ b) (b1 : b < 256) : qW (qf_X1_enqueue 20000 s p m g n b M) (fun r => qW (qf_X12_send 20000 s p m g n b K) (fun t => r.1 = (M 1140 s 0) + 1 ∧ t.1 = (M 1140 s 0) + 1 ∧ t.2 2156 0 0 = K 2156 0 0 ∧ (∀ c i j, c ≠ 1140 → c ≠ 1149 → r.2 c i j = M c i j) ∧ enW M K r.2 t.2 s (M 1140 s 0))) := by
  have q := h_bqueued s s0 s1
  have qa := h_baddr s s0 s1
  obtain ⟨r, er, c1, c2, c3, c4, c5⟩ := enqueue_r (M := M) (s := s) (p := p) (m := m) (n := n) (b := b) (g := g) s0 s1 rfl q.2.1 k1
  refine ⟨r, er, ?_⟩
  refine qW_mono (qW_and (send_r (K := K) (s := s) (p := p) (m := m) (n := n) (b := b) (g := g) (q := qC r.2 s (M 1140 s 0)) c4.1 (by rw [c4.2.1]; exact qa.1.symm) c4.2.2.1 c4.2.2.2.1 c4.2.2.2.2.1 c4.2.2.2.2.2.1 c4.2.2.2.2.2.2 s0 s1 q.1 q.2.1 k1 p0 p1 (by omega) (by omega) m0 m1 n0 n1 b0 b1) (fr_X12_send (M0 := K) Fg_refl)) (fun t ht => ?_)
  obtain ⟨⟨t1, t2, t3, t4, t5⟩, ft⟩ := ht
  have ft : Fg 820219021793629471639688335169108012007438536584954663659663977403732374699765971208817441383645184 K t.2 := ft
  refine ⟨c1, t1, ft 2156 0 0 rfl, c5, c2, c3, ?_, c4.2.2.2.2.2.2, t2, t3, t4, t5, fun c i j hc => ?_⟩
  · unfold qOK
    rw [c4.1, c4.2.1, c4.2.2.1, c4.2.2.2.1, c4.2.2.2.2.1, c4.2.2.2.2.2.1, c4.2.2.2.2.2.2]
    by_cases e : g = 0
    · rw [if_pos e]
      omega
    · rw [if_neg e]
      have := g1 e
      omega
  · unfold bsA at hc
    simp only [Bool.or_eq_true, beq_iff_eq] at hc
    rcases hc with (((((((rfl | rfl) | rfl) | rfl) | rfl) | rfl) | rfl) | rfl) | rfl <;> exact Fg_v ft rfl rfl
/-- what an event does to program points, both sides -/
theorem op_send {M K : qm} {x1 x2 x3 x4 x5 x6 : Int} (b4 : x4 = 0 ∨ x4 = 1) (h_built : R_built M K) (h_bqueued : R_bqueued M K) (h_baddr : R_baddr M K) (h_bbusy : R_bbusy M K) (h_bsaying : R_bsaying M K) (h_bcounts : R_bcounts M K) (h_banswer : R_banswer M K) (h_bqueue : R_bqueue M K) : oK2 cI (qf_L_send 20000 x1 x2 x3 x4 x5 x6 M) (qf_X18_send 20000 x1 x2 x3 x4 x5 x6 K) (fun M' K' => R_bqueued M' K' ∧ R_baddr M' K' ∧ R_bbusy M' K' ∧ R_bsaying M' K' ∧ R_bcounts M' K' ∧ R_banswer M' K' ∧ R_bqueue M' K') := by
  have s_built := h_built
  unfold R_built at s_built
  have hq : (0 ≤ x1 ∧ x1 < 8) → (0 ≤ (M 1140 x1 0) ∧ (M 1140 x1 0) ≤ 6 ∧ (K 2258 x1 0) = (M 1140 x1 0)) := fun h => by
    have q := h_bqueued x1 h.1 h.2
    omega
  unfold oK2
  unfold qf_L_send qf_X11_send qf_X11_send_J32 qf_X11_send_J42 qf_X11_send_J43 qf_X11_send_J73 qf_X11_send_J74 qf_X1_hasRoomInQueue qf_X11_send_J99 qf_X11_send_J100 qf_X11_isStation qf_X18_send qf_X18_send_J32 qf_X18_send_J66 qf_X18_send_J67 qf_X18_send_J98 qf_X18_send_J102 qf_X18_send_J103
  by_cases hx : 0 ≤ x1 ∧ x1 < 8
  · have hq2 := hq hx
    repeat' first
      | ((with_reducible show qW ((qf_X1_enqueue 20000 x1 x2 x3 x4 x5 x6 M).bind _) _); obtain ⟨r, er, t, et, hv1, hv2, hv3, _, hW⟩ := en_both (M := M) (K := qw K 2156 0 0 0) (s := x1) (p := x2) (m := x3) (n := x5) (b := x6) (g := x4) (R_bqueued_x (M := M) (K := K) (fun _ _ => rfl) (fun _ _ => rfl) h_bqueued) (R_baddr_x (M := M) (K := K) (fun _ _ => rfl) (fun _ _ => rfl) h_baddr) hx.1 hx.2 (by omega) (by omega) (by omega) (by omega) (by omega) (by omega) (by omega) (by omega) (by omega) (by omega); (with_reducible refine qW_eq er ?_); clear er)
      | with_reducible refine qW_eq et ?_
      | with_reducible refine qW_within (fun _ => ?_) (fun _ _ => ?_)
      | with_reducible refine qW_isIn (fun _ => ?_) (fun _ _ => ?_)
      | with_reducible refine qW_na (fun _ => ?_) (fun _ => ?_)
      | with_reducible refine qW_ns (fun _ => ?_) (fun _ => ?_)
      | (with_reducible refine qW_goes (fun _ => ?_) (fun _ _ => ?_) (fun _ _ => ?_) <;> (try dsimp only) <;> (try simp only [qw_ap, qfl1_ap, qfl2_ap, qcp1_ap, qcp2_ap, false_and, true_and, and_true, and_false, and_self, if_false, if_true, reduceIte, Nat.reduceEqDiff, Int.reduceEq, Int.reduceNeg]))
      | (with_reducible refine qW_stays (by omega) (fun _ => ?_) (fun _ => ?_) <;> (try dsimp only) <;> (try simp only [qw_ap, qfl1_ap, qfl2_ap, qcp1_ap, qcp2_ap, false_and, true_and, and_true, and_false, and_self, if_false, if_true, reduceIte, Nat.reduceEqDiff, Int.reduceEq, Int.reduceNeg]))
      | (exfalso; omega)
      | with_reducible refine qW_bind ?_
      | (with_reducible refine qW_bnd ?_; try simp only [qw_ap, qfl1_ap, qfl2_ap, qcp1_ap, qcp2_ap, false_and, true_and, and_true, and_false, and_self, if_false, if_true, reduceIte, Nat.reduceEqDiff, Int.reduceEq, Int.reduceNeg])
      | (with_reducible refine qW_some ?_; (try dsimp only); try simp only [qw_ap, qfl1_ap, qfl2_ap, qcp1_ap, qcp2_ap, false_and, true_and, and_true, and_false, and_self, if_false, if_true, reduceIte, Nat.reduceEqDiff, Int.reduceEq, Int.reduceNeg])
      | ((with_reducible refine qW_no ?_); omega)
      | with_reducible refine qW_pos rfl ?_
      | ((with_reducible refine qW_pos ?_ ?_); omega)
      | ((with_reducible refine qW_neg ?_ ?_); (first | omega | decide))
      | with_reducible refine qW_ite (fun _ => ?_) (fun _ => ?_)
      | dsimp only
    all_goals first
      | (refine ⟨fun x => absurd x (by decide), R_bqueued_x (M := M) (K := K) (fun _ _ => rfl) (fun _ _ => rfl) h_bqueued, R_baddr_x (M := M) (K := K) (fun _ _ => rfl) (fun _ _ => rfl) h_baddr, R_bbusy_x (M := M) (K := K) (fun _ _ => rfl) (fun _ _ => rfl) h_bbusy, R_bsaying_x (M := M) (K := K) (fun _ _ => rfl) (fun _ _ => rfl) (fun _ _ => rfl) h_bsaying, R_bcounts_x (M := M) (K := K) (fun _ _ => rfl) (fun _ _ => rfl) (fun _ _ => rfl) (fun _ _ => rfl) h_bcounts, ?_, ?_⟩; (exact h_banswer); (exact R_bqueue_x (fun _ _ => rfl) (fun _ _ => rfl) (fun _ _ => rfl) h_bqueue))
      | skip
    all_goals (
      have hW2 : enW M (qw K 2156 0 0 0) (qw r.2 2332 0 0 r.1) t.2 x1 (M 1140 x1 0) := hW
      have hk := hq2
      refine ⟨hv3, fun _ => ?_, en_queued hW2 hx.1 hx.2 hk.1 (by omega) (R_bqueued_x (M := M) (K := K) (fun _ _ => rfl) (fun _ _ => rfl) h_bqueued), en_addr hW2 (R_baddr_x (M := M) (K := K) (fun _ _ => rfl) (fun _ _ => rfl) h_baddr), en_busy hW2 (R_bbusy_x (M := M) (K := K) (fun _ _ => rfl) (fun _ _ => rfl) h_bbusy), en_saying hW2 (R_bsaying_x (M := M) (K := K) (fun _ _ => rfl) (fun _ _ => rfl) (fun _ _ => rfl) h_bsaying), en_counts hW2 (R_bcounts_x (M := M) (K := K) (fun _ _ => rfl) (fun _ _ => rfl) (fun _ _ => rfl) (fun _ _ => rfl) h_bcounts), en_answer hW2 h_banswer, ?_⟩
      · show r.1 = t.1
        rw [hv1, hv2]
      · exact en_queue hW2 hx.1 hx.2 rfl hk.1 (by omega) (R_bqueued_x (M := M) (K := K) (fun _ _ => rfl) (fun _ _ => rfl) h_bqueued) (R_bqueue_x (fun _ _ => rfl) (fun _ _ => rfl) (fun _ _ => rfl) h_bqueue))
  · clear hq
    repeat' first
      | with_reducible refine qW_within (fun _ => ?_) (fun _ _ => ?_)
      | with_reducible refine qW_isIn (fun _ => ?_) (fun _ _ => ?_)
      | with_reducible refine qW_na (fun _ => ?_) (fun _ => ?_)
      | with_reducible refine qW_ns (fun _ => ?_) (fun _ => ?_)
      | (with_reducible refine qW_goes (fun _ => ?_) (fun _ _ => ?_) (fun _ _ => ?_) <;> (try dsimp only) <;> (try simp only [qw_ap, qfl1_ap, qfl2_ap, qcp1_ap, qcp2_ap, false_and, true_and, and_true, and_false, and_self, if_false, if_true, reduceIte, Nat.reduceEqDiff, Int.reduceEq, Int.reduceNeg]))
      | (with_reducible refine qW_stays (by omega) (fun _ => ?_) (fun _ => ?_) <;> (try dsimp only) <;> (try simp only [qw_ap, qfl1_ap, qfl2_ap, qcp1_ap, qcp2_ap, false_and, true_and, and_true, and_false, and_self, if_false, if_true, reduceIte, Nat.reduceEqDiff, Int.reduceEq, Int.reduceNeg]))
      | (exfalso; omega)
      | with_reducible refine qW_bind ?_
      | (with_reducible refine qW_bnd ?_; try simp only [qw_ap, qfl1_ap, qfl2_ap, qcp1_ap, qcp2_ap, false_and, true_and, and_true, and_false, and_self, if_false, if_true, reduceIte, Nat.reduceEqDiff, Int.reduceEq, Int.reduceNeg])
      | (with_reducible refine qW_some ?_; (try dsimp only); try simp only [qw_ap, qfl1_ap, qfl2_ap, qcp1_ap, qcp2_ap, false_and, true_and, and_true, and_false, and_self, if_false, if_true, reduceIte, Nat.reduceEqDiff, Int.reduceEq, Int.reduceNeg])
      | ((with_reducible refine qW_no ?_); omega)
      | with_reducible refine qW_pos rfl ?_
      | ((with_reducible refine qW_pos ?_ ?_); omega)
      | ((with_reducible refine qW_neg ?_ ?_); (first | omega | decide))
      | with_reducible refine qW_ite (fun _ => ?_) (fun _ => ?_)
      | dsimp only
    all_goals first
      | (refine ⟨fun x => absurd x (by decide), R_bqueued_x (M := M) (K := K) (fun _ _ => rfl) (fun _ _ => rfl) h_bqueued, R_baddr_x (M := M) (K := K) (fun _ _ => rfl) (fun _ _ => rfl) h_baddr, R_bbusy_x (M := M) (K := K) (fun _ _ => rfl) (fun _ _ => rfl) h_bbusy, R_bsaying_x (M := M) (K := K) (fun _ _ => rfl) (fun _ _ => rfl) (fun _ _ => rfl) h_bsaying, R_bcounts_x (M := M) (K := K) (fun _ _ => rfl) (fun _ _ => rfl) (fun _ _ => rfl) (fun _ _ => rfl) h_bcounts, ?_, ?_⟩; (exact h_banswer); (exact R_bqueue_x (fun _ _ => rfl) (fun _ _ => rfl) (fun _ _ => rfl) h_bqueue))
