section WX
variable {M K N : qm} {a b c d k n r s t u v x y i j S g l h to : Int} {E : Int → Int → Prop} {dn dn' : Int → Int → Prop}
theorem EDG_b (hO : OWR M S) (S0 : 0 ≤ S) : ∀ u v, EDG M u v → (-1 ≤ u ∧ u < S) ∧ -1 ≤ v ∧ v < S := by
  rintro u v ⟨l, d, t, _, _, _, _, _, _, z⟩
  have w := lr_b (l := l) (t := t) hO S0
  rcases z with ⟨rfl, rfl⟩ | ⟨rfl, rfl⟩
  · exact w
  · exact ⟨w.2, w.1⟩
/-- the edges of lines before l, of l's doors before d -/
def EPB (M : qm) (l d u v : Int) : Prop := ∃ k e t, 0 ≤ k ∧ 0 ≤ e ∧ e < (M 29 k 0) ∧ (k < l ∨ (k = l ∧ e < d)) ∧ (M 30 k (3 * e)) ≤ t ∧ t < (M 30 k (3 * e + 1)) ∧ ((lef M k t = u ∧ rit M k t = v) ∨ (lef M k t = v ∧ rit M k t = u))
theorem round_r (h_lines : R_lines M K) (h_ends : R_ends M K) (h_doorn : R_doorn M K) (h_doors : R_doors M K) (hO : OWR M S) (S0 : 0 ≤ S) (S1 : S ≤ 100) (r0 : 0 ≤ r) (r1 : r ≤ S) (h : BFI (EDG M) s S M N r 0 (fun _ _ => False)) : qW (qf_X2_doorsOnWay_L59 20000 20000 to 0 r 0 N) (fun o => ∃ g N', o = .inr (g, N') ∧ (g = 0 ∨ g = 1) ∧ BFI (EDG M) s S M N' r g (EDG M)) := by
  have s_lines := h_lines
  unfold R_lines at s_lines
  unfold qf_X2_doorsOnWay_L59
  refine qW_for (M 7 0 0) (fun l u => ∃ g N', u = (to, g, r, l, N') ∧ (g = 0 ∨ g = 1) ∧ BFI (EDG M) s S M N' r g (EPB M l 0)) ?_ ?_ ⟨0, N, rfl, Or.inl rfl, BFI_m h (fun u v _ _ _ _ z => by
    obtain ⟨k, e, t, a, b, c, d, _⟩ := z
    omega)⟩ (by omega) (by omega)
  · rintro l _ l0 l1 ⟨g, N', rfl, hg, hN⟩
    have dn6 := h_doorn l l0 (by omega)
    have nl : N' 7 0 0 = (M 7 0 0) := hN.1 _ _ _ (by decide)
    unfold qf_X2_doorsOnWay_L59_b
    (try dsimp only)
    rw [if_neg (by omega), w32_id (x := l + 1) (by omega) (by omega)]
    refine qW_call (Q := fun o => ∃ g N', o = .inr (g, N') ∧ (g = 0 ∨ g = 1) ∧ BFI (EDG M) s S M N' r g (EPB M (l + 1) 0)) ?_ ?_
    · unfold qf_X2_doorsOnWay_L74
      refine qW_for (M 29 l 0) (fun d u => ∃ g N', u = (to, g, r, l, d, N') ∧ (g = 0 ∨ g = 1) ∧ BFI (EDG M) s S M N' r g (EPB M l d)) ?_ ?_ ⟨g, N', rfl, hg, hN⟩ (by omega) (by omega)
      · rintro d _ d0 d1 ⟨g, N', rfl, hg, hN⟩
        have nd : N' 29 l 0 = (M 29 l 0) := hN.1 _ _ _ (by decide)
        unfold qf_X2_doorsOnWay_L74_b qf_X2_doorsOnWay_J106
        (try dsimp only)
        rw [if_pos ⟨l0, by omega⟩, if_neg (by omega), w32_id (x := d + 1) (by omega) (by omega)]
        refine qW_call (go_r h_lines h_ends h_doorn h_doors hO S0 S1 r0 r1 l0 l1 d0 d1 hN) ?_
        rintro ⟨g2, N2⟩ ⟨hg2, hN2⟩
        (try dsimp only at hg2 hN2 ⊢)
        have st : ∀ g3, (if g2 = 0 then g else 1) = g3 → BFI (EDG M) s S M N2 r g3 (EPB M l (d + 1)) := by
          intro g3 e
          rw [e] at hN2
          refine BFI_m hN2 (fun u v _ _ _ _ z => Or.inl ?_)
          obtain ⟨k, e, t, a, b, c, z, t0, t1, w⟩ := z
          by_cases ge : k = l ∧ e = d
          · rw [ge.1, ge.2] at t0 t1
            rw [ge.1] at w
            exact Or.inr ⟨t, t0, t1, w⟩
          · exact Or.inl ⟨k, e, t, a, b, c, by omega, t0, t1, w⟩
        by_cases g20 : g2 = 0
        · rw [if_pos g20]
          rw [if_pos g20] at st
          by_cases g00 : g = 0
          · rw [if_pos g00]
            exact qW_some ⟨0, N2, rfl, Or.inl rfl, st 0 g00⟩
          · rw [if_neg g00]
            exact qW_some ⟨1, N2, rfl, Or.inr rfl, st 1 (by omega)⟩
        · rw [if_neg g20]
          rw [if_neg g20] at st
          exact qW_some ⟨1, N2, rfl, Or.inr rfl, st 1 rfl⟩
      · rintro _ ⟨g, N', rfl, hg, hN⟩
        have nd : N' 29 l 0 = (M 29 l 0) := hN.1 _ _ _ (by decide)
        unfold qf_X2_doorsOnWay_L74_b
        (try dsimp only)
        rw [if_pos ⟨l0, by omega⟩, if_pos (by omega)]
        refine qW_some ⟨g, N', rfl, hg, BFI_m hN (fun u v _ _ _ _ z => Or.inl ?_)⟩
        obtain ⟨k, e, t, a, b, c, z, t0, t1, w⟩ := z
        refine ⟨k, e, t, a, b, c, ?_, t0, t1, w⟩
        by_cases ek : k = l
        · rw [ek] at c
          omega
        · omega
    · rintro _ ⟨g, N', rfl, hg, hN⟩
      exact qW_some ⟨g, N', rfl, hg, hN⟩
  · rintro _ ⟨g, N', rfl, hg, hN⟩
    have nl : N' 7 0 0 = (M 7 0 0) := hN.1 _ _ _ (by decide)
    unfold qf_X2_doorsOnWay_L59_b
    (try dsimp only)
    rw [if_pos (by omega)]
    refine qW_some ⟨g, N', rfl, hg, BFI_m hN (fun u v _ _ _ _ z => Or.inl ?_)⟩
    obtain ⟨l, d, t, a, b, c, d1, t0, t1, w⟩ := z
    exact ⟨l, d, t, a, c, d1, Or.inl b, t0, t1, w⟩
/-- before round r -/
def RND (M N : qm) (s S r g : Int) : Prop := ofr 725 M N ∧ (∀ v, -1 ≤ v → v < S → ((N 725 (v + 1) 0) = -1 ∨ (0 ≤ (N 725 (v + 1) 0) ∧ (N 725 (v + 1) 0) ≤ r)) ∧ ∀ k, 0 ≤ k → k ≤ r → ((N 725 (v + 1) 0) = k ↔ DK (EDG M) s v k)) ∧ ((g = 0 ∧ ∀ v k, -1 ≤ v → v < S → (N 725 (v + 1) 0) = -1 → ¬ DK (EDG M) s v k) ∨ (g = 1 ∧ ∀ k, 0 ≤ k → k ≤ r → ∃ v, -1 ≤ v ∧ v < S ∧ (N 725 (v + 1) 0) = k))
theorem rnd_r (S0 : 0 ≤ S) (h : RND M N s S r 1) : r ≤ S := by
  obtain ⟨h1, h2, h3⟩ := h
  rcases h3 with ⟨z, _⟩ | ⟨_, h3⟩
  · omega
  · by_cases r0 : 0 ≤ r
    · have ch : ∀ k, ∃ v, 0 ≤ k → k ≤ r → -1 ≤ v ∧ v < S ∧ (N 725 (v + 1) 0) = k := fun k => by
        by_cases g : 0 ≤ k ∧ k ≤ r
        · obtain ⟨v, hv⟩ := h3 k g.1 g.2
          exact ⟨v, fun _ _ => hv⟩
        · exact ⟨0, fun a b => absurd ⟨a, b⟩ g⟩
      have uf : ∃ f : Int → Int, ∀ k, 0 ≤ k → k ≤ r → -1 ≤ f k ∧ f k < S ∧ (N 725 (f k + 1) 0) = k := ⟨fun k => Classical.choose (ch k), fun k => Classical.choose_spec (ch k)⟩
      obtain ⟨f, hf⟩ := uf
      have q := inj_le (N := S + 1) (r + 1).toNat (fun _ => True) (fun k => f k + 1) (fun k a b => by
        have w := hf k a (by omega)
        exact ⟨by omega, by omega, trivial⟩) (fun i j a b c z => by
        have w1 := hf i a (by omega)
        have w2 := hf j (by omega) (by omega)
        (try dsimp only at z)
        rw [z] at w1
        omega)
      have q2 : sI (fun _ => b01 True) (S + 1) ≤ S + 1 := sI_l (by omega) (fun _ _ _ => b01_b.2)
      (try dsimp only at q)
      omega
    · omega
theorem way_C (h_lines : R_lines M K) (h_ends : R_ends M K) (h_doorn : R_doorn M K) (h_doors : R_doors M K) (hO : OWR M S) (hs : (M 51 3 0) = S) (S0 : 0 ≤ S) (S1 : S ≤ 100) (s0 : -1 ≤ s) (s1 : s < S) (t0 : -1 ≤ to) (t1 : to < S) : qW (qf_X2_doorsOnWay 20000 s to M) (fun o => ofr 725 M o.2 ∧ ((0 ≤ o.1 ∧ o.1 ≤ 101 ∧ DK (EDG M) s to o.1) ∨ (o.1 = -2 ∧ ∀ k, ¬ DK (EDG M) s to k))) := by
  have hE := EDG_b hO S0
  unfold qf_X2_doorsOnWay
  rw [hs, w32_id (x := S + 1) (by omega) (by omega), if_pos (by omega)]
  refine qW_bnd ?_
  rw [w32_id (x := s + 1) (by omega) (by omega), if_pos (by omega)]
  refine qW_bnd ?_
  refine qW_call (Q := fun o => ∃ N r g, o = .inr ((), N) ∧ RND M N s S r g ∧ 0 ≤ r ∧ r ≤ S + 1 ∧ (S < r ∨ g = 0 ∨ (N 725 (to + 1) 0) ≠ -1)) ?_ ?_
  · unfold qf_X2_doorsOnWay_L29
    refine qW_loop (fun u => ∃ r g N, u = (to, g, r, N) ∧ RND M N s S r g ∧ 0 ≤ r ∧ r ≤ S + 1 ∧ (g = 0 ∨ g = 1)) (fun u => (102 - u.2.2.1).toNat) ?_ 20000 _ ⟨0, 1, _, rfl, ⟨fun b i j hb => ?_, fun v v0 v1 => ?_, Or.inr ⟨rfl, fun k k0 k1 => ⟨s, s0, s1, ?_⟩⟩⟩, by decide, by omega, Or.inr rfl⟩ (by (try dsimp only); omega)
    · rintro _ ⟨r, g, N, rfl, hN, r0, rx, hg⟩
      have sN : N 51 3 0 = S := (hN.1 _ _ _ (by decide)).trans hs
      unfold qf_X2_doorsOnWay_L29_b
      (try dsimp only)
      by_cases gr : S < r
      · rw [if_pos (by omega)]
        exact qW_some ⟨N, r, g, rfl, hN, r0, rx, Or.inl gr⟩
      · rw [if_neg (by omega)]
        by_cases g0 : g = 0
        · rw [if_pos g0]
          exact qW_some ⟨N, r, g, rfl, hN, r0, rx, Or.inr (Or.inl g0)⟩
        · rw [if_neg g0, w32_id (x := to + 1) (by omega) (by omega), if_pos (by omega)]
          by_cases gw : (N 725 (to + 1) 0) = -1
          · rw [if_pos gw]
            have B : BFI (EDG M) s S M N r 0 (fun _ _ => False) := by
              refine ⟨hN.1, fun v v0 v1 => ⟨?_, (hN.2.1 v v0 v1).2, fun z => ?_⟩, fun _ _ _ _ _ _ z => z.elim, Or.inl ⟨rfl, fun v v0 v1 z => ?_⟩⟩
              · rcases (hN.2.1 v v0 v1).1 with w | w
                · exact Or.inl w
                · exact Or.inr (by omega)
              · rcases (hN.2.1 v v0 v1).1 with w | w <;> omega
              · rcases (hN.2.1 v v0 v1).1 with w | w <;> omega
            refine qW_call (round_r (to := to) h_lines h_ends h_doorn h_doors hO S0 S1 r0 (show r ≤ S by omega) B) ?_
            rintro _ ⟨g2, N2, rfl, hg2, hB⟩
            (try dsimp only)
            rw [w32_id (x := r + 1) (by omega) (by omega)]
            have fin := BFI_r r0 hB (fun _ _ _ _ _ _ z => z) hE
            refine qW_some ⟨⟨r + 1, g2, N2, rfl, ⟨hB.1, fin.1, ?_⟩, by omega, by omega, hg2⟩, by (try dsimp only); omega⟩
            rcases hg2 with e | e
            · exact Or.inl ⟨e, fin.2 e⟩
            · refine Or.inr ⟨e, fun k k0 k1 => ?_⟩
              by_cases ek : k = r + 1
              · rcases hB.2.2.2 with ⟨z, _⟩ | ⟨_, z⟩
                · omega
                · rw [ek]
                  exact z
              · rcases hN.2.2 with ⟨z, _⟩ | ⟨_, z⟩
                · omega
                · obtain ⟨v, v0, v1, v2⟩ := z k k0 (by omega)
                  refine ⟨v, v0, v1, ?_⟩
                  exact ((fin.1 v v0 v1).2 k k0 (by omega)).mpr (((hN.2.1 v v0 v1).2 k k0 (by omega)).mp v2)
          · rw [if_neg gw]
            exact qW_some ⟨N, r, g, rfl, hN, r0, rx, Or.inr (Or.inr gw)⟩
    · rw [qw_a hb, qfl1_ap, if_neg (fun z => hb z.1)]
    · have e : qw (qfl1 M 725 0 (S + 1) (-1)) 725 (s + 1) 0 0 725 (v + 1) 0 = if v = s then 0 else -1 := by
        rw [qw_ap]
        by_cases ev : v = s
        · rw [if_pos ⟨rfl, by omega, rfl⟩, if_pos ev]
        · rw [if_neg (by omega), if_neg ev, qfl1_ap, if_pos ⟨rfl, by omega, by omega, rfl⟩]
      rw [e]
      by_cases ev : v = s
      · rw [if_pos ev, ev]
        refine ⟨Or.inr (by omega), fun k k0 k1 => ?_⟩
        have ek : k = 0 := by omega
        rw [ek]
        exact ⟨fun _ => ⟨RC_0.mpr rfl, fun j hj z => by have := z.1; omega⟩, fun _ => rfl⟩
      · rw [if_neg ev]
        refine ⟨Or.inl rfl, fun k k0 k1 => ?_⟩
        have ek : k = 0 := by omega
        rw [ek]
        exact ⟨fun z => by omega, fun z => absurd (RC_0.mp z.1) ev⟩
    · have ek : k = 0 := by omega
      rw [ek]
      exact qw_s
  · rintro _ ⟨N, r, g, rfl, hN, r0, rx, hx⟩
    (try dsimp only)
    unfold qf_X2_doorsOnWay_J130
    have w := hN.2.1 to t0 t1
    have rS : g = 1 → r ≤ S := fun e => by
      rw [e] at hN
      exact rnd_r S0 hN
    rw [w32_id (x := to + 1) (by omega) (by omega), if_pos (by omega)]
    by_cases gw : (N 725 (to + 1) 0) = -1
    · rw [if_pos gw]
      refine qW_some ⟨hN.1, Or.inr ⟨rfl, fun k z => ?_⟩⟩
      rcases hN.2.2 with ⟨_, y⟩ | ⟨y, _⟩
      · exact y to k t0 t1 gw z
      · have := rS y
        omega
    · rw [if_neg gw, if_pos (by omega)]
      have w0 : 0 ≤ (N 725 (to + 1) 0) ∧ (N 725 (to + 1) 0) ≤ r := by
        rcases w.1 with z | z
        · exact absurd z gw
        · exact z
      have dk := (w.2 _ w0.1 w0.2).mp rfl
      refine qW_some ⟨hN.1, Or.inl ⟨w0.1, ?_, dk⟩⟩
      (try dsimp only)
      omega
end WX
