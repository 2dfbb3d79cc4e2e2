section WT
variable {M K N A B C D D0 E' F G H T V K0 M0 : qm} {a b c d k n m p r q' s t u v x y h i j R S w l g to : Int} {q stt cnt o f : Int → Int} {P : Int → Prop} {E : Int → Int → Prop}
/-- exact up to r steps -/
def BFR (E : Int → Int → Prop) (N : qm) (s S r : Int) : Prop := ∀ v k, -1 ≤ v → v < S → k ≤ r → DK E s v k → (N 2183 (v + 1) 0) = k
/-- in the middle of a pass -/
def WPS (M K N D G : qm) (s S r g i : Int) : Prop := STP (EDG M) K N s S ∧ BFR (EDG M) N s S r ∧ (∀ x, 0 ≤ x → x < i → HDP M G x → DK (EDG M) s (lfs D G x) r → (N 2183 (lfs D G (flp x) + 1) 0) ≤ r + 1) ∧ ((g = 0 ∧ ∀ x, 0 ≤ x → x < i → HDP M G x → (N 2183 (lfs D G (flp x) + 1) 0) ≤ (N 2183 (lfs D G x + 1) 0) + 1) ∨ (g = 1 ∧ r < S))
/-- nothing more to change -/
def WCL (M N D G : qm) (p : Int) : Prop := ∀ x, 0 ≤ x → x < 2 * p → HDP M G x → (N 2183 (lfs D G (flp x) + 1) 0) ≤ (N 2183 (lfs D G x + 1) 0) + 1
theorem DK_le (h : DK E s v k) (h2 : RC E s j v) : k ≤ j := by
  apply Classical.byContradiction
  intro z
  exact h.2 j (by omega) h2
theorem wpass_r (h_lines : R_lines M K) (h_ends : R_ends M K) (h_doorn : R_doorn M K) (h_doors : R_doors M K) (h : FNW M K M0 K0 A D0 D E' F G H C q m p R stt cnt) (hc : CUR M M0) (hO : OWR M S) (S0 : 0 ≤ S) (S1 : S ≤ 100) (s0 : -1 ≤ s) (s1 : s < S) (r0 : 0 ≤ r) (r1 : r ≤ S) (hN : STP (EDG M) K N s S) (hB : BFR (EDG M) N s S r) : qW (qf_X16_way_L47 20000 20000 to 0 0 N) (fun o => ∃ g N', o = .inr (g, N') ∧ STP (EDG M) K N' s S ∧ ((g = 0 ∧ WCL M N' D G p) ∨ (g = 1 ∧ BFR (EDG M) N' s S (r + 1) ∧ r + 1 ≤ S))) := by
  have fp := fnw_fpi h
  have pp : (K 2157 30 0) = p := fp.1.2.2.2.2.2.1
  have p5 := fp.1.2.2.2.2.2.2.2.1
  have p0 := fp.1.2.2.2.2.2.2.1
  have es : ∀ u v, EDG M u v ↔ ∃ s, 0 ≤ s ∧ s < 2 * p ∧ HDP M G s ∧ lfs D G s = u ∧ lfs D G (flp s) = v := fun u v => edg_side h_doorn h_doors h h_ends hc
  have eb := EDG_b hO S0
  unfold qf_X16_way_L47
  refine qW_for (2 * p) (fun i u => ∃ g N', u = (to, g, i, N') ∧ WPS M K N' D G s S r g i) ?_ ?_ ⟨0, N, rfl, hN, hB, fun x a b => by omega, Or.inl ⟨rfl, fun x a b => by omega⟩⟩ (by omega) (by omega)
  · rintro i _ i0 i1 ⟨g, N', rfl, hP⟩
    have hs := hP.1.1
    have hF := FNW_k h hs
    have rn : R_doorn M N' := R_doorn_x rfl (fun _ _ => rfl) (fun i j => hs _ _ _ (by decide)) h_doorn
    have rd : R_doors M N' := R_doors_x (fun _ _ => rfl) (fun _ _ => rfl) (fun i j => hs _ _ _ (by decide)) (fun i j => hs _ _ _ (by decide)) (fun i j => hs _ _ _ (by decide)) (fun i j => hs _ _ _ (by decide)) h_doors
    have re : R_ends M N' := R_ends_x rfl (fun _ _ => rfl) (fun i j => hs _ _ _ (by decide)) (fun i j => hs _ _ _ (by decide)) (fun i j => hs _ _ _ (by decide)) (fun i j => hs _ _ _ (by decide)) h_ends
    have np : (N' 2157 30 0) = (K 2157 30 0) := hs _ _ _ (by decide)
    obtain ⟨z, ez, hz⟩ := hasDoor_e re rn rd hF hc i0 i1
    unfold qf_X16_way_L47_b
    (try dsimp only)
    have ww : w32 (2 * (N' 2157 30 0)) = 2 * p := by
      rw [np, pp]
      exact w32_id (by omega) (by omega)
    rw [if_neg (by rw [ww]; omega), w32_id (x := i + 1) (by omega) (by omega)]
    refine qW_eq ez ?_
    have ext : ∀ (N2 : qm) (g2 : Int), WPS M K N2 D G s S r g2 i → (HDP M G i → DK (EDG M) s (lfs D G i) r → (N2 2183 (lfs D G (flp i) + 1) 0) ≤ r + 1) → (g2 = 0 → HDP M G i → (N2 2183 (lfs D G (flp i) + 1) 0) ≤ (N2 2183 (lfs D G i + 1) 0) + 1) → WPS M K N2 D G s S r g2 (i + 1) := by
      intro N2 g2 hP2 h1 h2
      refine ⟨hP2.1, hP2.2.1, fun x x0 x1 hx hd => ?_, ?_⟩
      · by_cases e : x = i
        · rw [e] at hx hd ⊢
          exact h1 hx hd
        · exact hP2.2.2.1 x x0 (by omega) hx hd
      · rcases hP2.2.2.2 with ⟨e, z⟩ | z
        · refine Or.inl ⟨e, fun x x0 x1 hx => ?_⟩
          by_cases e2 : x = i
          · rw [e2] at hx ⊢
            exact h2 e hx
          · exact z x x0 (by omega) hx
        · exact Or.inr z
    rcases hz with ⟨rfl, hz⟩ | ⟨rfl, hz⟩
    · rw [if_pos rfl]
      exact qW_some ⟨g, N', rfl, ext N' g hP (fun z => absurd z hz) (fun _ z => absurd z hz)⟩
    · rw [if_neg (by decide)]
      have ed : EDG M (lfs D G i) (lfs D G (flp i)) := (es _ _).mpr ⟨i, i0, i1, hz, rfl, rfl⟩
      have bb := eb _ _ ed
      obtain ⟨L, hL⟩ : ∃ L, lfs D G i = L := ⟨_, rfl⟩
      obtain ⟨Q, hQ⟩ : ∃ Q, lfs D G (flp i) = Q := ⟨_, rfl⟩
      have ul := use_left hF i0 i1
      have ur := use_right hF i0 i1
      rw [hL] at ul
      rw [hQ] at ur
      rw [hL, hQ] at ext ed bb
      have bl := stp_b S0 S1 hP.1 bb.1.1 bb.1.2
      have bq := stp_b S0 S1 hP.1 bb.2.1 bb.2.2
      have cL : 0 ≤ L + 1 ∧ L + 1 < 401 := by omega
      have cQ : 0 ≤ Q + 1 ∧ Q + 1 < 401 := by omega
      have w1 : w32 ((N' 2183 (L + 1) 0) + 1) = (N' 2183 (L + 1) 0) + 1 := w32_id (by omega) (by omega)
      refine qW_eq ul ?_
      (try dsimp only)
      rw [w32_id (x := L + 1) (by omega) (by omega), if_pos cL]
      refine qW_eq ur ?_
      (try dsimp only)
      rw [w32_id (x := Q + 1) (by omega) (by omega), if_pos cQ, w1]
      by_cases gl : (N' 2183 (Q + 1) 0) ≤ (N' 2183 (L + 1) 0) + 1
      · rw [if_pos gl]
        refine qW_some ⟨g, N', rfl, ext N' g hP (fun _ hd => ?_) (fun _ _ => gl)⟩
        have := hP.2.1 L r bb.1.1 bb.1.2 (Int.le_refl r) hd
        omega
      · rw [if_neg gl]
        refine qW_eq ur (qW_eq ul ?_)
        (try dsimp only)
        rw [w32_id (x := L + 1) (by omega) (by omega), w32_id (x := Q + 1) (by omega) (by omega), if_pos cL, if_pos cQ, w1]
        refine qW_bnd ?_
        obtain ⟨sw, sv⟩ := stp_w S0 S1 hP.1 bb.1.1 bb.1.2 bb.2.1 bb.2.2 s0 s1 ed (by omega)
        have lt : r < S := by
          apply Classical.byContradiction
          intro z
          have vQ := sv Q
          rw [if_pos rfl] at vQ
          have lS := stp_b S0 S1 sw bb.2.1 bb.2.2
          rw [vQ] at lS
          have rQ : (N' 2183 (L + 1) 0) + 1 ≤ S ∧ RC (EDG M) s ((N' 2183 (L + 1) 0) + 1) Q := by
            rcases lS with e | e
            · rcases bl with e2 | e2
              · omega
              · omega
            · exact e.2
          obtain ⟨k, k1, kd⟩ := DK_ex rQ.2
          have := hP.2.1 Q k bb.2.1 bb.2.2 (by omega) kd
          omega
        have dec : ∀ x, qw N' 2183 (Q + 1) 0 ((N' 2183 (L + 1) 0) + 1) 2183 (x + 1) 0 ≤ (N' 2183 (x + 1) 0) := fun x => by
          rw [sv]
          by_cases e : x = Q
          · rw [if_pos e, e]
            omega
          · rw [if_neg e]
            exact Int.le_refl _
        refine qW_some ⟨1, _, rfl, ext _ 1 ⟨sw, fun v k v0 v1 kr kd => ?_, fun x x0 x1 hx hd => Int.le_trans (dec _) (hP.2.2.1 x x0 x1 hx hd), Or.inr ⟨rfl, lt⟩⟩ (fun _ hd => ?_) (fun z => by omega)⟩
        · have e1 := hP.2.1 v k v0 v1 kr kd
          have b2 := stp_b S0 S1 sw v0 v1
          have d1 := dec v
          rcases b2 with e | e
          · have k0 := kd.1.1
            have b3 := stp_b S0 S1 hP.1 v0 v1
            omega
          · have := DK_le kd e.2.2
            omega
        · have := hP.2.1 L r bb.1.1 bb.1.2 (Int.le_refl r) hd
          rw [sv, if_pos rfl]
          omega
  · rintro _ ⟨g, N', rfl, hP⟩
    have hs := hP.1.1
    have np : (N' 2157 30 0) = (K 2157 30 0) := hs _ _ _ (by decide)
    unfold qf_X16_way_L47_b
    (try dsimp only)
    have ww : w32 (2 * (N' 2157 30 0)) = 2 * p := by
      rw [np, pp]
      exact w32_id (by omega) (by omega)
    rw [if_pos (by rw [ww]; exact Int.le_refl _)]
    refine qW_some ⟨g, N', rfl, hP.1, ?_⟩
    rcases hP.2.2.2 with ⟨e, z⟩ | ⟨e, z⟩
    · exact Or.inl ⟨e, z⟩
    · refine Or.inr ⟨e, fun v k v0 v1 kr kd => ?_, by omega⟩
      by_cases ek : k = r + 1
      · rw [ek] at kd ⊢
        obtain ⟨u, du, ev⟩ := DK_pre r0 kd
        obtain ⟨x, x0, x1, hx, rfl, rfl⟩ := (es _ _).mp ev
        have le := hP.2.2.1 x x0 x1 hx du
        have b2 := stp_b S0 S1 hP.1 v0 v1
        rcases b2 with e | e
        · omega
        · have := DK_le kd e.2.2
          omega
      · exact hP.2.1 v k v0 v1 (by omega) kd
end WT
