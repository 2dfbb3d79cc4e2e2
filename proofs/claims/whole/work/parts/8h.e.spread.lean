/-! ===== passing: the class's smoke behind spreading ===== -/
section PSe
variable {M K N A B C D D0 E F G H T V W Y Z K0 M0 Kv : qm} {a b c d k n m p r s t u v x y h i j R S w l z τ : Int} {q stt cnt o f : Int → Int} {P P' : Int → Int → Prop}
theorem spj_p (h : SPJ M K Y Z Kv P) (e : ∀ j d, P j d ↔ P' j d) : SPJ M K Y Z Kv P' := by
  have : P = P' := funext (fun j => funext (fun d => propext (e j d)))
  rw [← this]
  exact h
theorem dirs_C (h_lines : R_lines M K) (h_ends : R_ends M K) (h_doorn : R_doorn M K) (h_doors : R_doors M K) (h_spaceof : R_spaceof M K) (hb : M 6 11 0 ≠ 0) (h : FNW M K M0 K0 A D0 D E F G H C q m p R stt cnt) (hc : CUR M M0) (hY : ∀ e x y, e ≠ 760 → Y e x y = M e x y) (i0 : 0 ≤ i) (i1 : i < 576) (q0 : 0 ≤ Y 760 i 0) (q1 : Y 760 i 0 < 576) (hS : SPJ M K Y Z Kv P) : ∃ Z' Kv', qf_X10_spreadSmoke_L54 20000 20000 n i 0 Z = some (.inr ((), Z')) ∧ SPJ M K Y Z' Kv' (fun j d => P j d ∨ (j = i ∧ 0 ≤ d ∧ d < 4)) := by
  obtain ⟨Q, hQ⟩ : ∃ Q, Y 760 i 0 = Q := ⟨_, rfl⟩
  rw [hQ] at q0 q1
  obtain ⟨o, e1, Z', Kv', rfl, h1⟩ : qW (qf_X10_spreadSmoke_L54 20000 20000 n i 0 Z) (fun o => ∃ Z' Kv', o = .inr ((), Z') ∧ SPJ M K Y Z' Kv' (fun j d => P j d ∨ (j = i ∧ 0 ≤ d ∧ d < 4))) := by
    unfold qf_X10_spreadSmoke_L54
    refine qW_for 4 (fun d r => ∃ Z Kv, r = (n, i, d, Z) ∧ SPJ M K Y Z Kv (fun j e => P j e ∨ (j = i ∧ 0 ≤ e ∧ e < d))) ?_ ?_ ⟨Z, Kv, rfl, spj_p hS (fun j e => ⟨Or.inl, fun z => z.elim id (fun y => by omega)⟩)⟩ (by omega) (by omega)
    · rintro d _ d0 d1 ⟨Z, Kv, rfl, hs⟩
      have hss := hs
      obtain ⟨s1, s2, s3, s4⟩ := hss
      have nx : ∀ Z Kv, SPJ M K Y Z Kv (fun j e => (P j e ∨ (j = i ∧ 0 ≤ e ∧ e < d)) ∨ (j = i ∧ e = d)) → ∃ Z2 Kv2, ((n, i, d + 1, Z) : Int × Int × Int × qm) = (n, i, d + 1, Z2) ∧ SPJ M K Y Z2 Kv2 (fun j e => P j e ∨ (j = i ∧ 0 ≤ e ∧ e < d + 1)) := fun Z Kv z => ⟨Z, Kv, rfl, spj_p z (fun j e => by
        constructor
        · rintro ((a | a) | a)
          · exact Or.inl a
          · exact Or.inr ⟨a.1, a.2.1, by omega⟩
          · exact Or.inr ⟨a.1, by omega, by omega⟩
        · rintro (a | a)
          · exact Or.inl (Or.inl a)
          · by_cases e : e = d
            · exact Or.inr ⟨a.1, e⟩
            · exact Or.inl (Or.inr ⟨a.1, a.2.1, by omega⟩))⟩
      have zq : Z 760 i 0 = Q := (s2 760 i 0 (by omega) (by decide) (by decide)).trans hQ
      have san : SAN M Z := fun b i j hb => (s2 b i j (by omega) (by omega) (by omega)).trans (hY b i j (by omega))
      have cg := canGo_n h_lines h_ends h_doorn h_doors h hc san q0 q1 d0 (show d ≤ 3 by omega)
      have ce := cb_e (A := Z) q0 q1 d0 (show d ≤ 3 by omega)
      obtain ⟨c, hcc⟩ : ∃ c, cb Q d = c := ⟨_, rfl⟩
      rw [hcc] at ce
      have wd : w32 (d + 1) = d + 1 := w32_id (by omega) (by omega)
      show qW (qf_X10_spreadSmoke_L54_b 20000 n i d Z) _
      unfold qf_X10_spreadSmoke_L54_b
      rw [if_neg (show ¬ 4 ≤ d by omega), if_pos (show 0 ≤ i ∧ i < 576 from ⟨i0, i1⟩), zq, ce]
      simp only [Option.bind_some]
      rw [wd]
      by_cases g1 : c = -1
      · rw [if_pos g1]
        exact qW_some (nx Z Kv (spj_same hs (Or.inl (by rw [hQ, hcc]; exact g1))))
      · have cr := cbk_b q0 q1 d0 (show d ≤ 3 by omega) (by rw [hcc]; exact g1)
        rw [hcc] at cr
        rw [if_neg g1, if_pos (show 0 ≤ c ∧ c < 576 from ⟨cr.1, cr.2.1⟩)]
        by_cases g2 : Z 757 c 0 = 0
        · rw [if_pos g2, if_pos (show 0 ≤ i ∧ i < 576 from ⟨i0, i1⟩), cg]
          simp only [Option.bind_some]
          by_cases g3 : GOC M Q d
          · rw [b01_t g3, if_neg (by decide), addSmoke_r s1 cr.1 cr.2.1 g2]
            simp only [Option.bind_some]
            obtain ⟨x, hx⟩ : ∃ x, c / 24 = x := ⟨_, rfl⟩
            obtain ⟨y, hy⟩ : ∃ y, c % 24 = y := ⟨_, rfl⟩
            have cxy : c = 24 * x + y := by omega
            have so := (h_spaceof hb x y (by omega) (by omega) (by omega) (by omega)).1
            rw [cxy] at g2 ⊢
            exact qW_some (nx _ _ (spj_add hs (by rw [hQ, hcc]; exact cxy) (by omega) (by omega) (by omega) (by omega) g2 (by rw [hQ]; exact g3) (by rw [hY 56 _ 0 (by decide)]; exact so)))
          · rw [b01_f g3, if_pos rfl]
            exact qW_some (nx Z Kv (spj_same hs (Or.inr (Or.inl (by rw [hQ]; exact g3)))))
        · rw [if_neg g2]
          exact qW_some (nx Z Kv (spj_same hs (Or.inr (Or.inr ⟨by rw [hQ, hcc]; exact cr.1, by rw [hQ, hcc]; exact cr.2.1, by rw [hQ, hcc]; exact g2⟩))))
    · rintro _ ⟨Z, Kv, rfl, hs⟩
      show qW (qf_X10_spreadSmoke_L54_b 20000 n i 4 Z) _
      unfold qf_X10_spreadSmoke_L54_b
      rw [if_pos (Int.le_refl _)]
      exact qW_some ⟨Z, Kv, rfl, hs⟩
  exact ⟨Z', Kv', e1, h1⟩
/-- a cell of class index c that has smoke behind spreading -/
def SPR (M : qm) (c : Int) : Prop := M 757 c 0 ≠ 0 ∨ ∃ q d, 0 ≤ q ∧ q < 576 ∧ 0 ≤ d ∧ d < 4 ∧ M 757 q 0 ≠ 0 ∧ cb q d = c ∧ GOC M q d
theorem spread_C (h_lines : R_lines M K) (h_ends : R_ends M K) (h_doorn : R_doorn M K) (h_doors : R_doors M K) (h_spaceof : R_spaceof M K) (hb : M 6 11 0 ≠ 0) (h : FNW M K M0 K0 A D0 D E F G H C q m p R stt cnt) (hc : CUR M M0) (hs : SMK M K) (hτ : 0 ≤ τ) (ht : τ % 10 = 0) : ∃ Z Kv, qf_X10_spreadSmoke 20000 τ M = some ((), Z) ∧ SMK Z Kv ∧ (∀ e x y, ¬ (e = 756 ∧ x = 4) → e ≠ 757 → e ≠ 758 → e ≠ 760 → Z e x y = M e x y) ∧ (∀ e x y, e ≠ 2326 → Kv e x y = K e x y) ∧ ∀ x y, 0 ≤ x → x < 24 → 0 ≤ y → y < 24 → (Kv 2326 (24 * y + x) 0 ≠ 0 ↔ SPR M (24 * x + y)) := by
  obtain ⟨n, Y, eY, n0, n1, hY, hq, hall⟩ := srcs_C (M := M) (fun c c0 c1 => by
    have z := hs.1 (c / 24) (c % 24) (by omega) (by omega) (by omega) (by omega)
    rw [show 24 * (c / 24) + c % 24 = c by omega] at z
    rw [← z.1]
    exact z.2)
  have sY : SMK Y K := by
    refine ⟨fun x y x0 x1 y0 y1 => ?_, ?_, fun r r0 r1 => ?_⟩
    · rw [hY 757 _ _ (by decide)]
      exact hs.1 x y x0 x1 y0 y1
    · show Y 756 4 0 = _
      rw [hY 756 _ _ (by decide)]
      exact hs.2.1
    · rw [hY 758 _ _ (by decide)]
      exact hs.2.2 r r0 r1
  obtain ⟨o, e1, Z, Kv, rfl, h1⟩ : qW (qf_X10_spreadSmoke_L46 20000 20000 n 0 Y) (fun o => ∃ Z Kv, o = .inr ((), Z) ∧ SPJ M K Y Z Kv (fun j d => 0 ≤ j ∧ j < n ∧ 0 ≤ d ∧ d < 4)) := by
    unfold qf_X10_spreadSmoke_L46
    refine qW_for n (fun i r => ∃ Z Kv, r = (n, i, Z) ∧ SPJ M K Y Z Kv (fun j d => 0 ≤ j ∧ j < i ∧ 0 ≤ d ∧ d < 4)) ?_ ?_ ⟨Y, K, rfl, sY, fun _ _ _ _ _ _ => rfl, fun _ _ _ _ => rfl, fun x y x0 x1 y0 y1 => ⟨Or.inl, fun z => z.elim id (fun ⟨j, d, z, _⟩ => by omega)⟩⟩ n0 (by omega)
    · rintro i _ i0 i1 ⟨Z, Kv, rfl, hz⟩
      obtain ⟨a0, a1, _⟩ := hq i i0 i1
      obtain ⟨Z', Kv', b1, b2⟩ := dirs_C (n := n) h_lines h_ends h_doorn h_doors h_spaceof hb h hc hY i0 (by omega) a0 a1 hz
      show qW (qf_X10_spreadSmoke_L46_b 20000 n i Z) _
      unfold qf_X10_spreadSmoke_L46_b
      rw [if_neg (show ¬ n ≤ i by omega), b1]
      simp only [Option.bind_some]
      rw [w32_id (x := i + 1) (by omega) (by omega)]
      refine qW_some ⟨Z', Kv', rfl, spj_p b2 (fun j e => ?_)⟩
      constructor
      · rintro (a | a)
        · exact ⟨a.1, by omega, a.2.2⟩
        · exact ⟨by omega, by omega, a.2⟩
      · intro a
        by_cases e : j = i
        · exact Or.inr ⟨e, a.2.2⟩
        · exact Or.inl ⟨a.1, by omega, a.2.2⟩
    · rintro _ ⟨Z, Kv, rfl, hz⟩
      show qW (qf_X10_spreadSmoke_L46_b 20000 n n Z) _
      unfold qf_X10_spreadSmoke_L46_b
      rw [if_pos (Int.le_refl _)]
      exact qW_some ⟨Z, Kv, rfl, hz⟩
  obtain ⟨s1, s2, s3, s4⟩ := h1
  refine ⟨Z, Kv, ?_, s1, fun e x y z1 z2 z3 z4 => (s2 e x y z1 z2 z3).trans (hY e x y z4), s3, fun x y x0 x1 y0 y1 => ?_⟩
  · unfold qf_X10_spreadSmoke
    rw [tm_e hτ, if_pos ht, eY]
    simp only [Option.bind_some]
    rw [e1]
    rfl
  · rw [s4 x y x0 x1 y0 y1, (hs.1 x y x0 x1 y0 y1).1]
    unfold SPR
    constructor
    · rintro (z | ⟨j, d, ⟨a0, a1, a2, a3⟩, b1, b2⟩)
      · exact Or.inl z
      · obtain ⟨c0, c1, c2⟩ := hq j a0 a1
        exact Or.inr ⟨Y 760 j 0, d, c0, c1, a2, a3, c2, b1, b2⟩
    · rintro (z | ⟨q, d, c0, c1, a2, a3, c2, b1, b2⟩)
      · exact Or.inl z
      · obtain ⟨j, j0, j1, j2⟩ := hall q c0 c1 c2
        exact Or.inr ⟨j, d, ⟨j0, j1, a2, a3⟩, by rw [j2]; exact b1, by rw [j2]; exact b2⟩
end PSe
