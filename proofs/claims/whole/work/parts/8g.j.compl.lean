/-! ===== the bus: what is heard is complete ===== -/
section BUj
variable {M K M' K' Ka Z A W : qm} {a b i j k v w x y s t I β R u c E : Int} {n m r : Nat} {q p : Int → Int}
theorem latl_K (c0 : 0 ≤ c) (c1 : c ≤ 600) (hc : K 2252 17 0 = c) : ∃ Y, qf_X12_hear_L42 20000 20000 255 0 K = some (.inr (xrF (fun k => K 2267 k 0) c.toNat, Y)) ∧ (∀ e x y, ¬ (e = 2268 ∧ 0 ≤ x ∧ x < c ∧ y = 0) → Y e x y = K e x y) ∧ ∀ x, 0 ≤ x → x < c → Y 2268 x 0 = K 2267 x 0 := by
  obtain ⟨o, e1, Y, rfl, y1, y2⟩ : qW (qf_X12_hear_L42 20000 20000 255 0 K) (fun o => ∃ Y, o = .inr (xrF (fun k => K 2267 k 0) c.toNat, Y) ∧ (∀ e x y, ¬ (e = 2268 ∧ 0 ≤ x ∧ x < c ∧ y = 0) → Y e x y = K e x y) ∧ ∀ x, 0 ≤ x → x < c → Y 2268 x 0 = K 2267 x 0) := by
    unfold qf_X12_hear_L42
    refine qW_for c (fun i r => ∃ Y, r = (xrF (fun k => K 2267 k 0) i.toNat, i, Y) ∧ (∀ e x y, ¬ (e = 2268 ∧ 0 ≤ x ∧ x < c ∧ y = 0) → Y e x y = K e x y) ∧ ∀ x, 0 ≤ x → x < i → Y 2268 x 0 = K 2267 x 0) ?_ ?_ ⟨K, rfl, fun _ _ _ _ => rfl, fun x x0 x1 => by omega⟩ c0 (by omega)
    · rintro i _ i0 i1 ⟨Y, rfl, h1, h2⟩
      show qW (qf_X12_hear_L42_b 20000 (xrF (fun k => K 2267 k 0) i.toNat) i Y) _
      unfold qf_X12_hear_L42_b qbnd
      rw [if_neg (show ¬ Y 2252 17 0 ≤ i by rw [h1 _ _ _ (by omega)]; omega)]
      simp only [if_pos (show 0 ≤ i ∧ i < 14000 by omega)]
      rw [qw_a (show (2267 : Nat) ≠ 2268 by decide), h1 2267 i 0 (by omega), w32_id (x := i + 1) (by omega) (by omega)]
      have ex : xrF (fun k => K 2267 k 0) (i + 1).toNat = bX (xrF (fun k => K 2267 k 0) i.toNat) (K 2267 i 0) := by
        rw [show (i + 1).toNat = i.toNat + 1 by omega]
        show bX (xrF (fun k => K 2267 k 0) i.toNat) (K 2267 ((i.toNat : Nat) : Int) 0) = _
        rw [show ((i.toNat : Nat) : Int) = i by omega]
      rw [← ex]
      refine qW_some ⟨_, rfl, fun e x y z => ?_, fun x x0 x1 => ?_⟩
      · rw [qw_ap, if_neg (by omega)]
        exact h1 e x y z
      · by_cases e : x = i
        · rw [e]
          exact qw_s
        · rw [qw_i e]
          exact h2 x x0 (by omega)
    · rintro _ ⟨Y, rfl, h1, h2⟩
      show qW (qf_X12_hear_L42_b 20000 (xrF (fun k => K 2267 k 0) c.toNat) c Y) _
      unfold qf_X12_hear_L42_b
      rw [if_pos (show Y 2252 17 0 ≤ c by rw [h1 _ _ _ (by omega)]; omega)]
      exact qW_some ⟨Y, rfl, h1, h2⟩
  exact ⟨Y, e1, y1, y2⟩
/-- the reference's end of what is heard, up to starting anew -/
def cmK (K : qm) : Option (Unit × qm) := if (K 2252 17 0) < 8 then qf_X12_hear_J170 20000 K else if (K 2252 19 0) = 0 then (qf_X12_hear_L42 20000 20000 255 0 K).bind (fun r => (match r with | .inl o => some o | .inr (v30, M29) => qbnd (qw M29 2252 21 0 (M29 2252 17 0)) (fun M32 => if v30 = 0 then if (M32 2252 21 0) = (w32 ((Int.tmod (M32 2268 5 0) 128) + 8)) then qf_X12_hear_J115 20000 1 M32 else qf_X12_hear_J114 20000 M32 else qf_X12_hear_J114 20000 M32))) else qf_X12_hear_J170 20000 K
def stK (K : qm) : Option (Unit × qm) := (qf_X12_starts 20000 K).bind (fun r14 => some ((), r14.2))
/-- counts and points behind it -/
def PCH (M K M' K' : qm) : Prop := ((K' 2269 1 0 = K 2269 1 0 ∧ ∀ x, M' 1135 x 0 = M 1135 x 0) ∨ (K' 2269 1 0 = w32 (K 2269 1 0 + 1) ∧ (0 ≤ K' 2268 3 0 ∧ K' 2268 3 0 < 256 ∧ 0 ≤ K' 2268 4 0 ∧ K' 2268 4 0 < 256 ∧ 0 ≤ K' 2268 6 0 ∧ K' 2268 6 0 < 256) ∧ ((128 ≤ K' 2268 5 0 ∧ 4 ≤ 256 * K' 2268 3 0 + K' 2268 4 0 ∧ 256 * K' 2268 3 0 + K' 2268 4 0 < 10 ∧ M' 1135 (256 * K' 2268 3 0 + K' 2268 4 0) 0 = K' 2268 6 0 ∧ ∀ x, x ≠ 256 * K' 2268 3 0 + K' 2268 4 0 → M' 1135 x 0 = M 1135 x 0) ∨ (¬ (128 ≤ K' 2268 5 0 ∧ 4 ≤ 256 * K' 2268 3 0 + K' 2268 4 0 ∧ 256 * K' 2268 3 0 + K' 2268 4 0 < 10) ∧ ∀ x, M' 1135 x 0 = M 1135 x 0))))
def CMF (M M' K K' : qm) : Prop := (∀ e x y, e ≠ 1170 → e ≠ 1171 → e ≠ 1135 → ¬ (e = 1139 ∧ 15 ≤ x ∧ x ≤ 18) → M' e x y = M e x y) ∧ (∀ e x y, e ≠ 2268 → e ≠ 2269 → ¬ (e = 2252 ∧ 21 ≤ x ∧ x ≤ 26) → K' e x y = K e x y)
def HDR (M K : qm) : Prop := ∀ i, 0 ≤ i → i < 5 → K 2269 i 0 = M 1171 i 0
theorem hdr_1 (h : HDR M K) (i0 : 0 ≤ i) (i1 : i < 5) : HDR (qw M 1171 i 0 (w32 (M 1171 i 0 + 1))) (qw K 2269 i 0 (w32 (K 2269 i 0 + 1))) := fun j j0 j1 => by
  by_cases e : j = i
  · rw [e, h i i0 i1]
    exact qw_s.trans qw_s.symm
  · rw [qw_i e, qw_i e]
    exact h j j0 j1
/-- something else than a telegram -/
theorem oth_both (t2 : t ≤ 180000) (hl : LTT M K (t - 1)) (hd : HDR M K) (hc : M 1139 13 0 = K 2252 17 0) (hb : M 1139 11 0 = K 2252 19 0) (h0 : M 1169 0 0 = K 2267 0 0) (e0 : 1 ≤ E) (e1 : E ≤ 180000) (hB : K 2252 17 0 = 1 → K 2252 16 0 = E - 10) : ∃ M' K', qf_X1_complete_J37 20000 E M = some ((), M') ∧ qf_X12_hear_J170 20000 K = stK K' ∧ LTT M' K' t ∧ HDR M' K' ∧ PCH M K M' K' ∧ CMF M M' K K' ∧ K' 2252 24 0 = K 2252 24 0 := by
  obtain ⟨l1, l2, l3, l4, l5⟩ := hl
  obtain ⟨M1, hM1⟩ : ∃ X, qw M 1139 17 0 0 = X := ⟨_, rfl⟩
  obtain ⟨K1, hK1⟩ : ∃ X, qw K 2252 25 0 1 = X := ⟨_, rfl⟩
  have fM1 : ∀ e x y, ¬ (e = 1139 ∧ x = 17) → M1 e x y = M e x y := fun e x y z => by rw [← hM1, qw_ap, if_neg (by omega)]
  have fK1 : ∀ e x y, ¬ (e = 2252 ∧ x = 25) → K1 e x y = K e x y := fun e x y z => by rw [← hK1, qw_ap, if_neg (by omega)]
  have m17 : M1 1139 17 0 = 0 := by rw [← hM1]; exact qw_s
  have k25 : K1 2252 25 0 = 1 := by rw [← hK1]; exact qw_s
  have rgp : ∀ Z : qm, (∀ e x y, e ≠ 1171 → ¬ (e = 1139 ∧ (x = 17 ∨ x = 18)) → Z e x y = M e x y) → (RGP Z ↔ RGP M) := fun Z fZ => by
    unfold RGP
    rw [fZ 1139 15 0 (by decide) (by omega), fZ 1170 5 0 (by decide) (by omega), fZ 1170 _ 0 (by decide) (by omega), show (fun k => Z 1170 k 0) = (fun k => M 1170 k 0) from funext (fun k => fZ _ _ _ (by decide) (by omega))]
  -- what stands behind, whatever the answer
  have ltt : ∀ Z V : qm, (∀ e x y, e ≠ 1171 → ¬ (e = 1139 ∧ (x = 17 ∨ x = 18)) → Z e x y = M e x y) → (∀ e x y, e ≠ 2269 → ¬ (e = 2252 ∧ (x = 25 ∨ x = 26)) → V e x y = K e x y) → Z 1139 17 0 = 0 → V 2252 25 0 = 1 → V 2252 26 0 = Z 1139 18 0 → LTT Z V t := fun Z V fZ fV z17 v25 v26 => by
    unfold LTT
    rw [fZ 1139 15 0 (by decide) (by omega), fZ 1139 16 0 (by decide) (by omega), fV 2252 21 0 (by decide) (by omega), fV 2252 24 0 (by decide) (by omega), fV 2252 23 0 (by decide) (by omega), z17, v25]
    refine ⟨l1, l2, v26, fun i i0 i1 => ?_, ?_⟩
    · rw [fV 2268 i 0 (by decide) (by omega), fZ 1170 i 0 (by decide) (by omega)]
      exact l4 i i0 i1
    · rcases l5 with ⟨z1, z2, _⟩ | ⟨z1, z2, z3, z4, _, z6⟩
      · exact Or.inl ⟨z1, z2, rfl⟩
      · refine Or.inr ⟨z1, z2, by omega, z4, Or.inr ⟨rfl, rfl⟩, ?_⟩
        rw [z6]
        by_cases g : RGP M
        · rw [b01_t g, b01_t ((rgp Z fZ).mpr g)]
        · rw [b01_f g, b01_f (fun z => g ((rgp Z fZ).mp z))]
  -- no answer
  have no : qf_X1_complete_J37 20000 E M = qf_X1_complete_J78 20000 0 M1 → qf_X12_hear_J170 20000 K = qf_X12_hear_J216 20000 0 K1 → ∃ M' K', qf_X1_complete_J37 20000 E M = some ((), M') ∧ qf_X12_hear_J170 20000 K = stK K' ∧ LTT M' K' t ∧ HDR M' K' ∧ PCH M K M' K' ∧ CMF M M' K K' ∧ K' 2252 24 0 = K 2252 24 0 := fun c1 c2 => by
    obtain ⟨K2, hK2⟩ : ∃ X, qw K1 2252 26 0 (K1 2252 26 0) = X := ⟨_, rfl⟩
    have eK2 : K2 = K1 := by rw [← hK2]; exact qw_self
    have hd1 : HDR M1 K1 := fun i i0 i1 => by
      rw [fK1 _ _ _ (by omega), fM1 _ _ _ (by omega)]
      exact hd i i0 i1
    refine ⟨qw M1 1171 2 0 (w32 (M1 1171 2 0 + 1)), qw K1 2269 2 0 (w32 (K1 2269 2 0 + 1)), ?_, ?_, ltt _ _ (fun e x y z1 z2 => by rw [qw_a z1]; exact fM1 _ _ _ (by omega)) (fun e x y z1 z2 => by rw [qw_a z1]; exact fK1 _ _ _ (by omega)) ((qw_a (by decide)).trans m17) ((qw_a (by decide)).trans k25) ?_, hdr_1 hd1 (by decide) (by decide), Or.inl ⟨?_, fun x => ?_⟩, ⟨fun e x y z1 z2 z3 z4 => ?_, fun e x y z1 z2 z3 => ?_⟩, ?_⟩
    · rw [c1]
      unfold qf_X1_complete_J78 qbnd
      rw [if_pos rfl]
    · rw [c2]
      unfold qf_X12_hear_J216 qf_X12_hear_J235 qf_X12_hear_J265 qbnd stK
      rw [if_pos rfl]
      (try dsimp only)
      rw [hK2, eK2, if_pos rfl, if_pos (by decide), if_pos (by decide)]
    · rw [qw_a (by decide), qw_a (by decide), fK1 _ _ _ (by omega), fM1 _ _ _ (by omega)]
      exact l3
    · rw [qw_i (by decide)]
      exact fK1 _ _ _ (by omega)
    · rw [qw_a (by decide)]
      exact fM1 _ _ _ (by omega)
    · rw [qw_a z2]
      exact fM1 _ _ _ (by omega)
    · rw [qw_a z2]
      exact fK1 _ _ _ (by omega)
    · rw [qw_a (by decide)]
      exact fK1 _ _ _ (by omega)
  have cC : qf_X1_complete_J37 20000 E M = (if M 1139 13 0 = 1 then if M 1139 11 0 = 0 then if E = w32 (w32 (w32 (M 1139 16 0 + 14) + 11) - 1) then qf_X1_complete_J78 20000 1 M1 else qf_X1_complete_J78 20000 0 M1 else qf_X1_complete_J78 20000 0 M1 else qf_X1_complete_J78 20000 0 M1) := by
    unfold qf_X1_complete_J37 qf_X1_complete_J77 qbnd
    (try dsimp only)
    rw [hM1, fM1 1139 13 0 (by omega), fM1 1139 11 0 (by omega), fM1 1139 16 0 (by omega)]
  have cK : qf_X12_hear_J170 20000 K = (if K 2252 24 0 ≤ 0 then qf_X12_hear_J216 20000 0 K1 else if K 2252 16 0 = w32 (K 2252 24 0 + 14) then if K 2252 17 0 = 1 then if K 2252 19 0 = 0 then qf_X12_hear_J216 20000 1 K1 else qf_X12_hear_J216 20000 0 K1 else qf_X12_hear_J216 20000 0 K1 else qf_X12_hear_J216 20000 0 K1) := by
    unfold qf_X12_hear_J170 qf_X12_hear_J215 qbnd
    (try dsimp only)
    rw [hK1, fK1 2252 24 0 (by omega), fK1 2252 16 0 (by omega), fK1 2252 17 0 (by omega), fK1 2252 19 0 (by omega)]
  have eb : -1000 ≤ M 1139 16 0 ∧ M 1139 16 0 ≤ t - 1 ∨ M 1139 16 0 = -1000 := by
    rcases l5 with z | z
    · exact Or.inr z.1
    · exact Or.inl ⟨by omega, z.2.2.1⟩
  by_cases g1 : K 2252 17 0 = 1
  · by_cases g2 : K 2252 19 0 = 0
    · rw [if_pos (hc.trans g1), if_pos (hb.trans g2)] at cC
      rw [if_pos g1, if_pos g2] at cK
      rcases l5 with ⟨z1, z2, _⟩ | ⟨z1, z2, z3, z4, _, z6⟩
      · rw [z1, if_neg (show ¬ E = w32 (w32 (w32 (-1000 + 14) + 11) - 1) by
          rw [show w32 (w32 (w32 (-1000 + 14) + 11) - 1) = -976 by decide]
          omega)] at cC
        rw [if_pos (show K 2252 24 0 ≤ 0 by omega)] at cK
        exact no cC cK
      · by_cases tb : t ≤ 1000000
        · rw [w32_id (x := M 1139 16 0 + 14) (by omega) (by omega), w32_id (x := M 1139 16 0 + 14 + 11) (by omega) (by omega), w32_id (x := M 1139 16 0 + 14 + 11 - 1) (by omega) (by omega)] at cC
          rw [if_neg (show ¬ K 2252 24 0 ≤ 0 by omega), w32_id (x := K 2252 24 0 + 14) (by omega) (by omega)] at cK
          have hB1 := hB g1
          by_cases g3 : E = M 1139 16 0 + 14 + 11 - 1
          · rw [if_pos g3] at cC
            rw [if_pos (show K 2252 16 0 = K 2252 24 0 + 14 by omega)] at cK
            -- an answer
            obtain ⟨v, hv⟩ : ∃ v, M 1169 0 0 = v := ⟨_, rfl⟩
            rw [hv] at h0
            obtain ⟨M2, hM2⟩ : ∃ X, qw M1 1139 18 0 v = X := ⟨_, rfl⟩
            obtain ⟨K2, hK2⟩ : ∃ X, qw K1 2252 26 0 v = X := ⟨_, rfl⟩
            have fM2 : ∀ e x y, ¬ (e = 1139 ∧ (x = 17 ∨ x = 18)) → M2 e x y = M e x y := fun e x y z => by rw [← hM2, qw_ap, if_neg (by omega)]; exact fM1 _ _ _ (by omega)
            have fK2 : ∀ e x y, ¬ (e = 2252 ∧ (x = 25 ∨ x = 26)) → K2 e x y = K e x y := fun e x y z => by rw [← hK2, qw_ap, if_neg (by omega)]; exact fK1 _ _ _ (by omega)
            have m18 : M2 1139 18 0 = v := by rw [← hM2]; exact qw_s
            have k26 : K2 2252 26 0 = v := by rw [← hK2]; exact qw_s
            have m217 : M2 1139 17 0 = 0 := by rw [← hM2, qw_ap, if_neg (by omega)]; exact m17
            have k225 : K2 2252 25 0 = 1 := by rw [← hK2, qw_ap, if_neg (by omega)]; exact k25
            have hd2 : HDR M2 K2 := fun i i0 i1 => by
              rw [fK2 _ _ _ (by omega), fM2 _ _ _ (by omega)]
              exact hd i i0 i1
            have fin : ∀ w, w = 3 ∨ w = 4 → qf_X1_complete_J37 20000 E M = qf_X1_complete_J112 20000 w M2 → qf_X12_hear_J170 20000 K = qf_X12_hear_J265 20000 w K2 → ∃ M' K', qf_X1_complete_J37 20000 E M = some ((), M') ∧ qf_X12_hear_J170 20000 K = stK K' ∧ LTT M' K' t ∧ HDR M' K' ∧ PCH M K M' K' ∧ CMF M M' K K' ∧ K' 2252 24 0 = K 2252 24 0 := fun w hw c1 c2 => by
              have wr : 0 ≤ w ∧ w < 5 := by omega
              refine ⟨qw M2 1171 w 0 (w32 (M2 1171 w 0 + 1)), qw K2 2269 w 0 (w32 (K2 2269 w 0 + 1)), ?_, ?_, ltt _ _ (fun e x y z1 z2 => by rw [qw_a z1]; exact fM2 _ _ _ z2) (fun e x y z1 z2 => by rw [qw_a z1]; exact fK2 _ _ _ z2) ((qw_a (by decide)).trans m217) ((qw_a (by decide)).trans k225) ?_, hdr_1 hd2 wr.1 wr.2, Or.inl ⟨?_, fun x => ?_⟩, ⟨fun e x y z1 z2 z3 z4 => ?_, fun e x y z1 z2 z3 => ?_⟩, ?_⟩
              · rw [c1]
                unfold qf_X1_complete_J112 qbnd
                rw [if_pos wr, if_pos wr]
              · rw [c2]
                unfold qf_X12_hear_J265 qbnd stK
                rw [if_pos wr, if_pos wr]
              · rw [qw_a (by decide), qw_a (by decide), m18, k26]
              · rw [qw_i (show (1 : Int) ≠ w by omega)]
                exact fK2 _ _ _ (by omega)
              · rw [qw_a (by decide)]
                exact fM2 _ _ _ (by omega)
              · rw [qw_a z2]
                exact fM2 _ _ _ (by omega)
              · rw [qw_a z2]
                exact fK2 _ _ _ (by omega)
              · rw [qw_a (by decide)]
                exact fK2 _ _ _ (by omega)
            have d1 : qf_X1_complete_J78 20000 1 M1 = (if v = 204 then qf_X1_complete_J112 20000 3 M2 else qf_X1_complete_J112 20000 4 M2) := by
              unfold qf_X1_complete_J78 qbnd
              rw [if_neg (by decide), fM1 1169 0 0 (by omega), hv]
              (try dsimp only)
              rw [hM2, m18]
            have d2 : qf_X12_hear_J216 20000 1 K1 = (if v = 204 then qf_X12_hear_J265 20000 3 K2 else qf_X12_hear_J265 20000 4 K2) := by
              unfold qf_X12_hear_J216 qf_X12_hear_J235 qbnd
              rw [if_neg (by decide), fK1 2267 0 0 (by omega), ← h0]
              (try dsimp only)
              rw [hK2, k26, if_neg (by decide)]
            by_cases g4 : v = 204
            · rw [if_pos g4] at d1 d2
              exact fin 3 (Or.inl rfl) (cC.trans d1) (cK.trans d2)
            · rw [if_neg g4] at d1 d2
              exact fin 4 (Or.inr rfl) (cC.trans d1) (cK.trans d2)
          · rw [if_neg g3] at cC
            rw [if_neg (show ¬ K 2252 16 0 = K 2252 24 0 + 14 by omega)] at cK
            exact no cC cK
        · exact absurd t2 (by omega)
    · rw [if_pos (hc.trans g1), if_neg (by rw [hb]; exact g2)] at cC
      rw [if_pos g1, if_neg g2] at cK
      refine no cC ?_
      rw [cK]
      by_cases g5 : K 2252 24 0 ≤ 0
      · rw [if_pos g5]
      · rw [if_neg g5]
        by_cases g6 : K 2252 16 0 = w32 (K 2252 24 0 + 14)
        · rw [if_pos g6]
        · rw [if_neg g6]
  · rw [if_neg (by rw [hc]; exact g1)] at cC
    rw [if_neg g1] at cK
    refine no cC ?_
    rw [cK]
    by_cases g5 : K 2252 24 0 ≤ 0
    · rw [if_pos g5]
    · rw [if_neg g5]
      by_cases g6 : K 2252 16 0 = w32 (K 2252 24 0 + 14)
      · rw [if_pos g6]
      · rw [if_neg g6]
end BUj
