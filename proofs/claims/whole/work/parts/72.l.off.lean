section OFFS
variable {M K X Y : qm} {c p room t m j n : Int}
theorem qw_self {a : Nat} {i k : Int} : qw M a i k (M a i k) = M := by
  funext b x y
  unfold qw
  by_cases h : b = a ∧ x = i ∧ y = k
  · rw [if_pos h, h.1, h.2.1, h.2.2]
  · rw [if_neg h]
theorem Wv_n {fr : Int} : 0 ≤ Wv M c m n room fr := by
  unfold Wv
  (repeat' split) <;> decide
theorem J32_r (h : OFX M K) (t5 : (M 824 12 0) ≤ 512) (hb : (M 6 11 0) ≠ 0) (hA : (M 824 15 0) < 1000000) (hc : 0 ≤ c ∧ c < (M 824 8 0)) : qf_X0_takeRow_J32 20000 p c room m M = some ((), if Wv M c m (M 824 12 0) room (-1) = 0 then M else agC M p c m (Wv M c m (M 824 12 0) room (-1))) := by
  obtain ⟨h_portn, h_portw, h_portc, h_porto, h_portr, h_portq, h_persons, h_personb, h_personz, h_time, h_lines, h_ends, h_cardn, h_cards, h_personn, h_rightn, h_rights, h_names, h_spaces, h_rooms, hTL, h_againstn, h_against⟩ := h
  have s_cardn := h_cardn
  unfold R_cardn at s_cardn
  have s_personn := h_personn
  unfold R_personn at s_personn
  have s_telln := hTL.1
  unfold R_telln at s_telln
  have z := h_rooms hb
  have qc := h_cards c hc.1 hc.2
  have e1 := cardRefusal_r (M := M) (K := K) (c := c) (n := (M 824 12 0)) (m := m) s_telln.2.2.1 (by omega) hTL.2.2.2.2.1 hTL.2.1 (by omega)
  have e2 := hasRight_r (M := M) (K := K) (c := c) (room := room) (n := (M 824 12 0)) (m := m) s_telln.2.2.1 (by omega) hTL.2.2.2.2.1 hTL.2.1 h_rightn.1 h_rightn.2.1 (by omega) (by omega) (by omega)
  have ep : qf_X0_paperRefusal 20000 c room m (M 824 12 0) M = some (Wv M c m (M 824 12 0) room (-1)) := by
    unfold qf_X0_paperRefusal
    rw [e1, e2]
    unfold Wv
    refine qW_e (qW_bind (qW_some ?_))
    by_cases g1 : (M 828 c 2) < (M 824 12 0)
    · rw [if_pos g1, if_pos g1]
      by_cases g2 : m ≤ (M 828 c 1)
      · rw [if_pos g2, if_pos g2]
        by_cases g3 : b01 (Nd M (100 + c) (M 824 12 0) m) = 0
        · rw [if_pos g3, if_pos g3, if_pos rfl, if_neg (show ¬ (0 ≤ (-1 : Int) ∧ (M 761 (M 828 c 0) 0) ≠ -1) by omega)]
          refine qW_bind (qW_some ?_)
          by_cases g4 : b01 (HR M c room m (M 824 12 0)) = 0
          · rw [if_pos g4, if_pos g4]
            exact qW_some rfl
          · rw [if_neg g4, if_neg g4]
            exact qW_some rfl
        · rw [if_neg g3, if_neg g3, if_neg (by decide)]
          exact qW_some rfl
      · rw [if_neg g2, if_neg g2, if_neg (by decide)]
        exact qW_some rfl
    · rw [if_neg g1, if_neg g1, if_neg (by decide)]
      exact qW_some rfl
  unfold qf_X0_takeRow_J32
  rw [ep]
  refine qW_e (qW_bind (qW_some ?_))
  generalize Wv M c m (M 824 12 0) room (-1) = w
  by_cases g : w = 0
  · rw [if_pos g, if_pos g]
    exact qW_some rfl
  · rw [if_neg g, if_neg g, noteAgainst_r h_againstn.1 hA]
    exact qW_bind (qW_some (qW_some rfl))
theorem J121_r (h : OFX M K) (t5 : (M 824 12 0) ≤ 512) (hb : (M 6 11 0) ≠ 0) (hA : (M 824 15 0) < 1000000) (hc : 0 ≤ c ∧ c < (M 824 8 0)) (j0 : 0 ≤ j) (j1 : j < 20) (hi : 0 ≤ n ∧ n < 28000) (hr : K 2300 n 0 = room) (hm : K 2301 n 0 = m) (to0 : 0 ≤ room) (to1 : room ≤ (K 2156 9 0)) : qf_X18_off_J121 20000 p j n c K = some (.inr (p, j + 1, if Wv M c m (M 824 12 0) room (-1) = 0 then K else agR K p c m (Wv M c m (M 824 12 0) room (-1)))) := by
  obtain ⟨h_portn, h_portw, h_portc, h_porto, h_portr, h_portq, h_persons, h_personb, h_personz, h_time, h_lines, h_ends, h_cardn, h_cards, h_personn, h_rightn, h_rights, h_names, h_spaces, h_rooms, hTL, h_againstn, h_against⟩ := h
  have s_telln := hTL.1
  unfold R_telln at s_telln
  have s_againstn := h_againstn
  unfold R_againstn at s_againstn
  have z := h_rooms hb
  have e1 : w32 (j + 1) = j + 1 := w32_id (by omega) (by omega)
  have e2 : w32 ((K 2156 49 0) + 1) = (K 2156 49 0) + 1 := w32_id (by omega) (by omega)
  have e3 : w32 ((K 2156 49 0) + 0) = (K 2156 49 0) := (w32_id (by omega) (by omega)).trans (by omega)
  have ew := why_r (M := M) (K := K) (c := c) (to := room) (m := m) (b := 2147483647) (n := (M 824 12 0)) (fr := -1) h_rightn h_rights h_cardn h_cards h_personn h_persons h_names h_spaces hTL (by omega) t5 z.1 hc (by decide) (by rw [if_pos (by omega)]; omega) to0 to1
  have ew2 : qf_X18_why 20000 c room m 2147483647 (-1) K = some (Wv M c m (M 824 12 0) room (-1)) := ew
  have w0 : 0 ≤ Wv M c m (M 824 12 0) room (-1) := Wv_n
  unfold qf_X18_off_J121
  rw [if_pos hi, if_pos hi, hr, hm, ew2]
  refine qW_e (qW_bind (qW_some ?_))
  generalize Wv M c m (M 824 12 0) room (-1) = w at w0
  by_cases g : w = 0
  · rw [if_pos (by omega), if_pos g]
    unfold qf_X18_off_J209 qf_X18_off_J224
    rw [if_pos (by omega), e1, e3]
    refine qW_bnd (qW_some ?_)
    rw [qw_self]
  · rw [if_neg (by omega), if_neg g]
    unfold agR
    by_cases g2 : 100 ≤ (K 2156 49 0)
    · rw [if_pos g2, if_pos g2]
      unfold qf_X18_off_J209 qf_X18_off_J224
      rw [if_neg (by omega), e1, e2]
      exact qW_bnd (qW_some rfl)
    · rw [if_neg g2, if_neg g2, if_pos (by omega)]
      refine qW_bnd ?_
      refine qW_pos (show 0 ≤ (K 2156 49 0) ∧ (K 2156 49 0) < 100 by omega) ?_
      refine qW_bnd ?_
      refine qW_pos hi (qW_pos (show 0 ≤ (K 2156 49 0) ∧ (K 2156 49 0) < 100 by omega) ?_)
      refine qW_bnd ?_
      refine qW_pos (show 0 ≤ (K 2156 49 0) ∧ (K 2156 49 0) < 100 by omega) ?_
      refine qW_bnd ?_
      unfold qf_X18_off_J209 qf_X18_off_J224
      rw [if_neg (by omega), e1]
      refine qW_bnd (qW_some ?_)
      show Sum.inr (p, j + 1, qw (qw (qw (qw (qw K 2322 (K 2156 49 0) 0 p) 2323 (K 2156 49 0) 0 c) 2324 (K 2156 49 0) 0 (K 2301 n 0)) 2325 (K 2156 49 0) 0 w) 2156 49 0 (w32 ((K 2156 49 0) + 1))) = _
      rw [e2, hm]
theorem offStep (h : OFX M K) (t5 : (M 824 12 0) ≤ 512) (hb : (M 6 11 0) ≠ 0) (hA : (M 824 15 0) < 1000000) (p0 : 0 ≤ p) (p1 : p < (M 824 3 0)) (j0 : 0 ≤ j) (j1 : j < n) (hn : n = (K 2298 p 0)) (n20 : n ≤ 20) (ht : t = (M 6 12 0)) : ∃ S T, qf_X0_joinAgain_L37_b 20000 p t n j M = some (.inr (p, t, n, j + 1, S)) ∧ qf_X18_off_L60_b 20000 p j K = some (.inr (p, j + 1, T)) ∧ OFX S T ∧ (S 824 15 0) ≤ (M 824 15 0) + 1 ∧ Fg 18926431477220037885952 M S ∧ ∀ b i k, (2289 ≤ b ∧ b ≤ 2305 ∨ b = 2156 ∧ i = 0) → T b i k = K b i k := by
  have hh := h
  obtain ⟨h_portn, h_portw, h_portc, h_porto, h_portr, h_portq, h_persons, h_personb, h_personz, h_time, h_lines, h_ends, h_cardn, h_cards, h_personn, h_rightn, h_rights, h_names, h_spaces, h_rooms, hTL, h_againstn, h_against⟩ := hh
  have s_portn := h_portn
  unfold R_portn at s_portn
  have s_cardn := h_cardn
  unfold R_cardn at s_cardn
  have s_personn := h_personn
  unfold R_personn at s_personn
  have s_time := h_time
  unfold R_time at s_time
  have s_spaces := h_spaces
  unfold R_spaces at s_spaces
  have z := h_rooms hb
  have w := h_portw p p0 p1
  have qr := h_portr p j p0 p1 j0 (by omega)
  have hp14 : 0 ≤ p ∧ p < 1400 := by omega
  have ei : w32 (w32 (20 * p) + j) = 20 * p + j := by rw [w32_id (x := 20 * p) (by omega) (by omega), w32_id (by omega) (by omega)]
  have ec0 : w32 (3 * w32 (w32 (p * 20) + j)) = 3 * (20 * p + j) := by rw [w32_id (x := p * 20) (by omega) (by omega), Int.mul_comm p 20, w32_id (x := 20 * p + j) (by omega) (by omega), w32_id (by omega) (by omega)]
  have ec1 : w32 (3 * (20 * p + j) + 1) = 3 * (20 * p + j) + 1 := w32_id (by omega) (by omega)
  have ec2 : w32 (3 * (20 * p + j) + 2) = 3 * (20 * p + j) + 2 := w32_id (by omega) (by omega)
  have e1 : w32 (j + 1) = j + 1 := w32_id (by omega) (by omega)
  have hc : 0 ≤ (K 2299 (20 * p + j) 0) ∧ (K 2299 (20 * p + j) 0) < (M 824 8 0) := by omega
  have hc60 : 0 ≤ (K 2299 (20 * p + j) 0) ∧ (K 2299 (20 * p + j) 0) < 60 := by omega
  have hroom : (K 2300 (20 * p + j) 0) = M 825 (13 * p) 0 ∨ (K 2300 (20 * p + j) 0) = M 825 (13 * p + 1) 0 := by
    rw [← w.1, ← w.2.1]
    exact qr.2.2.2.2.2.1
  have qc := h_cards (K 2299 (20 * p + j) 0) hc.1 hc.2
  have qp := h_persons (K 2312 (K 2299 (20 * p + j) 0) 0) qc.2.2.1 qc.2.2.2.1
  have qb := h_personb (K 2312 (K 2299 (20 * p + j) 0) 0) qc.2.2.1 qc.2.2.2.1
  have hp40 : 0 ≤ (K 2312 (K 2299 (20 * p + j) 0) 0) ∧ (K 2312 (K 2299 (20 * p + j) 0) 0) < 40 := by omega
  have hx : 0 ≤ 20 * p + j ∧ 20 * p + j < 28000 := by omega
  have to0 : 0 ≤ (K 2300 (20 * p + j) 0) ∧ (K 2300 (20 * p + j) 0) ≤ (K 2156 9 0) := by
    rcases hroom with e | e <;> omega
  have fin : ∀ X Y : qm, OFX X Y → (X 824 12 0) = (M 824 12 0) → (X 6 11 0) = (M 6 11 0) → (X 824 15 0) = (M 824 15 0) → (X 824 8 0) = (M 824 8 0) → Y 2300 (20 * p + j) 0 = (K 2300 (20 * p + j) 0) → Y 2301 (20 * p + j) 0 = (K 2301 (20 * p + j) 0) → (Y 2156 9 0) = (K 2156 9 0) → ∃ S T, qf_X0_takeRow_J32 20000 p (K 2299 (20 * p + j) 0) (K 2300 (20 * p + j) 0) (K 2301 (20 * p + j) 0) X = some ((), S) ∧ qf_X18_off_J121 20000 p j (20 * p + j) (K 2299 (20 * p + j) 0) Y = some (.inr (p, j + 1, T)) ∧ OFX S T ∧ (S 824 15 0) ≤ (M 824 15 0) + 1 ∧ ∀ b i k, (2289 ≤ b ∧ b ≤ 2305 ∨ b = 2156 ∧ i = 0) → T b i k = Y b i k := by
    intro X Y hX g1 g2 g3 g4 g5 g6 g7
    have a1 := J32_r (p := p) (c := (K 2299 (20 * p + j) 0)) (room := (K 2300 (20 * p + j) 0)) (m := (K 2301 (20 * p + j) 0)) hX (by rw [g1]; exact t5) (by rw [g2]; exact hb) (by rw [g3]; exact hA) ⟨hc.1, by rw [g4]; exact hc.2⟩
    have a2 := J121_r (p := p) (c := (K 2299 (20 * p + j) 0)) (room := (K 2300 (20 * p + j) 0)) (m := (K 2301 (20 * p + j) 0)) (j := j) (n := 20 * p + j) hX (by rw [g1]; exact t5) (by rw [g2]; exact hb) (by rw [g3]; exact hA) ⟨hc.1, by rw [g4]; exact hc.2⟩ j0 (by omega) hx g5 g6 to0.1 (by rw [g7]; exact to0.2)
    refine ⟨_, _, a1, a2, ?_, ?_, ?_⟩
    · split
      · exact hX
      · exact ag_OFX hX
    · split
      · omega
      · unfold agC
        split
        · rw [qw_s]; omega
        · rw [qw_s]; omega
    · intro b i k b0
      split
      · rfl
      · unfold agR
        split
        · exact qw_ap.trans (if_neg (by omega))
        · rw [qw_ap, if_neg (by omega), qw_a (by omega), qw_a (by omega), qw_a (by omega), qw_a (by omega)]
  have res : ∃ S T, qf_X0_takeRow 20000 p (K 2299 (20 * p + j) 0) (K 2300 (20 * p + j) 0) (K 2301 (20 * p + j) 0) t M = some ((), S) ∧ qf_X18_off_L60_b 20000 p j K = some (.inr (p, j + 1, T)) ∧ OFX S T ∧ (S 824 15 0) ≤ (M 824 15 0) + 1 ∧ ∀ b i k, (2289 ≤ b ∧ b ≤ 2305 ∨ b = 2156 ∧ i = 0) → T b i k = K b i k := by
    unfold qf_X18_off_L60_b qf_X0_takeRow
    rw [if_pos hc60, isCaught_r (by omega) (by omega), if_pos hp14, if_neg (show ¬ (K 2298 p 0) ≤ j by omega), ei, if_pos hx, if_pos hc60, if_pos hp40, if_pos hc60, if_pos hx]
    by_cases g : (M 761 (M 828 (K 2299 (20 * p + j) 0) 0) 3) = -1
    · have e3 := comeIn_r (M := M) (q := (M 828 (K 2299 (20 * p + j) 0) 0)) (p := p) (room := (K 2300 (20 * p + j) 0)) (t := t) (pnM_of h_portn) p0 p1 (by omega)
      have e4 := enter_r (M := M) (K := K) (q := (K 2312 (K 2299 (20 * p + j) 0) 0)) (p := p) (room := (K 2300 (20 * p + j) 0)) (t := t) h_lines h_ends h_portn h_portw h_portc z.1 p0 p1 hp40 (by omega)
      rw [qc.1] at e4
      obtain ⟨S, T, a1, a2, a3, a4, a5⟩ := fin _ _ (enter_OFX (q := (M 828 (K 2299 (20 * p + j) 0) 0)) (t := t) h z.1 s_spaces.1 p0 p1 hroom (by omega) (by omega) (by omega)) rfl rfl rfl rfl rfl rfl rfl
      refine ⟨S, T, ?_, ?_, a3, a4, fun b i k b0 => (a5 b i k b0).trans ?_⟩
      · rw [if_pos g]
        refine qW_e (qW_bind (qW_some ?_))
        rw [if_pos rfl, e3]
        exact qW_bind (qW_some (qW_v a1))
      · rw [if_neg (by rw [qp.2.2.2.1, qc.1]; omega), qc.1, e4]
        exact qW_e (qW_bind (qW_some (qW_v a2)))
      · unfold enR
        rw [qw_a (by omega), qw_a (by omega), qw_a (by omega), qw_a (by omega)]
    · obtain ⟨S, T, a1, a2, a3, a4, a5⟩ := fin M K h rfl rfl rfl rfl rfl rfl rfl
      refine ⟨S, T, ?_, ?_, a3, a4, a5⟩
      · rw [if_neg g]
        refine qW_e (qW_bind (qW_some ?_))
        rw [if_neg (by decide)]
        exact qW_v a1
      · rw [if_pos (by rw [qp.2.2.2.1, qc.1]; rw [qp.2.2.2.1, qc.1] at qb; omega)]
        exact a2
  obtain ⟨S, T, r1, r2, r3, r4, r5⟩ := res
  refine ⟨S, T, ?_, r2, r3, r4, fr_X0_takeRow Fg_refl _ r1, r5⟩
  unfold qf_X0_joinAgain_L37_b
  rw [if_neg (show ¬ n ≤ j by omega), if_neg (show ¬ 20 ≤ j by omega), ec0, ec1, ec2, if_pos (by omega), if_pos (by omega), if_pos (by omega), ← qr.1, ← qr.2.1, ← qr.2.2.1, r1, e1]
  rfl
theorem offLoop (h : OFX M K) (t5 : (M 824 12 0) ≤ 512) (hb : (M 6 11 0) ≠ 0) (hA0 : 0 ≤ (M 824 15 0)) (hA : (M 824 15 0) < 900000) (p0 : 0 ≤ p) (p1 : p < (M 824 3 0)) (n0 : 0 ≤ n) (hn : n = (K 2298 p 0)) (n20 : n ≤ 20) (ht : t = (M 6 12 0)) : ∃ S T, qf_X0_joinAgain_L37 20000 20000 p t n 0 M = some (.inr ((), S)) ∧ qf_X18_off_L60 20000 20000 p 0 K = some (.inr ((), T)) ∧ OFX S T ∧ (S 824 15 0) ≤ (M 824 15 0) + 20 ∧ Fg 18926431477220037885952 M S ∧ Fg 2420955317526026142907935506066036518916435758838062383297713556347627221720677158895803276392045679219147748639242190848 K T ∧ ∀ b i k, (2289 ≤ b ∧ b ≤ 2305 ∨ b = 2156 ∧ i = 0) → T b i k = K b i k := by
  have key : qW (qf_X0_joinAgain_L37 20000 20000 p t n 0 M) (fun x => qW (qf_X18_off_L60 20000 20000 p 0 K) (fun y => ∃ S T, x = .inr ((), S) ∧ y = .inr ((), T) ∧ OFX S T ∧ (S 824 15 0) ≤ (M 824 15 0) + 20 ∧ Fg 18926431477220037885952 M S ∧ Fg 2420955317526026142907935506066036518916435758838062383297713556347627221720677158895803276392045679219147748639242190848 K T ∧ ∀ b i k, (2289 ≤ b ∧ b ≤ 2305 ∨ b = 2156 ∧ i = 0) → T b i k = K b i k)) := by
    unfold qf_X0_joinAgain_L37 qf_X18_off_L60
    refine qW_for2 n (fun k s u => ∃ S T, s = (p, t, n, k, S) ∧ u = (p, k, T) ∧ OFX S T ∧ (S 824 15 0) ≤ (M 824 15 0) + k ∧ Fg 18926431477220037885952 M S ∧ Fg 2420955317526026142907935506066036518916435758838062383297713556347627221720677158895803276392045679219147748639242190848 K T ∧ ∀ b i k, (2289 ≤ b ∧ b ≤ 2305 ∨ b = 2156 ∧ i = 0) → T b i k = K b i k) ?_ ?_ ⟨M, K, rfl, rfl, h, by omega, Fg_refl, Fg_refl, fun _ _ _ _ => rfl⟩ n0 (by omega)
    · rintro k _ _ k0 k1 ⟨S, T, rfl, rfl, hX, ha, fM, fK, fR⟩
      have g1 : (S 824 12 0) = (M 824 12 0) := fM 824 12 0 rfl
      have g2 : (S 6 11 0) = (M 6 11 0) := fM 6 11 0 rfl
      have g3 : (S 824 3 0) = (M 824 3 0) := fM 824 3 0 rfl
      have g4 : (S 6 12 0) = (M 6 12 0) := fM 6 12 0 rfl
      have g5 : (T 2298 p 0) = (K 2298 p 0) := fR 2298 p 0 (Or.inl ⟨by decide, by decide⟩)
      obtain ⟨S2, T2, e1, e2, h2, h3, f1, fR2⟩ := offStep (p := p) (j := k) (n := n) (t := t) hX (by rw [g1]; exact t5) (by rw [g2]; exact hb) (by omega) p0 (by rw [g3]; exact p1) k0 k1 (by rw [g5]; exact hn) n20 (by rw [g4]; exact ht)
      have f2 : Fg 2420955317526026142907935506066036518916435758838062383297713556347627221720677158895803276392045679219147748639242190848 T T2 := (fr_X18_off_L60_b Fg_refl _ e2)
      refine ⟨_, e1, _, e2, S2, T2, rfl, rfl, h2, by omega, Fg_tr fM f1, Fg_tr fK f2, fun b i k b0 => (fR2 b i k b0).trans (fR b i k b0)⟩
    · rintro _ _ ⟨S, T, rfl, rfl, hX, ha, fM, fK, fR⟩
      have g5 : (T 2298 p 0) = (K 2298 p 0) := fR 2298 p 0 (Or.inl ⟨by decide, by decide⟩)
      unfold qf_X0_joinAgain_L37_b qf_X18_off_L60_b
      (try dsimp only)
      have s_portn := hX.1
      unfold R_portn at s_portn
      have g3 : (S 824 3 0) = (M 824 3 0) := fM 824 3 0 rfl
      rw [if_pos (Int.le_refl _), if_pos (show 0 ≤ p ∧ p < 1400 by omega), if_pos (by omega)]
      exact qW_some (qW_some ⟨S, T, rfl, rfl, hX, by omega, fM, fK, fR⟩)
  obtain ⟨x, ex, y, ey, S, T, rfl, rfl, h1, h2, h3, h4, h5⟩ := key
  exact ⟨S, T, ex, ey, h1, h2, h3, h4, h5⟩
end OFFS
