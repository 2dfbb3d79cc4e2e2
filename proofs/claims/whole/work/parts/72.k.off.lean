/-! ===== the call off: rows are taken again ===== -/
def OFX (M K : qm) : Prop := R_portn M K ∧ R_portw M K ∧ R_portc M K ∧ R_porto M K ∧ R_portr M K ∧ R_portq M K ∧ R_persons M K ∧ R_personb M K ∧ R_personz M K ∧ R_time M K ∧ R_lines M K ∧ R_ends M K ∧ R_cardn M K ∧ R_cards M K ∧ R_personn M K ∧ R_rightn M K ∧ R_rights M K ∧ R_names M K ∧ R_spaces M K ∧ R_rooms M K ∧ TL M K ∧ R_againstn M K ∧ R_against M K
section OFF
variable {M K : qm} {q c p room t x y m w j n : Int}
theorem TL_en (h : TL M K) : TL (enC M q room x y t) (enR K q room x y t) := by
  obtain ⟨h_telln, h_tellt, h_tellc, h_tellr, h_notek, h_noteo, h_notex⟩ := h
  exact ⟨R_telln_x (M := M) (K := K) rfl rfl rfl h_telln, R_tellt_x (M := M) (K := K) rfl rfl rfl (fun _ _ => rfl) (fun _ _ => rfl) (fun _ _ => rfl) (fun _ _ => rfl) (fun _ _ => rfl) h_tellt, R_tellc_x (M := M) (K := K) rfl rfl (fun _ _ => rfl) (fun _ _ => rfl) (fun _ _ => rfl) h_tellc, R_tellr_x (M := M) (K := K) rfl rfl (fun _ _ => rfl) (fun _ _ => rfl) (fun _ _ => rfl) h_tellr, R_notek_x (M := M) (K := K) rfl rfl (fun _ _ => rfl) (fun _ _ => rfl) (fun _ _ => rfl) (fun _ _ => rfl) h_notek, R_noteo_x (M := M) (K := K) rfl (fun _ _ => rfl) h_noteo, R_notex_x (M := M) (K := K) rfl rfl (fun _ _ => rfl) (fun _ _ => rfl) h_notex⟩
theorem enter_OFX (h : OFX M K) (hz : (K 2156 9 0) = (M 51 3 0)) (hs : 0 ≤ (M 51 3 0)) (p0 : 0 ≤ p) (p1 : p < (M 824 3 0)) (hroom : room = M 825 (13 * p) 0 ∨ room = M 825 (13 * p + 1) 0) (hq : 0 ≤ q ∧ q < (M 756 7 0)) (t0 : 0 ≤ t) (t1 : t ≤ (M 6 12 0)) : OFX (enC M q room (peX M p room) (peY M p room) t) (enR K q room (peX M p room) (peY M p room) t) := by
  obtain ⟨h_portn, h_portw, h_portc, h_porto, h_portr, h_portq, h_persons, h_personb, h_personz, h_time, h_lines, h_ends, h_cardn, h_cards, h_personn, h_rightn, h_rights, h_names, h_spaces, h_rooms, hTL, h_againstn, h_against⟩ := h
  refine ⟨R_portn_x (M := M) (K := K) rfl rfl rfl (fun _ _ => rfl) (fun _ _ => rfl) (fun _ _ => rfl) rfl h_portn, R_portw_x (M := M) (K := K) rfl rfl (fun _ _ => rfl) rfl (fun _ _ => rfl) (fun _ _ => rfl) (fun _ _ => rfl) (fun _ _ => rfl) h_portw, R_portc_x (M := M) (K := K) rfl (fun _ _ => rfl) (fun _ _ => rfl) (fun _ _ => rfl) (fun _ _ => rfl) (fun _ _ => rfl) (fun _ _ => rfl) (fun _ _ => rfl) h_portc, R_porto_x (M := M) (K := K) rfl rfl (fun _ _ => rfl) (fun _ _ => rfl) (fun _ _ => rfl) (fun _ _ => rfl) h_porto, R_portr_x (M := M) (K := K) rfl rfl (fun _ _ => rfl) (fun _ _ => rfl) (fun _ _ => rfl) (fun _ _ => rfl) (fun _ _ => rfl) (fun _ _ => rfl) (fun _ _ => rfl) h_portr, R_portq_x (M := M) (K := K) (fun _ _ => rfl) rfl (fun _ _ => rfl) rfl h_portq, ?_, ?_, ?_, R_time_x (M := M) (K := K) rfl rfl h_time, R_lines_x (M := M) (K := K) rfl rfl h_lines, R_ends_x (M := M) (K := K) rfl (fun _ _ => rfl) (fun _ _ => rfl) (fun _ _ => rfl) (fun _ _ => rfl) (fun _ _ => rfl) h_ends, R_cardn_x (M := M) (K := K) rfl rfl h_cardn, R_cards_x (M := M) (K := K) rfl rfl (fun _ _ => rfl) (fun _ _ => rfl) (fun _ _ => rfl) h_cards, R_personn_x (M := M) (K := K) rfl rfl h_personn, R_rightn_x (M := M) (K := K) rfl rfl h_rightn, R_rights_x (M := M) (K := K) rfl (fun _ _ => rfl) (fun _ _ => rfl) (fun _ _ => rfl) (fun _ _ => rfl) (fun _ _ => rfl) (fun _ _ => rfl) h_rights, R_names_x (M := M) (K := K) rfl (fun _ _ => rfl) (fun _ _ => rfl) h_names, R_spaces_x (M := M) (K := K) rfl rfl rfl h_spaces, R_rooms_x (M := M) (K := K) rfl rfl rfl h_rooms, TL_en hTL, R_againstn_x (M := M) (K := K) rfl rfl h_againstn, R_against_x (M := M) (K := K) rfl (fun _ _ => rfl) (fun _ _ => rfl) (fun _ _ => rfl) (fun _ _ => rfl) (fun _ _ => rfl) h_against⟩
  · intro i i0 i1
    have z := h_persons i i0 i1
    unfold enC enR
    by_cases e : i = q
    · subst e
      simp only [qw_ap, false_and, true_and, and_true, and_false, and_self, if_false, if_true, reduceIte, Nat.reduceEqDiff, Int.reduceEq]
      exact ⟨z.2.2.2.1, z.2.2.2.2.1, z.2.2.2.2.2.2.1, z.2.2.2.2.2.2.2⟩
    · simp only [qw_ap, e, false_and, true_and, and_true, and_false, and_self, if_false, if_true, reduceIte, Nat.reduceEqDiff, Int.reduceEq]
      exact z
  · intro i i0 i1
    have z := h_personb i i0 i1
    unfold enC enR
    by_cases e : i = q
    · subst e
      have w := h_portw p p0 p1
      have v := h_portq p p0 p1
      simp only [qw_ap, false_and, true_and, and_true, and_false, and_self, if_false, if_true, reduceIte, Nat.reduceEqDiff, Int.reduceEq]
      refine ⟨by rcases hroom with e | e <;> omega, by rcases hroom with e | e <;> omega, z.2.2.1, t0, t1, ?_⟩
      unfold peX peY
      by_cases g : room = (K 2156 9 0)
      · rw [if_pos g, if_pos (g.trans hz), if_pos (g.trans hz)]
        exact ⟨rfl, rfl⟩
      · have gz : ¬ room = (M 51 3 0) := fun x => g (x.trans hz.symm)
        rw [if_neg g]
        simp only [if_neg gz]
        by_cases g2 : room = M 825 (13 * p) 0
        · simp only [if_pos g2]
          have u := v.1 (fun x => g (g2.trans x))
          exact ⟨u.1, u.2.1, u.2.2.1, u.2.2.2.1, u.2.2.2.2.trans g2.symm⟩
        · simp only [if_neg g2]
          have g3 : room = M 825 (13 * p + 1) 0 := hroom.elim (fun x => absurd x g2) (fun x => x)
          have u := v.2 (fun x => g (g3.trans x))
          exact ⟨u.1, u.2.1, u.2.2.1, u.2.2.2.1, u.2.2.2.2.trans g3.symm⟩
    · simp only [qw_ap, e, false_and, true_and, and_true, and_false, and_self, if_false, if_true, reduceIte, Nat.reduceEqDiff, Int.reduceEq]
      exact z
  · intro i i0 i1
    have z := h_personz i i0 i1
    have e : ¬ i = q := by
      have i0 : (M 756 7 0) ≤ i := i0
      omega
    unfold enC enR
    simp only [qw_ap, e, false_and, true_and, and_true, and_false, and_self, if_false, if_true, reduceIte, Nat.reduceEqDiff, Int.reduceEq]
    exact z
def agC (M : qm) (p c m w : Int) : qm := if 100 ≤ (M 824 15 0) then qw M 824 15 0 ((M 824 15 0) + 1) else qw (qw (qw (qw (qw M 907 (4 * (M 824 15 0)) 0 p) 907 (4 * (M 824 15 0) + 1) 0 c) 907 (4 * (M 824 15 0) + 2) 0 m) 907 (4 * (M 824 15 0) + 3) 0 w) 824 15 0 ((M 824 15 0) + 1)
def agR (K : qm) (p c m w : Int) : qm := if 100 ≤ (K 2156 49 0) then qw K 2156 49 0 ((K 2156 49 0) + 1) else qw (qw (qw (qw (qw K 2322 (K 2156 49 0) 0 p) 2323 (K 2156 49 0) 0 c) 2324 (K 2156 49 0) 0 m) 2325 (K 2156 49 0) 0 w) 2156 49 0 ((K 2156 49 0) + 1)
theorem noteAgainst_r (h0 : 0 ≤ (M 824 15 0)) (h1 : (M 824 15 0) < 1000000) : qf_X0_noteAgainst 20000 p c m w M = some ((), agC M p c m w) := by
  have e0 : w32 ((M 824 15 0) + 1) = (M 824 15 0) + 1 := w32_id (by omega) (by omega)
  unfold qf_X0_noteAgainst agC
  by_cases g : 100 ≤ (M 824 15 0)
  · rw [if_pos g, if_pos g]
    unfold qf_X0_noteAgainst_J56
    rw [e0]
    rfl
  · have e1 : w32 (4 * (M 824 15 0)) = 4 * (M 824 15 0) := w32_id (by omega) (by omega)
    have e2 : w32 (4 * (M 824 15 0) + 1) = 4 * (M 824 15 0) + 1 := w32_id (by omega) (by omega)
    have e3 : w32 (4 * (M 824 15 0) + 2) = 4 * (M 824 15 0) + 2 := w32_id (by omega) (by omega)
    have e4 : w32 (4 * (M 824 15 0) + 3) = 4 * (M 824 15 0) + 3 := w32_id (by omega) (by omega)
    rw [if_neg g, if_neg g, e1, e2, e3, e4, if_pos (by omega)]
    refine qW_e (qW_bnd ?_)
    rw [if_pos (by omega)]
    refine qW_bnd ?_
    rw [if_pos (by omega)]
    refine qW_bnd ?_
    rw [if_pos (by omega)]
    refine qW_bnd ?_
    unfold qf_X0_noteAgainst_J56
    refine qW_bnd (qW_some ?_)
    show ((), qw _ 824 15 0 (w32 ((M 824 15 0) + 1))) = _
    rw [e0]
theorem ag_OFX (h : OFX M K) : OFX (agC M p c m w) (agR K p c m w) := by
  obtain ⟨h_portn, h_portw, h_portc, h_porto, h_portr, h_portq, h_persons, h_personb, h_personz, h_time, h_lines, h_ends, h_cardn, h_cards, h_personn, h_rightn, h_rights, h_names, h_spaces, h_rooms, hTL, h_againstn, h_against⟩ := h
  have s_againstn := h_againstn
  unfold R_againstn at s_againstn
  have o : ∀ b i j, b ≠ 907 → ¬ (b = 824 ∧ i = 15) → (agC M p c m w) b i j = M b i j := by
    intro b i j h1 h2
    unfold agC
    split
    · exact qw_ap.trans (if_neg (by omega))
    · simp only [qw_ap]
      rw [if_neg (by omega), if_neg (by omega), if_neg (by omega), if_neg (by omega), if_neg (by omega)]
  have r : ∀ b i j, ¬ (2322 ≤ b ∧ b ≤ 2325) → ¬ (b = 2156 ∧ i = 49) → (agR K p c m w) b i j = K b i j := by
    intro b i j h1 h2
    unfold agR
    split
    · exact qw_ap.trans (if_neg (by omega))
    · simp only [qw_ap]
      rw [if_neg (by omega), if_neg (by omega), if_neg (by omega), if_neg (by omega), if_neg (by omega)]
  have o2 : ∀ b i j, b ≠ 907 → b ≠ 824 → (agC M p c m w) b i j = M b i j := fun b i j h1 h2 => o b i j h1 (fun x => h2 x.1)
  have r2 : ∀ b i j, ¬ (2322 ≤ b ∧ b ≤ 2325) → b ≠ 2156 → (agR K p c m w) b i j = K b i j := fun b i j h1 h2 => r b i j h1 (fun x => h2 x.1)
  have c15 : (agC M p c m w) 824 15 0 = (M 824 15 0) + 1 := by
    unfold agC
    split <;> exact qw_s
  have k49 : (agR K p c m w) 2156 49 0 = (K 2156 49 0) + 1 := by
    unfold agR
    split <;> exact qw_s
  obtain ⟨h_telln, h_tellt, h_tellc, h_tellr, h_notek, h_noteo, h_notex⟩ := hTL
  refine ⟨(R_portn_x (M := M) (K := K) (o 6 11 0 (by decide) (by decide)) (o 824 3 0 (by decide) (by decide)) (o 824 7 0 (by decide) (by decide)) (fun i j => o2 825 i j (by decide) (by decide)) (fun i j => o2 826 i j (by decide) (by decide)) (fun i j => o2 827 i j (by decide) (by decide)) (r 2156 10 0 (by decide) (by decide)) h_portn), (R_portw_x (M := M) (K := K) (o 7 0 0 (by decide) (by decide)) (o 824 3 0 (by decide) (by decide)) (fun i j => o2 825 i j (by decide) (by decide)) (r 2156 9 0 (by decide) (by decide)) (fun i j => r2 2289 i j (by decide) (by decide)) (fun i j => r2 2290 i j (by decide) (by decide)) (fun i j => r2 2291 i j (by decide) (by decide)) (fun i j => r2 2292 i j (by decide) (by decide)) h_portw), (R_portc_x (M := M) (K := K) (o 824 3 0 (by decide) (by decide)) (fun i j => o2 825 i j (by decide) (by decide)) (fun i j => r2 2158 i j (by decide) (by decide)) (fun i j => r2 2159 i j (by decide) (by decide)) (fun i j => r2 2160 i j (by decide) (by decide)) (fun i j => r2 2161 i j (by decide) (by decide)) (fun i j => r2 2291 i j (by decide) (by decide)) (fun i j => r2 2293 i j (by decide) (by decide)) h_portc), (R_porto_x (M := M) (K := K) (o 6 12 0 (by decide) (by decide)) (o 824 3 0 (by decide) (by decide)) (fun i j => o2 825 i j (by decide) (by decide)) (fun i j => r2 2294 i j (by decide) (by decide)) (fun i j => r2 2295 i j (by decide) (by decide)) (fun i j => r2 2296 i j (by decide) (by decide)) h_porto), (R_portr_x (M := M) (K := K) (o 824 3 0 (by decide) (by decide)) (o 824 8 0 (by decide) (by decide)) (fun i j => o2 826 i j (by decide) (by decide)) (fun i j => r2 2289 i j (by decide) (by decide)) (fun i j => r2 2290 i j (by decide) (by decide)) (fun i j => r2 2298 i j (by decide) (by decide)) (fun i j => r2 2299 i j (by decide) (by decide)) (fun i j => r2 2300 i j (by decide) (by decide)) (fun i j => r2 2301 i j (by decide) (by decide)) h_portr), (R_portq_x (M := M) (K := K) (fun i j => o2 56 i j (by decide) (by decide)) (o 824 3 0 (by decide) (by decide)) (fun i j => o2 825 i j (by decide) (by decide)) (r 2156 9 0 (by decide) (by decide)) h_portq), (R_persons_x (M := M) (K := K) (o 756 7 0 (by decide) (by decide)) (fun i j => o2 761 i j (by decide) (by decide)) (fun i j => r2 2304 i j (by decide) (by decide)) (fun i j => r2 2305 i j (by decide) (by decide)) (fun i j => r2 2306 i j (by decide) (by decide)) (fun i j => r2 2307 i j (by decide) (by decide)) (fun i j => r2 2308 i j (by decide) (by decide)) (fun i j => r2 2309 i j (by decide) (by decide)) (fun i j => r2 2310 i j (by decide) (by decide)) (fun i j => r2 2311 i j (by decide) (by decide)) h_persons), (R_personb_x (M := M) (K := K) (o 6 12 0 (by decide) (by decide)) (fun i j => o2 56 i j (by decide) (by decide)) (o 756 7 0 (by decide) (by decide)) (r 2156 9 0 (by decide) (by decide)) (fun i j => r2 2306 i j (by decide) (by decide)) (fun i j => r2 2307 i j (by decide) (by decide)) (fun i j => r2 2308 i j (by decide) (by decide)) (fun i j => r2 2309 i j (by decide) (by decide)) (fun i j => r2 2311 i j (by decide) (by decide)) h_personb), (R_personz_x (M := M) (K := K) (o 756 7 0 (by decide) (by decide)) (fun i j => o2 761 i j (by decide) (by decide)) (fun i j => r2 2310 i j (by decide) (by decide)) (fun i j => r2 2311 i j (by decide) (by decide)) h_personz), (R_time_x (M := M) (K := K) (o 6 12 0 (by decide) (by decide)) (r 2156 2 0 (by decide) (by decide)) h_time), (R_lines_x (M := M) (K := K) (o 7 0 0 (by decide) (by decide)) (r 2157 0 0 (by decide) (by decide)) h_lines), (R_ends_x (M := M) (K := K) (o 7 0 0 (by decide) (by decide)) (fun i j => o2 8 i j (by decide) (by decide)) (fun i j => r2 2158 i j (by decide) (by decide)) (fun i j => r2 2159 i j (by decide) (by decide)) (fun i j => r2 2160 i j (by decide) (by decide)) (fun i j => r2 2161 i j (by decide) (by decide)) h_ends), (R_cardn_x (M := M) (K := K) (o 824 8 0 (by decide) (by decide)) (r 2156 36 0 (by decide) (by decide)) h_cardn), (R_cards_x (M := M) (K := K) (o 756 7 0 (by decide) (by decide)) (o 824 8 0 (by decide) (by decide)) (fun i j => o2 828 i j (by decide) (by decide)) (fun i j => r2 2312 i j (by decide) (by decide)) (fun i j => r2 2313 i j (by decide) (by decide)) h_cards), (R_personn_x (M := M) (K := K) (o 756 7 0 (by decide) (by decide)) (r 2156 27 0 (by decide) (by decide)) h_personn), (R_rightn_x (M := M) (K := K) (o 824 10 0 (by decide) (by decide)) (r 2156 39 0 (by decide) (by decide)) h_rightn), (R_rights_x (M := M) (K := K) (o 824 10 0 (by decide) (by decide)) (fun i j => o2 889 i j (by decide) (by decide)) (fun i j => r2 2314 i j (by decide) (by decide)) (fun i j => r2 2315 i j (by decide) (by decide)) (fun i j => r2 2316 i j (by decide) (by decide)) (fun i j => r2 2317 i j (by decide) (by decide)) (fun i j => r2 2318 i j (by decide) (by decide)) h_rights), (R_names_x (M := M) (K := K) (o 51 3 0 (by decide) (by decide)) (fun i j => o2 58 i j (by decide) (by decide)) (fun i j => r2 2172 i j (by decide) (by decide)) h_names), (R_spaces_x (M := M) (K := K) (o 51 1 0 (by decide) (by decide)) (o 51 3 0 (by decide) (by decide)) (r 2157 17 0 (by decide) (by decide)) h_spaces), (R_rooms_x (M := M) (K := K) (o 6 11 0 (by decide) (by decide)) (o 51 3 0 (by decide) (by decide)) (r 2156 9 0 (by decide) (by decide)) h_rooms), ⟨(R_telln_x (M := M) (K := K) (o 824 12 0 (by decide) (by decide)) (o 824 13 0 (by decide) (by decide)) (r 2156 45 0 (by decide) (by decide)) h_telln), (R_tellt_x (M := M) (K := K) (o 824 8 0 (by decide) (by decide)) (o 824 10 0 (by decide) (by decide)) (o 824 12 0 (by decide) (by decide)) (fun i j => o2 828 i j (by decide) (by decide)) (fun i j => o2 889 i j (by decide) (by decide)) (fun i j => r2 2319 i j (by decide) (by decide)) (fun i j => r2 2320 i j (by decide) (by decide)) (fun i j => r2 2321 i j (by decide) (by decide)) h_tellt), (R_tellc_x (M := M) (K := K) (o 824 8 0 (by decide) (by decide)) (o 824 12 0 (by decide) (by decide)) (fun i j => o2 828 i j (by decide) (by decide)) (fun i j => r2 2319 i j (by decide) (by decide)) (fun i j => r2 2320 i j (by decide) (by decide)) h_tellc), (R_tellr_x (M := M) (K := K) (o 824 10 0 (by decide) (by decide)) (o 824 12 0 (by decide) (by decide)) (fun i j => o2 889 i j (by decide) (by decide)) (fun i j => r2 2319 i j (by decide) (by decide)) (fun i j => r2 2320 i j (by decide) (by decide)) h_tellr), (R_notek_x (M := M) (K := K) (o 824 12 0 (by decide) (by decide)) (o 824 13 0 (by decide) (by decide)) (fun i j => o2 906 i j (by decide) (by decide)) (fun i j => r2 2319 i j (by decide) (by decide)) (fun i j => r2 2320 i j (by decide) (by decide)) (fun i j => r2 2321 i j (by decide) (by decide)) h_notek), (R_noteo_x (M := M) (K := K) (o 824 13 0 (by decide) (by decide)) (fun i j => o2 906 i j (by decide) (by decide)) h_noteo), (R_notex_x (M := M) (K := K) (o 824 12 0 (by decide) (by decide)) (o 824 13 0 (by decide) (by decide)) (fun i j => o2 906 i j (by decide) (by decide)) (fun i j => r2 2319 i j (by decide) (by decide)) h_notex)⟩, ?_, ?_⟩
  · refine ⟨by rw [c15]; omega, by rw [c15, k49]; omega⟩
  · intro k k0 k1 k2
    rw [c15] at k2
    unfold agC agR
    by_cases g : 100 ≤ (M 824 15 0)
    · rw [if_pos g, if_pos (by omega)]
      have z := h_against k k0 k1 (by omega)
      exact z
    · rw [if_neg g, if_neg (by omega)]
      simp only [qw_ap, false_and, true_and, and_true, and_false, and_self, if_false, if_true, reduceIte, Nat.reduceEqDiff, Int.reduceEq]
      have ek : (K 2156 49 0) = (M 824 15 0) := s_againstn.2
      rw [ek]
      by_cases e : k = (M 824 15 0)
      · rw [e]
        have f1 : ¬ (4 * (M 824 15 0) = 4 * (M 824 15 0) + 1) := by omega
        have f2 : ¬ (4 * (M 824 15 0) = 4 * (M 824 15 0) + 2) := by omega
        have f3 : ¬ (4 * (M 824 15 0) = 4 * (M 824 15 0) + 3) := by omega
        have f4 : ¬ (4 * (M 824 15 0) + 1 = 4 * (M 824 15 0) + 2) := by omega
        have f5 : ¬ (4 * (M 824 15 0) + 1 = 4 * (M 824 15 0) + 3) := by omega
        have f6 : ¬ (4 * (M 824 15 0) + 2 = 4 * (M 824 15 0) + 3) := by omega
        simp only [f1, f2, f3, f4, f5, f6, if_true, if_false, reduceIte, and_self]
      · have z := h_against k k0 k1 (by omega)
        rw [if_neg e, if_neg e, if_neg e, if_neg e]
        rw [if_neg (by omega), if_neg (by omega), if_neg (by omega), if_neg (by omega), if_neg (by omega), if_neg (by omega), if_neg (by omega), if_neg (by omega), if_neg (by omega), if_neg (by omega), if_neg (by omega), if_neg (by omega), if_neg (by omega), if_neg (by omega), if_neg (by omega), if_neg (by omega)]
        exact z
end OFF
