/-! ===== the call ask ===== -/
def AQ (M K : qm) : Prop := AKr M K ∧ R_built M K ∧ R_time M K ∧ R_lines M K ∧ R_ends M K ∧ R_cardn M K ∧ R_cards M K ∧ R_personn M K ∧ R_rightn M K ∧ R_rights M K ∧ R_names M K ∧ R_spaces M K ∧ R_rooms M K ∧ TL M K ∧ R_lockb M K ∧ R_lockr M K ∧ R_locku M K ∧ R_macts M K ∧ R_mstate M K
def qAM (M : qm) (a b : Int) : qm := qw (qw M 824 17 0 a) 824 18 0 b
section AQS
variable {M K : qm} {a b v c p room rl : Int}
theorem TL_M (h : TL M K) : TL (qAM M a b) (qw K 2156 0 0 v) := by
  obtain ⟨h_telln, h_tellt, h_tellc, h_tellr, h_notek, h_noteo, h_notex⟩ := h
  exact ⟨R_telln_x (M := M) (K := K) rfl rfl rfl h_telln, R_tellt_x (M := M) (K := K) rfl rfl rfl (fun _ _ => rfl) (fun _ _ => rfl) (fun _ _ => rfl) (fun _ _ => rfl) (fun _ _ => rfl) h_tellt, R_tellc_x (M := M) (K := K) rfl rfl (fun _ _ => rfl) (fun _ _ => rfl) (fun _ _ => rfl) h_tellc, R_tellr_x (M := M) (K := K) rfl rfl (fun _ _ => rfl) (fun _ _ => rfl) (fun _ _ => rfl) h_tellr, R_notek_x (M := M) (K := K) rfl rfl (fun _ _ => rfl) (fun _ _ => rfl) (fun _ _ => rfl) (fun _ _ => rfl) h_notek, R_noteo_x (M := M) (K := K) rfl (fun _ _ => rfl) h_noteo, R_notex_x (M := M) (K := K) rfl rfl (fun _ _ => rfl) (fun _ _ => rfl) h_notex⟩
theorem AKr_M (h : AKr M K) : AKr (qAM M a b) (qw K 2156 0 0 v) := by
  obtain ⟨h_portn, h_portw, h_portc, h_porto, h_portk, h_portr, h_portq, h_persons, h_personb, h_personz⟩ := h
  exact ⟨R_portn_x (M := M) (K := K) rfl rfl rfl (fun _ _ => rfl) (fun _ _ => rfl) (fun _ _ => rfl) rfl h_portn, R_portw_x (M := M) (K := K) rfl rfl (fun _ _ => rfl) rfl (fun _ _ => rfl) (fun _ _ => rfl) (fun _ _ => rfl) (fun _ _ => rfl) h_portw, R_portc_x (M := M) (K := K) rfl (fun _ _ => rfl) (fun _ _ => rfl) (fun _ _ => rfl) (fun _ _ => rfl) (fun _ _ => rfl) (fun _ _ => rfl) (fun _ _ => rfl) h_portc, R_porto_x (M := M) (K := K) rfl rfl (fun _ _ => rfl) (fun _ _ => rfl) (fun _ _ => rfl) (fun _ _ => rfl) h_porto, R_portk_x (M := M) (K := K) rfl rfl (fun _ _ => rfl) (fun _ _ => rfl) (fun _ _ => rfl) h_portk, R_portr_x (M := M) (K := K) rfl rfl (fun _ _ => rfl) (fun _ _ => rfl) (fun _ _ => rfl) (fun _ _ => rfl) (fun _ _ => rfl) (fun _ _ => rfl) (fun _ _ => rfl) h_portr, R_portq_x (M := M) (K := K) (fun _ _ => rfl) rfl (fun _ _ => rfl) rfl h_portq, R_persons_x (M := M) (K := K) rfl (fun _ _ => rfl) (fun _ _ => rfl) (fun _ _ => rfl) (fun _ _ => rfl) (fun _ _ => rfl) (fun _ _ => rfl) (fun _ _ => rfl) (fun _ _ => rfl) (fun _ _ => rfl) h_persons, R_personb_x (M := M) (K := K) rfl (fun _ _ => rfl) rfl rfl (fun _ _ => rfl) (fun _ _ => rfl) (fun _ _ => rfl) (fun _ _ => rfl) (fun _ _ => rfl) h_personb, R_personz_x (M := M) (K := K) rfl (fun _ _ => rfl) (fun _ _ => rfl) (fun _ _ => rfl) h_personz⟩
theorem AQ_M (h : AQ M K) : AQ (qAM M a b) (qw K 2156 0 0 v) := by
  obtain ⟨h1, h_built, h_time, h_lines, h_ends, h_cardn, h_cards, h_personn, h_rightn, h_rights, h_names, h_spaces, h_rooms, h2, h3, h_lockr, h_locku, h_macts, h_mstate⟩ := h
  exact ⟨AKr_M h1, R_built_x (M := M) (K := K) rfl rfl h_built, R_time_x (M := M) (K := K) rfl rfl h_time, R_lines_x (M := M) (K := K) rfl rfl h_lines, R_ends_x (M := M) (K := K) rfl (fun _ _ => rfl) (fun _ _ => rfl) (fun _ _ => rfl) (fun _ _ => rfl) (fun _ _ => rfl) h_ends, R_cardn_x (M := M) (K := K) rfl rfl h_cardn, R_cards_x (M := M) (K := K) rfl rfl (fun _ _ => rfl) (fun _ _ => rfl) (fun _ _ => rfl) h_cards, R_personn_x (M := M) (K := K) rfl rfl h_personn, R_rightn_x (M := M) (K := K) rfl rfl h_rightn, R_rights_x (M := M) (K := K) rfl (fun _ _ => rfl) (fun _ _ => rfl) (fun _ _ => rfl) (fun _ _ => rfl) (fun _ _ => rfl) (fun _ _ => rfl) h_rights, R_names_x (M := M) (K := K) rfl (fun _ _ => rfl) (fun _ _ => rfl) h_names, R_spaces_x (M := M) (K := K) rfl rfl rfl h_spaces, R_rooms_x (M := M) (K := K) rfl rfl rfl h_rooms, TL_M h2, R_lockb_x (M := M) (K := K) rfl rfl (fun _ _ => rfl) rfl (fun _ _ => rfl) (fun _ _ => rfl) h3, R_lockr_x (M := M) (K := K) rfl rfl (fun _ _ => rfl) (fun _ _ => rfl) h_lockr, R_locku_x (M := M) (K := K) rfl (fun _ _ => rfl) (fun _ _ => rfl) h_locku, R_macts_x (M := M) (K := K) (fun _ _ => rfl) (fun _ _ => rfl) (fun _ _ => rfl) (fun _ _ => rfl) (fun _ _ => rfl) (fun _ _ => rfl) (fun _ _ => rfl) (fun _ _ => rfl) h_macts, R_mstate_x (M := M) (K := K) rfl (fun _ _ => rfl) (fun _ _ => rfl) (fun _ _ => rfl) (fun _ _ => rfl) (fun _ _ => rfl) (fun _ _ => rfl) (fun _ _ => rfl) (fun _ _ => rfl) h_mstate⟩
theorem rel_c : qf_X11_isReleased 20000 M = some (b01 (kdC M 0)) := by
  refine qW_e ?_
  unfold qf_X11_isReleased
  refine qW_call (isKindDone_r (M := M) (k := 0)) ?_
  rintro r (⟨rfl, h⟩ | ⟨rfl, h⟩)
  · rw [b01_t h]
    exact qW_some rfl
  · rw [b01_f h]
    exact qW_some rfl
theorem rel_k (h_macts : R_macts M K) (h_mstate : R_mstate M K) : qf_X18_isReleased 20000 K = some (b01 (kdC M 0)) := by
  refine qW_e ?_
  unfold qf_X18_isReleased
  refine qW_call (done2_r h_macts h_mstate (k := 0) (by decide)) ?_
  rintro r (⟨h0, h⟩ | ⟨rfl, h⟩)
  · rw [b01_t h, if_neg (by omega)]
    exact qW_some rfl
  · rw [b01_f h]
    exact qW_some rfl
theorem isRoomOf_r (h : pnM M) (p0 : 0 ≤ p) (p1 : p < (M 824 3 0)) : qf_X0_isRoomOf 20000 p room M = some (b01 (room = M 825 (13 * p) 0 ∨ room = M 825 (13 * p + 1) 0)) := by
  have e0 : qf_X0_factOf 20000 p 0 M = some (M 825 (13 * p) 0) := by
    rw [factOf_r h p0 p1 (by decide) (by decide), Int.add_zero]
  refine qW_e ?_
  unfold qf_X0_isRoomOf
  rw [e0, factOf_r h p0 p1 (by decide) (by decide)]
  refine qW_bind (qW_some ?_)
  by_cases g : M 825 (13 * p) 0 = room
  · rw [if_pos g, b01_t (Or.inl g.symm)]
    exact qW_some rfl
  · rw [if_neg g]
    refine qW_bind (qW_some ?_)
    by_cases g2 : M 825 (13 * p + 1) 0 = room
    · rw [if_pos g2, b01_t (Or.inr g2.symm)]
      exact qW_some rfl
    · rw [if_neg g2, b01_f (fun x => x.elim (fun y => g y.symm) (fun y => g2 y.symm))]
      exact qW_some rfl
theorem isOf_r (h_portn : R_portn M K) (h_portw : R_portw M K) (hz : 0 ≤ (K 2156 9 0) ∧ (K 2156 9 0) ≤ 100) (p0 : 0 ≤ p) (p1 : p < (M 824 3 0)) : qf_X18_isOf 20000 p room K = some (b01 (room = M 825 (13 * p) 0 ∨ room = M 825 (13 * p + 1) 0)) := by
  have s_portn := h_portn
  unfold R_portn at s_portn
  have w := h_portw p p0 p1
  have hp14 : 0 ≤ p ∧ p < 1400 := by omega
  refine qW_e ?_
  unfold qf_X18_isOf
  refine qW_isIn (fun x => by omega) (fun _ _ => ?_)
  rw [if_neg (by decide), w32_id (x := (K 2156 9 0) + 1) (by omega) (by omega)]
  refine qW_isIn (fun x => ?_) (fun x y => ?_)
  · rw [if_pos rfl, b01_f (fun z => by rcases z with z | z <;> omega)]
    exact qW_some rfl
  · rw [if_neg (by decide), if_pos hp14, if_pos hp14, w.1, w.2.1]
    by_cases g : M 825 (13 * p) 0 = room
    · rw [if_pos g, b01_t (Or.inl g.symm)]
      exact qW_some rfl
    · rw [if_neg g]
      by_cases g2 : M 825 (13 * p + 1) 0 = room
      · rw [if_pos g2, b01_t (Or.inr g2.symm)]
        exact qW_some rfl
      · rw [if_neg g2, b01_f (fun x => x.elim (fun y => g y.symm) (fun y => g2 y.symm))]
        exact qW_some rfl
theorem roomRows_r {m : Int} (h : pnM M) (p0 : 0 ≤ p) (p1 : p < (M 824 3 0)) (n0 : 0 ≤ M 825 (13 * p + 12) 0) (n1 : M 825 (13 * p + 12) 0 ≤ 20) (m0 : 0 ≤ m) (m1 : m ≤ 2) : qf_X0_hasRoomForRows 20000 p m M = some (b01 (M 825 (13 * p + 11) 0 = -1 ∨ M 825 (13 * p + 12) 0 + m ≤ 20)) := by
  refine qW_e ?_
  unfold qf_X0_hasRoomForRows qf_X0_isOff
  rw [factOf_r h p0 p1 (by decide) (by decide), factOf_r h p0 p1 (by decide) (by decide)]
  refine qW_bind (qW_bind (qW_some ?_))
  by_cases g : M 825 (13 * p + 11) 0 = -1
  · rw [if_pos g]
    refine qW_some ?_
    rw [if_pos rfl, b01_t (Or.inl g)]
    exact qW_some rfl
  · rw [if_neg g]
    refine qW_some ?_
    rw [if_neg (by decide)]
    refine qW_bind (qW_some ?_)
    rw [w32_id (x := M 825 (13 * p + 12) 0 + m) (by omega) (by omega)]
    by_cases g2 : 20 < M 825 (13 * p + 12) 0 + m
    · rw [if_pos g2, b01_f (fun x => by omega)]
      exact qW_some rfl
    · rw [if_neg g2, b01_t (Or.inr (by omega))]
      exact qW_some rfl
theorem V_both (h : AQ M K) (t5 : (M 824 12 0) ≤ 512) (l5 : (K 2156 24 0) ≤ 4100) (hb : (M 6 11 0) ≠ 0) (hM : (M 824 17 0) = (M 6 12 0)) (hr : (M 824 18 0) = b01 (kdC M 0)) (hc : 0 ≤ c ∧ c < (M 824 8 0)) (p0 : 0 ≤ p) (p1 : p < (M 824 3 0)) (hroom : room = M 825 (13 * p) 0 ∨ room = M 825 (13 * p + 1) 0) : ∃ V, qf_X0_refusal 20000 c p room M = some V ∧ qf_X18_refused 20000 c p room K = some V ∧ 0 ≤ V := by
  obtain ⟨⟨h_portn, h_portw, h_portc, h_porto, h_portk, h_portr, h_portq, h_persons, h_personb, h_personz⟩, h_built, h_time, h_lines, h_ends, h_cardn, h_cards, h_personn, h_rightn, h_rights, h_names, h_spaces, h_rooms, hTL, hlb, h_lockr, h_locku, h_macts, h_mstate⟩ := h
  have s_time := h_time
  unfold R_time at s_time
  have s_cardn := h_cardn
  unfold R_cardn at s_cardn
  have s_personn := h_personn
  unfold R_personn at s_personn
  have s_rightn := h_rightn
  unfold R_rightn at s_rightn
  have s_spaces := h_spaces
  unfold R_spaces at s_spaces
  have s_telln := hTL.1
  unfold R_telln at s_telln
  have z := h_rooms hb
  have w := h_portw p p0 p1
  have qc := h_cards c hc.1 hc.2
  have ho : 0 ≤ otV M p room := by
    unfold otV
    split <;> omega
  refine ⟨Vv M c p room ((M 6 12 0) / 60) (b01 (kdC M 0)), ?_, ?_, ?_⟩
  · exact refusal_c h_portn hTL.2.2.2.2.1 hTL.2.1 s_telln.2.2.1 (by omega) s_rightn.1 s_rightn.2.1 (by omega) (by omega) (by omega) p0 p1 hM s_time.1 hr ho
  · exact refused_k h_portn h_portw h_portk h_porto h_rightn h_rights h_cardn h_cards h_personn h_persons h_personb h_names h_spaces hTL hlb h_lockr h_locku.1 l5 (by omega) t5 z.1 hc p0 p1 hroom s_time.2.2 s_time.1 (rel_k h_macts h_mstate)
  · unfold Vv Wv
    (repeat' split) <;> decide
theorem let_AQ (h : AQ M K) (t5 : (M 824 12 0) ≤ 512) (hb : (M 6 11 0) ≠ 0) (hM : (M 824 17 0) = (M 6 12 0)) (hr : (M 824 18 0) = b01 (kdC M 0)) (hc : 0 ≤ c ∧ c < (M 824 8 0)) (p0 : 0 ≤ p) (p1 : p < (M 824 3 0)) (hroom : room = M 825 (13 * p) 0 ∨ room = M 825 (13 * p + 1) 0) (hn : M 825 (13 * p + 11) 0 ≠ -1 → M 825 (13 * p + 12) 0 < 20) : ∃ S T, qf_X0_letIn 20000 c p room M = some ((), S) ∧ qf_X18_let 20000 c p room K = some ((), T) ∧ AQ S T ∧ (S 824 17 0) = (S 6 12 0) ∧ (S 824 18 0) = b01 (kdC S 0) ∧ S 825 (13 * p + 11) 0 = M 825 (13 * p + 11) 0 ∧ S 825 (13 * p + 12) 0 ≤ M 825 (13 * p + 12) 0 + 1 ∧ S 825 (13 * p) 0 = M 825 (13 * p) 0 ∧ S 825 (13 * p + 1) 0 = M 825 (13 * p + 1) 0 ∧ Fg 885515773132096405504 M S ∧ Fg 96186684559997167393451689931966795516843826407564453425980221130139885740527492408088683662742742063580437811298304 K T := by
  have hh := h
  obtain ⟨hA, h_built, h_time, h_lines, h_ends, h_cardn, h_cards, h_personn, h_rightn, h_rights, h_names, h_spaces, h_rooms, hTL, hlb, h_lockr, h_locku, h_macts, h_mstate⟩ := hh
  have s_time := h_time
  unfold R_time at s_time
  have s_spaces := h_spaces
  unfold R_spaces at s_spaces
  have z := h_rooms hb
  obtain ⟨S, T, e1, e2, h1, h2, h3, h4, h5⟩ := let_both hA t5 h_lines h_ends h_cardn h_cards h_personn z.1 s_spaces.1 p0 p1 hroom hc s_time.1 s_time.2.1 rfl hM s_time.2.2 hr (rel_k h_macts h_mstate) Iff.rfl (fun _ => hn)
  have f1 : Fg 885515773132096405504 M S := fr_X0_letIn Fg_refl _ e1
  have f2 : Fg 96186684559997167393451689931966795516843826407564453425980221130139885740527492408088683662742742063580437811298304 K T := fr_X18_let Fg_refl _ e2
  refine ⟨S, T, e1, e2, ⟨h1, (R_built_x (f1 6 11 0 rfl) (f2 2156 1 0 rfl) h_built), (R_time_x (f1 6 12 0 rfl) (f2 2156 2 0 rfl) h_time), (R_lines_x (f1 7 0 0 rfl) (f2 2157 0 0 rfl) h_lines), (R_ends_x (f1 7 0 0 rfl) (fun i j => Fg_v (a := 8) (j := i) f1 rfl rfl) (fun i j => Fg_v (a := 2158) (j := i) f2 rfl rfl) (fun i j => Fg_v (a := 2159) (j := i) f2 rfl rfl) (fun i j => Fg_v (a := 2160) (j := i) f2 rfl rfl) (fun i j => Fg_v (a := 2161) (j := i) f2 rfl rfl) h_ends), (R_cardn_x (f1 824 8 0 rfl) (f2 2156 36 0 rfl) h_cardn), (R_cards_x (f1 756 7 0 rfl) (f1 824 8 0 rfl) (fun i j => Fg_v (a := 828) (j := i) f1 rfl rfl) (fun i j => Fg_v (a := 2312) (j := i) f2 rfl rfl) (fun i j => Fg_v (a := 2313) (j := i) f2 rfl rfl) h_cards), (R_personn_x (f1 756 7 0 rfl) (f2 2156 27 0 rfl) h_personn), (R_rightn_x (f1 824 10 0 rfl) (f2 2156 39 0 rfl) h_rightn), (R_rights_x (f1 824 10 0 rfl) (fun i j => Fg_v (a := 889) (j := i) f1 rfl rfl) (fun i j => Fg_v (a := 2314) (j := i) f2 rfl rfl) (fun i j => Fg_v (a := 2315) (j := i) f2 rfl rfl) (fun i j => Fg_v (a := 2316) (j := i) f2 rfl rfl) (fun i j => Fg_v (a := 2317) (j := i) f2 rfl rfl) (fun i j => Fg_v (a := 2318) (j := i) f2 rfl rfl) h_rights), (R_names_x (f1 51 3 0 rfl) (fun i j => Fg_v (a := 58) (j := i) f1 rfl rfl) (fun i j => Fg_v (a := 2172) (j := i) f2 rfl rfl) h_names), (R_spaces_x (f1 51 1 0 rfl) (f1 51 3 0 rfl) (f2 2157 17 0 rfl) h_spaces), (R_rooms_x (f1 6 11 0 rfl) (f1 51 3 0 rfl) (f2 2156 9 0 rfl) h_rooms), ?_, R_lockb_x (f1 824 3 0 rfl) (f1 824 7 0 rfl) (fun i j => Fg_v f1 rfl rfl) (f2 2156 24 0 rfl) (fun i j => Fg_v f2 rfl rfl) (fun i j => Fg_v f2 rfl rfl) hlb, (R_lockr_x (f1 824 3 0 rfl) (f2 2156 24 0 rfl) (fun i j => Fg_v (a := 2302) (j := i) f2 rfl rfl) (fun i j => Fg_v (a := 2303) (j := i) f2 rfl rfl) h_lockr), (R_locku_x (f2 2156 24 0 rfl) (fun i j => Fg_v (a := 2302) (j := i) f2 rfl rfl) (fun i j => Fg_v (a := 2303) (j := i) f2 rfl rfl) h_locku), (R_macts_x (fun i j => Fg_v (a := 1197) (j := i) f1 rfl rfl) (fun i j => Fg_v (a := 1270) (j := i) f1 rfl rfl) (fun i j => Fg_v (a := 2219) (j := i) f2 rfl rfl) (fun i j => Fg_v (a := 2220) (j := i) f2 rfl rfl) (fun i j => Fg_v (a := 2221) (j := i) f2 rfl rfl) (fun i j => Fg_v (a := 2222) (j := i) f2 rfl rfl) (fun i j => Fg_v (a := 2223) (j := i) f2 rfl rfl) (fun i j => Fg_v (a := 2227) (j := i) f2 rfl rfl) h_macts), (R_mstate_x (f1 6 12 0 rfl) (fun i j => Fg_v (a := 1270) (j := i) f1 rfl rfl) (fun i j => Fg_v (a := 1271) (j := i) f1 rfl rfl) (fun i j => Fg_v (a := 1272) (j := i) f1 rfl rfl) (fun i j => Fg_v (a := 1273) (j := i) f1 rfl rfl) (fun i j => Fg_v (a := 2227) (j := i) f2 rfl rfl) (fun i j => Fg_v (a := 2228) (j := i) f2 rfl rfl) (fun i j => Fg_v (a := 2229) (j := i) f2 rfl rfl) (fun i j => Fg_v (a := 2230) (j := i) f2 rfl rfl) h_mstate)⟩, ?_, ?_, h2, h3, h4, h5, f1, f2⟩
  · obtain ⟨h_telln, h_tellt, h_tellc, h_tellr, h_notek, h_noteo, h_notex⟩ := hTL
    exact ⟨(R_telln_x (f1 824 12 0 rfl) (f1 824 13 0 rfl) (f2 2156 45 0 rfl) h_telln), (R_tellt_x (f1 824 8 0 rfl) (f1 824 10 0 rfl) (f1 824 12 0 rfl) (fun i j => Fg_v (a := 828) (j := i) f1 rfl rfl) (fun i j => Fg_v (a := 889) (j := i) f1 rfl rfl) (fun i j => Fg_v (a := 2319) (j := i) f2 rfl rfl) (fun i j => Fg_v (a := 2320) (j := i) f2 rfl rfl) (fun i j => Fg_v (a := 2321) (j := i) f2 rfl rfl) h_tellt), (R_tellc_x (f1 824 8 0 rfl) (f1 824 12 0 rfl) (fun i j => Fg_v (a := 828) (j := i) f1 rfl rfl) (fun i j => Fg_v (a := 2319) (j := i) f2 rfl rfl) (fun i j => Fg_v (a := 2320) (j := i) f2 rfl rfl) h_tellc), (R_tellr_x (f1 824 10 0 rfl) (f1 824 12 0 rfl) (fun i j => Fg_v (a := 889) (j := i) f1 rfl rfl) (fun i j => Fg_v (a := 2319) (j := i) f2 rfl rfl) (fun i j => Fg_v (a := 2320) (j := i) f2 rfl rfl) h_tellr), (R_notek_x (f1 824 12 0 rfl) (f1 824 13 0 rfl) (fun i j => Fg_v (a := 906) (j := i) f1 rfl rfl) (fun i j => Fg_v (a := 2319) (j := i) f2 rfl rfl) (fun i j => Fg_v (a := 2320) (j := i) f2 rfl rfl) (fun i j => Fg_v (a := 2321) (j := i) f2 rfl rfl) h_notek), (R_noteo_x (f1 824 13 0 rfl) (fun i j => Fg_v (a := 906) (j := i) f1 rfl rfl) h_noteo), (R_notex_x (f1 824 12 0 rfl) (f1 824 13 0 rfl) (fun i j => Fg_v (a := 906) (j := i) f1 rfl rfl) (fun i j => Fg_v (a := 2319) (j := i) f2 rfl rfl) h_notex)⟩
  · rw [show S 824 17 0 = M 824 17 0 from f1 824 17 0 rfl, show S 6 12 0 = M 6 12 0 from f1 6 12 0 rfl]
    exact hM
  · rw [show S 824 18 0 = M 824 18 0 from f1 824 18 0 rfl, hr]
    refine b01_c ?_
    unfold kdC
    simp only [show ∀ a, S 1270 a 0 = M 1270 a 0 from fun a => Fg_v f1 rfl rfl, show ∀ a, S 1197 a 1 = M 1197 a 1 from fun a => Fg_v f1 rfl rfl]
end AQS
