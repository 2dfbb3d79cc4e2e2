/-! ===== the law between two calls (wip/tools/q/genli.py) ===== -/
section LIc8j_n_rules
variable {M K N W : qm} {n x v y z i1 i2 i3 i4 i5 x1 x2 x3 x4 x5 x6 day : Int}
theorem li_rules (h : LIQ n M K) (hn : n < 512) : ∃ v M' K', qf_X11_rules 20000 M = some (v, M') ∧ qf_X18_rules 20000 K = some (v, K') ∧ LIQ (n + 1) M' K' := by
  obtain ⟨g0, gA, gB, gC, gD, gE, gF, gG, gH, gI, gJ, gK⟩ := h
  obtain ⟨h_textn, h_textc, h_factn, h_facts, h_factd, h_rulen, h_answers, h_RLS⟩ := id gB
  have nn : n ≤ n + 1 := by omega
  obtain ⟨v, M', K', e1, e2, t1, t2, t3, t4, t5, _⟩ := rules_both h_textn h_textc h_rulen h_answers h_RLS
  have f := fr_X11_rules (M0 := M) Fg_refl _ e1
  have g := fr_X18_rules (M0 := K) Fg_refl _ e2
  exact ⟨v, M', K', e1, e2, LI0_F nn (Fg_mono f rfl) (Fg_mono g rfl) g0, LIA_F nn (Fg_mono f rfl) (Fg_mono g rfl) gA, ⟨t1, t2, (R_factn_x (M := M) (K := K) (f 735 8 0 rfl) (g 2184 2 0 rfl) h_factn), (R_facts_x (M := M) (K := K) (f 735 8 0 rfl) (fun i j => Fg_v (a := 754) (j := i) f rfl rfl) (fun i j => Fg_v (a := 755) (j := i) f rfl rfl) (fun i j => Fg_v (a := 2186) (j := i) g rfl rfl) (fun i j => Fg_v (a := 2187) (j := i) g rfl rfl) h_facts), (R_factd_x (M := M) (K := K) (f 735 8 0 rfl) (fun i j => Fg_v (a := 754) (j := i) f rfl rfl) h_factd), t3, t4, t5⟩, LIC_F nn (Fg_mono f rfl) (Fg_mono g rfl) gC, LID_F nn (Fg_mono f rfl) (Fg_mono g rfl) gD, LIE_F nn (Fg_mono f rfl) (Fg_mono g rfl) gE, LIF_F nn (Fg_mono f rfl) (Fg_mono g rfl) gF, LIG_F nn (Fg_mono f rfl) (Fg_mono g rfl) gG, LIH_F nn (Fg_mono f rfl) (Fg_mono g rfl) gH, LII_F nn (Fg_mono f rfl) (Fg_mono g rfl) gI, LIJ_F nn (Fg_mono f rfl) (Fg_mono g rfl) gJ, LIK_F nn (Fg_mono f rfl) (Fg_mono g rfl) gK⟩
end LIc8j_n_rules
