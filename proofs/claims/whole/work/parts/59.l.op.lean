/-! ===== the call reset ===== -/
/-- all that acts' going needs of both sides -/
def MxI (M K : qm) (E : Int) : Prop := znC M ∧ rwC M ∧ rkC M ∧ R_mfault M K ∧ R_muntil M K ∧ R_mnow M K ∧ R_mvalue M K ∧ R_mzones M K ∧ R_mzonep M K ∧ R_mrows M K ∧ R_mrow M K ∧ mactS M K ∧ AcR M K E ∧ (∀ i, 0 ≤ i → i < 20 → (M 1197 i 0) = 0 → (M 1270 i 0) = 0)
theorem look_r {M K : qm} {t E : Int} (h : MxI M K E) (ht : (M 6 12 0) = t) : qW (qf_X4_lookAtZones 20000 t M) (fun r => ZR r.2 K t ∧ MxI r.2 K E ∧ likC M r.2) := by
  obtain ⟨h1, h2, h3, h4, h5, h6, h7, h8, h9, h10, h11, h12, h13, h14⟩ := h
  refine qW_mono (lookAtZones_r h1) (fun r hr => ?_)
  obtain ⟨hl, hk⟩ := hr
  have z1 : znC r.2 := znC_x hk h1
  have o : ∀ b i j, b ≠ 1274 → b ≠ 1275 → r.2 b i j = M b i j := hk
  have w2 : rwC r.2 := by
    unfold rwC
    simp only [o _ _ _ (show 1172 ≠ 1274 by decide) (show 1172 ≠ 1275 by decide), o _ _ _ (show 1218 ≠ 1274 by decide) (show 1218 ≠ 1275 by decide), o _ _ _ (show 1176 ≠ 1274 by decide) (show 1176 ≠ 1275 by decide)]
    exact h2
  have k3 : rkC r.2 := by
    unfold rkC
    simp only [o _ _ _ (show 1269 ≠ 1274 by decide) (show 1269 ≠ 1275 by decide), o _ _ _ (show 1197 ≠ 1274 by decide) (show 1197 ≠ 1275 by decide)]
    exact h3
  have kl : lkC r.2 t r.2 := by
    intro z z0 z1
    have q := hl z z0 z1
    rw [q.1, q.2]
    refine ⟨b01_c ?_, b01_c ?_⟩
    · unfold zOn
      rw [cOn_x hk, (lik_s hk z 0).1]
    · unfold zSu
      rw [cOn_x hk, cAk_x hk]
  have s4 : R_mfault r.2 K := R_mfault_x (M := M) (K := K) (fun i j => o _ _ _ (by decide) (by decide)) (fun _ _ => rfl) h4
  have s5 : R_muntil r.2 K := R_muntil_x (M := M) (K := K) (fun i j => o _ _ _ (by decide) (by decide)) (fun _ _ => rfl) h5
  have s6 : R_mnow r.2 K := R_mnow_x (M := M) (K := K) (o _ _ _ (by decide) (by decide)) rfl h6
  have s7 : R_mvalue r.2 K := R_mvalue_x (M := M) (K := K) (fun i j => o _ _ _ (by decide) (by decide)) (fun _ _ => rfl) h7
  have s8 : R_mzones r.2 K := R_mzones_x (M := M) (K := K) (fun i j => o _ _ _ (by decide) (by decide)) (fun _ _ => rfl) (fun _ _ => rfl) (fun _ _ => rfl) h8
  have s9 : R_mzonep r.2 K := R_mzonep_x (M := M) (K := K) (o _ _ _ (by decide) (by decide)) (fun i j => o _ _ _ (by decide) (by decide)) (fun _ _ => rfl) (fun _ _ => rfl) h9
  have s10 : R_mrows r.2 K := R_mrows_x (M := M) (K := K) (o _ _ _ (by decide) (by decide)) rfl h10
  have s11 : R_mrow r.2 K := R_mrow_x (M := M) (K := K) (o _ _ _ (by decide) (by decide)) (fun i j => o _ _ _ (by decide) (by decide)) (fun _ _ => rfl) (fun _ _ => rfl) (fun _ _ => rfl) (fun _ _ => rfl) (fun _ _ => rfl) h11
  have s12 : mactS r.2 K := by
    intro a a0 a1
    rw [o _ _ _ (by decide) (by decide), o _ _ _ (by decide) (by decide), o _ _ _ (by decide) (by decide), o _ _ _ (by decide) (by decide), o _ _ _ (by decide) (by decide)]
    exact h12 a a0 a1
  have s13 : AcR r.2 K E := by
    obtain ⟨g1, g2, g3, g4, g5⟩ := h13
    refine ⟨fun a a0 a1 => msA_x (M := M) (K := K) (o _ _ _ (by decide) (by decide)) (fun b hb _ => o _ _ _ (by rintro rfl; cases hb) (by rintro rfl; cases hb)) (fun _ _ _ => rfl) (g1 a a0 a1), ?_, ?_, ?_, ?_⟩
    · unfold evn
      rw [o _ _ _ (by decide) (by decide)]
      exact g2
    · exact R_mevent_x (M := M) (K := K) (o _ _ _ (by decide) (by decide)) (fun i j => o _ _ _ (by decide) (by decide)) rfl (fun _ _ => rfl) (fun _ _ => rfl) (fun _ _ => rfl) g3
    · exact BQ_x (fun i j => o _ _ _ (by decide) (by decide)) (fun i j => o _ _ _ (by decide) (by decide)) (fun i j => o _ _ _ (by decide) (by decide)) (fun _ _ _ _ => rfl) g4
    · exact R_points_x (M := M) (K := K) (fun i j => o _ _ _ (by decide) (by decide)) (fun _ _ => rfl) g5
  have s14 : ∀ i, 0 ≤ i → i < 20 → r.2 1197 i 0 = 0 → r.2 1270 i 0 = 0 := by
    intro i i0 i1
    rw [o _ _ _ (by decide) (by decide), o _ _ _ (by decide) (by decide)]
    exact h14 i i0 i1
  exact ⟨⟨z1, w2, kl, (o 6 12 0 (by decide) (by decide)).trans ht, s4, s5, s6, s7, s8, s9, s10, s11, s12⟩, ⟨z1, w2, k3, s4, s5, s6, s7, s8, s9, s10, s11, s12, s13, s14⟩, hk⟩
/-- what stays when acts went -/
theorem MxI_F {M K S T : qm} {t E E' : Int} (h : MxI M K E) (hZ : ZR M K t) (fM : Fg 13764423735814236934070963896749561825198080 M S) (fK : Fg (1973751609322728158430646311549781290260737553695531790793833605345297506781372428058624 ||| 820219086978780714343243095759370041107539690231943260969623997760226754039967563635592039252361216) K T) (hA : AcR S T E') (hu : ∀ i, 0 ≤ i → i < 20 → (M 1197 i 0) = 0 → S 1270 i 0 = M 1270 i 0) : MxI S T E' := by
  have z := ZR_F fM fK hZ
  obtain ⟨z1, z2, z3, z4, z5, z6, z7, z8, z9, z10, z11, z12, z13⟩ := z
  obtain ⟨h1, h2, h3, h4, h5, h6, h7, h8, h9, h10, h11, h12, h13, h14⟩ := h
  refine ⟨z1, z2, rkC_F fM h3, z5, z6, z7, z8, z9, z10, z11, z12, z13, hA, fun i i0 i1 hi => ?_⟩
  have e : S 1197 i 0 = M 1197 i 0 := Fg_v fM rfl rfl
  rw [e] at hi
  rw [hu i i0 i1 hi]
  exact h14 i i0 i1 hi
