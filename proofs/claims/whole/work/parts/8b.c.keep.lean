/-! ===== what stays when it is built ===== -/
section KP
variable {M K A B : qm}
theorem built_keep (h : BLT M K A B) (hb : (M 6 11 0) = 0) (h_personb : R_personb M K) (h_mtextn : R_mtextn M K) (h_mzonep : R_mzonep M K) (h_sroom : R_sroom M K) (h_smoke0 : R_smoke0 M K) (h_lockr : R_lockr M K) (h_zpers : R_zpers M K) (h_zzone : R_zzone M K) (h_portn : R_portn M K) (h_locku : R_locku M K) : R_personb A B ∧ R_mtextn A B ∧ R_mzonep A B ∧ R_sroom A B ∧ R_smoke0 A B ∧ R_lockr A B ∧ R_zport A B ∧ R_znum A B ∧ R_zpers A B ∧ R_zzone A B ∧ R_locku A B ∧ R_lockb A B := by
  obtain ⟨⟨r1, r2, r3, r4, r5⟩, ⟨q1, q2, q3, q4, q5, q6, q7⟩, fA, fB, zA, oA, b1', _⟩ := h
  have bA : A 6 11 0 ≠ 0 := by rw [b1']; decide
  have pz : M 824 3 0 = 0 := h_portn.2.2.2.2.2.2.2 hb
  have lz : K 2156 24 0 ≤ 0 := by
    apply Classical.byContradiction
    intro z
    have w := h_lockr 0 (Int.le_refl 0) (by omega)
    omega
  have lB : B 2156 24 0 = K 2156 24 0 := fB _ _ _ (by decide) (by decide) (by decide) (by decide) (by decide) (by decide)
  have pA : A 756 7 0 = 0 := by
    rw [fA _ _ _ (by decide) (by decide) (by decide) (by decide) (by decide) (by decide) (by decide) (by decide)]
    exact h_zpers hb
  have no : ∀ {P : Prop}, A 6 11 0 = 0 → P := fun z => absurd z bA
  refine ⟨fun p p0 p1 => by omega, ?_, fun z k z0 z1 hz => ?_, fun r r0 r1 => ?_, fun z => no z, fun k k0 k1 => by omega, fun z => no z, fun z => no z, fun z => no z, fun z => no z, ?_, fun a b a0 a1 b0 b1 => ?_⟩
  · unfold R_mtextn at h_mtextn ⊢
    rw [fA 908 1 0 (by decide) (by decide) (by decide) (by decide) (by decide) (by decide) (by decide) (by decide), fB 2208 6 0 (by decide) (by decide) (by decide) (by decide) (by decide) (by decide)]
    exact ⟨h_mtextn.1, h_mtextn.2.1, h_mtextn.2.2.1, fun z => no z⟩
  · rw [fB _ _ _ (by omega) (by omega) (by omega) (by omega) (by omega) (by omega)] at hz
    have := h_zzone hb z z0 z1
    omega
  · rw [fA _ _ _ (by omega) (by omega) (by omega) (by omega) (by omega) (by omega) (by omega) (by omega), h_sroom r r0 r1]
    refine sI_c (fun c c0 c1 => ?_)
    (try dsimp only)
    have s := h_smoke0 hb c c0 c1
    rw [fB 2326 c 0 (by omega) (by omega) (by omega) (by omega) (by omega) (by omega), if_neg (by omega), if_neg (by omega)]
  · unfold R_locku at h_locku ⊢
    rw [lB]
    exact ⟨h_locku.1, fun j k j0 jk k1 => by omega⟩
  · have ix := lk_ix q1 a0 a1 b0 b1
    have z : alk A a b = false := by
      unfold alk
      rw [zA _ ix.1]
      exact bt_z
    rw [z]
    exact ⟨fun y => absurd y (by decide), fun ⟨k, k0, k1, _⟩ => by omega⟩
end KP
