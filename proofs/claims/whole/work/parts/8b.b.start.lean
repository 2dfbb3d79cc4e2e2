/-! ===== what is nothing before building, behind the constructors ===== -/
section R2
variable {L : Nat} {xs w : Nat → Int32}
theorem r0_zport : R_zport (qM id (fS L xs w)) (qM id (fS L xs w)) := by
  intro _ j j0 j1
  have hj : j ≠ -1 := by omega
  exact ⟨m0_2294 hj, m0_2295 hj, m0_2296 hj, m0_2298 hj⟩
theorem r0_znum : R_znum (qM id (fS L xs w)) (qM id (fS L xs w)) := by
  intro _ j j0 j1
  exact m0_2328 (by omega)
theorem r0_zpers : R_zpers (qM id (fS L xs w)) (qM id (fS L xs w)) := by
  intro _
  exact m0_756
theorem r0_zzone : R_zzone (qM id (fS L xs w)) (qM id (fS L xs w)) := by
  intro _ j j0 j1
  exact m0_2215 (by omega)
theorem r0_FND : FND (qM id (fS L xs w)) (qM id (fS L xs w)) := Or.inl ⟨m0_51, m0_51⟩
end R2
