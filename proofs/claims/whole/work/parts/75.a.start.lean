/-! ===== the later relations behind the constructors ===== -/
section R1
variable {L : Nat} {xs w : Nat → Int32}
theorem r0_tellt : R_tellt (qM id (fS L xs w)) (qM id (fS L xs w)) := by
  intro t h1 h2
  rw [m0_824] at h2
  omega
theorem r0_tellc : R_tellc (qM id (fS L xs w)) (qM id (fS L xs w)) := by
  intro t h1 h2
  rw [m0_824] at h2
  omega
theorem r0_tellr : R_tellr (qM id (fS L xs w)) (qM id (fS L xs w)) := by
  intro t h1 h2
  rw [m0_824] at h2
  omega
theorem r0_notek : R_notek (qM id (fS L xs w)) (qM id (fS L xs w)) := by
  intro t h1 h2
  rw [m0_824] at h2
  omega
theorem r0_noteo : R_noteo (qM id (fS L xs w)) (qM id (fS L xs w)) := by
  intro j k h1 h2 h3
  rw [m0_824] at h3
  omega
theorem r0_notex : R_notex (qM id (fS L xs w)) (qM id (fS L xs w)) := by
  intro t h1 h2
  rw [m0_824] at h2
  omega
theorem r0_locku : R_locku (qM id (fS L xs w)) (qM id (fS L xs w)) := by
  unfold R_locku
  rw [m0_2156]
  exact ⟨Int.le_refl 0, fun j k h1 h2 h3 => by omega⟩
theorem r0_lockr : R_lockr (qM id (fS L xs w)) (qM id (fS L xs w)) := by
  intro k h1 h2
  rw [m0_2156] at h2
  omega
theorem r0_portq : R_portq (qM id (fS L xs w)) (qM id (fS L xs w)) := by
  intro p h1 h2
  rw [m0_824] at h2
  omega
theorem r0_msince : R_msince (qM id (fS L xs w)) (qM id (fS L xs w)) := by
  intro a h1 h2 h3
  rw [m0_2219 (by omega)] at h3
  omega
theorem r0_ltime : R_ltime (qM id (fS L xs w)) (qM id (fS L xs w)) := by
  unfold R_ltime
  rw [m0_2270, m0_6]
theorem r0_boundz : R_boundz (qM id (fS L xs w)) (qM id (fS L xs w)) := by
  intro b h1 h2
  rw [m0_1003] at h1
  exact m0_2248 (by omega)
theorem r0_lockb : R_lockb (qM id (fS L xs w)) (qM id (fS L xs w)) := by
  intro a b h1 h2
  rw [m0_824] at h2
  omega
end R1
