/-! ===== the law's invariant at the start (wip/tools/q/genr1.py) ===== -/
section ST0
variable {L : Nat} {xs w : Nat → Int32}
theorem r0_RLS : RLS (qM id (fS L xs w)) (qM id (fS L xs w)) := ⟨fun _ => 101, fun _ => 0, 0, ⟨Int.le_refl 0, by decide, Or.inl rfl⟩, fun z => by
  rw [m0_735] at z
  omega, fun j _ _ e => absurd (show (101 : Int) = 48 from e) (by decide), fun r r0 r1 => by
  rw [m0_735] at r1
  omega⟩
theorem r0_sta {s : Int} (s0 : 0 ≤ s) (s1 : s < 8) : (qM id (fS L xs w)) 1140 s 0 = 0 ∧ (qM id (fS L xs w)) 1140 s 1 = -1 ∧ (qM id (fS L xs w)) 1140 s 2 = -1 ∧ (qM id (fS L xs w)) 1140 s 9 = -1 := by
  refine ⟨(m0_1140 s0 s1 (by decide) (by decide)).trans ?_, (m0_1140 s0 s1 (by decide) (by decide)).trans ?_, (m0_1140 s0 s1 (by decide) (by decide)).trans ?_, (m0_1140 s0 s1 (by decide) (by decide)).trans ?_⟩
  · rw [if_neg (by decide), if_neg (by decide)]
  · rw [if_neg (by decide), if_pos (by decide)]
  · rw [if_neg (by decide), if_pos (by decide)]
  · rw [if_neg (by decide), if_pos (by decide)]
theorem r0_BQ : BQ (qM id (fS L xs w)) (qM id (fS L xs w)) := by
  refine ⟨r0_bqueued, r0_baddr, r0_bbusy, r0_bsaying, r0_bcounts, r0_banswer, r0_bqueue, fun s s0 s1 => ?_⟩
  obtain ⟨a0, a1, a2, a9⟩ := r0_sta (L := L) (xs := xs) (w := w) s0 s1
  rw [a0, a1, a2]
  exact ⟨fun z => by omega, fun z => by omega, fun _ z => by omega⟩
theorem r0_MXI : MxI (qM id (fS L xs w)) (qM id (fS L xs w)) (1200 * 0) := by
  refine ⟨fun z z0 z1 => ?_, ?_, ?_, r0_mfault, r0_muntil, r0_mnow, r0_mvalue, r0_mzones, r0_mzonep, r0_mrows, r0_mrow, fun a a0 a1 => Or.inl ⟨m0_2219 (by omega), m0_1197 (by decide)⟩, ⟨r0_mst, ?_, r0_mevent, r0_BQ, r0_points⟩, fun i i0 i1 _ => m0_1270 (by omega)⟩
  · rw [m0_1176 (by decide)]
    exact ⟨by decide, by decide, fun k k0 k1 => by omega⟩
  · unfold rwC
    rw [m0_1172]
    exact ⟨by decide, by decide, fun r r0 r1 => by omega⟩
  · refine ⟨fun k k0 k1 => ?_, Or.inl (fun a a0 a1 => m0_1197 (by decide))⟩
    rw [m0_1269 (by omega)]
    exact ⟨by decide, by decide⟩
  · unfold evn
    rw [m0_1172, m0_2208]
    exact ⟨by decide, by decide, by decide⟩
theorem r0_BUS : BUS (qM id (fS L xs w)) (qM id (fS L xs w)) (30 * (qM id (fS L xs w)) 6 12 0) := by
  rw [m0_6, show (30 : Int) * 0 = 0 from rfl]
  refine ⟨⟨m0_1139_5, m0_2252_0, Int.le_refl 0⟩, fun s s0 s1 => bq_stn r0_BQ s0 s1, ?_, fun u u0 u1 => by omega, ⟨fun u u0 u1 => ?_, fun u u0 => m0_2254 (by omega), m0_1168 (by decide)⟩, ?_, ⟨?_, ?_, ?_, fun i i0 i1 => ?_, Or.inl ⟨m0_1139_16, m0_2252_24, m0_1139_17⟩⟩, fun i i0 i1 => ?_, Or.inl ⟨m0_1139_9, m0_2252_16, m0_2252_17⟩, fun i i0 i1 => ?_, ?_, fun s s0 s1 => ?_, fun s s0 s1 z => ?_, fun z => absurd m0_2252_16 z, fun z => absurd m0_1139_9 z, fun z => ?_, ?_, fun u u0 => Or.inl (m0_2254 (by omega)), ?_⟩
  · rw [m0_1139_6]
    exact ⟨by decide, fun j j0 j1 j2 => by omega, Or.inr rfl⟩
  · rw [m0_2254 (by omega), m0_1168 (by omega)]
    exact ⟨rfl, Or.inl rfl⟩
  · rw [m0_2252_3, m0_1139_8]
    exact ⟨rfl, by decide, by decide⟩
  · rw [m0_1139_15]
    exact ⟨by decide, by decide⟩
  · rw [m0_2252_21, m0_1139_15]
  · rw [m0_2252_26, m0_1139_18]
  · rw [m0_1139_15] at i1
    omega
  · rw [m0_2256 (by omega), m0_1167 (by omega)]
  · rw [m0_2269 (by omega), m0_1171 (by omega)]
  · rw [m0_2269 (by decide)]
    exact ⟨by decide, by decide⟩
  · rw [m0_2264 (by omega), m0_2265 (by omega)]
    exact ⟨by decide, by decide, by decide, by decide⟩
  · exact absurd (r0_sta s0 s1).2.2.2 z
  · rw [m0_2252_24] at z
    omega
  · unfold msr
    rw [m0_2252_17, m0_1139_9, if_pos (by decide)]
    have z := sI_n (f := fun u => (qM id (fS L xs w)) 2254 u 0) (n := 0 + 1) (fun k k0 k1 => by
      (try dsimp only)
      rw [m0_2254 (by omega)]
      decide)
    omega
  · rw [sI_none (fun k k0 k1 => m0_2254 (by omega))]
    decide
theorem r0_BND : 0 ≤ (0 : Int) ∧ (qM id (fS L xs w)) 824 12 0 ≤ 0 ∧ (qM id (fS L xs w)) 2156 24 0 ≤ 0 ∧ (qM id (fS L xs w)) 824 15 0 ≤ 20 * 0 ∧ sI (fun u => (qM id (fS L xs w)) 2254 u 0) 182001 ≤ 0 := by
  rw [m0_824, m0_2156, m0_824, sI_none (fun k k0 k1 => m0_2254 (by omega))]
  exact ⟨by decide, by decide, by decide, by decide, by decide⟩
theorem r0_LIQ (hw : ∀ j, j < 400 → w j = -1) : LIQ 0 (qM id (fS L xs w)) (qM id (fS L xs w)) := ⟨⟨r0_built, r0_time, r0_ltime, r0_BND⟩, ⟨r0_lines, r0_ends, r0_doorn, r0_doors, r0_find0, r0_spaces, r0_names, r0_alone, r0_FND⟩, ⟨r0_textn, r0_textc, r0_factn, r0_facts, r0_factd, r0_rulen, r0_answers, r0_RLS⟩, ⟨r0_portn, r0_portw, r0_portc, r0_porto, r0_portk, r0_portr, r0_portq, r0_zport, r0_znum⟩, ⟨r0_cardn, r0_cards, r0_rightn, r0_rights, r0_telln, r0_tellt, r0_tellc, r0_tellr, r0_notek, r0_noteo, r0_notex, r0_lockb, r0_locku, r0_lockr, r0_againstn, r0_against⟩, ⟨r0_personn, r0_persons, r0_personb, r0_personz, r0_zpers⟩, ⟨r0_smoke, r0_smoky, r0_sroom, r0_smoke0, r0_walk, r0_spaceof, r0_rooms, (fun z => absurd m0_6 z), (fun z => absurd m0_6 z)⟩, ⟨r0_mtextn, r0_mtext, r0_mpoints, r0_zzone, (fun i i0 i1 => Or.inl (m0_2223 (by omega)))⟩, r0_MXI, ⟨r0_blocks, r0_kinds, r0_pq, r0_safe, r0_outs, r0_hand, r0_wire, r0_row, r0_bound, r0_boundz, r0_failed, r0_rests, r0_sorted⟩, ⟨r0_BUS, r0_blisten⟩, ⟨r0_carn, r0_cars, r0_carz, r0_calln, r0_calls, r0_given, (r0_givenz hw), r0_opens, r0_openl, r0_openi, r0_opena, r0_begun, r0_begunz, r0_begunr⟩⟩
end ST0
