/-! ===== the relations hold behind the constructors (wip/tools/q/genr0.py) ===== -/
section R0
variable {L : Nat} {xs w : Nat → Int32}
theorem r0_built : R_built (qM id (fS L xs w)) (qM id (fS L xs w)) := by
  unfold R_built
  (repeat' (first | (with_reducible refine And.intro ?_ ?_) | intro _)) <;> ((try (simp (disch := omega) only [m0_6, m0_2156] at *)) <;> ((try (simp (disch := omega) only [m0_6, m0_2156] at *)) <;> ((try omega) <;> ((try simp) <;> (try omega)))))
theorem r0_time : R_time (qM id (fS L xs w)) (qM id (fS L xs w)) := by
  unfold R_time
  (repeat' (first | (with_reducible refine And.intro ?_ ?_) | intro _)) <;> ((try (simp (disch := omega) only [m0_6, m0_2156] at *)) <;> ((try (simp (disch := omega) only [m0_6, m0_2156] at *)) <;> ((try omega) <;> ((try simp) <;> (try omega)))))
theorem r0_lines : R_lines (qM id (fS L xs w)) (qM id (fS L xs w)) := by
  unfold R_lines
  (repeat' (first | (with_reducible refine And.intro ?_ ?_) | intro _)) <;> ((try (simp (disch := omega) only [m0_7, m0_2157] at *)) <;> ((try (simp (disch := omega) only [m0_7, m0_2157] at *)) <;> ((try omega) <;> ((try simp) <;> (try omega)))))
theorem r0_ends : R_ends (qM id (fS L xs w)) (qM id (fS L xs w)) := by
  unfold R_ends
  (repeat' (first | (with_reducible refine And.intro ?_ ?_) | intro _)) <;> ((try (simp (disch := omega) only [m0_7, m0_8, m0_2158, m0_2159, m0_2160, m0_2161] at *)) <;> ((try (simp (disch := omega) only [m0_7, m0_8, m0_2158, m0_2159, m0_2160, m0_2161] at *)) <;> ((try omega) <;> ((try simp) <;> (try omega)))))
theorem r0_doorn : R_doorn (qM id (fS L xs w)) (qM id (fS L xs w)) := by
  unfold R_doorn
  (repeat' (first | (with_reducible refine And.intro ?_ ?_) | intro _)) <;> ((try (simp (disch := omega) only [m0_7, m0_29, m0_2162] at *)) <;> ((try (simp (disch := omega) only [m0_7, m0_29, m0_2162] at *)) <;> ((try omega) <;> ((try simp) <;> (try omega)))))
theorem r0_doors : R_doors (qM id (fS L xs w)) (qM id (fS L xs w)) := by
  unfold R_doors
  (repeat' (first | (with_reducible refine And.intro ?_ ?_) | intro _)) <;> ((try (simp (disch := omega) only [m0_29, m0_30, m0_2161, m0_2163, m0_2164, m0_2165] at *)) <;> ((try (simp (disch := omega) only [m0_29, m0_30, m0_2161, m0_2163, m0_2164, m0_2165] at *)) <;> ((try omega) <;> ((try simp) <;> (try omega)))))
theorem r0_find0 : R_find0 (qM id (fS L xs w)) (qM id (fS L xs w)) := by
  unfold R_find0
  (repeat' (first | (with_reducible refine And.intro ?_ ?_) | intro _)) <;> ((try (simp (disch := omega) only [m0_51, m0_2157] at *)) <;> ((try (simp (disch := omega) only [m0_51, m0_2157] at *)) <;> ((try omega) <;> ((try simp) <;> (try omega)))))
theorem r0_spaces : R_spaces (qM id (fS L xs w)) (qM id (fS L xs w)) := by
  unfold R_spaces
  (repeat' (first | (with_reducible refine And.intro ?_ ?_) | intro _)) <;> ((try (simp (disch := omega) only [m0_51, m0_2157] at *)) <;> ((try (simp (disch := omega) only [m0_51, m0_2157] at *)) <;> ((try omega) <;> ((try simp) <;> (try omega)))))
theorem r0_names : R_names (qM id (fS L xs w)) (qM id (fS L xs w)) := by
  unfold R_names
  (repeat' (first | (with_reducible refine And.intro ?_ ?_) | intro _)) <;> ((try (simp (disch := omega) only [m0_51, m0_58, m0_2172] at *)) <;> ((try (simp (disch := omega) only [m0_51, m0_58, m0_2172] at *)) <;> ((try omega) <;> ((try simp) <;> (try omega)))))
theorem r0_rooms : R_rooms (qM id (fS L xs w)) (qM id (fS L xs w)) := by
  unfold R_rooms
  (repeat' (first | (with_reducible refine And.intro ?_ ?_) | intro _)) <;> ((try (simp (disch := omega) only [m0_6, m0_51, m0_2156] at *)) <;> ((try (simp (disch := omega) only [m0_6, m0_51, m0_2156] at *)) <;> ((try omega) <;> ((try simp) <;> (try omega)))))
theorem r0_textn : R_textn (qM id (fS L xs w)) (qM id (fS L xs w)) := by
  unfold R_textn
  (repeat' (first | (with_reducible refine And.intro ?_ ?_) | intro _)) <;> ((try (simp (disch := omega) only [m0_727, m0_2184_1, m0_2184_10, m0_2184_15, m0_2184_18, m0_2184_2, m0_2184_26, m0_2184_27, m0_2184_28, m0_2184_29, m0_2184_30, m0_2184_31, m0_2184_32, m0_2184_33, m0_2184_34, m0_2184_36, m0_2184_39, m0_2184_40, m0_2184_41, m0_2184_42, m0_2184_43, m0_2184_5] at *)) <;> ((try (simp (disch := omega) only [m0_727, m0_2184_1, m0_2184_10, m0_2184_15, m0_2184_18, m0_2184_2, m0_2184_26, m0_2184_27, m0_2184_28, m0_2184_29, m0_2184_30, m0_2184_31, m0_2184_32, m0_2184_33, m0_2184_34, m0_2184_36, m0_2184_39, m0_2184_40, m0_2184_41, m0_2184_42, m0_2184_43, m0_2184_5] at *)) <;> ((try omega) <;> ((try simp) <;> (try omega)))))
theorem r0_textc : R_textc (qM id (fS L xs w)) (qM id (fS L xs w)) := by
  unfold R_textc
  (repeat' (first | (with_reducible refine And.intro ?_ ?_) | intro _)) <;> ((try (simp (disch := omega) only [m0_727, m0_728, m0_2185] at *)) <;> ((try (simp (disch := omega) only [m0_727, m0_728, m0_2185] at *)) <;> ((try omega) <;> ((try simp) <;> (try omega)))))
theorem r0_factn : R_factn (qM id (fS L xs w)) (qM id (fS L xs w)) := by
  unfold R_factn
  (repeat' (first | (with_reducible refine And.intro ?_ ?_) | intro _)) <;> ((try (simp (disch := omega) only [m0_735, m0_2184_1, m0_2184_10, m0_2184_15, m0_2184_18, m0_2184_2, m0_2184_26, m0_2184_27, m0_2184_28, m0_2184_29, m0_2184_30, m0_2184_31, m0_2184_32, m0_2184_33, m0_2184_34, m0_2184_36, m0_2184_39, m0_2184_40, m0_2184_41, m0_2184_42, m0_2184_43, m0_2184_5] at *)) <;> ((try (simp (disch := omega) only [m0_735, m0_2184_1, m0_2184_10, m0_2184_15, m0_2184_18, m0_2184_2, m0_2184_26, m0_2184_27, m0_2184_28, m0_2184_29, m0_2184_30, m0_2184_31, m0_2184_32, m0_2184_33, m0_2184_34, m0_2184_36, m0_2184_39, m0_2184_40, m0_2184_41, m0_2184_42, m0_2184_43, m0_2184_5] at *)) <;> ((try omega) <;> ((try simp) <;> (try omega)))))
theorem r0_facts : R_facts (qM id (fS L xs w)) (qM id (fS L xs w)) := by
  unfold R_facts
  (repeat' (first | (with_reducible refine And.intro ?_ ?_) | intro _)) <;> ((try (simp (disch := omega) only [m0_735, m0_754, m0_755, m0_2186, m0_2187] at *)) <;> ((try (simp (disch := omega) only [m0_735, m0_754, m0_755, m0_2186, m0_2187] at *)) <;> ((try omega) <;> ((try simp) <;> (try omega)))))
theorem r0_factd : R_factd (qM id (fS L xs w)) (qM id (fS L xs w)) := by
  unfold R_factd
  (repeat' (first | (with_reducible refine And.intro ?_ ?_) | intro _)) <;> ((try (simp (disch := omega) only [m0_735, m0_754] at *)) <;> ((try (simp (disch := omega) only [m0_735, m0_754] at *)) <;> ((try omega) <;> ((try simp) <;> (try omega)))))
theorem r0_rulen : R_rulen (qM id (fS L xs w)) (qM id (fS L xs w)) := by
  unfold R_rulen
  (repeat' (first | (with_reducible refine And.intro ?_ ?_) | intro _)) <;> ((try (simp (disch := omega) only [m0_735, m0_2184_1, m0_2184_10, m0_2184_15, m0_2184_18, m0_2184_2, m0_2184_26, m0_2184_27, m0_2184_28, m0_2184_29, m0_2184_30, m0_2184_31, m0_2184_32, m0_2184_33, m0_2184_34, m0_2184_36, m0_2184_39, m0_2184_40, m0_2184_41, m0_2184_42, m0_2184_43, m0_2184_5] at *)) <;> ((try (simp (disch := omega) only [m0_735, m0_2184_1, m0_2184_10, m0_2184_15, m0_2184_18, m0_2184_2, m0_2184_26, m0_2184_27, m0_2184_28, m0_2184_29, m0_2184_30, m0_2184_31, m0_2184_32, m0_2184_33, m0_2184_34, m0_2184_36, m0_2184_39, m0_2184_40, m0_2184_41, m0_2184_42, m0_2184_43, m0_2184_5] at *)) <;> ((try omega) <;> ((try simp) <;> (try omega)))))
theorem r0_answers : R_answers (qM id (fS L xs w)) (qM id (fS L xs w)) := by
  unfold R_answers
  (repeat' (first | (with_reducible refine And.intro ?_ ?_) | intro _)) <;> ((try (simp (disch := omega) only [m0_735, m0_740, m0_2198, m0_2199, m0_2200, m0_2201, m0_2202, m0_2203, m0_2204] at *)) <;> ((try (simp (disch := omega) only [m0_735, m0_740, m0_2198, m0_2199, m0_2200, m0_2201, m0_2202, m0_2203, m0_2204] at *)) <;> ((try omega) <;> ((try simp) <;> (try omega)))))
theorem r0_portw : R_portw (qM id (fS L xs w)) (qM id (fS L xs w)) := by
  unfold R_portw
  (repeat' (first | (with_reducible refine And.intro ?_ ?_) | intro _)) <;> ((try (simp (disch := omega) only [m0_7, m0_824, m0_825, m0_2156, m0_2289, m0_2290, m0_2291, m0_2292] at *)) <;> ((try (simp (disch := omega) only [m0_7, m0_824, m0_825, m0_2156, m0_2289, m0_2290, m0_2291, m0_2292] at *)) <;> ((try omega) <;> ((try simp) <;> (try omega)))))
theorem r0_porto : R_porto (qM id (fS L xs w)) (qM id (fS L xs w)) := by
  unfold R_porto
  (repeat' (first | (with_reducible refine And.intro ?_ ?_) | intro _)) <;> ((try (simp (disch := omega) only [m0_6, m0_824, m0_825, m0_2294, m0_2295, m0_2296] at *)) <;> ((try (simp (disch := omega) only [m0_6, m0_824, m0_825, m0_2294, m0_2295, m0_2296] at *)) <;> ((try omega) <;> ((try simp) <;> (try omega)))))
theorem r0_portk : R_portk (qM id (fS L xs w)) (qM id (fS L xs w)) := by
  unfold R_portk
  (repeat' (first | (with_reducible refine And.intro ?_ ?_) | intro _)) <;> ((try (simp (disch := omega) only [m0_824, m0_825, m0_2297, m0_2298] at *)) <;> ((try (simp (disch := omega) only [m0_824, m0_825, m0_2297, m0_2298] at *)) <;> ((try omega) <;> ((try simp) <;> (try omega)))))
theorem r0_portr : R_portr (qM id (fS L xs w)) (qM id (fS L xs w)) := by
  unfold R_portr
  (repeat' (first | (with_reducible refine And.intro ?_ ?_) | intro _)) <;> ((try (simp (disch := omega) only [m0_824, m0_826, m0_2289, m0_2290, m0_2298, m0_2299, m0_2300, m0_2301] at *)) <;> ((try (simp (disch := omega) only [m0_824, m0_826, m0_2289, m0_2290, m0_2298, m0_2299, m0_2300, m0_2301] at *)) <;> ((try omega) <;> ((try simp) <;> (try omega)))))
theorem r0_cardn : R_cardn (qM id (fS L xs w)) (qM id (fS L xs w)) := by
  unfold R_cardn
  (repeat' (first | (with_reducible refine And.intro ?_ ?_) | intro _)) <;> ((try (simp (disch := omega) only [m0_824, m0_2156] at *)) <;> ((try (simp (disch := omega) only [m0_824, m0_2156] at *)) <;> ((try omega) <;> ((try simp) <;> (try omega)))))
theorem r0_cards : R_cards (qM id (fS L xs w)) (qM id (fS L xs w)) := by
  unfold R_cards
  (repeat' (first | (with_reducible refine And.intro ?_ ?_) | intro _)) <;> ((try (simp (disch := omega) only [m0_756, m0_824, m0_828, m0_2312, m0_2313] at *)) <;> ((try (simp (disch := omega) only [m0_756, m0_824, m0_828, m0_2312, m0_2313] at *)) <;> ((try omega) <;> ((try simp) <;> (try omega)))))
theorem r0_rightn : R_rightn (qM id (fS L xs w)) (qM id (fS L xs w)) := by
  unfold R_rightn
  (repeat' (first | (with_reducible refine And.intro ?_ ?_) | intro _)) <;> ((try (simp (disch := omega) only [m0_824, m0_2156] at *)) <;> ((try (simp (disch := omega) only [m0_824, m0_2156] at *)) <;> ((try omega) <;> ((try simp) <;> (try omega)))))
theorem r0_rights : R_rights (qM id (fS L xs w)) (qM id (fS L xs w)) := by
  unfold R_rights
  (repeat' (first | (with_reducible refine And.intro ?_ ?_) | intro _)) <;> ((try (simp (disch := omega) only [m0_824, m0_889, m0_2314, m0_2315, m0_2316, m0_2317, m0_2318] at *)) <;> ((try (simp (disch := omega) only [m0_824, m0_889, m0_2314, m0_2315, m0_2316, m0_2317, m0_2318] at *)) <;> ((try omega) <;> ((try simp) <;> (try omega)))))
theorem r0_telln : R_telln (qM id (fS L xs w)) (qM id (fS L xs w)) := by
  unfold R_telln
  (repeat' (first | (with_reducible refine And.intro ?_ ?_) | intro _)) <;> ((try (simp (disch := omega) only [m0_824, m0_2156] at *)) <;> ((try (simp (disch := omega) only [m0_824, m0_2156] at *)) <;> ((try omega) <;> ((try simp) <;> (try omega)))))
theorem r0_againstn : R_againstn (qM id (fS L xs w)) (qM id (fS L xs w)) := by
  unfold R_againstn
  (repeat' (first | (with_reducible refine And.intro ?_ ?_) | intro _)) <;> ((try (simp (disch := omega) only [m0_824, m0_2156] at *)) <;> ((try (simp (disch := omega) only [m0_824, m0_2156] at *)) <;> ((try omega) <;> ((try simp) <;> (try omega)))))
theorem r0_against : R_against (qM id (fS L xs w)) (qM id (fS L xs w)) := by
  unfold R_against
  (repeat' (first | (with_reducible refine And.intro ?_ ?_) | intro _)) <;> ((try (simp (disch := omega) only [m0_824, m0_907, m0_2322, m0_2323, m0_2324, m0_2325] at *)) <;> ((try (simp (disch := omega) only [m0_824, m0_907, m0_2322, m0_2323, m0_2324, m0_2325] at *)) <;> ((try omega) <;> ((try simp) <;> (try omega)))))
theorem r0_personn : R_personn (qM id (fS L xs w)) (qM id (fS L xs w)) := by
  unfold R_personn
  (repeat' (first | (with_reducible refine And.intro ?_ ?_) | intro _)) <;> ((try (simp (disch := omega) only [m0_756, m0_2156] at *)) <;> ((try (simp (disch := omega) only [m0_756, m0_2156] at *)) <;> ((try omega) <;> ((try simp) <;> (try omega)))))
theorem r0_persons : R_persons (qM id (fS L xs w)) (qM id (fS L xs w)) := by
  unfold R_persons
  (repeat' (first | (with_reducible refine And.intro ?_ ?_) | intro _)) <;> ((try (simp (disch := omega) only [m0_756, m0_761, m0_2304, m0_2305, m0_2306, m0_2307, m0_2308, m0_2309, m0_2310, m0_2311] at *)) <;> ((try (simp (disch := omega) only [m0_756, m0_761, m0_2304, m0_2305, m0_2306, m0_2307, m0_2308, m0_2309, m0_2310, m0_2311] at *)) <;> ((try omega) <;> ((try simp) <;> (try omega)))))
theorem r0_personb : R_personb (qM id (fS L xs w)) (qM id (fS L xs w)) := by
  unfold R_personb
  (repeat' (first | (with_reducible refine And.intro ?_ ?_) | intro _)) <;> ((try (simp (disch := omega) only [m0_6, m0_56, m0_756, m0_2156, m0_2306, m0_2307, m0_2308, m0_2309, m0_2311] at *)) <;> ((try (simp (disch := omega) only [m0_6, m0_56, m0_756, m0_2156, m0_2306, m0_2307, m0_2308, m0_2309, m0_2311] at *)) <;> ((try omega) <;> ((try simp) <;> (try omega)))))
theorem r0_personz : R_personz (qM id (fS L xs w)) (qM id (fS L xs w)) := by
  unfold R_personz
  (repeat' (first | (with_reducible refine And.intro ?_ ?_) | intro _)) <;> ((try (simp (disch := omega) only [m0_756, m0_761, m0_2310, m0_2311] at *)) <;> ((try (simp (disch := omega) only [m0_756, m0_761, m0_2310, m0_2311] at *)) <;> ((try omega) <;> ((try simp) <;> (try omega)))))
theorem r0_smoke : R_smoke (qM id (fS L xs w)) (qM id (fS L xs w)) := by
  unfold R_smoke
  (repeat' (first | (with_reducible refine And.intro ?_ ?_) | intro _)) <;> ((try (simp (disch := omega) only [m0_757, m0_2326] at *)) <;> ((try (simp (disch := omega) only [m0_757, m0_2326] at *)) <;> ((try omega) <;> ((try simp) <;> (try omega)))))
theorem r0_walk : R_walk (qM id (fS L xs w)) (qM id (fS L xs w)) := by
  unfold R_walk
  (repeat' (first | (with_reducible refine And.intro ?_ ?_) | intro _)) <;> ((try (simp (disch := omega) only [m0_6, m0_759, m0_2328] at *)) <;> ((try (simp (disch := omega) only [m0_6, m0_759, m0_2328] at *)) <;> ((try omega) <;> ((try simp) <;> (try omega)))))
theorem r0_mtextn : R_mtextn (qM id (fS L xs w)) (qM id (fS L xs w)) := by
  unfold R_mtextn
  (repeat' (first | (with_reducible refine And.intro ?_ ?_) | intro _)) <;> ((try (simp (disch := omega) only [m0_6, m0_908, m0_2208] at *)) <;> ((try (simp (disch := omega) only [m0_6, m0_908, m0_2208] at *)) <;> ((try omega) <;> ((try simp) <;> (try omega)))))
theorem r0_mtext : R_mtext (qM id (fS L xs w)) (qM id (fS L xs w)) := by
  unfold R_mtext
  (repeat' (first | (with_reducible refine And.intro ?_ ?_) | intro _)) <;> ((try (simp (disch := omega) only [m0_908, m0_909, m0_2212] at *)) <;> ((try (simp (disch := omega) only [m0_908, m0_909, m0_2212] at *)) <;> ((try omega) <;> ((try simp) <;> (try omega)))))
theorem r0_mpoints : R_mpoints (qM id (fS L xs w)) (qM id (fS L xs w)) := by
  unfold R_mpoints
  (repeat' (first | (with_reducible refine And.intro ?_ ?_) | intro _)) <;> ((try (simp (disch := omega) only [m0_6, m0_1172, m0_2156, m0_2208] at *)) <;> ((try (simp (disch := omega) only [m0_6, m0_1172, m0_2156, m0_2208] at *)) <;> ((try omega) <;> ((try simp) <;> (try omega)))))
theorem r0_mvalue : R_mvalue (qM id (fS L xs w)) (qM id (fS L xs w)) := by
  unfold R_mvalue
  (repeat' (first | (with_reducible refine And.intro ?_ ?_) | intro _)) <;> ((try (simp (disch := omega) only [m0_1173, m0_2209] at *)) <;> ((try (simp (disch := omega) only [m0_1173, m0_2209] at *)) <;> ((try omega) <;> ((try simp) <;> (try omega)))))
theorem r0_mfault : R_mfault (qM id (fS L xs w)) (qM id (fS L xs w)) := by
  unfold R_mfault
  (repeat' (first | (with_reducible refine And.intro ?_ ?_) | intro _)) <;> ((try (simp (disch := omega) only [m0_1174, m0_2210] at *)) <;> ((try (simp (disch := omega) only [m0_1174, m0_2210] at *)) <;> ((try omega) <;> ((try simp) <;> (try omega)))))
theorem r0_muntil : R_muntil (qM id (fS L xs w)) (qM id (fS L xs w)) := by
  unfold R_muntil
  (repeat' (first | (with_reducible refine And.intro ?_ ?_) | intro _)) <;> ((try (simp (disch := omega) only [m0_1175, m0_2211] at *)) <;> ((try (simp (disch := omega) only [m0_1175, m0_2211] at *)) <;> ((try omega) <;> ((try simp) <;> (try omega)))))
theorem r0_mnow : R_mnow (qM id (fS L xs w)) (qM id (fS L xs w)) := by
  unfold R_mnow
  (repeat' (first | (with_reducible refine And.intro ?_ ?_) | intro _)) <;> ((try (simp (disch := omega) only [m0_6, m0_2208] at *)) <;> ((try (simp (disch := omega) only [m0_6, m0_2208] at *)) <;> ((try omega) <;> ((try simp) <;> (try omega)))))
theorem r0_mzones : R_mzones (qM id (fS L xs w)) (qM id (fS L xs w)) := by
  unfold R_mzones
  (repeat' (first | (with_reducible refine And.intro ?_ ?_) | intro _)) <;> ((try (simp (disch := omega) only [m0_1176, m0_2215, m0_2216, m0_2217] at *)) <;> ((try (simp (disch := omega) only [m0_1176, m0_2215, m0_2216, m0_2217] at *)) <;> ((try omega) <;> ((try simp) <;> (try omega)))))
theorem r0_mzonep : R_mzonep (qM id (fS L xs w)) (qM id (fS L xs w)) := by
  unfold R_mzonep
  (repeat' (first | (with_reducible refine And.intro ?_ ?_) | intro _)) <;> ((try (simp (disch := omega) only [m0_1172, m0_1176, m0_2215, m0_2218] at *)) <;> ((try (simp (disch := omega) only [m0_1172, m0_1176, m0_2215, m0_2218] at *)) <;> ((try omega) <;> ((try simp) <;> (try omega)))))
theorem r0_macts : R_macts (qM id (fS L xs w)) (qM id (fS L xs w)) := by
  unfold R_macts
  (repeat' (first | (with_reducible refine And.intro ?_ ?_) | intro _)) <;> ((try (simp (disch := omega) only [m0_1197, m0_1270, m0_2219, m0_2220, m0_2221, m0_2222, m0_2223, m0_2227] at *)) <;> ((try (simp (disch := omega) only [m0_1197, m0_1270, m0_2219, m0_2220, m0_2221, m0_2222, m0_2223, m0_2227] at *)) <;> ((try omega) <;> ((try simp) <;> (try omega)))))
theorem r0_mrows : R_mrows (qM id (fS L xs w)) (qM id (fS L xs w)) := by
  unfold R_mrows
  (repeat' (first | (with_reducible refine And.intro ?_ ?_) | intro _)) <;> ((try (simp (disch := omega) only [m0_1172, m0_2208] at *)) <;> ((try (simp (disch := omega) only [m0_1172, m0_2208] at *)) <;> ((try omega) <;> ((try simp) <;> (try omega)))))
theorem r0_mrow : R_mrow (qM id (fS L xs w)) (qM id (fS L xs w)) := by
  unfold R_mrow
  (repeat' (first | (with_reducible refine And.intro ?_ ?_) | intro _)) <;> ((try (simp (disch := omega) only [m0_1172, m0_1218, m0_2215, m0_2219, m0_2224, m0_2225, m0_2226] at *)) <;> ((try (simp (disch := omega) only [m0_1172, m0_1218, m0_2215, m0_2219, m0_2224, m0_2225, m0_2226] at *)) <;> ((try omega) <;> ((try simp) <;> (try omega)))))
theorem r0_meventn : R_meventn (qM id (fS L xs w)) (qM id (fS L xs w)) := by
  unfold R_meventn
  (repeat' (first | (with_reducible refine And.intro ?_ ?_) | intro _)) <;> ((try (simp (disch := omega) only [m0_6, m0_1172, m0_2208] at *)) <;> ((try (simp (disch := omega) only [m0_6, m0_1172, m0_2208] at *)) <;> ((try omega) <;> ((try simp) <;> (try omega)))))
theorem r0_mevent : R_mevent (qM id (fS L xs w)) (qM id (fS L xs w)) := by
  unfold R_mevent
  (repeat' (first | (with_reducible refine And.intro ?_ ?_) | intro _)) <;> ((try (simp (disch := omega) only [m0_1172, m0_1276, m0_2208, m0_2231, m0_2232, m0_2233] at *)) <;> ((try (simp (disch := omega) only [m0_1172, m0_1276, m0_2208, m0_2231, m0_2232, m0_2233] at *)) <;> ((try omega) <;> ((try simp) <;> (try omega)))))
theorem r0_blocks : R_blocks (qM id (fS L xs w)) (qM id (fS L xs w)) := by
  unfold R_blocks
  (repeat' (first | (with_reducible refine And.intro ?_ ?_) | intro _)) <;> ((try (simp (disch := omega) only [m0_1003, m0_2235] at *)) <;> ((try (simp (disch := omega) only [m0_1003, m0_2235] at *)) <;> ((try omega) <;> ((try simp) <;> (try omega)))))
theorem r0_kinds : R_kinds (qM id (fS L xs w)) (qM id (fS L xs w)) := by
  unfold R_kinds
  (repeat' (first | (with_reducible refine And.intro ?_ ?_) | intro _)) <;> ((try (simp (disch := omega) only [m0_1004, m0_2236] at *)) <;> ((try (simp (disch := omega) only [m0_1004, m0_2236] at *)) <;> ((try omega) <;> ((try simp) <;> (try omega)))))
theorem r0_pq : R_pq (qM id (fS L xs w)) (qM id (fS L xs w)) := by
  unfold R_pq
  (repeat' (first | (with_reducible refine And.intro ?_ ?_) | intro _)) <;> ((try (simp (disch := omega) only [m0_1005, m0_1006, m0_2237, m0_2238] at *)) <;> ((try (simp (disch := omega) only [m0_1005, m0_1006, m0_2237, m0_2238] at *)) <;> ((try omega) <;> ((try simp) <;> (try omega)))))
theorem r0_safe : R_safe (qM id (fS L xs w)) (qM id (fS L xs w)) := by
  unfold R_safe
  (repeat' (first | (with_reducible refine And.intro ?_ ?_) | intro _)) <;> ((try (simp (disch := omega) only [m0_1007, m0_2239] at *)) <;> ((try (simp (disch := omega) only [m0_1007, m0_2239] at *)) <;> ((try omega) <;> ((try simp) <;> (try omega)))))
theorem r0_outs : R_outs (qM id (fS L xs w)) (qM id (fS L xs w)) := by
  unfold R_outs
  (repeat' (first | (with_reducible refine And.intro ?_ ?_) | intro _)) <;> ((try (simp (disch := omega) only [m0_1049, m0_1050, m0_2242, m0_2243, m0_2244] at *)) <;> ((try (simp (disch := omega) only [m0_1049, m0_1050, m0_2242, m0_2243, m0_2244] at *)) <;> ((try omega) <;> ((try simp) <;> (try omega)))))
theorem r0_hand : R_hand (qM id (fS L xs w)) (qM id (fS L xs w)) := by
  unfold R_hand
  (repeat' (first | (with_reducible refine And.intro ?_ ?_) | intro _)) <;> ((try (simp (disch := omega) only [m0_1132, m0_1133, m0_2245, m0_2246] at *)) <;> ((try (simp (disch := omega) only [m0_1132, m0_1133, m0_2245, m0_2246] at *)) <;> ((try omega) <;> ((try simp) <;> (try omega)))))
theorem r0_wire : R_wire (qM id (fS L xs w)) (qM id (fS L xs w)) := by
  unfold R_wire
  (repeat' (first | (with_reducible refine And.intro ?_ ?_) | intro _)) <;> ((try (simp (disch := omega) only [m0_1003, m0_1008, m0_2240] at *)) <;> ((try (simp (disch := omega) only [m0_1003, m0_1008, m0_2240] at *)) <;> ((try omega) <;> ((try simp) <;> (try omega)))))
theorem r0_row : R_row (qM id (fS L xs w)) (qM id (fS L xs w)) := by
  unfold R_row
  (repeat' (first | (with_reducible refine And.intro ?_ ?_) | intro _)) <;> ((try (simp (disch := omega) only [m0_1091, m0_2241] at *)) <;> ((try (simp (disch := omega) only [m0_1091, m0_2241] at *)) <;> ((try omega) <;> ((try simp) <;> (try omega)))))
theorem r0_bound : R_bound (qM id (fS L xs w)) (qM id (fS L xs w)) := by
  unfold R_bound
  (repeat' (first | (with_reducible refine And.intro ?_ ?_) | intro _)) <;> ((try (simp (disch := omega) only [m0_1003, m0_1134, m0_2248] at *)) <;> ((try (simp (disch := omega) only [m0_1003, m0_1134, m0_2248] at *)) <;> ((try omega) <;> ((try simp) <;> (try omega)))))
theorem r0_points : R_points (qM id (fS L xs w)) (qM id (fS L xs w)) := by
  unfold R_points
  (repeat' (first | (with_reducible refine And.intro ?_ ?_) | intro _)) <;> ((try (simp (disch := omega) only [m0_1135, m0_2247] at *)) <;> ((try (simp (disch := omega) only [m0_1135, m0_2247] at *)) <;> ((try omega) <;> ((try simp) <;> (try omega)))))
theorem r0_failed : R_failed (qM id (fS L xs w)) (qM id (fS L xs w)) := by
  unfold R_failed
  (repeat' (first | (with_reducible refine And.intro ?_ ?_) | intro _)) <;> ((try (simp (disch := omega) only [m0_1138, m0_2251] at *)) <;> ((try (simp (disch := omega) only [m0_1138, m0_2251] at *)) <;> ((try omega) <;> ((try simp) <;> (try omega)))))
theorem r0_rests : R_rests (qM id (fS L xs w)) (qM id (fS L xs w)) := by
  unfold R_rests
  (repeat' (first | (with_reducible refine And.intro ?_ ?_) | intro _)) <;> ((try (simp (disch := omega) only [m0_1003, m0_2235] at *)) <;> ((try (simp (disch := omega) only [m0_1003, m0_2235] at *)) <;> ((try omega) <;> ((try simp) <;> (try omega)))))
theorem r0_bnow : R_bnow (qM id (fS L xs w)) (qM id (fS L xs w)) := by
  unfold R_bnow
  (repeat' (first | (with_reducible refine And.intro ?_ ?_) | intro _)) <;> ((try (simp (disch := omega) only [m0_6, m0_1139_10, m0_1139_11, m0_1139_13, m0_1139_15, m0_1139_16, m0_1139_17, m0_1139_18, m0_1139_5, m0_1139_6, m0_1139_8, m0_1139_9, m0_2252_0, m0_2252_16, m0_2252_17, m0_2252_19, m0_2252_20, m0_2252_21, m0_2252_23, m0_2252_24, m0_2252_25, m0_2252_26, m0_2252_28, m0_2252_3] at *)) <;> ((try (simp (disch := omega) only [m0_6, m0_1139_10, m0_1139_11, m0_1139_13, m0_1139_15, m0_1139_16, m0_1139_17, m0_1139_18, m0_1139_5, m0_1139_6, m0_1139_8, m0_1139_9, m0_2252_0, m0_2252_16, m0_2252_17, m0_2252_19, m0_2252_20, m0_2252_21, m0_2252_23, m0_2252_24, m0_2252_25, m0_2252_26, m0_2252_28, m0_2252_3] at *)) <;> ((try omega) <;> ((try simp) <;> (try omega)))))
theorem r0_bspn : R_bspn (qM id (fS L xs w)) (qM id (fS L xs w)) := by
  unfold R_bspn
  (repeat' (first | (with_reducible refine And.intro ?_ ?_) | intro _)) <;> ((try (simp (disch := omega) only [m0_1139_10, m0_1139_11, m0_1139_13, m0_1139_15, m0_1139_16, m0_1139_17, m0_1139_18, m0_1139_5, m0_1139_6, m0_1139_8, m0_1139_9, m0_2252_0, m0_2252_16, m0_2252_17, m0_2252_19, m0_2252_20, m0_2252_21, m0_2252_23, m0_2252_24, m0_2252_25, m0_2252_26, m0_2252_28, m0_2252_3] at *)) <;> ((try (simp (disch := omega) only [m0_1139_10, m0_1139_11, m0_1139_13, m0_1139_15, m0_1139_16, m0_1139_17, m0_1139_18, m0_1139_5, m0_1139_6, m0_1139_8, m0_1139_9, m0_2252_0, m0_2252_16, m0_2252_17, m0_2252_19, m0_2252_20, m0_2252_21, m0_2252_23, m0_2252_24, m0_2252_25, m0_2252_26, m0_2252_28, m0_2252_3] at *)) <;> ((try omega) <;> ((try simp) <;> (try omega)))))
theorem r0_bspoilt : R_bspoilt (qM id (fS L xs w)) (qM id (fS L xs w)) := by
  unfold R_bspoilt
  (repeat' (first | (with_reducible refine And.intro ?_ ?_) | intro _)) <;> ((try (simp (disch := omega) only [m0_1139_10, m0_1139_11, m0_1139_13, m0_1139_15, m0_1139_16, m0_1139_17, m0_1139_18, m0_1139_5, m0_1139_6, m0_1139_8, m0_1139_9, m0_1168, m0_2254] at *)) <;> ((try (simp (disch := omega) only [m0_1139_10, m0_1139_11, m0_1139_13, m0_1139_15, m0_1139_16, m0_1139_17, m0_1139_18, m0_1139_5, m0_1139_6, m0_1139_8, m0_1139_9, m0_1168, m0_2254] at *)) <;> ((try omega) <;> ((try simp) <;> (try omega)))))
theorem r0_baddr : R_baddr (qM id (fS L xs w)) (qM id (fS L xs w)) := by
  unfold R_baddr
  (repeat' (first | (with_reducible refine And.intro ?_ ?_) | intro _)) <;> ((try (simp (disch := omega) only [m0_1140, m0_2255] at *)) <;> ((try (simp (disch := omega) only [m0_1140, m0_2255] at *)) <;> ((try omega) <;> ((try simp) <;> (try omega)))))
theorem r0_bbusy : R_bbusy (qM id (fS L xs w)) (qM id (fS L xs w)) := by
  unfold R_bbusy
  (repeat' (first | (with_reducible refine And.intro ?_ ?_) | intro _)) <;> ((try (simp (disch := omega) only [m0_1140, m0_2257] at *)) <;> ((try (simp (disch := omega) only [m0_1140, m0_2257] at *)) <;> ((try omega) <;> ((try simp) <;> (try omega)))))
theorem r0_bqueued : R_bqueued (qM id (fS L xs w)) (qM id (fS L xs w)) := by
  unfold R_bqueued
  (repeat' (first | (with_reducible refine And.intro ?_ ?_) | intro _)) <;> ((try (simp (disch := omega) only [m0_1140, m0_2258] at *)) <;> ((try (simp (disch := omega) only [m0_1140, m0_2258] at *)) <;> ((try omega) <;> ((try simp) <;> (try omega)))))
theorem r0_bsaying : R_bsaying (qM id (fS L xs w)) (qM id (fS L xs w)) := by
  unfold R_bsaying
  (repeat' (first | (with_reducible refine And.intro ?_ ?_) | intro _)) <;> ((try (simp (disch := omega) only [m0_1140, m0_2260, m0_2261] at *)) <;> ((try (simp (disch := omega) only [m0_1140, m0_2260, m0_2261] at *)) <;> ((try omega) <;> ((try simp) <;> (try omega)))))
theorem r0_bcounts : R_bcounts (qM id (fS L xs w)) (qM id (fS L xs w)) := by
  unfold R_bcounts
  (repeat' (first | (with_reducible refine And.intro ?_ ?_) | intro _)) <;> ((try (simp (disch := omega) only [m0_1140, m0_2264, m0_2265, m0_2266] at *)) <;> ((try (simp (disch := omega) only [m0_1140, m0_2264, m0_2265, m0_2266] at *)) <;> ((try omega) <;> ((try simp) <;> (try omega)))))
theorem r0_blisten : R_blisten (qM id (fS L xs w)) (qM id (fS L xs w)) := by
  unfold R_blisten
  (repeat' (first | (with_reducible refine And.intro ?_ ?_) | intro _)) <;> ((try (simp (disch := omega) only [m0_1167, m0_2256] at *)) <;> ((try (simp (disch := omega) only [m0_1167, m0_2256] at *)) <;> ((try omega) <;> ((try simp) <;> (try omega)))))
theorem r0_bheard : R_bheard (qM id (fS L xs w)) (qM id (fS L xs w)) := by
  unfold R_bheard
  (repeat' (first | (with_reducible refine And.intro ?_ ?_) | intro _)) <;> ((try (simp (disch := omega) only [m0_1171, m0_2269] at *)) <;> ((try (simp (disch := omega) only [m0_1171, m0_2269] at *)) <;> ((try omega) <;> ((try simp) <;> (try omega)))))
theorem r0_blatest : R_blatest (qM id (fS L xs w)) (qM id (fS L xs w)) := by
  unfold R_blatest
  (repeat' (first | (with_reducible refine And.intro ?_ ?_) | intro _)) <;> ((try (simp (disch := omega) only [m0_1139_10, m0_1139_11, m0_1139_13, m0_1139_15, m0_1139_16, m0_1139_17, m0_1139_18, m0_1139_5, m0_1139_6, m0_1139_8, m0_1139_9, m0_1170, m0_2252_0, m0_2252_16, m0_2252_17, m0_2252_19, m0_2252_20, m0_2252_21, m0_2252_23, m0_2252_24, m0_2252_25, m0_2252_26, m0_2252_28, m0_2252_3, m0_2268] at *)) <;> ((try (simp (disch := omega) only [m0_1139_10, m0_1139_11, m0_1139_13, m0_1139_15, m0_1139_16, m0_1139_17, m0_1139_18, m0_1139_5, m0_1139_6, m0_1139_8, m0_1139_9, m0_1170, m0_2252_0, m0_2252_16, m0_2252_17, m0_2252_19, m0_2252_20, m0_2252_21, m0_2252_23, m0_2252_24, m0_2252_25, m0_2252_26, m0_2252_28, m0_2252_3, m0_2268] at *)) <;> ((try omega) <;> ((try simp) <;> (try omega)))))
theorem r0_carn : R_carn (qM id (fS L xs w)) (qM id (fS L xs w)) := by
  unfold R_carn
  (repeat' (first | (with_reducible refine And.intro ?_ ?_) | intro _)) <;> ((try (simp (disch := omega) only [m0_1337, m0_2270] at *)) <;> ((try (simp (disch := omega) only [m0_1337, m0_2270] at *)) <;> ((try omega) <;> ((try simp) <;> (try omega)))))
theorem r0_cars : R_cars (qM id (fS L xs w)) (qM id (fS L xs w)) := by
  unfold R_cars
  (repeat' (first | (with_reducible refine And.intro ?_ ?_) | intro _)) <;> ((try (simp (disch := omega) only [m0_1337, m0_1338, m0_2271, m0_2272, m0_2273, m0_2274, m0_2275] at *)) <;> ((try (simp (disch := omega) only [m0_1337, m0_1338, m0_2271, m0_2272, m0_2273, m0_2274, m0_2275] at *)) <;> ((try omega) <;> ((try simp) <;> (try omega)))))
theorem r0_carz : R_carz (qM id (fS L xs w)) (qM id (fS L xs w)) := by
  unfold R_carz
  (repeat' (first | (with_reducible refine And.intro ?_ ?_) | intro _)) <;> ((try (simp (disch := omega) only [m0_1337, m0_1338] at *)) <;> ((try (simp (disch := omega) only [m0_1337, m0_1338] at *)) <;> ((try omega) <;> ((try simp) <;> (try omega)))))
theorem r0_calln : R_calln (qM id (fS L xs w)) (qM id (fS L xs w)) := by
  unfold R_calln
  (repeat' (first | (with_reducible refine And.intro ?_ ?_) | intro _)) <;> ((try (simp (disch := omega) only [m0_1337, m0_2270] at *)) <;> ((try (simp (disch := omega) only [m0_1337, m0_2270] at *)) <;> ((try omega) <;> ((try simp) <;> (try omega)))))
theorem r0_calls : R_calls (qM id (fS L xs w)) (qM id (fS L xs w)) := by
  unfold R_calls
  (repeat' (first | (with_reducible refine And.intro ?_ ?_) | intro _)) <;> ((try (simp (disch := omega) only [m0_6, m0_1337, m0_1343, m0_2276, m0_2277, m0_2278, m0_2279] at *)) <;> ((try (simp (disch := omega) only [m0_6, m0_1337, m0_1343, m0_2276, m0_2277, m0_2278, m0_2279] at *)) <;> ((try omega) <;> ((try simp) <;> (try omega)))))
theorem r0_openl : R_openl (qM id (fS L xs w)) (qM id (fS L xs w)) := by
  unfold R_openl
  (repeat' (first | (with_reducible refine And.intro ?_ ?_) | intro _)) <;> ((try (simp (disch := omega) only [m0_1337, m0_1744, m0_2279] at *)) <;> ((try (simp (disch := omega) only [m0_1337, m0_1744, m0_2279] at *)) <;> ((try omega) <;> ((try simp) <;> (try omega)))))
theorem r0_openi : R_openi (qM id (fS L xs w)) (qM id (fS L xs w)) := by
  unfold R_openi
  (repeat' (first | (with_reducible refine And.intro ?_ ?_) | intro _)) <;> ((try (simp (disch := omega) only [m0_1337, m0_1744] at *)) <;> ((try (simp (disch := omega) only [m0_1337, m0_1744] at *)) <;> ((try omega) <;> ((try simp) <;> (try omega)))))
theorem r0_opena : R_opena (qM id (fS L xs w)) (qM id (fS L xs w)) := by
  unfold R_opena
  (repeat' (first | (with_reducible refine And.intro ?_ ?_) | intro _)) <;> ((try (simp (disch := omega) only [m0_1337, m0_1744, m0_2279] at *)) <;> ((try (simp (disch := omega) only [m0_1337, m0_1744, m0_2279] at *)) <;> ((try omega) <;> ((try simp) <;> (try omega)))))
theorem r0_begun : R_begun (qM id (fS L xs w)) (qM id (fS L xs w)) := by
  unfold R_begun
  (repeat' (first | (with_reducible refine And.intro ?_ ?_) | intro _)) <;> ((try (simp (disch := omega) only [m0_1337, m0_1338, m0_2279, m0_2280] at *)) <;> ((try (simp (disch := omega) only [m0_1337, m0_1338, m0_2279, m0_2280] at *)) <;> ((try omega) <;> ((try simp) <;> (try omega)))))
theorem r0_begunz : R_begunz (qM id (fS L xs w)) (qM id (fS L xs w)) := by
  unfold R_begunz
  (repeat' (first | (with_reducible refine And.intro ?_ ?_) | intro _)) <;> ((try (simp (disch := omega) only [m0_1337, m0_1338, m0_2279] at *)) <;> ((try (simp (disch := omega) only [m0_1337, m0_1338, m0_2279] at *)) <;> ((try omega) <;> ((try simp) <;> (try omega)))))
theorem r0_begunr : R_begunr (qM id (fS L xs w)) (qM id (fS L xs w)) := by
  unfold R_begunr
  (repeat' (first | (with_reducible refine And.intro ?_ ?_) | intro _)) <;> ((try (simp (disch := omega) only [m0_1337, m0_2280] at *)) <;> ((try (simp (disch := omega) only [m0_1337, m0_2280] at *)) <;> ((try omega) <;> ((try simp) <;> (try omega)))))
theorem r0_spaceof : R_spaceof (qM id (fS L xs w)) (qM id (fS L xs w)) := by
  unfold R_spaceof
  (repeat' (first | (with_reducible refine And.intro ?_ ?_) | intro _)) <;> ((try (simp (disch := omega) only [m0_6, m0_51, m0_56, m0_2329] at *)) <;> ((try (simp (disch := omega) only [m0_6, m0_51, m0_56, m0_2329] at *)) <;> ((try omega) <;> ((try simp) <;> (try omega)))))
theorem r0_smoke0 : R_smoke0 (qM id (fS L xs w)) (qM id (fS L xs w)) := by
  unfold R_smoke0
  (repeat' (first | (with_reducible refine And.intro ?_ ?_) | intro _)) <;> ((try (simp (disch := omega) only [m0_6, m0_2326] at *)) <;> ((try (simp (disch := omega) only [m0_6, m0_2326] at *)) <;> ((try omega) <;> ((try simp) <;> (try omega)))))
theorem r0_banswer : R_banswer (qM id (fS L xs w)) (qM id (fS L xs w)) := by
  unfold R_banswer
  (repeat' (first | (with_reducible refine And.intro ?_ ?_) | intro _)) <;> ((try (simp (disch := omega) only [m0_1140, m0_2262, m0_2263] at *)) <;> ((try (simp (disch := omega) only [m0_1140, m0_2262, m0_2263] at *)) <;> ((try omega) <;> ((try simp) <;> (try omega)))))
theorem r0_portc : R_portc (qM id (fS L xs w)) (qM id (fS L xs w)) := by
  intro p h1 h2
  rw [m0_824] at h2
  omega
theorem r0_portn : R_portn (qM id (fS L xs w)) (qM id (fS L xs w)) := by
  have e1 : qM id (fS L xs w) 825 (-1) 0 = 0 := (m1_c rfl (by decide) fc_825).trans (by decide +kernel)
  have e2 : qM id (fS L xs w) 826 (-1) 0 = 0 := (m1_c rfl (by decide) fc_826).trans (by decide +kernel)
  have e3 : qM id (fS L xs w) 827 (-1) 0 = 0 := (m1_c rfl (by decide) fc_827).trans (by decide +kernel)
  unfold R_portn
  rw [e1, e2, e3, m0_824, m0_824, m0_2156]
  omega
theorem r0_opens : R_opens (qM id (fS L xs w)) (qM id (fS L xs w)) := by
  unfold R_opens
  rw [m0_1337, m0_1337]
  exact ⟨sI_0.symm, by decide, by decide⟩
theorem r0_sorted : R_sorted (qM id (fS L xs w)) (qM id (fS L xs w)) := Or.inl m0_1003
theorem r0_given : R_given (qM id (fS L xs w)) (qM id (fS L xs w)) := by
  intro c h1 h2
  rw [m0_1337] at h2
  omega
theorem r0_givenz (hw : ∀ j, j < 400 → w j = -1) : R_givenz (qM id (fS L xs w)) (qM id (fS L xs w)) := by
  intro c h1 h2
  rw [m0_1337] at h1
  exact m0_2285 hw h1 h2
theorem r0_smoky : R_smoky (qM id (fS L xs w)) (qM id (fS L xs w)) := by
  unfold R_smoky
  rw [m0_756]
  refine (sI_none (fun k h1 h2 => ?_)).symm
  rw [m0_2326 (by omega), if_pos rfl]
theorem r0_sroom : R_sroom (qM id (fS L xs w)) (qM id (fS L xs w)) := by
  intro r h1 h2
  rw [m0_758 (by omega)]
  refine (sI_none (fun k h3 h4 => ?_)).symm
  rw [m0_2326 (by omega)]
  exact if_neg (fun q => q.1 rfl)
theorem r0_bqueue : R_bqueue (qM id (fS L xs w)) (qM id (fS L xs w)) := by
  intro s k h1 h2 h3 h4
  rw [m0_1140 h1 h2 (by decide) (by decide)] at h4
  simp at h4
  omega
theorem r0_mst : R_mst (qM id (fS L xs w)) (qM id (fS L xs w)) := by
  intro a h1 h2
  unfold msA
  rw [m0_2219 (by omega), m0_2227 (by omega), m0_1270 (by omega), m0_2228 (by omega), m0_2229 (by omega), m0_2230 (by omega), if_neg (by decide)]
  omega
theorem r0_mstate : R_mstate (qM id (fS L xs w)) (qM id (fS L xs w)) := by
  intro a h1 h2
  rw [m0_2227 (by omega), m0_1270 (by omega), m0_2229 (by omega), m0_2230 (by omega), if_neg (by decide)]
  exact ⟨rfl, by decide, by decide, trivial, Or.inl rfl, Or.inl rfl⟩

end R0
