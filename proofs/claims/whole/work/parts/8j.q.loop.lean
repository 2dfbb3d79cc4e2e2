/-! ===== the law's loop (wip/tools/q/genst2.py) ===== -/
section LOq
variable {L : Nat} {xs : Nat → Int32} {P : Nat → Nat} {S : zm_S} {M : qm} {q rc rs : Nat} {n : Int}
theorem i32_n {a : Nat} (h : a < 100000) : (Int32.ofNat a).toInt = a := Int32.toInt_ofNat_of_lt (by omega)
theorem end_yes {a b : Nat} (ha : a < 100000) (hb : b < 100000) (h : a < b + 7) : (Int32.ofNat a - (7 : Int32)) < Int32.ofNat b := by
  rw [Int32.lt_iff_toInt_lt, Int32.toInt_sub, i32_n ha, i32_n hb, show (7 : Int32).toInt = 7 from rfl, Int.bmod_eq_of_le (by omega) (by omega)]
  omega
theorem end_no {a b : Nat} (ha : a < 100000) (hb : b < 100000) (h : b + 7 ≤ a) : ¬ (Int32.ofNat a - (7 : Int32)) < Int32.ofNat b := by
  rw [Int32.lt_iff_toInt_lt, Int32.toInt_sub, i32_n ha, i32_n hb, show (7 : Int32).toInt = 7 from rfl, Int.bmod_eq_of_le (by omega) (by omega)]
  omega
theorem law_one {f : Nat} (hS : Sh L xs P S) (hM : qM P S = M) (hL : L ≤ 3584) (hq : q + 7 ≤ L) (hn : 0 ≤ n ∧ n < 512) (hI : LIQ n M M) (hg : BG n rc rs M) : GO L xs n q (zf_L_law_L23 20000 f) (zf_L_law_L23 20000 (f + 1) 0 6 2156 2332 (Int32.ofNat q) rc rs S) := by
  have hL' : L < 2147483648 := by omega
  rw [zf_L_law_L23]
  rw [sh_len hS, Option.bind_some, if_neg (end_no (by omega) (by omega) hq), sh_arg hS hL' (by omega), Option.bind_some]
  refine go_if (fun _ => st_line hS hM hL' hq hn hI hg) (fun _ => ?_)
  refine go_if (fun _ => st_move hS hM hL' hq hn hI hg) (fun _ => ?_)
  refine go_if (fun _ => st_door hS hM hL' hq hn hI hg) (fun _ => ?_)
  refine go_if (fun _ => st_find hS hM hL' hq hn hI hg) (fun _ => ?_)
  refine go_if (fun _ => st_count hS hM hL' hq hn hI hg) (fun _ => ?_)
  refine go_if (fun _ => st_sides hS hM hL' hq hn hI hg) (fun _ => ?_)
  refine go_if (fun _ => st_side hS hM hL' hq hn hI hg) (fun _ => ?_)
  refine go_if (fun _ => st_size hS hM hL' hq hn hI hg) (fun _ => ?_)
  refine go_if (fun _ => st_at hS hM hL' hq hn hI hg) (fun _ => ?_)
  refine go_if (fun _ => st_between hS hM hL' hq hn hI hg) (fun _ => ?_)
  refine go_if (fun _ => st_way hS hM hL' hq hn hI hg) (fun _ => ?_)
  refine go_if (fun _ => st_name hS hM hL' hq hn hI hg) (fun _ => ?_)
  refine go_if (fun _ => st_nameOf hS hM hL' hq hn hI hg) (fun _ => ?_)
  refine go_if (fun _ => st_say hS hM hL' hq hn hI hg) (fun _ => ?_)
  refine go_if (fun _ => st_trim hS hM hL' hq hn hI hg) (fun _ => ?_)
  refine go_if (fun _ => st_rules hS hM hL' hq hn hI hg) (fun _ => ?_)
  refine go_if (fun _ => st_fact hS hM hL' hq hn hI hg) (fun _ => ?_)
  refine go_if (fun _ => st_measure hS hM hL' hq hn hI hg) (fun _ => ?_)
  refine go_if (fun _ => st_check hS hM hL' hq hn hI hg) (fun _ => ?_)
  refine go_if (fun _ => st_rule hS hM hL' hq hn hI hg) (fun _ => ?_)
  refine go_if (fun _ => st_build hS hM hL' hq hn hI hg) (fun _ => ?_)
  refine go_if (fun _ => st_portal hS hM hL' hq hn hI hg) (fun _ => ?_)
  refine go_if (fun _ => st_person hS hM hL' hq hn hI hg) (fun _ => ?_)
  refine go_if (fun _ => st_card hS hM hL' hq hn hI hg) (fun _ => ?_)
  refine go_if (fun _ => st_right hS hM hL' hq hn hI hg) (fun _ => ?_)
  refine go_if (fun _ => st_end hS hM hL' hq hn hI hg) (fun _ => ?_)
  refine go_if (fun _ => st_lost hS hM hL' hq hn hI hg) (fun _ => ?_)
  refine go_if (fun _ => st_two hS hM hL' hq hn hI hg) (fun _ => ?_)
  refine go_if (fun _ => st_airlock hS hM hL' hq hn hI hg) (fun _ => ?_)
  refine go_if (fun _ => st_stands hS hM hL' hq hn hI hg) (fun _ => ?_)
  refine go_if (fun _ => st_off hS hM hL' hq hn hI hg) (fun _ => ?_)
  refine go_if (fun _ => st_ask hS hM hL' hq hn hI hg) (fun _ => ?_)
  refine go_if (fun _ => st_both hS hM hL' hq hn hI hg) (fun _ => ?_)
  refine go_if (fun _ => st_where hS hM hL' hq hn hI hg) (fun _ => ?_)
  refine go_if (fun _ => st_inside hS hM hL' hq hn hI hg) (fun _ => ?_)
  refine go_if (fun _ => st_against hS hM hL' hq hn hI hg) (fun _ => ?_)
  refine go_if (fun _ => st_unit hS hM hL' hq hn hI hg) (fun _ => ?_)
  refine go_if (fun _ => st_sentence hS hM hL' hq hn hI hg) (fun _ => ?_)
  refine go_if (fun _ => st_cutText hS hM hL' hq hn hI hg) (fun _ => ?_)
  refine go_if (fun _ => st_matrix hS hM hL' hq hn hI hg) (fun _ => ?_)
  refine go_if (fun _ => st_signal hS hM hL' hq hn hI hg) (fun _ => ?_)
  refine go_if (fun _ => st_fault hS hM hL' hq hn hI hg) (fun _ => ?_)
  refine go_if (fun _ => st_disable hS hM hL' hq hn hI hg) (fun _ => ?_)
  refine go_if (fun _ => st_attend hS hM hL' hq hn hI hg) (fun _ => ?_)
  refine go_if (fun _ => st_reset hS hM hL' hq hn hI hg) (fun _ => ?_)
  refine go_if (fun _ => st_act hS hM hL' hq hn hI hg) (fun _ => ?_)
  refine go_if (fun _ => st_zone hS hM hL' hq hn hI hg) (fun _ => ?_)
  refine go_if (fun _ => st_event hS hM hL' hq hn hI hg) (fun _ => ?_)
  refine go_if (fun _ => st_block hS hM hL' hq hn hI hg) (fun _ => ?_)
  refine go_if (fun _ => st_wire hS hM hL' hq hn hI hg) (fun _ => ?_)
  refine go_if (fun _ => st_numbers hS hM hL' hq hn hI hg) (fun _ => ?_)
  refine go_if (fun _ => st_row hS hM hL' hq hn hI hg) (fun _ => ?_)
  refine go_if (fun _ => st_safe hS hM hL' hq hn hI hg) (fun _ => ?_)
  refine go_if (fun _ => st_hand hS hM hL' hq hn hI hg) (fun _ => ?_)
  refine go_if (fun _ => st_bind hS hM hL' hq hn hI hg) (fun _ => ?_)
  refine go_if (fun _ => st_point hS hM hL' hq hn hI hg) (fun _ => ?_)
  refine go_if (fun _ => st_pointAt hS hM hL' hq hn hI hg) (fun _ => ?_)
  refine go_if (fun _ => st_order hS hM hL' hq hn hI hg) (fun _ => ?_)
  refine go_if (fun _ => st_out hS hM hL' hq hn hI hg) (fun _ => ?_)
  refine go_if (fun _ => st_failed hS hM hL' hq hn hI hg) (fun _ => ?_)
  refine go_if (fun _ => st_address hS hM hL' hq hn hI hg) (fun _ => ?_)
  refine go_if (fun _ => st_listen hS hM hL' hq hn hI hg) (fun _ => ?_)
  refine go_if (fun _ => st_busy hS hM hL' hq hn hI hg) (fun _ => ?_)
  refine go_if (fun _ => st_send hS hM hL' hq hn hI hg) (fun _ => ?_)
  refine go_if (fun _ => st_disturb hS hM hL' hq hn hI hg) (fun _ => ?_)
  refine go_if (fun _ => st_station hS hM hL' hq hn hI hg) (fun _ => ?_)
  refine go_if (fun _ => st_heard hS hM hL' hq hn hI hg) (fun _ => ?_)
  refine go_if (fun _ => st_byteAt hS hM hL' hq hn hI hg) (fun _ => ?_)
  refine go_if (fun _ => st_car hS hM hL' hq hn hI hg) (fun _ => ?_)
  refine go_if (fun _ => st_free hS hM hL' hq hn hI hg) (fun _ => ?_)
  refine go_if (fun _ => st_span hS hM hL' hq hn hI hg) (fun _ => ?_)
  refine go_if (fun _ => st_call hS hM hL' hq hn hI hg) (fun _ => ?_)
  refine go_if (fun _ => st_begin hS hM hL' hq hn hI hg) (fun _ => ?_)
  refine go_if (fun _ => st_done hS hM hL' hq hn hI hg) (fun _ => ?_)
  refine go_if (fun _ => st_give hS hM hL' hq hn hI hg) (fun _ => ?_)
  refine go_if (fun _ => st_given hS hM hL' hq hn hI hg) (fun _ => ?_)
  refine go_if (fun _ => st_fire hS hM hL' hq hn hI hg) (fun _ => ?_)
  refine go_if (fun _ => st_cell hS hM hL' hq hn hI hg) (fun _ => ?_)
  refine go_if (fun _ => st_pass hS hM hL' hq hn hI hg) (fun _ => ?_)
  refine go_if (fun _ => st_told hS hM hL' hq hn hI hg) (fun _ => ?_)
  refine ⟨S, P, M, rc, rs, hS, hM, LIQ_F (by omega) Fg_refl Fg_refl hI, ?_, rfl⟩
  obtain ⟨g1, g2, g3⟩ := hg
  refine ⟨by omega, by omega, fun z => ?_⟩
  have g4 := g3 z
  omega
theorem law_loop (hL : L ≤ 3584) : ∀ (m f j : Nat) (S : zm_S) (P : Nat → Nat) (M : qm) (rc rs : Nat), L < 7 * j + 7 * m + 7 → m < f → Sh L xs P S → qM P S = M → LIQ (j : Int) M M → BG (j : Int) rc rs M → 7 * j ≤ 3584 → ∃ S', zf_L_law_L23 20000 f 0 6 2156 2332 (Int32.ofNat (7 * j)) rc rs S = some (.inr ((), S')) := by
  intro m
  induction m with
  | zero =>
    intro f j S P M rc rs h1 h2 hS hM hI hg hj
    obtain ⟨f', rfl⟩ : ∃ f', f = f' + 1 := ⟨f - 1, by omega⟩
    refine ⟨S, ?_⟩
    rw [zf_L_law_L23, sh_len hS, Option.bind_some, if_pos (end_yes (by omega) (by omega) (by omega))]
  | succ m ih =>
    intro f j S P M rc rs h1 h2 hS hM hI hg hj
    obtain ⟨f', rfl⟩ : ∃ f', f = f' + 1 := ⟨f - 1, by omega⟩
    by_cases g : L < 7 * j + 7
    · refine ⟨S, ?_⟩
      rw [zf_L_law_L23, sh_len hS, Option.bind_some, if_pos (end_yes (by omega) (by omega) (by omega))]
    · obtain ⟨S3, P3, M2, rc2, rs2, k1, k2, k3, k4, k5⟩ := law_one (f := f') hS hM hL (q := 7 * j) (by omega) (n := (j : Int)) ⟨by omega, by omega⟩ hI hg
      obtain ⟨S', e⟩ := ih f' (j + 1) S3 P3 M2 rc2 rs2 (by omega) (by omega) k1 k2 k3 k4 (by omega)
      refine ⟨S', ?_⟩
      rw [k5, show Int32.ofNat (7 * j) + 7 = Int32.ofNat (7 * (j + 1)) by
        rw [show 7 * (j + 1) = 7 * j + 7 by omega, Int32.ofNat_add]
        rfl]
      exact e
end LOq
