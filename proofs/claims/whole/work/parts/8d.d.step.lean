/-! ===== rules: the reference's next word ===== -/
section WDd
variable {M K A Z : qm} {T : Int → Int} {L p q e e' k k' v v' i j x y z c n w t m : Int} {b : Nat} {N : Nat}
/-- word and next -/
def stv (K : qm) (v n : Int) : qm := qw (qw K 2184 29 0 v) 2184 27 0 n
theorem stv_27 : stv K v n 2184 27 0 = n := qw_s
theorem stv_29 : stv K v n 2184 29 0 = v := (qw_i (by decide)).trans qw_s
theorem stv_o (h : ¬ (b = 2184 ∧ (x = 27 ∨ x = 29))) : stv K v n b x y = K b x y := by
  unfold stv
  rw [qw_ap, if_neg (by omega), qw_ap, if_neg (by omega)]
theorem qw_qw {a : Nat} : qw (qw K a i j v) a i j w = qw K a i j w := by
  funext b x y
  rw [qw_ap, qw_ap, qw_ap]
  by_cases g : b = a ∧ x = i ∧ y = j
  · rw [if_pos g, if_pos g]
  · rw [if_neg g, if_neg g, if_neg g]
theorem stv_stv : qw (qw (stv K v n) 2184 29 0 k) 2184 27 0 m = stv K k m := by
  funext b x y
  unfold stv
  rw [qw_ap, qw_ap, qw_ap, qw_ap, qw_ap, qw_ap]
  by_cases g : b = 2184 ∧ x = 27 ∧ y = 0
  · rw [if_pos g, if_pos g]
  · rw [if_neg g, if_neg g, if_neg g]
    by_cases g2 : b = 2184 ∧ x = 29 ∧ y = 0
    · rw [if_pos g2, if_pos g2]
    · rw [if_neg g2, if_neg g2, if_neg g2]
theorem qw_eqv {a : Nat} (h : K a i j = v) : qw K a i j v = K := by
  rw [← h]
  exact qw_self
theorem stv_self (hv : K 2184 29 0 = v) (hn : K 2184 27 0 = n) : stv K v n = K := by
  unfold stv
  rw [qw_eqv hv, qw_eqv hn]
theorem charAt_K (i0 : 0 ≤ i) (i1 : i ≤ 1000) (h : K 2184 1 0 ≤ 800) : qf_X15_charAt N i K = some (if K 2184 1 0 ≤ i then 32 else K 2185 i 0) := by
  unfold qf_X15_charAt
  by_cases g : K 2184 1 0 ≤ i
  · rw [if_pos g, if_pos g]
  · rw [if_neg g, if_neg g, if_pos ⟨i0, by omega⟩]
theorem skip_K (hS : K 2184 1 0 = L) (hT : ∀ i, 0 ≤ i → i < L → K 2185 i 0 = T i) (L2 : L ≤ 800) (hp : K 2184 27 0 = p) (p0 : 0 ≤ p) (p1 : p ≤ L) : ∃ q, qf_X15_step_L0 20000 20000 K = some (.inr ((), qw K 2184 27 0 q)) ∧ RUN (fun c => c = 32) T L p q := by
  obtain ⟨o, e1, q, rfl, h⟩ : qW (qf_X15_step_L0 20000 20000 K) (fun o => ∃ q, o = .inr ((), qw K 2184 27 0 q) ∧ RUN (fun c => c = 32) T L p q) := by
    unfold qf_X15_step_L0
    refine qW_loop (fun s => ∃ n : Int, s = qw K 2184 27 0 n ∧ p ≤ n ∧ n ≤ L ∧ (∀ i, p ≤ i → i < n → T i = 32)) (fun s => (L - s 2184 27 0).toNat) ?_ 20000 _ ⟨p, (qw_eqv hp).symm, Int.le_refl _, p1, fun i i0 i1 => by omega⟩ ?_
    · rintro _ ⟨n, rfl, n0, n1, h⟩
      have x1 : qw K 2184 27 0 n 2184 27 0 = n := qw_s
      have x2 : qw K 2184 27 0 n 2184 1 0 = L := (qw_i (by decide)).trans hS
      have x3 : qw K 2184 27 0 n 2185 n 0 = K 2185 n 0 := qw_a (by decide)
      unfold qf_X15_step_L0_b qbnd
      rw [x1, x2, x3, qw_qw]
      by_cases g : L ≤ n
      · rw [if_pos g]
        exact qW_some ⟨n, rfl, n0, n1, h, fun z => by omega⟩
      · rw [if_neg g, if_pos (show 0 ≤ n ∧ n < 800 by omega), hT n (by omega) (by omega)]
        by_cases d : T n = 32
        · rw [if_pos d, w32_id (x := n + 1) (by omega) (by omega)]
          refine qW_some ⟨⟨n + 1, rfl, by omega, by omega, fun i i0 i1 => ?_⟩, ?_⟩
          · by_cases c : i = n
            · rw [c]; exact d
            · exact h i i0 (by omega)
          · rw [show qw K 2184 27 0 (n + 1) 2184 27 0 = n + 1 from qw_s]
            omega
        · rw [if_neg d]
          exact qW_some ⟨n, rfl, n0, n1, h, fun _ => d⟩
    · rw [hp]
      omega
  exact ⟨q, e1, h⟩
theorem numw_K (hS : K 2184 1 0 = L) (hT : ∀ i, 0 ≤ i → i < L → K 2185 i 0 = T i) (L2 : L ≤ 800) (hn : K 2184 27 0 = q) (ha : K 2184 26 0 = q) (hv : K 2184 29 0 = 0) (q0 : 0 ≤ q) (q1 : q ≤ L) : ∃ e v, qf_X15_step_L100 20000 20000 K = some (.inr ((), stv K v e)) ∧ RUN isD T L q e ∧ (e - q ≤ 9 → v = dgv T q (e - q).toNat) := by
  obtain ⟨o, e1, e, v, rfl, h1, h2⟩ : qW (qf_X15_step_L100 20000 20000 K) (fun o => ∃ e v, o = .inr ((), stv K v e) ∧ RUN isD T L q e ∧ (e - q ≤ 9 → v = dgv T q (e - q).toNat)) := by
    unfold qf_X15_step_L100
    refine qW_loop (fun s => ∃ (n : Nat) (v : Int), s = stv K v (q + n) ∧ q + n ≤ L ∧ (∀ i, q ≤ i → i < q + n → isD (T i)) ∧ (n ≤ 9 → v = dgv T q n)) (fun s => (L - s 2184 27 0).toNat) ?_ 20000 _ ?_ ?_
    · rintro _ ⟨n, v, rfl, n1, hd, hv⟩
      have x1 : stv K v (q + n) 2184 27 0 = q + n := stv_27
      have x2 : stv K v (q + n) 2184 29 0 = v := stv_29
      have x3 : stv K v (q + n) 2184 1 0 = L := (stv_o (by omega)).trans hS
      have x4 : stv K v (q + n) 2184 26 0 = q := (stv_o (by omega)).trans ha
      unfold qf_X15_step_L100_b
      rw [x1, charAt_K (show 0 ≤ q + (n : Int) by omega) (by omega) (show stv K v (q + n) 2184 1 0 ≤ 800 by omega), x3]
      simp only [Option.bind_some]
      by_cases g : L ≤ q + n
      · rw [if_pos g, digit_K]
        simp only [Option.bind_some]
        rw [b01_f (by unfold isD; decide), if_pos rfl]
        refine qW_some ⟨q + n, v, rfl, ⟨by omega, n1, hd, fun x => by omega⟩, fun x => ?_⟩
        rw [show (q + (n : Int) - q).toNat = n by omega]
        exact hv (by omega)
      · have tx : stv K v (q + n) 2185 (q + n) 0 = T (q + n) := (stv_o (by omega)).trans (hT _ (by omega) (by omega))
        rw [if_neg g, tx, digit_K]
        simp only [Option.bind_some]
        by_cases d : isD (T (q + n))
        · rw [b01_t d, if_neg (by decide)]
          rw [x4, x2]
          by_cases g9 : 9 ≤ w32 (q + (n : Int) - q)
          · rw [if_pos g9]
            rw [w32_id (by omega) (by omega)] at g9
            unfold qf_X15_step_J158 qbnd
            (try dsimp only)
            rw [show qw (stv K v (q + n)) 2184 29 0 v 2184 27 0 = q + n from (qw_i (by decide)).trans x1, w32_id (x := q + (n : Int) + 1) (by omega) (by omega), stv_stv, show q + (n : Int) + 1 = q + ((n + 1 : Nat) : Int) by omega]
            refine qW_some ⟨⟨n + 1, _, rfl, by omega, fun i i0 i1 => ?_, fun x => ?_⟩, ?_⟩
            · by_cases c : i = q + n
              · rw [c]; exact d
              · exact hd i i0 (by omega)
            · omega
            · rw [show (stv K v (q + ((n + 1 : Nat) : Int))) 2184 27 0 = q + ((n + 1 : Nat) : Int) from stv_27]
              omega
          · rw [if_neg g9]
            rw [w32_id (by omega) (by omega)] at g9
            have hv' := hv (by omega)
            have b9 := dgv_9 (T := T) (q := q) (n := n) (by omega) hd
            have ev : w64 (w64 (w64 (10 * v) + T (q + n)) - 48) = dgv T q (n + 1) := by
              unfold isD at d
              show _ = dgv T q n * 10 + (T (q + n) - 48)
              rw [hv', w64_id (x := 10 * dgv T q n) (by omega) (by omega), w64_id (x := 10 * dgv T q n + T (q + n)) (by omega) (by omega), w64_id (by omega) (by omega)]
              omega
            rw [ev]
            unfold qf_X15_step_J158 qbnd
            (try dsimp only)
            rw [show qw (stv K v (q + n)) 2184 29 0 (dgv T q (n + 1)) 2184 27 0 = q + n from (qw_i (by decide)).trans x1, w32_id (x := q + (n : Int) + 1) (by omega) (by omega), stv_stv, show q + (n : Int) + 1 = q + ((n + 1 : Nat) : Int) by omega]
            refine qW_some ⟨⟨n + 1, _, rfl, by omega, fun i i0 i1 => ?_, fun x => ?_⟩, ?_⟩
            · by_cases c : i = q + n
              · rw [c]; exact d
              · exact hd i i0 (by omega)
            · rfl
            · rw [show (stv K (dgv T q (n + 1)) (q + ((n + 1 : Nat) : Int))) 2184 27 0 = q + ((n + 1 : Nat) : Int) from stv_27]
              omega
        · rw [b01_f d, if_pos rfl]
          refine qW_some ⟨q + n, v, rfl, ⟨by omega, n1, hd, fun _ => d⟩, fun x => ?_⟩
          rw [show (q + (n : Int) - q).toNat = n by omega]
          exact hv (by omega)
    · refine ⟨0, 0, ?_, by omega, fun i i0 i1 => by omega, fun _ => rfl⟩
      rw [show q + ((0 : Nat) : Int) = q by omega]
      exact (stv_self hv hn).symm
    · rw [hn]
      show (L - q).toNat < 20000
      omega
  exact ⟨e, v, e1, h1, h2⟩
theorem namw_K (hS : K 2184 1 0 = L) (hT : ∀ i, 0 ≤ i → i < L → K 2185 i 0 = T i) (L2 : L ≤ 800) (hn : K 2184 27 0 = q) (ha : K 2184 26 0 = q) (hv : K 2184 29 0 = 0) (q0 : 0 ≤ q) (q1 : q ≤ L) : ∃ e v, qf_X15_step_L212 20000 20000 K = some (.inr ((), stv K v e)) ∧ RUN isL T L q e ∧ (e - q ≤ 8 → v = nmv T q (e - q).toNat) := by
  obtain ⟨o, e1, e, v, rfl, h1, h2⟩ : qW (qf_X15_step_L212 20000 20000 K) (fun o => ∃ e v, o = .inr ((), stv K v e) ∧ RUN isL T L q e ∧ (e - q ≤ 8 → v = nmv T q (e - q).toNat)) := by
    unfold qf_X15_step_L212
    refine qW_loop (fun s => ∃ (n : Nat) (v : Int), s = stv K v (q + n) ∧ q + n ≤ L ∧ (∀ i, q ≤ i → i < q + n → isL (T i)) ∧ (n ≤ 8 → v = nmv T q n)) (fun s => (L - s 2184 27 0).toNat) ?_ 20000 _ ?_ ?_
    · rintro _ ⟨n, v, rfl, n1, hd, hv⟩
      have x1 : stv K v (q + n) 2184 27 0 = q + n := stv_27
      have x2 : stv K v (q + n) 2184 29 0 = v := stv_29
      have x3 : stv K v (q + n) 2184 1 0 = L := (stv_o (by omega)).trans hS
      have x4 : stv K v (q + n) 2184 26 0 = q := (stv_o (by omega)).trans ha
      unfold qf_X15_step_L212_b
      rw [x1, charAt_K (show 0 ≤ q + (n : Int) by omega) (by omega) (show stv K v (q + n) 2184 1 0 ≤ 800 by omega), x3]
      simp only [Option.bind_some]
      by_cases g : L ≤ q + n
      · rw [if_pos g, letter_K]
        simp only [Option.bind_some]
        rw [b01_f (by unfold isL; decide), if_pos rfl]
        refine qW_some ⟨q + n, v, rfl, ⟨by omega, n1, hd, fun x => by omega⟩, fun x => ?_⟩
        rw [show (q + (n : Int) - q).toNat = n by omega]
        exact hv (by omega)
      · have tx : stv K v (q + n) 2185 (q + n) 0 = T (q + n) := (stv_o (by omega)).trans (hT _ (by omega) (by omega))
        rw [if_neg g, tx, letter_K]
        simp only [Option.bind_some]
        by_cases d : isL (T (q + n))
        · rw [b01_t d, if_neg (by decide)]
          rw [x2]
          unfold qbnd
          (try dsimp only)
          rw [show qw (stv K v (q + n)) 2184 29 0 (lO (lL v 8) (T (q + n))) 2184 27 0 = q + n from (qw_i (by decide)).trans x1, w32_id (x := q + (n : Int) + 1) (by omega) (by omega), stv_stv, show q + (n : Int) + 1 = q + ((n + 1 : Nat) : Int) by omega]
          refine qW_some ⟨⟨n + 1, _, rfl, by omega, fun i i0 i1 => ?_, fun x => ?_⟩, ?_⟩
          · by_cases c : i = q + n
            · rw [c]; exact d
            · exact hd i i0 (by omega)
          · show lO (lL v 8) (T (q + n)) = lO (lL (nmv T q n) 8) (T (q + n))
            rw [hv (by omega)]
          · rw [show (stv K (lO (lL v 8) (T (q + n))) (q + ((n + 1 : Nat) : Int))) 2184 27 0 = q + ((n + 1 : Nat) : Int) from stv_27]
            omega
        · rw [b01_f d, if_pos rfl]
          refine qW_some ⟨q + n, v, rfl, ⟨by omega, n1, hd, fun _ => d⟩, fun x => ?_⟩
          rw [show (q + (n : Int) - q).toNat = n by omega]
          exact hv (by omega)
    · refine ⟨0, 0, ?_, by omega, fun i i0 i1 => by omega, fun _ => rfl⟩
      rw [show q + ((0 : Nat) : Int) = q by omega]
      exact (stv_self hv hn).symm
    · rw [hn]
      show (L - q).toNat < 20000
      omega
  exact ⟨e, v, e1, h1, h2⟩
theorem fin_K (ht : t = 0 ∨ t = 1) (hz : Z 2184 30 0 = w + 1) : (if t = 0 ∨ t = 1 then qbnd (qw Z 2184 31 0 t) (fun M => qf_X15_step_J370 20000 M) else none) = some ((), qw Z 2184 31 0 (if t = 0 ∧ w < 120 then 0 else 1)) := by
  rw [if_pos ht]
  unfold qbnd qf_X15_step_J370 qf_X15_step_J387 qbnd
  (try dsimp only)
  rw [show qw Z 2184 31 0 t 2184 31 0 = t from qw_s, show qw Z 2184 31 0 t 2184 30 0 = w + 1 from (qw_i (by decide)).trans hz, qw_qw, qw_qw]
  by_cases g : t = 0
  · rw [if_pos g]
    by_cases g2 : w < 120
    · rw [if_pos (by omega), if_pos ⟨g, g2⟩]
    · rw [if_neg (by omega), if_neg (fun z => g2 z.2)]
  · rw [if_neg g, if_neg (fun z => g z.1)]
end WDd
