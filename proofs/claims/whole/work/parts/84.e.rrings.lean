/-! ===== the reference's rings ===== -/
section RR
variable {M K A E G H : qm} {n m p k v z l x y w c r i j a b s t L R N : Int} {nx key stt cnt : Int → Int}
def updI (f : Int → Int) (R v : Int) : Int → Int := fun r => if r = R then v else f r
theorem updI_o {f : Int → Int} (h : r ≠ R) : updI f R v r = f r := if_neg h
theorem updI_s {f : Int → Int} : updI f R v R = v := if_pos rfl
theorem rng_c {stt' cnt' : Int → Int} (h : RNG nx N key stt cnt r) (r0 : 0 ≤ r) (he : ∀ i, 0 ≤ i → i ≤ r → stt i = stt' i ∧ cnt i = cnt' i) : RNG nx N key stt' cnt' r := by
  obtain ⟨h1, h2, h3, h4, h5⟩ := h
  have e := he r r0 (Int.le_refl r)
  have hc : ∀ i, 0 ≤ i → i < r → stt i = stt' i ∧ cnt i = cnt' i := fun i a b => he i a (by omega)
  refine ⟨by rw [← e.1]; exact h1, by rw [← e.1]; exact h2, by rw [← e.2]; exact h3, fun s s0 s1 z => ?_, ?_⟩
  · rw [← e.1] at z
    exact (cov_c hc).mp (h4 s s0 s1 z)
  · rw [wlk_c hc, e.1, e.2] at h5
    exact h5
theorem rng_add (R0 : 0 ≤ R) (n0 : 0 ≤ n) (h : ∀ r, 0 ≤ r → r < R → RNG nx N key stt cnt r) (s0 : 0 ≤ s) (s1 : s < N) (hc : ¬ cov nx stt cnt R s) (hk : ∀ t, 0 ≤ t → t < N → key t < key s → cov nx stt cnt R t) (hw : wlk nx stt cnt R s n) : (∀ r, 0 ≤ r → r < R + 1 → RNG nx N key (updI stt R s) (updI cnt R n) r) ∧ ∀ t, cov nx (updI stt R s) (updI cnt R n) (R + 1) t ↔ (cov nx stt cnt R t ∨ ∃ j, 0 ≤ j ∧ j < n ∧ stI nx s j = t) := by
  have old : ∀ r, r < R → stt r = updI stt R s r ∧ cnt r = updI cnt R n r := fun r hr => ⟨(updI_o (by omega)).symm, (updI_o (by omega)).symm⟩
  refine ⟨fun r r0 r1 => ?_, fun t => ?_⟩
  · by_cases g : r = R
    · rw [g]
      have n1 : 1 ≤ n := by
        apply Classical.byContradiction
        intro z
        have e : n = 0 := by omega
        rcases hw.2 with y | ⟨i, i0, i1, _⟩
        · rw [e, stI_0] at y
          exact hc y
        · omega
      refine ⟨by rw [updI_s]; exact s0, by rw [updI_s]; exact s1, by rw [updI_s]; exact n1, fun t t0 t1 z => ?_, ?_⟩
      · rw [updI_s] at z
        exact (cov_c (fun i _ i1 => old i i1)).mp (hk t t0 t1 z)
      · rw [updI_s, updI_s]
        exact (wlk_c (fun i _ i1 => old i i1)).mp hw
    · exact rng_c (h r r0 (by omega)) r0 (fun i _ i1 => old i (by omega))
  · rw [cov_s R0, updI_s, updI_s, ← cov_c (fun i _ i1 => old i i1)]
def RFR (G H : qm) : Prop := ∀ b i j, b ≠ 2179 → b ≠ 2180 → b ≠ 2181 → ¬ (b = 2157 ∧ i = 35) → H b i j = G b i j
theorem sid_o (h : ∀ b i, (b = 2160 ∨ (2174 ≤ b ∧ b ≤ 2178)) → H b i 0 = G b i 0) : (∀ s, sF H s = sF G s) ∧ (∀ s, sT H s = sT G s) ∧ (∀ s, sL H s = sL G s) ∧ (∀ s, sW H s = sW G s) ∧ (∀ s, sX H s = sX G s) ∧ (∀ s, sY H s = sY G s) ∧ (∀ s, sN H s = sN G s) := by
  have e1 : ∀ s, sF H s = sF G s := fun s => by
    unfold sF
    rw [h _ _ (Or.inr (by decide)), h _ _ (Or.inr (by decide))]
  have e3 : ∀ s, sL H s = sL G s := fun s => by
    unfold sL
    rw [h _ _ (Or.inr (by decide))]
  refine ⟨e1, fun s => ?_, e3, fun s => ?_, fun s => ?_, fun s => ?_, fun s => ?_⟩
  · unfold sT
    rw [h _ _ (Or.inr (by decide)), h _ _ (Or.inr (by decide))]
  · unfold sW
    rw [e3, h _ _ (Or.inl rfl)]
  · unfold sX
    rw [e1, h _ _ (Or.inr (by decide))]
  · unfold sY
    rw [e1, h _ _ (Or.inr (by decide))]
  · unfold sN
    rw [h 2177 _ (Or.inr (by decide)), h 2178 _ (Or.inr (by decide)), h 2174 _ (Or.inr (by decide)), h 2174 _ (Or.inr (by decide)), h 2175 _ (Or.inr (by decide)), h 2175 _ (Or.inr (by decide))]
theorem nxs_o (h : ∀ b i, (b = 2160 ∨ (2174 ≤ b ∧ b ≤ 2178)) → H b i 0 = G b i 0) : nxs A H p = nxs A G p ∧ skey H = skey G := by
  obtain ⟨e1, e2, e3, e4, e5, e6, e7⟩ := sid_o h
  have q : NXT A H p = NXT A G p := by
    funext s t
    unfold NXT
    rw [e4, e4, e5, e5, e6, e6, e7]
  refine ⟨?_, ?_⟩
  · funext s
    unfold nxs
    rw [q]
  · funext s
    unfold skey
    rw [e4, e5, e6]
theorem FPI_o (h : FPI M E G m p) (ho : ∀ b i, ((2174 ≤ b ∧ b ≤ 2178) ∨ (b = 2157 ∧ (i = 27 ∨ i = 30))) → H b i 0 = G b i 0) : FPI M H H m p := by
  obtain ⟨f1, f2, f3, f4, f5, f6, f7, f8, f9, f10, f11⟩ := h
  have ex : ∀ i, (H 2174 i 0) = (G 2174 i 0) := fun i => ho _ i (Or.inl (by decide))
  have ey : ∀ i, (H 2175 i 0) = (G 2175 i 0) := fun i => ho _ i (Or.inl (by decide))
  have e1 : ∀ i, (H 2176 i 0) = (G 2176 i 0) := fun i => ho _ i (Or.inl (by decide))
  have e2 : ∀ i, (H 2177 i 0) = (G 2177 i 0) := fun i => ho _ i (Or.inl (by decide))
  have e3 : ∀ i, (H 2178 i 0) = (G 2178 i 0) := fun i => ho _ i (Or.inl (by decide))
  have ek : ∀ i, kp H i = kp G i := fun i => by unfold kp; rw [ex, ey]
  have ip : ∀ l a b, IPC M H m l a b ↔ IPC M G m l a b := fun l a b => by
    have eo : ∀ i, onp M H l i ↔ onp M G l i := fun i => by unfold onp; rw [ex, ey]
    unfold IPC
    rw [eo, eo]
    exact ⟨fun z => ⟨z.1, z.2.1, z.2.2.1, z.2.2.2.1, z.2.2.2.2.1, fun c c1 c2 w => z.2.2.2.2.2 c c1 c2 ((eo c).mpr w)⟩, fun z => ⟨z.1, z.2.1, z.2.2.1, z.2.2.2.1, z.2.2.2.2.1, fun c c1 c2 w => z.2.2.2.2.2 c c1 c2 ((eo c).mp w)⟩⟩
  refine ⟨fun _ _ _ _ _ => rfl, ⟨f2.1, fun i a b => ?_, fun i j a b c => ?_⟩, (ho 2157 27 (Or.inr ⟨rfl, Or.inl rfl⟩)).trans f3, f4, fun x y => ?_, (ho 2157 30 (Or.inr ⟨rfl, Or.inr rfl⟩)).trans f6, f7, f8, fun q a b => ?_, fun d a b d0 d1 hd => ?_, fun q s a b c => ?_⟩
  · rw [ex, ey]
    exact f2.2.1 i a b
  · rw [ek, ek]
    exact f2.2.2 i j a b c
  · rw [← f5 x y]
    unfold pin
    refine ⟨fun ⟨i, i0, i1, i2, i3⟩ => ⟨i, i0, i1, by rw [← ex]; exact i2, by rw [← ey]; exact i3⟩, fun ⟨i, i0, i1, i2, i3⟩ => ⟨i, i0, i1, by rw [ex]; exact i2, by rw [ey]; exact i3⟩⟩
  · rw [e1, e2, e3]
    have w := f9 q a b
    exact ⟨w.1, w.2.1, (ip _ _ _).mpr w.2.2⟩
  · obtain ⟨q, q0, q1, q2, q3, q4⟩ := f10 d a b d0 d1 ((ip _ _ _).mp hd)
    exact ⟨q, q0, q1, by rw [e1]; exact q2, by rw [e2]; exact q3, by rw [e3]; exact q4⟩
  · rw [e1, e1, e2, e2]
    exact f11 q s a b c
theorem RFR_side (h : RFR G H) : ∀ b i, (b = 2160 ∨ (2174 ≤ b ∧ b ≤ 2178)) → H b i 0 = G b i 0 := fun b i hb => h b i 0 (by omega) (by omega) (by omega) (by omega)
theorem RFR_fpi (hf : FPI M E G m p) (h : RFR G H) : FPI M H H m p := FPI_o hf (fun b i hb => h b i 0 (by omega) (by omega) (by omega) (by omega))
theorem RFR_pls (hk : PFL M K G) (h : RFR G H) : PFL M K H := fun l l0 l1 => (h _ l 0 (by decide) (by decide) (by decide) (by omega)).trans (hk l l0 l1)
/-- what has been walked so far -/
def RIN (A G H : qm) (p R : Int) (stt cnt : Int → Int) : Prop := RFR G H ∧ (∀ r, 0 ≤ r → r < R → RNG (nxs A G p) (2 * p) (skey G) stt cnt r) ∧ (∀ s, 0 ≤ s → s < 2 * p → (H 2179 s 0) = b01 (cov (nxs A G p) stt cnt R s)) ∧ (∀ r, 0 ≤ r → r < R → (H 2180 r 0) = stt r ∧ (H 2181 r 0) = cnt r) ∧ (H 2157 35 0) = R ∧ 0 ≤ R
end RR
