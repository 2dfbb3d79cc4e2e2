/-! ===== the giving: all rows of some calls ===== -/
section GVe
variable {M K A W Z X Y : qm} {a b c d i j k p q v w T : Int} {m n s : Nat} {l t u pre x1 x2 : List Int} {B : Int × List Int}
def prm : Nat → List Int → List (List Int)
  | 0, _ => [[]]
  | m + 1, l => l.flatMap (fun a => (prm m (l.erase a)).map (fun t => a :: t))
theorem srt_er (h : (x1 ++ a :: x2).Pairwise (· < ·)) : (x1 ++ a :: x2).erase a = x1 ++ x2 ∧ (x1 ++ x2).Pairwise (· < ·) := by
  rw [List.pairwise_append] at h
  obtain ⟨h1, h2, h3⟩ := h
  rw [List.pairwise_cons] at h2
  have na : a ∉ x1 := fun z => by
    have := h3 a z a List.mem_cons_self
    omega
  refine ⟨?_, ?_⟩
  · rw [List.erase_append_right _ na, List.erase_cons_head]
  · rw [List.pairwise_append]
    exact ⟨h1, h2.2, fun x hx y hy => h3 x hx y (List.mem_cons_of_mem _ hy)⟩
theorem prm_head : ∀ (m : Nat) (l : List Int), l.length = m → ∃ t, prm m l = l :: t := by
  intro m
  induction m with
  | zero =>
    intro l h
    cases l with
    | nil => exact ⟨[], rfl⟩
    | cons a t => cases h
  | succ m ih =>
    intro l h
    cases l with
    | nil => cases h
    | cons a t =>
      obtain ⟨r, hr⟩ := ih t (by simpa using h)
      refine ⟨r.map (fun t => a :: t) ++ t.flatMap (fun x => (prm m ((a :: t).erase x)).map (fun t => x :: t)), ?_⟩
      show (a :: t).flatMap (fun x => (prm m ((a :: t).erase x)).map (fun t => x :: t)) = _
      rw [List.flatMap_cons, List.erase_cons_head, hr]
      rfl
/-- the row l stands there, and the best so far; else all is as in K -/
def GS (K Z : qm) (d : Int) (s : Nat) (l : List Int) (B : Int × List Int) : Prop := (∀ e x y, ¬ (e = 2284 ∧ 6 * d ≤ x ∧ x < 6 * d + 6) → ¬ (e = 2283 ∧ x = d) → e ≠ 2282 → Z e x y = K e x y) ∧ rl (fun i => Z 2282 i 0) s 0 = l ∧ BSD Z d s B
/-- the loop from behind the looking on -/
def gD (c d : Int) (n : Nat) (Z : qm) : Option ((Unit × qm) ⊕ (Unit × qm)) := (qf_X13_nextRow 20000 Z).bind (fun r => qf_X13_findRow_L97 20000 n c d r.1 r.2)
theorem l97_s (e : qf_X13_findRow_L97_b 20000 c d 1 Z = qf_X13_findRow_J174 20000 c d Y) : qf_X13_findRow_L97 20000 (n + 1) c d 1 Z = gD c d n Y := by
  show qloop _ (n + 1) (c, d, 1, Z) = _
  rw [qloop.eq_2]
  (try dsimp only)
  rw [e]
  unfold qf_X13_findRow_J174 gD
  cases hq : qf_X13_nextRow 20000 Y with
  | none => rfl
  | some r => rfl
theorem l97_0 : qf_X13_findRow_L97 20000 (n + 1) c d 0 Z = some (.inr ((), Z)) := by
  show qloop _ (n + 1) (c, d, 0, Z) = _
  rw [qloop.eq_2]
  (try dsimp only)
  have b : qf_X13_findRow_L97_b 20000 c d 0 Z = some (.inl (.inr ((), Z))) := by
    unfold qf_X13_findRow_L97_b
    rw [if_pos rfl]
  rw [b]
noncomputable def rok (K : qm) (c : Int) : Int × List Int → List Int → Int × List Int := bs1 (rco K c (K 2272 c 0) (bhd K c)) (okRow K c)
theorem rco_o (h : ∀ e x y, (e = 2271 ∨ e = 2272 ∨ e = 2273 ∨ e = 2276 ∨ e = 2277 ∨ e = 2278 ∨ e = 2270) → Z e x y = K e x y) : rco Z c (Z 2272 c 0) (bhd Z c) = rco K c (K 2272 c 0) (bhd K c) := by
  funext l
  unfold rco bhd
  have e1 : wgt Z = wgt K := funext (fun x => by unfold wgt; rw [h _ _ _ (by omega), h _ _ _ (by omega)])
  have e2 : (fun x => Z 2276 x 0) = (fun x => K 2276 x 0) := funext (fun x => h _ _ _ (by omega))
  have e3 : (fun x => Z 2277 x 0) = (fun x => K 2277 x 0) := funext (fun x => h _ _ _ (by omega))
  rw [e1, e2, e3, h 2271 c 0 (by omega), h 2272 c 0 (by omega), h 2273 c 0 (by omega), h 2270 12 0 (by omega)]
/-- one row is looked at -/
theorem look_g (h : CAR K c) (d0 : 0 ≤ d) (d1 : d < 256) (hs : K 2270 16 0 = s) (s6 : s ≤ 6) (hl : ∀ x, x ∈ l → CLL K x) (g : GS K Z d s l B) : ∃ Y, (∀ n, qf_X13_findRow_L97 20000 (n + 1) c d 1 Z = gD c d n Y) ∧ GS K Y d s l (rok K c B l) := by
  obtain ⟨g1, g2, g3⟩ := g
  have zk : ∀ e x y, (e = 2271 ∨ e = 2272 ∨ e = 2273 ∨ e = 2276 ∨ e = 2277 ∨ e = 2278 ∨ e = 2270 ∨ e = 2280) → Z e x y = K e x y := fun e x y z => g1 e x y (by omega) (by omega) (by omega)
  have hZ : CAR Z c := by
    unfold CAR at h ⊢
    rw [zk 2271 _ _ (by omega), zk 2272 _ _ (by omega), zk 2273 _ _ (by omega), zk 2270 _ _ (by omega)]
    exact h
  have hc : ∀ i : Int, 0 ≤ i → i < (s : Int) → CLL Z (Z 2282 i 0) := fun i i0 i1 => by
    have q := hl (Z 2282 i 0) (by
      rw [← g2]
      exact rl_mem (f := fun i => Z 2282 i 0) s 0 i i0 (by omega))
    unfold CLL at q ⊢
    rw [zk 2276 _ _ (by omega), zk 2277 _ _ (by omega), zk 2278 _ _ (by omega), zk 2270 _ _ (by omega)]
    exact q
  obtain ⟨Y, e1, y1, y2⟩ := eval_K (K := Z) hZ d0 d1 ((zk _ _ _ (by omega)).trans hs) s6 hc g3 g2
  refine ⟨Y, fun n => l97_s e1, fun e x y z1 z2 z3 => (y2 e x y z1 z2).trans (g1 e x y z1 z2 z3), ?_, ?_⟩
  · rw [← g2]
    exact rl_ext s 0 (fun i _ _ => y2 _ _ _ (by omega) (by omega))
  · have ek : okRow Z c = okRow K c := by
      funext l
      unfold okRow
      exact propext ⟨fun q x hx => by rw [← zk 2280 x 0 (by omega)]; exact q x hx, fun q x hx => by rw [zk 2280 x 0 (by omega)]; exact q x hx⟩
    rw [rco_o (Z := Z) (K := K) (fun e x y z => zk e x y (by omega)), ek] at y1
    exact y1
/-- one row on -/
theorem step_g (h : CAR K c) (d0 : 0 ≤ d) (d1 : d < 256) (hs : K 2270 16 0 = s) (s6 : s ≤ 6) (g : GS K Z d s (pre ++ a :: (x2.reverse ++ b :: x1.reverse)) B) (hS : (x1 ++ a :: b :: x2).Pairwise (· < ·)) (hl : ∀ x, x ∈ pre ++ b :: (x1 ++ a :: x2) → CLL K x) : ∃ Y, (∀ n, gD c d (n + 1) Z = gD c d n Y) ∧ GS K Y d s (pre ++ b :: (x1 ++ a :: x2)) (rok K c B (pre ++ b :: (x1 ++ a :: x2))) := by
  obtain ⟨g1, g2, g3⟩ := g
  obtain ⟨X, e1, x1', x2'⟩ := next_list ((g1 _ _ _ (by omega) (by omega) (by omega)).trans hs) s6 g2 hS
  have gX : GS K X d s (pre ++ b :: (x1 ++ a :: x2)) B := ⟨fun e x y z1 z2 z3 => (x2' e x y z3).trans (g1 e x y z1 z2 z3), x1', by rw [x2' _ _ _ (by decide)]; exact g3.1, by
    rw [← g3.2]
    exact rl_ext s 0 (fun i _ _ => x2' _ _ _ (by decide))⟩
  obtain ⟨Y, e2, gY⟩ := look_g h d0 d1 hs s6 hl gX
  refine ⟨Y, fun n => ?_, gY⟩
  show (qf_X13_nextRow 20000 Z).bind (fun r => qf_X13_findRow_L97 20000 (n + 1) c d r.1 r.2) = _
  rw [e1]
  exact e2 n
end GVe
