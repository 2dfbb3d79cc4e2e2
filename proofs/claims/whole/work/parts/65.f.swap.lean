/-! ===== two pointers of an object change places: the plain arrays change places ===== -/
section SWAP
variable {L : Nat} {xs : Nat → Int32} {P : Nat → Nat} {S : zm_S} {M : qm} {ci o d1 d2 k1 k2 : Nat} {ks : List (Nat ⊕ Nat)} {β δ : Type} {T : Option β → δ → Prop} {y : Option δ}
def Psw (P : Nat → Nat) (d1 d2 : Nat) : Nat → Nat := fun c => if c = d1 then P d2 else if c = d2 then P d1 else P c
theorem zg_r_of (hS : Sh L xs P S) (ho : pl o = true) {fs : List Value} (e : S.1 o = .inl (ci, fs)) {b : Nat} (hv : fs[k1]? = some (.ref b)) : zg_r S o ci k1 = some b := by
  obtain ⟨p1, p2, -, -, -⟩ := pl_of ho
  unfold zg_r zg
  rw [if_pos ⟨p1, Nat.lt_of_lt_of_le p2 hS.1⟩, e]
  show (match (if ci = ci then fs[k1]? else none) with | some (.ref v) => some v | _ => none) = _
  rw [if_pos rfl, hv]
theorem fs_ref {fs : List Value} {b : Nat} (hm : fs.map kd = ks) (hk : ks[k1]? = some (.inr b)) : fs[k1]? = some (.ref b) := by
  rw [← hm, List.getElem?_map] at hk
  cases hv : fs[k1]? with
  | none => rw [hv] at hk; cases hk
  | some v =>
    rw [hv] at hk
    rw [kd_r (v := v) (b := b) (by simpa using hk)]
theorem rdv_ref {fs : List Value} {b : Nat} {i : Int} (hv : fs[k1]? = some (.ref b)) {c : Nat} : rdv (.inl (ci, fs.set k1 (.ref c))) i = rdv (.inl (ci, fs)) i := by
  have hk : k1 < fs.length := (List.getElem?_eq_some_iff.mp hv).1
  rw [rdv_set hk]
  by_cases e : i = (k1 : Int)
  · rw [if_pos e, rdv_o, e, if_pos (by omega), Int.toNat_natCast, hv]
    rfl
  · rw [if_neg e]
theorem sw_of (hS : Sh L xs P S) (hM : qM P S = M) (hd1 : qD d1 = true) (hd2 : qD d2 = true) (hn1 : ¬ (d1 = 825 ∨ d1 = 826)) (hm1 : ¬ d1 = 827) (hn2 : ¬ (d2 = 825 ∨ d2 = 826)) (hm2 : ¬ d2 = 827) (hne : d1 ≠ d2) (hF : sc (QF0 d1) = sc (QF0 d2)) (ho : pl o = true) (hT : TS P o = .inl (ci, ks)) (hk1 : ks[k1]? = some (.inr (P d1))) (hk2 : ks[k2]? = some (.inr (P d2))) (hT2 : TS (Psw P d1 d2) o = .inl (ci, (ks.set k1 (.inr (P d2))).set k2 (.inr (P d1)))) (hTo : ∀ a, a ≠ o → TS (Psw P d1 d2) a = TS P a) (hkk : k1 ≠ k2) {f : zm_S → Option β} (h : ∀ S', Sh L xs (Psw P d1 d2) S' → qM (Psw P d1 d2) S' = qsw M d1 d2 → qs (f S') y T) : qs ((zg_r S o ci k1).bind (fun b1 => (zg_r S o ci k2).bind (fun b2 => (zp S o ci k1 (.ref b2)).bind (fun S3 => (zp S3 o ci k2 (.ref b1)).bind f)))) y T := by
  obtain ⟨p1, p2, p3, p4, p5⟩ := pl_of ho
  obtain ⟨fs, e, hm⟩ := sc_o ((sh_c hS p1 p2).trans hT)
  have v1 := fs_ref hm hk1
  have v2 := fs_ref hm hk2
  have l1 : k1 < fs.length := (List.getElem?_eq_some_iff.mp v1).1
  have l2 : k2 < fs.length := (List.getElem?_eq_some_iff.mp v2).1
  have l3 : k2 < (fs.set k1 (.ref (P d2))).length := by rw [List.length_set]; exact l2
  have v3 : (fs.set k1 (.ref (P d2)))[k2]? = some (.ref (P d2)) := by
    rw [List.getElem?_set_ne hkk]
    exact v2
  rw [zg_r_of hS ho e v1]
  show qs ((zg_r S o ci k2).bind (fun b2 => (zp S o ci k1 (.ref b2)).bind (fun S3 => (zp S3 o ci k2 (.ref (P d1))).bind f))) y T
  rw [zg_r_of hS ho e v2]
  show qs ((zp S o ci k1 (.ref (P d2))).bind (fun S3 => (zp S3 o ci k2 (.ref (P d1))).bind f)) y T
  have e1 : zp S o ci k1 (.ref (P d2)) = some (zm_up S.1 o (.inl (ci, fs.set k1 (.ref (P d2)))), S.2) := by
    unfold zp
    rw [if_pos ⟨p1, Nat.lt_of_lt_of_le p2 hS.1⟩, e]
    exact if_pos ⟨rfl, l1⟩
  rw [e1]
  show qs ((zp (zm_up S.1 o (.inl (ci, fs.set k1 (.ref (P d2)))), S.2) o ci k2 (.ref (P d1))).bind f) y T
  have e2 : zp (zm_up S.1 o (.inl (ci, fs.set k1 (.ref (P d2)))), S.2) o ci k2 (.ref (P d1)) = some (zm_up (zm_up S.1 o (.inl (ci, fs.set k1 (.ref (P d2))))) o (.inl (ci, (fs.set k1 (.ref (P d2))).set k2 (.ref (P d1)))), S.2) := by
    unfold zp
    rw [if_pos ⟨p1, Nat.lt_of_lt_of_le p2 hS.1⟩]
    show (match zm_up S.1 o (.inl (ci, fs.set k1 (.ref (P d2)))) o with
      | .inl q => if q.1 = ci ∧ k2 < q.2.length then some (zm_up (zm_up S.1 o (.inl (ci, fs.set k1 (.ref (P d2))))) o (.inl (ci, q.2.set k2 (.ref (P d1)))), S.2) else none
      | .inr _ => none) = _
    rw [zm_up_s]
    exact if_pos ⟨rfl, l3⟩
  rw [e2]
  have c1 : ∀ b, b ≠ o → zm_up (zm_up S.1 o (.inl (ci, fs.set k1 (.ref (P d2))))) o (.inl (ci, (fs.set k1 (.ref (P d2))).set k2 (.ref (P d1)))) b = S.1 b := fun b hb => by
    rw [zm_up_n hb, zm_up_n hb]
  have c2 : zm_up (zm_up S.1 o (.inl (ci, fs.set k1 (.ref (P d2))))) o (.inl (ci, (fs.set k1 (.ref (P d2))).set k2 (.ref (P d1)))) o = .inl (ci, (fs.set k1 (.ref (P d2))).set k2 (.ref (P d1))) := zm_up_s
  have dn : ∀ d, qD d = true → P d ≠ o := fun d hd => pl_ne hS ho (fun q => by
    rw [q, p3] at hd
    cases hd)
  have P1 : Psw P d1 d2 d1 = P d2 := if_pos rfl
  have P2 : Psw P d1 d2 d2 = P d1 := (if_neg hne.symm).trans (if_pos rfl)
  have P3 : ∀ d, d ≠ d1 → d ≠ d2 → Psw P d1 d2 d = P d := fun d h1 h2 => (if_neg h1).trans (if_neg h2)
  obtain ⟨q1, q2, q3, q4, q5, q6, q7⟩ := id hS
  refine h _ ⟨q1, ?_, ?_, ?_, ?_, ?_, ?_⟩ ?_
  · exact (c1 0 (by omega)).trans q2
  · exact fun b h1 h2 => (c1 b (by omega)).trans (q3 b h1 h2)
  · intro b h1 h2
    by_cases hb : b = o
    · subst hb
      show sc (zm_up (zm_up S.1 b (.inl (ci, fs.set k1 (.ref (P d2))))) b (.inl (ci, (fs.set k1 (.ref (P d2))).set k2 (.ref (P d1)))) b) = _
      rw [c2, hT2]
      show Sum.inl (ci, ((fs.set k1 (.ref (P d2))).set k2 (.ref (P d1))).map kd) = _
      rw [List.map_set, List.map_set, hm]
      rfl
    · exact (congrArg sc (c1 b hb)).trans ((q4 b h1 h2).trans (hTo b hb).symm)
  · intro b hb
    have n1 : b ≠ d1 := fun q => by rw [q, hd1] at hb; cases hb
    have n2 : b ≠ d2 := fun q => by rw [q, hd2] at hb; cases hb
    rw [P3 b n1 n2]
    exact q5 b hb
  · intro d hd
    by_cases h1 : d = d1
    · subst h1
      obtain ⟨r1, r2, r3, r4⟩ := q6 d2 hd2
      rw [if_neg hn2, if_neg hm2] at r4
      rw [P1, if_neg hn1, if_neg hm1]
      exact ⟨r1, r2, r3, (congrArg sc (c1 _ (dn d2 hd2))).trans (r4.trans hF.symm)⟩
    · by_cases h2 : d = d2
      · subst h2
        obtain ⟨r1, r2, r3, r4⟩ := q6 d1 hd1
        rw [if_neg hn1, if_neg hm1] at r4
        rw [P2, if_neg hn2, if_neg hm2]
        exact ⟨r1, r2, r3, (congrArg sc (c1 _ (dn d1 hd1))).trans (r4.trans hF)⟩
      · obtain ⟨r1, r2, r3, r4⟩ := q6 d hd
        rw [P3 d h1 h2]
        refine ⟨r1, r2, r3, ?_⟩
        show (if d = 825 ∨ d = 826 then ∃ n, sc (zm_up (zm_up S.1 o (.inl (ci, fs.set k1 (.ref (P d2))))) o (.inl (ci, (fs.set k1 (.ref (P d2))).set k2 (.ref (P d1)))) (P d)) = .inr (0, n, .inl 0) else if d = 827 then ∃ n, sc (zm_up (zm_up S.1 o (.inl (ci, fs.set k1 (.ref (P d2))))) o (.inl (ci, (fs.set k1 (.ref (P d2))).set k2 (.ref (P d1)))) (P d)) = .inr (1, n, .inl 1) else sc (zm_up (zm_up S.1 o (.inl (ci, fs.set k1 (.ref (P d2))))) o (.inl (ci, (fs.set k1 (.ref (P d2))).set k2 (.ref (P d1)))) (P d)) = sc (QF0 d))
        rw [c1 _ (dn d hd)]
        exact r4
  · intro d e0 hd he hde
    by_cases h1 : d = d1
    · rw [h1, P1] at hde
      by_cases h3 : e0 = d1
      · rw [h1, h3]
      · by_cases h4 : e0 = d2
        · rw [h4, P2] at hde
          exact absurd (q7 _ _ hd2 hd1 hde).symm hne
        · rw [P3 e0 h3 h4] at hde
          exact absurd (q7 _ _ hd2 he hde).symm h4
    · by_cases h2 : d = d2
      · rw [h2, P2] at hde
        by_cases h3 : e0 = d1
        · rw [h3, P1] at hde
          exact absurd (q7 _ _ hd1 hd2 hde) hne
        · by_cases h4 : e0 = d2
          · rw [h2, h4]
          · rw [P3 e0 h3 h4] at hde
            exact absurd (q7 _ _ hd1 he hde).symm h3
      · rw [P3 d h1 h2] at hde
        by_cases h3 : e0 = d1
        · rw [h3, P1] at hde
          exact absurd (q7 _ _ hd hd2 hde) h2
        · by_cases h4 : e0 = d2
          · rw [h4, P2] at hde
            exact absurd (q7 _ _ hd hd1 hde) h1
          · rw [P3 e0 h3 h4] at hde
            exact q7 _ _ hd he hde
  · funext b i j
    rw [← hM]
    unfold qsw
    have g : ∀ b, b ≠ d1 → b ≠ d2 → qM (Psw P d1 d2) (zm_up (zm_up S.1 o (.inl (ci, fs.set k1 (.ref (P d2))))) o (.inl (ci, (fs.set k1 (.ref (P d2))).set k2 (.ref (P d1)))), S.2) b i j = qM P S b i j := by
      intro b h1 h2
      unfold qM
      cases hb : qt b with
      | some p =>
        obtain ⟨x0, n, w⟩ := p
        show (if 0 ≤ i ∧ i < n then rdv (zm_up (zm_up S.1 o (.inl (ci, fs.set k1 (.ref (P d2))))) o (.inl (ci, (fs.set k1 (.ref (P d2))).set k2 (.ref (P d1)))) (x0 + i.toNat)) j else 0) = (if 0 ≤ i ∧ i < n then rdv (S.1 (x0 + i.toNat)) j else 0)
        by_cases hi : 0 ≤ i ∧ i < n
        · rw [if_pos hi, if_pos hi, c1]
          intro q
          have r2 := qown_of hb (show i.toNat < n by omega)
          rw [q, p4] at r2
          exact r2.2 r2.1.symm
        · rw [if_neg hi, if_neg hi]
      | none =>
        show (if qown b = 0 ∧ b < 2333 ∧ j = 0 then rdv (zm_up (zm_up S.1 o (.inl (ci, fs.set k1 (.ref (P d2))))) o (.inl (ci, (fs.set k1 (.ref (P d2))).set k2 (.ref (P d1)))) (Psw P d1 d2 b)) i else 0) = (if qown b = 0 ∧ b < 2333 ∧ j = 0 then rdv (S.1 (P b)) i else 0)
        rw [P3 b h1 h2]
        by_cases hbo : b = o
        · rw [hbo, sh_P hS p3, c2, rdv_ref v3, rdv_ref v1, e]
        · rw [c1 _ (pl_ne hS ho hbo)]
    have g1 : ∀ d dd, qD d = true → qD dd = true → Psw P d1 d2 d = P dd → qM (Psw P d1 d2) (zm_up (zm_up S.1 o (.inl (ci, fs.set k1 (.ref (P d2))))) o (.inl (ci, (fs.set k1 (.ref (P d2))).set k2 (.ref (P d1)))), S.2) d i j = qM P S dd i j := by
      intro d dd hd hdd hp
      obtain ⟨a1, a2, a3, a4⟩ := qD_own hd
      obtain ⟨b1, b2, b3, b4⟩ := qD_own hdd
      unfold qM
      rw [a2, b2]
      show (if qown d = 0 ∧ d < 2333 ∧ j = 0 then rdv (zm_up (zm_up S.1 o (.inl (ci, fs.set k1 (.ref (P d2))))) o (.inl (ci, (fs.set k1 (.ref (P d2))).set k2 (.ref (P d1)))) (Psw P d1 d2 d)) i else 0) = (if qown dd = 0 ∧ dd < 2333 ∧ j = 0 then rdv (S.1 (P dd)) i else 0)
      rw [hp, c1 _ (dn dd hdd)]
      by_cases hj : j = 0
      · rw [if_pos ⟨a1, a4, hj⟩, if_pos ⟨b1, b4, hj⟩]
      · rw [if_neg (fun q => hj q.2.2), if_neg (fun q => hj q.2.2)]
    by_cases h1 : b = d1
    · rw [if_pos h1, h1]
      exact g1 d1 d2 hd1 hd2 P1
    · rw [if_neg h1]
      by_cases h2 : b = d2
      · rw [if_pos h2, h2]
        exact g1 d2 d1 hd2 hd1 P2
      · rw [if_neg h2]
        exact g b h1 h2
theorem TS_51 {d1 d2 : Nat} (h : (d1 = 57 ∧ d2 = 56) ∨ (d1 = 59 ∧ d2 = 58)) : ∀ a, a ≠ 51 → TS (Psw P d1 d2) a = TS P a := by
  intro a ha
  unfold TS
  rw [if_neg ha, if_neg ha]
  rcases h with ⟨rfl, rfl⟩ | ⟨rfl, rfl⟩ <;> rfl
theorem TS_2157 {d1 d2 : Nat} (h : (d1 = 2169 ∧ d2 = 2166) ∨ (d1 = 2170 ∧ d2 = 2167) ∨ (d1 = 2171 ∧ d2 = 2168) ∨ (d1 = 2173 ∧ d2 = 2172)) : ∀ a, a ≠ 2157 → TS (Psw P d1 d2) a = TS P a := by
  intro a ha
  unfold TS
  by_cases h1 : a = 51
  · rw [if_pos h1, if_pos h1]
    rcases h with ⟨rfl, rfl⟩ | ⟨rfl, rfl⟩ | ⟨rfl, rfl⟩ | ⟨rfl, rfl⟩ <;> rfl
  · rw [if_neg h1, if_neg h1]
    by_cases h2 : a = 824
    · rw [if_pos h2, if_pos h2]
      rcases h with ⟨rfl, rfl⟩ | ⟨rfl, rfl⟩ | ⟨rfl, rfl⟩ | ⟨rfl, rfl⟩ <;> rfl
    · rw [if_neg h2, if_neg h2, if_neg ha, if_neg ha]
end SWAP
/-! ===== a new array: its pointer is written into the object 824 ===== -/
section NEWA
variable {L : Nat} {xs : Nat → Int32} {P : Nat → Nat} {S : zm_S} {M : qm} {d k t m kk : Nat} {ks : List (Nat ⊕ Nat)} {β δ : Type} {T : Option β → δ → Prop} {y : Option δ}
def Pnw (P : Nat → Nat) (d p : Nat) : Nat → Nat := fun c => if c = d then p else P c
theorem TS_824 {p : Nat} (h : d = 825 ∨ d = 826 ∨ d = 827) : ∀ a, a ≠ 824 → TS (Pnw P d p) a = TS P a := by
  intro a ha
  unfold TS
  by_cases h1 : a = 51
  · rw [if_pos h1, if_pos h1]
    rcases h with rfl | rfl | rfl <;> rfl
  · rw [if_neg h1, if_neg h1, if_neg ha, if_neg ha]
    by_cases h2 : a = 2157
    · rw [if_pos h2, if_pos h2]
      rcases h with rfl | rfl | rfl <;> rfl
    · rw [if_neg h2, if_neg h2]
theorem new_of (hS : Sh L xs P S) (hM : qM P S = M) (hd : d = 825 ∨ d = 826 ∨ d = 827) {c : zm_C} (hc : sc c = .inr (t, m, .inl kk)) (htk : (d = 827 → t = 1 ∧ kk = 1) ∧ (¬ d = 827 → t = 0 ∧ kk = 0)) (hT : TS P 824 = .inl (0, ks)) (hk : ks[k]? = some (.inr (P d))) (hT2 : TS (Pnw P d S.2) 824 = .inl (0, ks.set k (.inr S.2))) : ∃ S', zp (zm_up S.1 S.2 c, S.2 + 1) 824 0 k (.ref S.2) = some S' ∧ Sh L xs (Pnw P d S.2) S' ∧ qM (Pnw P d S.2) S' = fun b i j => if b = d then (if j = 0 then rdv c i else 0) else M b i j := by
  have ho : pl 824 = true := rfl
  obtain ⟨p1, p2, p3, p4, p5⟩ := pl_of ho
  have hd2 : qD d = true := by rcases hd with rfl | rfl | rfl <;> rfl
  obtain ⟨fs, e, hm⟩ := sc_o ((sh_c hS p1 p2).trans hT)
  have v1 := fs_ref hm hk
  have l1 : k < fs.length := (List.getElem?_eq_some_iff.mp v1).1
  obtain ⟨q1, q2, q3, q4, q5, q6, q7⟩ := id hS
  have s1 : (824 : Nat) ≠ S.2 := by omega
  have e1 : zp (zm_up S.1 S.2 c, S.2 + 1) 824 0 k (.ref S.2) = some (zm_up (zm_up S.1 S.2 c) 824 (.inl (0, fs.set k (.ref S.2))), S.2 + 1) := by
    unfold zp
    rw [if_pos ⟨by decide, by show 824 < S.2 + 1; omega⟩]
    show (match zm_up S.1 S.2 c 824 with
      | .inl q => if q.1 = 0 ∧ k < q.2.length then some (zm_up (zm_up S.1 S.2 c) 824 (.inl (0, q.2.set k (.ref S.2))), S.2 + 1) else none
      | .inr _ => none) = _
    rw [zm_up_n s1, e]
    exact if_pos ⟨rfl, l1⟩
  have c1 : ∀ b, b ≠ 824 → b ≠ S.2 → zm_up (zm_up S.1 S.2 c) 824 (.inl (0, fs.set k (.ref S.2))) b = S.1 b := fun b h1 h2 => by
    rw [zm_up_n h1, zm_up_n h2]
  have c2 : zm_up (zm_up S.1 S.2 c) 824 (.inl (0, fs.set k (.ref S.2))) 824 = .inl (0, fs.set k (.ref S.2)) := zm_up_s
  have c3 : zm_up (zm_up S.1 S.2 c) 824 (.inl (0, fs.set k (.ref S.2))) S.2 = c := by
    rw [zm_up_n s1.symm, zm_up_s]
  have P1 : Pnw P d S.2 d = S.2 := if_pos rfl
  have P3 : ∀ b, b ≠ d → Pnw P d S.2 b = P b := fun b h => if_neg h
  have dn : ∀ b, qD b = true → P b ≠ 824 := fun b hb => pl_ne hS ho (fun q => by
    rw [q, p3] at hb
    cases hb)
  refine ⟨_, e1, ⟨by show 2333 ≤ S.2 + 1; omega, ?_, ?_, ?_, ?_, ?_, ?_⟩, ?_⟩
  · exact (c1 0 (by decide) (by omega)).trans q2
  · exact fun b h1 h2 => (c1 b (by omega) (by omega)).trans (q3 b h1 h2)
  · intro b h1 h2
    by_cases hb : b = 824
    · subst hb
      show sc (zm_up (zm_up S.1 S.2 c) 824 (.inl (0, fs.set k (.ref S.2))) 824) = _
      rw [c2, hT2]
      show Sum.inl (0, (fs.set k (.ref S.2)).map kd) = _
      rw [List.map_set, hm]
      rfl
    · exact (congrArg sc (c1 b hb (by omega))).trans ((q4 b h1 h2).trans (TS_824 hd b hb).symm)
  · intro b hb
    rw [P3 b (fun q => by rw [q, hd2] at hb; cases hb)]
    exact q5 b hb
  · intro b hb
    by_cases h1 : b = d
    · subst h1
      rw [P1]
      refine ⟨by omega, by show S.2 < S.2 + 1; omega, Or.inr q1, ?_⟩
      show (if b = 825 ∨ b = 826 then ∃ n, sc (zm_up (zm_up S.1 S.2 c) 824 (.inl (0, fs.set k (.ref S.2))) S.2) = .inr (0, n, .inl 0) else if b = 827 then ∃ n, sc (zm_up (zm_up S.1 S.2 c) 824 (.inl (0, fs.set k (.ref S.2))) S.2) = .inr (1, n, .inl 1) else sc (zm_up (zm_up S.1 S.2 c) 824 (.inl (0, fs.set k (.ref S.2))) S.2) = sc (QF0 b))
      rw [c3, hc]
      rcases hd with h | h | h
      · rw [if_pos (Or.inl h)]
        obtain ⟨r1, r2⟩ := htk.2 (by omega)
        rw [r1, r2]
        exact ⟨m, rfl⟩
      · rw [if_pos (Or.inr h)]
        obtain ⟨r1, r2⟩ := htk.2 (by omega)
        rw [r1, r2]
        exact ⟨m, rfl⟩
      · rw [if_neg (by omega), if_pos h]
        obtain ⟨r1, r2⟩ := htk.1 h
        rw [r1, r2]
        exact ⟨m, rfl⟩
    · obtain ⟨r1, r2, r3, r4⟩ := q6 b hb
      rw [P3 b h1]
      refine ⟨r1, Nat.lt_succ_of_lt r2, r3, ?_⟩
      show (if b = 825 ∨ b = 826 then ∃ n, sc (zm_up (zm_up S.1 S.2 c) 824 (.inl (0, fs.set k (.ref S.2))) (P b)) = .inr (0, n, .inl 0) else if b = 827 then ∃ n, sc (zm_up (zm_up S.1 S.2 c) 824 (.inl (0, fs.set k (.ref S.2))) (P b)) = .inr (1, n, .inl 1) else sc (zm_up (zm_up S.1 S.2 c) 824 (.inl (0, fs.set k (.ref S.2))) (P b)) = sc (QF0 b))
      rw [c1 _ (dn b hb) (by omega)]
      exact r4
  · intro b e0 hb he hbe
    by_cases h1 : b = d
    · by_cases h2 : e0 = d
      · rw [h1, h2]
      · rw [h1, P1, P3 e0 h2] at hbe
        have := (q6 e0 he).2.1
        omega
    · by_cases h2 : e0 = d
      · rw [h2, P1, P3 b h1] at hbe
        have := (q6 b hb).2.1
        omega
      · rw [P3 b h1, P3 e0 h2] at hbe
        exact q7 b e0 hb he hbe
  · funext b i j
    rw [← hM]
    by_cases h1 : b = d
    · rw [if_pos h1, h1]
      obtain ⟨a1, a2, a3, a4⟩ := qD_own hd2
      unfold qM
      rw [a2]
      show (if qown d = 0 ∧ d < 2333 ∧ j = 0 then rdv (zm_up (zm_up S.1 S.2 c) 824 (.inl (0, fs.set k (.ref S.2))) (Pnw P d S.2 d)) i else 0) = _
      rw [P1, c3]
      by_cases hj : j = 0
      · rw [if_pos ⟨a1, a4, hj⟩, if_pos hj]
      · rw [if_neg (fun q => hj q.2.2), if_neg hj]
    · rw [if_neg h1]
      unfold qM
      cases hb : qt b with
      | some p =>
        obtain ⟨x0, n, w⟩ := p
        show (if 0 ≤ i ∧ i < n then rdv (zm_up (zm_up S.1 S.2 c) 824 (.inl (0, fs.set k (.ref S.2))) (x0 + i.toNat)) j else 0) = (if 0 ≤ i ∧ i < n then rdv (S.1 (x0 + i.toNat)) j else 0)
        by_cases hi : 0 ≤ i ∧ i < n
        · have r2 := qown_of hb (show i.toNat < n by omega)
          have r3 := qown_lt (a := x0 + i.toNat) (by rw [r2.1]; exact r2.2)
          rw [if_pos hi, if_pos hi, c1]
          · intro q
            rw [q, p4] at r2
            exact r2.2 r2.1.symm
          · omega
        · rw [if_neg hi, if_neg hi]
      | none =>
        show (if qown b = 0 ∧ b < 2333 ∧ j = 0 then rdv (zm_up (zm_up S.1 S.2 c) 824 (.inl (0, fs.set k (.ref S.2))) (Pnw P d S.2 b)) i else 0) = (if qown b = 0 ∧ b < 2333 ∧ j = 0 then rdv (S.1 (P b)) i else 0)
        rw [P3 b h1]
        by_cases hb2 : qown b = 0 ∧ b < 2333 ∧ j = 0
        · rw [if_pos hb2, if_pos hb2]
          have hlt : P b < S.2 := by
            cases hD : qD b with
            | false =>
              rw [sh_P hS hD]
              omega
            | true => exact (q6 b hD).2.1
          by_cases hbo : b = 824
          · rw [hbo, sh_P hS p3, c2, rdv_ref v1, e]
          · rw [c1 _ (pl_ne hS ho hbo) (by omega)]
        · rw [if_neg hb2, if_neg hb2]
theorem rdv_0i {n : Nat} {i : Int} : rdv (.inr (0, n, .inl (fun _ => 0))) i = if i = -1 then (n : Int) else 0 := by
  show (if 0 ≤ i ∧ i < n then (0 : Int32).toInt else if i = -1 then (n : Int) else 0) = _
  by_cases h : 0 ≤ i ∧ i < n
  · rw [if_pos h, if_neg (by omega)]
    decide
  · rw [if_neg h]
theorem rdv_0l {n : Nat} {i : Int} : rdv (.inr (1, n, .inr (.inl (fun _ => 0)))) i = if i = -1 then (n : Int) else 0 := by
  show (if 0 ≤ i ∧ i < n then (0 : Int64).toInt else if i = -1 then (n : Int) else 0) = _
  by_cases h : 0 ≤ i ∧ i < n
  · rw [if_pos h, if_neg (by omega)]
    decide
  · rw [if_neg h]
/-- a new array of ints (fields 4, 5 of 824), of longs (field 6) -/
theorem qs_ni (hS : Sh L xs P S) (hM : qM P S = M) (hd : (d = 825 ∧ k = 4) ∨ (d = 826 ∧ k = 5)) {v : Int32} {x : Int} {bd : Nat} (hv : v.toInt = x) (hg : 0 ≤ x ∧ x ≤ (bd : Int)) {f : zm_S → Option β} {Y : qm → Option δ} (h : ∀ P' S' M', Sh L xs P' S' → qM P' S' = M' → qs (f S') (Y M') T) : qs ((zn_i S v bd).bind (fun S3 => (zp S3 824 0 k (.ref S.2)).bind f)) (qbnd (qnew M d x) Y) T := by
  obtain ⟨r1, r2⟩ := nn_of hv hg.1
  have e1 : zn_i S v bd = some (zm_up S.1 S.2 (.inr (0, x.toNat, .inl (fun _ => 0))), S.2 + 1) := by
    unfold zn_i
    rw [if_pos ⟨r1, by rw [r2]; omega⟩, r2]
  rw [e1]
  show qs ((zp (zm_up S.1 S.2 (.inr (0, x.toNat, .inl (fun _ => 0))), S.2 + 1) 824 0 k (.ref S.2)).bind f) _ _
  have hq : ∃ ks, TS P 824 = .inl (0, ks) ∧ ks[k]? = some (.inr (P d)) ∧ TS (Pnw P d S.2) 824 = .inl (0, ks.set k (.inr S.2)) := by
    rcases hd with ⟨rfl, rfl⟩ | ⟨rfl, rfl⟩
    · exact ⟨_, ts_824, rfl, rfl⟩
    · exact ⟨_, ts_824, rfl, rfl⟩
  obtain ⟨ks, t1, t2, t3⟩ := hq
  obtain ⟨S', e2, hS2, hM2⟩ := new_of (c := .inr (0, x.toNat, .inl (fun _ => 0))) (t := 0) (m := x.toNat) (kk := 0) hS hM (by omega) rfl ⟨by omega, fun _ => ⟨rfl, rfl⟩⟩ t1 t2 t3
  rw [e2]
  refine h _ _ _ hS2 (hM2.trans ?_)
  funext b i j
  unfold qnew
  by_cases hb : b = d
  · rw [if_pos hb, if_pos hb, rdv_0i, Int.toNat_of_nonneg hg.1]
    by_cases hj : j = 0
    · rw [if_pos hj]
      by_cases hi : i = -1
      · rw [if_pos hi, if_pos ⟨hi, hj⟩]
      · rw [if_neg hi, if_neg (fun q => hi q.1)]
    · rw [if_neg hj, if_neg (fun q => hj q.2)]
  · rw [if_neg hb, if_neg hb]
theorem qs_nl (hS : Sh L xs P S) (hM : qM P S = M) {v : Int32} {x : Int} {bd : Nat} (hv : v.toInt = x) (hg : 0 ≤ x ∧ x ≤ (bd : Int)) {f : zm_S → Option β} {Y : qm → Option δ} (h : ∀ P' S' M', Sh L xs P' S' → qM P' S' = M' → qs (f S') (Y M') T) : qs ((zn_l S v bd).bind (fun S3 => (zp S3 824 0 6 (.ref S.2)).bind f)) (qbnd (qnew M 827 x) Y) T := by
  obtain ⟨r1, r2⟩ := nn_of hv hg.1
  have e1 : zn_l S v bd = some (zm_up S.1 S.2 (.inr (1, x.toNat, .inr (.inl (fun _ => 0)))), S.2 + 1) := by
    unfold zn_l
    rw [if_pos ⟨r1, by rw [r2]; omega⟩, r2]
  rw [e1]
  show qs ((zp (zm_up S.1 S.2 (.inr (1, x.toNat, .inr (.inl (fun _ => 0)))), S.2 + 1) 824 0 6 (.ref S.2)).bind f) _ _
  obtain ⟨S', e2, hS2, hM2⟩ := new_of (d := 827) (k := 6) (c := .inr (1, x.toNat, .inr (.inl (fun _ => 0)))) (t := 1) (m := x.toNat) (kk := 1) hS hM (by decide) rfl ⟨fun _ => ⟨rfl, rfl⟩, fun q => absurd rfl q⟩ ts_824 rfl rfl
  rw [e2]
  refine h _ _ _ hS2 (hM2.trans ?_)
  funext b i j
  unfold qnew
  by_cases hb : b = 827
  · rw [if_pos hb, if_pos hb, rdv_0l, Int.toNat_of_nonneg hg.1]
    by_cases hj : j = 0
    · rw [if_pos hj]
      by_cases hi : i = -1
      · rw [if_pos hi, if_pos ⟨hi, hj⟩]
      · rw [if_neg hi, if_neg (fun q => hi q.1)]
    · rw [if_neg hj, if_neg (fun q => hj q.2)]
  · rw [if_neg hb, if_neg hb]
end NEWA
