/-! ===== THE SMALL MACHINE: a new table of rows ===== -/
theorem zm_mn_out (cA : ClassId) (N h0 : Nat) : ∀ i : Nat, Jvm.Free.Multi.outerC cA N h0 i = arrV cA N (fun j => va_rf (if j < i then some (h0 + 1 + j) else none))
  | 0 => by
    show ({ cls := cA, slots := Array.replicate N .null, vm := .none } : Cell) = _
    rw [arrV_new]
    refine congrArg (arrV cA N) (funext fun j => ?_)
    simp [va_rf]
  | i + 1 => by
    show (Jvm.Free.Multi.outerC cA N h0 i).setSlot i (.ref (h0 + 1 + i)) = _
    rw [zm_mn_out cA N h0 i, arrV_store]
    refine congrArg (arrV cA N) (funext fun j => ?_)
    by_cases e : j = i
    · subst e
      simp [updV, va_rf]
    · by_cases h : j < i
      · simp [updV, e, h, Nat.lt_succ_of_lt h]
      · simp [updV, e, h, show ¬ j < i + 1 by omega]
section ZT
variable {p : Program} {l : Launch} {e : Env} {R : Room} {s : State} {m : MethodId} {args : Array Value} {below : List Frame} {meth : Method} {c : Code} {Q : State → Prop}
variable {own nm : String} {cc : ByteArray} {nL : Nat} {E : zm_E} {V : zm_V} {mc ms : Nat}
variable {pc rc rs : Nat} {lv : List (Nat × Value)} {st : List Value} {S : zm_S}
theorem zw_mna (hX : zm_X p R s m args meth c own nm cc nL E V mc ms) {index t1 t2 N K : Nat} {n k : Int32} {z : zm_Z} {ty : FieldType} (ht1 : E.2.1[t1]? = some (.array ty)) (ht2 : E.2.1[t2]? = some ty) (hw1 : Cond.classLink own index ("[" ++ (FieldType.array ty).toString) ∈ E.2.2.1) (hw2 : ty = .int ∨ ty = .long) (hw3 : Cond.arrayClass ty ∈ E.2.2.1)
    (hd : decode cc pc = .ok (.multianewarray index 2, 4)) (hz : ∀ io k, zm_zv io z k = defaultValue ty) (hn : ¬ n < 0) (hk : ¬ k < 0) (hN : n.toNatClampNeg = N) (hK : k.toNatClampNeg = K) (hb1 : N * 4 ≤ 536870912) (hb2 : K * componentBytes ty ≤ 536870912) (hb3 : K ≤ 536870912) (hdf : fits ty (defaultValue ty) = true) (hdd : (defaultValue ty).isDefault = true) (hra : ∀ C : String, ty ≠ .object C)
    (hrc : 1 + N ≤ rc) (hrs : N + N * K ≤ rs)
    (kk : zw p l e R s m args below meth c Q nL E V mc ms (pc + 4) lv (.ref S.2 :: st) (zm_mn S t1 t2 N K z, S.2 + 1 + N) (rc - (1 + N)) (rs - (N + N * K))) : zw p l e R s m args below meth c Q nL E V mc ms pc lv (.int k :: .int n :: st) S rc rs := by
  intro ls H locs cells slots hR hl hS e1 e2
  obtain ⟨hx, hb, -, hown, hts, -, -, hG, hmc, hms⟩ := hX
  subst hN
  subst hK
  have hov : (Cond.arrayOver (.array ty)).before args s = true := by
    rcases hw2 with rfl | rfl
    · exact over_moved (Vm.Alike.refl _) hG.2.2.2.2.2.2.2.2.2.1
    · exact over_moved (Vm.Alike.refl _) hG.2.2.2.2.2.2.2.2.2.2
  intro T hT Xs
  obtain ⟨vm₁, cA, comp, -, fA, fC, hO, -, X', step⟩ := Xs.multianewarray2F hx hown (hts _ hw1) hov (hts _ hw3) (g := F0 m pc ls (.int k :: .int n :: st.map (zm_v (zm_io E V)))) rfl (by rw [hb]; exact hd) rfl hn hk hb1 hb2 hb3 hdf hdd (by omega) (by omega)
  have ec : V.2.1 t2 = comp := Option.some.inj ((zm_ra hra (hG.1.2 t2 _ (zm_tys_at ht2)).2).symm.trans fC)
  have ea : V.2.1 t1 = cA := Option.some.inj ((zm_ra (ty := .array ty) (fun C h => by cases h) (hG.1.2 t1 _ (zm_tys_at ht1)).2).symm.trans fA)
  generalize hF : Jvm.Free.Multi.fill (T.setVm vm₁) cA comp n.toNatClampNeg k.toNatClampNeg (defaultValue ty) n.toNatClampNeg = F at X' step
  have hTh : (T.setVm vm₁).heap = H := hT
  obtain ⟨f1, f2, -, -⟩ := Jvm.Free.Multi.fill_facts (T.setVm vm₁) cA comp n.toNatClampNeg k.toNatClampNeg (defaultValue ty) n.toNatClampNeg
  rw [hF, hTh] at f1 f2
  have hold : ∀ x : Nat, x < H.size → F.heap[x]? = H[x]? := fun x hx => by
    have := Jvm.Free.Multi.fill_old (T.setVm vm₁) cA comp n.toNatClampNeg k.toNatClampNeg (defaultValue ty) (a := x) (by rw [hTh]; exact hx) n.toNatClampNeg
    rw [hF, hTh] at this
    exact this
  have hrow : ∀ j : Nat, j < n.toNatClampNeg → F.heap[H.size + 1 + j]? = some (arrV comp k.toNatClampNeg (fun _ => defaultValue ty)) := fun j hj => by
    have := Jvm.Free.Multi.fill_inner (T.setVm vm₁) cA comp n.toNatClampNeg k.toNatClampNeg (defaultValue ty) n.toNatClampNeg j hj
    rw [hF, hTh] at this
    rw [this]
    exact congrArg some (arrV_new _ _ _)
  rw [zm_mn_out] at f2
  obtain ⟨h1, h2, h3, h4, h5⟩ := id hR
  have h8 : zm_R E V (zm_mn S t1 t2 n.toNatClampNeg k.toNatClampNeg z, S.2 + 1 + n.toNatClampNeg) F.heap := by
    refine ⟨by show _ ≤ S.2 + 1 + _; omega, by show F.heap.size = V.2.2.2.1 + (S.2 + 1 + n.toNatClampNeg - E.2.2.2.2.2.2); omega, h3, fun j hj => ?_, fun j hj0 hj => ?_⟩
    · show zm_mn S t1 t2 _ _ z j = _
      unfold zm_mn
      rw [if_neg (by omega), if_neg (by omega)]
      exact h4 j hj
    · show zm_at E V (zm_io E V) j (zm_mn S t1 t2 n.toNatClampNeg k.toNatClampNeg z j) F.heap
      have hj : j < S.2 + 1 + n.toNatClampNeg := hj
      unfold zm_mn
      by_cases q1 : j = S.2
      · rw [if_pos q1, q1]
        show F.heap[zm_io E V S.2]? = some (zm_cell _ _ _ _)
        rw [zm_here hR, f2, zm_cell_v, ea]
        congr 2
        funext i
        show _ = va_rf (Option.map _ (if i < _ then some (S.2 + 1 + i) else none))
        by_cases q2 : i < n.toNatClampNeg
        · rw [if_pos q2, if_pos q2]
          show Value.ref (H.size + 1 + i) = Value.ref (zm_io E V (S.2 + 1 + i))
          have q5 : zm_io E V (S.2 + 1 + i) = H.size + 1 + i := by
            rw [zm_io, zm_i_new (by omega), h2]
            omega
          rw [q5]
        · rw [if_neg q2, if_neg q2]
          rfl
      · by_cases q2 : S.2 < j ∧ j < S.2 + 1 + n.toNatClampNeg
        · rw [if_neg q1, if_pos q2]
          show F.heap[zm_io E V j]? = some (zm_cell _ _ _ _)
          have q3 : zm_io E V j = H.size + 1 + (j - (S.2 + 1)) := by
            rw [zm_io, zm_i_new hj0, h2]
            omega
          rw [q3, hrow _ (by omega), zm_cell_v, ec]
          congr 2
          funext i
          exact (hz _ i).symm
        · rw [if_neg q1, if_neg q2]
          have q3 : j < S.2 := by omega
          exact (h5 j hj0 q3).kept (hold _ (zm_at.lt hR q3))
  obtain ⟨t, a1, b1⟩ := kk ls F.heap locs (cells + 1 + n.toNatClampNeg) (slots + n.toNatClampNeg + n.toNatClampNeg * k.toNatClampNeg) h8 hl ⟨Nat.le_trans hS.1 (by omega), fun x g1 g2 => (hold x (Nat.lt_of_lt_of_le g1 hS.1)).trans (hS.2.1 x g1 g2), hS.2.2⟩ (by omega) (by omega) F rfl X'
  have h9 : (Value.ref S.2 :: st).map (zm_v (zm_io E V)) = Value.ref T.heap.size :: st.map (zm_v (zm_io E V)) := by
    show Value.ref (zm_io E V S.2) :: _ = _
    rw [zm_here hR, hT]
  rw [h9] at a1
  exact ⟨t, step t a1, b1⟩
end ZT

