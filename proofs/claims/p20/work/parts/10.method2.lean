theorem zws_take {E : zEnv} (hEok : zEok E) {cy : Nat → ClassId} {L L' : Nat → Nat → Nat} {σ : zMem} {τ : zTmp} {n : Nat} (hn : n ≤ τ.length) (hL : zsame n L L') : ∃ w, zws E cy L' (σ, τ) = zws E cy L (σ, τ.take n) ++ w := by
  refine ⟨(τ.drop n).mapIdx (fun i t => (L' 99 (i + n), ztc cy L' t)), ?_⟩
  unfold zws
  rw [List.append_assoc]
  congr 1
  · apply List.map_congr_left
    intro w hw
    obtain ⟨h1, h2⟩ := zall_lt hw
    have e1 : L' w.1 w.2 = L w.1 w.2 := hL _ _ (Or.inl (by omega))
    rw [e1]
    congr 1
    unfold zcell
    split
    · rename_i o ho
      congr 2
      apply List.ext_getElem?
      intro j
      rw [List.getElem?_mapIdx, List.getElem?_mapIdx]
      cases hj : o.2[j]? with
      | none => rfl
      | some d =>
        cases d with
        | none => rfl
        | some d => simp only [Option.map_some, zsv]; rw [hL _ _ (Or.inl (hEok.1 _ _ _ _ _ h1 h2 ho hj))]
    · rfl
    · rename_i o ho
      have e2 : ∀ j, L' o.2.2 j = L o.2.2 j := fun j => hL _ _ (Or.inl (hEok.2 _ _ h1 ho))
      simp only [e2]
  · apply List.ext_getElem?
    intro j
    have hln : (τ.take n).length = n := by simp; omega
    by_cases hj : j < n
    · rw [List.getElem?_append_left (by simp; omega), List.getElem?_mapIdx, List.getElem?_mapIdx, List.getElem?_take_of_lt hj, hL _ _ (Or.inr hj)]
      cases τ[j]? with
      | none => rfl
      | some t => simp only [Option.map_some]; rw [ztc_L (fun i => hL 96 i (Or.inl (by decide)))]
    · rw [List.getElem?_append_right (by simp; omega), List.getElem?_mapIdx, List.getElem?_mapIdx, List.length_mapIdx, hln, List.getElem?_drop]
      rw [show n + (j - n) = j from by omega, show j - n + n = j from by omega]
theorem zW.take {E : zEnv} (hEok : zEok E) {D : va_G} {cy : Nat → ClassId} {A : Nat → Prop} {L L' : Nat → Nat → Nat} {σ : zMem} {τ : zTmp} {H : Heap} {n : Nat} (hn : n ≤ τ.length) (hL : zsame n L L') (h : zW E D cy A L' (σ, τ) H) : zW E D cy A L (σ, τ.take n) H := by
  obtain ⟨w, hw⟩ := zws_take (σ := σ) (cy := cy) hEok hn hL
  obtain ⟨hP, hD⟩ := h
  rw [hw] at hP hD
  have key : ∀ (k : Nat) (q : Nat × va_E), (zws E cy L (σ, τ.take n))[k]? = some q → (zws E cy L (σ, τ.take n) ++ w)[k]? = some q := fun k q hq => by
    rw [List.getElem?_append_left (List.getElem?_eq_some_iff.mp hq).1]; exact hq
  exact ⟨fun k q hq => hP k q (key k q hq), fun i j p q hi hj h => hD.1 i j p q (key i p hi) (key j q hj) h, fun k q hq => hD.2 k q (key k q hq)⟩
theorem vx_met {l : Launch} {y : MethodName} {ws : List Cond} {rm : Room} {Pc : Array Value → State → Prop} {Qc : Array Value → State → Outcome → State → Prop} {mc ms : Nat} {free : Addr → Prop} (h : vx_Met l y ws rm Pc Qc zNoX mc ms free) : Met l y ws rm Pc Qc mc ms free := by
  intro p e ha hc hk s m args below hf happ hP hK
  obtain ⟨n, o, h1, h2, h3, h4⟩ := h p e ha hc hk s m args below hf happ hP hK
  refine ⟨n, o, h1, h2, h3, ?_⟩
  rcases h4 with h4 | ⟨q, -, E, ce, L, hX, -⟩
  · exact h4
  · exact absurd hX (fun h => h)
theorem zx_ofW {l : Launch} {y : MethodName} {ws ws' : List Cond} {rm : Room} {Pc : Array Value → State → Prop} {Qc : Array Value → State → Outcome → State → Prop} {XC : String → State → State → Prop} {mc ms : Nat} {free : Addr → Prop} {cc : ByteArray} {maxL : Nat} {ret : Option FieldType}
    (hy : plainFor y = true) (hw : ws = Cond.code y cc maxL ret :: ws')
    (body : ∀ p e s m args below meth c s₁, BodyLoose p l y (headSpec ws rm) cc maxL ret e s m args below meth c s₁ → c.maxLocals = maxL → (∀ x ∈ c.exceptionTable.toList, False) → Pc args s →
      W p l e (headSpec ws rm).room s m args below meth c s.heap [] 0 0 (vx_MQ below Qc XC args s mc ms free) (entryFrame m args maxL)) : vx_Met l y ws rm Pc Qc XC mc ms free := by
  refine MetFree.of_bodySF (code := cc) (maxLocals := maxL) (ret := ret) hy ?_ ?_
  · intro args s m h hn
    obtain ⟨meth, c, h1, h2, h3, h4, h5, h6, -, -⟩ := Cond.code_spec hn (atoms_spec (ws := ws) h _ (by rw [hw]; exact List.mem_cons_self))
    exact ⟨meth, c, h1, h2, h3, h4, h5, h6⟩
  · intro p e s m args below meth c s₁ B hml hP _
    have hh0 : s₁.heap = s.heap := by rw [B.state]; rfl
    have ht : ∀ x ∈ c.exceptionTable.toList, False := by
      obtain ⟨meth9, c9, h1, h2, -, -, -, -, h7, -⟩ := Cond.code_spec B.named (atoms_spec (ws := ws) B.pre _ (by rw [hw]; exact List.mem_cons_self))
      cases Option.some.inj (h1.symm.trans B.method)
      cases Option.some.inj (h2.symm.trans (Stand.of_body B).code)
      intro x hx
      rw [Array.isEmpty_iff.mp h7] at hx
      cases hx
    obtain ⟨t, a1, o, b1, b2, b3⟩ := body p e s m args below meth c s₁ B hml ht hP s₁ hh0 (Stand.of_body B)
    exact ⟨t, o, a1, b1, b2, b3⟩
theorem zmeth_X {E : zEnv} (hEok : zEok E) {y : MethodName} {cc : ByteArray} {nL : Nat} {ws ws' : List Cond} {ret : Option FieldType} {R : Room} {code : Nat → Option zOp} (hcode : ∀ pc op, code pc = some op → zS E y.cls cc nL ws ret R pc op) (hy : plainFor y = true) (hw : ws = Cond.code y cc nL ret :: ws') : zMeetsX E y ws R (zmeth code nL) := by
  have hfin : ∀ (args : List zAV) (s : zAS) (o : zOut), zmeth code nL args s = some o → (zargsok args = true ∧ (zargs args).length ≤ nL) ∧ ∃ o', zev code (0, zargs args ++ List.replicate (nL - (zargs args).length) none, [], s, (0, 0)) = some o' ∧ s.2.length ≤ o'.2.2.length ∧ zrok o'.1 = true ∧ o = (o'.1, (o'.2.1, o'.2.2.take s.2.length)) := by
    intro args s o h
    unfold zmeth at h
    split at h
    · rename_i hq
      refine ⟨hq, ?_⟩
      unfold zfin at h
      split at h
      · rename_i o' ho'
        split at h
        · rename_i hq2
          cases h
          exact ⟨o', ho', hq2.1, hq2.2, rfl⟩
        · cases h
      · cases h
    · cases h
  refine ⟨fun args s o h => ?_, fun l D cy L av as o sz hfl h => ?_⟩
  · obtain ⟨-, o', -, h1, -, rfl⟩ := hfin args s o h
    simp; omega
  · obtain ⟨⟨hok, hlen⟩, o', hev, hn, hro, rfl⟩ := hfin av as o h
    obtain ⟨n, hrun⟩ := zev_iff.mp hev
    have hnd : ∀ v ∈ av, ∀ x, v ≠ .inl (.double x) := by
      intro v hv x hx
      have := List.all_eq_true.mp hok v hv
      rw [hx] at this
      cases this
    refine zx_ofW (cc := cc) (maxL := nL) (ret := ret) hy hw ?_
    intro p e s m args below meth c s₁ B hml hxt hv
    obtain ⟨rfl, hsz, hP, hK, hD0, hst⟩ := hv
    subst hsz
    have hD := hD0.self (sz := s.heap.size)
    have hl := lv_entry (av.map (zc L)) (n := nL) (by rw [zargs_len av hnd]; exact hlen)
    rw [lg_entry_eq]
    generalize (lg_sl (av.map (zc L)) ++ List.replicate (nL - (lg_sl (av.map (zc L))).length) Slot.unset).toArray = lsC at hl ⊢
    refine zrun_sound hcode n 0 _ [] as (0, 0) o' hrun L s.heap [] lsC ⟨B.exec, B.bytes, hml, findClass_of_methodNamed B.named, atoms_spec (ws := ws) B.pre, hK, fun q hq => Or.inr hq, B.notSynchronized, B.returns, hxt, hst, hfl⟩ ⟨hP, hD⟩ va_S.rf ⟨hl.1, hl.2.1, by simp; omega, ?_⟩ ⟨Nat.zero_le _, Nat.zero_le _⟩ ?_
    · intro j v hv
      by_cases hj : j < (zargs av).length
      · rw [List.getElem?_append_left hj] at hv
        have h9 := zargs_lg (L := L) av 0 hnd j v hv
        rw [Nat.zero_add] at h9
        exact hl.2.2 _ h9
      · rw [List.getElem?_append_right (by omega)] at hv
        have h8 := List.mem_of_getElem? hv
        rw [List.mem_replicate] at h8
        cases h8.2
    · intro L' hLL H locs hW hS
      have hW' : zW E D cy (va_A (zws E cy L as) s.heap.size) L (o'.2.1, o'.2.2.take as.2.length) H := hW.take hEok hn hLL
      rcases hr : o'.1 with v | x
      · simp only [hr]
        intro t ht hWm
        refine ⟨?_, by rw [ht]; exact hW', hS.F ht⟩
        cases v with
        | none => rfl
        | some v =>
          rw [hr] at hro
          have h8 : zfr as.2.length v = true := by
            cases v with
            | inl w => rfl
            | inr q => simp [zrok, zfr] at hro ⊢; exact Or.inl hro
          simp only [Option.map_some]
          rw [zc_same hLL h8]
      · simp only [hr]
        intro t hal hsz hk
        refine ⟨rfl, ⟨hW'.1.kept (fun k q hq => hk _ ((hW'.1 k q hq).lt)), hW'.2⟩, Nat.le_trans hS.1 hsz, fun q hq hnq => ?_⟩
        rw [hk q (Nat.lt_of_lt_of_le hq hS.1)]
        exact hS.2.1 q hq hnq
theorem zmeth_M {E : zEnv} (hEok : zEok E) {y : MethodName} {cc : ByteArray} {nL : Nat} {ws ws' : List Cond} {ret : Option FieldType} {R : Room} {code : Nat → Option zOp} (hcode : ∀ pc op, code pc = some op → zS E y.cls cc nL ws ret R pc op) (hy : plainFor y = true) (hw : ws = Cond.code y cc nL ret :: ws') : zMeets E y ws R (zmeth code nL) := by
  obtain ⟨h1, h2⟩ := zmeth_X hEok hcode hy hw
  refine ⟨h1, fun l D cy L args s s' v sz hfl h => vx_met (h2 l D cy L args s (.inl v, s') sz hfl h)⟩
