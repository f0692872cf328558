/-! ===== rows made, copies, and the contract of a whole method ===== -/
theorem zA_I {cy : Nat → ClassId} {D : va_G} {s : State} (hK : va_K D vwCl (ztys cy) s) {cA : ClassId} (h : va_K D vwCl (ztys cy ++ [(cA, .int)]) s) : cA = cy 0 := by
  have h1 : s.vm.findClass ("[" ++ FieldType.int.toString) = some (cy 0) := (hK.2 0 _ rfl).2
  have h2 : s.vm.findClass ("[" ++ FieldType.int.toString) = some cA := (h.2 4 _ rfl).2
  exact Option.some.inj (h2.symm.trans h1)
theorem zws_push {E : zEnv} {cy : Nat → ClassId} {L L' : Nat → Nat → Nat} {s : zAS} {q n : Nat} {f : Nat → Int32} (hE : ∀ (k i : Nat) (o : Nat × zSD) (j : Nat) (d : Nat × Nat), k < 20 → i < (E k).1 → (E k).2 = .inl o → o.2[j]? = some (some d) → d.1 ≠ 99) (hE2 : ∀ (k : Nat) (o : Nat × Nat × Nat), k < 20 → (E k).2 = .inr (.inr o) → o.2.2 ≠ 99)
    (hL : zsame s.2.length L L') (hq : L' 99 s.2.length = q) : zws E cy L' (s.1, s.2 ++ [(n, f)]) = zws E cy L s ++ [(q, ztc cy L (n, f))] := by
  unfold zws
  rw [List.append_assoc]
  congr 1
  · apply List.map_congr_left
    intro w hw
    obtain ⟨h1, h2⟩ := zall_lt hw
    have e1 : L' w.1 w.2 = L w.1 w.2 := hL _ _ (Or.inl (by omega))
    rw [e1]
    congr 1
    unfold zcell
    split
    · rename_i o ho
      congr 2
      apply List.ext_getElem?
      intro j
      rw [List.getElem?_mapIdx, List.getElem?_mapIdx]
      cases hj : o.2[j]? with
      | none => rfl
      | some d =>
        cases d with
        | none => rfl
        | some d => simp only [Option.map_some, zsv]; rw [hL _ _ (Or.inl (hE _ _ _ _ _ h1 h2 ho hj))]
    · rfl
    · rename_i o ho
      have e2 : ∀ j, L' o.2.2 j = L o.2.2 j := fun j => hL _ _ (Or.inl (hE2 _ _ h1 ho))
      simp only [e2]
  · simp only [List.mapIdx_append, List.mapIdx_cons, List.mapIdx_nil, Nat.zero_add]
    congr 1
    · apply List.ext_getElem?
      intro j
      rw [List.getElem?_mapIdx, List.getElem?_mapIdx]
      cases hj : s.2[j]? with
      | none => rfl
      | some t => simp only [Option.map_some]; rw [hL _ _ (Or.inr (List.getElem?_eq_some_iff.mp hj).1), ztc_L (fun i => hL 96 i (Or.inl (by decide)))]
    · rw [hq, ztc_L (fun i => hL 96 i (Or.inl (by decide)))]
/-- an environment whose slots lie in it -/
def zEok (E : zEnv) : Prop := (∀ (k i : Nat) (o : Nat × zSD) (j : Nat) (d : Nat × Nat), k < 20 → i < (E k).1 → (E k).2 = .inl o → o.2[j]? = some (some d) → d.1 ≠ 99) ∧ (∀ (k : Nat) (o : Nat × Nat × Nat), k < 20 → (E k).2 = .inr (.inr o) → o.2.2 ≠ 99)
theorem zc_same {L L' : Nat → Nat → Nat} {n : Nat} (hL : zsame n L L') {v : zAV} (h : zfr n v = true) : zc L' v = zc L v := by
  cases v with
  | inl v => rfl
  | inr o =>
    simp only [zfr, Bool.or_eq_true, Bool.not_eq_true', beq_eq_false_iff_ne, decide_eq_true_eq] at h
    exact congrArg Value.ref (hL o.1 o.2 h)
theorem zs_newa {E : zEnv} (hEok : zEok E) {own : String} {cc : ByteArray} {nL : Nat} {Ts : List Cond} {ret : Option FieldType} {R : Room} {pc : Nat} (hw : Cond.arrayClass .int ∈ Ts) (hdg : decode cc pc = .ok (.newarray .int, 2)) : zS E own cc nL Ts ret R pc (z_newa R.cells R.slots (pc + 2)) := by
  intro p l e s m args below meth c D cy A L Qc XC ls st as kk H locs lsC hC hW hS hl hkk
  obtain ⟨hx, hb, hml, hown, hts, hK, hA, hlocks, hr, hxt, hst, hfl⟩ := hC
  refine ⟨fun c' h => ?_, fun o h => ?_⟩
  · unfold z_newa at h
    split at h
    · rename_i x st'
      split at h
      · cases h
      · rename_i hx0
        split at h
        · rename_i hq
          obtain ⟨hx1, hmc, hms, hf1, hf2⟩ := hq
          cases h
          refine ⟨by simp, ⟨hmc, hms⟩, fun K => ?_⟩
          refine va_newa (D := D) (atype := .int) (ty := .int) (N' := x.toNatClampNeg) (a0 := (x.toNatClampNeg, .inl (fun _ => 0))) hx hb (hts _ hw) rfl hK hW.1 hW.2 hS hA (fun _ => rfl) hx0 rfl (by simp only [componentBytes]; omega) hmc hms hdg (fun q cA H1 hK1 hP1 hD1 hS1 => ?_)
          have hcA : cA = cy 0 := zA_I hK hK1
          subst hcA
          have hLL : zsame as.2.length L (fun k i => if k = 99 ∧ i = as.2.length then q else L k i) := by
            intro k i hki
            have : ¬ (k = 99 ∧ i = as.2.length) := by omega
            simp only [if_neg this]
          have hz := zws_push (E := E) (cy := cy) (s := as) (n := x.toNatClampNeg) (f := fun _ => 0) (q := q) hEok.1 hEok.2 hLL (by simp)
          rw [ztc_i (show x.toNatClampNeg < 1000 by omega)] at hz
          have K9 := K _ H1 locs lsC hLL ⟨by simp only []; rw [hz]; exact hP1, by simp only []; rw [hz]; exact hD1⟩ hS1 ⟨hl.1, hl.2.1, hl.2.2.1, fun j v hv => by
            rw [hl.2.2.2 j v hv]
            have : zfr' as.2.length (some v) = true := List.all_eq_true.mp hf2 _ (List.mem_of_getElem? hv)
            rw [zc_same hLL this]⟩
          have hst9 : st'.map (zc (fun k i => if k = 99 ∧ i = as.2.length then q else L k i)) = st'.map (zc L) := List.map_congr_left fun v hv => zc_same hLL (List.all_eq_true.mp hf1 _ hv)
          simp only [List.map_cons] at K9
          rw [hst9] at K9
          simpa [zc] using K9
        · cases h
    · cases h
  · unfold z_newa at h
    repeat' (split at h)
    all_goals cases h
theorem zargs_lg {L : Nat → Nat → Nat} : ∀ (args : List zAV) (n0 : Nat), (∀ v ∈ args, ∀ x, v ≠ .inl (.double x)) → ∀ (j : Nat) (v : zAV), (zargs args)[j]? = some (some v) → (n0 + j, zc L v) ∈ lv_args n0 (args.map (zc L)) := by
  intro args
  induction args with
  | nil => intro n0 _ j v h; simp [zargs] at h
  | cons a t ih =>
    intro n0 hd j v h
    have ht : ∀ v ∈ t, ∀ x, v ≠ .inl (.double x) := fun v hv => hd v (List.mem_cons_of_mem _ hv)
    by_cases ha : ∃ x, a = .inl (.long x)
    · obtain ⟨x, rfl⟩ := ha
      simp only [zargs] at h
      rcases j with _ | _ | j
      · simp only [List.getElem?_cons_zero, Option.some.injEq] at h
        subst h
        exact List.mem_cons_self
      · simp at h
      · simp only [List.getElem?_cons_succ] at h
        have := ih (n0 + 2) ht j v h
        rw [show n0 + 2 + j = n0 + (j + 1 + 1) from by omega] at this
        exact List.mem_cons_of_mem _ this
    · have hz : zargs (a :: t) = some a :: zargs t := by
        cases a with
        | inl w => cases w <;> first | rfl | exact absurd ⟨_, rfl⟩ ha
        | inr o => rfl
      have hcat : ¬ (zc L a).category = 2 := by
        cases a with
        | inl w =>
          cases w with
          | long x => exact absurd ⟨x, rfl⟩ ha
          | double x => exact absurd rfl (hd _ List.mem_cons_self x)
          | _ => simp [zc, Value.category]
        | inr o => simp [zc, Value.category]
      rw [hz] at h
      rcases j with _ | j
      · simp only [List.getElem?_cons_zero, Option.some.injEq] at h
        subst h
        exact List.mem_cons_self
      · simp only [List.getElem?_cons_succ] at h
        have := ih (n0 + 1) ht j v h
        rw [show n0 + 1 + j = n0 + (j + 1) from by omega] at this
        simp only [List.map_cons, lv_args, if_neg hcat]
        exact List.mem_cons_of_mem _ this
theorem zargs_len {L : Nat → Nat → Nat} : ∀ (args : List zAV), (∀ v ∈ args, ∀ x, v ≠ .inl (.double x)) → (lg_sl (args.map (zc L))).length = (zargs args).length := by
  intro args
  induction args with
  | nil => intro _; rfl
  | cons a t ih =>
    intro hd
    have ih := ih (fun v hv => hd v (List.mem_cons_of_mem _ hv))
    unfold lg_sl at ih ⊢
    simp only [List.map_cons, List.flatMap_cons, List.length_append, ih]
    cases a with
    | inl w =>
      cases w with
      | double x => exact absurd rfl (hd _ List.mem_cons_self x)
      | _ => simp [zc, Value.category, zargs] <;> omega
    | inr o => simp [zc, Value.category, zargs] <;> omega
