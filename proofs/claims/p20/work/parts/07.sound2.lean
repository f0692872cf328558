/-! ===== memory ===== -/
theorem zcell_obj {E : zEnv} {cy : Nat → ClassId} {L : Nat → Nat → Nat} {σ : zMem} {k i : Nat} {o : Nat × zSD} (h : (E k).2 = .inl o) : zcell E cy L σ k i = .inr (o.1, o.2.mapIdx (fun j d => zsv L σ k i j d)) := by unfold zcell; rw [h]
theorem zcell_row {E : zEnv} {cy : Nat → ClassId} {L : Nat → Nat → Nat} {σ : zMem} {k i n : Nat} (h : (E k).2 = .inr (.inl n)) : zcell E cy L σ k i = .inl (cy 0, n, .inl (σ k i)) := by unfold zcell; rw [h]
theorem zcell_ref {E : zEnv} {cy : Nat → ClassId} {L : Nat → Nat → Nat} {σ : zMem} {k i : Nat} {q : Nat × Nat × Nat} (h : (E k).2 = .inr (.inr q)) : zcell E cy L σ k i = .inl (cy q.2.1, q.1, .inr (.inr (.inr (.inr (fun j => some (L q.2.2 j)))))) := by unfold zcell; rw [h]
theorem zget_slot {L : Nat → Nat → Nat} {σ : zMem} {k i j : Nat} {sd : zSD} {d : Option (Nat × Nat)} (h : sd[j]? = some d) : (sd.mapIdx (fun j d => zsv L σ k i j d))[j]? = some (zsv L σ k i j d) := by
  rw [List.getElem?_mapIdx, h]; rfl
theorem zset_slot {L : Nat → Nat → Nat} {σ : zMem} {k i j : Nat} {sd : zSD} {x : Int32} (h : sd[j]? = some none) : (sd.mapIdx (fun j d => zsv L σ k i j d)).set j (.int x) = sd.mapIdx (fun q d => zsv L (zup σ k i j x) k i q d) := by
  apply List.ext_getElem?
  intro q
  by_cases hq : q = j
  · subst hq
    rw [List.getElem?_set_self (by simpa using (List.getElem?_eq_some_iff.mp h).1), List.getElem?_mapIdx, h]
    simp [zsv, zup]
  · rw [List.getElem?_set_ne (Ne.symm hq), List.getElem?_mapIdx, List.getElem?_mapIdx]
    cases sd[q]? with
    | none => rfl
    | some d =>
      cases d with
      | none => simp [zsv, zup, hq]
      | some o => rfl
theorem zs_get {E : zEnv} {own : String} {cc : ByteArray} {nL : Nat} {Ts : List Cond} {ret : Option FieldType} {R : Room} {pc : Nat} {ci j N index : Nat} {C : String} {T : u_T} (hc : vwCl[ci]? = some (C, T, N)) (hj : j < N) (hin : ∀ w ∈ u_ws C T N, w ∈ Ts) (hw : Cond.fieldLink own index (T j).1 (T j).2.1 (T j).2.2.1 ∈ Ts) (hdg : decode cc pc = .ok (.getfield index, 3)) : zS E own cc nL Ts ret R pc (z_get E ci j (pc + 3)) := by
  intro p l e s m args below meth c D cy A L Qc XC ls st as kk H locs lsC hC hW hS hl hkk
  obtain ⟨hx, hb, hml, hown, hts, hK, hA, hlocks, hr, hxt, hst, hfl⟩ := hC
  refine ⟨fun c' h => ?_, fun o h => ?_⟩
  · unfold z_get at h
    split at h
    · split at h
      · rename_i k i st' hki
        split at h
        · rename_i ci' sd hE
          split at h
          · rename_i hci
            subst hci
            obtain ⟨q, -, hq⟩ := zws_get cy L as hki.1 hki.2
            rw [zcell_obj hE] at hq
            split at h
            · rename_i hd
              cases h
              refine ⟨Nat.le_refl _, hkk, fun K => ?_⟩
              refine va_get (D := D) hx hb hts hin hown hK hW.1 q hq hc j hj (hts _ hw) (fun _ h9 => h9) (zget_slot hd) hdg ?_
              exact K L _ locs lsC zsame.rfl' hW hS hl
            · rename_i k' i' hd
              cases h
              refine ⟨Nat.le_refl _, hkk, fun K => ?_⟩
              refine va_get (D := D) hx hb hts hin hown hK hW.1 q hq hc j hj (hts _ hw) (fun _ h9 => h9) (zget_slot hd) hdg ?_
              exact K L _ locs lsC zsame.rfl' hW hS hl
            · cases h
          · cases h
        · cases h
      · cases h
    · cases h
  · unfold z_get at h
    repeat' (split at h)
    all_goals cases h

theorem zs_put {E : zEnv} {own : String} {cc : ByteArray} {nL : Nat} {Ts : List Cond} {ret : Option FieldType} {R : Room} {pc : Nat} {ci j N index : Nat} {C : String} {T : u_T} {b : Bool} (ty : FieldType) (ty0 : Nat → FieldType) (hc : vwCl[ci]? = some (C, T, N)) (hj : j < N) (hin : ∀ w ∈ u_ws C T N, w ∈ Ts) (hty : ∀ k, k < N → parseFieldDescriptor (T k).2.2.1 = some (ty0 k)) (hnm : ∀ a, a < N → ∀ b, b < N → a ≠ b → (T a).2.1 ≠ (T b).2.1)
    (hw : Cond.fieldLink own index (T j).1 (T j).2.1 (T j).2.2.1 ∈ Ts) (hfin : (T j).2.2.2 = false) (hd : parseFieldDescriptor (T j).2.2.1 = some ty) (hn : ∀ x : Int32, (b = true → x = 0 ∨ x = 1) → narrow ty (.int x) = .int x ∧ fits ty (.int x) = true) (hdg : decode cc pc = .ok (.putfield index, 3)) : zS E own cc nL Ts ret R pc (z_put E ci j b (pc + 3)) := by
  intro p l e s m args below meth c D cy A L Qc XC ls st as kk H locs lsC hC hW hS hl hkk
  obtain ⟨hx, hb, hml, hown, hts, hK, hA, hlocks, hr, hxt, hst, hfl⟩ := hC
  refine ⟨fun c' h => ?_, fun o h => ?_⟩
  · unfold z_put at h
    split at h
    · split at h
      · rename_i x k i st' hki
        split at h
        · rename_i ci' sd hE
          split at h
          · rename_i hci
            subst hci
            obtain ⟨q, hqa, hq⟩ := zws_get cy L as hki.2.1 hki.2.2
            have hq0 := hq
            rw [zcell_obj hE] at hq
            split at h
            · rename_i hsd
              cases h
              refine ⟨Nat.le_refl _, hkk, fun K => ?_⟩
              obtain ⟨hn1, hn2⟩ := hn x hki.1
              refine va_put (D := D) hx hb hts hin ty0 hty hnm hown hK hW.1 hW.2 hS q hq hc j hj (hts _ hw) (fun _ h9 => h9) hfin hd hn1 hn2 (by simpa using (List.getElem?_eq_some_iff.mp hsd).1) hdg (fun H1 locs1 hP1 hD1 hS1 => ?_)
              have hz : zws E cy L (zup as.1 k i j x, as.2) = (zws E cy L as).set q (L k i, .inr (ci', (sd.mapIdx (fun j d => zsv L as.1 k i j d)).set j (.int x))) := by
                rw [← zws_set (σ := as.1) (σ' := zup as.1 k i j x) (τ := as.2) hW.2 hqa zcell_up, zcell_obj hE]
                simp only []
                rw [← zset_slot hsd]
              refine K L H1 locs1 lsC zsame.rfl' ⟨?_, ?_⟩ hS1 hl
              · rw [hz]; exact hP1
              · rw [hz]; exact hD1
            · cases h
          · cases h
        · cases h
      · cases h
    · cases h
  · unfold z_put at h
    repeat' (split at h)
    all_goals cases h

theorem zset_app {α : Type} (a b : List α) (i : Nat) (x : α) : (a ++ b).set (a.length + i) x = a ++ b.set i x := by
  rw [List.set_append, if_neg (by omega)]
  simp
theorem zvin {j : Int32} {n : Nat} (h1 : ¬ j < 0) (h2 : j.toNatClampNeg < n) : vp_in j n := fun h => h.elim h1 (fun h => absurd h2 (by omega))
theorem zty0 {cy : Nat → ClassId} : (ztys cy)[0]? = some (cy 0, .int) := rfl
theorem zs_iald {E : zEnv} {own : String} {cc : ByteArray} {nL : Nat} {Ts : List Cond} {ret : Option FieldType} {R : Room} {pc : Nat} (hdg : decode cc pc = .ok (.iaload, 1)) : zS E own cc nL Ts ret R pc (z_iald E (pc + 1)) := by
  intro p l e s m args below meth c D cy A L Qc XC ls st as kk H locs lsC hC hW hS hl hkk
  obtain ⟨hx, hb, hml, hown, hts, hK, hA, hlocks, hr, hxt, hst, hfl⟩ := hC
  refine ⟨fun c' h => ?_, fun o h => ?_⟩
  · unfold z_iald at h
    split at h
    · rename_i j k i st'
      split at h
      · cases h
      · rename_i hj0
        split at h
        · rename_i hk
          subst hk
          split at h
          · rename_i t ht
            split at h
            · rename_i hjn
              cases h
              refine ⟨Nat.le_refl _, hkk, fun K => ?_⟩
              have hz9 := zws_tmp (E := E) cy L as ht
              rw [ztc_i hjn.2] at hz9
              refine va_iald (D := D) hx hb hK hW.1 _ 0 hz9 zty0 (zvin hj0 hjn.1) hdg ?_
              exact K L _ locs lsC zsame.rfl' hW hS hl
            · cases h
          · cases h
        split at h
        · rename_i hk
          subst hk
          split at h
          · rename_i hi
            obtain ⟨he, rfl, hi⟩ := hi
            cases h
            refine ⟨Nat.le_refl _, hkk, fun K => ?_⟩
            obtain ⟨q1, q2, q3, -⟩ := hst.2.2 he
            refine va_sld hx hb q1 q2 q3 hS (zvin hj0 hi) hdg ?_
            exact K L _ locs lsC zsame.rfl' hW hS hl
          · cases h
        · split at h
          · rename_i hk
            subst hk
            split at h
            · rename_i hi
              cases h
              refine ⟨Nat.le_refl _, hkk, fun K => ?_⟩
              refine va_ti hx hb (hst.2.1 i hi.1) hS (zvin hj0 hi.2) rfl hdg ?_
              exact K L _ locs lsC zsame.rfl' hW hS hl
            · cases h
          · split at h
            · rename_i hki
              split at h
              · rename_i n hE
                split at h
                · rename_i hjn
                  cases h
                  refine ⟨Nat.le_refl _, hkk, fun K => ?_⟩
                  obtain ⟨q, -, hq⟩ := zws_get cy L as hki.1 hki.2
                  rw [zcell_row hE] at hq
                  refine va_iald (D := D) hx hb hK hW.1 q 0 hq zty0 (zvin hj0 hjn) hdg ?_
                  exact K L _ locs lsC zsame.rfl' hW hS hl
                · cases h
              · cases h
            · cases h
    · cases h
  · unfold z_iald at h
    repeat' (split at h)
    all_goals cases h

theorem zs_iast {E : zEnv} {own : String} {cc : ByteArray} {nL : Nat} {Ts : List Cond} {ret : Option FieldType} {R : Room} {pc : Nat} (hdg : decode cc pc = .ok (.iastore, 1)) : zS E own cc nL Ts ret R pc (z_iast E (pc + 1)) := by
  intro p l e s m args below meth c D cy A L Qc XC ls st as kk H locs lsC hC hW hS hl hkk
  obtain ⟨hx, hb, hml, hown, hts, hK, hA, hlocks, hr, hxt, hst, hfl⟩ := hC
  refine ⟨fun c' h => ?_, fun o h => ?_⟩
  · unfold z_iast at h
    split at h
    · rename_i x j k i st'
      split at h
      · cases h
      · rename_i hj0
        split at h
        · rename_i hk
          subst hk
          split at h
          · rename_i t ht
            split at h
            · rename_i hjn
              cases h
              refine ⟨by simp, hkk, fun K => ?_⟩
              have hz9 := zws_tmp (E := E) cy L as ht
              rw [ztc_i hjn.2] at hz9
              refine va_iast (D := D) hx hb hK hW.1 hW.2 hS _ 0 hz9 zty0 (zvin hj0 hjn.1) hdg (fun H1 locs1 hP1 hD1 hS1 => ?_)
              have hz : zws E cy L (as.1, as.2.set i (t.1, upd t.2 j.toNatClampNeg x)) = (zws E cy L as).set ((zall E).length + i) (L 99 i, .inl (cy 0, t.1, .inl (upd t.2 j.toNatClampNeg x))) := by
                unfold zws
                have h9 := zset_app ((zall E).map (fun q => (L q.1 q.2, zcell E cy L as.1 q.1 q.2))) (as.2.mapIdx (fun i t => ((L 99 i, ztc cy L t) : Nat × va_E))) i (L 99 i, .inl (cy 0, t.1, .inl (upd t.2 j.toNatClampNeg x)))
                rw [List.length_map] at h9
                rw [h9]
                congr 1
                apply List.ext_getElem?
                intro q
                by_cases hq : q = i
                · subst hq
                  have hl9 := (List.getElem?_eq_some_iff.mp ht).1
                  rw [List.getElem?_set_self (by simpa using hl9), List.getElem?_mapIdx, List.getElem?_set_self hl9]
                  exact congrArg (fun w => some (L 99 q, w)) (ztc_i (t := (t.1, upd t.2 j.toNatClampNeg x)) hjn.2)
                · rw [List.getElem?_set_ne (Ne.symm hq), List.getElem?_mapIdx, List.getElem?_mapIdx, List.getElem?_set_ne (Ne.symm hq)]
              refine K L H1 locs1 lsC zsame.rfl' ⟨?_, ?_⟩ hS1 hl
              · rw [hz]; exact hP1
              · rw [hz]; exact hD1
            · cases h
          · cases h
        · split at h
          · rename_i hki
            split at h
            · rename_i n hE
              split at h
              · rename_i hjn
                cases h
                refine ⟨Nat.le_refl _, hkk, fun K => ?_⟩
                obtain ⟨q, hqa, hq⟩ := zws_get cy L as hki.1 hki.2
                rw [zcell_row hE] at hq
                refine va_iast (D := D) hx hb hK hW.1 hW.2 hS q 0 hq zty0 (zvin hj0 hjn) hdg (fun H1 locs1 hP1 hD1 hS1 => ?_)
                have hz : zws E cy L (zup as.1 k i j.toNatClampNeg x, as.2) = (zws E cy L as).set q (L k i, .inl (cy 0, n, .inl (upd (as.1 k i) j.toNatClampNeg x))) := by
                  rw [← zws_set (σ := as.1) (σ' := zup as.1 k i j.toNatClampNeg x) (τ := as.2) hW.2 hqa zcell_up, zcell_row hE]
                  have hf : (zup as.1 k i j.toNatClampNeg x) k i = upd (as.1 k i) j.toNatClampNeg x := by
                    funext q; simp [zup, upd]
                  rw [hf]
                refine K L H1 locs1 lsC zsame.rfl' ⟨?_, ?_⟩ hS1 hl
                · rw [hz]; exact hP1
                · rw [hz]; exact hD1
              · cases h
            · cases h
          · cases h
    · cases h
  · unfold z_iast at h
    repeat' (split at h)
    all_goals cases h

theorem zs_aald {E : zEnv} {own : String} {cc : ByteArray} {nL : Nat} {Ts : List Cond} {ret : Option FieldType} {R : Room} {pc : Nat} {t : Nat} {C : String} (ht : t < 3) (hC9 : ∀ cy : Nat → ClassId, (ztys cy)[t]? = some (cy t, .object C)) (hdg : decode cc pc = .ok (.aaload, 1)) : zS E own cc nL Ts ret R pc (z_aald E t (pc + 1)) := by
  intro p l e s m args below meth c D cy A L Qc XC ls st as kk H locs lsC hC hW hS hl hkk
  obtain ⟨hx, hb, hml, hown, hts, hK, hA, hlocks, hr, hxt, hst, hfl⟩ := hC
  refine ⟨fun c' h => ?_, fun o h => ?_⟩
  · unfold z_aald at h
    split at h
    · rename_i j k i st'
      split at h
      · cases h
      · rename_i hj0
        split at h
        · rename_i hki
          split at h
          · rename_i n t' k' hE
            split at h
            · rename_i hjn
              obtain ⟨hjn, rfl⟩ := hjn
              cases h
              refine ⟨Nat.le_refl _, hkk, fun K => ?_⟩
              obtain ⟨q, -, hq⟩ := zws_get cy L as hki.1 hki.2
              rw [zcell_ref hE] at hq
              refine va_aldq (D := D) hx hb hK hW.1 q _ hq (hC9 cy) (zvin hj0 hjn) hdg ?_
              exact K L _ locs lsC zsame.rfl' hW hS hl
            · cases h
          · cases h
        · cases h
    · cases h
  · unfold z_aald at h
    repeat' (split at h)
    all_goals cases h
theorem zty_of {cy : Nat → ClassId} {t : Nat} (ht : t < 3) : ∃ ty, (ztys cy)[t]? = some (cy t, ty) := by
  rcases t with _ | _ | _ | t
  · exact ⟨_, rfl⟩
  · exact ⟨_, rfl⟩
  · exact ⟨_, rfl⟩
  · omega
theorem zs_alen {E : zEnv} {own : String} {cc : ByteArray} {nL : Nat} {Ts : List Cond} {ret : Option FieldType} {R : Room} {pc : Nat} (hdg : decode cc pc = .ok (.arraylength, 1)) : zS E own cc nL Ts ret R pc (z_alen E (pc + 1)) := by
  intro p l e s m args below meth c D cy A L Qc XC ls st as kk H locs lsC hC hW hS hl hkk
  obtain ⟨hx, hb, hml, hown, hts, hK, hA, hlocks, hr, hxt, hst, hfl⟩ := hC
  refine ⟨fun c' h => ?_, fun o h => ?_⟩
  · unfold z_alen at h
    split at h
    · rename_i k i st'
      split at h
      · rename_i hk
        subst hk
        split at h
        · rename_i t ht
          split at h
          · rename_i hn9
            cases h
            refine ⟨Nat.le_refl _, hkk, fun K => ?_⟩
            have hz9 := zws_tmp (E := E) cy L as ht
            rw [ztc_i hn9] at hz9
            refine va_alen (D := D) hx hb hK hW.1 _ 0 hz9 zty0 rfl hdg ?_
            exact K L _ locs lsC zsame.rfl' hW hS hl
          · cases h
        · cases h
      split at h
      · rename_i hk
        subst hk
        split at h
        · rename_i hi
          obtain ⟨he, rfl⟩ := hi
          cases h
          refine ⟨Nat.le_refl _, hkk, fun K => ?_⟩
          obtain ⟨q1, q2, q3, -⟩ := hst.2.2 he
          refine va_slen hx hb q1 q2 q3 hS hdg ?_
          exact K L _ locs lsC zsame.rfl' hW hS hl
        · cases h
      · split at h
        · rename_i hk
          subst hk
          split at h
          · rename_i hi
            cases h
            refine ⟨Nat.le_refl _, hkk, fun K => ?_⟩
            refine va_tlen hx hb (hst.2.1 i hi) hS rfl hdg ?_
            exact K L _ locs lsC zsame.rfl' hW hS hl
          · cases h
        · split at h
          · rename_i hki
            obtain ⟨q, -, hq⟩ := zws_get cy L as hki.1 hki.2
            split at h
            · rename_i n hE
              cases h
              refine ⟨Nat.le_refl _, hkk, fun K => ?_⟩
              rw [zcell_row hE] at hq
              refine va_alen (D := D) hx hb hK hW.1 q 0 hq zty0 rfl hdg ?_
              exact K L _ locs lsC zsame.rfl' hW hS hl
            · rename_i n t k' hE
              split at h
              · rename_i ht
                cases h
                refine ⟨Nat.le_refl _, hkk, fun K => ?_⟩
                rw [zcell_ref hE] at hq
                obtain ⟨ty, hty⟩ := zty_of (cy := cy) ht
                refine va_alen (D := D) hx hb hK hW.1 q t hq hty rfl hdg ?_
                exact K L _ locs lsC zsame.rfl' hW hS hl
              · cases h
            · cases h
          · cases h
    · cases h
  · unfold z_alen at h
    repeat' (split at h)
    all_goals cases h
theorem zs_sget {E : zEnv} {own : String} {cc : ByteArray} {nL : Nat} {Ts : List Cond} {ret : Option FieldType} {R : Room} {pc : Nat} {index t : Nat} {C n : String} (hq : (C, n, t) ∈ zStat) (hw : Cond.fieldLink own index C n "[I" ∈ Ts) (hdg : decode cc pc = .ok (.getstatic index, 3)) : zS E own cc nL Ts ret R pc (z_sget t (pc + 3)) := by
  intro p l e s m args below meth c D cy A L Qc XC ls st as kk H locs lsC hC hW hS hl hkk
  obtain ⟨hx, hb, hml, hown, hts, hK, hA, hlocks, hr, hxt, hst, hfl⟩ := hC
  refine ⟨fun c' h => ?_, fun o h => ?_⟩
  · unfold z_sget at h
    cases h
    refine ⟨Nat.le_refl _, hkk, fun K => ?_⟩
    refine va_gets hx hb (hst.1 _ hq) hS hown (hts _ hw) (fun _ h9 => h9) hdg ?_
    exact K L _ locs lsC zsame.rfl' hW hS hl
  · unfold z_sget at h
    cases h
theorem zs_nn {E : zEnv} {own : String} {cc : ByteArray} {nL : Nat} {Ts : List Cond} {ret : Option FieldType} {R : Room} {pc : Nat} {off : Int} {tgt : Nat} (hdg : decode cc pc = .ok (.ifnonnull off, 3)) (ht : (pc : Int) + off = (tgt : Int)) : zS E own cc nL Ts ret R pc (z_nn tgt) := by
  intro p l e s m args below meth c D cy A L Qc XC ls st as kk H locs lsC hC hW hS hl hkk
  obtain ⟨hx, hb, hml, hown, hts, hK, hA, hlocks, hr, hxt, hst, hfl⟩ := hC
  refine ⟨fun c' h => ?_, fun o h => ?_⟩
  · unfold z_nn at h
    split at h
    · cases h
      refine ⟨Nat.le_refl _, hkk, fun K => ?_⟩
      refine lv_ifnonnull (tgt := tgt) hx hb hdg ht ?_
      exact K L _ locs lsC zsame.rfl' hW hS hl
    · cases h
  · unfold z_nn at h
    split at h <;> cases h

theorem zs_reti {E : zEnv} {own : String} {cc : ByteArray} {nL : Nat} {Ts : List Cond} {ret : Option FieldType} {R : Room} {pc : Nat} {bb : Bool} {ty : FieldType} (hret : ret = some ty) (hn : ∀ x : Int32, (bb = true → x = 0 ∨ x = 1) → narrow ty (.int x) = .int x) (hdg : decode cc pc = .ok (.ireturn, 1)) : zS E own cc nL Ts ret R pc (z_reti bb) := by
  intro p l e s m args below meth c D cy A L Qc XC ls st as kk H locs lsC hC hW hS hl hkk
  obtain ⟨hx, hb, hml, hown, hts, hK, hA, hlocks, hr, hxt, hst, hfl⟩ := hC
  refine ⟨fun c' h => ?_, fun o h => ?_⟩
  · unfold z_reti at h
    repeat' (split at h)
    all_goals cases h
  · unfold z_reti at h
    split at h
    · split at h
      · rename_i x hz
        cases h
        intro hE
        refine W.widen hkk.1 hkk.2 (vx_ret ?_)
        exact W.zret (v := x) (ty := ty) hx hb (by rw [hr, hret]) (hn x hz) (fun t ht hW9 => hE H locs hW hS t ht hW9) hS.2.2 hdg
      · cases h
    · cases h

theorem zs_retl {E : zEnv} {own : String} {cc : ByteArray} {nL : Nat} {Ts : List Cond} {ret : Option FieldType} {R : Room} {pc : Nat} (hret : ret = some .long) (hdg : decode cc pc = .ok (.lreturn, 1)) : zS E own cc nL Ts ret R pc (z_retl) := by
  intro p l e s m args below meth c D cy A L Qc XC ls st as kk H locs lsC hC hW hS hl hkk
  obtain ⟨hx, hb, hml, hown, hts, hK, hA, hlocks, hr, hxt, hst, hfl⟩ := hC
  refine ⟨fun c' h => ?_, fun o h => ?_⟩
  · unfold z_retl at h
    repeat' (split at h)
    all_goals cases h
  · unfold z_retl at h
    split at h
    · rename_i x
      cases h
      intro hE
      refine W.widen hkk.1 hkk.2 (vx_ret ?_)
      exact W.lret (v := x) hx hb (by rw [hr, hret]) (fun t ht hW9 => hE H locs hW hS t ht hW9) hS.2.2 hdg
    · cases h

theorem zs_retd {E : zEnv} {own : String} {cc : ByteArray} {nL : Nat} {Ts : List Cond} {ret : Option FieldType} {R : Room} {pc : Nat} (hret : ret = some .double) (hdg : decode cc pc = .ok (.dreturn, 1)) : zS E own cc nL Ts ret R pc (z_retd) := by
  intro p l e s m args below meth c D cy A L Qc XC ls st as kk H locs lsC hC hW hS hl hkk
  obtain ⟨hx, hb, hml, hown, hts, hK, hA, hlocks, hr, hxt, hst, hfl⟩ := hC
  refine ⟨fun c' h => ?_, fun o h => ?_⟩
  · unfold z_retd at h
    repeat' (split at h)
    all_goals cases h
  · unfold z_retd at h
    split at h
    · rename_i x
      cases h
      intro hE
      refine W.widen hkk.1 hkk.2 (vx_ret ?_)
      exact W.dret (v := x) hx hb (by rw [hr, hret]) (fun t ht hW9 => hE H locs hW hS t ht hW9) hS.2.2 hdg
    · cases h

theorem zs_retr {E : zEnv} {own : String} {cc : ByteArray} {nL : Nat} {Ts : List Cond} {ret : Option FieldType} {R : Room} {pc : Nat} {C : String} (hret : ret = some (.object C)) (hdg : decode cc pc = .ok (.areturn, 1)) : zS E own cc nL Ts ret R pc (z_retr) := by
  intro p l e s m args below meth c D cy A L Qc XC ls st as kk H locs lsC hC hW hS hl hkk
  obtain ⟨hx, hb, hml, hown, hts, hK, hA, hlocks, hr, hxt, hst, hfl⟩ := hC
  refine ⟨fun c' h => ?_, fun o h => ?_⟩
  · unfold z_retr at h
    repeat' (split at h)
    all_goals cases h
  · unfold z_retr at h
    split at h
    · rename_i k i
      split at h
      · cases h
      · cases h
        intro hE
        refine W.widen hkk.1 hkk.2 (vx_ret ?_)
        exact W.aret (v := .ref (L k i)) hx hb (by rw [hr, hret]) (Or.inl ⟨_, rfl⟩) (Or.inr ⟨_, rfl⟩) (fun t ht hW9 => hE H locs hW hS t ht hW9) hS.2.2 hdg
    · cases h

theorem zs_retv {E : zEnv} {own : String} {cc : ByteArray} {nL : Nat} {Ts : List Cond} {ret : Option FieldType} {R : Room} {pc : Nat} (hret : ret = none) (hdg : decode cc pc = .ok (.return_, 1)) : zS E own cc nL Ts ret R pc (z_retv) := by
  intro p l e s m args below meth c D cy A L Qc XC ls st as kk H locs lsC hC hW hS hl hkk
  obtain ⟨hx, hb, hml, hown, hts, hK, hA, hlocks, hr, hxt, hst, hfl⟩ := hC
  refine ⟨fun c' h => ?_, fun o h => ?_⟩
  · unfold z_retv at h
    repeat' (split at h)
    all_goals cases h
  · unfold z_retv at h
    split at h
    · cases h
      intro hE
      refine W.widen hkk.1 hkk.2 (vx_ret ?_)
      exact W.vret hx hb (by rw [hr, hret]) (fun t ht hW9 => hE H locs hW hS t ht hW9) hS.2.2 hdg
    · cases h

theorem zs_tsw {E : zEnv} {own : String} {cc : ByteArray} {nL : Nat} {Ts : List Cond} {ret : Option FieldType} {R : Room} {pc : Nat} {dflt lo hi : Int} {offs : Array Int} {len d : Nat} {tg : List Nat} (hdg : decode cc pc = .ok (.tableswitch dflt lo hi offs, len)) (hd : (pc : Int) + dflt = (d : Int)) (ho : offs.toList.map (fun o => (pc : Int) + o) = tg.map (fun t : Nat => (t : Int))) : zS E own cc nL Ts ret R pc (z_tsw lo hi tg d) := by
  intro p l e s m args below meth c D cy A L Qc XC ls st as kk H locs lsC hC hW hS hl hkk
  obtain ⟨hx, hb, hml, hown, hts, hK, hA, hlocks, hr, hxt, hst, hfl⟩ := hC
  refine ⟨fun c' h => ?_, fun o h => ?_⟩
  · unfold z_tsw at h
    split at h
    · rename_i x st'
      split at h
      · rename_i hx9
        cases h
        refine ⟨Nat.le_refl _, hkk, fun K => ?_⟩
        refine lv_tableOut (tgt := d) hx hb hdg hx9 hd ?_
        exact K L _ locs lsC zsame.rfl' hW hS hl
      · rename_i hx9
        split at h
        · rename_i t ht
          cases h
          refine ⟨Nat.le_refl _, hkk, fun K => ?_⟩
          have h1 : (offs.toList.map (fun o => (pc : Int) + o))[(x.toInt - lo).toNat]? = some (t : Int) := by rw [ho, List.getElem?_map, ht]; rfl
          rw [List.getElem?_map] at h1
          cases h2 : offs.toList[(x.toInt - lo).toNat]? with
          | none => rw [h2] at h1; cases h1
          | some off =>
            rw [h2] at h1
            refine lv_tableIn (tgt := t) hx hb hdg (fun q => hx9 (Or.inl q)) (fun q => hx9 (Or.inr q)) (by rw [← Array.getElem?_toList]; exact h2) (Option.some.inj h1) ?_
            exact K L _ locs lsC zsame.rfl' hW hS hl
        · cases h
    · cases h
  · unfold z_tsw at h
    repeat' (split at h)
    all_goals cases h

theorem zs_lsw2 {E : zEnv} {own : String} {cc : ByteArray} {nL : Nat} {Ts : List Cond} {ret : Option FieldType} {R : Room} {pc : Nat} {dflt o0 o1 : Int} {len t0 t1 d : Nat} (hdg : decode cc pc = .ok (.lookupswitch dflt #[(0, o0), (1, o1)], len)) (h0 : (pc : Int) + o0 = (t0 : Int)) (h1 : (pc : Int) + o1 = (t1 : Int)) (hd : (pc : Int) + dflt = (d : Int)) : zS E own cc nL Ts ret R pc (z_lsw2 t0 t1 d) := by
  intro p l e s m args below meth c D cy A L Qc XC ls st as kk H locs lsC hC hW hS hl hkk
  obtain ⟨hx, hb, hml, hown, hts, hK, hA, hlocks, hr, hxt, hst, hfl⟩ := hC
  refine ⟨fun c' h => ?_, fun o h => ?_⟩
  · unfold z_lsw2 at h
    split at h
    · rename_i x st'
      cases h
      refine ⟨Nat.le_refl _, hkk, fun K => ?_⟩
      have K' := K L _ locs lsC zsame.rfl' hW hS hl
      by_cases e0 : x = 0
      · subst e0
        refine lv_lookup (tgt := t0) (off := o0) hx hb hdg rfl (by rw [Op.lookupswitch.offset_cons, if_pos (by rfl)]) h0 ?_
        simpa using K'
      · by_cases e1 : x = 1
        · subst e1
          refine lv_lookup (tgt := t1) (off := o1) hx hb hdg rfl (by rw [Op.lookupswitch.offset_cons, if_neg (by decide), Op.lookupswitch.offset_cons, if_pos (by rfl)]) h1 ?_
          simpa using K'
        · refine lv_lookup (tgt := d) (off := dflt) hx hb hdg rfl (by
            have g0 : ¬ (0 : Int) = x.toInt := fun h9 => e0 (Int32.toInt_inj.mp (by rw [← h9]; rfl))
            have g1 : ¬ (1 : Int) = x.toInt := fun h9 => e1 (Int32.toInt_inj.mp (by rw [← h9]; rfl))
            show Op.lookupswitch.offset [(0, o0), (1, o1)] dflt x.toInt = dflt
            rw [Op.lookupswitch.offset_cons, if_neg g0, Op.lookupswitch.offset_cons, if_neg g1, Op.lookupswitch.offset_nil]) hd ?_
          simpa [e0, e1] using K'
    · cases h
  · unfold z_lsw2 at h
    split at h <;> cases h
