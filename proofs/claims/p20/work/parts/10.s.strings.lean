/-! ===== more steps: texts, the script's own, longs and doubles ===== -/
theorem zs_sldc {E : zEnv} {cc : ByteArray} {nL : Nat} {Ts : List Cond} {ret : Option FieldType} {R : Room} {pc is i : Nat} {tx : String} (hs : (is, tx, i) ∈ zLtx) (hdg : decode cc pc = .ok (.ldc is, 2)) : zS E "PrimePlaneLaw" cc nL Ts ret R pc (z_sldc E i (pc + 2)) := by
  intro p l e s m args below meth c D cy A L Qc XC ls st as kk H locs lsC hC hW hS hl hkk
  obtain ⟨hx, hb, hml, hown, hts, hK, hA, hlocks, hr, hxt, hst, hfl⟩ := hC
  refine ⟨fun c' h => ?_, fun o h => ?_⟩
  · unfold z_sldc at h
    split at h
    · rename_i he
      cases h
      obtain ⟨-, -, -, -, -, q6, -, -⟩ := hst.2.2 he
      refine ⟨Nat.le_refl _, hkk, fun K => ?_⟩
      refine va_ldcS hx hb hown (q6 _ hs) hdg ?_
      exact K L _ locs lsC zsame.rfl' hW hS hl
    · cases h
  · unfold z_sldc at h
    split at h <;> cases h
theorem zA_S {cy : Nat → ClassId} {D : va_G} {s : State} (hK : va_K D vwCl (ztys cy) s) {cA : ClassId} (h : va_K D vwCl (ztys cy ++ [(cA, .object "java/lang/String")]) s) : cA = cy 3 := by
  obtain ⟨_, _, _, _, _, h1⟩ := (hK.2 3 _ rfl).2
  obtain ⟨_, _, _, _, _, h2⟩ := (h.2 4 _ rfl).2
  exact Option.some.inj (h2.symm.trans h1)
theorem zs_anewa {E : zEnv} (hEok : zEok E) {own : String} {cc : ByteArray} {nL : Nat} {Ts : List Cond} {ret : Option FieldType} {R : Room} {pc index : Nat} (he : (E 97).1 = 1) (hw : Cond.classLink own index "java/lang/String" ∈ Ts) (hdg : decode cc pc = .ok (.anewarray index, 3)) : zS E own cc nL Ts ret R pc (z_anewa R.cells R.slots (pc + 3)) := by
  intro p l e s m args below meth c D cy A L Qc XC ls st as kk H locs lsC hC hW hS hl hkk
  obtain ⟨hx, hb, hml, hown, hts, hK, hA, hlocks, hr, hxt, hst, hfl⟩ := hC
  refine ⟨fun c' h => ?_, fun o h => ?_⟩
  · unfold z_anewa at h
    split at h
    · rename_i x st'
      split at h
      · cases h
      · rename_i hx0
        split at h
        · rename_i hq
          obtain ⟨hx1, hmc, hms, hf1, hf2⟩ := hq
          cases h
          refine ⟨by simp, ⟨hmc, hms⟩, fun K => ?_⟩
          obtain ⟨-, -, -, hao, -⟩ := hst.2.2 he
          refine va_newq (D := D) (N' := x.toNatClampNeg) hx hb hown (hts _ hw) hao hK hW.1 hW.2 hS hA hx0 rfl (by omega) hmc hms hdg (fun q cA H1 hK1 hP1 hD1 hS1 => ?_)
          have hcA : cA = cy 3 := zA_S hK hK1
          subst hcA
          have hLL : zsame as.2.length L (fun k i => if k = 99 ∧ i = as.2.length then q else L k i) := by
            intro k i hki
            have : ¬ (k = 99 ∧ i = as.2.length) := by omega
            simp only [if_neg this]
          have hz := zws_push (E := E) (cy := cy) (s := as) (n := 1000 + x.toNatClampNeg) (f := fun _ => -1) (q := q) hEok.1 hEok.2 hLL (by simp)
          have hg : ztc cy L (1000 + x.toNatClampNeg, fun (_ : Nat) => (-1 : Int32)) = .inl (cy 3, x.toNatClampNeg, .inr (.inr (.inr (.inr (fun _ => none))))) := by
            rw [ztc_s (by omega)]
            show _ = _
            simp only [show 1000 + x.toNatClampNeg - 1000 = x.toNatClampNeg from by omega]
            rfl
          rw [hg] at hz
          have K9 := K _ H1 locs lsC hLL ⟨by simp only []; rw [hz]; exact hP1, by simp only []; rw [hz]; exact hD1⟩ hS1 ⟨hl.1, hl.2.1, hl.2.2.1, fun j v hv => by
            rw [hl.2.2.2 j v hv]
            have : zfr' as.2.length (some v) = true := List.all_eq_true.mp hf2 _ (List.mem_of_getElem? hv)
            rw [zc_same hLL this]⟩
          have hst9 : st'.map (zc (fun k i => if k = 99 ∧ i = as.2.length then q else L k i)) = st'.map (zc L) := List.map_congr_left fun v hv => zc_same hLL (List.all_eq_true.mp hf1 _ hv)
          simp only [List.map_cons] at K9
          rw [hst9] at K9
          simpa [zc] using K9
        · cases h
    · cases h
  · unfold z_anewa at h
    repeat' (split at h)
    all_goals cases h
theorem zs_aasts {E : zEnv} {own : String} {cc : ByteArray} {nL : Nat} {Ts : List Cond} {ret : Option FieldType} {R : Room} {pc : Nat} (hdg : decode cc pc = .ok (.aastore, 1)) : zS E own cc nL Ts ret R pc (z_aasts E (pc + 1)) := by
  intro p l e s m args below meth c D cy A L Qc XC ls st as kk H locs lsC hC hW hS hl hkk
  obtain ⟨hx, hb, hml, hown, hts, hK, hA, hlocks, hr, hxt, hst, hfl⟩ := hC
  refine ⟨fun c' h => ?_, fun o h => ?_⟩
  · unfold z_aasts at h
    split at h
    · rename_i k0 i0 j k i st'
      split at h
      · rename_i hq
        obtain ⟨he, rfl, hi0, rfl, hj0⟩ := hq
        split at h
        · rename_i t ht
          split at h
          · rename_i hjn
            cases h
            refine ⟨by simp, hkk, fun K => ?_⟩
            obtain ⟨-, -, -, -, hvs, -⟩ := hst.2.2 he
            have hz9 := zws_tmp (E := E) cy L as ht
            have hn9 : ¬ t.1 < 1000 := by omega
            rw [ztc_s hn9] at hz9
            obtain ⟨cell, g1, g2, g3⟩ := vk_recv hvs hi0 hS
            have hany : va_Any "java/lang/String" s H (L 96 i0) := by
              obtain ⟨kC, hkC, -⟩ := Vm.findClass_spec g3
              refine ⟨cell, g1, g2, ⟨kC, hkC⟩, fun comp hcomp => ?_⟩
              rw [hcomp] at g3
              cases g3
              exact va_asg _ _
            refine va_astqM (D := D) hx hb hK hW.1 hW.2 hS _ 3 hz9 rfl hany (zvin hj0 (by omega)) hdg (fun H1 locs1 hP1 hD1 hS1 => ?_)
            have hz : zws E cy L (as.1, as.2.set i (t.1, upd t.2 j.toNatClampNeg (nI i0))) = (zws E cy L as).set ((zall E).length + i) (L 99 i, .inl (cy 3, t.1 - 1000, .inr (.inr (.inr (.inr (va_up (fun j => zsr L (t.2 j)) j.toNatClampNeg (some (L 96 i0)))))))) := by
              unfold zws
              have h9 := zset_app ((zall E).map (fun q => (L q.1 q.2, zcell E cy L as.1 q.1 q.2))) (as.2.mapIdx (fun i t => ((L 99 i, ztc cy L t) : Nat × va_E))) i (L 99 i, .inl (cy 3, t.1 - 1000, .inr (.inr (.inr (.inr (va_up (fun j => zsr L (t.2 j)) j.toNatClampNeg (some (L 96 i0))))))))
              rw [List.length_map] at h9
              rw [h9]
              congr 1
              apply List.ext_getElem?
              intro q
              by_cases hq : q = i
              · subst hq
                have hl9 := (List.getElem?_eq_some_iff.mp ht).1
                rw [List.getElem?_set_self (by simpa using hl9), List.getElem?_mapIdx, List.getElem?_set_self hl9]
                have e9 : ztc cy L (t.1, upd t.2 j.toNatClampNeg (nI i0)) = .inl (cy 3, t.1 - 1000, .inr (.inr (.inr (.inr (va_up (fun j => zsr L (t.2 j)) j.toNatClampNeg (some (L 96 i0))))))) := by
                  rw [ztc_s (t := (t.1, upd t.2 j.toNatClampNeg (nI i0))) hn9]
                  have e8 : (fun q => zsr L (upd t.2 j.toNatClampNeg (nI i0) q)) = va_up (fun j => zsr L (t.2 j)) j.toNatClampNeg (some (L 96 i0)) := by
                    funext q
                    by_cases hq : q = j.toNatClampNeg
                    · subst hq
                      have h6 : i0 = 0 ∨ i0 = 1 ∨ i0 = 2 ∨ i0 = 3 ∨ i0 = 4 ∨ i0 = 5 := by omega
                      have e7 : zsr L (nI i0) = some (L 96 i0) := by
                        rcases h6 with rfl | rfl | rfl | rfl | rfl | rfl <;> rfl
                      simp [upd, va_up, e7]
                    · simp [upd, va_up, hq]
                  simp only [e8]
                exact congrArg (fun w => some (L 99 q, w)) e9
              · rw [List.getElem?_set_ne (Ne.symm hq), List.getElem?_mapIdx, List.getElem?_mapIdx, List.getElem?_set_ne (Ne.symm hq)]
            refine K L H1 locs1 lsC zsame.rfl' ⟨?_, ?_⟩ hS1 hl
            · rw [hz]; exact hP1
            · rw [hz]; exact hD1
          · cases h
        · cases h
      · cases h
    · cases h
  · unfold z_aasts at h
    repeat' (split at h)
    all_goals cases h
theorem zs_aalds {E : zEnv} {own : String} {cc : ByteArray} {nL : Nat} {Ts : List Cond} {ret : Option FieldType} {R : Room} {pc : Nat} (hdg : decode cc pc = .ok (.aaload, 1)) : zS E own cc nL Ts ret R pc (z_aalds (pc + 1)) := by
  intro p l e s m args below meth c D cy A L Qc XC ls st as kk H locs lsC hC hW hS hl hkk
  obtain ⟨hx, hb, hml, hown, hts, hK, hA, hlocks, hr, hxt, hst, hfl⟩ := hC
  refine ⟨fun c' h => ?_, fun o h => ?_⟩
  · unfold z_aalds at h
    split at h
    · rename_i j k i st'
      split at h
      · rename_i hq
        obtain ⟨rfl, hj0⟩ := hq
        split at h
        · rename_i t ht
          split at h
          · rename_i hjn
            cases h
            refine ⟨Nat.le_refl _, hkk, fun K => ?_⟩
            have hz9 := zws_tmp (E := E) cy L as ht
            rw [ztc_s (by omega)] at hz9
            refine va_aldq (D := D) hx hb hK hW.1 _ 3 hz9 rfl (zvin hj0 (by omega)) hdg ?_
            have K9 := K L _ locs lsC zsame.rfl' hW hS hl
            simp only [zsr, if_neg hjn.2]
            exact K9
          · cases h
        · cases h
      · cases h
    · cases h
  · unfold z_aalds at h
    repeat' (split at h)
    all_goals cases h
theorem zs_scall {E : zEnv} {own : String} {cc : ByteArray} {nL : Nat} {Ts : List Cond} {ret : Option FieldType} {R : Room} {pc : Nat} {idx n maxL : Nat} {y : MethodName} {bytes : ByteArray} {ret' : Option FieldType} {ws ws' : List Cond} {rm : Room} {f : List zAV → zAS → Option zOut} (he : (E 97).1 = 1)
    (hf : zMeets E y ws rm f) (hG : GoodIn Ts (wsV own idx "java/lang/String" y ws)) (hw : ws = Cond.code y bytes maxL ret' :: ws')
    (hd : y.cls = "java/lang/String" ∧ y.cls ≠ "java/lang/invoke/MethodHandle" ∧ y.cls ≠ "java/lang/invoke/VarHandle" ∧ (parseMethodDescriptor y.desc).map (fun d => d.parameters.length) = some n) (hR : rm.frames + 1 ≤ R.frames ∧ 8 + (maxL + 11) + rm.locals ≤ R.locals) (hdg : decode cc pc = .ok (.invokevirtual idx, 3)) :
    zS E own cc nL Ts ret R pc (z_scall f n rm.cells rm.slots R.cells R.slots (pc + 3)) := by
  intro p l e s m args below meth c D cy A L Qc XC ls st as kk H locs lsC hC hW hS hl hkk
  obtain ⟨hx, hb, hml, hown, hts, hK, hA, hlocks, hr, hxt, hst, hfl⟩ := hC
  refine ⟨fun c' h => ?_, fun o h => ?_⟩
  · unfold z_scall at h
    split at h
    · rename_i k i st' hdrop
      split at h
      · rename_i hq
        obtain ⟨rfl, hi6, hcat, hmc, hms⟩ := hq
        obtain ⟨v, s', hfv, rfl⟩ := zback_inl h
        have hlen := hf.1 _ _ _ hfv
        refine ⟨Nat.le_of_eq hlen.symm, ⟨hmc, hms⟩, fun K => ?_⟩
        obtain ⟨-, -, -, -, hvs, -⟩ := hst.2.2 he
        have hst9 : st.map (zc L) = (((st.take n).reverse).map (zc L)).reverse ++ Value.ref (L 96 i) :: st'.map (zc L) := by
          have h1 : st = st.take n ++ (Sum.inr (96, i) :: st') := by rw [← hdrop]; exact (List.take_append_drop n st).symm
          have h2 := congrArg (List.map (zc L)) h1
          rw [List.map_append] at h2
          rw [h2, List.map_reverse, List.reverse_reverse]
          rfl
        have hn : (((st.take n).reverse).map (zc L)).length = n := by
          have h1 : n < st.length := by
            have := congrArg List.length hdrop
            simp only [List.length_drop, List.length_cons] at this
            omega
          simp only [List.length_map, List.length_reverse, List.length_take]
          omega
        refine zs_after (E := E) (D := D) (cy := cy) (L := L) (v := v) (s' := s') (va_runV (As := ((st.take n).reverse).map (zc L)) (rest := st'.map (zc L)) ⟨hx, hb, hml, hown, hts⟩ (hf.2 l D cy L _ as s' v H.size hfl hfv) (cwV n hts hG hw rfl rfl hd hR)
          ⟨zPre.blind, vk_recv hvs hi6 hS, fun U hU hWm => ⟨by simp [zc], zPre.at hK hW hS hA hst hU hWm⟩⟩ rfl hn hl.1 hst9 (lv_room (by rw [zcat_cat]; exact hcat)) hdg ⟨hmc, hms⟩) hS (zA_sub hW hS hA) (fun H1 locs1 hW1 hS1 => ?_)
        have K9 := K L H1 locs1 lsC zsame.rfl' hW1 hS1 hl
        rw [← zopt_map]
        exact K9
      · cases h
    · cases h
  · unfold z_scall at h
    split at h
    · split at h
      · exact absurd h (fun h => zback_inr h)
      · cases h
    · cases h
theorem zs_lload {E : zEnv} {own : String} {cc : ByteArray} {nL : Nat} {Ts : List Cond} {ret : Option FieldType} {R : Room} {pc : Nat} {i : Nat} (hdg : decode cc pc = .ok (.lload i, 2)) : zS E own cc nL Ts ret R pc (z_ldl i (pc + 2)) := by
  intro p l e s m args below meth c D cy A L Qc XC ls st as kk H locs lsC hC hW hS hl hkk
  obtain ⟨hx, hb, hml, hown, hts, hK, hA, hlocks, hr, hxt, hst, hfl⟩ := hC
  refine ⟨fun c' h => ?_, fun o h => ?_⟩
  · unfold z_ldl at h
    split at h
    · rename_i x hv
      cases h
      refine ⟨Nat.le_refl _, hkk, fun K => ?_⟩
      refine lv_lload hx hb hdg (hl.2.2.2 i _ hv) ?_
      exact K L _ locs lsC zsame.rfl' hW hS hl
    · cases h
  · unfold z_ldl at h
    split at h <;> cases h
theorem zs_lstore {E : zEnv} {own : String} {cc : ByteArray} {nL : Nat} {Ts : List Cond} {ret : Option FieldType} {R : Room} {pc : Nat} {i : Nat} (hdg : decode cc pc = .ok (.lstore i, 2)) : zS E own cc nL Ts ret R pc (z_st2 i (pc + 2)) := by
  intro p l e s m args below meth c D cy A L Qc XC ls st as kk H locs lsC hC hW hS hl hkk
  obtain ⟨hx, hb, hml, hown, hts, hK, hA, hlocks, hr, hxt, hst, hfl⟩ := hC
  refine ⟨fun c' h => ?_, fun o h => ?_⟩
  · unfold z_st2 at h
    split at h
    · rename_i hi9
      split at h
      · cases h
        refine ⟨Nat.le_refl _, hkk, fun K => ?_⟩
        refine lv_lstore hx hb hdg hl.lv (by rw [← hl.2.2.1]; exact hi9) rfl (fun lsC9 hl9 => ?_)
        exact K L _ locs lsC9 zsame.rfl' hW hS (hl.set2 hi9 hl9)
      · cases h
    · cases h
  · unfold z_st2 at h
    split at h
    · split at h <;> cases h
    · cases h
/-! contracts: of one environment for another that adds no cell; of a method that throws for one call that doesn't -/
theorem zX_M {E : zEnv} {y : MethodName} {ws : List Cond} {rm : Room} {f : List zAV → zAS → Option zOut} (h : zMeetsX E y ws rm f) : zMeets E y ws rm f := ⟨h.1, fun l D cy L args s s' v sz hfl hf => vx_met (h.2 l D cy L args s (.inl v, s') sz hfl hf)⟩
def zEx (E E' : zEnv) : Prop := (∀ k, k < 20 → E' k = E k) ∧ (E 97).1 ≠ 1
theorem zall_ex {E E' : zEnv} (h : zEx E E') : zall E' = zall E := by
  unfold zall
  rw [List.flatMap_def, List.flatMap_def]
  congr 1
  refine List.map_congr_left ?_
  intro k hk
  rw [h.1 k (List.mem_range.mp hk)]
theorem zws_ex {E E' : zEnv} (h : zEx E E') (cy : Nat → ClassId) (L : Nat → Nat → Nat) (s : zAS) : zws E' cy L s = zws E cy L s := by
  unfold zws
  rw [zall_ex h]
  congr 1
  refine List.map_congr_left ?_
  intro q hq
  have h1 := (zall_lt hq).1
  unfold zcell
  rw [h.1 _ h1]
theorem zMeets_ex {E E' : zEnv} (hx : zEx E E') {y : MethodName} {ws : List Cond} {rm : Room} {f : List zAV → zAS → Option zOut} (h : zMeets E y ws rm f) : zMeets E' y ws rm f := by
  refine ⟨h.1, fun l D cy L args s s' v sz hfl hf => ?_⟩
  have h9 := h.2 l D cy L args s s' v sz hfl hf
  have e := zws_ex hx cy L
  intro p e9 ha hc hk s9 m args9 below hf9 happ hP hK
  have hP9 : va_Pc (args.map (zc L)) (zPre E D cy L s sz) args9 s9 := by
    obtain ⟨q0, q1, q2, q3, q4, q5⟩ := hP
    rw [e s] at q2 q4 q5
    exact ⟨q0, q1, q2, q3, q4, q5.1, q5.2.1, fun g => absurd g hx.2⟩
  obtain ⟨n, o, h1, h2, h3, h4⟩ := h9 p e9 ha hc hk s9 m args9 below hf9 happ hP9 hK
  refine ⟨n, o, h1, h2, h3, ?_⟩
  unfold zQ zW at h4 ⊢
  rw [e s, e s']
  exact h4
theorem zs_lcmp {E : zEnv} {own : String} {cc : ByteArray} {nL : Nat} {Ts : List Cond} {ret : Option FieldType} {R : Room} {pc : Nat} (hdg : decode cc pc = .ok (.lcmp, 1)) : zS E own cc nL Ts ret R pc (z_lcmp (pc + 1)) := by
  intro p l e s m args below meth c D cy A L Qc XC ls st as kk H locs lsC hC hW hS hl hkk
  obtain ⟨hx, hb, hml, hown, hts, hK, hA, hlocks, hr, hxt, hst, hfl⟩ := hC
  refine ⟨fun c' h => ?_, fun o h => ?_⟩
  · unfold z_lcmp at h
    split at h
    · cases h
      refine ⟨Nat.le_refl _, hkk, fun K => ?_⟩
      refine W.lcmp hx hb hdg ?_
      exact K L _ locs lsC zsame.rfl' hW hS hl
    · cases h
  · unfold z_lcmp at h
    split at h <;> cases h
theorem zs_dcmp {E : zEnv} {own : String} {cc : ByteArray} {nL : Nat} {Ts : List Cond} {ret : Option FieldType} {R : Room} {pc : Nat} {op : CmpOp} (hdg : decode cc pc = .ok (.dcmp op, 1)) : zS E own cc nL Ts ret R pc (z_dcmp op (pc + 1)) := by
  intro p l e s m args below meth c D cy A L Qc XC ls st as kk H locs lsC hC hW hS hl hkk
  obtain ⟨hx, hb, hml, hown, hts, hK, hA, hlocks, hr, hxt, hst, hfl⟩ := hC
  refine ⟨fun c' h => ?_, fun o h => ?_⟩
  · unfold z_dcmp at h
    split at h
    · cases h
      refine ⟨Nat.le_refl _, hkk, fun K => ?_⟩
      refine lv_dcmp hx hb hdg ?_
      exact K L _ locs lsC zsame.rfl' hW hS hl
    · cases h
  · unfold z_dcmp at h
    split at h <;> cases h
theorem zs_ishr {E : zEnv} {own : String} {cc : ByteArray} {nL : Nat} {Ts : List Cond} {ret : Option FieldType} {R : Room} {pc : Nat} (hdg : decode cc pc = .ok (.ishr, 1)) : zS E own cc nL Ts ret R pc (z_bin (fun x y => x >>> (y &&& 31)) (pc + 1)) := by
  intro p l e s m args below meth c D cy A L Qc XC ls st as kk H locs lsC hC hW hS hl hkk
  obtain ⟨hx, hb, hml, hown, hts, hK, hA, hlocks, hr, hxt, hst, hfl⟩ := hC
  refine ⟨fun c' h => ?_, fun o h => ?_⟩
  · unfold z_bin at h
    split at h
    · cases h
      refine ⟨Nat.le_refl _, hkk, fun K => ?_⟩
      refine lv_ishr hx hb hdg ?_
      exact K L _ locs lsC zsame.rfl' hW hS hl
    · cases h
  · unfold z_bin at h
    split at h <;> cases h
theorem zs_dconst0 {E : zEnv} {own : String} {cc : ByteArray} {nL : Nat} {Ts : List Cond} {ret : Option FieldType} {R : Room} {pc : Nat} (hdg : decode cc pc = .ok (.dconst 0, 1)) : zS E own cc nL Ts ret R pc (z_dc 0 (pc + 1)) := by
  intro p l e s m args below meth c D cy A L Qc XC ls st as kk H locs lsC hC hW hS hl hkk
  obtain ⟨hx, hb, hml, hown, hts, hK, hA, hlocks, hr, hxt, hst, hfl⟩ := hC
  refine ⟨fun c' h => ?_, fun o h => ?_⟩
  · unfold z_dc at h
    cases h
    refine ⟨Nat.le_refl _, hkk, fun K => ?_⟩
    refine lv_dconst0 hx hb hdg ?_
    exact K L _ locs lsC zsame.rfl' hW hS hl
  · unfold z_dc at h
    cases h
