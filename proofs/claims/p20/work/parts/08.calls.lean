/-! ===== calls, and a method's contract ===== -/
def zPre (E : zEnv) (D : va_G) (cy : Nat → ClassId) (L : Nat → Nat → Nat) (s : zAS) (sz : Nat) (U : State) : Prop :=
  U.heap.size = sz ∧ va_P D vwCl (zws E cy L s) U.heap ∧ va_K D vwCl (ztys cy) U ∧ va_D (fun _ => True) (zws E cy L s) ∧ zST E L (va_A (zws E cy L s) sz) U U.heap
def zQ (E : zEnv) (D : va_G) (cy : Nat → ClassId) (L : Nat → Nat → Nat) (v : Option zAV) (s' : zAS) (A : Nat → Prop) : Array Value → State → Outcome → State → Prop := fun _ st oc t =>
  oc = .returned (v.map (zc L)) ∧ zW E D cy A L s' t.heap ∧ va_F A st t
def zNoX : String → State → State → Prop := fun _ _ _ => False
def zX (E : zEnv) (D : va_G) (cy : Nat → ClassId) (L : Nat → Nat → Nat) (x : Nat) (s' : zAS) (A : Nat → Prop) : String → State → State → Prop := fun C st t =>
  C = zExc x ∧ zW E D cy A L s' t.heap ∧ va_F A st t
/-- the method y does what f says, where f says that it returns -/
def zMeets (E : zEnv) (y : MethodName) (ws : List Cond) (rm : Room) (f : List zAV → zAS → Option zOut) : Prop :=
  (∀ args s o, f args s = some o → o.2.2.length = s.2.length) ∧ ∀ (l : Launch) (D : va_G) (cy : Nat → ClassId) (L : Nat → Nat → Nat) (args : List zAV) (s s' : zAS) (v : Option zAV) (sz : Nat), l.stackTraces = false → f args s = some (.inl v, s') →
    Met l y ws rm (va_Pc (args.map (zc L)) (zPre E D cy L s sz)) (zQ E D cy L v s' (va_A (zws E cy L s) sz)) rm.cells rm.slots (va_A (zws E cy L s) sz)
def zMeetsX (E : zEnv) (y : MethodName) (ws : List Cond) (rm : Room) (f : List zAV → zAS → Option zOut) : Prop :=
  (∀ args s o, f args s = some o → o.2.2.length = s.2.length) ∧ ∀ (l : Launch) (D : va_G) (cy : Nat → ClassId) (L : Nat → Nat → Nat) (args : List zAV) (s : zAS) (o : zOut) (sz : Nat), l.stackTraces = false → f args s = some o →
    vx_Met l y ws rm (va_Pc (args.map (zc L)) (zPre E D cy L s sz)) (match o.1 with
      | .inl v => zQ E D cy L v o.2 (va_A (zws E cy L s) sz)
      | .inr _ => fun _ _ _ _ => False) (match o.1 with
      | .inl _ => zNoX
      | .inr x => zX E D cy L x o.2 (va_A (zws E cy L s) sz)) rm.cells rm.slots (va_A (zws E cy L s) sz)
theorem zPre.blind {E : zEnv} {D : va_G} {cy : Nat → ClassId} {L : Nat → Nat → Nat} {s : zAS} {sz : Nat} {av : List Value} : FrameBlind (va_Pc av (zPre E D cy L s sz)) := by
  intro a U g mk q
  obtain ⟨q0, q1, qP, qK, qD, qS⟩ := q
  obtain ⟨h1, h2, h3⟩ := qS
  refine ⟨q0, q1, qP, va_K.moved (u := U) (U := U.calling g mk a) (Vm.Alike.refl U.vm) qK, qD, fun q hq => va_Z.moved (u := U) (U := U.calling g mk a) (Vm.Alike.refl U.vm) (h1 q hq), fun t ht => va_T.moved (u := U) (U := U.calling g mk a) (Vm.Alike.refl U.vm) (h2 t ht), fun he => ?_⟩
  obtain ⟨x1, x2, x3, x4, x5, x6, x7, x8⟩ := h3 he
  exact ⟨va_X.moved (u := U) (U := U.calling g mk a) (Vm.Alike.refl U.vm) x1, x2, x3, va_AO.moved (u := U) (U := U.calling g mk a) (Vm.Alike.refl U.vm) x4, vk_S.moved (u := U) (U := U.calling g mk a) (Vm.Alike.refl U.vm) x5, fun q hq => vk_R.same (u := U) (U := U.calling g mk a) rfl (x6 q hq), va_Z.moved (u := U) (U := U.calling g mk a) (Vm.Alike.refl U.vm) x7, vx_Zq.moved (u := U) (U := U.calling g mk a) (Vm.Alike.refl U.vm) x8⟩
/-- which cells a world's addresses are doesn't hang on what they hold -/
theorem zA_sub {E : zEnv} {D : va_G} {cy : Nat → ClassId} {A : Nat → Prop} {L : Nat → Nat → Nat} {s : zAS} {H0 H : Heap} {locs : List Loc} (hW : zW E D cy A L s H) (hS : va_S A H0 H locs) (hA : ∀ q, H0.size ≤ q → A q) : ∀ q, va_A (zws E cy L s) H.size q → A q := by
  intro q h
  rcases h with ⟨k, e, h⟩ | h
  · exact hW.2.2 k (q, e) h
  · exact hA q (Nat.le_trans hS.1 h)
section ZAfter
variable {p : Program} {l : Launch} {e : Env} {R : Room} {s : State} {m : MethodId} {args : Array Value} {below : List Frame} {meth : Method} {c : Code} {H : Heap} {locs : List Loc} {cells slots : Nat} {Q : State → Prop}
variable {pc : Nat} {ls : Array Slot} {rest st0 : List Value} {a : Array Value} {A0 A1 : Nat → Prop} {H0 : Heap} {mc ms : Nat}
theorem zs_after {E : zEnv} {D : va_G} {cy : Nat → ClassId} {L : Nat → Nat → Nat} {v : Option zAV} {s' : zAS} (hr : va_Run p l e R s m args below meth c H locs cells slots mc ms (F0 m pc ls st0) rest (zQ E D cy L v s' A1 a) A1) (hS : va_S A0 H0 H locs) (hA : ∀ q, A1 q → A0 q)
    (kk : ∀ (H1 : Heap) (locs1 : List Loc), zW E D cy A0 L s' H1 → va_S A0 H0 H1 locs1 → W p l e R s m args below meth c H1 locs1 (cells + mc) (slots + ms) Q (F0 m (pc + 3) ls ((v.map (zc L)).toList ++ rest))) : W p l e R s m args below meth c H locs cells slots Q (F0 m pc ls st0) := by
  intro T hT X
  obtain ⟨v9, st₀, t, T', L9, h0, X', hL, e1, e2, ⟨hv, ⟨hP, hD⟩, hz, hk⟩, st⟩ := hr T hT X
  rw [h0] at hz hk
  have hv9 : v9 = v.map (zc L) := by cases hv; rfl
  subst hv9
  obtain ⟨t2, a1, b1⟩ := kk T'.heap (locs ++ L9) ⟨by rw [e1]; exact hP, hD.weaken (fun _ q _ h => hA q.1 h)⟩
    ⟨Nat.le_trans hS.1 (by rw [e1]; exact hz), fun q h1 h2 => by rw [e1, hk q (Nat.lt_of_lt_of_le h1 hS.1) (fun z => h2 (hA q z))]; exact hS.2.1 q h1 h2, fun q hq => by
      rcases List.mem_append.mp hq with h | h
      · exact hS.2.2 q h
      · exact hA _ (hL q h)⟩ T' rfl X'
  exact ⟨t2, st t2 a1, b1⟩
end ZAfter
theorem zcat_cat {L : Nat → Nat → Nat} {st : List zAV} : ((st.map (zc L)).map fun v => v.category).sum = (st.map zcat).sum := by
  induction st with
  | nil => rfl
  | cons v st ih =>
    simp only [List.map_cons, List.sum_cons, ih]
    cases v <;> rfl
theorem zrec_spec {E : zEnv} {ci : Nat} {v : zAV} (h : zrec E ci v = true) : ∃ k i o, v = .inr (k, i) ∧ k < 20 ∧ i < (E k).1 ∧ (E k).2 = .inl o ∧ o.1 = ci := by
  unfold zrec at h
  split at h
  · rename_i k i
    simp only [Bool.and_eq_true, decide_eq_true_eq] at h
    obtain ⟨⟨h1, h2⟩, h3⟩ := h
    split at h3
    · rename_i o ho
      exact ⟨k, i, o, rfl, h1, h2, ho, by simpa using h3⟩
    · cases h3
  · cases h
theorem zPre.at {E : zEnv} {D : va_G} {cy : Nat → ClassId} {A : Nat → Prop} {L : Nat → Nat → Nat} {as : zAS} {s U : State} {H : Heap} {locs : List Loc} (hK : va_K D vwCl (ztys cy) s) (hW : zW E D cy A L as H) (hS : va_S A s.heap H locs) (hA : ∀ q, s.heap.size ≤ q → A q) (hst : zST E L A s s.heap) (hU : U.heap = H) (hWm : s.WarmedH U.vm) : zPre E D cy L as H.size U :=
  ⟨by rw [hU], by rw [hU]; exact hW.1, va_K.moved hWm.alike hK, hW.2.weaken (fun _ _ _ _ => trivial), by rw [hU]; exact hst.pass (fun _ _ _ => rfl) hS (zA_sub hW hS hA) hWm⟩
theorem zback_inl {nxt : Nat} {ls : zLs} {st : List zAV} {kk : Nat × Nat} {r : Option zOut} {c' : zCfg} (h : zback nxt ls st kk r = some (.inl c')) : ∃ v s', r = some (.inl v, s') ∧ c' = (nxt, ls, v.toList ++ st, s', kk) := by
  unfold zback at h
  split at h
  · cases h; exact ⟨_, _, rfl, rfl⟩
  · cases h; exact ⟨_, _, rfl, rfl⟩
  · cases h
theorem zback_inr {nxt : Nat} {ls : zLs} {st : List zAV} {kk : Nat × Nat} {r : Option zOut} {o : zOut} (h : zback nxt ls st kk r = some (.inr o)) : False := by
  unfold zback at h
  split at h <;> cases h
theorem zopt_map {L : Nat → Nat → Nat} {v : Option zAV} {st : List zAV} : (v.toList ++ st).map (zc L) = (v.map (zc L)).toList ++ st.map (zc L) := by
  cases v <;> rfl
theorem zs_callV {E : zEnv} {own : String} {cc : ByteArray} {nL : Nat} {Ts : List Cond} {ret : Option FieldType} {R : Room} {pc : Nat} {ci idx n maxL N : Nat} {C : String} {T : u_T} {y : MethodName} {bytes : ByteArray} {ret' : Option FieldType} {ws ws' : List Cond} {rm : Room} {f : List zAV → zAS → Option zOut}
    (hc : vwCl[ci]? = some (C, T, N)) (hf : zMeets E y ws rm f) (hG : GoodIn Ts (wsV own idx C y ws)) (hw : ws = Cond.code y bytes maxL ret' :: ws')
    (hd : y.cls = C ∧ y.cls ≠ "java/lang/invoke/MethodHandle" ∧ y.cls ≠ "java/lang/invoke/VarHandle" ∧ (parseMethodDescriptor y.desc).map (fun d => d.parameters.length) = some n) (hR : rm.frames + 1 ≤ R.frames ∧ 8 + (maxL + 11) + rm.locals ≤ R.locals) (hdg : decode cc pc = .ok (.invokevirtual idx, 3)) :
    zS E own cc nL Ts ret R pc (z_callV E ci f n rm.cells rm.slots R.cells R.slots (pc + 3)) := by
  intro p l e s m args below meth c D cy A L Qc XC ls st as kk H locs lsC hC hW hS hl hkk
  obtain ⟨hx, hb, hml, hown, hts, hK, hA, hlocks, hr, hxt, hst, hfl⟩ := hC
  refine ⟨fun c' h => ?_, fun o h => ?_⟩
  · unfold z_callV at h
    split at h
    · rename_i r st' hdrop
      split at h
      · rename_i hq
        obtain ⟨hrec, hcat, hmc, hms⟩ := hq
        obtain ⟨v, s', hfv, rfl⟩ := zback_inl h
        obtain ⟨k, i, o, rfl, hk, hi, hE, hci⟩ := zrec_spec hrec
        have hlen := hf.1 _ _ _ hfv
        refine ⟨Nat.le_of_eq hlen.symm, ⟨hmc, hms⟩, fun K => ?_⟩
        obtain ⟨q, -, hq⟩ := zws_get cy L as hk hi
        rw [zcell_obj hE, hci] at hq
        have hst9 : st.map (zc L) = (((st.take n).reverse).map (zc L)).reverse ++ Value.ref (L k i) :: st'.map (zc L) := by
          have h1 : st = st.take n ++ (Sum.inr (k, i) :: st') := by rw [← hdrop]; exact (List.take_append_drop n st).symm
          have h2 := congrArg (List.map (zc L)) h1
          rw [List.map_append] at h2
          rw [h2, List.map_reverse, List.reverse_reverse]
          rfl
        have hn : (((st.take n).reverse).map (zc L)).length = n := by
          have h1 : n < st.length := by
            have := congrArg List.length hdrop
            simp only [List.length_drop, List.length_cons] at this
            omega
          simp only [List.length_map, List.length_reverse, List.length_take]
          omega
        refine zs_after (E := E) (D := D) (cy := cy) (L := L) (v := v) (s' := s') (va_runV (As := ((st.take n).reverse).map (zc L)) (rest := st'.map (zc L)) ⟨hx, hb, hml, hown, hts⟩ (hf.2 l D cy L _ as s' v H.size hfl hfv) (cwV n hts hG hw rfl rfl hd hR)
          ⟨zPre.blind, va_recv hK hW.1 (ci := ci) (q0 := q) hc hq, fun U hU hWm => ⟨by simp [zc], zPre.at hK hW hS hA hst hU hWm⟩⟩ rfl hn hl.1 hst9 (lv_room (by rw [zcat_cat]; exact hcat)) hdg ⟨hmc, hms⟩) hS (zA_sub hW hS hA) (fun H1 locs1 hW1 hS1 => ?_)
        have K9 := K L H1 locs1 lsC zsame.rfl' hW1 hS1 hl
        rw [← zopt_map]
        exact K9
      · cases h
    · cases h
  · unfold z_callV at h
    split at h
    · split at h
      · exact absurd h (fun h => zback_inr h)
      · cases h
    · cases h
theorem zs_callS {E : zEnv} {own : String} {cc : ByteArray} {nL : Nat} {Ts : List Cond} {ret : Option FieldType} {R : Room} {pc : Nat} {idx n maxL : Nat} {y : MethodName} {bytes : ByteArray} {ret' : Option FieldType} {ws ws' : List Cond} {rm : Room} {f : List zAV → zAS → Option zOut}
    (hf : zMeets E y ws rm f) (hG : GoodIn Ts (va_wsS own idx y ws)) (hw : ws = Cond.code y bytes maxL ret' :: ws')
    (hd : y.cls ≠ "java/lang/invoke/MethodHandle" ∧ y.cls ≠ "java/lang/invoke/VarHandle" ∧ (parseMethodDescriptor y.desc).map (fun d => d.parameters.length) = some n) (hR : rm.frames + 1 ≤ R.frames ∧ 8 + (maxL + 11) + rm.locals ≤ R.locals) (hdg : decode cc pc = .ok (.invokestatic idx, 3)) :
    zS E own cc nL Ts ret R pc (z_callS f n rm.cells rm.slots R.cells R.slots (pc + 3)) := by
  intro p l e s m args below meth c D cy A L Qc XC ls st as kk H locs lsC hC hW hS hl hkk
  obtain ⟨hx, hb, hml, hown, hts, hK, hA, hlocks, hr, hxt, hst, hfl⟩ := hC
  refine ⟨fun c' h => ?_, fun o h => ?_⟩
  · unfold z_callS at h
    split at h
    · rename_i hq
      obtain ⟨hnl, hcat, hmc, hms⟩ := hq
      obtain ⟨v, s', hfv, rfl⟩ := zback_inl h
      have hlen := hf.1 _ _ _ hfv
      refine ⟨Nat.le_of_eq hlen.symm, ⟨hmc, hms⟩, fun K => ?_⟩
      have hst9 : st.map (zc L) = (((st.take n).reverse).map (zc L)).reverse ++ (st.drop n).map (zc L) := by
        rw [List.map_reverse, List.reverse_reverse, ← List.map_append, List.take_append_drop]
      have hn : (((st.take n).reverse).map (zc L)).length = n := by
        simp only [List.length_map, List.length_reverse, List.length_take]
        omega
      refine zs_after (E := E) (D := D) (cy := cy) (L := L) (v := v) (s' := s') (va_runS (As := ((st.take n).reverse).map (zc L)) (rest := (st.drop n).map (zc L)) ⟨hx, hb, hml, hown, hts⟩ (hf.2 l D cy L _ as s' v H.size hfl hfv) (va_cwS n hts hG hw rfl rfl hd hR)
        ⟨zPre.blind, fun U hU hWm => ⟨rfl, zPre.at hK hW hS hA hst hU hWm⟩⟩ rfl hn hl.1 hst9 (lv_room (by rw [zcat_cat]; exact hcat)) hdg ⟨hmc, hms⟩) hS (zA_sub hW hS hA) (fun H1 locs1 hW1 hS1 => ?_)
      have K9 := K L H1 locs1 lsC zsame.rfl' hW1 hS1 hl
      rw [← zopt_map]
      exact K9
    · cases h
  · unfold z_callS at h
    split at h
    · exact absurd h (fun h => zback_inr h)
    · cases h
