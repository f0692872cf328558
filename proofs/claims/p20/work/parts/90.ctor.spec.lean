/-! ===== constructors: what comes is a world of its own ===== -/
/-- words beside the good ones: arrays of objects, constructors of nest mates -/
def xNest : List (String × Nat × MethodName) := [(RX1, 17, yX0_init), (RX2, 11, yX3_init), (RX5, 11, yX2_init), (RX8, 9, yX5_init), (RX8, 44, yX7_init)]
def xWd (U : State) : Prop := va_AO RX0 U ∧ va_AO RX4 U ∧ ∀ q ∈ xNest, va_Nw (.methodLinkNest q.1 q.2.1 q.2.2 RX8) U
theorem xWd.warm {s U : State} (hW : s.WarmedH U.vm) (h : xWd s) : xWd U := ⟨va_AO.moved hW.alike h.1, va_AO.moved hW.alike h.2.1, fun q hq => (h.2.2 q hq).warmM hW⟩
theorem xWd.nest {s : State} (h : xWd s) (i : Nat) {a : String} {n : Nat} {y : MethodName} (e : xNest[i]? = some (a, n, y)) : va_Nw (.methodLinkNest a n y RX8) s := h.2.2 (a, n, y) (List.mem_of_getElem? e)
def xPre (D : va_G) (cy : Nat → ClassId) (ws : va_W) (sz : Nat) (U : State) : Prop := U.heap.size = sz ∧ va_P D vwCl ws U.heap ∧ va_K D vwCl (ztys cy) U ∧ va_D (fun _ => True) ws ∧ xWd U
def xMet (l : Launch) (y : MethodName) (ws : List Cond) (rm : Room) (av : List Value) (e0 : va_E) (Post : (Nat → ClassId) → Nat → va_W → Prop) : Prop := ∀ (D : va_G) (cy : Nat → ClassId) (h0 sz : Nat), Met l y ws rm (va_Pc (.ref h0 :: av) (xPre D cy [(h0, e0)] sz)) (va_Qv (fun w : va_W => Post cy h0 w) (fun w t => va_P D vwCl w t.heap ∧ va_D (va_A [(h0, e0)] sz) w) (va_A [(h0, e0)] sz)) rm.cells rm.slots (va_A [(h0, e0)] sz)
theorem xPre.blind {D : va_G} {cy : Nat → ClassId} {ws : va_W} {sz : Nat} {av : List Value} : FrameBlind (va_Pc av (xPre D cy ws sz)) := by
  intro a U g mk q
  obtain ⟨q0, q1, qP, qK, qD, q5, q6, q7⟩ := q
  exact ⟨q0, q1, qP, va_K.moved (u := U) (U := U.calling g mk a) (Vm.Alike.refl U.vm) qK, qD, va_AO.moved (u := U) (U := U.calling g mk a) (Vm.Alike.refl U.vm) q5, va_AO.moved (u := U) (U := U.calling g mk a) (Vm.Alike.refl U.vm) q6, fun z hz => va_Nw.same (u := U) (U := U.calling g mk a) rfl rfl (q7 z hz)⟩
theorem xs_last {ws0 : va_W} {x : Nat × va_E} : (ws0 ++ [x])[ws0.length]? = some x := by simp
/-- the callee's cells put in the place of the last one -/
theorem xs_join {A : Nat → Prop} {D : va_G} {ws0 w : va_W} {q : Nat} {e0 : va_E} {H H1 : Heap} (hP : va_P D vwCl (ws0 ++ [(q, e0)]) H) (hD : va_D A (ws0 ++ [(q, e0)])) (hF : ∀ x, va_A [(q, e0)] H.size x → A x) (hk : ∀ x : Nat, x < H.size → ¬ va_A [(q, e0)] H.size x → H1[x]? = H[x]?) (hP1 : va_P D vwCl w H1) (hD1 : va_D (va_A [(q, e0)] H.size) w) : va_P D vwCl (ws0 ++ w) H1 ∧ va_D A (ws0 ++ w) := by
  have old : ∀ (k : Nat) (x : Nat × va_E), ws0[k]? = some x → (ws0 ++ [(q, e0)])[k]? = some x := fun k x hx => by rw [List.getElem?_append_left (List.getElem?_eq_some_iff.mp hx).1]; exact hx
  have apart : ∀ (k : Nat) (x : Nat × va_E), ws0[k]? = some x → x.1 < H.size ∧ ¬ va_A [(q, e0)] H.size x.1 := by
    intro k x hx
    have hl := (hP k x (old k x hx)).lt
    refine ⟨hl, ?_⟩
    rintro (⟨j, e, h⟩ | h)
    · have hj : j < 1 := (List.getElem?_eq_some_iff.mp h).1
      have hj0 : j = 0 := by omega
      subst hj0
      cases h
      have := hD.1 k ws0.length x (x.1, e0) (old k x hx) xs_last rfl
      have hkl := (List.getElem?_eq_some_iff.mp hx).1
      omega
    · omega
  refine ⟨fun k x hx => ?_, fun i j a b ha hb hab => ?_, fun k x hx => ?_⟩
  · by_cases hl : k < ws0.length
    · rw [List.getElem?_append_left hl] at hx
      obtain ⟨h1, h2⟩ := apart k x hx
      exact (hP k x (old k x hx)).kept (hk x.1 h1 h2)
    · rw [List.getElem?_append_right (by omega)] at hx
      exact hP1 _ x hx
  · by_cases hi : i < ws0.length
    · rw [List.getElem?_append_left hi] at ha
      by_cases hj : j < ws0.length
      · rw [List.getElem?_append_left hj] at hb
        exact hD.1 i j a b (old i a ha) (old j b hb) hab
      · rw [List.getElem?_append_right (by omega)] at hb
        exact absurd (hab ▸ hD1.2 _ b hb) (apart i a ha).2
    · rw [List.getElem?_append_right (by omega)] at ha
      by_cases hj : j < ws0.length
      · rw [List.getElem?_append_left hj] at hb
        exact absurd (hab ▸ hD1.2 _ a ha) (apart j b hb).2
      · rw [List.getElem?_append_right (by omega)] at hb
        have := hD1.1 _ _ a b ha hb hab
        omega
  · by_cases hl : k < ws0.length
    · rw [List.getElem?_append_left hl] at hx
      exact hD.2 k x (old k x hx)
    · rw [List.getElem?_append_right (by omega)] at hx
      exact hF _ (hD1.2 _ x hx)
section XC
variable {p : Program} {l : Launch} {e : Env} {R : Room} {s : State} {m : MethodId} {args : Array Value} {below : List Frame} {meth : Method} {c : Code} {H : Heap} {locs : List Loc} {cells slots : Nat} {Q : State → Prop} {pc : Nat} {ls : Array Slot} {rest : List Value} {A : Nat → Prop}
theorem xs_call {own : String} {cc bytes : ByteArray} {nL maxL n index : Nat} {Ts ws : List Cond} {y : MethodName} {rm : Room} {av : List Value} {e0 : va_E} {Post : (Nat → ClassId) → Nat → va_W → Prop} {D : va_G} {cy : Nat → ClassId} {ws0 : va_W} {q : Nat} (hM : xMet l y ws rm av e0 Post) (S : CallFix p m c cc nL s args Ts own) (cw : CallB R s args own index y bytes maxL none ws rm rm.cells rm.slots n ∧ y.name = "<init>" ∧ (Cond.instanceMethod y).before args s = true)
    (hK : va_K D vwCl (ztys cy) s) (hw : xWd s) (hP : va_P D vwCl (ws0 ++ [(q, e0)]) H) (hD : va_D A (ws0 ++ [(q, e0)])) (hS : va_S A s.heap H locs) (hA : ∀ x, s.heap.size ≤ x → A x) (hn : av.length = n) (hsize : ls.size = nL) (hroom : (rest.map fun v => v.category).sum ≤ 8) (hdg : decode cc pc = .ok (.invokespecial index, 3)) (hf : cells + rm.cells ≤ R.cells ∧ slots + rm.slots ≤ R.slots)
    (kk : ∀ (w : va_W) (H1 : Heap) (locs1 : List Loc), Post cy q w → va_P D vwCl (ws0 ++ w) H1 → va_D A (ws0 ++ w) → va_S A s.heap H1 locs1 → W p l e R s m args below meth c H1 locs1 (cells + rm.cells) (slots + rm.slots) Q (F0 m (pc + 3) ls rest)) : W p l e R s m args below meth c H locs cells slots Q (F0 m pc ls (av.reverse ++ .ref q :: rest)) := by
  have hPc : va_P D vwCl [(q, e0)] H := by
    intro k x hx
    have hk : k < 1 := (List.getElem?_eq_some_iff.mp hx).1
    have hk0 : k = 0 := by omega
    subst hk0
    cases hx
    exact hP ws0.length _ xs_last
  have hDc : va_D (fun _ => True) [(q, e0)] := ⟨fun i j a b ha hb _ => by
    have h1 : i < 1 := (List.getElem?_eq_some_iff.mp ha).1
    have h2 : j < 1 := (List.getElem?_eq_some_iff.mp hb).1
    omega, fun _ _ _ => trivial⟩
  have hF : ∀ x, va_A [(q, e0)] H.size x → A x := by
    rintro x (⟨k, e1, h⟩ | h)
    · have hk : k < 1 := (List.getElem?_eq_some_iff.mp h).1
      have hk0 : k = 0 := by omega
      subst hk0
      cases h
      exact hD.2 ws0.length _ xs_last
    · exact hA x (Nat.le_trans hS.1 h)
  refine va_callv (va_runI (As := av) (rest := rest) S (hM D cy q H.size) cw ⟨xPre.blind, fun U hU hW => ⟨rfl, by rw [hU], by rw [hU]; exact hPc, va_K.moved hW.alike hK, hDc, hw.warm hW⟩⟩ rfl hn hsize rfl (lv_room hroom) hdg hf) hS (fun x _ h => hF x h) hF (fun w t H1 locs ht hvm hw hB hz1 hk1 hS => ?_)
  obtain ⟨hP1, hD1⟩ := hB
  rw [ht] at hP1
  obtain ⟨hP2, hD2⟩ := xs_join hP hD hF hk1 hP1 hD1
  exact kk w H1 locs hw hP2 hD2 hS
theorem xs_callN {own host : String} {cc bytes : ByteArray} {nL maxL n index : Nat} {Ts ws : List Cond} {y : MethodName} {rm : Room} {av : List Value} {e0 : va_E} {Post : (Nat → ClassId) → Nat → va_W → Prop} {D : va_G} {cy : Nat → ClassId} {ws0 : va_W} {q : Nat} (hM : xMet l y ws rm av e0 Post) (S : CallFix p m c cc nL s args Ts own) (cw : va_CN R s args own index y host bytes maxL none ws rm rm.cells rm.slots n ∧ y.name = "<init>" ∧ (Cond.instanceMethod y).before args s = true)
    (hK : va_K D vwCl (ztys cy) s) (hw : xWd s) (hP : va_P D vwCl (ws0 ++ [(q, e0)]) H) (hD : va_D A (ws0 ++ [(q, e0)])) (hS : va_S A s.heap H locs) (hA : ∀ x, s.heap.size ≤ x → A x) (hn : av.length = n) (hsize : ls.size = nL) (hroom : (rest.map fun v => v.category).sum ≤ 8) (hdg : decode cc pc = .ok (.invokespecial index, 3)) (hf : cells + rm.cells ≤ R.cells ∧ slots + rm.slots ≤ R.slots)
    (kk : ∀ (w : va_W) (H1 : Heap) (locs1 : List Loc), Post cy q w → va_P D vwCl (ws0 ++ w) H1 → va_D A (ws0 ++ w) → va_S A s.heap H1 locs1 → W p l e R s m args below meth c H1 locs1 (cells + rm.cells) (slots + rm.slots) Q (F0 m (pc + 3) ls rest)) : W p l e R s m args below meth c H locs cells slots Q (F0 m pc ls (av.reverse ++ .ref q :: rest)) := by
  have hPc : va_P D vwCl [(q, e0)] H := by
    intro k x hx
    have hk : k < 1 := (List.getElem?_eq_some_iff.mp hx).1
    have hk0 : k = 0 := by omega
    subst hk0
    cases hx
    exact hP ws0.length _ xs_last
  have hDc : va_D (fun _ => True) [(q, e0)] := ⟨fun i j a b ha hb _ => by
    have h1 : i < 1 := (List.getElem?_eq_some_iff.mp ha).1
    have h2 : j < 1 := (List.getElem?_eq_some_iff.mp hb).1
    omega, fun _ _ _ => trivial⟩
  have hF : ∀ x, va_A [(q, e0)] H.size x → A x := by
    rintro x (⟨k, e1, h⟩ | h)
    · have hk : k < 1 := (List.getElem?_eq_some_iff.mp h).1
      have hk0 : k = 0 := by omega
      subst hk0
      cases h
      exact hD.2 ws0.length _ xs_last
    · exact hA x (Nat.le_trans hS.1 h)
  refine va_callv (va_runIN (As := av) (rest := rest) S (hM D cy q H.size) cw ⟨xPre.blind, fun U hU hW => ⟨rfl, by rw [hU], by rw [hU]; exact hPc, va_K.moved hW.alike hK, hDc, hw.warm hW⟩⟩ rfl hn hsize rfl (lv_room hroom) hdg hf) hS (fun x _ h => hF x h) hF (fun w t H1 locs ht hvm hw hB hz1 hk1 hS => ?_)
  obtain ⟨hP1, hD1⟩ := hB
  rw [ht] at hP1
  obtain ⟨hP2, hD2⟩ := xs_join hP hD hF hk1 hP1 hD1
  exact kk w H1 locs hw hP2 hD2 hS
theorem xs_newa {cc : ByteArray} {D : va_G} {cy : Nat → ClassId} {ws : va_W} (hx : p.tables.exec = Jvm.exec) (hb : c.code = cc) (harr : (Cond.arrayClass .int).before args s = true) (hK : va_K D vwCl (ztys cy) s) (hP : va_P D vwCl ws H) (hD : va_D A ws) (hS : va_S A s.heap H locs) (hA : ∀ x, s.heap.size ≤ x → A x) {n : Int32} {N : Nat} (hn : ¬ n < 0) (hN : n.toNatClampNeg = N) (hb4 : N * 4 ≤ 536870912) (hc : cells + 1 ≤ R.cells) (hs : slots + N ≤ R.slots) (hdg : decode cc pc = .ok (.newarray .int, 2))
    (kk : ∀ (q : Nat) (H1 : Heap), va_P D vwCl (ws ++ [(q, .inl (cy 0, N, .inl (fun _ => 0)))]) H1 → va_D A (ws ++ [(q, .inl (cy 0, N, .inl (fun _ => 0)))]) → va_S A s.heap H1 locs → W p l e R s m args below meth c H1 locs (cells + 1) (slots + N) Q (F0 m (pc + 2) ls (.ref q :: rest))) : W p l e R s m args below meth c H locs cells slots Q (F0 m pc ls (.int n :: rest)) := by
  refine va_newa (atype := .int) (ty := .int) (a0 := (N, .inl (fun _ => 0))) hx hb harr rfl hK hP hD hS hA (fun cA => rfl) hn hN hb4 hc hs hdg (fun q cA H1 hK' hP' hD' hS' => ?_)
  have hcA : cA = cy 0 := zA_I hK hK'
  subst hcA
  exact kk q H1 hP' hD' hS'
theorem xA_q {D : va_G} {cy : Nat → ClassId} {C : String} {k : Nat} (hk : (ztys cy)[k]? = some (cy k, .object C)) (hK : va_K D vwCl (ztys cy) s) {cA : ClassId} (h : va_K D vwCl (ztys cy ++ [(cA, .object C)]) s) : cA = cy k := by
  obtain ⟨_, _, _, _, _, h1⟩ := (hK.2 k _ hk).2
  obtain ⟨_, _, _, _, _, h2⟩ := (h.2 4 _ rfl).2
  exact Option.some.inj (h2.symm.trans h1)
theorem xs_newq {cc : ByteArray} {own C : String} {index k : Nat} {D : va_G} {cy : Nat → ClassId} {ws : va_W} (hx : p.tables.exec = Jvm.exec) (hb : c.code = cc) (hown : s.vm.findClass own = some m.cls) (hcl : (Cond.classLink own index C).before args s = true) (hov : va_AO C s) (hk : (ztys cy)[k]? = some (cy k, .object C)) (hK : va_K D vwCl (ztys cy) s) (hP : va_P D vwCl ws H) (hD : va_D A ws) (hS : va_S A s.heap H locs) (hA : ∀ x, s.heap.size ≤ x → A x) {n : Int32} {N : Nat} (hn : ¬ n < 0) (hN : n.toNatClampNeg = N) (hb4 : N * 4 ≤ 536870912) (hc : cells + 1 ≤ R.cells) (hs : slots + N ≤ R.slots) (hdg : decode cc pc = .ok (.anewarray index, 3))
    (kk : ∀ (q : Nat) (H1 : Heap), va_P D vwCl (ws ++ [(q, .inl (cy k, N, .inr (.inr (.inr (.inr (fun _ => none))))))]) H1 → va_D A (ws ++ [(q, .inl (cy k, N, .inr (.inr (.inr (.inr (fun _ => none))))))]) → va_S A s.heap H1 locs → W p l e R s m args below meth c H1 locs (cells + 1) (slots + N) Q (F0 m (pc + 3) ls (.ref q :: rest))) : W p l e R s m args below meth c H locs cells slots Q (F0 m pc ls (.int n :: rest)) := by
  refine va_newq hx hb hown hcl hov hK hP hD hS hA hn hN hb4 hc hs hdg (fun q cA H1 hK' hP' hD' hS' => ?_)
  have hcA := xA_q hk hK hK'
  subst hcA
  exact kk q H1 hP' hD' hS'
end XC
