/-! ===== the law: worlds side by side, and calls out of them ===== -/
def xJ (D : va_G) (A : Nat → Prop) (ws : va_W) (H : Heap) : Prop := va_P D vwCl ws H ∧ va_D A ws
theorem xw_get {X Y : va_W} {i : Nat} {x : Nat × va_E} (h : (Y ++ X)[i]? = some x) : ∃ j, (X ++ Y)[j]? = some x ∧ j = if i < Y.length then X.length + i else i - Y.length := by
  by_cases hi : i < Y.length
  · rw [List.getElem?_append_left hi] at h
    refine ⟨X.length + i, ?_, by rw [if_pos hi]⟩
    rw [List.getElem?_append_right (by omega)]
    have e : X.length + i - X.length = i := by omega
    rw [e]
    exact h
  · rw [List.getElem?_append_right (by omega)] at h
    have hl := (List.getElem?_eq_some_iff.mp h).1
    exact ⟨i - Y.length, by rw [List.getElem?_append_left hl]; exact h, by rw [if_neg hi]⟩
theorem xw_swap {A : Nat → Prop} {D : va_G} {X Y : va_W} {H : Heap} (h : xJ D A (X ++ Y) H) : xJ D A (Y ++ X) H := by
  obtain ⟨hP, hD⟩ := h
  refine ⟨fun k x hx => ?_, fun i j a b ha hb hab => ?_, fun k x hx => ?_⟩
  · obtain ⟨k', h1, -⟩ := xw_get hx
    exact hP k' x h1
  · have la := (List.getElem?_eq_some_iff.mp ha).1
    have lb := (List.getElem?_eq_some_iff.mp hb).1
    rw [List.length_append] at la lb
    obtain ⟨i', a1, a2⟩ := xw_get ha
    obtain ⟨j', b1, b2⟩ := xw_get hb
    have e := hD.1 i' j' a b a1 b1 hab
    rw [a2, b2] at e
    by_cases h1 : i < Y.length
    · rw [if_pos h1] at e
      by_cases h2 : j < Y.length
      · rw [if_pos h2] at e
        omega
      · rw [if_neg h2] at e
        omega
    · rw [if_neg h1] at e
      by_cases h2 : j < Y.length
      · rw [if_pos h2] at e
        omega
      · rw [if_neg h2] at e
        omega
  · obtain ⟨k', h1, -⟩ := xw_get hx
    exact hD.2 k' x h1
theorem xw_front {A : Nat → Prop} {D : va_G} {X Y : va_W} {H : Heap} (h : xJ D A (X ++ Y) H) : xJ D A X H := by
  have old : ∀ (k : Nat) (x : Nat × va_E), X[k]? = some x → (X ++ Y)[k]? = some x := fun k x hx => by rw [List.getElem?_append_left (List.getElem?_eq_some_iff.mp hx).1]; exact hx
  exact ⟨fun k x hx => h.1 k x (old k x hx), fun i j a b ha hb hab => h.2.1 i j a b (old i a ha) (old j b hb) hab, fun k x hx => h.2.2 k x (old k x hx)⟩
theorem xw_inA {A : Nat → Prop} {D : va_G} {X : va_W} {H : Heap} (h : xJ D A X H) (hA : ∀ x : Nat, H.size ≤ x → A x) : ∀ x, va_A X H.size x → A x := by
  rintro x (⟨k, e, hk⟩ | hz)
  · exact h.2.2 k (x, e) hk
  · exact hA x hz
/-- a call that changes the front world only -/
theorem xw_step {A : Nat → Prop} {D : va_G} {X Y X1 : va_W} {H H1 : Heap} (hJ : xJ D A (X ++ Y) H) (hA : ∀ x : Nat, H.size ≤ x → A x) (hk : ∀ x : Nat, x < H.size → ¬ va_A X H.size x → H1[x]? = H[x]?) (hX : xJ D (va_A X H.size) X1 H1) : xJ D A (X1 ++ Y) H1 := by
  have hin := xw_inA (xw_front hJ) hA
  obtain ⟨hP, hD⟩ := hJ
  have back : ∀ (k : Nat) (x : Nat × va_E), Y[k]? = some x → (X ++ Y)[X.length + k]? = some x := fun k x hx => by
    rw [List.getElem?_append_right (by omega)]
    have e : X.length + k - X.length = k := by omega
    rw [e]
    exact hx
  have apart : ∀ (k : Nat) (x : Nat × va_E), Y[k]? = some x → x.1 < H.size ∧ ¬ va_A X H.size x.1 := by
    intro k x hx
    have hl := (hP _ x (back k x hx)).lt
    refine ⟨hl, ?_⟩
    rintro (⟨j, e, h⟩ | h)
    · have hj := (List.getElem?_eq_some_iff.mp h).1
      have := hD.1 j (X.length + k) (x.1, e) x (by rw [List.getElem?_append_left hj]; exact h) (back k x hx) rfl
      omega
    · omega
  refine ⟨fun k x hx => ?_, fun i j a b ha hb hab => ?_, fun k x hx => ?_⟩
  · by_cases hl : k < X1.length
    · rw [List.getElem?_append_left hl] at hx
      exact hX.1 k x hx
    · rw [List.getElem?_append_right (by omega)] at hx
      obtain ⟨h1, h2⟩ := apart _ x hx
      exact (hP _ x (back _ x hx)).kept (hk x.1 h1 h2)
  · by_cases hi : i < X1.length
    · rw [List.getElem?_append_left hi] at ha
      by_cases hj : j < X1.length
      · rw [List.getElem?_append_left hj] at hb
        exact hX.2.1 i j a b ha hb hab
      · rw [List.getElem?_append_right (by omega)] at hb
        exact absurd (hab ▸ hX.2.2 i a ha) (apart _ b hb).2
    · rw [List.getElem?_append_right (by omega)] at ha
      by_cases hj : j < X1.length
      · rw [List.getElem?_append_left hj] at hb
        exact absurd (hab ▸ hX.2.2 j b hb) (apart _ a ha).2
      · rw [List.getElem?_append_right (by omega)] at hb
        have := hD.1 _ _ a b (back _ a ha) (back _ b hb) hab
        omega
  · by_cases hl : k < X1.length
    · rw [List.getElem?_append_left hl] at hx
      exact hin _ (hX.2.2 k x hx)
    · rw [List.getElem?_append_right (by omega)] at hx
      exact hD.2 _ x (back _ x hx)
theorem xs_setl {ws0 : va_W} {x y : Nat × va_E} : (ws0 ++ [x]).set ws0.length y = ws0 ++ [y] := by simp
section XW
variable {p : Program} {l : Launch} {e : Env} {R : Room} {s : State} {m : MethodId} {args : Array Value} {below : List Frame} {meth : Method} {c : Code} {H : Heap} {locs : List Loc} {cells slots : Nat} {Q : State → Prop}
variable {pc : Nat} {ls : Array Slot} {rest st0 : List Value} {a : Array Value} {A : Nat → Prop} {mc ms : Nat} {D : va_G} {cy : Nat → ClassId} {L : Nat → Nat → Nat} {E : zEnv} {as s' : zAS} {Y : va_W} {v : Option zAV}
/-- what stays and what is new behind a call: the framing -/
theorem xw_frame {A1 : Nat → Prop} {st₀ t T' : State} {L9 : List Loc} {H0 : Heap} (h0 : st₀.heap = H) (e1 : T'.heap = t.heap) (hS : va_S A H0 H locs) (hA1 : ∀ q, A1 q → A q) (hL : ∀ q ∈ L9, A1 q.base) (hF : va_F A1 st₀ t) : va_S A H0 T'.heap (locs ++ L9) := by
  obtain ⟨hz, hk⟩ := hF
  rw [h0] at hz hk
  exact ⟨Nat.le_trans hS.1 (by rw [e1]; exact hz), fun q h1 h2 => by rw [e1, hk q (Nat.lt_of_lt_of_le h1 hS.1) (fun z => h2 (hA1 q z))]; exact hS.2.1 q h1 h2, fun q hq => by
    rcases List.mem_append.mp hq with h | h
    · exact hS.2.2 q h
    · exact hA1 _ (hL q h)⟩
theorem xw_after (hr : va_Run p l e R s m args below meth c H locs cells slots mc ms (F0 m pc ls st0) rest (zQ E D cy L v s' (va_A (zws E cy L as) H.size) a) (va_A (zws E cy L as) H.size)) (hJ : xJ D A (zws E cy L as ++ Y) H) (hS : va_S A s.heap H locs) (hA : ∀ q : Nat, s.heap.size ≤ q → A q)
    (kk : ∀ (H1 : Heap) (locs1 : List Loc), xJ D A (zws E cy L s' ++ Y) H1 → va_S A s.heap H1 locs1 → W p l e R s m args below meth c H1 locs1 (cells + mc) (slots + ms) Q (F0 m (pc + 3) ls ((v.map (zc L)).toList ++ rest))) : W p l e R s m args below meth c H locs cells slots Q (F0 m pc ls st0) := by
  intro T hT X
  obtain ⟨v9, st₀, t, T', L9, h0, X', hL, e1, e2, ⟨hv, hZ, hF⟩, st⟩ := hr T hT X
  have hv9 : v9 = v.map (zc L) := by cases hv; rfl
  subst hv9
  have hAH : ∀ x : Nat, H.size ≤ x → A x := fun x h => hA x (Nat.le_trans hS.1 h)
  have hS1 := xw_frame h0 e1 hS (xw_inA (xw_front hJ) hAH) hL hF
  have hk : ∀ x : Nat, x < H.size → ¬ va_A (zws E cy L as) H.size x → T'.heap[x]? = H[x]? := fun x h1 h2 => by
    have := hF.2 x (by rw [h0]; exact h1) h2
    rw [e1, this, h0]
  obtain ⟨t2, a1, b1⟩ := kk T'.heap (locs ++ L9) (xw_step hJ hAH hk (by rw [e1]; exact hZ)) hS1 T' rfl X'
  exact ⟨t2, st t2 a1, b1⟩
theorem xw_val (hr : vx_Run p l e R s m args below meth c H locs cells slots mc ms (F0 m pc ls st0) rest (zQ E D cy L v s' (va_A (zws E cy L as) H.size) a) zNoX (va_A (zws E cy L as) H.size)) (hJ : xJ D A (zws E cy L as ++ Y) H) (hS : va_S A s.heap H locs) (hA : ∀ q : Nat, s.heap.size ≤ q → A q)
    (kk : ∀ (H1 : Heap) (locs1 : List Loc), xJ D A (zws E cy L s' ++ Y) H1 → va_S A s.heap H1 locs1 → W p l e R s m args below meth c H1 locs1 (cells + mc) (slots + ms) Q (F0 m (pc + 3) ls ((v.map (zc L)).toList ++ rest))) : W p l e R s m args below meth c H locs cells slots Q (F0 m pc ls st0) := by
  intro T hT X
  rcases hr T hT X with ⟨v9, st₀, t, T', L9, h0, X', hL, e1, e2, ⟨hv, hZ, hF⟩, st⟩ | ⟨q, st₀, t, T', L9, EE, ce, h0, X', hL, e1, e2, hb, hce, hcv, hcl, st⟩
  · have hv9 : v9 = v.map (zc L) := by cases hv; rfl
    subst hv9
    have hAH : ∀ x : Nat, H.size ≤ x → A x := fun x h => hA x (Nat.le_trans hS.1 h)
    have hS1 := xw_frame h0 e1 hS (xw_inA (xw_front hJ) hAH) hL hF
    have hk : ∀ x : Nat, x < H.size → ¬ va_A (zws E cy L as) H.size x → T'.heap[x]? = H[x]? := fun x h1 h2 => by
      have := hF.2 x (by rw [h0]; exact h1) h2
      rw [e1, this, h0]
    obtain ⟨t2, a1, b1⟩ := kk T'.heap (locs ++ L9) (xw_step hJ hAH hk (by rw [e1]; exact hZ)) hS1 T' rfl X'
    exact ⟨t2, st t2 a1, b1⟩
  · exact hb.elim
theorem xw_exc {x : Nat} {Qn : State → Outcome → State → Prop} (hn : ∀ a b c, ¬ Qn a b c) (hr : vx_Run p l e R s m args below meth c H locs cells slots mc ms (F0 m pc ls st0) rest Qn (zX E D cy L x s' (va_A (zws E cy L as) H.size)) (va_A (zws E cy L as) H.size)) (hJ : xJ D A (zws E cy L as ++ Y) H) (hS : va_S A s.heap H locs) (hA : ∀ q : Nat, s.heap.size ≤ q → A q)
    (kx : ∀ (q9 : Addr) (ce : Cell) (H1 : Heap) (locs1 : List Loc), xJ D A (zws E cy L s' ++ Y) H1 → va_S A s.heap H1 locs1 → H1[q9]? = some ce → ce.vm = .none → s.vm.findClass (zExc x) = some ce.cls → vx_W p l e R s m args below meth c H1 locs1 (cells + mc) (slots + ms) Q (F0 m pc ls rest) q9) : W p l e R s m args below meth c H locs cells slots Q (F0 m pc ls st0) := by
  intro T hT X
  rcases hr T hT X with ⟨v9, st₀, t, T', L9, h0, X', hL, e1, e2, hb, st⟩ | ⟨q, st₀, t, T', L9, EE, ce, h0, X', hL, e1, e2, ⟨hE, hZ, hF⟩, hce, hcv, hcl, st⟩
  · exact (hn _ _ _ hb).elim
  · subst hE
    have hAH : ∀ x : Nat, H.size ≤ x → A x := fun x h => hA x (Nat.le_trans hS.1 h)
    have hS1 := xw_frame h0 e1 hS (xw_inA (xw_front hJ) hAH) hL hF
    have hk : ∀ x : Nat, x < H.size → ¬ va_A (zws E cy L as) H.size x → T'.heap[x]? = H[x]? := fun x h1 h2 => by
      have := hF.2 x (by rw [h0]; exact h1) h2
      rw [e1, this, h0]
    obtain ⟨t2, a1, b1⟩ := kx q ce T'.heap (locs ++ L9) (xw_step hJ hAH hk (by rw [e1]; exact hZ)) hS1 (by rw [e1]; exact hce) hcv hcl T' rfl X'
    exact ⟨t2, st.trans a1, b1⟩
theorem xw_pre {U : State} (hK : va_K D vwCl (ztys cy) s) (hJ : xJ D A (zws E cy L as ++ Y) H) (hS : va_S A s.heap H locs) (hA : ∀ q : Nat, s.heap.size ≤ q → A q) (hst : zST L A s s.heap) (hU : U.heap = H) (hWm : s.WarmedH U.vm) : zPre E D cy L as H.size U := zPre.at hK (xw_front hJ) hS hA hst hU hWm
theorem xw_recv {tys : List (ClassId × FieldType)} {ci : Nat} {r : vw_C} {o : Nat × zSD} (hK : va_K D vwCl tys s) (hJ : xJ D A (zws E cy L as ++ Y) H) (hc : vwCl[ci]? = some r) (hE : (E 0).2 = .inl o) (h1 : 0 < (E 0).1) (ho : o.1 = ci) : ∃ cell : Cell, H[L 0 0]? = some cell ∧ cell.vm.isStatics = false ∧ s.vm.findClass r.1 = some cell.cls := by
  obtain ⟨q, -, hq⟩ := zws_get cy L as (E := E) (k := 0) (i := 0) (by decide) h1
  rw [zcell_obj hE, ho] at hq
  exact va_recv hK (xw_front hJ).1 hc hq
end XW
/-! ===== the law's wrappers ===== -/
abbrev xlA (cL : ClassId) (f : Nat → Int64) : va_E := .inl (cL, 1, .inr (.inl f))
abbrev xlW (cy : Nat → ClassId) (cL : ClassId) (L : Nat → Nat → Nat) (as : zAS) (q : Nat) (f : Nat → Int64) : va_W := zws zEC cy L as ++ [(q, xlA cL f)]
def xNc (U : State) : Prop := ∀ x y, x < 3 → y < 3 → x ≠ y → va_Nc (zExc x) (zExc y) U
def xlP (D : va_G) (cy : Nat → ClassId) (cL : ClassId) (L : Nat → Nat → Nat) (as : zAS) (q : Nat) (f : Nat → Int64) (sz : Nat) (U : State) : Prop :=
  U.heap.size = sz ∧ xJ D (fun _ => True) (xlW cy cL L as q f) U.heap ∧ va_K D vwCl (ztys cy ++ [(cL, .long)]) U ∧ zST L (va_A (xlW cy cL L as q f) sz) U U.heap ∧ xNc U
theorem xlP.blind {D : va_G} {cy : Nat → ClassId} {cL : ClassId} {L : Nat → Nat → Nat} {as : zAS} {q : Nat} {f : Nat → Int64} {sz : Nat} {av : List Value} : FrameBlind (va_Pc av (xlP D cy cL L as q f sz)) := by
  intro a U g mk h
  obtain ⟨q0, q1, qJ, qK, qS, qN⟩ := h
  obtain ⟨h1, h2, h3, h4, h5, h6⟩ := qS
  refine ⟨q0, q1, qJ, va_K.moved (u := U) (U := U.calling g mk a) (Vm.Alike.refl U.vm) qK, ⟨fun q hq => va_Z.moved (u := U) (U := U.calling g mk a) (Vm.Alike.refl U.vm) (h1 q hq), fun t ht => va_T.moved (u := U) (U := U.calling g mk a) (Vm.Alike.refl U.vm) (h2 t ht), vx_Zq.moved (u := U) (U := U.calling g mk a) (Vm.Alike.refl U.vm) h3, vx_Zq.moved (u := U) (U := U.calling g mk a) (Vm.Alike.refl U.vm) h4, fun q hq => ?_, fun x => zBad_same (s := U) (U := U.calling g mk a) rfl (h6 x)⟩, fun x y hx hy hne => va_Nc.moved (u := U) (U := U.calling g mk a) (Vm.Alike.refl U.vm) (qN x y hx hy hne)⟩
  obtain ⟨sa, hsa⟩ := h5 q hq
  exact ⟨sa, vk_R.same (u := U) (U := U.calling g mk a) rfl hsa⟩
abbrev xlPost (o : Option zOut) (cd : Nat → Int32) (r : Int32) (u : zMem × (Nat → Int64)) : Prop := (∃ v, o = some (.inl (some (zI v)), (u.1, [])) ∧ r = 0 ∧ u.2 0 = v.toInt64) ∨ (∃ x, o = some (.inr x, (u.1, [])) ∧ r = cd x)
def xlMet (l : Launch) (y : MethodName) (ws : List Cond) (rm : Room) (fn : zMem → Option zOut) (cd : Nat → Int32) (va : Nat → Nat → List Value) : Prop := ∀ (D : va_G) (cy : Nat → ClassId) (cL : ClassId) (L : Nat → Nat → Nat) (σ : zMem) (q : Nat) (f : Nat → Int64) (sz : Nat), l.stackTraces = false →
  ((∃ v σ1, fn σ = some (.inl (some (zI v)), (σ1, []))) ∨ ∃ x σ1, fn σ = some (.inr x, (σ1, [])) ∧ x ≤ 2 ∧ cd x ≠ 0) →
  vx_Met l y ws rm (va_Pc (va (L 0 0) q) (xlP D cy cL L (σ, []) q f sz)) (va_Qi (fun r (u : zMem × (Nat → Int64)) => xlPost (fn σ) cd r u) (fun u t => xJ D (va_A (xlW cy cL L (σ, []) q f) sz) (xlW cy cL L (u.1, []) q u.2) t.heap) (va_A (xlW cy cL L (σ, []) q f) sz)) (vx_X (fun _ : Unit => False) (fun _ _ _ => False) (fun _ => False)) rm.cells rm.slots (va_A (xlW cy cL L (σ, []) q f) sz)
theorem xl_cast {L : Nat → Nat → Nat} {A : Nat → Prop} {s : State} {args : Array Value} (h : zST L A s s.heap) (x : Nat) : (Cond.castable (zExc x) (zExc x)).before args s = true := va_Nw.use (by rfl) (h.2.2.2.2.2 x _ List.mem_cons_self)
