/-! ===== the law's loop: what each call needs ===== -/
abbrev xA (s : State) : Nat → Prop := fun q => s.heap.size ≤ q
def xlC (p : Program) (l : Launch) (s : State) (m : MethodId) (c : Code) (b Ln : Nat) (xs : Nat → Int32) (D : va_G) (cy : Nat → ClassId) (cL : ClassId) (L L2 : Nat → Nat → Nat) : Prop :=
  p.tables.exec = Jvm.exec ∧ c.code = cL_law ∧ c.maxLocals = 9 ∧ s.vm.findClass RL = some m.cls ∧ (∀ w ∈ wsL_law, w.before #[Value.ref b] s = true) ∧ va_X b Ln xs s s.heap ∧ b < s.heap.size ∧ va_K D vwCl (ztys cy ++ [(cL, .long)]) s ∧ zST L (xA s) s s.heap ∧ zST L2 (xA s) s s.heap ∧ xNc s ∧ l.stackTraces = false ∧ Ln ≤ 3072
theorem xk_q {D : va_G} {A : Nat → Prop} {M C : va_W} {x : Nat × va_E} {H : Heap} (h : xJ D A (M ++ (C ++ [x])) H) : va_P D vwCl [x] H := by
  intro k y hy
  have hk : k < 1 := (List.getElem?_eq_some_iff.mp hy).1
  have hk0 : k = 0 := by omega
  subst hk0
  cases hy
  refine h.1 (M.length + C.length) x ?_
  rw [List.getElem?_append_right (by omega)]
  have e : M.length + C.length - M.length = C.length := by omega
  rw [e]
  exact xs_last
section XK
variable {p : Program} {l : Launch} {e : Env} {R : Room} {s : State} {m : MethodId} {args : Array Value} {below : List Frame} {meth : Method} {c : Code} {H : Heap} {locs : List Loc} {cells slots : Nat} {Q : State → Prop}
variable {pc : Nat} {ls : Array Slot} {rest : List Value} {A : Nat → Prop} {D : va_G} {cy : Nat → ClassId} {cL : ClassId} {L : Nat → Nat → Nat} {σ : zMem} {q : Nat} {f : Nat → Int64} {Y : va_W}
theorem xk_arg {cc : ByteArray} {b Ln i : Nat} {xs : Nat → Int32} (j : Nat) {jj : Int} (hx : p.tables.exec = Jvm.exec) (hb : c.code = cc) (hX : va_X b Ln xs s s.heap) (hbl : b < s.heap.size) (hS : va_S (xA s) s.heap H locs) (h0 : ls[0]? = some (.val (.ref b))) (h4 : ls[4]? = some (.val (.int (nI i)))) (hj : i + j < Ln) (hLn : Ln ≤ 3072) (hv : Int32.ofInt jj = nI j)
    (d0 : decode cc pc = .ok (.aload_n 0, 1)) (d1 : decode cc (pc + 1) = .ok (.iload 4, 2)) (d2 : decode cc (pc + 3) = .ok (.iconst jj, 1)) (d3 : decode cc (pc + 4) = .ok (.iadd, 1)) (d4 : decode cc (pc + 5) = .ok (.iaload, 1))
    (kk : W p l e R s m args below meth c H locs cells slots Q (F0 m (pc + 6) ls (.int (xs (i + j)) :: rest))) : W p l e R s m args below meth c H locs cells slots Q (F0 m pc ls rest) := by
  refine lv_aload_n hx hb d0 rfl h0 ?_
  refine lv_iload hx hb d1 h4 ?_
  refine lv_iconst (v := nI j) hx hb d2 hv ?_
  refine lv_iadd hx hb d3 ?_
  rw [nI_add]
  refine va_sld hx hb hX hbl (Nat.not_le.mpr hbl) hS (vp_in_nI hj (by omega)) d4 ?_
  rw [nI_clamp (by omega)]
  exact kk
theorem xk_wrap {y : MethodName} {ws Ts : List Cond} {rm : Room} {o : Option zOut} {cd : Nat → Int32} {bytes cc : ByteArray} {maxL n nL index : Nat} {hh : List (Nat × Nat × Nat × Nat)} {As : List Value} {own : String}
    (M : vx_Met l y ws rm (va_Pc As (xlP D cy cL L (σ, []) q f H.size)) (va_Qi (fun r (u : zMem × (Nat → Int64)) => xlPost o cd r u) (fun u t => xJ D (va_A (xlW cy cL L (σ, []) q f) H.size) (xlW cy cL L (u.1, []) q u.2) t.heap) (va_A (xlW cy cL L (σ, []) q f) H.size)) (vx_X (fun _ : Unit => False) (fun _ _ _ => False) (fun _ => False)) rm.cells rm.slots (va_A (xlW cy cL L (σ, []) q f) H.size))
    (S : CallFix p m c cc nL s args Ts own) (cw : vx_CSW R s args own index y bytes maxL (some .int) hh ws rm rm.cells rm.slots n) (hK : va_K D vwCl (ztys cy ++ [(cL, .long)]) s) (hst : zST L A s s.heap) (hnc : xNc s) (hJ : xJ D A (xlW cy cL L (σ, []) q f ++ Y) H) (hS : va_S A s.heap H locs) (hA : ∀ q : Nat, s.heap.size ≤ q → A q) (hn : As.length = n) (hsize : ls.size = nL) (hdg : decode cc pc = .ok (.invokestatic index, 3)) (hf : cells + rm.cells ≤ R.cells ∧ slots + rm.slots ≤ R.slots)
    (kk : ∀ (r : Int32) (σ1 : zMem) (f1 : Nat → Int64) (H1 : Heap) (locs1 : List Loc), xlPost o cd r (σ1, f1) → xJ D A (xlW cy cL L (σ1, []) q f1 ++ Y) H1 → va_S A s.heap H1 locs1 → W p l e R s m args below meth c H1 locs1 (cells + rm.cells) (slots + rm.slots) Q (F0 m (pc + 3) ls [.int r])) : W p l e R s m args below meth c H locs cells slots Q (F0 m pc ls (As.reverse ++ [])) := by
  have hAH : ∀ x : Nat, H.size ≤ x → A x := fun x h => hA x (Nat.le_trans hS.1 h)
  have hin := xw_inA (xw_front hJ) hAH
  refine vx_calli (vx_runSX (As := As) (rest := []) S M cw ⟨xlP.blind, fun U hU hW => ⟨rfl, by rw [hU], ⟨by rw [hU]; exact (xw_front hJ).1, (xw_front hJ).2.weaken (fun _ _ _ _ => trivial)⟩, va_K.moved hW.alike hK, by rw [hU]; exact hst.pass (fun _ => rfl) hS hin hW, fun x y hx hy hne => (hnc x y hx hy hne).moved hW.alike⟩⟩ rfl hn hsize rfl (lv_room (Nat.le_of_ble_eq_true rfl)) hdg hf) hS (fun x _ h => hin x h) hin (fun _ _ h => h.elim) (fun E ce q9 u t H1 locs1 ht hal hpx => hpx.elim) (fun r u t H1 locs1 ht hal hpost hB hz hk hS1 => ?_)
  have hB2 : xJ D (va_A (xlW cy cL L (σ, []) q f) H.size) (xlW cy cL L (u.1, []) q u.2) H1 := by rw [← ht]; exact hB
  exact kk r u.1 u.2 H1 locs1 hpost (xw_step hJ hAH hk hB2) hS1
end XK
