/-! ===== the wrappers of the law (printed by wip/whole/gen_law.py) ===== -/
set_option maxHeartbeats 4000000 in
set_option maxRecDepth 100000 in
theorem xl_begin (l : Launch) (a1 : Int32) : xlMet l yL_begin wsL_begin ({ frames := 7, cells := 1, slots := 6, locals := 121 } : Room) (fun σ => m_X8_begin [zO 0 0, zI a1] (σ, [])) (zcd 1 0 0) (fun h0 q => [.ref h0, .int a1, .ref q]) := by
  intro D cy cL L σ q f sz hfl hO
  refine vx_ofWH (cc := cL_begin) (maxL := 4) (ret := some .int) (hh := [(0, 9, 12, 13)]) (by decide) rfl ?_
  intro p e s m args below meth c s₁ B hml hv
  obtain ⟨rfl, hsz, hJ, hK, hst, hnc⟩ := hv
  have hx := B.exec
  have hb := B.bytes
  have hr := B.returns
  have hts := atoms_spec (ws := wsL_begin) B.pre
  have hown : s.vm.findClass RL = some m.cls := findClass_of_methodNamed B.named
  have hlocks := B.notSynchronized
  have htab := vx_table (x := yL_begin) B (hts _ List.mem_cons_self)
  subst hsz
  have hK3 : va_K D vwCl (ztys cy) s := hK.sub [0, 1, 2] rfl
  have hD := hJ.2.self (sz := s.heap.size)
  have hP := hJ.1
  clear hJ
  generalize hAe : va_A (xlW cy cL L (σ, []) q f) s.heap.size = A at hst hD ⊢
  have hA : ∀ q : Nat, s.heap.size ≤ q → A q := fun q h => by rw [← hAe]; exact Or.inr h
  have hJ : xJ D A (zws zEC cy L (σ, []) ++ [(q, xlA cL f)]) s.heap := ⟨hP, hD⟩
  have hS : va_S A s.heap s.heap [] := va_S.rf
  have hl := lv_entry ([.ref (L 0 0), .int a1, .ref q]) (n := 4) (Nat.le_of_ble_eq_true rfl)
  show W p l e _ s m _ below meth c s.heap [] 0 0 _ (entryFrame m ([.ref (L 0 0), .int a1, .ref q] : List Value).toArray 4)
  rw [lg_entry_eq]
  generalize (lg_sl ([.ref (L 0 0), .int a1, .ref q]) ++ List.replicate (4 - (lg_sl ([.ref (L 0 0), .int a1, .ref q])).length) Slot.unset).toArray = ls at hl ⊢
  have hl : lv_has ls 4 [(0, .ref (L 0 0)), (1, .int a1), (2, .ref q)] := hl
  refine lv_aload_n hx hb dL_begin_0 rfl (lv_at hl 2 rfl) ?_
  refine lv_iconst (v := 0) hx hb dL_begin_1 (by decide) ?_
  refine lv_aload_n hx hb dL_begin_2 rfl (lv_at hl 0 rfl) ?_
  refine lv_iload_n hx hb dL_begin_3 rfl (lv_at hl 1 rfl) ?_
  rcases hO with ⟨v, σ1, hO⟩ | ⟨x, σ1, hO, hx2, hcd⟩
  · have M : vx_Met l yX8_begin wsX8_begin zR_X8_begin (va_Pc ([zO 0 0, zI a1].map (zc L)) (zPre zEC D cy L (σ, []) s.heap.size)) (zQ zEC D cy L (some (zI v)) (σ1, []) (va_A (zws zEC cy L (σ, [])) s.heap.size)) zNoX zR_X8_begin.cells zR_X8_begin.slots (va_A (zws zEC cy L (σ, [])) s.heap.size) := zM_X8_begin.2 l D cy L [zO 0 0, zI a1] (σ, []) (.inl (some (zI v)), (σ1, [])) s.heap.size hfl hO
    refine xw_val (v := some (zI v)) (s' := (σ1, [])) (as := (σ, [])) (Y := [(q, xlA cL f)]) (vx_runV (As := [.int a1]) (rest := [.int 0, .ref q]) ⟨hx, hb, hml, hown, hts⟩ M (cwV 1 hts gL_begin_X8_begin rfl rfl rfl (by decide +kernel) ⟨Nat.le_of_ble_eq_true rfl, Nat.le_of_ble_eq_true rfl⟩) ⟨zPre.blind, xw_recv hK hJ (ci := 8) rfl rfl (by decide) rfl, fun U hU hW => ⟨rfl, xw_pre hK3 hJ hS hA hst hU hW⟩⟩ rfl rfl hl.1 rfl (lv_room (Nat.le_of_ble_eq_true rfl)) dL_begin_4 ⟨Nat.le_of_ble_eq_true rfl, Nat.le_of_ble_eq_true rfl⟩) hJ hS hA (fun H locs hJ hS => ?_)
    refine lv_i2l hx hb dL_begin_7 rfl ?_
    refine va_last hx hb hK hJ.1 hJ.2 hS (zws zEC cy L (σ1, [])).length 3 xs_last rfl (i := 0) (vp_in_nI (show 0 < 1 by decide) (by decide)) dL_begin_8 (fun H locs hP hD hS => ?_)
    rw [xs_setl] at hP hD
    refine lv_goto (tgt := 15) hx hb dL_begin_9 (by decide) ?_
    refine lv_iconst (v := 0) hx hb dL_begin_15 (by decide) ?_
    refine W.widen (k := 1) (n := 6) (Nat.le_of_ble_eq_true rfl) (Nat.le_of_ble_eq_true rfl) (vx_ret ?_)
    exact W.zret (v := 0) (ty := .int) hx hb hr rfl (fun t ht hW => ⟨⟨0, (σ1, vp_updL f 0 v.toInt64), rfl, Or.inl ⟨v, hO, rfl, rfl⟩, by show xJ _ _ _ t.heap; rw [ht]; exact ⟨hP, hD⟩⟩, hS.F ht⟩) hS.2.2 dL_begin_16
  · have M : vx_Met l yX8_begin wsX8_begin zR_X8_begin (va_Pc ([zO 0 0, zI a1].map (zc L)) (zPre zEC D cy L (σ, []) s.heap.size)) (fun _ _ _ _ => False) (zX zEC D cy L x (σ1, []) (va_A (zws zEC cy L (σ, [])) s.heap.size)) zR_X8_begin.cells zR_X8_begin.slots (va_A (zws zEC cy L (σ, [])) s.heap.size) := zM_X8_begin.2 l D cy L [zO 0 0, zI a1] (σ, []) (.inr x, (σ1, [])) s.heap.size hfl hO
    refine xw_exc (x := x) (s' := (σ1, [])) (as := (σ, [])) (Y := [(q, xlA cL f)]) (fun _ _ _ h => h) (vx_runV (As := [.int a1]) (rest := [.int 0, .ref q]) ⟨hx, hb, hml, hown, hts⟩ M (cwV 1 hts gL_begin_X8_begin rfl rfl rfl (by decide +kernel) ⟨Nat.le_of_ble_eq_true rfl, Nat.le_of_ble_eq_true rfl⟩) ⟨zPre.blind, xw_recv hK hJ (ci := 8) rfl rfl (by decide) rfl, fun U hU hW => ⟨rfl, xw_pre hK3 hJ hS hA hst hU hW⟩⟩ rfl rfl hl.1 rfl (lv_room (Nat.le_of_ble_eq_true rfl)) dL_begin_4 ⟨Nat.le_of_ble_eq_true rfl, Nat.le_of_ble_eq_true rfl⟩) hJ hS hA (fun q9 ce H locs hJ hS hce hcv hcl => ?_)
    have h3 : x = 0 ∨ x = 1 ∨ x = 2 := by omega
    rcases h3 with rfl | rfl | rfl
    · refine vx_catch (name := "java/lang/IllegalArgumentException") (E := zExc 0) hown [] ⟨0, 9, 12, 13⟩ [] (by rw [htab]; rfl) (fun _ h => nomatch h) (by decide) (by decide) (hts (.classLink RL 13 "java/lang/IllegalArgumentException") (List.mem_of_getElem? (i := 1) rfl)) (xl_cast hst 0) hce hcv hcl ?_
      refine lv_astore_n (lv' := [(3, .ref q9), (0, .ref (L 0 0)), (1, .int a1), (2, .ref q)]) hx hb dL_begin_12 rfl hl (by decide) rfl (fun ls hl => ?_)
      refine lv_iconst (v := 1) hx hb dL_begin_13 (by decide) ?_
      refine W.widen (k := 1) (n := 6) (Nat.le_of_ble_eq_true rfl) (Nat.le_of_ble_eq_true rfl) (vx_ret ?_)
      exact W.zret (v := 1) (ty := .int) hx hb hr rfl (fun t ht hW => ⟨⟨1, (σ1, f), rfl, Or.inr ⟨0, hO, rfl⟩, by show xJ _ _ _ t.heap; rw [ht]; exact hJ⟩, hS.F ht⟩) hS.2.2 dL_begin_14
    · exact absurd rfl hcd
    · exact absurd rfl hcd
set_option maxHeartbeats 4000000 in
set_option maxRecDepth 100000 in
theorem xl_inverse (l : Launch) (a1 : Int32) : xlMet l yL_inverse wsL_inverse ({ frames := 7, cells := 1, slots := 6, locals := 121 } : Room) (fun σ => m_X8_inverse [zO 0 0, zI a1] (σ, [])) (zcd 1 0 0) (fun h0 q => [.ref h0, .int a1, .ref q]) := by
  intro D cy cL L σ q f sz hfl hO
  refine vx_ofWH (cc := cL_inverse) (maxL := 4) (ret := some .int) (hh := [(0, 9, 12, 13)]) (by decide) rfl ?_
  intro p e s m args below meth c s₁ B hml hv
  obtain ⟨rfl, hsz, hJ, hK, hst, hnc⟩ := hv
  have hx := B.exec
  have hb := B.bytes
  have hr := B.returns
  have hts := atoms_spec (ws := wsL_inverse) B.pre
  have hown : s.vm.findClass RL = some m.cls := findClass_of_methodNamed B.named
  have hlocks := B.notSynchronized
  have htab := vx_table (x := yL_inverse) B (hts _ List.mem_cons_self)
  subst hsz
  have hK3 : va_K D vwCl (ztys cy) s := hK.sub [0, 1, 2] rfl
  have hD := hJ.2.self (sz := s.heap.size)
  have hP := hJ.1
  clear hJ
  generalize hAe : va_A (xlW cy cL L (σ, []) q f) s.heap.size = A at hst hD ⊢
  have hA : ∀ q : Nat, s.heap.size ≤ q → A q := fun q h => by rw [← hAe]; exact Or.inr h
  have hJ : xJ D A (zws zEC cy L (σ, []) ++ [(q, xlA cL f)]) s.heap := ⟨hP, hD⟩
  have hS : va_S A s.heap s.heap [] := va_S.rf
  have hl := lv_entry ([.ref (L 0 0), .int a1, .ref q]) (n := 4) (Nat.le_of_ble_eq_true rfl)
  show W p l e _ s m _ below meth c s.heap [] 0 0 _ (entryFrame m ([.ref (L 0 0), .int a1, .ref q] : List Value).toArray 4)
  rw [lg_entry_eq]
  generalize (lg_sl ([.ref (L 0 0), .int a1, .ref q]) ++ List.replicate (4 - (lg_sl ([.ref (L 0 0), .int a1, .ref q])).length) Slot.unset).toArray = ls at hl ⊢
  have hl : lv_has ls 4 [(0, .ref (L 0 0)), (1, .int a1), (2, .ref q)] := hl
  refine lv_aload_n hx hb dL_inverse_0 rfl (lv_at hl 2 rfl) ?_
  refine lv_iconst (v := 0) hx hb dL_inverse_1 (by decide) ?_
  refine lv_aload_n hx hb dL_inverse_2 rfl (lv_at hl 0 rfl) ?_
  refine lv_iload_n hx hb dL_inverse_3 rfl (lv_at hl 1 rfl) ?_
  rcases hO with ⟨v, σ1, hO⟩ | ⟨x, σ1, hO, hx2, hcd⟩
  · have M : vx_Met l yX8_inverse wsX8_inverse zR_X8_inverse (va_Pc ([zO 0 0, zI a1].map (zc L)) (zPre zEC D cy L (σ, []) s.heap.size)) (zQ zEC D cy L (some (zI v)) (σ1, []) (va_A (zws zEC cy L (σ, [])) s.heap.size)) zNoX zR_X8_inverse.cells zR_X8_inverse.slots (va_A (zws zEC cy L (σ, [])) s.heap.size) := zM_X8_inverse.2 l D cy L [zO 0 0, zI a1] (σ, []) (.inl (some (zI v)), (σ1, [])) s.heap.size hfl hO
    refine xw_val (v := some (zI v)) (s' := (σ1, [])) (as := (σ, [])) (Y := [(q, xlA cL f)]) (vx_runV (As := [.int a1]) (rest := [.int 0, .ref q]) ⟨hx, hb, hml, hown, hts⟩ M (cwV 1 hts gL_inverse_X8_inverse rfl rfl rfl (by decide +kernel) ⟨Nat.le_of_ble_eq_true rfl, Nat.le_of_ble_eq_true rfl⟩) ⟨zPre.blind, xw_recv hK hJ (ci := 8) rfl rfl (by decide) rfl, fun U hU hW => ⟨rfl, xw_pre hK3 hJ hS hA hst hU hW⟩⟩ rfl rfl hl.1 rfl (lv_room (Nat.le_of_ble_eq_true rfl)) dL_inverse_4 ⟨Nat.le_of_ble_eq_true rfl, Nat.le_of_ble_eq_true rfl⟩) hJ hS hA (fun H locs hJ hS => ?_)
    refine lv_i2l hx hb dL_inverse_7 rfl ?_
    refine va_last hx hb hK hJ.1 hJ.2 hS (zws zEC cy L (σ1, [])).length 3 xs_last rfl (i := 0) (vp_in_nI (show 0 < 1 by decide) (by decide)) dL_inverse_8 (fun H locs hP hD hS => ?_)
    rw [xs_setl] at hP hD
    refine lv_goto (tgt := 15) hx hb dL_inverse_9 (by decide) ?_
    refine lv_iconst (v := 0) hx hb dL_inverse_15 (by decide) ?_
    refine W.widen (k := 1) (n := 6) (Nat.le_of_ble_eq_true rfl) (Nat.le_of_ble_eq_true rfl) (vx_ret ?_)
    exact W.zret (v := 0) (ty := .int) hx hb hr rfl (fun t ht hW => ⟨⟨0, (σ1, vp_updL f 0 v.toInt64), rfl, Or.inl ⟨v, hO, rfl, rfl⟩, by show xJ _ _ _ t.heap; rw [ht]; exact ⟨hP, hD⟩⟩, hS.F ht⟩) hS.2.2 dL_inverse_16
  · have M : vx_Met l yX8_inverse wsX8_inverse zR_X8_inverse (va_Pc ([zO 0 0, zI a1].map (zc L)) (zPre zEC D cy L (σ, []) s.heap.size)) (fun _ _ _ _ => False) (zX zEC D cy L x (σ1, []) (va_A (zws zEC cy L (σ, [])) s.heap.size)) zR_X8_inverse.cells zR_X8_inverse.slots (va_A (zws zEC cy L (σ, [])) s.heap.size) := zM_X8_inverse.2 l D cy L [zO 0 0, zI a1] (σ, []) (.inr x, (σ1, [])) s.heap.size hfl hO
    refine xw_exc (x := x) (s' := (σ1, [])) (as := (σ, [])) (Y := [(q, xlA cL f)]) (fun _ _ _ h => h) (vx_runV (As := [.int a1]) (rest := [.int 0, .ref q]) ⟨hx, hb, hml, hown, hts⟩ M (cwV 1 hts gL_inverse_X8_inverse rfl rfl rfl (by decide +kernel) ⟨Nat.le_of_ble_eq_true rfl, Nat.le_of_ble_eq_true rfl⟩) ⟨zPre.blind, xw_recv hK hJ (ci := 8) rfl rfl (by decide) rfl, fun U hU hW => ⟨rfl, xw_pre hK3 hJ hS hA hst hU hW⟩⟩ rfl rfl hl.1 rfl (lv_room (Nat.le_of_ble_eq_true rfl)) dL_inverse_4 ⟨Nat.le_of_ble_eq_true rfl, Nat.le_of_ble_eq_true rfl⟩) hJ hS hA (fun q9 ce H locs hJ hS hce hcv hcl => ?_)
    have h3 : x = 0 ∨ x = 1 ∨ x = 2 := by omega
    rcases h3 with rfl | rfl | rfl
    · refine vx_catch (name := "java/lang/IllegalArgumentException") (E := zExc 0) hown [] ⟨0, 9, 12, 13⟩ [] (by rw [htab]; rfl) (fun _ h => nomatch h) (by decide) (by decide) (hts (.classLink RL 13 "java/lang/IllegalArgumentException") (List.mem_of_getElem? (i := 1) rfl)) (xl_cast hst 0) hce hcv hcl ?_
      refine lv_astore_n (lv' := [(3, .ref q9), (0, .ref (L 0 0)), (1, .int a1), (2, .ref q)]) hx hb dL_inverse_12 rfl hl (by decide) rfl (fun ls hl => ?_)
      refine lv_iconst (v := 1) hx hb dL_inverse_13 (by decide) ?_
      refine W.widen (k := 1) (n := 6) (Nat.le_of_ble_eq_true rfl) (Nat.le_of_ble_eq_true rfl) (vx_ret ?_)
      exact W.zret (v := 1) (ty := .int) hx hb hr rfl (fun t ht hW => ⟨⟨1, (σ1, f), rfl, Or.inr ⟨0, hO, rfl⟩, by show xJ _ _ _ t.heap; rw [ht]; exact hJ⟩, hS.F ht⟩) hS.2.2 dL_inverse_14
    · exact absurd rfl hcd
    · exact absurd rfl hcd
set_option maxHeartbeats 4000000 in
set_option maxRecDepth 100000 in
theorem xl_root (l : Launch) (a1 : Int32) : xlMet l yL_root wsL_root ({ frames := 7, cells := 1, slots := 6, locals := 121 } : Room) (fun σ => m_X8_root [zO 0 0, zI a1] (σ, [])) (zcd 1 0 0) (fun h0 q => [.ref h0, .int a1, .ref q]) := by
  intro D cy cL L σ q f sz hfl hO
  refine vx_ofWH (cc := cL_root) (maxL := 4) (ret := some .int) (hh := [(0, 9, 12, 13)]) (by decide) rfl ?_
  intro p e s m args below meth c s₁ B hml hv
  obtain ⟨rfl, hsz, hJ, hK, hst, hnc⟩ := hv
  have hx := B.exec
  have hb := B.bytes
  have hr := B.returns
  have hts := atoms_spec (ws := wsL_root) B.pre
  have hown : s.vm.findClass RL = some m.cls := findClass_of_methodNamed B.named
  have hlocks := B.notSynchronized
  have htab := vx_table (x := yL_root) B (hts _ List.mem_cons_self)
  subst hsz
  have hK3 : va_K D vwCl (ztys cy) s := hK.sub [0, 1, 2] rfl
  have hD := hJ.2.self (sz := s.heap.size)
  have hP := hJ.1
  clear hJ
  generalize hAe : va_A (xlW cy cL L (σ, []) q f) s.heap.size = A at hst hD ⊢
  have hA : ∀ q : Nat, s.heap.size ≤ q → A q := fun q h => by rw [← hAe]; exact Or.inr h
  have hJ : xJ D A (zws zEC cy L (σ, []) ++ [(q, xlA cL f)]) s.heap := ⟨hP, hD⟩
  have hS : va_S A s.heap s.heap [] := va_S.rf
  have hl := lv_entry ([.ref (L 0 0), .int a1, .ref q]) (n := 4) (Nat.le_of_ble_eq_true rfl)
  show W p l e _ s m _ below meth c s.heap [] 0 0 _ (entryFrame m ([.ref (L 0 0), .int a1, .ref q] : List Value).toArray 4)
  rw [lg_entry_eq]
  generalize (lg_sl ([.ref (L 0 0), .int a1, .ref q]) ++ List.replicate (4 - (lg_sl ([.ref (L 0 0), .int a1, .ref q])).length) Slot.unset).toArray = ls at hl ⊢
  have hl : lv_has ls 4 [(0, .ref (L 0 0)), (1, .int a1), (2, .ref q)] := hl
  refine lv_aload_n hx hb dL_root_0 rfl (lv_at hl 2 rfl) ?_
  refine lv_iconst (v := 0) hx hb dL_root_1 (by decide) ?_
  refine lv_aload_n hx hb dL_root_2 rfl (lv_at hl 0 rfl) ?_
  refine lv_iload_n hx hb dL_root_3 rfl (lv_at hl 1 rfl) ?_
  rcases hO with ⟨v, σ1, hO⟩ | ⟨x, σ1, hO, hx2, hcd⟩
  · have M : vx_Met l yX8_root wsX8_root zR_X8_root (va_Pc ([zO 0 0, zI a1].map (zc L)) (zPre zEC D cy L (σ, []) s.heap.size)) (zQ zEC D cy L (some (zI v)) (σ1, []) (va_A (zws zEC cy L (σ, [])) s.heap.size)) zNoX zR_X8_root.cells zR_X8_root.slots (va_A (zws zEC cy L (σ, [])) s.heap.size) := zM_X8_root.2 l D cy L [zO 0 0, zI a1] (σ, []) (.inl (some (zI v)), (σ1, [])) s.heap.size hfl hO
    refine xw_val (v := some (zI v)) (s' := (σ1, [])) (as := (σ, [])) (Y := [(q, xlA cL f)]) (vx_runV (As := [.int a1]) (rest := [.int 0, .ref q]) ⟨hx, hb, hml, hown, hts⟩ M (cwV 1 hts gL_root_X8_root rfl rfl rfl (by decide +kernel) ⟨Nat.le_of_ble_eq_true rfl, Nat.le_of_ble_eq_true rfl⟩) ⟨zPre.blind, xw_recv hK hJ (ci := 8) rfl rfl (by decide) rfl, fun U hU hW => ⟨rfl, xw_pre hK3 hJ hS hA hst hU hW⟩⟩ rfl rfl hl.1 rfl (lv_room (Nat.le_of_ble_eq_true rfl)) dL_root_4 ⟨Nat.le_of_ble_eq_true rfl, Nat.le_of_ble_eq_true rfl⟩) hJ hS hA (fun H locs hJ hS => ?_)
    refine lv_i2l hx hb dL_root_7 rfl ?_
    refine va_last hx hb hK hJ.1 hJ.2 hS (zws zEC cy L (σ1, [])).length 3 xs_last rfl (i := 0) (vp_in_nI (show 0 < 1 by decide) (by decide)) dL_root_8 (fun H locs hP hD hS => ?_)
    rw [xs_setl] at hP hD
    refine lv_goto (tgt := 15) hx hb dL_root_9 (by decide) ?_
    refine lv_iconst (v := 0) hx hb dL_root_15 (by decide) ?_
    refine W.widen (k := 1) (n := 6) (Nat.le_of_ble_eq_true rfl) (Nat.le_of_ble_eq_true rfl) (vx_ret ?_)
    exact W.zret (v := 0) (ty := .int) hx hb hr rfl (fun t ht hW => ⟨⟨0, (σ1, vp_updL f 0 v.toInt64), rfl, Or.inl ⟨v, hO, rfl, rfl⟩, by show xJ _ _ _ t.heap; rw [ht]; exact ⟨hP, hD⟩⟩, hS.F ht⟩) hS.2.2 dL_root_16
  · have M : vx_Met l yX8_root wsX8_root zR_X8_root (va_Pc ([zO 0 0, zI a1].map (zc L)) (zPre zEC D cy L (σ, []) s.heap.size)) (fun _ _ _ _ => False) (zX zEC D cy L x (σ1, []) (va_A (zws zEC cy L (σ, [])) s.heap.size)) zR_X8_root.cells zR_X8_root.slots (va_A (zws zEC cy L (σ, [])) s.heap.size) := zM_X8_root.2 l D cy L [zO 0 0, zI a1] (σ, []) (.inr x, (σ1, [])) s.heap.size hfl hO
    refine xw_exc (x := x) (s' := (σ1, [])) (as := (σ, [])) (Y := [(q, xlA cL f)]) (fun _ _ _ h => h) (vx_runV (As := [.int a1]) (rest := [.int 0, .ref q]) ⟨hx, hb, hml, hown, hts⟩ M (cwV 1 hts gL_root_X8_root rfl rfl rfl (by decide +kernel) ⟨Nat.le_of_ble_eq_true rfl, Nat.le_of_ble_eq_true rfl⟩) ⟨zPre.blind, xw_recv hK hJ (ci := 8) rfl rfl (by decide) rfl, fun U hU hW => ⟨rfl, xw_pre hK3 hJ hS hA hst hU hW⟩⟩ rfl rfl hl.1 rfl (lv_room (Nat.le_of_ble_eq_true rfl)) dL_root_4 ⟨Nat.le_of_ble_eq_true rfl, Nat.le_of_ble_eq_true rfl⟩) hJ hS hA (fun q9 ce H locs hJ hS hce hcv hcl => ?_)
    have h3 : x = 0 ∨ x = 1 ∨ x = 2 := by omega
    rcases h3 with rfl | rfl | rfl
    · refine vx_catch (name := "java/lang/IllegalArgumentException") (E := zExc 0) hown [] ⟨0, 9, 12, 13⟩ [] (by rw [htab]; rfl) (fun _ h => nomatch h) (by decide) (by decide) (hts (.classLink RL 13 "java/lang/IllegalArgumentException") (List.mem_of_getElem? (i := 1) rfl)) (xl_cast hst 0) hce hcv hcl ?_
      refine lv_astore_n (lv' := [(3, .ref q9), (0, .ref (L 0 0)), (1, .int a1), (2, .ref q)]) hx hb dL_root_12 rfl hl (by decide) rfl (fun ls hl => ?_)
      refine lv_iconst (v := 1) hx hb dL_root_13 (by decide) ?_
      refine W.widen (k := 1) (n := 6) (Nat.le_of_ble_eq_true rfl) (Nat.le_of_ble_eq_true rfl) (vx_ret ?_)
      exact W.zret (v := 1) (ty := .int) hx hb hr rfl (fun t ht hW => ⟨⟨1, (σ1, f), rfl, Or.inr ⟨0, hO, rfl⟩, by show xJ _ _ _ t.heap; rw [ht]; exact hJ⟩, hS.F ht⟩) hS.2.2 dL_root_14
    · exact absurd rfl hcd
    · exact absurd rfl hcd
set_option maxHeartbeats 4000000 in
set_option maxRecDepth 100000 in
theorem xl_count (l : Launch) (a1 : Int32) : xlMet l yL_count wsL_count ({ frames := 7, cells := 1, slots := 6, locals := 121 } : Room) (fun σ => m_X8_count [zO 0 0, zI a1] (σ, [])) (zcd 0 1 0) (fun h0 q => [.ref h0, .int a1, .ref q]) := by
  intro D cy cL L σ q f sz hfl hO
  refine vx_ofWH (cc := cL_count) (maxL := 4) (ret := some .int) (hh := [(0, 9, 12, 24)]) (by decide) rfl ?_
  intro p e s m args below meth c s₁ B hml hv
  obtain ⟨rfl, hsz, hJ, hK, hst, hnc⟩ := hv
  have hx := B.exec
  have hb := B.bytes
  have hr := B.returns
  have hts := atoms_spec (ws := wsL_count) B.pre
  have hown : s.vm.findClass RL = some m.cls := findClass_of_methodNamed B.named
  have hlocks := B.notSynchronized
  have htab := vx_table (x := yL_count) B (hts _ List.mem_cons_self)
  subst hsz
  have hK3 : va_K D vwCl (ztys cy) s := hK.sub [0, 1, 2] rfl
  have hD := hJ.2.self (sz := s.heap.size)
  have hP := hJ.1
  clear hJ
  generalize hAe : va_A (xlW cy cL L (σ, []) q f) s.heap.size = A at hst hD ⊢
  have hA : ∀ q : Nat, s.heap.size ≤ q → A q := fun q h => by rw [← hAe]; exact Or.inr h
  have hJ : xJ D A (zws zEC cy L (σ, []) ++ [(q, xlA cL f)]) s.heap := ⟨hP, hD⟩
  have hS : va_S A s.heap s.heap [] := va_S.rf
  have hl := lv_entry ([.ref (L 0 0), .int a1, .ref q]) (n := 4) (Nat.le_of_ble_eq_true rfl)
  show W p l e _ s m _ below meth c s.heap [] 0 0 _ (entryFrame m ([.ref (L 0 0), .int a1, .ref q] : List Value).toArray 4)
  rw [lg_entry_eq]
  generalize (lg_sl ([.ref (L 0 0), .int a1, .ref q]) ++ List.replicate (4 - (lg_sl ([.ref (L 0 0), .int a1, .ref q])).length) Slot.unset).toArray = ls at hl ⊢
  have hl : lv_has ls 4 [(0, .ref (L 0 0)), (1, .int a1), (2, .ref q)] := hl
  refine lv_aload_n hx hb dL_count_0 rfl (lv_at hl 2 rfl) ?_
  refine lv_iconst (v := 0) hx hb dL_count_1 (by decide) ?_
  refine lv_aload_n hx hb dL_count_2 rfl (lv_at hl 0 rfl) ?_
  refine lv_iload_n hx hb dL_count_3 rfl (lv_at hl 1 rfl) ?_
  rcases hO with ⟨v, σ1, hO⟩ | ⟨x, σ1, hO, hx2, hcd⟩
  · have M : vx_Met l yX8_count wsX8_count zR_X8_count (va_Pc ([zO 0 0, zI a1].map (zc L)) (zPre zEC D cy L (σ, []) s.heap.size)) (zQ zEC D cy L (some (zI v)) (σ1, []) (va_A (zws zEC cy L (σ, [])) s.heap.size)) zNoX zR_X8_count.cells zR_X8_count.slots (va_A (zws zEC cy L (σ, [])) s.heap.size) := zM_X8_count.2 l D cy L [zO 0 0, zI a1] (σ, []) (.inl (some (zI v)), (σ1, [])) s.heap.size hfl hO
    refine xw_val (v := some (zI v)) (s' := (σ1, [])) (as := (σ, [])) (Y := [(q, xlA cL f)]) (vx_runV (As := [.int a1]) (rest := [.int 0, .ref q]) ⟨hx, hb, hml, hown, hts⟩ M (cwV 1 hts gL_count_X8_count rfl rfl rfl (by decide +kernel) ⟨Nat.le_of_ble_eq_true rfl, Nat.le_of_ble_eq_true rfl⟩) ⟨zPre.blind, xw_recv hK hJ (ci := 8) rfl rfl (by decide) rfl, fun U hU hW => ⟨rfl, xw_pre hK3 hJ hS hA hst hU hW⟩⟩ rfl rfl hl.1 rfl (lv_room (Nat.le_of_ble_eq_true rfl)) dL_count_4 ⟨Nat.le_of_ble_eq_true rfl, Nat.le_of_ble_eq_true rfl⟩) hJ hS hA (fun H locs hJ hS => ?_)
    refine lv_i2l hx hb dL_count_7 rfl ?_
    refine va_last hx hb hK hJ.1 hJ.2 hS (zws zEC cy L (σ1, [])).length 3 xs_last rfl (i := 0) (vp_in_nI (show 0 < 1 by decide) (by decide)) dL_count_8 (fun H locs hP hD hS => ?_)
    rw [xs_setl] at hP hD
    refine lv_goto (tgt := 15) hx hb dL_count_9 (by decide) ?_
    refine lv_iconst (v := 0) hx hb dL_count_15 (by decide) ?_
    refine W.widen (k := 1) (n := 6) (Nat.le_of_ble_eq_true rfl) (Nat.le_of_ble_eq_true rfl) (vx_ret ?_)
    exact W.zret (v := 0) (ty := .int) hx hb hr rfl (fun t ht hW => ⟨⟨0, (σ1, vp_updL f 0 v.toInt64), rfl, Or.inl ⟨v, hO, rfl, rfl⟩, by show xJ _ _ _ t.heap; rw [ht]; exact ⟨hP, hD⟩⟩, hS.F ht⟩) hS.2.2 dL_count_16
  · have M : vx_Met l yX8_count wsX8_count zR_X8_count (va_Pc ([zO 0 0, zI a1].map (zc L)) (zPre zEC D cy L (σ, []) s.heap.size)) (fun _ _ _ _ => False) (zX zEC D cy L x (σ1, []) (va_A (zws zEC cy L (σ, [])) s.heap.size)) zR_X8_count.cells zR_X8_count.slots (va_A (zws zEC cy L (σ, [])) s.heap.size) := zM_X8_count.2 l D cy L [zO 0 0, zI a1] (σ, []) (.inr x, (σ1, [])) s.heap.size hfl hO
    refine xw_exc (x := x) (s' := (σ1, [])) (as := (σ, [])) (Y := [(q, xlA cL f)]) (fun _ _ _ h => h) (vx_runV (As := [.int a1]) (rest := [.int 0, .ref q]) ⟨hx, hb, hml, hown, hts⟩ M (cwV 1 hts gL_count_X8_count rfl rfl rfl (by decide +kernel) ⟨Nat.le_of_ble_eq_true rfl, Nat.le_of_ble_eq_true rfl⟩) ⟨zPre.blind, xw_recv hK hJ (ci := 8) rfl rfl (by decide) rfl, fun U hU hW => ⟨rfl, xw_pre hK3 hJ hS hA hst hU hW⟩⟩ rfl rfl hl.1 rfl (lv_room (Nat.le_of_ble_eq_true rfl)) dL_count_4 ⟨Nat.le_of_ble_eq_true rfl, Nat.le_of_ble_eq_true rfl⟩) hJ hS hA (fun q9 ce H locs hJ hS hce hcv hcl => ?_)
    have h3 : x = 0 ∨ x = 1 ∨ x = 2 := by omega
    rcases h3 with rfl | rfl | rfl
    · exact absurd rfl hcd
    · refine vx_catch (name := "java/lang/IndexOutOfBoundsException") (E := zExc 1) hown [] ⟨0, 9, 12, 24⟩ [] (by rw [htab]; rfl) (fun _ h => nomatch h) (by decide) (by decide) (hts (.classLink RL 24 "java/lang/IndexOutOfBoundsException") (List.mem_of_getElem? (i := 1) rfl)) (xl_cast hst 1) hce hcv hcl ?_
      refine lv_astore_n (lv' := [(3, .ref q9), (0, .ref (L 0 0)), (1, .int a1), (2, .ref q)]) hx hb dL_count_12 rfl hl (by decide) rfl (fun ls hl => ?_)
      refine lv_iconst (v := 1) hx hb dL_count_13 (by decide) ?_
      refine W.widen (k := 1) (n := 6) (Nat.le_of_ble_eq_true rfl) (Nat.le_of_ble_eq_true rfl) (vx_ret ?_)
      exact W.zret (v := 1) (ty := .int) hx hb hr rfl (fun t ht hW => ⟨⟨1, (σ1, f), rfl, Or.inr ⟨1, hO, rfl⟩, by show xJ _ _ _ t.heap; rw [ht]; exact hJ⟩, hS.F ht⟩) hS.2.2 dL_count_14
    · exact absurd rfl hcd
set_option maxHeartbeats 4000000 in
set_option maxRecDepth 100000 in
theorem xl_point (l : Launch) (a1 a2 a3 : Int32) : xlMet l yL_point wsL_point ({ frames := 7, cells := 4, slots := 24, locals := 174 } : Room) (fun σ => m_X8_point [zO 0 0, zI a1, zI a2, zI a3] (σ, [])) (zcd 2 1 3) (fun h0 q => [.ref h0, .int a1, .int a2, .int a3, .ref q]) := by
  intro D cy cL L σ q f sz hfl hO
  refine vx_ofWH (cc := cL_point) (maxL := 6) (ret := some .int) (hh := [(0, 12, 15, 24), (0, 12, 19, 13), (0, 12, 23, 30)]) (by decide) rfl ?_
  intro p e s m args below meth c s₁ B hml hv
  obtain ⟨rfl, hsz, hJ, hK, hst, hnc⟩ := hv
  have hx := B.exec
  have hb := B.bytes
  have hr := B.returns
  have hts := atoms_spec (ws := wsL_point) B.pre
  have hown : s.vm.findClass RL = some m.cls := findClass_of_methodNamed B.named
  have hlocks := B.notSynchronized
  have htab := vx_table (x := yL_point) B (hts _ List.mem_cons_self)
  subst hsz
  have hK3 : va_K D vwCl (ztys cy) s := hK.sub [0, 1, 2] rfl
  have hD := hJ.2.self (sz := s.heap.size)
  have hP := hJ.1
  clear hJ
  generalize hAe : va_A (xlW cy cL L (σ, []) q f) s.heap.size = A at hst hD ⊢
  have hA : ∀ q : Nat, s.heap.size ≤ q → A q := fun q h => by rw [← hAe]; exact Or.inr h
  have hJ : xJ D A (zws zEC cy L (σ, []) ++ [(q, xlA cL f)]) s.heap := ⟨hP, hD⟩
  have hS : va_S A s.heap s.heap [] := va_S.rf
  have hl := lv_entry ([.ref (L 0 0), .int a1, .int a2, .int a3, .ref q]) (n := 6) (Nat.le_of_ble_eq_true rfl)
  show W p l e _ s m _ below meth c s.heap [] 0 0 _ (entryFrame m ([.ref (L 0 0), .int a1, .int a2, .int a3, .ref q] : List Value).toArray 6)
  rw [lg_entry_eq]
  generalize (lg_sl ([.ref (L 0 0), .int a1, .int a2, .int a3, .ref q]) ++ List.replicate (6 - (lg_sl ([.ref (L 0 0), .int a1, .int a2, .int a3, .ref q])).length) Slot.unset).toArray = ls at hl ⊢
  have hl : lv_has ls 6 [(0, .ref (L 0 0)), (1, .int a1), (2, .int a2), (3, .int a3), (4, .ref q)] := hl
  refine lv_aload hx hb dL_point_0 (lv_at hl 4 rfl) ?_
  refine lv_iconst (v := 0) hx hb dL_point_2 (by decide) ?_
  refine lv_aload_n hx hb dL_point_3 rfl (lv_at hl 0 rfl) ?_
  refine lv_iload_n hx hb dL_point_4 rfl (lv_at hl 1 rfl) ?_
  refine lv_iload_n hx hb dL_point_5 rfl (lv_at hl 2 rfl) ?_
  refine lv_iload_n hx hb dL_point_6 rfl (lv_at hl 3 rfl) ?_
  rcases hO with ⟨v, σ1, hO⟩ | ⟨x, σ1, hO, hx2, hcd⟩
  · have M : vx_Met l yX8_point wsX8_point zR_X8_point (va_Pc ([zO 0 0, zI a1, zI a2, zI a3].map (zc L)) (zPre zEC D cy L (σ, []) s.heap.size)) (zQ zEC D cy L (some (zI v)) (σ1, []) (va_A (zws zEC cy L (σ, [])) s.heap.size)) zNoX zR_X8_point.cells zR_X8_point.slots (va_A (zws zEC cy L (σ, [])) s.heap.size) := zM_X8_point.2 l D cy L [zO 0 0, zI a1, zI a2, zI a3] (σ, []) (.inl (some (zI v)), (σ1, [])) s.heap.size hfl hO
    refine xw_val (v := some (zI v)) (s' := (σ1, [])) (as := (σ, [])) (Y := [(q, xlA cL f)]) (vx_runV (As := [.int a1, .int a2, .int a3]) (rest := [.int 0, .ref q]) ⟨hx, hb, hml, hown, hts⟩ M (cwV 3 hts gL_point_X8_point rfl rfl rfl (by decide +kernel) ⟨Nat.le_of_ble_eq_true rfl, Nat.le_of_ble_eq_true rfl⟩) ⟨zPre.blind, xw_recv hK hJ (ci := 8) rfl rfl (by decide) rfl, fun U hU hW => ⟨rfl, xw_pre hK3 hJ hS hA hst hU hW⟩⟩ rfl rfl hl.1 rfl (lv_room (Nat.le_of_ble_eq_true rfl)) dL_point_7 ⟨Nat.le_of_ble_eq_true rfl, Nat.le_of_ble_eq_true rfl⟩) hJ hS hA (fun H locs hJ hS => ?_)
    refine lv_i2l hx hb dL_point_10 rfl ?_
    refine va_last hx hb hK hJ.1 hJ.2 hS (zws zEC cy L (σ1, [])).length 3 xs_last rfl (i := 0) (vp_in_nI (show 0 < 1 by decide) (by decide)) dL_point_11 (fun H locs hP hD hS => ?_)
    rw [xs_setl] at hP hD
    refine lv_goto (tgt := 27) hx hb dL_point_12 (by decide) ?_
    refine lv_iconst (v := 0) hx hb dL_point_27 (by decide) ?_
    refine W.widen (k := 4) (n := 24) (Nat.le_of_ble_eq_true rfl) (Nat.le_of_ble_eq_true rfl) (vx_ret ?_)
    exact W.zret (v := 0) (ty := .int) hx hb hr rfl (fun t ht hW => ⟨⟨0, (σ1, vp_updL f 0 v.toInt64), rfl, Or.inl ⟨v, hO, rfl, rfl⟩, by show xJ _ _ _ t.heap; rw [ht]; exact ⟨hP, hD⟩⟩, hS.F ht⟩) hS.2.2 dL_point_28
  · have M : vx_Met l yX8_point wsX8_point zR_X8_point (va_Pc ([zO 0 0, zI a1, zI a2, zI a3].map (zc L)) (zPre zEC D cy L (σ, []) s.heap.size)) (fun _ _ _ _ => False) (zX zEC D cy L x (σ1, []) (va_A (zws zEC cy L (σ, [])) s.heap.size)) zR_X8_point.cells zR_X8_point.slots (va_A (zws zEC cy L (σ, [])) s.heap.size) := zM_X8_point.2 l D cy L [zO 0 0, zI a1, zI a2, zI a3] (σ, []) (.inr x, (σ1, [])) s.heap.size hfl hO
    refine xw_exc (x := x) (s' := (σ1, [])) (as := (σ, [])) (Y := [(q, xlA cL f)]) (fun _ _ _ h => h) (vx_runV (As := [.int a1, .int a2, .int a3]) (rest := [.int 0, .ref q]) ⟨hx, hb, hml, hown, hts⟩ M (cwV 3 hts gL_point_X8_point rfl rfl rfl (by decide +kernel) ⟨Nat.le_of_ble_eq_true rfl, Nat.le_of_ble_eq_true rfl⟩) ⟨zPre.blind, xw_recv hK hJ (ci := 8) rfl rfl (by decide) rfl, fun U hU hW => ⟨rfl, xw_pre hK3 hJ hS hA hst hU hW⟩⟩ rfl rfl hl.1 rfl (lv_room (Nat.le_of_ble_eq_true rfl)) dL_point_7 ⟨Nat.le_of_ble_eq_true rfl, Nat.le_of_ble_eq_true rfl⟩) hJ hS hA (fun q9 ce H locs hJ hS hce hcv hcl => ?_)
    have h3 : x = 0 ∨ x = 1 ∨ x = 2 := by omega
    rcases h3 with rfl | rfl | rfl
    · refine vx_catch (name := "java/lang/IllegalArgumentException") (E := zExc 0) hown [⟨0, 12, 15, 24⟩] ⟨0, 12, 19, 13⟩ [⟨0, 12, 23, 30⟩] (by rw [htab]; rfl) (List.forall_mem_cons.mpr ⟨Or.inr ⟨by decide, _, hts (.classLink RL 24 "java/lang/IndexOutOfBoundsException") (List.mem_of_getElem? (i := 1) rfl), hnc 0 1 (by decide) (by decide) (by decide)⟩, (fun _ h => nomatch h)⟩) (by decide) (by decide) (hts (.classLink RL 13 "java/lang/IllegalArgumentException") (List.mem_of_getElem? (i := 2) rfl)) (xl_cast hst 0) hce hcv hcl ?_
      refine lv_astore (lv' := [(5, .ref q9), (0, .ref (L 0 0)), (1, .int a1), (2, .int a2), (3, .int a3), (4, .ref q)]) hx hb dL_point_19 hl (by decide) rfl (fun ls hl => ?_)
      refine lv_iconst (v := 2) hx hb dL_point_21 (by decide) ?_
      refine W.widen (k := 4) (n := 24) (Nat.le_of_ble_eq_true rfl) (Nat.le_of_ble_eq_true rfl) (vx_ret ?_)
      exact W.zret (v := 2) (ty := .int) hx hb hr rfl (fun t ht hW => ⟨⟨2, (σ1, f), rfl, Or.inr ⟨0, hO, rfl⟩, by show xJ _ _ _ t.heap; rw [ht]; exact hJ⟩, hS.F ht⟩) hS.2.2 dL_point_22
    · refine vx_catch (name := "java/lang/IndexOutOfBoundsException") (E := zExc 1) hown [] ⟨0, 12, 15, 24⟩ [⟨0, 12, 19, 13⟩, ⟨0, 12, 23, 30⟩] (by rw [htab]; rfl) (fun _ h => nomatch h) (by decide) (by decide) (hts (.classLink RL 24 "java/lang/IndexOutOfBoundsException") (List.mem_of_getElem? (i := 1) rfl)) (xl_cast hst 1) hce hcv hcl ?_
      refine lv_astore (lv' := [(5, .ref q9), (0, .ref (L 0 0)), (1, .int a1), (2, .int a2), (3, .int a3), (4, .ref q)]) hx hb dL_point_15 hl (by decide) rfl (fun ls hl => ?_)
      refine lv_iconst (v := 1) hx hb dL_point_17 (by decide) ?_
      refine W.widen (k := 4) (n := 24) (Nat.le_of_ble_eq_true rfl) (Nat.le_of_ble_eq_true rfl) (vx_ret ?_)
      exact W.zret (v := 1) (ty := .int) hx hb hr rfl (fun t ht hW => ⟨⟨1, (σ1, f), rfl, Or.inr ⟨1, hO, rfl⟩, by show xJ _ _ _ t.heap; rw [ht]; exact hJ⟩, hS.F ht⟩) hS.2.2 dL_point_18
    · refine vx_catch (name := "java/lang/IllegalStateException") (E := zExc 2) hown [⟨0, 12, 15, 24⟩, ⟨0, 12, 19, 13⟩] ⟨0, 12, 23, 30⟩ [] (by rw [htab]; rfl) (List.forall_mem_cons.mpr ⟨Or.inr ⟨by decide, _, hts (.classLink RL 24 "java/lang/IndexOutOfBoundsException") (List.mem_of_getElem? (i := 1) rfl), hnc 2 1 (by decide) (by decide) (by decide)⟩, (List.forall_mem_cons.mpr ⟨Or.inr ⟨by decide, _, hts (.classLink RL 13 "java/lang/IllegalArgumentException") (List.mem_of_getElem? (i := 2) rfl), hnc 2 0 (by decide) (by decide) (by decide)⟩, (fun _ h => nomatch h)⟩)⟩) (by decide) (by decide) (hts (.classLink RL 30 "java/lang/IllegalStateException") (List.mem_of_getElem? (i := 3) rfl)) (xl_cast hst 2) hce hcv hcl ?_
      refine lv_astore (lv' := [(5, .ref q9), (0, .ref (L 0 0)), (1, .int a1), (2, .int a2), (3, .int a3), (4, .ref q)]) hx hb dL_point_23 hl (by decide) rfl (fun ls hl => ?_)
      refine lv_iconst (v := 3) hx hb dL_point_25 (by decide) ?_
      refine W.widen (k := 4) (n := 24) (Nat.le_of_ble_eq_true rfl) (Nat.le_of_ble_eq_true rfl) (vx_ret ?_)
      exact W.zret (v := 3) (ty := .int) hx hb hr rfl (fun t ht hW => ⟨⟨3, (σ1, f), rfl, Or.inr ⟨2, hO, rfl⟩, by show xJ _ _ _ t.heap; rw [ht]; exact hJ⟩, hS.F ht⟩) hS.2.2 dL_point_26
set_option maxHeartbeats 4000000 in
set_option maxRecDepth 100000 in
theorem xl_make (l : Launch) (a1 a2 a3 a4 : Int32) : xlMet l yL_make wsL_make ({ frames := 7, cells := 4, slots := 24, locals := 177 } : Room) (fun σ => m_X8_make [zO 0 0, zI a1, zI a2, zI a3, zI a4] (σ, [])) (zcd 1 2 3) (fun h0 q => [.ref h0, .int a1, .int a2, .int a3, .int a4, .ref q]) := by
  intro D cy cL L σ q f sz hfl hO
  refine vx_ofWH (cc := cL_make) (maxL := 7) (ret := some .int) (hh := [(0, 14, 17, 13), (0, 14, 21, 24), (0, 14, 25, 30)]) (by decide) rfl ?_
  intro p e s m args below meth c s₁ B hml hv
  obtain ⟨rfl, hsz, hJ, hK, hst, hnc⟩ := hv
  have hx := B.exec
  have hb := B.bytes
  have hr := B.returns
  have hts := atoms_spec (ws := wsL_make) B.pre
  have hown : s.vm.findClass RL = some m.cls := findClass_of_methodNamed B.named
  have hlocks := B.notSynchronized
  have htab := vx_table (x := yL_make) B (hts _ List.mem_cons_self)
  subst hsz
  have hK3 : va_K D vwCl (ztys cy) s := hK.sub [0, 1, 2] rfl
  have hD := hJ.2.self (sz := s.heap.size)
  have hP := hJ.1
  clear hJ
  generalize hAe : va_A (xlW cy cL L (σ, []) q f) s.heap.size = A at hst hD ⊢
  have hA : ∀ q : Nat, s.heap.size ≤ q → A q := fun q h => by rw [← hAe]; exact Or.inr h
  have hJ : xJ D A (zws zEC cy L (σ, []) ++ [(q, xlA cL f)]) s.heap := ⟨hP, hD⟩
  have hS : va_S A s.heap s.heap [] := va_S.rf
  have hl := lv_entry ([.ref (L 0 0), .int a1, .int a2, .int a3, .int a4, .ref q]) (n := 7) (Nat.le_of_ble_eq_true rfl)
  show W p l e _ s m _ below meth c s.heap [] 0 0 _ (entryFrame m ([.ref (L 0 0), .int a1, .int a2, .int a3, .int a4, .ref q] : List Value).toArray 7)
  rw [lg_entry_eq]
  generalize (lg_sl ([.ref (L 0 0), .int a1, .int a2, .int a3, .int a4, .ref q]) ++ List.replicate (7 - (lg_sl ([.ref (L 0 0), .int a1, .int a2, .int a3, .int a4, .ref q])).length) Slot.unset).toArray = ls at hl ⊢
  have hl : lv_has ls 7 [(0, .ref (L 0 0)), (1, .int a1), (2, .int a2), (3, .int a3), (4, .int a4), (5, .ref q)] := hl
  refine lv_aload hx hb dL_make_0 (lv_at hl 5 rfl) ?_
  refine lv_iconst (v := 0) hx hb dL_make_2 (by decide) ?_
  refine lv_aload_n hx hb dL_make_3 rfl (lv_at hl 0 rfl) ?_
  refine lv_iload_n hx hb dL_make_4 rfl (lv_at hl 1 rfl) ?_
  refine lv_iload_n hx hb dL_make_5 rfl (lv_at hl 2 rfl) ?_
  refine lv_iload_n hx hb dL_make_6 rfl (lv_at hl 3 rfl) ?_
  refine lv_iload hx hb dL_make_7 (lv_at hl 4 rfl) ?_
  rcases hO with ⟨v, σ1, hO⟩ | ⟨x, σ1, hO, hx2, hcd⟩
  · have M : vx_Met l yX8_make wsX8_make zR_X8_make (va_Pc ([zO 0 0, zI a1, zI a2, zI a3, zI a4].map (zc L)) (zPre zEC D cy L (σ, []) s.heap.size)) (zQ zEC D cy L (some (zI v)) (σ1, []) (va_A (zws zEC cy L (σ, [])) s.heap.size)) zNoX zR_X8_make.cells zR_X8_make.slots (va_A (zws zEC cy L (σ, [])) s.heap.size) := zM_X8_make.2 l D cy L [zO 0 0, zI a1, zI a2, zI a3, zI a4] (σ, []) (.inl (some (zI v)), (σ1, [])) s.heap.size hfl hO
    refine xw_val (v := some (zI v)) (s' := (σ1, [])) (as := (σ, [])) (Y := [(q, xlA cL f)]) (vx_runV (As := [.int a1, .int a2, .int a3, .int a4]) (rest := [.int 0, .ref q]) ⟨hx, hb, hml, hown, hts⟩ M (cwV 4 hts gL_make_X8_make rfl rfl rfl (by decide +kernel) ⟨Nat.le_of_ble_eq_true rfl, Nat.le_of_ble_eq_true rfl⟩) ⟨zPre.blind, xw_recv hK hJ (ci := 8) rfl rfl (by decide) rfl, fun U hU hW => ⟨rfl, xw_pre hK3 hJ hS hA hst hU hW⟩⟩ rfl rfl hl.1 rfl (lv_room (Nat.le_of_ble_eq_true rfl)) dL_make_9 ⟨Nat.le_of_ble_eq_true rfl, Nat.le_of_ble_eq_true rfl⟩) hJ hS hA (fun H locs hJ hS => ?_)
    refine lv_i2l hx hb dL_make_12 rfl ?_
    refine va_last hx hb hK hJ.1 hJ.2 hS (zws zEC cy L (σ1, [])).length 3 xs_last rfl (i := 0) (vp_in_nI (show 0 < 1 by decide) (by decide)) dL_make_13 (fun H locs hP hD hS => ?_)
    rw [xs_setl] at hP hD
    refine lv_goto (tgt := 29) hx hb dL_make_14 (by decide) ?_
    refine lv_iconst (v := 0) hx hb dL_make_29 (by decide) ?_
    refine W.widen (k := 4) (n := 24) (Nat.le_of_ble_eq_true rfl) (Nat.le_of_ble_eq_true rfl) (vx_ret ?_)
    exact W.zret (v := 0) (ty := .int) hx hb hr rfl (fun t ht hW => ⟨⟨0, (σ1, vp_updL f 0 v.toInt64), rfl, Or.inl ⟨v, hO, rfl, rfl⟩, by show xJ _ _ _ t.heap; rw [ht]; exact ⟨hP, hD⟩⟩, hS.F ht⟩) hS.2.2 dL_make_30
  · have M : vx_Met l yX8_make wsX8_make zR_X8_make (va_Pc ([zO 0 0, zI a1, zI a2, zI a3, zI a4].map (zc L)) (zPre zEC D cy L (σ, []) s.heap.size)) (fun _ _ _ _ => False) (zX zEC D cy L x (σ1, []) (va_A (zws zEC cy L (σ, [])) s.heap.size)) zR_X8_make.cells zR_X8_make.slots (va_A (zws zEC cy L (σ, [])) s.heap.size) := zM_X8_make.2 l D cy L [zO 0 0, zI a1, zI a2, zI a3, zI a4] (σ, []) (.inr x, (σ1, [])) s.heap.size hfl hO
    refine xw_exc (x := x) (s' := (σ1, [])) (as := (σ, [])) (Y := [(q, xlA cL f)]) (fun _ _ _ h => h) (vx_runV (As := [.int a1, .int a2, .int a3, .int a4]) (rest := [.int 0, .ref q]) ⟨hx, hb, hml, hown, hts⟩ M (cwV 4 hts gL_make_X8_make rfl rfl rfl (by decide +kernel) ⟨Nat.le_of_ble_eq_true rfl, Nat.le_of_ble_eq_true rfl⟩) ⟨zPre.blind, xw_recv hK hJ (ci := 8) rfl rfl (by decide) rfl, fun U hU hW => ⟨rfl, xw_pre hK3 hJ hS hA hst hU hW⟩⟩ rfl rfl hl.1 rfl (lv_room (Nat.le_of_ble_eq_true rfl)) dL_make_9 ⟨Nat.le_of_ble_eq_true rfl, Nat.le_of_ble_eq_true rfl⟩) hJ hS hA (fun q9 ce H locs hJ hS hce hcv hcl => ?_)
    have h3 : x = 0 ∨ x = 1 ∨ x = 2 := by omega
    rcases h3 with rfl | rfl | rfl
    · refine vx_catch (name := "java/lang/IllegalArgumentException") (E := zExc 0) hown [] ⟨0, 14, 17, 13⟩ [⟨0, 14, 21, 24⟩, ⟨0, 14, 25, 30⟩] (by rw [htab]; rfl) (fun _ h => nomatch h) (by decide) (by decide) (hts (.classLink RL 13 "java/lang/IllegalArgumentException") (List.mem_of_getElem? (i := 1) rfl)) (xl_cast hst 0) hce hcv hcl ?_
      refine lv_astore (lv' := [(6, .ref q9), (0, .ref (L 0 0)), (1, .int a1), (2, .int a2), (3, .int a3), (4, .int a4), (5, .ref q)]) hx hb dL_make_17 hl (by decide) rfl (fun ls hl => ?_)
      refine lv_iconst (v := 1) hx hb dL_make_19 (by decide) ?_
      refine W.widen (k := 4) (n := 24) (Nat.le_of_ble_eq_true rfl) (Nat.le_of_ble_eq_true rfl) (vx_ret ?_)
      exact W.zret (v := 1) (ty := .int) hx hb hr rfl (fun t ht hW => ⟨⟨1, (σ1, f), rfl, Or.inr ⟨0, hO, rfl⟩, by show xJ _ _ _ t.heap; rw [ht]; exact hJ⟩, hS.F ht⟩) hS.2.2 dL_make_20
    · refine vx_catch (name := "java/lang/IndexOutOfBoundsException") (E := zExc 1) hown [⟨0, 14, 17, 13⟩] ⟨0, 14, 21, 24⟩ [⟨0, 14, 25, 30⟩] (by rw [htab]; rfl) (List.forall_mem_cons.mpr ⟨Or.inr ⟨by decide, _, hts (.classLink RL 13 "java/lang/IllegalArgumentException") (List.mem_of_getElem? (i := 1) rfl), hnc 1 0 (by decide) (by decide) (by decide)⟩, (fun _ h => nomatch h)⟩) (by decide) (by decide) (hts (.classLink RL 24 "java/lang/IndexOutOfBoundsException") (List.mem_of_getElem? (i := 2) rfl)) (xl_cast hst 1) hce hcv hcl ?_
      refine lv_astore (lv' := [(6, .ref q9), (0, .ref (L 0 0)), (1, .int a1), (2, .int a2), (3, .int a3), (4, .int a4), (5, .ref q)]) hx hb dL_make_21 hl (by decide) rfl (fun ls hl => ?_)
      refine lv_iconst (v := 2) hx hb dL_make_23 (by decide) ?_
      refine W.widen (k := 4) (n := 24) (Nat.le_of_ble_eq_true rfl) (Nat.le_of_ble_eq_true rfl) (vx_ret ?_)
      exact W.zret (v := 2) (ty := .int) hx hb hr rfl (fun t ht hW => ⟨⟨2, (σ1, f), rfl, Or.inr ⟨1, hO, rfl⟩, by show xJ _ _ _ t.heap; rw [ht]; exact hJ⟩, hS.F ht⟩) hS.2.2 dL_make_24
    · refine vx_catch (name := "java/lang/IllegalStateException") (E := zExc 2) hown [⟨0, 14, 17, 13⟩, ⟨0, 14, 21, 24⟩] ⟨0, 14, 25, 30⟩ [] (by rw [htab]; rfl) (List.forall_mem_cons.mpr ⟨Or.inr ⟨by decide, _, hts (.classLink RL 13 "java/lang/IllegalArgumentException") (List.mem_of_getElem? (i := 1) rfl), hnc 2 0 (by decide) (by decide) (by decide)⟩, (List.forall_mem_cons.mpr ⟨Or.inr ⟨by decide, _, hts (.classLink RL 24 "java/lang/IndexOutOfBoundsException") (List.mem_of_getElem? (i := 2) rfl), hnc 2 1 (by decide) (by decide) (by decide)⟩, (fun _ h => nomatch h)⟩)⟩) (by decide) (by decide) (hts (.classLink RL 30 "java/lang/IllegalStateException") (List.mem_of_getElem? (i := 3) rfl)) (xl_cast hst 2) hce hcv hcl ?_
      refine lv_astore (lv' := [(6, .ref q9), (0, .ref (L 0 0)), (1, .int a1), (2, .int a2), (3, .int a3), (4, .int a4), (5, .ref q)]) hx hb dL_make_25 hl (by decide) rfl (fun ls hl => ?_)
      refine lv_iconst (v := 3) hx hb dL_make_27 (by decide) ?_
      refine W.widen (k := 4) (n := 24) (Nat.le_of_ble_eq_true rfl) (Nat.le_of_ble_eq_true rfl) (vx_ret ?_)
      exact W.zret (v := 3) (ty := .int) hx hb hr rfl (fun t ht hW => ⟨⟨3, (σ1, f), rfl, Or.inr ⟨2, hO, rfl⟩, by show xJ _ _ _ t.heap; rw [ht]; exact hJ⟩, hS.F ht⟩) hS.2.2 dL_make_28
set_option maxHeartbeats 4000000 in
set_option maxRecDepth 100000 in
theorem xl_move (l : Launch) (a1 a2 a3 : Int32) : xlMet l yL_move wsL_move ({ frames := 8, cells := 3, slots := 18, locals := 198 } : Room) (fun σ => m_X8_move [zO 0 0, zI a1, zI a2, zI a3] (σ, [])) (zcd 2 1 3) (fun h0 q => [.ref h0, .int a1, .int a2, .int a3, .ref q]) := by
  intro D cy cL L σ q f sz hfl hO
  refine vx_ofWH (cc := cL_move) (maxL := 6) (ret := some .int) (hh := [(0, 12, 15, 24), (0, 12, 19, 13), (0, 12, 23, 30)]) (by decide) rfl ?_
  intro p e s m args below meth c s₁ B hml hv
  obtain ⟨rfl, hsz, hJ, hK, hst, hnc⟩ := hv
  have hx := B.exec
  have hb := B.bytes
  have hr := B.returns
  have hts := atoms_spec (ws := wsL_move) B.pre
  have hown : s.vm.findClass RL = some m.cls := findClass_of_methodNamed B.named
  have hlocks := B.notSynchronized
  have htab := vx_table (x := yL_move) B (hts _ List.mem_cons_self)
  subst hsz
  have hK3 : va_K D vwCl (ztys cy) s := hK.sub [0, 1, 2] rfl
  have hD := hJ.2.self (sz := s.heap.size)
  have hP := hJ.1
  clear hJ
  generalize hAe : va_A (xlW cy cL L (σ, []) q f) s.heap.size = A at hst hD ⊢
  have hA : ∀ q : Nat, s.heap.size ≤ q → A q := fun q h => by rw [← hAe]; exact Or.inr h
  have hJ : xJ D A (zws zEC cy L (σ, []) ++ [(q, xlA cL f)]) s.heap := ⟨hP, hD⟩
  have hS : va_S A s.heap s.heap [] := va_S.rf
  have hl := lv_entry ([.ref (L 0 0), .int a1, .int a2, .int a3, .ref q]) (n := 6) (Nat.le_of_ble_eq_true rfl)
  show W p l e _ s m _ below meth c s.heap [] 0 0 _ (entryFrame m ([.ref (L 0 0), .int a1, .int a2, .int a3, .ref q] : List Value).toArray 6)
  rw [lg_entry_eq]
  generalize (lg_sl ([.ref (L 0 0), .int a1, .int a2, .int a3, .ref q]) ++ List.replicate (6 - (lg_sl ([.ref (L 0 0), .int a1, .int a2, .int a3, .ref q])).length) Slot.unset).toArray = ls at hl ⊢
  have hl : lv_has ls 6 [(0, .ref (L 0 0)), (1, .int a1), (2, .int a2), (3, .int a3), (4, .ref q)] := hl
  refine lv_aload hx hb dL_move_0 (lv_at hl 4 rfl) ?_
  refine lv_iconst (v := 0) hx hb dL_move_2 (by decide) ?_
  refine lv_aload_n hx hb dL_move_3 rfl (lv_at hl 0 rfl) ?_
  refine lv_iload_n hx hb dL_move_4 rfl (lv_at hl 1 rfl) ?_
  refine lv_iload_n hx hb dL_move_5 rfl (lv_at hl 2 rfl) ?_
  refine lv_iload_n hx hb dL_move_6 rfl (lv_at hl 3 rfl) ?_
  rcases hO with ⟨v, σ1, hO⟩ | ⟨x, σ1, hO, hx2, hcd⟩
  · have M : vx_Met l yX8_move wsX8_move zR_X8_move (va_Pc ([zO 0 0, zI a1, zI a2, zI a3].map (zc L)) (zPre zEC D cy L (σ, []) s.heap.size)) (zQ zEC D cy L (some (zI v)) (σ1, []) (va_A (zws zEC cy L (σ, [])) s.heap.size)) zNoX zR_X8_move.cells zR_X8_move.slots (va_A (zws zEC cy L (σ, [])) s.heap.size) := zM_X8_move.2 l D cy L [zO 0 0, zI a1, zI a2, zI a3] (σ, []) (.inl (some (zI v)), (σ1, [])) s.heap.size hfl hO
    refine xw_val (v := some (zI v)) (s' := (σ1, [])) (as := (σ, [])) (Y := [(q, xlA cL f)]) (vx_runV (As := [.int a1, .int a2, .int a3]) (rest := [.int 0, .ref q]) ⟨hx, hb, hml, hown, hts⟩ M (cwV 3 hts gL_move_X8_move rfl rfl rfl (by decide +kernel) ⟨Nat.le_of_ble_eq_true rfl, Nat.le_of_ble_eq_true rfl⟩) ⟨zPre.blind, xw_recv hK hJ (ci := 8) rfl rfl (by decide) rfl, fun U hU hW => ⟨rfl, xw_pre hK3 hJ hS hA hst hU hW⟩⟩ rfl rfl hl.1 rfl (lv_room (Nat.le_of_ble_eq_true rfl)) dL_move_7 ⟨Nat.le_of_ble_eq_true rfl, Nat.le_of_ble_eq_true rfl⟩) hJ hS hA (fun H locs hJ hS => ?_)
    refine lv_i2l hx hb dL_move_10 rfl ?_
    refine va_last hx hb hK hJ.1 hJ.2 hS (zws zEC cy L (σ1, [])).length 3 xs_last rfl (i := 0) (vp_in_nI (show 0 < 1 by decide) (by decide)) dL_move_11 (fun H locs hP hD hS => ?_)
    rw [xs_setl] at hP hD
    refine lv_goto (tgt := 27) hx hb dL_move_12 (by decide) ?_
    refine lv_iconst (v := 0) hx hb dL_move_27 (by decide) ?_
    refine W.widen (k := 3) (n := 18) (Nat.le_of_ble_eq_true rfl) (Nat.le_of_ble_eq_true rfl) (vx_ret ?_)
    exact W.zret (v := 0) (ty := .int) hx hb hr rfl (fun t ht hW => ⟨⟨0, (σ1, vp_updL f 0 v.toInt64), rfl, Or.inl ⟨v, hO, rfl, rfl⟩, by show xJ _ _ _ t.heap; rw [ht]; exact ⟨hP, hD⟩⟩, hS.F ht⟩) hS.2.2 dL_move_28
  · have M : vx_Met l yX8_move wsX8_move zR_X8_move (va_Pc ([zO 0 0, zI a1, zI a2, zI a3].map (zc L)) (zPre zEC D cy L (σ, []) s.heap.size)) (fun _ _ _ _ => False) (zX zEC D cy L x (σ1, []) (va_A (zws zEC cy L (σ, [])) s.heap.size)) zR_X8_move.cells zR_X8_move.slots (va_A (zws zEC cy L (σ, [])) s.heap.size) := zM_X8_move.2 l D cy L [zO 0 0, zI a1, zI a2, zI a3] (σ, []) (.inr x, (σ1, [])) s.heap.size hfl hO
    refine xw_exc (x := x) (s' := (σ1, [])) (as := (σ, [])) (Y := [(q, xlA cL f)]) (fun _ _ _ h => h) (vx_runV (As := [.int a1, .int a2, .int a3]) (rest := [.int 0, .ref q]) ⟨hx, hb, hml, hown, hts⟩ M (cwV 3 hts gL_move_X8_move rfl rfl rfl (by decide +kernel) ⟨Nat.le_of_ble_eq_true rfl, Nat.le_of_ble_eq_true rfl⟩) ⟨zPre.blind, xw_recv hK hJ (ci := 8) rfl rfl (by decide) rfl, fun U hU hW => ⟨rfl, xw_pre hK3 hJ hS hA hst hU hW⟩⟩ rfl rfl hl.1 rfl (lv_room (Nat.le_of_ble_eq_true rfl)) dL_move_7 ⟨Nat.le_of_ble_eq_true rfl, Nat.le_of_ble_eq_true rfl⟩) hJ hS hA (fun q9 ce H locs hJ hS hce hcv hcl => ?_)
    have h3 : x = 0 ∨ x = 1 ∨ x = 2 := by omega
    rcases h3 with rfl | rfl | rfl
    · refine vx_catch (name := "java/lang/IllegalArgumentException") (E := zExc 0) hown [⟨0, 12, 15, 24⟩] ⟨0, 12, 19, 13⟩ [⟨0, 12, 23, 30⟩] (by rw [htab]; rfl) (List.forall_mem_cons.mpr ⟨Or.inr ⟨by decide, _, hts (.classLink RL 24 "java/lang/IndexOutOfBoundsException") (List.mem_of_getElem? (i := 1) rfl), hnc 0 1 (by decide) (by decide) (by decide)⟩, (fun _ h => nomatch h)⟩) (by decide) (by decide) (hts (.classLink RL 13 "java/lang/IllegalArgumentException") (List.mem_of_getElem? (i := 2) rfl)) (xl_cast hst 0) hce hcv hcl ?_
      refine lv_astore (lv' := [(5, .ref q9), (0, .ref (L 0 0)), (1, .int a1), (2, .int a2), (3, .int a3), (4, .ref q)]) hx hb dL_move_19 hl (by decide) rfl (fun ls hl => ?_)
      refine lv_iconst (v := 2) hx hb dL_move_21 (by decide) ?_
      refine W.widen (k := 3) (n := 18) (Nat.le_of_ble_eq_true rfl) (Nat.le_of_ble_eq_true rfl) (vx_ret ?_)
      exact W.zret (v := 2) (ty := .int) hx hb hr rfl (fun t ht hW => ⟨⟨2, (σ1, f), rfl, Or.inr ⟨0, hO, rfl⟩, by show xJ _ _ _ t.heap; rw [ht]; exact hJ⟩, hS.F ht⟩) hS.2.2 dL_move_22
    · refine vx_catch (name := "java/lang/IndexOutOfBoundsException") (E := zExc 1) hown [] ⟨0, 12, 15, 24⟩ [⟨0, 12, 19, 13⟩, ⟨0, 12, 23, 30⟩] (by rw [htab]; rfl) (fun _ h => nomatch h) (by decide) (by decide) (hts (.classLink RL 24 "java/lang/IndexOutOfBoundsException") (List.mem_of_getElem? (i := 1) rfl)) (xl_cast hst 1) hce hcv hcl ?_
      refine lv_astore (lv' := [(5, .ref q9), (0, .ref (L 0 0)), (1, .int a1), (2, .int a2), (3, .int a3), (4, .ref q)]) hx hb dL_move_15 hl (by decide) rfl (fun ls hl => ?_)
      refine lv_iconst (v := 1) hx hb dL_move_17 (by decide) ?_
      refine W.widen (k := 3) (n := 18) (Nat.le_of_ble_eq_true rfl) (Nat.le_of_ble_eq_true rfl) (vx_ret ?_)
      exact W.zret (v := 1) (ty := .int) hx hb hr rfl (fun t ht hW => ⟨⟨1, (σ1, f), rfl, Or.inr ⟨1, hO, rfl⟩, by show xJ _ _ _ t.heap; rw [ht]; exact hJ⟩, hS.F ht⟩) hS.2.2 dL_move_18
    · refine vx_catch (name := "java/lang/IllegalStateException") (E := zExc 2) hown [⟨0, 12, 15, 24⟩, ⟨0, 12, 19, 13⟩] ⟨0, 12, 23, 30⟩ [] (by rw [htab]; rfl) (List.forall_mem_cons.mpr ⟨Or.inr ⟨by decide, _, hts (.classLink RL 24 "java/lang/IndexOutOfBoundsException") (List.mem_of_getElem? (i := 1) rfl), hnc 2 1 (by decide) (by decide) (by decide)⟩, (List.forall_mem_cons.mpr ⟨Or.inr ⟨by decide, _, hts (.classLink RL 13 "java/lang/IllegalArgumentException") (List.mem_of_getElem? (i := 2) rfl), hnc 2 0 (by decide) (by decide) (by decide)⟩, (fun _ h => nomatch h)⟩)⟩) (by decide) (by decide) (hts (.classLink RL 30 "java/lang/IllegalStateException") (List.mem_of_getElem? (i := 3) rfl)) (xl_cast hst 2) hce hcv hcl ?_
      refine lv_astore (lv' := [(5, .ref q9), (0, .ref (L 0 0)), (1, .int a1), (2, .int a2), (3, .int a3), (4, .ref q)]) hx hb dL_move_23 hl (by decide) rfl (fun ls hl => ?_)
      refine lv_iconst (v := 3) hx hb dL_move_25 (by decide) ?_
      refine W.widen (k := 3) (n := 18) (Nat.le_of_ble_eq_true rfl) (Nat.le_of_ble_eq_true rfl) (vx_ret ?_)
      exact W.zret (v := 3) (ty := .int) hx hb hr rfl (fun t ht hW => ⟨⟨3, (σ1, f), rfl, Or.inr ⟨2, hO, rfl⟩, by show xJ _ _ _ t.heap; rw [ht]; exact hJ⟩, hS.F ht⟩) hS.2.2 dL_move_26
set_option maxHeartbeats 4000000 in
set_option maxRecDepth 100000 in
theorem xl_object (l : Launch) (a1 a2 : Int32) : xlMet l yL_object wsL_object ({ frames := 7, cells := 1, slots := 6, locals := 122 } : Room) (fun σ => m_X8_object [zO 0 0, zI a1, zI a2] (σ, [])) (zcd 0 1 0) (fun h0 q => [.ref h0, .int a1, .int a2, .ref q]) := by
  intro D cy cL L σ q f sz hfl hO
  refine vx_ofWH (cc := cL_object) (maxL := 5) (ret := some .int) (hh := [(0, 10, 13, 24)]) (by decide) rfl ?_
  intro p e s m args below meth c s₁ B hml hv
  obtain ⟨rfl, hsz, hJ, hK, hst, hnc⟩ := hv
  have hx := B.exec
  have hb := B.bytes
  have hr := B.returns
  have hts := atoms_spec (ws := wsL_object) B.pre
  have hown : s.vm.findClass RL = some m.cls := findClass_of_methodNamed B.named
  have hlocks := B.notSynchronized
  have htab := vx_table (x := yL_object) B (hts _ List.mem_cons_self)
  subst hsz
  have hK3 : va_K D vwCl (ztys cy) s := hK.sub [0, 1, 2] rfl
  have hD := hJ.2.self (sz := s.heap.size)
  have hP := hJ.1
  clear hJ
  generalize hAe : va_A (xlW cy cL L (σ, []) q f) s.heap.size = A at hst hD ⊢
  have hA : ∀ q : Nat, s.heap.size ≤ q → A q := fun q h => by rw [← hAe]; exact Or.inr h
  have hJ : xJ D A (zws zEC cy L (σ, []) ++ [(q, xlA cL f)]) s.heap := ⟨hP, hD⟩
  have hS : va_S A s.heap s.heap [] := va_S.rf
  have hl := lv_entry ([.ref (L 0 0), .int a1, .int a2, .ref q]) (n := 5) (Nat.le_of_ble_eq_true rfl)
  show W p l e _ s m _ below meth c s.heap [] 0 0 _ (entryFrame m ([.ref (L 0 0), .int a1, .int a2, .ref q] : List Value).toArray 5)
  rw [lg_entry_eq]
  generalize (lg_sl ([.ref (L 0 0), .int a1, .int a2, .ref q]) ++ List.replicate (5 - (lg_sl ([.ref (L 0 0), .int a1, .int a2, .ref q])).length) Slot.unset).toArray = ls at hl ⊢
  have hl : lv_has ls 5 [(0, .ref (L 0 0)), (1, .int a1), (2, .int a2), (3, .ref q)] := hl
  refine lv_aload_n hx hb dL_object_0 rfl (lv_at hl 3 rfl) ?_
  refine lv_iconst (v := 0) hx hb dL_object_1 (by decide) ?_
  refine lv_aload_n hx hb dL_object_2 rfl (lv_at hl 0 rfl) ?_
  refine lv_iload_n hx hb dL_object_3 rfl (lv_at hl 1 rfl) ?_
  refine lv_iload_n hx hb dL_object_4 rfl (lv_at hl 2 rfl) ?_
  rcases hO with ⟨v, σ1, hO⟩ | ⟨x, σ1, hO, hx2, hcd⟩
  · have M : vx_Met l yX8_object wsX8_object zR_X8_object (va_Pc ([zO 0 0, zI a1, zI a2].map (zc L)) (zPre zEC D cy L (σ, []) s.heap.size)) (zQ zEC D cy L (some (zI v)) (σ1, []) (va_A (zws zEC cy L (σ, [])) s.heap.size)) zNoX zR_X8_object.cells zR_X8_object.slots (va_A (zws zEC cy L (σ, [])) s.heap.size) := zM_X8_object.2 l D cy L [zO 0 0, zI a1, zI a2] (σ, []) (.inl (some (zI v)), (σ1, [])) s.heap.size hfl hO
    refine xw_val (v := some (zI v)) (s' := (σ1, [])) (as := (σ, [])) (Y := [(q, xlA cL f)]) (vx_runV (As := [.int a1, .int a2]) (rest := [.int 0, .ref q]) ⟨hx, hb, hml, hown, hts⟩ M (cwV 2 hts gL_object_X8_object rfl rfl rfl (by decide +kernel) ⟨Nat.le_of_ble_eq_true rfl, Nat.le_of_ble_eq_true rfl⟩) ⟨zPre.blind, xw_recv hK hJ (ci := 8) rfl rfl (by decide) rfl, fun U hU hW => ⟨rfl, xw_pre hK3 hJ hS hA hst hU hW⟩⟩ rfl rfl hl.1 rfl (lv_room (Nat.le_of_ble_eq_true rfl)) dL_object_5 ⟨Nat.le_of_ble_eq_true rfl, Nat.le_of_ble_eq_true rfl⟩) hJ hS hA (fun H locs hJ hS => ?_)
    refine lv_i2l hx hb dL_object_8 rfl ?_
    refine va_last hx hb hK hJ.1 hJ.2 hS (zws zEC cy L (σ1, [])).length 3 xs_last rfl (i := 0) (vp_in_nI (show 0 < 1 by decide) (by decide)) dL_object_9 (fun H locs hP hD hS => ?_)
    rw [xs_setl] at hP hD
    refine lv_goto (tgt := 17) hx hb dL_object_10 (by decide) ?_
    refine lv_iconst (v := 0) hx hb dL_object_17 (by decide) ?_
    refine W.widen (k := 1) (n := 6) (Nat.le_of_ble_eq_true rfl) (Nat.le_of_ble_eq_true rfl) (vx_ret ?_)
    exact W.zret (v := 0) (ty := .int) hx hb hr rfl (fun t ht hW => ⟨⟨0, (σ1, vp_updL f 0 v.toInt64), rfl, Or.inl ⟨v, hO, rfl, rfl⟩, by show xJ _ _ _ t.heap; rw [ht]; exact ⟨hP, hD⟩⟩, hS.F ht⟩) hS.2.2 dL_object_18
  · have M : vx_Met l yX8_object wsX8_object zR_X8_object (va_Pc ([zO 0 0, zI a1, zI a2].map (zc L)) (zPre zEC D cy L (σ, []) s.heap.size)) (fun _ _ _ _ => False) (zX zEC D cy L x (σ1, []) (va_A (zws zEC cy L (σ, [])) s.heap.size)) zR_X8_object.cells zR_X8_object.slots (va_A (zws zEC cy L (σ, [])) s.heap.size) := zM_X8_object.2 l D cy L [zO 0 0, zI a1, zI a2] (σ, []) (.inr x, (σ1, [])) s.heap.size hfl hO
    refine xw_exc (x := x) (s' := (σ1, [])) (as := (σ, [])) (Y := [(q, xlA cL f)]) (fun _ _ _ h => h) (vx_runV (As := [.int a1, .int a2]) (rest := [.int 0, .ref q]) ⟨hx, hb, hml, hown, hts⟩ M (cwV 2 hts gL_object_X8_object rfl rfl rfl (by decide +kernel) ⟨Nat.le_of_ble_eq_true rfl, Nat.le_of_ble_eq_true rfl⟩) ⟨zPre.blind, xw_recv hK hJ (ci := 8) rfl rfl (by decide) rfl, fun U hU hW => ⟨rfl, xw_pre hK3 hJ hS hA hst hU hW⟩⟩ rfl rfl hl.1 rfl (lv_room (Nat.le_of_ble_eq_true rfl)) dL_object_5 ⟨Nat.le_of_ble_eq_true rfl, Nat.le_of_ble_eq_true rfl⟩) hJ hS hA (fun q9 ce H locs hJ hS hce hcv hcl => ?_)
    have h3 : x = 0 ∨ x = 1 ∨ x = 2 := by omega
    rcases h3 with rfl | rfl | rfl
    · exact absurd rfl hcd
    · refine vx_catch (name := "java/lang/IndexOutOfBoundsException") (E := zExc 1) hown [] ⟨0, 10, 13, 24⟩ [] (by rw [htab]; rfl) (fun _ h => nomatch h) (by decide) (by decide) (hts (.classLink RL 24 "java/lang/IndexOutOfBoundsException") (List.mem_of_getElem? (i := 1) rfl)) (xl_cast hst 1) hce hcv hcl ?_
      refine lv_astore (lv' := [(4, .ref q9), (0, .ref (L 0 0)), (1, .int a1), (2, .int a2), (3, .ref q)]) hx hb dL_object_13 hl (by decide) rfl (fun ls hl => ?_)
      refine lv_iconst (v := 1) hx hb dL_object_15 (by decide) ?_
      refine W.widen (k := 1) (n := 6) (Nat.le_of_ble_eq_true rfl) (Nat.le_of_ble_eq_true rfl) (vx_ret ?_)
      exact W.zret (v := 1) (ty := .int) hx hb hr rfl (fun t ht hW => ⟨⟨1, (σ1, f), rfl, Or.inr ⟨1, hO, rfl⟩, by show xJ _ _ _ t.heap; rw [ht]; exact hJ⟩, hS.F ht⟩) hS.2.2 dL_object_16
    · exact absurd rfl hcd
set_option maxHeartbeats 4000000 in
set_option maxRecDepth 100000 in
theorem xl_number (l : Launch) (a1 a2 : Int32) : xlMet l yL_number wsL_number ({ frames := 7, cells := 2, slots := 12, locals := 123 } : Room) (fun σ => m_X8_number [zO 0 0, zI a1, zI a2] (σ, [])) (zcd 0 1 2) (fun h0 q => [.ref h0, .int a1, .int a2, .ref q]) := by
  intro D cy cL L σ q f sz hfl hO
  refine vx_ofWH (cc := cL_number) (maxL := 5) (ret := some .int) (hh := [(0, 10, 13, 24), (0, 10, 17, 30)]) (by decide) rfl ?_
  intro p e s m args below meth c s₁ B hml hv
  obtain ⟨rfl, hsz, hJ, hK, hst, hnc⟩ := hv
  have hx := B.exec
  have hb := B.bytes
  have hr := B.returns
  have hts := atoms_spec (ws := wsL_number) B.pre
  have hown : s.vm.findClass RL = some m.cls := findClass_of_methodNamed B.named
  have hlocks := B.notSynchronized
  have htab := vx_table (x := yL_number) B (hts _ List.mem_cons_self)
  subst hsz
  have hK3 : va_K D vwCl (ztys cy) s := hK.sub [0, 1, 2] rfl
  have hD := hJ.2.self (sz := s.heap.size)
  have hP := hJ.1
  clear hJ
  generalize hAe : va_A (xlW cy cL L (σ, []) q f) s.heap.size = A at hst hD ⊢
  have hA : ∀ q : Nat, s.heap.size ≤ q → A q := fun q h => by rw [← hAe]; exact Or.inr h
  have hJ : xJ D A (zws zEC cy L (σ, []) ++ [(q, xlA cL f)]) s.heap := ⟨hP, hD⟩
  have hS : va_S A s.heap s.heap [] := va_S.rf
  have hl := lv_entry ([.ref (L 0 0), .int a1, .int a2, .ref q]) (n := 5) (Nat.le_of_ble_eq_true rfl)
  show W p l e _ s m _ below meth c s.heap [] 0 0 _ (entryFrame m ([.ref (L 0 0), .int a1, .int a2, .ref q] : List Value).toArray 5)
  rw [lg_entry_eq]
  generalize (lg_sl ([.ref (L 0 0), .int a1, .int a2, .ref q]) ++ List.replicate (5 - (lg_sl ([.ref (L 0 0), .int a1, .int a2, .ref q])).length) Slot.unset).toArray = ls at hl ⊢
  have hl : lv_has ls 5 [(0, .ref (L 0 0)), (1, .int a1), (2, .int a2), (3, .ref q)] := hl
  refine lv_aload_n hx hb dL_number_0 rfl (lv_at hl 3 rfl) ?_
  refine lv_iconst (v := 0) hx hb dL_number_1 (by decide) ?_
  refine lv_aload_n hx hb dL_number_2 rfl (lv_at hl 0 rfl) ?_
  refine lv_iload_n hx hb dL_number_3 rfl (lv_at hl 1 rfl) ?_
  refine lv_iload_n hx hb dL_number_4 rfl (lv_at hl 2 rfl) ?_
  rcases hO with ⟨v, σ1, hO⟩ | ⟨x, σ1, hO, hx2, hcd⟩
  · have M : vx_Met l yX8_number wsX8_number zR_X8_number (va_Pc ([zO 0 0, zI a1, zI a2].map (zc L)) (zPre zEC D cy L (σ, []) s.heap.size)) (zQ zEC D cy L (some (zI v)) (σ1, []) (va_A (zws zEC cy L (σ, [])) s.heap.size)) zNoX zR_X8_number.cells zR_X8_number.slots (va_A (zws zEC cy L (σ, [])) s.heap.size) := zM_X8_number.2 l D cy L [zO 0 0, zI a1, zI a2] (σ, []) (.inl (some (zI v)), (σ1, [])) s.heap.size hfl hO
    refine xw_val (v := some (zI v)) (s' := (σ1, [])) (as := (σ, [])) (Y := [(q, xlA cL f)]) (vx_runV (As := [.int a1, .int a2]) (rest := [.int 0, .ref q]) ⟨hx, hb, hml, hown, hts⟩ M (cwV 2 hts gL_number_X8_number rfl rfl rfl (by decide +kernel) ⟨Nat.le_of_ble_eq_true rfl, Nat.le_of_ble_eq_true rfl⟩) ⟨zPre.blind, xw_recv hK hJ (ci := 8) rfl rfl (by decide) rfl, fun U hU hW => ⟨rfl, xw_pre hK3 hJ hS hA hst hU hW⟩⟩ rfl rfl hl.1 rfl (lv_room (Nat.le_of_ble_eq_true rfl)) dL_number_5 ⟨Nat.le_of_ble_eq_true rfl, Nat.le_of_ble_eq_true rfl⟩) hJ hS hA (fun H locs hJ hS => ?_)
    refine lv_i2l hx hb dL_number_8 rfl ?_
    refine va_last hx hb hK hJ.1 hJ.2 hS (zws zEC cy L (σ1, [])).length 3 xs_last rfl (i := 0) (vp_in_nI (show 0 < 1 by decide) (by decide)) dL_number_9 (fun H locs hP hD hS => ?_)
    rw [xs_setl] at hP hD
    refine lv_goto (tgt := 21) hx hb dL_number_10 (by decide) ?_
    refine lv_iconst (v := 0) hx hb dL_number_21 (by decide) ?_
    refine W.widen (k := 2) (n := 12) (Nat.le_of_ble_eq_true rfl) (Nat.le_of_ble_eq_true rfl) (vx_ret ?_)
    exact W.zret (v := 0) (ty := .int) hx hb hr rfl (fun t ht hW => ⟨⟨0, (σ1, vp_updL f 0 v.toInt64), rfl, Or.inl ⟨v, hO, rfl, rfl⟩, by show xJ _ _ _ t.heap; rw [ht]; exact ⟨hP, hD⟩⟩, hS.F ht⟩) hS.2.2 dL_number_22
  · have M : vx_Met l yX8_number wsX8_number zR_X8_number (va_Pc ([zO 0 0, zI a1, zI a2].map (zc L)) (zPre zEC D cy L (σ, []) s.heap.size)) (fun _ _ _ _ => False) (zX zEC D cy L x (σ1, []) (va_A (zws zEC cy L (σ, [])) s.heap.size)) zR_X8_number.cells zR_X8_number.slots (va_A (zws zEC cy L (σ, [])) s.heap.size) := zM_X8_number.2 l D cy L [zO 0 0, zI a1, zI a2] (σ, []) (.inr x, (σ1, [])) s.heap.size hfl hO
    refine xw_exc (x := x) (s' := (σ1, [])) (as := (σ, [])) (Y := [(q, xlA cL f)]) (fun _ _ _ h => h) (vx_runV (As := [.int a1, .int a2]) (rest := [.int 0, .ref q]) ⟨hx, hb, hml, hown, hts⟩ M (cwV 2 hts gL_number_X8_number rfl rfl rfl (by decide +kernel) ⟨Nat.le_of_ble_eq_true rfl, Nat.le_of_ble_eq_true rfl⟩) ⟨zPre.blind, xw_recv hK hJ (ci := 8) rfl rfl (by decide) rfl, fun U hU hW => ⟨rfl, xw_pre hK3 hJ hS hA hst hU hW⟩⟩ rfl rfl hl.1 rfl (lv_room (Nat.le_of_ble_eq_true rfl)) dL_number_5 ⟨Nat.le_of_ble_eq_true rfl, Nat.le_of_ble_eq_true rfl⟩) hJ hS hA (fun q9 ce H locs hJ hS hce hcv hcl => ?_)
    have h3 : x = 0 ∨ x = 1 ∨ x = 2 := by omega
    rcases h3 with rfl | rfl | rfl
    · exact absurd rfl hcd
    · refine vx_catch (name := "java/lang/IndexOutOfBoundsException") (E := zExc 1) hown [] ⟨0, 10, 13, 24⟩ [⟨0, 10, 17, 30⟩] (by rw [htab]; rfl) (fun _ h => nomatch h) (by decide) (by decide) (hts (.classLink RL 24 "java/lang/IndexOutOfBoundsException") (List.mem_of_getElem? (i := 1) rfl)) (xl_cast hst 1) hce hcv hcl ?_
      refine lv_astore (lv' := [(4, .ref q9), (0, .ref (L 0 0)), (1, .int a1), (2, .int a2), (3, .ref q)]) hx hb dL_number_13 hl (by decide) rfl (fun ls hl => ?_)
      refine lv_iconst (v := 1) hx hb dL_number_15 (by decide) ?_
      refine W.widen (k := 2) (n := 12) (Nat.le_of_ble_eq_true rfl) (Nat.le_of_ble_eq_true rfl) (vx_ret ?_)
      exact W.zret (v := 1) (ty := .int) hx hb hr rfl (fun t ht hW => ⟨⟨1, (σ1, f), rfl, Or.inr ⟨1, hO, rfl⟩, by show xJ _ _ _ t.heap; rw [ht]; exact hJ⟩, hS.F ht⟩) hS.2.2 dL_number_16
    · refine vx_catch (name := "java/lang/IllegalStateException") (E := zExc 2) hown [⟨0, 10, 13, 24⟩] ⟨0, 10, 17, 30⟩ [] (by rw [htab]; rfl) (List.forall_mem_cons.mpr ⟨Or.inr ⟨by decide, _, hts (.classLink RL 24 "java/lang/IndexOutOfBoundsException") (List.mem_of_getElem? (i := 1) rfl), hnc 2 1 (by decide) (by decide) (by decide)⟩, (fun _ h => nomatch h)⟩) (by decide) (by decide) (hts (.classLink RL 30 "java/lang/IllegalStateException") (List.mem_of_getElem? (i := 2) rfl)) (xl_cast hst 2) hce hcv hcl ?_
      refine lv_astore (lv' := [(4, .ref q9), (0, .ref (L 0 0)), (1, .int a1), (2, .int a2), (3, .ref q)]) hx hb dL_number_17 hl (by decide) rfl (fun ls hl => ?_)
      refine lv_iconst (v := 2) hx hb dL_number_19 (by decide) ?_
      refine W.widen (k := 2) (n := 12) (Nat.le_of_ble_eq_true rfl) (Nat.le_of_ble_eq_true rfl) (vx_ret ?_)
      exact W.zret (v := 2) (ty := .int) hx hb hr rfl (fun t ht hW => ⟨⟨2, (σ1, f), rfl, Or.inr ⟨2, hO, rfl⟩, by show xJ _ _ _ t.heap; rw [ht]; exact hJ⟩, hS.F ht⟩) hS.2.2 dL_number_20
set_option maxHeartbeats 4000000 in
set_option maxRecDepth 100000 in
theorem xl_places (l : Launch) (a1 : Int32) : xlMet l yL_places wsL_places ({ frames := 7, cells := 1, slots := 6, locals := 122 } : Room) (fun σ => m_X8_places [zO 0 0, zI a1] (σ, [])) (zcd 0 1 0) (fun h0 q => [.ref h0, .int a1, .ref q]) := by
  intro D cy cL L σ q f sz hfl hO
  refine vx_ofWH (cc := cL_places) (maxL := 4) (ret := some .int) (hh := [(0, 9, 12, 24)]) (by decide) rfl ?_
  intro p e s m args below meth c s₁ B hml hv
  obtain ⟨rfl, hsz, hJ, hK, hst, hnc⟩ := hv
  have hx := B.exec
  have hb := B.bytes
  have hr := B.returns
  have hts := atoms_spec (ws := wsL_places) B.pre
  have hown : s.vm.findClass RL = some m.cls := findClass_of_methodNamed B.named
  have hlocks := B.notSynchronized
  have htab := vx_table (x := yL_places) B (hts _ List.mem_cons_self)
  subst hsz
  have hK3 : va_K D vwCl (ztys cy) s := hK.sub [0, 1, 2] rfl
  have hD := hJ.2.self (sz := s.heap.size)
  have hP := hJ.1
  clear hJ
  generalize hAe : va_A (xlW cy cL L (σ, []) q f) s.heap.size = A at hst hD ⊢
  have hA : ∀ q : Nat, s.heap.size ≤ q → A q := fun q h => by rw [← hAe]; exact Or.inr h
  have hJ : xJ D A (zws zEC cy L (σ, []) ++ [(q, xlA cL f)]) s.heap := ⟨hP, hD⟩
  have hS : va_S A s.heap s.heap [] := va_S.rf
  have hl := lv_entry ([.ref (L 0 0), .int a1, .ref q]) (n := 4) (Nat.le_of_ble_eq_true rfl)
  show W p l e _ s m _ below meth c s.heap [] 0 0 _ (entryFrame m ([.ref (L 0 0), .int a1, .ref q] : List Value).toArray 4)
  rw [lg_entry_eq]
  generalize (lg_sl ([.ref (L 0 0), .int a1, .ref q]) ++ List.replicate (4 - (lg_sl ([.ref (L 0 0), .int a1, .ref q])).length) Slot.unset).toArray = ls at hl ⊢
  have hl : lv_has ls 4 [(0, .ref (L 0 0)), (1, .int a1), (2, .ref q)] := hl
  refine lv_aload_n hx hb dL_places_0 rfl (lv_at hl 2 rfl) ?_
  refine lv_iconst (v := 0) hx hb dL_places_1 (by decide) ?_
  refine lv_aload_n hx hb dL_places_2 rfl (lv_at hl 0 rfl) ?_
  refine lv_iload_n hx hb dL_places_3 rfl (lv_at hl 1 rfl) ?_
  rcases hO with ⟨v, σ1, hO⟩ | ⟨x, σ1, hO, hx2, hcd⟩
  · have M : vx_Met l yX8_places wsX8_places zR_X8_places (va_Pc ([zO 0 0, zI a1].map (zc L)) (zPre zEC D cy L (σ, []) s.heap.size)) (zQ zEC D cy L (some (zI v)) (σ1, []) (va_A (zws zEC cy L (σ, [])) s.heap.size)) zNoX zR_X8_places.cells zR_X8_places.slots (va_A (zws zEC cy L (σ, [])) s.heap.size) := zM_X8_places.2 l D cy L [zO 0 0, zI a1] (σ, []) (.inl (some (zI v)), (σ1, [])) s.heap.size hfl hO
    refine xw_val (v := some (zI v)) (s' := (σ1, [])) (as := (σ, [])) (Y := [(q, xlA cL f)]) (vx_runV (As := [.int a1]) (rest := [.int 0, .ref q]) ⟨hx, hb, hml, hown, hts⟩ M (cwV 1 hts gL_places_X8_places rfl rfl rfl (by decide +kernel) ⟨Nat.le_of_ble_eq_true rfl, Nat.le_of_ble_eq_true rfl⟩) ⟨zPre.blind, xw_recv hK hJ (ci := 8) rfl rfl (by decide) rfl, fun U hU hW => ⟨rfl, xw_pre hK3 hJ hS hA hst hU hW⟩⟩ rfl rfl hl.1 rfl (lv_room (Nat.le_of_ble_eq_true rfl)) dL_places_4 ⟨Nat.le_of_ble_eq_true rfl, Nat.le_of_ble_eq_true rfl⟩) hJ hS hA (fun H locs hJ hS => ?_)
    refine lv_i2l hx hb dL_places_7 rfl ?_
    refine va_last hx hb hK hJ.1 hJ.2 hS (zws zEC cy L (σ1, [])).length 3 xs_last rfl (i := 0) (vp_in_nI (show 0 < 1 by decide) (by decide)) dL_places_8 (fun H locs hP hD hS => ?_)
    rw [xs_setl] at hP hD
    refine lv_goto (tgt := 15) hx hb dL_places_9 (by decide) ?_
    refine lv_iconst (v := 0) hx hb dL_places_15 (by decide) ?_
    refine W.widen (k := 1) (n := 6) (Nat.le_of_ble_eq_true rfl) (Nat.le_of_ble_eq_true rfl) (vx_ret ?_)
    exact W.zret (v := 0) (ty := .int) hx hb hr rfl (fun t ht hW => ⟨⟨0, (σ1, vp_updL f 0 v.toInt64), rfl, Or.inl ⟨v, hO, rfl, rfl⟩, by show xJ _ _ _ t.heap; rw [ht]; exact ⟨hP, hD⟩⟩, hS.F ht⟩) hS.2.2 dL_places_16
  · have M : vx_Met l yX8_places wsX8_places zR_X8_places (va_Pc ([zO 0 0, zI a1].map (zc L)) (zPre zEC D cy L (σ, []) s.heap.size)) (fun _ _ _ _ => False) (zX zEC D cy L x (σ1, []) (va_A (zws zEC cy L (σ, [])) s.heap.size)) zR_X8_places.cells zR_X8_places.slots (va_A (zws zEC cy L (σ, [])) s.heap.size) := zM_X8_places.2 l D cy L [zO 0 0, zI a1] (σ, []) (.inr x, (σ1, [])) s.heap.size hfl hO
    refine xw_exc (x := x) (s' := (σ1, [])) (as := (σ, [])) (Y := [(q, xlA cL f)]) (fun _ _ _ h => h) (vx_runV (As := [.int a1]) (rest := [.int 0, .ref q]) ⟨hx, hb, hml, hown, hts⟩ M (cwV 1 hts gL_places_X8_places rfl rfl rfl (by decide +kernel) ⟨Nat.le_of_ble_eq_true rfl, Nat.le_of_ble_eq_true rfl⟩) ⟨zPre.blind, xw_recv hK hJ (ci := 8) rfl rfl (by decide) rfl, fun U hU hW => ⟨rfl, xw_pre hK3 hJ hS hA hst hU hW⟩⟩ rfl rfl hl.1 rfl (lv_room (Nat.le_of_ble_eq_true rfl)) dL_places_4 ⟨Nat.le_of_ble_eq_true rfl, Nat.le_of_ble_eq_true rfl⟩) hJ hS hA (fun q9 ce H locs hJ hS hce hcv hcl => ?_)
    have h3 : x = 0 ∨ x = 1 ∨ x = 2 := by omega
    rcases h3 with rfl | rfl | rfl
    · exact absurd rfl hcd
    · refine vx_catch (name := "java/lang/IndexOutOfBoundsException") (E := zExc 1) hown [] ⟨0, 9, 12, 24⟩ [] (by rw [htab]; rfl) (fun _ h => nomatch h) (by decide) (by decide) (hts (.classLink RL 24 "java/lang/IndexOutOfBoundsException") (List.mem_of_getElem? (i := 1) rfl)) (xl_cast hst 1) hce hcv hcl ?_
      refine lv_astore_n (lv' := [(3, .ref q9), (0, .ref (L 0 0)), (1, .int a1), (2, .ref q)]) hx hb dL_places_12 rfl hl (by decide) rfl (fun ls hl => ?_)
      refine lv_iconst (v := 1) hx hb dL_places_13 (by decide) ?_
      refine W.widen (k := 1) (n := 6) (Nat.le_of_ble_eq_true rfl) (Nat.le_of_ble_eq_true rfl) (vx_ret ?_)
      exact W.zret (v := 1) (ty := .int) hx hb hr rfl (fun t ht hW => ⟨⟨1, (σ1, f), rfl, Or.inr ⟨1, hO, rfl⟩, by show xJ _ _ _ t.heap; rw [ht]; exact hJ⟩, hS.F ht⟩) hS.2.2 dL_places_14
    · exact absurd rfl hcd
set_option maxHeartbeats 4000000 in
set_option maxRecDepth 100000 in
theorem xl_square (l : Launch) (a1 a2 : Int32) : xlMet l yL_square wsL_square ({ frames := 7, cells := 2, slots := 12, locals := 124 } : Room) (fun σ => m_X8_square [zO 0 0, zI a1, zI a2] (σ, [])) (zcd 0 1 2) (fun h0 q => [.ref h0, .int a1, .int a2, .ref q]) := by
  intro D cy cL L σ q f sz hfl hO
  refine vx_ofWH (cc := cL_square) (maxL := 5) (ret := some .int) (hh := [(0, 10, 13, 24), (0, 10, 17, 30)]) (by decide) rfl ?_
  intro p e s m args below meth c s₁ B hml hv
  obtain ⟨rfl, hsz, hJ, hK, hst, hnc⟩ := hv
  have hx := B.exec
  have hb := B.bytes
  have hr := B.returns
  have hts := atoms_spec (ws := wsL_square) B.pre
  have hown : s.vm.findClass RL = some m.cls := findClass_of_methodNamed B.named
  have hlocks := B.notSynchronized
  have htab := vx_table (x := yL_square) B (hts _ List.mem_cons_self)
  subst hsz
  have hK3 : va_K D vwCl (ztys cy) s := hK.sub [0, 1, 2] rfl
  have hD := hJ.2.self (sz := s.heap.size)
  have hP := hJ.1
  clear hJ
  generalize hAe : va_A (xlW cy cL L (σ, []) q f) s.heap.size = A at hst hD ⊢
  have hA : ∀ q : Nat, s.heap.size ≤ q → A q := fun q h => by rw [← hAe]; exact Or.inr h
  have hJ : xJ D A (zws zEC cy L (σ, []) ++ [(q, xlA cL f)]) s.heap := ⟨hP, hD⟩
  have hS : va_S A s.heap s.heap [] := va_S.rf
  have hl := lv_entry ([.ref (L 0 0), .int a1, .int a2, .ref q]) (n := 5) (Nat.le_of_ble_eq_true rfl)
  show W p l e _ s m _ below meth c s.heap [] 0 0 _ (entryFrame m ([.ref (L 0 0), .int a1, .int a2, .ref q] : List Value).toArray 5)
  rw [lg_entry_eq]
  generalize (lg_sl ([.ref (L 0 0), .int a1, .int a2, .ref q]) ++ List.replicate (5 - (lg_sl ([.ref (L 0 0), .int a1, .int a2, .ref q])).length) Slot.unset).toArray = ls at hl ⊢
  have hl : lv_has ls 5 [(0, .ref (L 0 0)), (1, .int a1), (2, .int a2), (3, .ref q)] := hl
  refine lv_aload_n hx hb dL_square_0 rfl (lv_at hl 3 rfl) ?_
  refine lv_iconst (v := 0) hx hb dL_square_1 (by decide) ?_
  refine lv_aload_n hx hb dL_square_2 rfl (lv_at hl 0 rfl) ?_
  refine lv_iload_n hx hb dL_square_3 rfl (lv_at hl 1 rfl) ?_
  refine lv_iload_n hx hb dL_square_4 rfl (lv_at hl 2 rfl) ?_
  rcases hO with ⟨v, σ1, hO⟩ | ⟨x, σ1, hO, hx2, hcd⟩
  · have M : vx_Met l yX8_square wsX8_square zR_X8_square (va_Pc ([zO 0 0, zI a1, zI a2].map (zc L)) (zPre zEC D cy L (σ, []) s.heap.size)) (zQ zEC D cy L (some (zI v)) (σ1, []) (va_A (zws zEC cy L (σ, [])) s.heap.size)) zNoX zR_X8_square.cells zR_X8_square.slots (va_A (zws zEC cy L (σ, [])) s.heap.size) := zM_X8_square.2 l D cy L [zO 0 0, zI a1, zI a2] (σ, []) (.inl (some (zI v)), (σ1, [])) s.heap.size hfl hO
    refine xw_val (v := some (zI v)) (s' := (σ1, [])) (as := (σ, [])) (Y := [(q, xlA cL f)]) (vx_runV (As := [.int a1, .int a2]) (rest := [.int 0, .ref q]) ⟨hx, hb, hml, hown, hts⟩ M (cwV 2 hts gL_square_X8_square rfl rfl rfl (by decide +kernel) ⟨Nat.le_of_ble_eq_true rfl, Nat.le_of_ble_eq_true rfl⟩) ⟨zPre.blind, xw_recv hK hJ (ci := 8) rfl rfl (by decide) rfl, fun U hU hW => ⟨rfl, xw_pre hK3 hJ hS hA hst hU hW⟩⟩ rfl rfl hl.1 rfl (lv_room (Nat.le_of_ble_eq_true rfl)) dL_square_5 ⟨Nat.le_of_ble_eq_true rfl, Nat.le_of_ble_eq_true rfl⟩) hJ hS hA (fun H locs hJ hS => ?_)
    refine lv_i2l hx hb dL_square_8 rfl ?_
    refine va_last hx hb hK hJ.1 hJ.2 hS (zws zEC cy L (σ1, [])).length 3 xs_last rfl (i := 0) (vp_in_nI (show 0 < 1 by decide) (by decide)) dL_square_9 (fun H locs hP hD hS => ?_)
    rw [xs_setl] at hP hD
    refine lv_goto (tgt := 21) hx hb dL_square_10 (by decide) ?_
    refine lv_iconst (v := 0) hx hb dL_square_21 (by decide) ?_
    refine W.widen (k := 2) (n := 12) (Nat.le_of_ble_eq_true rfl) (Nat.le_of_ble_eq_true rfl) (vx_ret ?_)
    exact W.zret (v := 0) (ty := .int) hx hb hr rfl (fun t ht hW => ⟨⟨0, (σ1, vp_updL f 0 v.toInt64), rfl, Or.inl ⟨v, hO, rfl, rfl⟩, by show xJ _ _ _ t.heap; rw [ht]; exact ⟨hP, hD⟩⟩, hS.F ht⟩) hS.2.2 dL_square_22
  · have M : vx_Met l yX8_square wsX8_square zR_X8_square (va_Pc ([zO 0 0, zI a1, zI a2].map (zc L)) (zPre zEC D cy L (σ, []) s.heap.size)) (fun _ _ _ _ => False) (zX zEC D cy L x (σ1, []) (va_A (zws zEC cy L (σ, [])) s.heap.size)) zR_X8_square.cells zR_X8_square.slots (va_A (zws zEC cy L (σ, [])) s.heap.size) := zM_X8_square.2 l D cy L [zO 0 0, zI a1, zI a2] (σ, []) (.inr x, (σ1, [])) s.heap.size hfl hO
    refine xw_exc (x := x) (s' := (σ1, [])) (as := (σ, [])) (Y := [(q, xlA cL f)]) (fun _ _ _ h => h) (vx_runV (As := [.int a1, .int a2]) (rest := [.int 0, .ref q]) ⟨hx, hb, hml, hown, hts⟩ M (cwV 2 hts gL_square_X8_square rfl rfl rfl (by decide +kernel) ⟨Nat.le_of_ble_eq_true rfl, Nat.le_of_ble_eq_true rfl⟩) ⟨zPre.blind, xw_recv hK hJ (ci := 8) rfl rfl (by decide) rfl, fun U hU hW => ⟨rfl, xw_pre hK3 hJ hS hA hst hU hW⟩⟩ rfl rfl hl.1 rfl (lv_room (Nat.le_of_ble_eq_true rfl)) dL_square_5 ⟨Nat.le_of_ble_eq_true rfl, Nat.le_of_ble_eq_true rfl⟩) hJ hS hA (fun q9 ce H locs hJ hS hce hcv hcl => ?_)
    have h3 : x = 0 ∨ x = 1 ∨ x = 2 := by omega
    rcases h3 with rfl | rfl | rfl
    · exact absurd rfl hcd
    · refine vx_catch (name := "java/lang/IndexOutOfBoundsException") (E := zExc 1) hown [] ⟨0, 10, 13, 24⟩ [⟨0, 10, 17, 30⟩] (by rw [htab]; rfl) (fun _ h => nomatch h) (by decide) (by decide) (hts (.classLink RL 24 "java/lang/IndexOutOfBoundsException") (List.mem_of_getElem? (i := 1) rfl)) (xl_cast hst 1) hce hcv hcl ?_
      refine lv_astore (lv' := [(4, .ref q9), (0, .ref (L 0 0)), (1, .int a1), (2, .int a2), (3, .ref q)]) hx hb dL_square_13 hl (by decide) rfl (fun ls hl => ?_)
      refine lv_iconst (v := 1) hx hb dL_square_15 (by decide) ?_
      refine W.widen (k := 2) (n := 12) (Nat.le_of_ble_eq_true rfl) (Nat.le_of_ble_eq_true rfl) (vx_ret ?_)
      exact W.zret (v := 1) (ty := .int) hx hb hr rfl (fun t ht hW => ⟨⟨1, (σ1, f), rfl, Or.inr ⟨1, hO, rfl⟩, by show xJ _ _ _ t.heap; rw [ht]; exact hJ⟩, hS.F ht⟩) hS.2.2 dL_square_16
    · refine vx_catch (name := "java/lang/IllegalStateException") (E := zExc 2) hown [⟨0, 10, 13, 24⟩] ⟨0, 10, 17, 30⟩ [] (by rw [htab]; rfl) (List.forall_mem_cons.mpr ⟨Or.inr ⟨by decide, _, hts (.classLink RL 24 "java/lang/IndexOutOfBoundsException") (List.mem_of_getElem? (i := 1) rfl), hnc 2 1 (by decide) (by decide) (by decide)⟩, (fun _ h => nomatch h)⟩) (by decide) (by decide) (hts (.classLink RL 30 "java/lang/IllegalStateException") (List.mem_of_getElem? (i := 2) rfl)) (xl_cast hst 2) hce hcv hcl ?_
      refine lv_astore (lv' := [(4, .ref q9), (0, .ref (L 0 0)), (1, .int a1), (2, .int a2), (3, .ref q)]) hx hb dL_square_17 hl (by decide) rfl (fun ls hl => ?_)
      refine lv_iconst (v := 2) hx hb dL_square_19 (by decide) ?_
      refine W.widen (k := 2) (n := 12) (Nat.le_of_ble_eq_true rfl) (Nat.le_of_ble_eq_true rfl) (vx_ret ?_)
      exact W.zret (v := 2) (ty := .int) hx hb hr rfl (fun t ht hW => ⟨⟨2, (σ1, f), rfl, Or.inr ⟨2, hO, rfl⟩, by show xJ _ _ _ t.heap; rw [ht]; exact hJ⟩, hS.F ht⟩) hS.2.2 dL_square_20
set_option maxHeartbeats 4000000 in
set_option maxRecDepth 100000 in
theorem xl_claim (l : Launch) (a1 a2 a3 a4 a5 : Int32) : xlMet l yL_claim wsL_claim ({ frames := 7, cells := 5, slots := 30, locals := 129 } : Room) (fun σ => m_X8_claim [zO 0 0, zI a1, zI a2, zI a3, zI a4, zI a5] (σ, [])) (zcd 1 2 3) (fun h0 q => [.ref h0, .int a1, .int a2, .int a3, .int a4, .int a5, .ref q]) := by
  intro D cy cL L σ q f sz hfl hO
  refine vx_ofWH (cc := cL_claim) (maxL := 8) (ret := some .int) (hh := [(0, 16, 19, 13), (0, 16, 23, 24), (0, 16, 27, 30)]) (by decide) rfl ?_
  intro p e s m args below meth c s₁ B hml hv
  obtain ⟨rfl, hsz, hJ, hK, hst, hnc⟩ := hv
  have hx := B.exec
  have hb := B.bytes
  have hr := B.returns
  have hts := atoms_spec (ws := wsL_claim) B.pre
  have hown : s.vm.findClass RL = some m.cls := findClass_of_methodNamed B.named
  have hlocks := B.notSynchronized
  have htab := vx_table (x := yL_claim) B (hts _ List.mem_cons_self)
  subst hsz
  have hK3 : va_K D vwCl (ztys cy) s := hK.sub [0, 1, 2] rfl
  have hD := hJ.2.self (sz := s.heap.size)
  have hP := hJ.1
  clear hJ
  generalize hAe : va_A (xlW cy cL L (σ, []) q f) s.heap.size = A at hst hD ⊢
  have hA : ∀ q : Nat, s.heap.size ≤ q → A q := fun q h => by rw [← hAe]; exact Or.inr h
  have hJ : xJ D A (zws zEC cy L (σ, []) ++ [(q, xlA cL f)]) s.heap := ⟨hP, hD⟩
  have hS : va_S A s.heap s.heap [] := va_S.rf
  have hl := lv_entry ([.ref (L 0 0), .int a1, .int a2, .int a3, .int a4, .int a5, .ref q]) (n := 8) (Nat.le_of_ble_eq_true rfl)
  show W p l e _ s m _ below meth c s.heap [] 0 0 _ (entryFrame m ([.ref (L 0 0), .int a1, .int a2, .int a3, .int a4, .int a5, .ref q] : List Value).toArray 8)
  rw [lg_entry_eq]
  generalize (lg_sl ([.ref (L 0 0), .int a1, .int a2, .int a3, .int a4, .int a5, .ref q]) ++ List.replicate (8 - (lg_sl ([.ref (L 0 0), .int a1, .int a2, .int a3, .int a4, .int a5, .ref q])).length) Slot.unset).toArray = ls at hl ⊢
  have hl : lv_has ls 8 [(0, .ref (L 0 0)), (1, .int a1), (2, .int a2), (3, .int a3), (4, .int a4), (5, .int a5), (6, .ref q)] := hl
  refine lv_aload hx hb dL_claim_0 (lv_at hl 6 rfl) ?_
  refine lv_iconst (v := 0) hx hb dL_claim_2 (by decide) ?_
  refine lv_aload_n hx hb dL_claim_3 rfl (lv_at hl 0 rfl) ?_
  refine lv_iload_n hx hb dL_claim_4 rfl (lv_at hl 1 rfl) ?_
  refine lv_iload_n hx hb dL_claim_5 rfl (lv_at hl 2 rfl) ?_
  refine lv_iload_n hx hb dL_claim_6 rfl (lv_at hl 3 rfl) ?_
  refine lv_iload hx hb dL_claim_7 (lv_at hl 4 rfl) ?_
  refine lv_iload hx hb dL_claim_9 (lv_at hl 5 rfl) ?_
  rcases hO with ⟨v, σ1, hO⟩ | ⟨x, σ1, hO, hx2, hcd⟩
  · have M : vx_Met l yX8_claim wsX8_claim zR_X8_claim (va_Pc ([zO 0 0, zI a1, zI a2, zI a3, zI a4, zI a5].map (zc L)) (zPre zEC D cy L (σ, []) s.heap.size)) (zQ zEC D cy L (some (zI v)) (σ1, []) (va_A (zws zEC cy L (σ, [])) s.heap.size)) zNoX zR_X8_claim.cells zR_X8_claim.slots (va_A (zws zEC cy L (σ, [])) s.heap.size) := zM_X8_claim.2 l D cy L [zO 0 0, zI a1, zI a2, zI a3, zI a4, zI a5] (σ, []) (.inl (some (zI v)), (σ1, [])) s.heap.size hfl hO
    refine xw_val (v := some (zI v)) (s' := (σ1, [])) (as := (σ, [])) (Y := [(q, xlA cL f)]) (vx_runV (As := [.int a1, .int a2, .int a3, .int a4, .int a5]) (rest := [.int 0, .ref q]) ⟨hx, hb, hml, hown, hts⟩ M (cwV 5 hts gL_claim_X8_claim rfl rfl rfl (by decide +kernel) ⟨Nat.le_of_ble_eq_true rfl, Nat.le_of_ble_eq_true rfl⟩) ⟨zPre.blind, xw_recv hK hJ (ci := 8) rfl rfl (by decide) rfl, fun U hU hW => ⟨rfl, xw_pre hK3 hJ hS hA hst hU hW⟩⟩ rfl rfl hl.1 rfl (lv_room (Nat.le_of_ble_eq_true rfl)) dL_claim_11 ⟨Nat.le_of_ble_eq_true rfl, Nat.le_of_ble_eq_true rfl⟩) hJ hS hA (fun H locs hJ hS => ?_)
    refine lv_i2l hx hb dL_claim_14 rfl ?_
    refine va_last hx hb hK hJ.1 hJ.2 hS (zws zEC cy L (σ1, [])).length 3 xs_last rfl (i := 0) (vp_in_nI (show 0 < 1 by decide) (by decide)) dL_claim_15 (fun H locs hP hD hS => ?_)
    rw [xs_setl] at hP hD
    refine lv_goto (tgt := 31) hx hb dL_claim_16 (by decide) ?_
    refine lv_iconst (v := 0) hx hb dL_claim_31 (by decide) ?_
    refine W.widen (k := 5) (n := 30) (Nat.le_of_ble_eq_true rfl) (Nat.le_of_ble_eq_true rfl) (vx_ret ?_)
    exact W.zret (v := 0) (ty := .int) hx hb hr rfl (fun t ht hW => ⟨⟨0, (σ1, vp_updL f 0 v.toInt64), rfl, Or.inl ⟨v, hO, rfl, rfl⟩, by show xJ _ _ _ t.heap; rw [ht]; exact ⟨hP, hD⟩⟩, hS.F ht⟩) hS.2.2 dL_claim_32
  · have M : vx_Met l yX8_claim wsX8_claim zR_X8_claim (va_Pc ([zO 0 0, zI a1, zI a2, zI a3, zI a4, zI a5].map (zc L)) (zPre zEC D cy L (σ, []) s.heap.size)) (fun _ _ _ _ => False) (zX zEC D cy L x (σ1, []) (va_A (zws zEC cy L (σ, [])) s.heap.size)) zR_X8_claim.cells zR_X8_claim.slots (va_A (zws zEC cy L (σ, [])) s.heap.size) := zM_X8_claim.2 l D cy L [zO 0 0, zI a1, zI a2, zI a3, zI a4, zI a5] (σ, []) (.inr x, (σ1, [])) s.heap.size hfl hO
    refine xw_exc (x := x) (s' := (σ1, [])) (as := (σ, [])) (Y := [(q, xlA cL f)]) (fun _ _ _ h => h) (vx_runV (As := [.int a1, .int a2, .int a3, .int a4, .int a5]) (rest := [.int 0, .ref q]) ⟨hx, hb, hml, hown, hts⟩ M (cwV 5 hts gL_claim_X8_claim rfl rfl rfl (by decide +kernel) ⟨Nat.le_of_ble_eq_true rfl, Nat.le_of_ble_eq_true rfl⟩) ⟨zPre.blind, xw_recv hK hJ (ci := 8) rfl rfl (by decide) rfl, fun U hU hW => ⟨rfl, xw_pre hK3 hJ hS hA hst hU hW⟩⟩ rfl rfl hl.1 rfl (lv_room (Nat.le_of_ble_eq_true rfl)) dL_claim_11 ⟨Nat.le_of_ble_eq_true rfl, Nat.le_of_ble_eq_true rfl⟩) hJ hS hA (fun q9 ce H locs hJ hS hce hcv hcl => ?_)
    have h3 : x = 0 ∨ x = 1 ∨ x = 2 := by omega
    rcases h3 with rfl | rfl | rfl
    · refine vx_catch (name := "java/lang/IllegalArgumentException") (E := zExc 0) hown [] ⟨0, 16, 19, 13⟩ [⟨0, 16, 23, 24⟩, ⟨0, 16, 27, 30⟩] (by rw [htab]; rfl) (fun _ h => nomatch h) (by decide) (by decide) (hts (.classLink RL 13 "java/lang/IllegalArgumentException") (List.mem_of_getElem? (i := 1) rfl)) (xl_cast hst 0) hce hcv hcl ?_
      refine lv_astore (lv' := [(7, .ref q9), (0, .ref (L 0 0)), (1, .int a1), (2, .int a2), (3, .int a3), (4, .int a4), (5, .int a5), (6, .ref q)]) hx hb dL_claim_19 hl (by decide) rfl (fun ls hl => ?_)
      refine lv_iconst (v := 1) hx hb dL_claim_21 (by decide) ?_
      refine W.widen (k := 5) (n := 30) (Nat.le_of_ble_eq_true rfl) (Nat.le_of_ble_eq_true rfl) (vx_ret ?_)
      exact W.zret (v := 1) (ty := .int) hx hb hr rfl (fun t ht hW => ⟨⟨1, (σ1, f), rfl, Or.inr ⟨0, hO, rfl⟩, by show xJ _ _ _ t.heap; rw [ht]; exact hJ⟩, hS.F ht⟩) hS.2.2 dL_claim_22
    · refine vx_catch (name := "java/lang/IndexOutOfBoundsException") (E := zExc 1) hown [⟨0, 16, 19, 13⟩] ⟨0, 16, 23, 24⟩ [⟨0, 16, 27, 30⟩] (by rw [htab]; rfl) (List.forall_mem_cons.mpr ⟨Or.inr ⟨by decide, _, hts (.classLink RL 13 "java/lang/IllegalArgumentException") (List.mem_of_getElem? (i := 1) rfl), hnc 1 0 (by decide) (by decide) (by decide)⟩, (fun _ h => nomatch h)⟩) (by decide) (by decide) (hts (.classLink RL 24 "java/lang/IndexOutOfBoundsException") (List.mem_of_getElem? (i := 2) rfl)) (xl_cast hst 1) hce hcv hcl ?_
      refine lv_astore (lv' := [(7, .ref q9), (0, .ref (L 0 0)), (1, .int a1), (2, .int a2), (3, .int a3), (4, .int a4), (5, .int a5), (6, .ref q)]) hx hb dL_claim_23 hl (by decide) rfl (fun ls hl => ?_)
      refine lv_iconst (v := 2) hx hb dL_claim_25 (by decide) ?_
      refine W.widen (k := 5) (n := 30) (Nat.le_of_ble_eq_true rfl) (Nat.le_of_ble_eq_true rfl) (vx_ret ?_)
      exact W.zret (v := 2) (ty := .int) hx hb hr rfl (fun t ht hW => ⟨⟨2, (σ1, f), rfl, Or.inr ⟨1, hO, rfl⟩, by show xJ _ _ _ t.heap; rw [ht]; exact hJ⟩, hS.F ht⟩) hS.2.2 dL_claim_26
    · refine vx_catch (name := "java/lang/IllegalStateException") (E := zExc 2) hown [⟨0, 16, 19, 13⟩, ⟨0, 16, 23, 24⟩] ⟨0, 16, 27, 30⟩ [] (by rw [htab]; rfl) (List.forall_mem_cons.mpr ⟨Or.inr ⟨by decide, _, hts (.classLink RL 13 "java/lang/IllegalArgumentException") (List.mem_of_getElem? (i := 1) rfl), hnc 2 0 (by decide) (by decide) (by decide)⟩, (List.forall_mem_cons.mpr ⟨Or.inr ⟨by decide, _, hts (.classLink RL 24 "java/lang/IndexOutOfBoundsException") (List.mem_of_getElem? (i := 2) rfl), hnc 2 1 (by decide) (by decide) (by decide)⟩, (fun _ h => nomatch h)⟩)⟩) (by decide) (by decide) (hts (.classLink RL 30 "java/lang/IllegalStateException") (List.mem_of_getElem? (i := 3) rfl)) (xl_cast hst 2) hce hcv hcl ?_
      refine lv_astore (lv' := [(7, .ref q9), (0, .ref (L 0 0)), (1, .int a1), (2, .int a2), (3, .int a3), (4, .int a4), (5, .int a5), (6, .ref q)]) hx hb dL_claim_27 hl (by decide) rfl (fun ls hl => ?_)
      refine lv_iconst (v := 3) hx hb dL_claim_29 (by decide) ?_
      refine W.widen (k := 5) (n := 30) (Nat.le_of_ble_eq_true rfl) (Nat.le_of_ble_eq_true rfl) (vx_ret ?_)
      exact W.zret (v := 3) (ty := .int) hx hb hr rfl (fun t ht hW => ⟨⟨3, (σ1, f), rfl, Or.inr ⟨2, hO, rfl⟩, by show xJ _ _ _ t.heap; rw [ht]; exact hJ⟩, hS.F ht⟩) hS.2.2 dL_claim_30
set_option maxHeartbeats 4000000 in
set_option maxRecDepth 100000 in
theorem xl_holds (l : Launch) (a1 : Int32) : xlMet l yL_holds wsL_holds ({ frames := 8, cells := 1, slots := 6, locals := 184 } : Room) (fun σ => m_X8_holds [zO 0 0, zI a1] (σ, [])) (zcd 0 1 0) (fun h0 q => [.ref h0, .int a1, .ref q]) := by
  intro D cy cL L σ q f sz hfl hO
  refine vx_ofWH (cc := cL_holds) (maxL := 4) (ret := some .int) (hh := [(0, 9, 12, 24)]) (by decide) rfl ?_
  intro p e s m args below meth c s₁ B hml hv
  obtain ⟨rfl, hsz, hJ, hK, hst, hnc⟩ := hv
  have hx := B.exec
  have hb := B.bytes
  have hr := B.returns
  have hts := atoms_spec (ws := wsL_holds) B.pre
  have hown : s.vm.findClass RL = some m.cls := findClass_of_methodNamed B.named
  have hlocks := B.notSynchronized
  have htab := vx_table (x := yL_holds) B (hts _ List.mem_cons_self)
  subst hsz
  have hK3 : va_K D vwCl (ztys cy) s := hK.sub [0, 1, 2] rfl
  have hD := hJ.2.self (sz := s.heap.size)
  have hP := hJ.1
  clear hJ
  generalize hAe : va_A (xlW cy cL L (σ, []) q f) s.heap.size = A at hst hD ⊢
  have hA : ∀ q : Nat, s.heap.size ≤ q → A q := fun q h => by rw [← hAe]; exact Or.inr h
  have hJ : xJ D A (zws zEC cy L (σ, []) ++ [(q, xlA cL f)]) s.heap := ⟨hP, hD⟩
  have hS : va_S A s.heap s.heap [] := va_S.rf
  have hl := lv_entry ([.ref (L 0 0), .int a1, .ref q]) (n := 4) (Nat.le_of_ble_eq_true rfl)
  show W p l e _ s m _ below meth c s.heap [] 0 0 _ (entryFrame m ([.ref (L 0 0), .int a1, .ref q] : List Value).toArray 4)
  rw [lg_entry_eq]
  generalize (lg_sl ([.ref (L 0 0), .int a1, .ref q]) ++ List.replicate (4 - (lg_sl ([.ref (L 0 0), .int a1, .ref q])).length) Slot.unset).toArray = ls at hl ⊢
  have hl : lv_has ls 4 [(0, .ref (L 0 0)), (1, .int a1), (2, .ref q)] := hl
  refine lv_aload_n hx hb dL_holds_0 rfl (lv_at hl 2 rfl) ?_
  refine lv_iconst (v := 0) hx hb dL_holds_1 (by decide) ?_
  refine lv_aload_n hx hb dL_holds_2 rfl (lv_at hl 0 rfl) ?_
  refine lv_iload_n hx hb dL_holds_3 rfl (lv_at hl 1 rfl) ?_
  rcases hO with ⟨v, σ1, hO⟩ | ⟨x, σ1, hO, hx2, hcd⟩
  · have M : vx_Met l yX8_holds wsX8_holds zR_X8_holds (va_Pc ([zO 0 0, zI a1].map (zc L)) (zPre zEC D cy L (σ, []) s.heap.size)) (zQ zEC D cy L (some (zI v)) (σ1, []) (va_A (zws zEC cy L (σ, [])) s.heap.size)) zNoX zR_X8_holds.cells zR_X8_holds.slots (va_A (zws zEC cy L (σ, [])) s.heap.size) := zM_X8_holds.2 l D cy L [zO 0 0, zI a1] (σ, []) (.inl (some (zI v)), (σ1, [])) s.heap.size hfl hO
    refine xw_val (v := some (zI v)) (s' := (σ1, [])) (as := (σ, [])) (Y := [(q, xlA cL f)]) (vx_runV (As := [.int a1]) (rest := [.int 0, .ref q]) ⟨hx, hb, hml, hown, hts⟩ M (cwV 1 hts gL_holds_X8_holds rfl rfl rfl (by decide +kernel) ⟨Nat.le_of_ble_eq_true rfl, Nat.le_of_ble_eq_true rfl⟩) ⟨zPre.blind, xw_recv hK hJ (ci := 8) rfl rfl (by decide) rfl, fun U hU hW => ⟨rfl, xw_pre hK3 hJ hS hA hst hU hW⟩⟩ rfl rfl hl.1 rfl (lv_room (Nat.le_of_ble_eq_true rfl)) dL_holds_4 ⟨Nat.le_of_ble_eq_true rfl, Nat.le_of_ble_eq_true rfl⟩) hJ hS hA (fun H locs hJ hS => ?_)
    refine lv_i2l hx hb dL_holds_7 rfl ?_
    refine va_last hx hb hK hJ.1 hJ.2 hS (zws zEC cy L (σ1, [])).length 3 xs_last rfl (i := 0) (vp_in_nI (show 0 < 1 by decide) (by decide)) dL_holds_8 (fun H locs hP hD hS => ?_)
    rw [xs_setl] at hP hD
    refine lv_goto (tgt := 15) hx hb dL_holds_9 (by decide) ?_
    refine lv_iconst (v := 0) hx hb dL_holds_15 (by decide) ?_
    refine W.widen (k := 1) (n := 6) (Nat.le_of_ble_eq_true rfl) (Nat.le_of_ble_eq_true rfl) (vx_ret ?_)
    exact W.zret (v := 0) (ty := .int) hx hb hr rfl (fun t ht hW => ⟨⟨0, (σ1, vp_updL f 0 v.toInt64), rfl, Or.inl ⟨v, hO, rfl, rfl⟩, by show xJ _ _ _ t.heap; rw [ht]; exact ⟨hP, hD⟩⟩, hS.F ht⟩) hS.2.2 dL_holds_16
  · have M : vx_Met l yX8_holds wsX8_holds zR_X8_holds (va_Pc ([zO 0 0, zI a1].map (zc L)) (zPre zEC D cy L (σ, []) s.heap.size)) (fun _ _ _ _ => False) (zX zEC D cy L x (σ1, []) (va_A (zws zEC cy L (σ, [])) s.heap.size)) zR_X8_holds.cells zR_X8_holds.slots (va_A (zws zEC cy L (σ, [])) s.heap.size) := zM_X8_holds.2 l D cy L [zO 0 0, zI a1] (σ, []) (.inr x, (σ1, [])) s.heap.size hfl hO
    refine xw_exc (x := x) (s' := (σ1, [])) (as := (σ, [])) (Y := [(q, xlA cL f)]) (fun _ _ _ h => h) (vx_runV (As := [.int a1]) (rest := [.int 0, .ref q]) ⟨hx, hb, hml, hown, hts⟩ M (cwV 1 hts gL_holds_X8_holds rfl rfl rfl (by decide +kernel) ⟨Nat.le_of_ble_eq_true rfl, Nat.le_of_ble_eq_true rfl⟩) ⟨zPre.blind, xw_recv hK hJ (ci := 8) rfl rfl (by decide) rfl, fun U hU hW => ⟨rfl, xw_pre hK3 hJ hS hA hst hU hW⟩⟩ rfl rfl hl.1 rfl (lv_room (Nat.le_of_ble_eq_true rfl)) dL_holds_4 ⟨Nat.le_of_ble_eq_true rfl, Nat.le_of_ble_eq_true rfl⟩) hJ hS hA (fun q9 ce H locs hJ hS hce hcv hcl => ?_)
    have h3 : x = 0 ∨ x = 1 ∨ x = 2 := by omega
    rcases h3 with rfl | rfl | rfl
    · exact absurd rfl hcd
    · refine vx_catch (name := "java/lang/IndexOutOfBoundsException") (E := zExc 1) hown [] ⟨0, 9, 12, 24⟩ [] (by rw [htab]; rfl) (fun _ h => nomatch h) (by decide) (by decide) (hts (.classLink RL 24 "java/lang/IndexOutOfBoundsException") (List.mem_of_getElem? (i := 1) rfl)) (xl_cast hst 1) hce hcv hcl ?_
      refine lv_astore_n (lv' := [(3, .ref q9), (0, .ref (L 0 0)), (1, .int a1), (2, .ref q)]) hx hb dL_holds_12 rfl hl (by decide) rfl (fun ls hl => ?_)
      refine lv_iconst (v := 1) hx hb dL_holds_13 (by decide) ?_
      refine W.widen (k := 1) (n := 6) (Nat.le_of_ble_eq_true rfl) (Nat.le_of_ble_eq_true rfl) (vx_ret ?_)
      exact W.zret (v := 1) (ty := .int) hx hb hr rfl (fun t ht hW => ⟨⟨1, (σ1, f), rfl, Or.inr ⟨1, hO, rfl⟩, by show xJ _ _ _ t.heap; rw [ht]; exact hJ⟩, hS.F ht⟩) hS.2.2 dL_holds_14
    · exact absurd rfl hcd
set_option maxHeartbeats 4000000 in
set_option maxRecDepth 100000 in
theorem xl_everywhere (l : Launch) (a1 a2 a3 : Int32) : xlMet l yL_everywhere wsL_everywhere ({ frames := 8, cells := 2, slots := 12, locals := 208 } : Room) (fun σ => m_X8_everywhere [zO 0 0, zI a1, zI a2, zI a3] (σ, [])) (zcd 0 1 2) (fun h0 q => [.ref h0, .int a1, .int a2, .int a3, .ref q]) := by
  intro D cy cL L σ q f sz hfl hO
  refine vx_ofWH (cc := cL_everywhere) (maxL := 6) (ret := some .int) (hh := [(0, 12, 15, 24), (0, 12, 19, 30)]) (by decide) rfl ?_
  intro p e s m args below meth c s₁ B hml hv
  obtain ⟨rfl, hsz, hJ, hK, hst, hnc⟩ := hv
  have hx := B.exec
  have hb := B.bytes
  have hr := B.returns
  have hts := atoms_spec (ws := wsL_everywhere) B.pre
  have hown : s.vm.findClass RL = some m.cls := findClass_of_methodNamed B.named
  have hlocks := B.notSynchronized
  have htab := vx_table (x := yL_everywhere) B (hts _ List.mem_cons_self)
  subst hsz
  have hK3 : va_K D vwCl (ztys cy) s := hK.sub [0, 1, 2] rfl
  have hD := hJ.2.self (sz := s.heap.size)
  have hP := hJ.1
  clear hJ
  generalize hAe : va_A (xlW cy cL L (σ, []) q f) s.heap.size = A at hst hD ⊢
  have hA : ∀ q : Nat, s.heap.size ≤ q → A q := fun q h => by rw [← hAe]; exact Or.inr h
  have hJ : xJ D A (zws zEC cy L (σ, []) ++ [(q, xlA cL f)]) s.heap := ⟨hP, hD⟩
  have hS : va_S A s.heap s.heap [] := va_S.rf
  have hl := lv_entry ([.ref (L 0 0), .int a1, .int a2, .int a3, .ref q]) (n := 6) (Nat.le_of_ble_eq_true rfl)
  show W p l e _ s m _ below meth c s.heap [] 0 0 _ (entryFrame m ([.ref (L 0 0), .int a1, .int a2, .int a3, .ref q] : List Value).toArray 6)
  rw [lg_entry_eq]
  generalize (lg_sl ([.ref (L 0 0), .int a1, .int a2, .int a3, .ref q]) ++ List.replicate (6 - (lg_sl ([.ref (L 0 0), .int a1, .int a2, .int a3, .ref q])).length) Slot.unset).toArray = ls at hl ⊢
  have hl : lv_has ls 6 [(0, .ref (L 0 0)), (1, .int a1), (2, .int a2), (3, .int a3), (4, .ref q)] := hl
  refine lv_aload hx hb dL_everywhere_0 (lv_at hl 4 rfl) ?_
  refine lv_iconst (v := 0) hx hb dL_everywhere_2 (by decide) ?_
  refine lv_aload_n hx hb dL_everywhere_3 rfl (lv_at hl 0 rfl) ?_
  refine lv_iload_n hx hb dL_everywhere_4 rfl (lv_at hl 1 rfl) ?_
  refine lv_iload_n hx hb dL_everywhere_5 rfl (lv_at hl 2 rfl) ?_
  refine lv_iload_n hx hb dL_everywhere_6 rfl (lv_at hl 3 rfl) ?_
  rcases hO with ⟨v, σ1, hO⟩ | ⟨x, σ1, hO, hx2, hcd⟩
  · have M : vx_Met l yX8_everywhere wsX8_everywhere zR_X8_everywhere (va_Pc ([zO 0 0, zI a1, zI a2, zI a3].map (zc L)) (zPre zEC D cy L (σ, []) s.heap.size)) (zQ zEC D cy L (some (zI v)) (σ1, []) (va_A (zws zEC cy L (σ, [])) s.heap.size)) zNoX zR_X8_everywhere.cells zR_X8_everywhere.slots (va_A (zws zEC cy L (σ, [])) s.heap.size) := zM_X8_everywhere.2 l D cy L [zO 0 0, zI a1, zI a2, zI a3] (σ, []) (.inl (some (zI v)), (σ1, [])) s.heap.size hfl hO
    refine xw_val (v := some (zI v)) (s' := (σ1, [])) (as := (σ, [])) (Y := [(q, xlA cL f)]) (vx_runV (As := [.int a1, .int a2, .int a3]) (rest := [.int 0, .ref q]) ⟨hx, hb, hml, hown, hts⟩ M (cwV 3 hts gL_everywhere_X8_everywhere rfl rfl rfl (by decide +kernel) ⟨Nat.le_of_ble_eq_true rfl, Nat.le_of_ble_eq_true rfl⟩) ⟨zPre.blind, xw_recv hK hJ (ci := 8) rfl rfl (by decide) rfl, fun U hU hW => ⟨rfl, xw_pre hK3 hJ hS hA hst hU hW⟩⟩ rfl rfl hl.1 rfl (lv_room (Nat.le_of_ble_eq_true rfl)) dL_everywhere_7 ⟨Nat.le_of_ble_eq_true rfl, Nat.le_of_ble_eq_true rfl⟩) hJ hS hA (fun H locs hJ hS => ?_)
    refine lv_i2l hx hb dL_everywhere_10 rfl ?_
    refine va_last hx hb hK hJ.1 hJ.2 hS (zws zEC cy L (σ1, [])).length 3 xs_last rfl (i := 0) (vp_in_nI (show 0 < 1 by decide) (by decide)) dL_everywhere_11 (fun H locs hP hD hS => ?_)
    rw [xs_setl] at hP hD
    refine lv_goto (tgt := 23) hx hb dL_everywhere_12 (by decide) ?_
    refine lv_iconst (v := 0) hx hb dL_everywhere_23 (by decide) ?_
    refine W.widen (k := 2) (n := 12) (Nat.le_of_ble_eq_true rfl) (Nat.le_of_ble_eq_true rfl) (vx_ret ?_)
    exact W.zret (v := 0) (ty := .int) hx hb hr rfl (fun t ht hW => ⟨⟨0, (σ1, vp_updL f 0 v.toInt64), rfl, Or.inl ⟨v, hO, rfl, rfl⟩, by show xJ _ _ _ t.heap; rw [ht]; exact ⟨hP, hD⟩⟩, hS.F ht⟩) hS.2.2 dL_everywhere_24
  · have M : vx_Met l yX8_everywhere wsX8_everywhere zR_X8_everywhere (va_Pc ([zO 0 0, zI a1, zI a2, zI a3].map (zc L)) (zPre zEC D cy L (σ, []) s.heap.size)) (fun _ _ _ _ => False) (zX zEC D cy L x (σ1, []) (va_A (zws zEC cy L (σ, [])) s.heap.size)) zR_X8_everywhere.cells zR_X8_everywhere.slots (va_A (zws zEC cy L (σ, [])) s.heap.size) := zM_X8_everywhere.2 l D cy L [zO 0 0, zI a1, zI a2, zI a3] (σ, []) (.inr x, (σ1, [])) s.heap.size hfl hO
    refine xw_exc (x := x) (s' := (σ1, [])) (as := (σ, [])) (Y := [(q, xlA cL f)]) (fun _ _ _ h => h) (vx_runV (As := [.int a1, .int a2, .int a3]) (rest := [.int 0, .ref q]) ⟨hx, hb, hml, hown, hts⟩ M (cwV 3 hts gL_everywhere_X8_everywhere rfl rfl rfl (by decide +kernel) ⟨Nat.le_of_ble_eq_true rfl, Nat.le_of_ble_eq_true rfl⟩) ⟨zPre.blind, xw_recv hK hJ (ci := 8) rfl rfl (by decide) rfl, fun U hU hW => ⟨rfl, xw_pre hK3 hJ hS hA hst hU hW⟩⟩ rfl rfl hl.1 rfl (lv_room (Nat.le_of_ble_eq_true rfl)) dL_everywhere_7 ⟨Nat.le_of_ble_eq_true rfl, Nat.le_of_ble_eq_true rfl⟩) hJ hS hA (fun q9 ce H locs hJ hS hce hcv hcl => ?_)
    have h3 : x = 0 ∨ x = 1 ∨ x = 2 := by omega
    rcases h3 with rfl | rfl | rfl
    · exact absurd rfl hcd
    · refine vx_catch (name := "java/lang/IndexOutOfBoundsException") (E := zExc 1) hown [] ⟨0, 12, 15, 24⟩ [⟨0, 12, 19, 30⟩] (by rw [htab]; rfl) (fun _ h => nomatch h) (by decide) (by decide) (hts (.classLink RL 24 "java/lang/IndexOutOfBoundsException") (List.mem_of_getElem? (i := 1) rfl)) (xl_cast hst 1) hce hcv hcl ?_
      refine lv_astore (lv' := [(5, .ref q9), (0, .ref (L 0 0)), (1, .int a1), (2, .int a2), (3, .int a3), (4, .ref q)]) hx hb dL_everywhere_15 hl (by decide) rfl (fun ls hl => ?_)
      refine lv_iconst (v := 1) hx hb dL_everywhere_17 (by decide) ?_
      refine W.widen (k := 2) (n := 12) (Nat.le_of_ble_eq_true rfl) (Nat.le_of_ble_eq_true rfl) (vx_ret ?_)
      exact W.zret (v := 1) (ty := .int) hx hb hr rfl (fun t ht hW => ⟨⟨1, (σ1, f), rfl, Or.inr ⟨1, hO, rfl⟩, by show xJ _ _ _ t.heap; rw [ht]; exact hJ⟩, hS.F ht⟩) hS.2.2 dL_everywhere_18
    · refine vx_catch (name := "java/lang/IllegalStateException") (E := zExc 2) hown [⟨0, 12, 15, 24⟩] ⟨0, 12, 19, 30⟩ [] (by rw [htab]; rfl) (List.forall_mem_cons.mpr ⟨Or.inr ⟨by decide, _, hts (.classLink RL 24 "java/lang/IndexOutOfBoundsException") (List.mem_of_getElem? (i := 1) rfl), hnc 2 1 (by decide) (by decide) (by decide)⟩, (fun _ h => nomatch h)⟩) (by decide) (by decide) (hts (.classLink RL 30 "java/lang/IllegalStateException") (List.mem_of_getElem? (i := 2) rfl)) (xl_cast hst 2) hce hcv hcl ?_
      refine lv_astore (lv' := [(5, .ref q9), (0, .ref (L 0 0)), (1, .int a1), (2, .int a2), (3, .int a3), (4, .ref q)]) hx hb dL_everywhere_19 hl (by decide) rfl (fun ls hl => ?_)
      refine lv_iconst (v := 2) hx hb dL_everywhere_21 (by decide) ?_
      refine W.widen (k := 2) (n := 12) (Nat.le_of_ble_eq_true rfl) (Nat.le_of_ble_eq_true rfl) (vx_ret ?_)
      exact W.zret (v := 2) (ty := .int) hx hb hr rfl (fun t ht hW => ⟨⟨2, (σ1, f), rfl, Or.inr ⟨2, hO, rfl⟩, by show xJ _ _ _ t.heap; rw [ht]; exact hJ⟩, hS.F ht⟩) hS.2.2 dL_everywhere_22
set_option maxHeartbeats 4000000 in
set_option maxRecDepth 100000 in
theorem xl_locus (l : Launch) (a1 a2 a3 : Int32) : xlMet l yL_locus wsL_locus ({ frames := 8, cells := 2, slots := 12, locals := 201 } : Room) (fun σ => m_X8_locus [zO 0 0, zI a1, zI a2, zI a3] (σ, [])) (zcd 0 1 2) (fun h0 q => [.ref h0, .int a1, .int a2, .int a3, .ref q]) := by
  intro D cy cL L σ q f sz hfl hO
  refine vx_ofWH (cc := cL_locus) (maxL := 6) (ret := some .int) (hh := [(0, 12, 15, 24), (0, 12, 19, 30)]) (by decide) rfl ?_
  intro p e s m args below meth c s₁ B hml hv
  obtain ⟨rfl, hsz, hJ, hK, hst, hnc⟩ := hv
  have hx := B.exec
  have hb := B.bytes
  have hr := B.returns
  have hts := atoms_spec (ws := wsL_locus) B.pre
  have hown : s.vm.findClass RL = some m.cls := findClass_of_methodNamed B.named
  have hlocks := B.notSynchronized
  have htab := vx_table (x := yL_locus) B (hts _ List.mem_cons_self)
  subst hsz
  have hK3 : va_K D vwCl (ztys cy) s := hK.sub [0, 1, 2] rfl
  have hD := hJ.2.self (sz := s.heap.size)
  have hP := hJ.1
  clear hJ
  generalize hAe : va_A (xlW cy cL L (σ, []) q f) s.heap.size = A at hst hD ⊢
  have hA : ∀ q : Nat, s.heap.size ≤ q → A q := fun q h => by rw [← hAe]; exact Or.inr h
  have hJ : xJ D A (zws zEC cy L (σ, []) ++ [(q, xlA cL f)]) s.heap := ⟨hP, hD⟩
  have hS : va_S A s.heap s.heap [] := va_S.rf
  have hl := lv_entry ([.ref (L 0 0), .int a1, .int a2, .int a3, .ref q]) (n := 6) (Nat.le_of_ble_eq_true rfl)
  show W p l e _ s m _ below meth c s.heap [] 0 0 _ (entryFrame m ([.ref (L 0 0), .int a1, .int a2, .int a3, .ref q] : List Value).toArray 6)
  rw [lg_entry_eq]
  generalize (lg_sl ([.ref (L 0 0), .int a1, .int a2, .int a3, .ref q]) ++ List.replicate (6 - (lg_sl ([.ref (L 0 0), .int a1, .int a2, .int a3, .ref q])).length) Slot.unset).toArray = ls at hl ⊢
  have hl : lv_has ls 6 [(0, .ref (L 0 0)), (1, .int a1), (2, .int a2), (3, .int a3), (4, .ref q)] := hl
  refine lv_aload hx hb dL_locus_0 (lv_at hl 4 rfl) ?_
  refine lv_iconst (v := 0) hx hb dL_locus_2 (by decide) ?_
  refine lv_aload_n hx hb dL_locus_3 rfl (lv_at hl 0 rfl) ?_
  refine lv_iload_n hx hb dL_locus_4 rfl (lv_at hl 1 rfl) ?_
  refine lv_iload_n hx hb dL_locus_5 rfl (lv_at hl 2 rfl) ?_
  refine lv_iload_n hx hb dL_locus_6 rfl (lv_at hl 3 rfl) ?_
  rcases hO with ⟨v, σ1, hO⟩ | ⟨x, σ1, hO, hx2, hcd⟩
  · have M : vx_Met l yX8_locus wsX8_locus zR_X8_locus (va_Pc ([zO 0 0, zI a1, zI a2, zI a3].map (zc L)) (zPre zEC D cy L (σ, []) s.heap.size)) (zQ zEC D cy L (some (zI v)) (σ1, []) (va_A (zws zEC cy L (σ, [])) s.heap.size)) zNoX zR_X8_locus.cells zR_X8_locus.slots (va_A (zws zEC cy L (σ, [])) s.heap.size) := zM_X8_locus.2 l D cy L [zO 0 0, zI a1, zI a2, zI a3] (σ, []) (.inl (some (zI v)), (σ1, [])) s.heap.size hfl hO
    refine xw_val (v := some (zI v)) (s' := (σ1, [])) (as := (σ, [])) (Y := [(q, xlA cL f)]) (vx_runV (As := [.int a1, .int a2, .int a3]) (rest := [.int 0, .ref q]) ⟨hx, hb, hml, hown, hts⟩ M (cwV 3 hts gL_locus_X8_locus rfl rfl rfl (by decide +kernel) ⟨Nat.le_of_ble_eq_true rfl, Nat.le_of_ble_eq_true rfl⟩) ⟨zPre.blind, xw_recv hK hJ (ci := 8) rfl rfl (by decide) rfl, fun U hU hW => ⟨rfl, xw_pre hK3 hJ hS hA hst hU hW⟩⟩ rfl rfl hl.1 rfl (lv_room (Nat.le_of_ble_eq_true rfl)) dL_locus_7 ⟨Nat.le_of_ble_eq_true rfl, Nat.le_of_ble_eq_true rfl⟩) hJ hS hA (fun H locs hJ hS => ?_)
    refine lv_i2l hx hb dL_locus_10 rfl ?_
    refine va_last hx hb hK hJ.1 hJ.2 hS (zws zEC cy L (σ1, [])).length 3 xs_last rfl (i := 0) (vp_in_nI (show 0 < 1 by decide) (by decide)) dL_locus_11 (fun H locs hP hD hS => ?_)
    rw [xs_setl] at hP hD
    refine lv_goto (tgt := 23) hx hb dL_locus_12 (by decide) ?_
    refine lv_iconst (v := 0) hx hb dL_locus_23 (by decide) ?_
    refine W.widen (k := 2) (n := 12) (Nat.le_of_ble_eq_true rfl) (Nat.le_of_ble_eq_true rfl) (vx_ret ?_)
    exact W.zret (v := 0) (ty := .int) hx hb hr rfl (fun t ht hW => ⟨⟨0, (σ1, vp_updL f 0 v.toInt64), rfl, Or.inl ⟨v, hO, rfl, rfl⟩, by show xJ _ _ _ t.heap; rw [ht]; exact ⟨hP, hD⟩⟩, hS.F ht⟩) hS.2.2 dL_locus_24
  · have M : vx_Met l yX8_locus wsX8_locus zR_X8_locus (va_Pc ([zO 0 0, zI a1, zI a2, zI a3].map (zc L)) (zPre zEC D cy L (σ, []) s.heap.size)) (fun _ _ _ _ => False) (zX zEC D cy L x (σ1, []) (va_A (zws zEC cy L (σ, [])) s.heap.size)) zR_X8_locus.cells zR_X8_locus.slots (va_A (zws zEC cy L (σ, [])) s.heap.size) := zM_X8_locus.2 l D cy L [zO 0 0, zI a1, zI a2, zI a3] (σ, []) (.inr x, (σ1, [])) s.heap.size hfl hO
    refine xw_exc (x := x) (s' := (σ1, [])) (as := (σ, [])) (Y := [(q, xlA cL f)]) (fun _ _ _ h => h) (vx_runV (As := [.int a1, .int a2, .int a3]) (rest := [.int 0, .ref q]) ⟨hx, hb, hml, hown, hts⟩ M (cwV 3 hts gL_locus_X8_locus rfl rfl rfl (by decide +kernel) ⟨Nat.le_of_ble_eq_true rfl, Nat.le_of_ble_eq_true rfl⟩) ⟨zPre.blind, xw_recv hK hJ (ci := 8) rfl rfl (by decide) rfl, fun U hU hW => ⟨rfl, xw_pre hK3 hJ hS hA hst hU hW⟩⟩ rfl rfl hl.1 rfl (lv_room (Nat.le_of_ble_eq_true rfl)) dL_locus_7 ⟨Nat.le_of_ble_eq_true rfl, Nat.le_of_ble_eq_true rfl⟩) hJ hS hA (fun q9 ce H locs hJ hS hce hcv hcl => ?_)
    have h3 : x = 0 ∨ x = 1 ∨ x = 2 := by omega
    rcases h3 with rfl | rfl | rfl
    · exact absurd rfl hcd
    · refine vx_catch (name := "java/lang/IndexOutOfBoundsException") (E := zExc 1) hown [] ⟨0, 12, 15, 24⟩ [⟨0, 12, 19, 30⟩] (by rw [htab]; rfl) (fun _ h => nomatch h) (by decide) (by decide) (hts (.classLink RL 24 "java/lang/IndexOutOfBoundsException") (List.mem_of_getElem? (i := 1) rfl)) (xl_cast hst 1) hce hcv hcl ?_
      refine lv_astore (lv' := [(5, .ref q9), (0, .ref (L 0 0)), (1, .int a1), (2, .int a2), (3, .int a3), (4, .ref q)]) hx hb dL_locus_15 hl (by decide) rfl (fun ls hl => ?_)
      refine lv_iconst (v := 1) hx hb dL_locus_17 (by decide) ?_
      refine W.widen (k := 2) (n := 12) (Nat.le_of_ble_eq_true rfl) (Nat.le_of_ble_eq_true rfl) (vx_ret ?_)
      exact W.zret (v := 1) (ty := .int) hx hb hr rfl (fun t ht hW => ⟨⟨1, (σ1, f), rfl, Or.inr ⟨1, hO, rfl⟩, by show xJ _ _ _ t.heap; rw [ht]; exact hJ⟩, hS.F ht⟩) hS.2.2 dL_locus_18
    · refine vx_catch (name := "java/lang/IllegalStateException") (E := zExc 2) hown [⟨0, 12, 15, 24⟩] ⟨0, 12, 19, 30⟩ [] (by rw [htab]; rfl) (List.forall_mem_cons.mpr ⟨Or.inr ⟨by decide, _, hts (.classLink RL 24 "java/lang/IndexOutOfBoundsException") (List.mem_of_getElem? (i := 1) rfl), hnc 2 1 (by decide) (by decide) (by decide)⟩, (fun _ h => nomatch h)⟩) (by decide) (by decide) (hts (.classLink RL 30 "java/lang/IllegalStateException") (List.mem_of_getElem? (i := 2) rfl)) (xl_cast hst 2) hce hcv hcl ?_
      refine lv_astore (lv' := [(5, .ref q9), (0, .ref (L 0 0)), (1, .int a1), (2, .int a2), (3, .int a3), (4, .ref q)]) hx hb dL_locus_19 hl (by decide) rfl (fun ls hl => ?_)
      refine lv_iconst (v := 2) hx hb dL_locus_21 (by decide) ?_
      refine W.widen (k := 2) (n := 12) (Nat.le_of_ble_eq_true rfl) (Nat.le_of_ble_eq_true rfl) (vx_ret ?_)
      exact W.zret (v := 2) (ty := .int) hx hb hr rfl (fun t ht hW => ⟨⟨2, (σ1, f), rfl, Or.inr ⟨2, hO, rfl⟩, by show xJ _ _ _ t.heap; rw [ht]; exact hJ⟩, hS.F ht⟩) hS.2.2 dL_locus_22
