/-! ===== constructors, walked (printed by wip/p20/gen_ctor.py) ===== -/
abbrev xe0 : va_E := .inr (0, [.int 0, .int 0, .int 0, .int 0, .int 0])
abbrev xe1 : va_E := .inr (1, [.null, .null, .int 0])
abbrev xe2 : va_E := .inr (2, [.null, .null])
abbrev xe3 : va_E := .inr (3, [.int 0, .null, .null])
abbrev xe4 : va_E := .inr (4, [.int 0, .int 0, .int 0, .int 0, .int 0, .int 0, .int 0, .int 0, .int 0, .int 0, .int 0, .int 0, .int 0])
abbrev xe5 : va_E := .inr (5, [.null, .null, .null, .null])
abbrev xe6 : va_E := .inr (6, [.null, .null, .int 0])
abbrev xe7 : va_E := .inr (7, [.null, .int 0])
abbrev xe8 : va_E := .inr (8, [.null, .null, .null, .null, .null, .null])
theorem xdv0 : ∀ j, j < 5 → defaultValue (tyX0 j) = vp_V [.int 0, .int 0, .int 0, .int 0, .int 0] j := by
  intro j hj
  rcases (show j = 0 ∨ j = 1 ∨ j = 2 ∨ j = 3 ∨ j = 4 by omega) with rfl | rfl | rfl | rfl | rfl <;> rfl
theorem xdv1 : ∀ j, j < 3 → defaultValue (tyX1 j) = vp_V [.null, .null, .int 0] j := by
  intro j hj
  rcases (show j = 0 ∨ j = 1 ∨ j = 2 by omega) with rfl | rfl | rfl <;> rfl
theorem xdv2 : ∀ j, j < 2 → defaultValue (tyX2 j) = vp_V [.null, .null] j := by
  intro j hj
  rcases (show j = 0 ∨ j = 1 by omega) with rfl | rfl <;> rfl
theorem xdv3 : ∀ j, j < 3 → defaultValue (tyX3 j) = vp_V [.int 0, .null, .null] j := by
  intro j hj
  rcases (show j = 0 ∨ j = 1 ∨ j = 2 by omega) with rfl | rfl | rfl <;> rfl
theorem xdv4 : ∀ j, j < 13 → defaultValue (tyX4 j) = vp_V [.int 0, .int 0, .int 0, .int 0, .int 0, .int 0, .int 0, .int 0, .int 0, .int 0, .int 0, .int 0, .int 0] j := by
  intro j hj
  rcases (show j = 0 ∨ j = 1 ∨ j = 2 ∨ j = 3 ∨ j = 4 ∨ j = 5 ∨ j = 6 ∨ j = 7 ∨ j = 8 ∨ j = 9 ∨ j = 10 ∨ j = 11 ∨ j = 12 by omega) with rfl | rfl | rfl | rfl | rfl | rfl | rfl | rfl | rfl | rfl | rfl | rfl | rfl <;> rfl
theorem xdv5 : ∀ j, j < 4 → defaultValue (tyX5 j) = vp_V [.null, .null, .null, .null] j := by
  intro j hj
  rcases (show j = 0 ∨ j = 1 ∨ j = 2 ∨ j = 3 by omega) with rfl | rfl | rfl | rfl <;> rfl
theorem xdv6 : ∀ j, j < 3 → defaultValue (tyX6 j) = vp_V [.null, .null, .int 0] j := by
  intro j hj
  rcases (show j = 0 ∨ j = 1 ∨ j = 2 by omega) with rfl | rfl | rfl <;> rfl
theorem xdv7 : ∀ j, j < 2 → defaultValue (tyX7 j) = vp_V [.null, .int 0] j := by
  intro j hj
  rcases (show j = 0 ∨ j = 1 by omega) with rfl | rfl <;> rfl
abbrev xfig (r : Int32) : va_E := .inr (4, [.int r, .int 0, .int (-1), .int (-1), .int (-1), .int 0, .int 0, .int 0, .int 0, .int 0, .int 0, .int 0, .int 0])
abbrev xcl : va_E := .inr (0, [.int 0, .int (-1), .int (-1), .int (-1), .int (-1)])
set_option maxHeartbeats 4000000 in
set_option maxRecDepth 100000 in
theorem xc_X4_init (l : Launch) (r : Int32) : xMet l yX4_init wsX4_init ({ frames := 1, cells := 0, slots := 0, locals := 12 }) [.int r] xe4 (fun _ h w => w = [(h, xfig r)]) := by
  intro D cy h0 sz
  refine Met.ofW (cc := cX4_init) (maxL := 2) (ret := none) (by decide) rfl ?_
  intro p e s m args below meth c s₁ B hml hv
  obtain ⟨rfl, hsz, hP, hK, hD0, hwd⟩ := hv
  have hx := B.exec
  have hb := B.bytes
  have hr := B.returns
  have hts := atoms_spec (ws := wsX4_init) B.pre
  have hown : s.vm.findClass RX4 = some m.cls := findClass_of_methodNamed B.named
  have hlocks := B.notSynchronized
  have hin : meth.name = "<init>" := (name_of_methodNamed B.named B.method).1
  subst hsz
  have hD := hD0.self (sz := s.heap.size)
  generalize hAe : va_A [(h0, xe4)] s.heap.size = A at hD ⊢
  have hA : ∀ q : Nat, s.heap.size ≤ q → A q := fun q h => by rw [← hAe]; exact Or.inr h
  have hS : va_S A s.heap s.heap [] := va_S.rf
  have hl := lv_entry ([.ref h0, .int r]) (n := 2) (Nat.le_of_ble_eq_true rfl)
  rw [lg_entry_eq]
  generalize (lg_sl ([.ref h0, .int r]) ++ List.replicate (2 - (lg_sl ([.ref h0, .int r])).length) Slot.unset).toArray = ls at hl ⊢
  have hl : lv_has ls 2 [(0, .ref h0), (1, .int r)] := hl
  have hP : va_P D vwCl ([(h0, .inr (4, [.int 0, .int 0, .int 0, .int 0, .int 0, .int 0, .int 0, .int 0, .int 0, .int 0, .int 0, .int 0, .int 0]))]) s.heap := hP
  have hD : va_D A ([(h0, .inr (4, [.int 0, .int 0, .int 0, .int 0, .int 0, .int 0, .int 0, .int 0, .int 0, .int 0, .int 0, .int 0, .int 0]))]) := hD
  have hin4 : ∀ w ∈ wsX40, w ∈ wsX4_init := fun w h => List.mem_cons_of_mem _ (List.mem_append_right _ h)
  refine lv_aload_n hx hb dX4_init_0 rfl (lv_at hl 0 rfl) ?_
  refine W.objInit hx hb hown (hts (.methodLink RX4 3 objectInit) (List.mem_of_getElem? (i := 1) rfl)) (hts (.instanceMethod objectInit) (List.mem_of_getElem? (i := 2) rfl)) (hts (.code objectInit ⟨#[0xb1]⟩ 1 none) (List.mem_of_getElem? (i := 3) rfl)) rfl (by rw [hml]; exact hl.1) rfl dX4_init_1 (Nat.le_of_ble_eq_true rfl) (Nat.le_of_ble_eq_true rfl) ?_
  refine W.eq (g2 := F0 m 4 ls []) rfl ?_
  refine lv_aload_n hx hb dX4_init_4 rfl (lv_at hl 0 rfl) ?_
  refine lv_iconst (v := (-1)) hx hb dX4_init_5 (by decide) ?_
  refine va_put (D := D) (ci := 4) (v := .int (-1)) (ty := .int) (C := RX4) (T := TX4) (N := 13) hx hb hts hin4 tyX4 tyX4_ok nmX4 hown hK hP hD hS 0 rfl rfl 2 (by decide) (hts (.fieldLink RX4 9 "PrimePlane$Figure" "a" "I") (List.mem_of_getElem? (i := 4) rfl)) (fun _ h9 => h9) rfl (by decide +kernel) rfl rfl (Nat.le_of_ble_eq_true rfl) dX4_init_6 (fun H locs hP hD hS => ?_)
  have hP : va_P D vwCl ([(h0, .inr (4, [.int 0, .int 0, .int (-1), .int 0, .int 0, .int 0, .int 0, .int 0, .int 0, .int 0, .int 0, .int 0, .int 0]))]) H := hP
  have hD : va_D A ([(h0, .inr (4, [.int 0, .int 0, .int (-1), .int 0, .int 0, .int 0, .int 0, .int 0, .int 0, .int 0, .int 0, .int 0, .int 0]))]) := hD
  refine lv_aload_n hx hb dX4_init_9 rfl (lv_at hl 0 rfl) ?_
  refine lv_iconst (v := (-1)) hx hb dX4_init_10 (by decide) ?_
  refine va_put (D := D) (ci := 4) (v := .int (-1)) (ty := .int) (C := RX4) (T := TX4) (N := 13) hx hb hts hin4 tyX4 tyX4_ok nmX4 hown hK hP hD hS 0 rfl rfl 3 (by decide) (hts (.fieldLink RX4 15 "PrimePlane$Figure" "b" "I") (List.mem_of_getElem? (i := 5) rfl)) (fun _ h9 => h9) rfl (by decide +kernel) rfl rfl (Nat.le_of_ble_eq_true rfl) dX4_init_11 (fun H locs hP hD hS => ?_)
  have hP : va_P D vwCl ([(h0, .inr (4, [.int 0, .int 0, .int (-1), .int (-1), .int 0, .int 0, .int 0, .int 0, .int 0, .int 0, .int 0, .int 0, .int 0]))]) H := hP
  have hD : va_D A ([(h0, .inr (4, [.int 0, .int 0, .int (-1), .int (-1), .int 0, .int 0, .int 0, .int 0, .int 0, .int 0, .int 0, .int 0, .int 0]))]) := hD
  refine lv_aload_n hx hb dX4_init_14 rfl (lv_at hl 0 rfl) ?_
  refine lv_iconst (v := (-1)) hx hb dX4_init_15 (by decide) ?_
  refine va_put (D := D) (ci := 4) (v := .int (-1)) (ty := .int) (C := RX4) (T := TX4) (N := 13) hx hb hts hin4 tyX4 tyX4_ok nmX4 hown hK hP hD hS 0 rfl rfl 4 (by decide) (hts (.fieldLink RX4 18 "PrimePlane$Figure" "c" "I") (List.mem_of_getElem? (i := 6) rfl)) (fun _ h9 => h9) rfl (by decide +kernel) rfl rfl (Nat.le_of_ble_eq_true rfl) dX4_init_16 (fun H locs hP hD hS => ?_)
  have hP : va_P D vwCl ([(h0, .inr (4, [.int 0, .int 0, .int (-1), .int (-1), .int (-1), .int 0, .int 0, .int 0, .int 0, .int 0, .int 0, .int 0, .int 0]))]) H := hP
  have hD : va_D A ([(h0, .inr (4, [.int 0, .int 0, .int (-1), .int (-1), .int (-1), .int 0, .int 0, .int 0, .int 0, .int 0, .int 0, .int 0, .int 0]))]) := hD
  refine lv_aload_n hx hb dX4_init_19 rfl (lv_at hl 0 rfl) ?_
  refine lv_iload_n hx hb dX4_init_20 rfl (lv_at hl 1 rfl) ?_
  refine va_putF (D := D) (ci := 4) (v := .int r) (ty := .int) (C := RX4) (T := TX4) (N := 13) hx hb hts hin4 tyX4 tyX4_ok nmX4 hown hK hP hD hS 0 rfl rfl 0 (by decide) (hts (.fieldLink RX4 21 "PrimePlane$Figure" "rank" "I") (List.mem_of_getElem? (i := 7) rfl)) (fun _ h9 => h9) rfl hin rfl (by decide +kernel) rfl rfl (Nat.le_of_ble_eq_true rfl) dX4_init_21 (fun H locs hP hD hS => ?_)
  have hP : va_P D vwCl ([(h0, .inr (4, [.int r, .int 0, .int (-1), .int (-1), .int (-1), .int 0, .int 0, .int 0, .int 0, .int 0, .int 0, .int 0, .int 0]))]) H := hP
  have hD : va_D A ([(h0, .inr (4, [.int r, .int 0, .int (-1), .int (-1), .int (-1), .int 0, .int 0, .int 0, .int 0, .int 0, .int 0, .int 0, .int 0]))]) := hD
  refine W.widen (k := 0) (n := 0) (Nat.le_of_ble_eq_true rfl) (Nat.le_of_ble_eq_true rfl) ?_
  exact W.vret hx hb hr (fun t ht hW => ⟨⟨_, rfl, rfl, by rw [ht]; exact hP, hD⟩, hS.F ht⟩) hS.2.2 dX4_init_24
set_option maxHeartbeats 4000000 in
set_option maxRecDepth 100000 in
theorem xc_X0_init (l : Launch) : xMet l yX0_init wsX0_init ({ frames := 1, cells := 0, slots := 0, locals := 12 }) [] xe0 (fun _ h w => w = [(h, xcl)]) := by
  intro D cy h0 sz
  refine Met.ofW (cc := cX0_init) (maxL := 1) (ret := none) (by decide) rfl ?_
  intro p e s m args below meth c s₁ B hml hv
  obtain ⟨rfl, hsz, hP, hK, hD0, hwd⟩ := hv
  have hx := B.exec
  have hb := B.bytes
  have hr := B.returns
  have hts := atoms_spec (ws := wsX0_init) B.pre
  have hown : s.vm.findClass RX0 = some m.cls := findClass_of_methodNamed B.named
  have hlocks := B.notSynchronized
  have hin : meth.name = "<init>" := (name_of_methodNamed B.named B.method).1
  subst hsz
  have hD := hD0.self (sz := s.heap.size)
  generalize hAe : va_A [(h0, xe0)] s.heap.size = A at hD ⊢
  have hA : ∀ q : Nat, s.heap.size ≤ q → A q := fun q h => by rw [← hAe]; exact Or.inr h
  have hS : va_S A s.heap s.heap [] := va_S.rf
  have hl := lv_entry ([.ref h0]) (n := 1) (Nat.le_of_ble_eq_true rfl)
  rw [lg_entry_eq]
  generalize (lg_sl ([.ref h0]) ++ List.replicate (1 - (lg_sl ([.ref h0])).length) Slot.unset).toArray = ls at hl ⊢
  have hl : lv_has ls 1 [(0, .ref h0)] := hl
  have hP : va_P D vwCl ([(h0, .inr (0, [.int 0, .int 0, .int 0, .int 0, .int 0]))]) s.heap := hP
  have hD : va_D A ([(h0, .inr (0, [.int 0, .int 0, .int 0, .int 0, .int 0]))]) := hD
  have hin0 : ∀ w ∈ wsX00, w ∈ wsX0_init := fun w h => List.mem_cons_of_mem _ (List.mem_append_right _ h)
  refine lv_aload_n hx hb dX0_init_0 rfl (lv_at hl 0 rfl) ?_
  refine W.objInit hx hb hown (hts (.methodLink RX0 3 objectInit) (List.mem_of_getElem? (i := 1) rfl)) (hts (.instanceMethod objectInit) (List.mem_of_getElem? (i := 2) rfl)) (hts (.code objectInit ⟨#[0xb1]⟩ 1 none) (List.mem_of_getElem? (i := 3) rfl)) rfl (by rw [hml]; exact hl.1) rfl dX0_init_1 (Nat.le_of_ble_eq_true rfl) (Nat.le_of_ble_eq_true rfl) ?_
  refine W.eq (g2 := F0 m 4 ls []) rfl ?_
  refine lv_aload_n hx hb dX0_init_4 rfl (lv_at hl 0 rfl) ?_
  refine lv_iconst (v := (-1)) hx hb dX0_init_5 (by decide) ?_
  refine va_put (D := D) (ci := 0) (v := .int (-1)) (ty := .int) (C := RX0) (T := TX0) (N := 5) hx hb hts hin0 tyX0 tyX0_ok nmX0 hown hK hP hD hS 0 rfl rfl 1 (by decide) (hts (.fieldLink RX0 9 "PrimePlane$Claim" "a" "I") (List.mem_of_getElem? (i := 4) rfl)) (fun _ h9 => h9) rfl (by decide +kernel) rfl rfl (Nat.le_of_ble_eq_true rfl) dX0_init_6 (fun H locs hP hD hS => ?_)
  have hP : va_P D vwCl ([(h0, .inr (0, [.int 0, .int (-1), .int 0, .int 0, .int 0]))]) H := hP
  have hD : va_D A ([(h0, .inr (0, [.int 0, .int (-1), .int 0, .int 0, .int 0]))]) := hD
  refine lv_aload_n hx hb dX0_init_9 rfl (lv_at hl 0 rfl) ?_
  refine lv_iconst (v := (-1)) hx hb dX0_init_10 (by decide) ?_
  refine va_put (D := D) (ci := 0) (v := .int (-1)) (ty := .int) (C := RX0) (T := TX0) (N := 5) hx hb hts hin0 tyX0 tyX0_ok nmX0 hown hK hP hD hS 0 rfl rfl 2 (by decide) (hts (.fieldLink RX0 15 "PrimePlane$Claim" "b" "I") (List.mem_of_getElem? (i := 5) rfl)) (fun _ h9 => h9) rfl (by decide +kernel) rfl rfl (Nat.le_of_ble_eq_true rfl) dX0_init_11 (fun H locs hP hD hS => ?_)
  have hP : va_P D vwCl ([(h0, .inr (0, [.int 0, .int (-1), .int (-1), .int 0, .int 0]))]) H := hP
  have hD : va_D A ([(h0, .inr (0, [.int 0, .int (-1), .int (-1), .int 0, .int 0]))]) := hD
  refine lv_aload_n hx hb dX0_init_14 rfl (lv_at hl 0 rfl) ?_
  refine lv_iconst (v := (-1)) hx hb dX0_init_15 (by decide) ?_
  refine va_put (D := D) (ci := 0) (v := .int (-1)) (ty := .int) (C := RX0) (T := TX0) (N := 5) hx hb hts hin0 tyX0 tyX0_ok nmX0 hown hK hP hD hS 0 rfl rfl 3 (by decide) (hts (.fieldLink RX0 18 "PrimePlane$Claim" "c" "I") (List.mem_of_getElem? (i := 6) rfl)) (fun _ h9 => h9) rfl (by decide +kernel) rfl rfl (Nat.le_of_ble_eq_true rfl) dX0_init_16 (fun H locs hP hD hS => ?_)
  have hP : va_P D vwCl ([(h0, .inr (0, [.int 0, .int (-1), .int (-1), .int (-1), .int 0]))]) H := hP
  have hD : va_D A ([(h0, .inr (0, [.int 0, .int (-1), .int (-1), .int (-1), .int 0]))]) := hD
  refine lv_aload_n hx hb dX0_init_19 rfl (lv_at hl 0 rfl) ?_
  refine lv_iconst (v := (-1)) hx hb dX0_init_20 (by decide) ?_
  refine va_put (D := D) (ci := 0) (v := .int (-1)) (ty := .int) (C := RX0) (T := TX0) (N := 5) hx hb hts hin0 tyX0 tyX0_ok nmX0 hown hK hP hD hS 0 rfl rfl 4 (by decide) (hts (.fieldLink RX0 21 "PrimePlane$Claim" "d" "I") (List.mem_of_getElem? (i := 7) rfl)) (fun _ h9 => h9) rfl (by decide +kernel) rfl rfl (Nat.le_of_ble_eq_true rfl) dX0_init_21 (fun H locs hP hD hS => ?_)
  have hP : va_P D vwCl ([(h0, .inr (0, [.int 0, .int (-1), .int (-1), .int (-1), .int (-1)]))]) H := hP
  have hD : va_D A ([(h0, .inr (0, [.int 0, .int (-1), .int (-1), .int (-1), .int (-1)]))]) := hD
  refine W.widen (k := 0) (n := 0) (Nat.le_of_ble_eq_true rfl) (Nat.le_of_ble_eq_true rfl) ?_
  exact W.vret hx hb hr (fun t ht hW => ⟨⟨_, rfl, rfl, by rw [ht]; exact hP, hD⟩, hS.F ht⟩) hS.2.2 dX0_init_24
set_option maxHeartbeats 4000000 in
set_option maxRecDepth 100000 in
theorem xc_X3_init (l : Launch) : xMet l yX3_init wsX3_init ({ frames := 1, cells := 2, slots := 86, locals := 12 }) [] xe3 (fun cy h w => ∃ a1 a2, w = [(h, .inr (3, [.int 43, .ref a1, .ref a2])), (a1, .inl (cy 0, 43, .inl (fun _ => 0))), (a2, .inl (cy 0, 43, .inl (fun _ => 0)))]) := by
  intro D cy h0 sz
  refine Met.ofW (cc := cX3_init) (maxL := 1) (ret := none) (by decide) rfl ?_
  intro p e s m args below meth c s₁ B hml hv
  obtain ⟨rfl, hsz, hP, hK, hD0, hwd⟩ := hv
  have hx := B.exec
  have hb := B.bytes
  have hr := B.returns
  have hts := atoms_spec (ws := wsX3_init) B.pre
  have hown : s.vm.findClass RX3 = some m.cls := findClass_of_methodNamed B.named
  have hlocks := B.notSynchronized
  have hin : meth.name = "<init>" := (name_of_methodNamed B.named B.method).1
  subst hsz
  have hD := hD0.self (sz := s.heap.size)
  generalize hAe : va_A [(h0, xe3)] s.heap.size = A at hD ⊢
  have hA : ∀ q : Nat, s.heap.size ≤ q → A q := fun q h => by rw [← hAe]; exact Or.inr h
  have hS : va_S A s.heap s.heap [] := va_S.rf
  have hl := lv_entry ([.ref h0]) (n := 1) (Nat.le_of_ble_eq_true rfl)
  rw [lg_entry_eq]
  generalize (lg_sl ([.ref h0]) ++ List.replicate (1 - (lg_sl ([.ref h0])).length) Slot.unset).toArray = ls at hl ⊢
  have hl : lv_has ls 1 [(0, .ref h0)] := hl
  have hP : va_P D vwCl ([(h0, .inr (3, [.int 0, .null, .null]))]) s.heap := hP
  have hD : va_D A ([(h0, .inr (3, [.int 0, .null, .null]))]) := hD
  have hin3 : ∀ w ∈ wsX30, w ∈ wsX3_init := fun w h => List.mem_cons_of_mem _ (List.mem_append_right _ h)
  refine lv_aload_n hx hb dX3_init_0 rfl (lv_at hl 0 rfl) ?_
  refine W.objInit hx hb hown (hts (.methodLink RX3 3 objectInit) (List.mem_of_getElem? (i := 1) rfl)) (hts (.instanceMethod objectInit) (List.mem_of_getElem? (i := 2) rfl)) (hts (.code objectInit ⟨#[0xb1]⟩ 1 none) (List.mem_of_getElem? (i := 3) rfl)) rfl (by rw [hml]; exact hl.1) rfl dX3_init_1 (Nat.le_of_ble_eq_true rfl) (Nat.le_of_ble_eq_true rfl) ?_
  refine W.eq (g2 := F0 m 4 ls []) rfl ?_
  refine lv_aload_n hx hb dX3_init_4 rfl (lv_at hl 0 rfl) ?_
  refine lv_bipush (v := 43) hx hb dX3_init_5 (by decide) ?_
  refine va_put (D := D) (ci := 3) (v := .int 43) (ty := .int) (C := RX3) (T := TX3) (N := 3) hx hb hts hin3 tyX3 tyX3_ok nmX3 hown hK hP hD hS 0 rfl rfl 0 (by decide) (hts (.fieldLink RX3 9 "PrimePlane$Field" "p" "I") (List.mem_of_getElem? (i := 4) rfl)) (fun _ h9 => h9) rfl (by decide +kernel) rfl rfl (Nat.le_of_ble_eq_true rfl) dX3_init_7 (fun H locs hP hD hS => ?_)
  have hP : va_P D vwCl ([(h0, .inr (3, [.int 43, .null, .null]))]) H := hP
  have hD : va_D A ([(h0, .inr (3, [.int 43, .null, .null]))]) := hD
  refine lv_aload_n hx hb dX3_init_10 rfl (lv_at hl 0 rfl) ?_
  refine lv_bipush (v := 43) hx hb dX3_init_11 (by decide) ?_
  refine xs_newa (N := 43) hx hb (hts (.arrayClass .int) (List.mem_of_getElem? (i := 5) rfl)) hK hP hD hS hA (by decide) rfl (Nat.le_of_ble_eq_true rfl) (Nat.le_of_ble_eq_true rfl) (Nat.le_of_ble_eq_true rfl) dX3_init_13 (fun q1 H hP hD hS => ?_)
  have hP : va_P D vwCl ([(h0, .inr (3, [.int 43, .null, .null])), (q1, .inl (cy 0, 43, .inl (fun _ => 0)))]) H := hP
  have hD : va_D A ([(h0, .inr (3, [.int 43, .null, .null])), (q1, .inl (cy 0, 43, .inl (fun _ => 0)))]) := hD
  refine va_putF (D := D) (ci := 3) (v := .ref q1) (ty := .array .int) (C := RX3) (T := TX3) (N := 3) hx hb hts hin3 tyX3 tyX3_ok nmX3 hown hK hP hD hS 0 rfl rfl 1 (by decide) (hts (.fieldLink RX3 15 "PrimePlane$Field" "inverses" "[I") (List.mem_of_getElem? (i := 6) rfl)) (fun _ h9 => h9) rfl hin rfl (by decide +kernel) rfl rfl (Nat.le_of_ble_eq_true rfl) dX3_init_15 (fun H locs hP hD hS => ?_)
  have hP : va_P D vwCl ([(h0, .inr (3, [.int 43, .ref q1, .null])), (q1, .inl (cy 0, 43, .inl (fun _ => 0)))]) H := hP
  have hD : va_D A ([(h0, .inr (3, [.int 43, .ref q1, .null])), (q1, .inl (cy 0, 43, .inl (fun _ => 0)))]) := hD
  refine lv_aload_n hx hb dX3_init_18 rfl (lv_at hl 0 rfl) ?_
  refine lv_bipush (v := 43) hx hb dX3_init_19 (by decide) ?_
  refine xs_newa (N := 43) hx hb (hts (.arrayClass .int) (List.mem_of_getElem? (i := 5) rfl)) hK hP hD hS hA (by decide) rfl (Nat.le_of_ble_eq_true rfl) (Nat.le_of_ble_eq_true rfl) (Nat.le_of_ble_eq_true rfl) dX3_init_21 (fun q2 H hP hD hS => ?_)
  have hP : va_P D vwCl ([(h0, .inr (3, [.int 43, .ref q1, .null])), (q1, .inl (cy 0, 43, .inl (fun _ => 0))), (q2, .inl (cy 0, 43, .inl (fun _ => 0)))]) H := hP
  have hD : va_D A ([(h0, .inr (3, [.int 43, .ref q1, .null])), (q1, .inl (cy 0, 43, .inl (fun _ => 0))), (q2, .inl (cy 0, 43, .inl (fun _ => 0)))]) := hD
  refine va_putF (D := D) (ci := 3) (v := .ref q2) (ty := .array .int) (C := RX3) (T := TX3) (N := 3) hx hb hts hin3 tyX3 tyX3_ok nmX3 hown hK hP hD hS 0 rfl rfl 2 (by decide) (hts (.fieldLink RX3 19 "PrimePlane$Field" "roots" "[I") (List.mem_of_getElem? (i := 7) rfl)) (fun _ h9 => h9) rfl hin rfl (by decide +kernel) rfl rfl (Nat.le_of_ble_eq_true rfl) dX3_init_23 (fun H locs hP hD hS => ?_)
  have hP : va_P D vwCl ([(h0, .inr (3, [.int 43, .ref q1, .ref q2])), (q1, .inl (cy 0, 43, .inl (fun _ => 0))), (q2, .inl (cy 0, 43, .inl (fun _ => 0)))]) H := hP
  have hD : va_D A ([(h0, .inr (3, [.int 43, .ref q1, .ref q2])), (q1, .inl (cy 0, 43, .inl (fun _ => 0))), (q2, .inl (cy 0, 43, .inl (fun _ => 0)))]) := hD
  refine W.widen (k := 2) (n := 86) (Nat.le_of_ble_eq_true rfl) (Nat.le_of_ble_eq_true rfl) ?_
  exact W.vret hx hb hr (fun t ht hW => ⟨⟨_, rfl, ⟨_, _, rfl⟩, by rw [ht]; exact hP, hD⟩, hS.F ht⟩) hS.2.2 dX3_init_26
set_option maxHeartbeats 4000000 in
set_option maxRecDepth 100000 in
theorem xc_X2_init (l : Launch) : xMet l yX2_init wsX2_init ({ frames := 2, cells := 4, slots := 102, locals := 33 }) [] xe2 (fun cy h w => ∃ a1 a2 a3 a4, w = [(h, .inr (2, [.ref a1, .ref a4])), (a1, .inr (3, [.int 43, .ref a2, .ref a3])), (a2, .inl (cy 0, 43, .inl (fun _ => 0))), (a3, .inl (cy 0, 43, .inl (fun _ => 0))), (a4, xfig (-1))]) := by
  intro D cy h0 sz
  refine Met.ofW (cc := cX2_init) (maxL := 1) (ret := none) (by decide) rfl ?_
  intro p e s m args below meth c s₁ B hml hv
  obtain ⟨rfl, hsz, hP, hK, hD0, hwd⟩ := hv
  have hx := B.exec
  have hb := B.bytes
  have hr := B.returns
  have hts := atoms_spec (ws := wsX2_init) B.pre
  have hown : s.vm.findClass RX2 = some m.cls := findClass_of_methodNamed B.named
  have hlocks := B.notSynchronized
  have hin : meth.name = "<init>" := (name_of_methodNamed B.named B.method).1
  subst hsz
  have hD := hD0.self (sz := s.heap.size)
  generalize hAe : va_A [(h0, xe2)] s.heap.size = A at hD ⊢
  have hA : ∀ q : Nat, s.heap.size ≤ q → A q := fun q h => by rw [← hAe]; exact Or.inr h
  have hS : va_S A s.heap s.heap [] := va_S.rf
  have hl := lv_entry ([.ref h0]) (n := 1) (Nat.le_of_ble_eq_true rfl)
  rw [lg_entry_eq]
  generalize (lg_sl ([.ref h0]) ++ List.replicate (1 - (lg_sl ([.ref h0])).length) Slot.unset).toArray = ls at hl ⊢
  have hl : lv_has ls 1 [(0, .ref h0)] := hl
  have hP : va_P D vwCl ([(h0, .inr (2, [.null, .null]))]) s.heap := hP
  have hD : va_D A ([(h0, .inr (2, [.null, .null]))]) := hD
  have hin2 : ∀ w ∈ wsX20, w ∈ wsX2_init := fun w h => List.mem_cons_of_mem _ (List.mem_append_left _ (List.mem_append_right _ h))
  have hin3 : ∀ w ∈ wsX30, w ∈ wsX2_init := fun w h => List.mem_cons_of_mem _ (List.mem_append_left _ (List.mem_append_left _ (List.mem_append_right _ h)))
  have hin4 : ∀ w ∈ wsX40, w ∈ wsX2_init := fun w h => List.mem_cons_of_mem _ (List.mem_append_right _ h)
  refine lv_aload_n hx hb dX2_init_0 rfl (lv_at hl 0 rfl) ?_
  refine W.objInit hx hb hown (hts (.methodLink RX2 3 objectInit) (List.mem_of_getElem? (i := 1) rfl)) (hts (.instanceMethod objectInit) (List.mem_of_getElem? (i := 2) rfl)) (hts (.code objectInit ⟨#[0xb1]⟩ 1 none) (List.mem_of_getElem? (i := 3) rfl)) rfl (by rw [hml]; exact hl.1) rfl dX2_init_1 (Nat.le_of_ble_eq_true rfl) (Nat.le_of_ble_eq_true rfl) ?_
  refine W.eq (g2 := F0 m 4 ls []) rfl ?_
  refine lv_aload_n hx hb dX2_init_4 rfl (lv_at hl 0 rfl) ?_
  refine va_new (ci := 3) (fs := [.int 0, .null, .null]) (C := RX3) (T := TX3) (N := 3) hx hb hts hin3 tyX3 tyX3_ok hown (hts (.classLink RX2 9 RX3) (List.mem_of_getElem? (i := 4) rfl)) (hts (.instantiable RX3 3) (List.mem_of_getElem? (i := 5) rfl)) (hts (.initialized RX3) (List.mem_of_getElem? (i := 6) rfl)) hK hP hD hS hA rfl xdv3 (Nat.le_of_ble_eq_true rfl) (Nat.le_of_ble_eq_true rfl) dX2_init_5 (fun q1 H hP hD hS => ?_)
  have hP : va_P D vwCl ([(h0, .inr (2, [.null, .null])), (q1, .inr (3, [.int 0, .null, .null]))]) H := hP
  have hD : va_D A ([(h0, .inr (2, [.null, .null])), (q1, .inr (3, [.int 0, .null, .null]))]) := hD
  refine lv_dup hx hb dX2_init_8 rfl ?_
  refine xs_callN (ws0 := [(h0, .inr (2, [.null, .null]))]) (av := []) (xc_X3_init l) ⟨hx, hb, hml, hown, hts⟩ ⟨va_cnB 0 hts gX2_init_X3_init_n11 rfl rfl rfl (hwd.nest 1 rfl) (hts (.initialized RX3) (List.mem_of_getElem? (i := 6) rfl)) (by decide +kernel) ⟨Nat.le_of_ble_eq_true rfl, Nat.le_of_ble_eq_true rfl⟩, rfl, (hts (.instanceMethod yX3_init) (List.mem_of_getElem? (i := 12) rfl))⟩ hK hwd hP hD hS hA rfl hl.1 (Nat.le_of_ble_eq_true rfl) dX2_init_9 ⟨Nat.le_of_ble_eq_true rfl, Nat.le_of_ble_eq_true rfl⟩ (fun w H locs hw hP hD hS => ?_)
  obtain ⟨q2, q3, rfl⟩ := hw
  have hP : va_P D vwCl ([(h0, .inr (2, [.null, .null])), (q1, .inr (3, [.int 43, .ref q2, .ref q3])), (q2, .inl (cy 0, 43, .inl (fun _ => 0))), (q3, .inl (cy 0, 43, .inl (fun _ => 0)))]) H := hP
  have hD : va_D A ([(h0, .inr (2, [.null, .null])), (q1, .inr (3, [.int 43, .ref q2, .ref q3])), (q2, .inl (cy 0, 43, .inl (fun _ => 0))), (q3, .inl (cy 0, 43, .inl (fun _ => 0)))]) := hD
  refine va_putF (D := D) (ci := 2) (v := .ref q1) (ty := .object "PrimePlane$Field") (C := RX2) (T := TX2) (N := 2) hx hb hts hin2 tyX2 tyX2_ok nmX2 hown hK hP hD hS 0 rfl rfl 0 (by decide) (hts (.fieldLink RX2 12 "PrimePlane$Compass" "field" "LPrimePlane$Field;") (List.mem_of_getElem? (i := 7) rfl)) (fun _ h9 => h9) rfl hin rfl (by decide +kernel) rfl rfl (Nat.le_of_ble_eq_true rfl) dX2_init_12 (fun H locs hP hD hS => ?_)
  have hP : va_P D vwCl ([(h0, .inr (2, [.ref q1, .null])), (q1, .inr (3, [.int 43, .ref q2, .ref q3])), (q2, .inl (cy 0, 43, .inl (fun _ => 0))), (q3, .inl (cy 0, 43, .inl (fun _ => 0)))]) H := hP
  have hD : va_D A ([(h0, .inr (2, [.ref q1, .null])), (q1, .inr (3, [.int 43, .ref q2, .ref q3])), (q2, .inl (cy 0, 43, .inl (fun _ => 0))), (q3, .inl (cy 0, 43, .inl (fun _ => 0)))]) := hD
  refine lv_aload_n hx hb dX2_init_15 rfl (lv_at hl 0 rfl) ?_
  refine va_new (ci := 4) (fs := [.int 0, .int 0, .int 0, .int 0, .int 0, .int 0, .int 0, .int 0, .int 0, .int 0, .int 0, .int 0, .int 0]) (C := RX4) (T := TX4) (N := 13) hx hb hts hin4 tyX4 tyX4_ok hown (hts (.classLink RX2 18 RX4) (List.mem_of_getElem? (i := 8) rfl)) (hts (.instantiable RX4 13) (List.mem_of_getElem? (i := 9) rfl)) (hts (.initialized RX4) (List.mem_of_getElem? (i := 10) rfl)) hK hP hD hS hA rfl xdv4 (Nat.le_of_ble_eq_true rfl) (Nat.le_of_ble_eq_true rfl) dX2_init_16 (fun q4 H hP hD hS => ?_)
  have hP : va_P D vwCl ([(h0, .inr (2, [.ref q1, .null])), (q1, .inr (3, [.int 43, .ref q2, .ref q3])), (q2, .inl (cy 0, 43, .inl (fun _ => 0))), (q3, .inl (cy 0, 43, .inl (fun _ => 0))), (q4, .inr (4, [.int 0, .int 0, .int 0, .int 0, .int 0, .int 0, .int 0, .int 0, .int 0, .int 0, .int 0, .int 0, .int 0]))]) H := hP
  have hD : va_D A ([(h0, .inr (2, [.ref q1, .null])), (q1, .inr (3, [.int 43, .ref q2, .ref q3])), (q2, .inl (cy 0, 43, .inl (fun _ => 0))), (q3, .inl (cy 0, 43, .inl (fun _ => 0))), (q4, .inr (4, [.int 0, .int 0, .int 0, .int 0, .int 0, .int 0, .int 0, .int 0, .int 0, .int 0, .int 0, .int 0, .int 0]))]) := hD
  refine lv_dup hx hb dX2_init_19 rfl ?_
  refine lv_iconst (v := (-1)) hx hb dX2_init_20 (by decide) ?_
  refine xs_call (ws0 := [(h0, .inr (2, [.ref q1, .null])), (q1, .inr (3, [.int 43, .ref q2, .ref q3])), (q2, .inl (cy 0, 43, .inl (fun _ => 0))), (q3, .inl (cy 0, 43, .inl (fun _ => 0)))]) (av := [.int (-1)]) (xc_X4_init l ((-1))) ⟨hx, hb, hml, hown, hts⟩ (cwI 1 hts gX2_init_X4_init rfl rfl rfl (hts (.initialized RX4) (List.mem_of_getElem? (i := 10) rfl)) (hts (.methodLink RX2 20 yX4_init) (List.mem_of_getElem? (i := 19) rfl)) (hts (.instanceMethod yX4_init) (List.mem_of_getElem? (i := 20) rfl)) rfl (by decide +kernel) ⟨Nat.le_of_ble_eq_true rfl, Nat.le_of_ble_eq_true rfl⟩) hK hwd hP hD hS hA rfl hl.1 (Nat.le_of_ble_eq_true rfl) dX2_init_21 ⟨Nat.le_of_ble_eq_true rfl, Nat.le_of_ble_eq_true rfl⟩ (fun w H locs hw hP hD hS => ?_)
  subst hw
  have hP : va_P D vwCl ([(h0, .inr (2, [.ref q1, .null])), (q1, .inr (3, [.int 43, .ref q2, .ref q3])), (q2, .inl (cy 0, 43, .inl (fun _ => 0))), (q3, .inl (cy 0, 43, .inl (fun _ => 0))), (q4, xfig ((-1)))]) H := hP
  have hD : va_D A ([(h0, .inr (2, [.ref q1, .null])), (q1, .inr (3, [.int 43, .ref q2, .ref q3])), (q2, .inl (cy 0, 43, .inl (fun _ => 0))), (q3, .inl (cy 0, 43, .inl (fun _ => 0))), (q4, xfig ((-1)))]) := hD
  refine va_putF (D := D) (ci := 2) (v := .ref q4) (ty := .object "PrimePlane$Figure") (C := RX2) (T := TX2) (N := 2) hx hb hts hin2 tyX2 tyX2_ok nmX2 hown hK hP hD hS 0 rfl rfl 1 (by decide) (hts (.fieldLink RX2 23 "PrimePlane$Compass" "chord" "LPrimePlane$Figure;") (List.mem_of_getElem? (i := 11) rfl)) (fun _ h9 => h9) rfl hin rfl (by decide +kernel) rfl rfl (Nat.le_of_ble_eq_true rfl) dX2_init_24 (fun H locs hP hD hS => ?_)
  have hP : va_P D vwCl ([(h0, .inr (2, [.ref q1, .ref q4])), (q1, .inr (3, [.int 43, .ref q2, .ref q3])), (q2, .inl (cy 0, 43, .inl (fun _ => 0))), (q3, .inl (cy 0, 43, .inl (fun _ => 0))), (q4, xfig ((-1)))]) H := hP
  have hD : va_D A ([(h0, .inr (2, [.ref q1, .ref q4])), (q1, .inr (3, [.int 43, .ref q2, .ref q3])), (q2, .inl (cy 0, 43, .inl (fun _ => 0))), (q3, .inl (cy 0, 43, .inl (fun _ => 0))), (q4, xfig ((-1)))]) := hD
  refine W.widen (k := 4) (n := 102) (Nat.le_of_ble_eq_true rfl) (Nat.le_of_ble_eq_true rfl) ?_
  exact W.vret hx hb hr (fun t ht hW => ⟨⟨_, rfl, ⟨_, _, _, _, rfl⟩, by rw [ht]; exact hP, hD⟩, hS.F ht⟩) hS.2.2 dX2_init_27
set_option maxHeartbeats 4000000 in
set_option maxRecDepth 100000 in
theorem xc_X5_init (l : Launch) : xMet l yX5_init wsX5_init ({ frames := 3, cells := 7, slots := 130, locals := 53 }) [] xe5 (fun cy h w => ∃ hC hF iv ro ch cr ri, w = [(h, .inr (5, [.ref hC, .ref hF, .ref cr, .ref ri])), (hC, .inr (2, [.ref hF, .ref ch])), (hF, .inr (3, [.int 43, .ref iv, .ref ro])), (iv, .inl (cy 0, 43, .inl (fun _ => 0))), (ro, .inl (cy 0, 43, .inl (fun _ => 0))), (ch, xfig (-1)), (cr, xfig (-1)), (ri, xfig (-1))]) := by
  intro D cy h0 sz
  refine Met.ofW (cc := cX5_init) (maxL := 1) (ret := none) (by decide) rfl ?_
  intro p e s m args below meth c s₁ B hml hv
  obtain ⟨rfl, hsz, hP, hK, hD0, hwd⟩ := hv
  have hx := B.exec
  have hb := B.bytes
  have hr := B.returns
  have hts := atoms_spec (ws := wsX5_init) B.pre
  have hown : s.vm.findClass RX5 = some m.cls := findClass_of_methodNamed B.named
  have hlocks := B.notSynchronized
  have hin : meth.name = "<init>" := (name_of_methodNamed B.named B.method).1
  subst hsz
  have hD := hD0.self (sz := s.heap.size)
  generalize hAe : va_A [(h0, xe5)] s.heap.size = A at hD ⊢
  have hA : ∀ q : Nat, s.heap.size ≤ q → A q := fun q h => by rw [← hAe]; exact Or.inr h
  have hS : va_S A s.heap s.heap [] := va_S.rf
  have hl := lv_entry ([.ref h0]) (n := 1) (Nat.le_of_ble_eq_true rfl)
  rw [lg_entry_eq]
  generalize (lg_sl ([.ref h0]) ++ List.replicate (1 - (lg_sl ([.ref h0])).length) Slot.unset).toArray = ls at hl ⊢
  have hl : lv_has ls 1 [(0, .ref h0)] := hl
  have hP : va_P D vwCl ([(h0, .inr (5, [.null, .null, .null, .null]))]) s.heap := hP
  have hD : va_D A ([(h0, .inr (5, [.null, .null, .null, .null]))]) := hD
  have hin2 : ∀ w ∈ wsX20, w ∈ wsX5_init := fun w h => List.mem_cons_of_mem _ (List.mem_append_left _ (List.mem_append_left _ (List.mem_append_left _ (List.mem_append_right _ h))))
  have hin3 : ∀ w ∈ wsX30, w ∈ wsX5_init := fun w h => List.mem_cons_of_mem _ (List.mem_append_right _ h)
  have hin4 : ∀ w ∈ wsX40, w ∈ wsX5_init := fun w h => List.mem_cons_of_mem _ (List.mem_append_left _ (List.mem_append_right _ h))
  have hin5 : ∀ w ∈ wsX50, w ∈ wsX5_init := fun w h => List.mem_cons_of_mem _ (List.mem_append_left _ (List.mem_append_left _ (List.mem_append_right _ h)))
  refine lv_aload_n hx hb dX5_init_0 rfl (lv_at hl 0 rfl) ?_
  refine W.objInit hx hb hown (hts (.methodLink RX5 3 objectInit) (List.mem_of_getElem? (i := 1) rfl)) (hts (.instanceMethod objectInit) (List.mem_of_getElem? (i := 2) rfl)) (hts (.code objectInit ⟨#[0xb1]⟩ 1 none) (List.mem_of_getElem? (i := 3) rfl)) rfl (by rw [hml]; exact hl.1) rfl dX5_init_1 (Nat.le_of_ble_eq_true rfl) (Nat.le_of_ble_eq_true rfl) ?_
  refine W.eq (g2 := F0 m 4 ls []) rfl ?_
  refine lv_aload_n hx hb dX5_init_4 rfl (lv_at hl 0 rfl) ?_
  refine va_new (ci := 2) (fs := [.null, .null]) (C := RX2) (T := TX2) (N := 2) hx hb hts hin2 tyX2 tyX2_ok hown (hts (.classLink RX5 9 RX2) (List.mem_of_getElem? (i := 4) rfl)) (hts (.instantiable RX2 2) (List.mem_of_getElem? (i := 5) rfl)) (hts (.initialized RX2) (List.mem_of_getElem? (i := 6) rfl)) hK hP hD hS hA rfl xdv2 (Nat.le_of_ble_eq_true rfl) (Nat.le_of_ble_eq_true rfl) dX5_init_5 (fun q1 H hP hD hS => ?_)
  have hP : va_P D vwCl ([(h0, .inr (5, [.null, .null, .null, .null])), (q1, .inr (2, [.null, .null]))]) H := hP
  have hD : va_D A ([(h0, .inr (5, [.null, .null, .null, .null])), (q1, .inr (2, [.null, .null]))]) := hD
  refine lv_dup hx hb dX5_init_8 rfl ?_
  refine xs_callN (ws0 := [(h0, .inr (5, [.null, .null, .null, .null]))]) (av := []) (xc_X2_init l) ⟨hx, hb, hml, hown, hts⟩ ⟨va_cnB 0 hts gX5_init_X2_init_n11 rfl rfl rfl (hwd.nest 2 rfl) (hts (.initialized RX2) (List.mem_of_getElem? (i := 6) rfl)) (by decide +kernel) ⟨Nat.le_of_ble_eq_true rfl, Nat.le_of_ble_eq_true rfl⟩, rfl, (hts (.instanceMethod yX2_init) (List.mem_of_getElem? (i := 15) rfl))⟩ hK hwd hP hD hS hA rfl hl.1 (Nat.le_of_ble_eq_true rfl) dX5_init_9 ⟨Nat.le_of_ble_eq_true rfl, Nat.le_of_ble_eq_true rfl⟩ (fun w H locs hw hP hD hS => ?_)
  obtain ⟨q2, q3, q4, q5, rfl⟩ := hw
  have hP : va_P D vwCl ([(h0, .inr (5, [.null, .null, .null, .null])), (q1, .inr (2, [.ref q2, .ref q5])), (q2, .inr (3, [.int 43, .ref q3, .ref q4])), (q3, .inl (cy 0, 43, .inl (fun _ => 0))), (q4, .inl (cy 0, 43, .inl (fun _ => 0))), (q5, xfig (-1))]) H := hP
  have hD : va_D A ([(h0, .inr (5, [.null, .null, .null, .null])), (q1, .inr (2, [.ref q2, .ref q5])), (q2, .inr (3, [.int 43, .ref q3, .ref q4])), (q3, .inl (cy 0, 43, .inl (fun _ => 0))), (q4, .inl (cy 0, 43, .inl (fun _ => 0))), (q5, xfig (-1))]) := hD
  refine va_putF (D := D) (ci := 5) (v := .ref q1) (ty := .object "PrimePlane$Compass") (C := RX5) (T := TX5) (N := 4) hx hb hts hin5 tyX5 tyX5_ok nmX5 hown hK hP hD hS 0 rfl rfl 0 (by decide) (hts (.fieldLink RX5 12 "PrimePlane$Judge" "compass" "LPrimePlane$Compass;") (List.mem_of_getElem? (i := 7) rfl)) (fun _ h9 => h9) rfl hin rfl (by decide +kernel) rfl rfl (Nat.le_of_ble_eq_true rfl) dX5_init_12 (fun H locs hP hD hS => ?_)
  have hP : va_P D vwCl ([(h0, .inr (5, [.ref q1, .null, .null, .null])), (q1, .inr (2, [.ref q2, .ref q5])), (q2, .inr (3, [.int 43, .ref q3, .ref q4])), (q3, .inl (cy 0, 43, .inl (fun _ => 0))), (q4, .inl (cy 0, 43, .inl (fun _ => 0))), (q5, xfig (-1))]) H := hP
  have hD : va_D A ([(h0, .inr (5, [.ref q1, .null, .null, .null])), (q1, .inr (2, [.ref q2, .ref q5])), (q2, .inr (3, [.int 43, .ref q3, .ref q4])), (q3, .inl (cy 0, 43, .inl (fun _ => 0))), (q4, .inl (cy 0, 43, .inl (fun _ => 0))), (q5, xfig (-1))]) := hD
  refine lv_aload_n hx hb dX5_init_15 rfl (lv_at hl 0 rfl) ?_
  refine lv_aload_n hx hb dX5_init_16 rfl (lv_at hl 0 rfl) ?_
  refine va_get (D := D) (ci := 5) (v := .ref q1) (C := RX5) (T := TX5) (N := 4) hx hb hts hin5 hown hK hP 0 rfl rfl 0 (by decide) (hts (.fieldLink RX5 12 "PrimePlane$Judge" "compass" "LPrimePlane$Compass;") (List.mem_of_getElem? (i := 7) rfl)) (fun _ h9 => h9) rfl dX5_init_17 ?_
  refine va_get (D := D) (ci := 2) (v := .ref q2) (C := RX2) (T := TX2) (N := 2) hx hb hts hin2 hown hK hP 1 rfl rfl 0 (by decide) (hts (.fieldLink RX5 18 "PrimePlane$Compass" "field" "LPrimePlane$Field;") (List.mem_of_getElem? (i := 8) rfl)) (fun _ h9 => h9) rfl dX5_init_20 ?_
  refine va_putF (D := D) (ci := 5) (v := .ref q2) (ty := .object "PrimePlane$Field") (C := RX5) (T := TX5) (N := 4) hx hb hts hin5 tyX5 tyX5_ok nmX5 hown hK hP hD hS 0 rfl rfl 1 (by decide) (hts (.fieldLink RX5 22 "PrimePlane$Judge" "field" "LPrimePlane$Field;") (List.mem_of_getElem? (i := 9) rfl)) (fun _ h9 => h9) rfl hin rfl (by decide +kernel) rfl rfl (Nat.le_of_ble_eq_true rfl) dX5_init_23 (fun H locs hP hD hS => ?_)
  have hP : va_P D vwCl ([(h0, .inr (5, [.ref q1, .ref q2, .null, .null])), (q1, .inr (2, [.ref q2, .ref q5])), (q2, .inr (3, [.int 43, .ref q3, .ref q4])), (q3, .inl (cy 0, 43, .inl (fun _ => 0))), (q4, .inl (cy 0, 43, .inl (fun _ => 0))), (q5, xfig (-1))]) H := hP
  have hD : va_D A ([(h0, .inr (5, [.ref q1, .ref q2, .null, .null])), (q1, .inr (2, [.ref q2, .ref q5])), (q2, .inr (3, [.int 43, .ref q3, .ref q4])), (q3, .inl (cy 0, 43, .inl (fun _ => 0))), (q4, .inl (cy 0, 43, .inl (fun _ => 0))), (q5, xfig (-1))]) := hD
  refine lv_aload_n hx hb dX5_init_26 rfl (lv_at hl 0 rfl) ?_
  refine va_new (ci := 4) (fs := [.int 0, .int 0, .int 0, .int 0, .int 0, .int 0, .int 0, .int 0, .int 0, .int 0, .int 0, .int 0, .int 0]) (C := RX4) (T := TX4) (N := 13) hx hb hts hin4 tyX4 tyX4_ok hown (hts (.classLink RX5 23 RX4) (List.mem_of_getElem? (i := 10) rfl)) (hts (.instantiable RX4 13) (List.mem_of_getElem? (i := 11) rfl)) (hts (.initialized RX4) (List.mem_of_getElem? (i := 12) rfl)) hK hP hD hS hA rfl xdv4 (Nat.le_of_ble_eq_true rfl) (Nat.le_of_ble_eq_true rfl) dX5_init_27 (fun q6 H hP hD hS => ?_)
  have hP : va_P D vwCl ([(h0, .inr (5, [.ref q1, .ref q2, .null, .null])), (q1, .inr (2, [.ref q2, .ref q5])), (q2, .inr (3, [.int 43, .ref q3, .ref q4])), (q3, .inl (cy 0, 43, .inl (fun _ => 0))), (q4, .inl (cy 0, 43, .inl (fun _ => 0))), (q5, xfig (-1)), (q6, .inr (4, [.int 0, .int 0, .int 0, .int 0, .int 0, .int 0, .int 0, .int 0, .int 0, .int 0, .int 0, .int 0, .int 0]))]) H := hP
  have hD : va_D A ([(h0, .inr (5, [.ref q1, .ref q2, .null, .null])), (q1, .inr (2, [.ref q2, .ref q5])), (q2, .inr (3, [.int 43, .ref q3, .ref q4])), (q3, .inl (cy 0, 43, .inl (fun _ => 0))), (q4, .inl (cy 0, 43, .inl (fun _ => 0))), (q5, xfig (-1)), (q6, .inr (4, [.int 0, .int 0, .int 0, .int 0, .int 0, .int 0, .int 0, .int 0, .int 0, .int 0, .int 0, .int 0, .int 0]))]) := hD
  refine lv_dup hx hb dX5_init_30 rfl ?_
  refine lv_iconst (v := (-1)) hx hb dX5_init_31 (by decide) ?_
  refine xs_call (ws0 := [(h0, .inr (5, [.ref q1, .ref q2, .null, .null])), (q1, .inr (2, [.ref q2, .ref q5])), (q2, .inr (3, [.int 43, .ref q3, .ref q4])), (q3, .inl (cy 0, 43, .inl (fun _ => 0))), (q4, .inl (cy 0, 43, .inl (fun _ => 0))), (q5, xfig (-1))]) (av := [.int (-1)]) (xc_X4_init l ((-1))) ⟨hx, hb, hml, hown, hts⟩ (cwI 1 hts gX5_init_X4_init rfl rfl rfl (hts (.initialized RX4) (List.mem_of_getElem? (i := 12) rfl)) (hts (.methodLink RX5 25 yX4_init) (List.mem_of_getElem? (i := 39) rfl)) (hts (.instanceMethod yX4_init) (List.mem_of_getElem? (i := 32) rfl)) rfl (by decide +kernel) ⟨Nat.le_of_ble_eq_true rfl, Nat.le_of_ble_eq_true rfl⟩) hK hwd hP hD hS hA rfl hl.1 (Nat.le_of_ble_eq_true rfl) dX5_init_32 ⟨Nat.le_of_ble_eq_true rfl, Nat.le_of_ble_eq_true rfl⟩ (fun w H locs hw hP hD hS => ?_)
  subst hw
  have hP : va_P D vwCl ([(h0, .inr (5, [.ref q1, .ref q2, .null, .null])), (q1, .inr (2, [.ref q2, .ref q5])), (q2, .inr (3, [.int 43, .ref q3, .ref q4])), (q3, .inl (cy 0, 43, .inl (fun _ => 0))), (q4, .inl (cy 0, 43, .inl (fun _ => 0))), (q5, xfig (-1)), (q6, xfig ((-1)))]) H := hP
  have hD : va_D A ([(h0, .inr (5, [.ref q1, .ref q2, .null, .null])), (q1, .inr (2, [.ref q2, .ref q5])), (q2, .inr (3, [.int 43, .ref q3, .ref q4])), (q3, .inl (cy 0, 43, .inl (fun _ => 0))), (q4, .inl (cy 0, 43, .inl (fun _ => 0))), (q5, xfig (-1)), (q6, xfig ((-1)))]) := hD
  refine va_putF (D := D) (ci := 5) (v := .ref q6) (ty := .object "PrimePlane$Figure") (C := RX5) (T := TX5) (N := 4) hx hb hts hin5 tyX5 tyX5_ok nmX5 hown hK hP hD hS 0 rfl rfl 2 (by decide) (hts (.fieldLink RX5 28 "PrimePlane$Judge" "cross" "LPrimePlane$Figure;") (List.mem_of_getElem? (i := 13) rfl)) (fun _ h9 => h9) rfl hin rfl (by decide +kernel) rfl rfl (Nat.le_of_ble_eq_true rfl) dX5_init_35 (fun H locs hP hD hS => ?_)
  have hP : va_P D vwCl ([(h0, .inr (5, [.ref q1, .ref q2, .ref q6, .null])), (q1, .inr (2, [.ref q2, .ref q5])), (q2, .inr (3, [.int 43, .ref q3, .ref q4])), (q3, .inl (cy 0, 43, .inl (fun _ => 0))), (q4, .inl (cy 0, 43, .inl (fun _ => 0))), (q5, xfig (-1)), (q6, xfig ((-1)))]) H := hP
  have hD : va_D A ([(h0, .inr (5, [.ref q1, .ref q2, .ref q6, .null])), (q1, .inr (2, [.ref q2, .ref q5])), (q2, .inr (3, [.int 43, .ref q3, .ref q4])), (q3, .inl (cy 0, 43, .inl (fun _ => 0))), (q4, .inl (cy 0, 43, .inl (fun _ => 0))), (q5, xfig (-1)), (q6, xfig ((-1)))]) := hD
  refine lv_aload_n hx hb dX5_init_38 rfl (lv_at hl 0 rfl) ?_
  refine va_new (ci := 4) (fs := [.int 0, .int 0, .int 0, .int 0, .int 0, .int 0, .int 0, .int 0, .int 0, .int 0, .int 0, .int 0, .int 0]) (C := RX4) (T := TX4) (N := 13) hx hb hts hin4 tyX4 tyX4_ok hown (hts (.classLink RX5 23 RX4) (List.mem_of_getElem? (i := 10) rfl)) (hts (.instantiable RX4 13) (List.mem_of_getElem? (i := 11) rfl)) (hts (.initialized RX4) (List.mem_of_getElem? (i := 12) rfl)) hK hP hD hS hA rfl xdv4 (Nat.le_of_ble_eq_true rfl) (Nat.le_of_ble_eq_true rfl) dX5_init_39 (fun q7 H hP hD hS => ?_)
  have hP : va_P D vwCl ([(h0, .inr (5, [.ref q1, .ref q2, .ref q6, .null])), (q1, .inr (2, [.ref q2, .ref q5])), (q2, .inr (3, [.int 43, .ref q3, .ref q4])), (q3, .inl (cy 0, 43, .inl (fun _ => 0))), (q4, .inl (cy 0, 43, .inl (fun _ => 0))), (q5, xfig (-1)), (q6, xfig ((-1))), (q7, .inr (4, [.int 0, .int 0, .int 0, .int 0, .int 0, .int 0, .int 0, .int 0, .int 0, .int 0, .int 0, .int 0, .int 0]))]) H := hP
  have hD : va_D A ([(h0, .inr (5, [.ref q1, .ref q2, .ref q6, .null])), (q1, .inr (2, [.ref q2, .ref q5])), (q2, .inr (3, [.int 43, .ref q3, .ref q4])), (q3, .inl (cy 0, 43, .inl (fun _ => 0))), (q4, .inl (cy 0, 43, .inl (fun _ => 0))), (q5, xfig (-1)), (q6, xfig ((-1))), (q7, .inr (4, [.int 0, .int 0, .int 0, .int 0, .int 0, .int 0, .int 0, .int 0, .int 0, .int 0, .int 0, .int 0, .int 0]))]) := hD
  refine lv_dup hx hb dX5_init_42 rfl ?_
  refine lv_iconst (v := (-1)) hx hb dX5_init_43 (by decide) ?_
  refine xs_call (ws0 := [(h0, .inr (5, [.ref q1, .ref q2, .ref q6, .null])), (q1, .inr (2, [.ref q2, .ref q5])), (q2, .inr (3, [.int 43, .ref q3, .ref q4])), (q3, .inl (cy 0, 43, .inl (fun _ => 0))), (q4, .inl (cy 0, 43, .inl (fun _ => 0))), (q5, xfig (-1)), (q6, xfig ((-1)))]) (av := [.int (-1)]) (xc_X4_init l ((-1))) ⟨hx, hb, hml, hown, hts⟩ (cwI 1 hts gX5_init_X4_init rfl rfl rfl (hts (.initialized RX4) (List.mem_of_getElem? (i := 12) rfl)) (hts (.methodLink RX5 25 yX4_init) (List.mem_of_getElem? (i := 39) rfl)) (hts (.instanceMethod yX4_init) (List.mem_of_getElem? (i := 32) rfl)) rfl (by decide +kernel) ⟨Nat.le_of_ble_eq_true rfl, Nat.le_of_ble_eq_true rfl⟩) hK hwd hP hD hS hA rfl hl.1 (Nat.le_of_ble_eq_true rfl) dX5_init_44 ⟨Nat.le_of_ble_eq_true rfl, Nat.le_of_ble_eq_true rfl⟩ (fun w H locs hw hP hD hS => ?_)
  subst hw
  have hP : va_P D vwCl ([(h0, .inr (5, [.ref q1, .ref q2, .ref q6, .null])), (q1, .inr (2, [.ref q2, .ref q5])), (q2, .inr (3, [.int 43, .ref q3, .ref q4])), (q3, .inl (cy 0, 43, .inl (fun _ => 0))), (q4, .inl (cy 0, 43, .inl (fun _ => 0))), (q5, xfig (-1)), (q6, xfig ((-1))), (q7, xfig ((-1)))]) H := hP
  have hD : va_D A ([(h0, .inr (5, [.ref q1, .ref q2, .ref q6, .null])), (q1, .inr (2, [.ref q2, .ref q5])), (q2, .inr (3, [.int 43, .ref q3, .ref q4])), (q3, .inl (cy 0, 43, .inl (fun _ => 0))), (q4, .inl (cy 0, 43, .inl (fun _ => 0))), (q5, xfig (-1)), (q6, xfig ((-1))), (q7, xfig ((-1)))]) := hD
  refine va_putF (D := D) (ci := 5) (v := .ref q7) (ty := .object "PrimePlane$Figure") (C := RX5) (T := TX5) (N := 4) hx hb hts hin5 tyX5 tyX5_ok nmX5 hown hK hP hD hS 0 rfl rfl 3 (by decide) (hts (.fieldLink RX5 32 "PrimePlane$Judge" "ring" "LPrimePlane$Figure;") (List.mem_of_getElem? (i := 14) rfl)) (fun _ h9 => h9) rfl hin rfl (by decide +kernel) rfl rfl (Nat.le_of_ble_eq_true rfl) dX5_init_47 (fun H locs hP hD hS => ?_)
  have hP : va_P D vwCl ([(h0, .inr (5, [.ref q1, .ref q2, .ref q6, .ref q7])), (q1, .inr (2, [.ref q2, .ref q5])), (q2, .inr (3, [.int 43, .ref q3, .ref q4])), (q3, .inl (cy 0, 43, .inl (fun _ => 0))), (q4, .inl (cy 0, 43, .inl (fun _ => 0))), (q5, xfig (-1)), (q6, xfig ((-1))), (q7, xfig ((-1)))]) H := hP
  have hD : va_D A ([(h0, .inr (5, [.ref q1, .ref q2, .ref q6, .ref q7])), (q1, .inr (2, [.ref q2, .ref q5])), (q2, .inr (3, [.int 43, .ref q3, .ref q4])), (q3, .inl (cy 0, 43, .inl (fun _ => 0))), (q4, .inl (cy 0, 43, .inl (fun _ => 0))), (q5, xfig (-1)), (q6, xfig ((-1))), (q7, xfig ((-1)))]) := hD
  refine W.widen (k := 7) (n := 130) (Nat.le_of_ble_eq_true rfl) (Nat.le_of_ble_eq_true rfl) ?_
  exact W.vret hx hb hr (fun t ht hW => ⟨⟨_, rfl, ⟨_, _, _, _, _, _, _, rfl⟩, by rw [ht]; exact hP, hD⟩, hS.F ht⟩) hS.2.2 dX5_init_50
