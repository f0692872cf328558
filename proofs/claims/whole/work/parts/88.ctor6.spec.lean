/-! ===== the reference's constructor (printed by wip/whole/gen_ctor2.py) ===== -/
def xM9 : zMem := fun k _ j => if k = 0 ∧ j = 1 then 43 else 0
def xL9 (L0 : Nat → Nat → Nat) (h0 q1 q2 q3 q4 q5 : Nat) : Nat → Nat → Nat := fun k i => match k with
  | 0 => h0
  | 1 => q1
  | 2 => q2
  | 3 => q3
  | 4 => q4
  | 5 => q5
  | 98 => L0 98 i
  | _ => 0
theorem x_list9 {cy : Nat → ClassId} {L0 : Nat → Nat → Nat} {h0 q1 q2 q3 q4 q5 : Nat} : [(h0, (.inr (9, [.int 0, .int 43, .int 0, .ref q1, .int 0, .ref q2, .ref q3, .int 0, .ref q4, .ref q5]) : va_E)), (q1, .inl (cy 0, 440, .inl (fun _ => 0))), (q2, .inl (cy 0, 100, .inl (fun _ => 0))), (q3, .inl (cy 0, 3, .inl (fun _ => 0))), (q4, .inl (cy 0, 43, .inl (fun _ => 0))), (q5, .inl (cy 0, 43, .inl (fun _ => 0)))] = zws zEM cy (xL9 L0 h0 q1 q2 q3 q4 q5) (xM9, []) := rfl
set_option maxHeartbeats 4000000 in
set_option maxRecDepth 100000 in
theorem xc_X9_init (l : Launch) (D : va_G) (cy : Nat → ClassId) (L0 : Nat → Nat → Nat) (h0 sz : Nat) : Met l yX9_init wsX9_init ({ frames := 1, cells := 5, slots := 629, locals := 12 }) (va_Pc [.ref h0] (xPre D cy [(h0, xe9)] sz)) (va_Qv (fun L : Nat → Nat → Nat => L 0 0 = h0 ∧ ∀ t, L 98 t = L0 98 t) (fun L t => zW zEM D cy (va_A [(h0, xe9)] sz) L (xM9, []) t.heap) (va_A [(h0, xe9)] sz)) 5 629 (va_A [(h0, xe9)] sz) := by
  refine Met.ofW (cc := cX9_init) (maxL := 1) (ret := none) (by decide) rfl ?_
  intro p e s m args below meth c s₁ B hml hv
  obtain ⟨rfl, hsz, hP, hK, hD0, hwd⟩ := hv
  have hx := B.exec
  have hb := B.bytes
  have hr := B.returns
  have hts := atoms_spec (ws := wsX9_init) B.pre
  have hown : s.vm.findClass RX9 = some m.cls := findClass_of_methodNamed B.named
  have hlocks := B.notSynchronized
  have hin : meth.name = "<init>" := (name_of_methodNamed B.named B.method).1
  subst hsz
  have hD := hD0.self (sz := s.heap.size)
  generalize hAe : va_A [(h0, xe9)] s.heap.size = A at hD ⊢
  have hA : ∀ q : Nat, s.heap.size ≤ q → A q := fun q h => by rw [← hAe]; exact Or.inr h
  have hS : va_S A s.heap s.heap [] := va_S.rf
  have hl := lv_entry ([.ref h0]) (n := 1) (Nat.le_of_ble_eq_true rfl)
  rw [lg_entry_eq]
  generalize (lg_sl ([.ref h0]) ++ List.replicate (1 - (lg_sl ([.ref h0])).length) Slot.unset).toArray = ls at hl ⊢
  have hl : lv_has ls 1 [(0, .ref h0)] := hl
  have hP : va_P D vwCl ([(h0, .inr (9, [.int 0, .int 0, .int 0, .null, .int 0, .null, .null, .int 0, .null, .null]))]) s.heap := hP
  have hD : va_D A ([(h0, .inr (9, [.int 0, .int 0, .int 0, .null, .int 0, .null, .null, .int 0, .null, .null]))]) := hD
  have hin9 : ∀ w ∈ wsX90, w ∈ wsX9_init := fun w h => List.mem_cons_of_mem _ (List.mem_append_right _ h)
  refine lv_aload_n hx hb dX9_init_0 rfl (lv_at hl 0 rfl) ?_
  refine W.objInit hx hb hown (hts (.methodLink RX9 1 objectInit) (List.mem_of_getElem? (i := 1) rfl)) (hts (.instanceMethod objectInit) (List.mem_of_getElem? (i := 2) rfl)) (hts (.code objectInit ⟨#[0xb1]⟩ 1 none) (List.mem_of_getElem? (i := 3) rfl)) rfl (by rw [hml]; exact hl.1) rfl dX9_init_1 (Nat.le_of_ble_eq_true rfl) (Nat.le_of_ble_eq_true rfl) ?_
  refine W.eq (g2 := F0 m 4 ls []) rfl ?_
  refine lv_aload_n hx hb dX9_init_4 rfl (lv_at hl 0 rfl) ?_
  refine lv_bipush (v := 43) hx hb dX9_init_5 (by decide) ?_
  refine va_put (D := D) (ci := 9) (v := .int 43) (ty := .int) (C := RX9) (T := TX9) (N := 10) hx hb hts hin9 tyX9 tyX9_ok nmX9 hown hK hP hD hS 0 rfl rfl 1 (by decide) (hts (.fieldLink RX9 7 "PrimePlaneModel" "p" "I") (List.mem_of_getElem? (i := 4) rfl)) (fun _ h9 => h9) rfl (by decide +kernel) rfl rfl (Nat.le_of_ble_eq_true rfl) dX9_init_7 (fun H locs hP hD hS => ?_)
  have hP : va_P D vwCl ([(h0, .inr (9, [.int 0, .int 43, .int 0, .null, .int 0, .null, .null, .int 0, .null, .null]))]) H := hP
  have hD : va_D A ([(h0, .inr (9, [.int 0, .int 43, .int 0, .null, .int 0, .null, .null, .int 0, .null, .null]))]) := hD
  refine lv_aload_n hx hb dX9_init_10 rfl (lv_at hl 0 rfl) ?_
  refine lv_sipush (v := 440) hx hb dX9_init_11 (by decide) ?_
  refine xs_newa (N := 440) hx hb (hts (.arrayClass .int) (List.mem_of_getElem? (i := 5) rfl)) hK hP hD hS hA (by decide) rfl (Nat.le_of_ble_eq_true rfl) (Nat.le_of_ble_eq_true rfl) (Nat.le_of_ble_eq_true rfl) dX9_init_14 (fun q1 H hP hD hS => ?_)
  have hP : va_P D vwCl ([(h0, .inr (9, [.int 0, .int 43, .int 0, .null, .int 0, .null, .null, .int 0, .null, .null])), (q1, .inl (cy 0, 440, .inl (fun _ => 0)))]) H := hP
  have hD : va_D A ([(h0, .inr (9, [.int 0, .int 43, .int 0, .null, .int 0, .null, .null, .int 0, .null, .null])), (q1, .inl (cy 0, 440, .inl (fun _ => 0)))]) := hD
  refine va_putF (D := D) (ci := 9) (v := .ref q1) (ty := .array .int) (C := RX9) (T := TX9) (N := 10) hx hb hts hin9 tyX9 tyX9_ok nmX9 hown hK hP hD hS 0 rfl rfl 3 (by decide) (hts (.fieldLink RX9 13 "PrimePlaneModel" "table" "[I") (List.mem_of_getElem? (i := 6) rfl)) (fun _ h9 => h9) rfl hin rfl (by decide +kernel) rfl rfl (Nat.le_of_ble_eq_true rfl) dX9_init_16 (fun H locs hP hD hS => ?_)
  have hP : va_P D vwCl ([(h0, .inr (9, [.int 0, .int 43, .int 0, .ref q1, .int 0, .null, .null, .int 0, .null, .null])), (q1, .inl (cy 0, 440, .inl (fun _ => 0)))]) H := hP
  have hD : va_D A ([(h0, .inr (9, [.int 0, .int 43, .int 0, .ref q1, .int 0, .null, .null, .int 0, .null, .null])), (q1, .inl (cy 0, 440, .inl (fun _ => 0)))]) := hD
  refine lv_aload_n hx hb dX9_init_19 rfl (lv_at hl 0 rfl) ?_
  refine lv_bipush (v := 100) hx hb dX9_init_20 (by decide) ?_
  refine xs_newa (N := 100) hx hb (hts (.arrayClass .int) (List.mem_of_getElem? (i := 5) rfl)) hK hP hD hS hA (by decide) rfl (Nat.le_of_ble_eq_true rfl) (Nat.le_of_ble_eq_true rfl) (Nat.le_of_ble_eq_true rfl) dX9_init_22 (fun q2 H hP hD hS => ?_)
  have hP : va_P D vwCl ([(h0, .inr (9, [.int 0, .int 43, .int 0, .ref q1, .int 0, .null, .null, .int 0, .null, .null])), (q1, .inl (cy 0, 440, .inl (fun _ => 0))), (q2, .inl (cy 0, 100, .inl (fun _ => 0)))]) H := hP
  have hD : va_D A ([(h0, .inr (9, [.int 0, .int 43, .int 0, .ref q1, .int 0, .null, .null, .int 0, .null, .null])), (q1, .inl (cy 0, 440, .inl (fun _ => 0))), (q2, .inl (cy 0, 100, .inl (fun _ => 0)))]) := hD
  refine va_putF (D := D) (ci := 9) (v := .ref q2) (ty := .array .int) (C := RX9) (T := TX9) (N := 10) hx hb hts hin9 tyX9 tyX9_ok nmX9 hown hK hP hD hS 0 rfl rfl 5 (by decide) (hts (.fieldLink RX9 17 "PrimePlaneModel" "claimTable" "[I") (List.mem_of_getElem? (i := 7) rfl)) (fun _ h9 => h9) rfl hin rfl (by decide +kernel) rfl rfl (Nat.le_of_ble_eq_true rfl) dX9_init_24 (fun H locs hP hD hS => ?_)
  have hP : va_P D vwCl ([(h0, .inr (9, [.int 0, .int 43, .int 0, .ref q1, .int 0, .ref q2, .null, .int 0, .null, .null])), (q1, .inl (cy 0, 440, .inl (fun _ => 0))), (q2, .inl (cy 0, 100, .inl (fun _ => 0)))]) H := hP
  have hD : va_D A ([(h0, .inr (9, [.int 0, .int 43, .int 0, .ref q1, .int 0, .ref q2, .null, .int 0, .null, .null])), (q1, .inl (cy 0, 440, .inl (fun _ => 0))), (q2, .inl (cy 0, 100, .inl (fun _ => 0)))]) := hD
  refine lv_aload_n hx hb dX9_init_27 rfl (lv_at hl 0 rfl) ?_
  refine lv_iconst (v := 3) hx hb dX9_init_28 (by decide) ?_
  refine xs_newa (N := 3) hx hb (hts (.arrayClass .int) (List.mem_of_getElem? (i := 5) rfl)) hK hP hD hS hA (by decide) rfl (Nat.le_of_ble_eq_true rfl) (Nat.le_of_ble_eq_true rfl) (Nat.le_of_ble_eq_true rfl) dX9_init_29 (fun q3 H hP hD hS => ?_)
  have hP : va_P D vwCl ([(h0, .inr (9, [.int 0, .int 43, .int 0, .ref q1, .int 0, .ref q2, .null, .int 0, .null, .null])), (q1, .inl (cy 0, 440, .inl (fun _ => 0))), (q2, .inl (cy 0, 100, .inl (fun _ => 0))), (q3, .inl (cy 0, 3, .inl (fun _ => 0)))]) H := hP
  have hD : va_D A ([(h0, .inr (9, [.int 0, .int 43, .int 0, .ref q1, .int 0, .ref q2, .null, .int 0, .null, .null])), (q1, .inl (cy 0, 440, .inl (fun _ => 0))), (q2, .inl (cy 0, 100, .inl (fun _ => 0))), (q3, .inl (cy 0, 3, .inl (fun _ => 0)))]) := hD
  refine va_putF (D := D) (ci := 9) (v := .ref q3) (ty := .array .int) (C := RX9) (T := TX9) (N := 10) hx hb hts hin9 tyX9 tyX9_ok nmX9 hown hK hP hD hS 0 rfl rfl 6 (by decide) (hts (.fieldLink RX9 20 "PrimePlaneModel" "laid" "[I") (List.mem_of_getElem? (i := 8) rfl)) (fun _ h9 => h9) rfl hin rfl (by decide +kernel) rfl rfl (Nat.le_of_ble_eq_true rfl) dX9_init_31 (fun H locs hP hD hS => ?_)
  have hP : va_P D vwCl ([(h0, .inr (9, [.int 0, .int 43, .int 0, .ref q1, .int 0, .ref q2, .ref q3, .int 0, .null, .null])), (q1, .inl (cy 0, 440, .inl (fun _ => 0))), (q2, .inl (cy 0, 100, .inl (fun _ => 0))), (q3, .inl (cy 0, 3, .inl (fun _ => 0)))]) H := hP
  have hD : va_D A ([(h0, .inr (9, [.int 0, .int 43, .int 0, .ref q1, .int 0, .ref q2, .ref q3, .int 0, .null, .null])), (q1, .inl (cy 0, 440, .inl (fun _ => 0))), (q2, .inl (cy 0, 100, .inl (fun _ => 0))), (q3, .inl (cy 0, 3, .inl (fun _ => 0)))]) := hD
  refine lv_aload_n hx hb dX9_init_34 rfl (lv_at hl 0 rfl) ?_
  refine lv_bipush (v := 43) hx hb dX9_init_35 (by decide) ?_
  refine xs_newa (N := 43) hx hb (hts (.arrayClass .int) (List.mem_of_getElem? (i := 5) rfl)) hK hP hD hS hA (by decide) rfl (Nat.le_of_ble_eq_true rfl) (Nat.le_of_ble_eq_true rfl) (Nat.le_of_ble_eq_true rfl) dX9_init_37 (fun q4 H hP hD hS => ?_)
  have hP : va_P D vwCl ([(h0, .inr (9, [.int 0, .int 43, .int 0, .ref q1, .int 0, .ref q2, .ref q3, .int 0, .null, .null])), (q1, .inl (cy 0, 440, .inl (fun _ => 0))), (q2, .inl (cy 0, 100, .inl (fun _ => 0))), (q3, .inl (cy 0, 3, .inl (fun _ => 0))), (q4, .inl (cy 0, 43, .inl (fun _ => 0)))]) H := hP
  have hD : va_D A ([(h0, .inr (9, [.int 0, .int 43, .int 0, .ref q1, .int 0, .ref q2, .ref q3, .int 0, .null, .null])), (q1, .inl (cy 0, 440, .inl (fun _ => 0))), (q2, .inl (cy 0, 100, .inl (fun _ => 0))), (q3, .inl (cy 0, 3, .inl (fun _ => 0))), (q4, .inl (cy 0, 43, .inl (fun _ => 0)))]) := hD
  refine va_putF (D := D) (ci := 9) (v := .ref q4) (ty := .array .int) (C := RX9) (T := TX9) (N := 10) hx hb hts hin9 tyX9 tyX9_ok nmX9 hown hK hP hD hS 0 rfl rfl 8 (by decide) (hts (.fieldLink RX9 23 "PrimePlaneModel" "metX" "[I") (List.mem_of_getElem? (i := 9) rfl)) (fun _ h9 => h9) rfl hin rfl (by decide +kernel) rfl rfl (Nat.le_of_ble_eq_true rfl) dX9_init_39 (fun H locs hP hD hS => ?_)
  have hP : va_P D vwCl ([(h0, .inr (9, [.int 0, .int 43, .int 0, .ref q1, .int 0, .ref q2, .ref q3, .int 0, .ref q4, .null])), (q1, .inl (cy 0, 440, .inl (fun _ => 0))), (q2, .inl (cy 0, 100, .inl (fun _ => 0))), (q3, .inl (cy 0, 3, .inl (fun _ => 0))), (q4, .inl (cy 0, 43, .inl (fun _ => 0)))]) H := hP
  have hD : va_D A ([(h0, .inr (9, [.int 0, .int 43, .int 0, .ref q1, .int 0, .ref q2, .ref q3, .int 0, .ref q4, .null])), (q1, .inl (cy 0, 440, .inl (fun _ => 0))), (q2, .inl (cy 0, 100, .inl (fun _ => 0))), (q3, .inl (cy 0, 3, .inl (fun _ => 0))), (q4, .inl (cy 0, 43, .inl (fun _ => 0)))]) := hD
  refine lv_aload_n hx hb dX9_init_42 rfl (lv_at hl 0 rfl) ?_
  refine lv_bipush (v := 43) hx hb dX9_init_43 (by decide) ?_
  refine xs_newa (N := 43) hx hb (hts (.arrayClass .int) (List.mem_of_getElem? (i := 5) rfl)) hK hP hD hS hA (by decide) rfl (Nat.le_of_ble_eq_true rfl) (Nat.le_of_ble_eq_true rfl) (Nat.le_of_ble_eq_true rfl) dX9_init_45 (fun q5 H hP hD hS => ?_)
  have hP : va_P D vwCl ([(h0, .inr (9, [.int 0, .int 43, .int 0, .ref q1, .int 0, .ref q2, .ref q3, .int 0, .ref q4, .null])), (q1, .inl (cy 0, 440, .inl (fun _ => 0))), (q2, .inl (cy 0, 100, .inl (fun _ => 0))), (q3, .inl (cy 0, 3, .inl (fun _ => 0))), (q4, .inl (cy 0, 43, .inl (fun _ => 0))), (q5, .inl (cy 0, 43, .inl (fun _ => 0)))]) H := hP
  have hD : va_D A ([(h0, .inr (9, [.int 0, .int 43, .int 0, .ref q1, .int 0, .ref q2, .ref q3, .int 0, .ref q4, .null])), (q1, .inl (cy 0, 440, .inl (fun _ => 0))), (q2, .inl (cy 0, 100, .inl (fun _ => 0))), (q3, .inl (cy 0, 3, .inl (fun _ => 0))), (q4, .inl (cy 0, 43, .inl (fun _ => 0))), (q5, .inl (cy 0, 43, .inl (fun _ => 0)))]) := hD
  refine va_putF (D := D) (ci := 9) (v := .ref q5) (ty := .array .int) (C := RX9) (T := TX9) (N := 10) hx hb hts hin9 tyX9 tyX9_ok nmX9 hown hK hP hD hS 0 rfl rfl 9 (by decide) (hts (.fieldLink RX9 26 "PrimePlaneModel" "metY" "[I") (List.mem_of_getElem? (i := 10) rfl)) (fun _ h9 => h9) rfl hin rfl (by decide +kernel) rfl rfl (Nat.le_of_ble_eq_true rfl) dX9_init_47 (fun H locs hP hD hS => ?_)
  have hP : va_P D vwCl ([(h0, .inr (9, [.int 0, .int 43, .int 0, .ref q1, .int 0, .ref q2, .ref q3, .int 0, .ref q4, .ref q5])), (q1, .inl (cy 0, 440, .inl (fun _ => 0))), (q2, .inl (cy 0, 100, .inl (fun _ => 0))), (q3, .inl (cy 0, 3, .inl (fun _ => 0))), (q4, .inl (cy 0, 43, .inl (fun _ => 0))), (q5, .inl (cy 0, 43, .inl (fun _ => 0)))]) H := hP
  have hD : va_D A ([(h0, .inr (9, [.int 0, .int 43, .int 0, .ref q1, .int 0, .ref q2, .ref q3, .int 0, .ref q4, .ref q5])), (q1, .inl (cy 0, 440, .inl (fun _ => 0))), (q2, .inl (cy 0, 100, .inl (fun _ => 0))), (q3, .inl (cy 0, 3, .inl (fun _ => 0))), (q4, .inl (cy 0, 43, .inl (fun _ => 0))), (q5, .inl (cy 0, 43, .inl (fun _ => 0)))]) := hD
  rw [x_list9 (L0 := L0)] at hP hD
  refine W.widen (k := 5) (n := 629) (Nat.le_of_ble_eq_true rfl) (Nat.le_of_ble_eq_true rfl) ?_
  exact W.vret hx hb hr (fun t ht hW0 => ⟨⟨xL9 L0 h0 q1 q2 q3 q4 q5, rfl, ⟨rfl, fun t => rfl⟩, by show zW _ _ _ _ _ _ t.heap; rw [ht]; exact ⟨hP, hD⟩⟩, hS.F ht⟩) hS.2.2 dX9_init_50
