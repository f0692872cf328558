/-! ===== Trail (printed by wip/p20/gen_ctor.py) ===== -/
set_option maxHeartbeats 4000000 in
set_option maxRecDepth 100000 in
theorem xc_X7_init (l : Launch) : xMet l yX7_init wsX7_init ({ frames := 3, cells := 46, slots := 618, locals := 54 }) [] xe7 (fun cy h w => ∃ hr w9, xRow cy hr w9 ∧ w = [(h, .inr (7, [.ref hr, .int 0]))] ++ w9) := by
  intro D cy h0 sz
  refine Met.ofW (cc := cX7_init) (maxL := 1) (ret := none) (by decide) rfl ?_
  intro p e s m args below meth c s₁ B hml hv
  obtain ⟨rfl, hsz, hP, hK, hD0, hwd⟩ := hv
  have hx := B.exec
  have hb := B.bytes
  have hr := B.returns
  have hts := atoms_spec (ws := wsX7_init) B.pre
  have hown : s.vm.findClass RX7 = some m.cls := findClass_of_methodNamed B.named
  have hlocks := B.notSynchronized
  have hin : meth.name = "<init>" := (name_of_methodNamed B.named B.method).1
  subst hsz
  have hD := hD0.self (sz := s.heap.size)
  generalize hAe : va_A [(h0, xe7)] s.heap.size = A at hD ⊢
  have hA : ∀ q : Nat, s.heap.size ≤ q → A q := fun q h => by rw [← hAe]; exact Or.inr h
  have hS : va_S A s.heap s.heap [] := va_S.rf
  have hl := lv_entry ([.ref h0]) (n := 1) (Nat.le_of_ble_eq_true rfl)
  rw [lg_entry_eq]
  generalize (lg_sl ([.ref h0]) ++ List.replicate (1 - (lg_sl ([.ref h0])).length) Slot.unset).toArray = ls at hl ⊢
  have hl : lv_has ls 1 [(0, .ref h0)] := hl
  have hP : va_P D vwCl ([(h0, .inr (7, [.null, .int 0]))]) s.heap := hP
  have hD : va_D A ([(h0, .inr (7, [.null, .int 0]))]) := hD
  have hin4 : ∀ w ∈ wsX40, w ∈ wsX7_init := fun w h => List.mem_cons_of_mem _ (List.mem_append_right _ h)
  have hin6 : ∀ w ∈ wsX60, w ∈ wsX7_init := fun w h => List.mem_cons_of_mem _ (List.mem_append_left _ (List.mem_append_left _ (List.mem_append_right _ h)))
  have hin7 : ∀ w ∈ wsX70, w ∈ wsX7_init := fun w h => List.mem_cons_of_mem _ (List.mem_append_left _ (List.mem_append_right _ h))
  refine lv_aload_n hx hb dX7_init_0 rfl (lv_at hl 0 rfl) ?_
  refine W.objInit hx hb hown (hts (.methodLink RX7 1 objectInit) (List.mem_of_getElem? (i := 1) rfl)) (hts (.instanceMethod objectInit) (List.mem_of_getElem? (i := 2) rfl)) (hts (.code objectInit ⟨#[0xb1]⟩ 1 none) (List.mem_of_getElem? (i := 3) rfl)) rfl (by rw [hml]; exact hl.1) rfl dX7_init_1 (Nat.le_of_ble_eq_true rfl) (Nat.le_of_ble_eq_true rfl) ?_
  refine W.eq (g2 := F0 m 4 ls []) rfl ?_
  refine lv_aload_n hx hb dX7_init_4 rfl (lv_at hl 0 rfl) ?_
  refine va_new (ci := 6) (fs := [.null, .null, .int 0]) (C := RX6) (T := TX6) (N := 3) hx hb hts hin6 tyX6 tyX6_ok hown (hts (.classLink RX7 7 RX6) (List.mem_of_getElem? (i := 4) rfl)) (hts (.instantiable RX6 3) (List.mem_of_getElem? (i := 5) rfl)) (hts (.initialized RX6) (List.mem_of_getElem? (i := 6) rfl)) hK hP hD hS hA rfl xdv6 (Nat.le_of_ble_eq_true rfl) (Nat.le_of_ble_eq_true rfl) dX7_init_5 (fun q1 H hP hD hS => ?_)
  have hP : va_P D vwCl ([(h0, .inr (7, [.null, .int 0])), (q1, .inr (6, [.null, .null, .int 0]))]) H := hP
  have hD : va_D A ([(h0, .inr (7, [.null, .int 0])), (q1, .inr (6, [.null, .null, .int 0]))]) := hD
  refine lv_dup hx hb dX7_init_8 rfl ?_
  refine xs_call (ws0 := [(h0, .inr (7, [.null, .int 0]))]) (av := []) (xc_X6_init l) ⟨hx, hb, hml, hown, hts⟩ (cwI 0 hts gX7_init_X6_init rfl rfl rfl (hts (.initialized RX6) (List.mem_of_getElem? (i := 6) rfl)) (hts (.methodLink RX7 9 yX6_init) (List.mem_of_getElem? (i := 8) rfl)) (hts (.instanceMethod yX6_init) (List.mem_of_getElem? (i := 9) rfl)) rfl (by decide +kernel) ⟨Nat.le_of_ble_eq_true rfl, Nat.le_of_ble_eq_true rfl⟩) hK hwd hP hD hS hA rfl hl.1 (Nat.le_of_ble_eq_true rfl) dX7_init_9 ⟨Nat.le_of_ble_eq_true rfl, Nat.le_of_ble_eq_true rfl⟩ (fun w9 H locs hw9 hP hD hS => ?_)
  have hP : va_P D vwCl ([(h0, .inr (7, [.null, .int 0]))] ++ w9) H := hP
  have hD : va_D A ([(h0, .inr (7, [.null, .int 0]))] ++ w9) := hD
  refine va_putF (D := D) (ci := 7) (v := .ref q1) (ty := .object "PrimePlane$Row") (C := RX7) (T := TX7) (N := 2) hx hb hts hin7 tyX7 tyX7_ok nmX7 hown hK hP hD hS 0 rfl rfl 0 (by decide) (hts (.fieldLink RX7 10 "PrimePlane$Trail" "seen" "LPrimePlane$Row;") (List.mem_of_getElem? (i := 7) rfl)) (fun _ h9 => h9) rfl hin rfl (by decide +kernel) rfl rfl (Nat.le_of_ble_eq_true rfl) dX7_init_12 (fun H locs hP hD hS => ?_)
  have hP : va_P D vwCl ([(h0, .inr (7, [.ref q1, .int 0]))] ++ w9) H := hP
  have hD : va_D A ([(h0, .inr (7, [.ref q1, .int 0]))] ++ w9) := hD
  refine W.widen (k := 46) (n := 618) (Nat.le_of_ble_eq_true rfl) (Nat.le_of_ble_eq_true rfl) ?_
  exact W.vret hx hb hr (fun t ht hW => ⟨⟨_, rfl, ⟨q1, w9, hw9, rfl⟩, by rw [ht]; exact hP, hD⟩, hS.F ht⟩) hS.2.2 dX7_init_15
