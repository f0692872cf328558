/-! ===== constructors of rows (printed by wip/p20/gen_ctor.py) ===== -/
def xpf (g : Nat → Nat) (i : Nat) : Nat → Option Nat := fun j => if j < i then some (g j) else none
def xfam (f : Nat → va_E) (g : Nat → Nat) (i : Nat) : va_W := (List.range i).map (fun j => (g j, f j))
def xg (g : Nat → Nat) (i q : Nat) : Nat → Nat := fun j => if j = i then q else g j
theorem xpf_0 {g : Nat → Nat} : xpf g 0 = fun _ => none := by
  funext j
  unfold xpf
  rw [if_neg (Nat.not_lt_zero j)]
theorem xpf_g {g : Nat → Nat} {i k q : Nat} (h : i ≤ k) : xpf (xg g k q) i = xpf g i := by
  funext j
  unfold xpf xg
  by_cases hj : j < i
  · rw [if_pos hj, if_pos hj, if_neg (by omega)]
  · rw [if_neg hj, if_neg hj]
theorem xfam_g {f : Nat → va_E} {g : Nat → Nat} {i k q : Nat} (h : i ≤ k) : xfam f (xg g k q) i = xfam f g i := by
  unfold xfam
  apply List.map_congr_left
  intro j hj
  rw [List.mem_range] at hj
  unfold xg
  rw [if_neg (by omega)]
theorem xfam_len {f : Nat → va_E} {g : Nat → Nat} {i : Nat} : (xfam f g i).length = i := by unfold xfam; simp
theorem xfam_S {f : Nat → va_E} {g : Nat → Nat} {i q : Nat} : xfam f (xg g i q) (i + 1) = xfam f g i ++ [(q, f i)] := by
  have h := xfam_g (f := f) (g := g) (i := i) (k := i) (q := q) (Nat.le_refl i)
  have e : xfam f (xg g i q) (i + 1) = xfam f (xg g i q) i ++ [(xg g i q i, f i)] := by
    unfold xfam
    rw [List.range_succ, List.map_append]
    rfl
  rw [e, h]
  unfold xg
  rw [if_pos rfl]
theorem xpf_S {g : Nat → Nat} {i q : Nat} : va_up (xpf g i) i (some q) = xpf (xg g i q) (i + 1) := by
  funext j
  unfold va_up xpf xg
  by_cases hj : j = i
  · subst hj
    rw [if_pos rfl, if_pos (by omega), if_pos rfl]
  · rw [if_neg hj]
    by_cases h2 : j < i
    · rw [if_pos h2, if_pos (by omega), if_neg hj]
    · rw [if_neg h2, if_neg (by omega)]
def xRow (cy : Nat → ClassId) (h : Nat) (w : va_W) : Prop := ∃ (qa : Nat) (g : Nat → Nat), w = [(h, .inr (6, [.ref qa, .ref (g 43), .int 0])), (qa, .inl (cy 2, 43, .inr (.inr (.inr (.inr (xpf g 43)))))), (g 43, xfig (-1))] ++ xfam (fun j => xfig (nI j)) g 43
set_option maxHeartbeats 4000000 in
set_option maxRecDepth 100000 in
theorem xc_X6_init (l : Launch) : xMet l yX6_init wsX6_init ({ frames := 2, cells := 45, slots := 615, locals := 33 }) [] xe6 xRow := by
  intro D cy h0 sz
  refine Met.ofW (cc := cX6_init) (maxL := 2) (ret := none) (by decide) rfl ?_
  intro p e s m args below meth c s₁ B hml hv
  obtain ⟨rfl, hsz, hP, hK, hD0, hwd⟩ := hv
  have hx := B.exec
  have hb := B.bytes
  have hr := B.returns
  have hts := atoms_spec (ws := wsX6_init) B.pre
  have hown : s.vm.findClass RX6 = some m.cls := findClass_of_methodNamed B.named
  have hlocks := B.notSynchronized
  have hin : meth.name = "<init>" := (name_of_methodNamed B.named B.method).1
  subst hsz
  have hD := hD0.self (sz := s.heap.size)
  generalize hAe : va_A [(h0, xe6)] s.heap.size = A at hD ⊢
  have hA : ∀ q : Nat, s.heap.size ≤ q → A q := fun q h => by rw [← hAe]; exact Or.inr h
  have hS : va_S A s.heap s.heap [] := va_S.rf
  have hl := lv_entry ([.ref h0]) (n := 2) (Nat.le_of_ble_eq_true rfl)
  rw [lg_entry_eq]
  generalize (lg_sl ([.ref h0]) ++ List.replicate (2 - (lg_sl ([.ref h0])).length) Slot.unset).toArray = ls at hl ⊢
  have hl : lv_has ls 2 [(0, .ref h0)] := hl
  have hP : va_P D vwCl ([(h0, .inr (6, [.null, .null, .int 0]))]) s.heap := hP
  have hD : va_D A ([(h0, .inr (6, [.null, .null, .int 0]))]) := hD
  have hin4 : ∀ w ∈ wsX40, w ∈ wsX6_init := fun w h => List.mem_cons_of_mem _ (List.mem_append_right _ h)
  have hin6 : ∀ w ∈ wsX60, w ∈ wsX6_init := fun w h => List.mem_cons_of_mem _ (List.mem_append_left _ (List.mem_append_right _ h))
  refine lv_aload_n hx hb dX6_init_0 rfl (lv_at hl 0 rfl) ?_
  refine W.objInit hx hb hown (hts (.methodLink RX6 3 objectInit) (List.mem_of_getElem? (i := 1) rfl)) (hts (.instanceMethod objectInit) (List.mem_of_getElem? (i := 2) rfl)) (hts (.code objectInit ⟨#[0xb1]⟩ 1 none) (List.mem_of_getElem? (i := 3) rfl)) rfl (by rw [hml]; exact hl.1) rfl dX6_init_1 (Nat.le_of_ble_eq_true rfl) (Nat.le_of_ble_eq_true rfl) ?_
  refine W.eq (g2 := F0 m 4 ls []) rfl ?_
  refine lv_aload_n hx hb dX6_init_4 rfl (lv_at hl 0 rfl) ?_
  refine lv_bipush (v := 43) hx hb dX6_init_5 (by decide) ?_
  refine xs_newq (N := 43) (C := RX4) (k := 2) hx hb hown (hts (.classLink RX6 9 RX4) (List.mem_of_getElem? (i := 4) rfl)) hwd.2.1 rfl hK hP hD hS hA (by decide) rfl (Nat.le_of_ble_eq_true rfl) (Nat.le_of_ble_eq_true rfl) (Nat.le_of_ble_eq_true rfl) dX6_init_7 (fun q1 H hP hD hS => ?_)
  have hP : va_P D vwCl ([(h0, .inr (6, [.null, .null, .int 0])), (q1, .inl (cy 2, 43, .inr (.inr (.inr (.inr (fun _ => none))))))]) H := hP
  have hD : va_D A ([(h0, .inr (6, [.null, .null, .int 0])), (q1, .inl (cy 2, 43, .inr (.inr (.inr (.inr (fun _ => none))))))]) := hD
  refine va_putF (D := D) (ci := 6) (v := .ref q1) (ty := .array (.object "PrimePlane$Figure")) (C := RX6) (T := TX6) (N := 3) hx hb hts hin6 tyX6 tyX6_ok nmX6 hown hK hP hD hS 0 rfl rfl 0 (by decide) (hts (.fieldLink RX6 11 "PrimePlane$Row" "figures" "[LPrimePlane$Figure;") (List.mem_of_getElem? (i := 5) rfl)) (fun _ h9 => h9) rfl hin rfl (by decide +kernel) rfl rfl (Nat.le_of_ble_eq_true rfl) dX6_init_10 (fun H locs hP hD hS => ?_)
  have hP : va_P D vwCl ([(h0, .inr (6, [.ref q1, .null, .int 0])), (q1, .inl (cy 2, 43, .inr (.inr (.inr (.inr (fun _ => none))))))]) H := hP
  have hD : va_D A ([(h0, .inr (6, [.ref q1, .null, .int 0])), (q1, .inl (cy 2, 43, .inr (.inr (.inr (.inr (fun _ => none))))))]) := hD
  refine lv_aload_n hx hb dX6_init_13 rfl (lv_at hl 0 rfl) ?_
  refine va_new (ci := 4) (fs := [.int 0, .int 0, .int 0, .int 0, .int 0, .int 0, .int 0, .int 0, .int 0, .int 0, .int 0, .int 0, .int 0]) (C := RX4) (T := TX4) (N := 13) hx hb hts hin4 tyX4 tyX4_ok hown (hts (.classLink RX6 9 RX4) (List.mem_of_getElem? (i := 4) rfl)) (hts (.instantiable RX4 13) (List.mem_of_getElem? (i := 6) rfl)) (hts (.initialized RX4) (List.mem_of_getElem? (i := 7) rfl)) hK hP hD hS hA rfl xdv4 (Nat.le_of_ble_eq_true rfl) (Nat.le_of_ble_eq_true rfl) dX6_init_14 (fun q2 H hP hD hS => ?_)
  have hP : va_P D vwCl ([(h0, .inr (6, [.ref q1, .null, .int 0])), (q1, .inl (cy 2, 43, .inr (.inr (.inr (.inr (fun _ => none)))))), (q2, .inr (4, [.int 0, .int 0, .int 0, .int 0, .int 0, .int 0, .int 0, .int 0, .int 0, .int 0, .int 0, .int 0, .int 0]))]) H := hP
  have hD : va_D A ([(h0, .inr (6, [.ref q1, .null, .int 0])), (q1, .inl (cy 2, 43, .inr (.inr (.inr (.inr (fun _ => none)))))), (q2, .inr (4, [.int 0, .int 0, .int 0, .int 0, .int 0, .int 0, .int 0, .int 0, .int 0, .int 0, .int 0, .int 0, .int 0]))]) := hD
  refine lv_dup hx hb dX6_init_17 rfl ?_
  refine lv_iconst (v := (-1)) hx hb dX6_init_18 (by decide) ?_
  refine xs_call (ws0 := [(h0, .inr (6, [.ref q1, .null, .int 0])), (q1, .inl (cy 2, 43, .inr (.inr (.inr (.inr (fun _ => none))))))]) (av := [.int (-1)]) (xc_X4_init l ((-1))) ⟨hx, hb, hml, hown, hts⟩ (cwI 1 hts gX6_init_X4_init rfl rfl rfl (hts (.initialized RX4) (List.mem_of_getElem? (i := 7) rfl)) (hts (.methodLink RX6 17 yX4_init) (List.mem_of_getElem? (i := 9) rfl)) (hts (.instanceMethod yX4_init) (List.mem_of_getElem? (i := 10) rfl)) rfl (by decide +kernel) ⟨Nat.le_of_ble_eq_true rfl, Nat.le_of_ble_eq_true rfl⟩) hK hwd hP hD hS hA rfl hl.1 (Nat.le_of_ble_eq_true rfl) dX6_init_19 ⟨Nat.le_of_ble_eq_true rfl, Nat.le_of_ble_eq_true rfl⟩ (fun w H locs hw hP hD hS => ?_)
  subst hw
  have hP : va_P D vwCl ([(h0, .inr (6, [.ref q1, .null, .int 0])), (q1, .inl (cy 2, 43, .inr (.inr (.inr (.inr (fun _ => none)))))), (q2, xfig ((-1)))]) H := hP
  have hD : va_D A ([(h0, .inr (6, [.ref q1, .null, .int 0])), (q1, .inl (cy 2, 43, .inr (.inr (.inr (.inr (fun _ => none)))))), (q2, xfig ((-1)))]) := hD
  refine va_putF (D := D) (ci := 6) (v := .ref q2) (ty := .object "PrimePlane$Figure") (C := RX6) (T := TX6) (N := 3) hx hb hts hin6 tyX6 tyX6_ok nmX6 hown hK hP hD hS 0 rfl rfl 1 (by decide) (hts (.fieldLink RX6 20 "PrimePlane$Row" "nobody" "LPrimePlane$Figure;") (List.mem_of_getElem? (i := 8) rfl)) (fun _ h9 => h9) rfl hin rfl (by decide +kernel) rfl rfl (Nat.le_of_ble_eq_true rfl) dX6_init_22 (fun H locs hP hD hS => ?_)
  have hP : va_P D vwCl ([(h0, .inr (6, [.ref q1, .ref q2, .int 0])), (q1, .inl (cy 2, 43, .inr (.inr (.inr (.inr (fun _ => none)))))), (q2, xfig ((-1)))]) H := hP
  have hD : va_D A ([(h0, .inr (6, [.ref q1, .ref q2, .int 0])), (q1, .inl (cy 2, 43, .inr (.inr (.inr (.inr (fun _ => none)))))), (q2, xfig ((-1)))]) := hD
  refine lv_iconst (v := 0) hx hb dX6_init_25 (by decide) ?_
  refine lv_istore_n (lv' := [(1, .int 0), (0, .ref h0)]) hx hb dX6_init_26 rfl hl (by decide) rfl (fun ls hl => ?_)
  have loop : ∀ (Q : State → Prop), (∀ (g : Nat → Nat) (H : Heap) (locs : List Loc) (ls : Array Slot), va_P D vwCl ([(h0, .inr (6, [.ref q1, .ref q2, .int 0])), (q1, .inl (cy 2, 43, .inr (.inr (.inr (.inr (xpf g 43)))))), (q2, xfig (-1))] ++ xfam (fun j => xfig (nI j)) g 43) H → va_D A ([(h0, .inr (6, [.ref q1, .ref q2, .int 0])), (q1, .inl (cy 2, 43, .inr (.inr (.inr (.inr (xpf g 43)))))), (q2, xfig (-1))] ++ xfam (fun j => xfig (nI j)) g 43) → va_S A s.heap H locs → W p l e (headSpec wsX6_init ({ frames := 2, cells := 45, slots := 615, locals := 33 })).room s m #[Value.ref h0] below meth c H locs 45 615 Q (F0 m 56 ls [])) →
      ∀ (d i : Nat) (g : Nat → Nat) (H : Heap) (locs : List Loc) (ls : Array Slot), i + d = 43 → va_P D vwCl ([(h0, .inr (6, [.ref q1, .ref q2, .int 0])), (q1, .inl (cy 2, 43, .inr (.inr (.inr (.inr (xpf g i)))))), (q2, xfig (-1))] ++ xfam (fun j => xfig (nI j)) g i) H → va_D A ([(h0, .inr (6, [.ref q1, .ref q2, .int 0])), (q1, .inl (cy 2, 43, .inr (.inr (.inr (.inr (xpf g i)))))), (q2, xfig (-1))] ++ xfam (fun j => xfig (nI j)) g i) → va_S A s.heap H locs → lv_has ls 2 [(1, .int (nI i)), (0, .ref h0)] → W p l e (headSpec wsX6_init ({ frames := 2, cells := 45, slots := 615, locals := 33 })).room s m #[Value.ref h0] below meth c H locs (2 + i) (56 + 13 * i) Q (F0 m 27 ls []) := by
    intro Q kend d
    induction d with
    | zero =>
      intro i g H locs ls hi hP hD hS hl
      have hi : i = 43 := by omega
      subst hi
      refine lv_iload_n hx hb dX6_init_27 rfl (lv_at hl 0 rfl) ?_
      refine lv_aload_n hx hb dX6_init_28 rfl (lv_at hl 1 rfl) ?_
      refine va_get (D := D) (ci := 6) (v := .ref q1) (C := RX6) (T := TX6) (N := 3) hx hb hts hin6 hown hK hP 0 rfl rfl 0 (by decide) (hts (.fieldLink RX6 11 "PrimePlane$Row" "figures" "[LPrimePlane$Figure;") (List.mem_of_getElem? (i := 5) rfl)) (fun _ h9 => h9) rfl dX6_init_29 ?_
      refine va_alen hx hb hK hP 1 2 rfl rfl (v := 43) rfl dX6_init_32 ?_
      refine lv_icmp_ge (tgt := 56) hx hb dX6_init_33 (by decide) (fun hc => ?_) (fun hc => ?_)
      · exact kend g H locs ls hP hD hS
      · exact absurd (show (43 : Int32) ≤ nI 43 by decide) hc
    | succ d ih =>
      intro i g H locs ls hi hP hD hS hl
      refine lv_iload_n hx hb dX6_init_27 rfl (lv_at hl 0 rfl) ?_
      refine lv_aload_n hx hb dX6_init_28 rfl (lv_at hl 1 rfl) ?_
      refine va_get (D := D) (ci := 6) (v := .ref q1) (C := RX6) (T := TX6) (N := 3) hx hb hts hin6 hown hK hP 0 rfl rfl 0 (by decide) (hts (.fieldLink RX6 11 "PrimePlane$Row" "figures" "[LPrimePlane$Figure;") (List.mem_of_getElem? (i := 5) rfl)) (fun _ h9 => h9) rfl dX6_init_29 ?_
      refine va_alen hx hb hK hP 1 2 rfl rfl (v := 43) rfl dX6_init_32 ?_
      refine lv_icmp_ge (tgt := 56) hx hb dX6_init_33 (by decide) (fun hc => ?_) (fun hc => ?_)
      · exact absurd hc (nI_ge (a := i) (b := 43) (by omega) (by omega))
      refine lv_aload_n hx hb dX6_init_36 rfl (lv_at hl 1 rfl) ?_
      refine va_get (D := D) (ci := 6) (v := .ref q1) (C := RX6) (T := TX6) (N := 3) hx hb hts hin6 hown hK hP 0 rfl rfl 0 (by decide) (hts (.fieldLink RX6 11 "PrimePlane$Row" "figures" "[LPrimePlane$Figure;") (List.mem_of_getElem? (i := 5) rfl)) (fun _ h9 => h9) rfl dX6_init_37 ?_
      refine lv_iload_n hx hb dX6_init_40 rfl (lv_at hl 0 rfl) ?_
      refine va_new (ci := 4) (fs := [.int 0, .int 0, .int 0, .int 0, .int 0, .int 0, .int 0, .int 0, .int 0, .int 0, .int 0, .int 0, .int 0]) (C := RX4) (T := TX4) (N := 13) hx hb hts hin4 tyX4 tyX4_ok hown (hts (.classLink RX6 9 RX4) (List.mem_of_getElem? (i := 4) rfl)) (hts (.instantiable RX4 13) (List.mem_of_getElem? (i := 6) rfl)) (hts (.initialized RX4) (List.mem_of_getElem? (i := 7) rfl)) hK hP hD hS hA rfl xdv4 (show 2 + i + 1 ≤ 45 by omega) (show 56 + 13 * i + 13 ≤ 615 by omega) dX6_init_41 (fun q H hP hD hS => ?_)
      refine lv_dup hx hb dX6_init_44 rfl ?_
      refine lv_iload_n hx hb dX6_init_45 rfl (lv_at hl 0 rfl) ?_
      refine xs_call (ws0 := [(h0, .inr (6, [.ref q1, .ref q2, .int 0])), (q1, .inl (cy 2, 43, .inr (.inr (.inr (.inr (xpf g i)))))), (q2, xfig (-1))] ++ xfam (fun j => xfig (nI j)) g i) (av := [.int (nI i)]) (xc_X4_init l (nI i)) ⟨hx, hb, hml, hown, hts⟩ (cwI 1 hts gX6_init_X4_init rfl rfl rfl (hts (.initialized RX4) (List.mem_of_getElem? (i := 7) rfl)) (hts (.methodLink RX6 17 yX4_init) (List.mem_of_getElem? (i := 9) rfl)) (hts (.instanceMethod yX4_init) (List.mem_of_getElem? (i := 10) rfl)) rfl (by decide +kernel) ⟨Nat.le_of_ble_eq_true rfl, Nat.le_of_ble_eq_true rfl⟩) hK hwd hP hD hS hA rfl hl.1 (Nat.le_of_ble_eq_true rfl) dX6_init_46 ⟨show 2 + i + 1 + 0 ≤ 45 by omega, show 56 + 13 * i + 13 + 0 ≤ 615 by omega⟩ (fun w H locs hw hP hD hS => ?_)
      subst hw
      have hlen : ([(h0, .inr (6, [.ref q1, .ref q2, .int 0])), (q1, .inl (cy 2, 43, .inr (.inr (.inr (.inr (xpf g i)))))), (q2, xfig (-1))] ++ xfam (fun j => xfig (nI j)) g i).length = 3 + i := by rw [List.length_append, xfam_len]; rfl
      have hv := xs_last (ws0 := [(h0, .inr (6, [.ref q1, .ref q2, .int 0])), (q1, .inl (cy 2, 43, .inr (.inr (.inr (.inr (xpf g i)))))), (q2, xfig (-1))] ++ xfam (fun j => xfig (nI j)) g i) (x := (q, (fun j => xfig (nI j)) i))
      rw [hlen] at hv
      have hcl : (nI i).toNatClampNeg = i := nI_clamp (by omega)
      refine va_astq (r := (RX4, TX4, 13)) hx hb hK hP hD hS 1 2 (3 + i) 4 rfl rfl hv rfl (vp_in_nI (show i < 43 by omega) (by omega)) dX6_init_49 (fun H locs hP hD hS => ?_)
      rw [hcl, xpf_S] at hP hD
      have hP : va_P D vwCl ([(h0, .inr (6, [.ref q1, .ref q2, .int 0])), (q1, .inl (cy 2, 43, .inr (.inr (.inr (.inr (xpf (xg g i q) (i + 1))))))), (q2, xfig (-1))] ++ xfam (fun j => xfig (nI j)) (xg g i q) (i + 1)) H := by rw [xfam_S, ← List.append_assoc]; exact hP
      have hD : va_D A ([(h0, .inr (6, [.ref q1, .ref q2, .int 0])), (q1, .inl (cy 2, 43, .inr (.inr (.inr (.inr (xpf (xg g i q) (i + 1))))))), (q2, xfig (-1))] ++ xfam (fun j => xfig (nI j)) (xg g i q) (i + 1)) := by rw [xfam_S, ← List.append_assoc]; exact hD
      obtain ⟨x2, ex2⟩ : ∃ y : Int32, y = nI i + 1 := ⟨_, rfl⟩
      refine lv_iinc (v := x2) (lv' := [(1, .int x2), (0, .ref h0)]) hx hb dX6_init_50 hl (k := 0) rfl (by rw [ex2]; rfl) (by decide) rfl (fun ls hl => ?_)
      refine lv_goto (tgt := 27) hx hb dX6_init_53 (by decide) ?_
      rw [ex2, nI_1] at hl
      refine W.widen (k := 2 + (i + 1)) (n := 56 + 13 * (i + 1)) (show 2 + i + 1 + 0 ≤ 2 + (i + 1) by omega) (show 56 + 13 * i + 13 + 0 ≤ 56 + 13 * (i + 1) by omega) ?_
      exact ih (i + 1) (xg g i q) H locs ls (by omega) hP hD hS hl
  have hP : va_P D vwCl ([(h0, .inr (6, [.ref q1, .ref q2, .int 0])), (q1, .inl (cy 2, 43, .inr (.inr (.inr (.inr (xpf (fun _ => 0) 0)))))), (q2, xfig (-1))] ++ xfam (fun j => xfig (nI j)) (fun _ => 0) 0) H := by rw [xpf_0]; exact hP
  have hD : va_D A ([(h0, .inr (6, [.ref q1, .ref q2, .int 0])), (q1, .inl (cy 2, 43, .inr (.inr (.inr (.inr (xpf (fun _ => 0) 0)))))), (q2, xfig (-1))] ++ xfam (fun j => xfig (nI j)) (fun _ => 0) 0) := by rw [xpf_0]; exact hD
  refine loop _ (fun g H locs ls hP hD hS => ?_) 43 0 (fun _ => 0) H locs ls (by omega) hP hD hS hl
  exact W.vret hx hb hr (fun t ht hW => ⟨⟨_, rfl, ⟨q1, xg g 43 q2, by rw [xpf_g (Nat.le_refl 43), xfam_g (Nat.le_refl 43)]; show _ = _; unfold xg; rw [if_pos rfl]⟩, by rw [ht]; exact hP, hD⟩, hS.F ht⟩) hS.2.2 dX6_init_56
def xClr (cy : Nat → ClassId) (h : Nat) (w : va_W) : Prop := ∃ (qa : Nat) (g : Nat → Nat), w = [(h, .inr (1, [.ref qa, .ref (g 20), .int 0])), (qa, .inl (cy 1, 20, .inr (.inr (.inr (.inr (xpf g 20)))))), (g 20, xcl)] ++ xfam (fun _ => xcl) g 20
set_option maxHeartbeats 4000000 in
set_option maxRecDepth 100000 in
theorem xc_X1_init (l : Launch) : xMet l yX1_init wsX1_init ({ frames := 2, cells := 22, slots := 125, locals := 32 }) [] xe1 xClr := by
  intro D cy h0 sz
  refine Met.ofW (cc := cX1_init) (maxL := 2) (ret := none) (by decide) rfl ?_
  intro p e s m args below meth c s₁ B hml hv
  obtain ⟨rfl, hsz, hP, hK, hD0, hwd⟩ := hv
  have hx := B.exec
  have hb := B.bytes
  have hr := B.returns
  have hts := atoms_spec (ws := wsX1_init) B.pre
  have hown : s.vm.findClass RX1 = some m.cls := findClass_of_methodNamed B.named
  have hlocks := B.notSynchronized
  have hin : meth.name = "<init>" := (name_of_methodNamed B.named B.method).1
  subst hsz
  have hD := hD0.self (sz := s.heap.size)
  generalize hAe : va_A [(h0, xe1)] s.heap.size = A at hD ⊢
  have hA : ∀ q : Nat, s.heap.size ≤ q → A q := fun q h => by rw [← hAe]; exact Or.inr h
  have hS : va_S A s.heap s.heap [] := va_S.rf
  have hl := lv_entry ([.ref h0]) (n := 2) (Nat.le_of_ble_eq_true rfl)
  rw [lg_entry_eq]
  generalize (lg_sl ([.ref h0]) ++ List.replicate (2 - (lg_sl ([.ref h0])).length) Slot.unset).toArray = ls at hl ⊢
  have hl : lv_has ls 2 [(0, .ref h0)] := hl
  have hP : va_P D vwCl ([(h0, .inr (1, [.null, .null, .int 0]))]) s.heap := hP
  have hD : va_D A ([(h0, .inr (1, [.null, .null, .int 0]))]) := hD
  have hin0 : ∀ w ∈ wsX00, w ∈ wsX1_init := fun w h => List.mem_cons_of_mem _ (List.mem_append_right _ h)
  have hin1 : ∀ w ∈ wsX10, w ∈ wsX1_init := fun w h => List.mem_cons_of_mem _ (List.mem_append_left _ (List.mem_append_right _ h))
  refine lv_aload_n hx hb dX1_init_0 rfl (lv_at hl 0 rfl) ?_
  refine W.objInit hx hb hown (hts (.methodLink RX1 3 objectInit) (List.mem_of_getElem? (i := 1) rfl)) (hts (.instanceMethod objectInit) (List.mem_of_getElem? (i := 2) rfl)) (hts (.code objectInit ⟨#[0xb1]⟩ 1 none) (List.mem_of_getElem? (i := 3) rfl)) rfl (by rw [hml]; exact hl.1) rfl dX1_init_1 (Nat.le_of_ble_eq_true rfl) (Nat.le_of_ble_eq_true rfl) ?_
  refine W.eq (g2 := F0 m 4 ls []) rfl ?_
  refine lv_aload_n hx hb dX1_init_4 rfl (lv_at hl 0 rfl) ?_
  refine lv_bipush (v := 20) hx hb dX1_init_5 (by decide) ?_
  refine xs_newq (N := 20) (C := RX0) (k := 1) hx hb hown (hts (.classLink RX1 9 RX0) (List.mem_of_getElem? (i := 4) rfl)) hwd.1 rfl hK hP hD hS hA (by decide) rfl (Nat.le_of_ble_eq_true rfl) (Nat.le_of_ble_eq_true rfl) (Nat.le_of_ble_eq_true rfl) dX1_init_7 (fun q1 H hP hD hS => ?_)
  have hP : va_P D vwCl ([(h0, .inr (1, [.null, .null, .int 0])), (q1, .inl (cy 1, 20, .inr (.inr (.inr (.inr (fun _ => none))))))]) H := hP
  have hD : va_D A ([(h0, .inr (1, [.null, .null, .int 0])), (q1, .inl (cy 1, 20, .inr (.inr (.inr (.inr (fun _ => none))))))]) := hD
  refine va_putF (D := D) (ci := 1) (v := .ref q1) (ty := .array (.object "PrimePlane$Claim")) (C := RX1) (T := TX1) (N := 3) hx hb hts hin1 tyX1 tyX1_ok nmX1 hown hK hP hD hS 0 rfl rfl 0 (by decide) (hts (.fieldLink RX1 11 "PrimePlane$ClaimRow" "claims" "[LPrimePlane$Claim;") (List.mem_of_getElem? (i := 5) rfl)) (fun _ h9 => h9) rfl hin rfl (by decide +kernel) rfl rfl (Nat.le_of_ble_eq_true rfl) dX1_init_10 (fun H locs hP hD hS => ?_)
  have hP : va_P D vwCl ([(h0, .inr (1, [.ref q1, .null, .int 0])), (q1, .inl (cy 1, 20, .inr (.inr (.inr (.inr (fun _ => none))))))]) H := hP
  have hD : va_D A ([(h0, .inr (1, [.ref q1, .null, .int 0])), (q1, .inl (cy 1, 20, .inr (.inr (.inr (.inr (fun _ => none))))))]) := hD
  refine lv_aload_n hx hb dX1_init_13 rfl (lv_at hl 0 rfl) ?_
  refine va_new (ci := 0) (fs := [.int 0, .int 0, .int 0, .int 0, .int 0]) (C := RX0) (T := TX0) (N := 5) hx hb hts hin0 tyX0 tyX0_ok hown (hts (.classLink RX1 9 RX0) (List.mem_of_getElem? (i := 4) rfl)) (hts (.instantiable RX0 5) (List.mem_of_getElem? (i := 6) rfl)) (hts (.initialized RX0) (List.mem_of_getElem? (i := 7) rfl)) hK hP hD hS hA rfl xdv0 (Nat.le_of_ble_eq_true rfl) (Nat.le_of_ble_eq_true rfl) dX1_init_14 (fun q2 H hP hD hS => ?_)
  have hP : va_P D vwCl ([(h0, .inr (1, [.ref q1, .null, .int 0])), (q1, .inl (cy 1, 20, .inr (.inr (.inr (.inr (fun _ => none)))))), (q2, .inr (0, [.int 0, .int 0, .int 0, .int 0, .int 0]))]) H := hP
  have hD : va_D A ([(h0, .inr (1, [.ref q1, .null, .int 0])), (q1, .inl (cy 1, 20, .inr (.inr (.inr (.inr (fun _ => none)))))), (q2, .inr (0, [.int 0, .int 0, .int 0, .int 0, .int 0]))]) := hD
  refine lv_dup hx hb dX1_init_17 rfl ?_
  refine xs_callN (ws0 := [(h0, .inr (1, [.ref q1, .null, .int 0])), (q1, .inl (cy 1, 20, .inr (.inr (.inr (.inr (fun _ => none))))))]) (av := []) (xc_X0_init l) ⟨hx, hb, hml, hown, hts⟩ ⟨va_cnB 0 hts gX1_init_X0_init_n17 rfl rfl rfl (hwd.nest 0 rfl) (hts (.initialized RX0) (List.mem_of_getElem? (i := 7) rfl)) (by decide +kernel) ⟨Nat.le_of_ble_eq_true rfl, Nat.le_of_ble_eq_true rfl⟩, rfl, (hts (.instanceMethod yX0_init) (List.mem_of_getElem? (i := 9) rfl))⟩ hK hwd hP hD hS hA rfl hl.1 (Nat.le_of_ble_eq_true rfl) dX1_init_18 ⟨Nat.le_of_ble_eq_true rfl, Nat.le_of_ble_eq_true rfl⟩ (fun w H locs hw hP hD hS => ?_)
  subst hw
  have hP : va_P D vwCl ([(h0, .inr (1, [.ref q1, .null, .int 0])), (q1, .inl (cy 1, 20, .inr (.inr (.inr (.inr (fun _ => none)))))), (q2, xcl)]) H := hP
  have hD : va_D A ([(h0, .inr (1, [.ref q1, .null, .int 0])), (q1, .inl (cy 1, 20, .inr (.inr (.inr (.inr (fun _ => none)))))), (q2, xcl)]) := hD
  refine va_putF (D := D) (ci := 1) (v := .ref q2) (ty := .object "PrimePlane$Claim") (C := RX1) (T := TX1) (N := 3) hx hb hts hin1 tyX1 tyX1_ok nmX1 hown hK hP hD hS 0 rfl rfl 1 (by decide) (hts (.fieldLink RX1 18 "PrimePlane$ClaimRow" "nothing" "LPrimePlane$Claim;") (List.mem_of_getElem? (i := 8) rfl)) (fun _ h9 => h9) rfl hin rfl (by decide +kernel) rfl rfl (Nat.le_of_ble_eq_true rfl) dX1_init_21 (fun H locs hP hD hS => ?_)
  have hP : va_P D vwCl ([(h0, .inr (1, [.ref q1, .ref q2, .int 0])), (q1, .inl (cy 1, 20, .inr (.inr (.inr (.inr (fun _ => none)))))), (q2, xcl)]) H := hP
  have hD : va_D A ([(h0, .inr (1, [.ref q1, .ref q2, .int 0])), (q1, .inl (cy 1, 20, .inr (.inr (.inr (.inr (fun _ => none)))))), (q2, xcl)]) := hD
  refine lv_iconst (v := 0) hx hb dX1_init_24 (by decide) ?_
  refine lv_istore_n (lv' := [(1, .int 0), (0, .ref h0)]) hx hb dX1_init_25 rfl hl (by decide) rfl (fun ls hl => ?_)
  have loop : ∀ (Q : State → Prop), (∀ (g : Nat → Nat) (H : Heap) (locs : List Loc) (ls : Array Slot), va_P D vwCl ([(h0, .inr (1, [.ref q1, .ref q2, .int 0])), (q1, .inl (cy 1, 20, .inr (.inr (.inr (.inr (xpf g 20)))))), (q2, xcl)] ++ xfam (fun _ => xcl) g 20) H → va_D A ([(h0, .inr (1, [.ref q1, .ref q2, .int 0])), (q1, .inl (cy 1, 20, .inr (.inr (.inr (.inr (xpf g 20)))))), (q2, xcl)] ++ xfam (fun _ => xcl) g 20) → va_S A s.heap H locs → W p l e (headSpec wsX1_init ({ frames := 2, cells := 22, slots := 125, locals := 32 })).room s m #[Value.ref h0] below meth c H locs 22 125 Q (F0 m 54 ls [])) →
      ∀ (d i : Nat) (g : Nat → Nat) (H : Heap) (locs : List Loc) (ls : Array Slot), i + d = 20 → va_P D vwCl ([(h0, .inr (1, [.ref q1, .ref q2, .int 0])), (q1, .inl (cy 1, 20, .inr (.inr (.inr (.inr (xpf g i)))))), (q2, xcl)] ++ xfam (fun _ => xcl) g i) H → va_D A ([(h0, .inr (1, [.ref q1, .ref q2, .int 0])), (q1, .inl (cy 1, 20, .inr (.inr (.inr (.inr (xpf g i)))))), (q2, xcl)] ++ xfam (fun _ => xcl) g i) → va_S A s.heap H locs → lv_has ls 2 [(1, .int (nI i)), (0, .ref h0)] → W p l e (headSpec wsX1_init ({ frames := 2, cells := 22, slots := 125, locals := 32 })).room s m #[Value.ref h0] below meth c H locs (2 + i) (25 + 5 * i) Q (F0 m 26 ls []) := by
    intro Q kend d
    induction d with
    | zero =>
      intro i g H locs ls hi hP hD hS hl
      have hi : i = 20 := by omega
      subst hi
      refine lv_iload_n hx hb dX1_init_26 rfl (lv_at hl 0 rfl) ?_
      refine lv_aload_n hx hb dX1_init_27 rfl (lv_at hl 1 rfl) ?_
      refine va_get (D := D) (ci := 1) (v := .ref q1) (C := RX1) (T := TX1) (N := 3) hx hb hts hin1 hown hK hP 0 rfl rfl 0 (by decide) (hts (.fieldLink RX1 11 "PrimePlane$ClaimRow" "claims" "[LPrimePlane$Claim;") (List.mem_of_getElem? (i := 5) rfl)) (fun _ h9 => h9) rfl dX1_init_28 ?_
      refine va_alen hx hb hK hP 1 1 rfl rfl (v := 20) rfl dX1_init_31 ?_
      refine lv_icmp_ge (tgt := 54) hx hb dX1_init_32 (by decide) (fun hc => ?_) (fun hc => ?_)
      · exact kend g H locs ls hP hD hS
      · exact absurd (show (20 : Int32) ≤ nI 20 by decide) hc
    | succ d ih =>
      intro i g H locs ls hi hP hD hS hl
      refine lv_iload_n hx hb dX1_init_26 rfl (lv_at hl 0 rfl) ?_
      refine lv_aload_n hx hb dX1_init_27 rfl (lv_at hl 1 rfl) ?_
      refine va_get (D := D) (ci := 1) (v := .ref q1) (C := RX1) (T := TX1) (N := 3) hx hb hts hin1 hown hK hP 0 rfl rfl 0 (by decide) (hts (.fieldLink RX1 11 "PrimePlane$ClaimRow" "claims" "[LPrimePlane$Claim;") (List.mem_of_getElem? (i := 5) rfl)) (fun _ h9 => h9) rfl dX1_init_28 ?_
      refine va_alen hx hb hK hP 1 1 rfl rfl (v := 20) rfl dX1_init_31 ?_
      refine lv_icmp_ge (tgt := 54) hx hb dX1_init_32 (by decide) (fun hc => ?_) (fun hc => ?_)
      · exact absurd hc (nI_ge (a := i) (b := 20) (by omega) (by omega))
      refine lv_aload_n hx hb dX1_init_35 rfl (lv_at hl 1 rfl) ?_
      refine va_get (D := D) (ci := 1) (v := .ref q1) (C := RX1) (T := TX1) (N := 3) hx hb hts hin1 hown hK hP 0 rfl rfl 0 (by decide) (hts (.fieldLink RX1 11 "PrimePlane$ClaimRow" "claims" "[LPrimePlane$Claim;") (List.mem_of_getElem? (i := 5) rfl)) (fun _ h9 => h9) rfl dX1_init_36 ?_
      refine lv_iload_n hx hb dX1_init_39 rfl (lv_at hl 0 rfl) ?_
      refine va_new (ci := 0) (fs := [.int 0, .int 0, .int 0, .int 0, .int 0]) (C := RX0) (T := TX0) (N := 5) hx hb hts hin0 tyX0 tyX0_ok hown (hts (.classLink RX1 9 RX0) (List.mem_of_getElem? (i := 4) rfl)) (hts (.instantiable RX0 5) (List.mem_of_getElem? (i := 6) rfl)) (hts (.initialized RX0) (List.mem_of_getElem? (i := 7) rfl)) hK hP hD hS hA rfl xdv0 (show 2 + i + 1 ≤ 22 by omega) (show 25 + 5 * i + 5 ≤ 125 by omega) dX1_init_40 (fun q H hP hD hS => ?_)
      refine lv_dup hx hb dX1_init_43 rfl ?_
      refine xs_callN (ws0 := [(h0, .inr (1, [.ref q1, .ref q2, .int 0])), (q1, .inl (cy 1, 20, .inr (.inr (.inr (.inr (xpf g i)))))), (q2, xcl)] ++ xfam (fun _ => xcl) g i) (av := []) (xc_X0_init l) ⟨hx, hb, hml, hown, hts⟩ ⟨va_cnB 0 hts gX1_init_X0_init_n17 rfl rfl rfl (hwd.nest 0 rfl) (hts (.initialized RX0) (List.mem_of_getElem? (i := 7) rfl)) (by decide +kernel) ⟨Nat.le_of_ble_eq_true rfl, Nat.le_of_ble_eq_true rfl⟩, rfl, (hts (.instanceMethod yX0_init) (List.mem_of_getElem? (i := 9) rfl))⟩ hK hwd hP hD hS hA rfl hl.1 (Nat.le_of_ble_eq_true rfl) dX1_init_44 ⟨show 2 + i + 1 + 0 ≤ 22 by omega, show 25 + 5 * i + 5 + 0 ≤ 125 by omega⟩ (fun w H locs hw hP hD hS => ?_)
      subst hw
      have hlen : ([(h0, .inr (1, [.ref q1, .ref q2, .int 0])), (q1, .inl (cy 1, 20, .inr (.inr (.inr (.inr (xpf g i)))))), (q2, xcl)] ++ xfam (fun _ => xcl) g i).length = 3 + i := by rw [List.length_append, xfam_len]; rfl
      have hv := xs_last (ws0 := [(h0, .inr (1, [.ref q1, .ref q2, .int 0])), (q1, .inl (cy 1, 20, .inr (.inr (.inr (.inr (xpf g i)))))), (q2, xcl)] ++ xfam (fun _ => xcl) g i) (x := (q, (fun _ => xcl) i))
      rw [hlen] at hv
      have hcl : (nI i).toNatClampNeg = i := nI_clamp (by omega)
      refine va_astq (r := (RX0, TX0, 5)) hx hb hK hP hD hS 1 1 (3 + i) 0 rfl rfl hv rfl (vp_in_nI (show i < 20 by omega) (by omega)) dX1_init_47 (fun H locs hP hD hS => ?_)
      rw [hcl, xpf_S] at hP hD
      have hP : va_P D vwCl ([(h0, .inr (1, [.ref q1, .ref q2, .int 0])), (q1, .inl (cy 1, 20, .inr (.inr (.inr (.inr (xpf (xg g i q) (i + 1))))))), (q2, xcl)] ++ xfam (fun _ => xcl) (xg g i q) (i + 1)) H := by rw [xfam_S, ← List.append_assoc]; exact hP
      have hD : va_D A ([(h0, .inr (1, [.ref q1, .ref q2, .int 0])), (q1, .inl (cy 1, 20, .inr (.inr (.inr (.inr (xpf (xg g i q) (i + 1))))))), (q2, xcl)] ++ xfam (fun _ => xcl) (xg g i q) (i + 1)) := by rw [xfam_S, ← List.append_assoc]; exact hD
      obtain ⟨x2, ex2⟩ : ∃ y : Int32, y = nI i + 1 := ⟨_, rfl⟩
      refine lv_iinc (v := x2) (lv' := [(1, .int x2), (0, .ref h0)]) hx hb dX1_init_48 hl (k := 0) rfl (by rw [ex2]; rfl) (by decide) rfl (fun ls hl => ?_)
      refine lv_goto (tgt := 26) hx hb dX1_init_51 (by decide) ?_
      rw [ex2, nI_1] at hl
      refine W.widen (k := 2 + (i + 1)) (n := 25 + 5 * (i + 1)) (show 2 + i + 1 + 0 ≤ 2 + (i + 1) by omega) (show 25 + 5 * i + 5 + 0 ≤ 25 + 5 * (i + 1) by omega) ?_
      exact ih (i + 1) (xg g i q) H locs ls (by omega) hP hD hS hl
  have hP : va_P D vwCl ([(h0, .inr (1, [.ref q1, .ref q2, .int 0])), (q1, .inl (cy 1, 20, .inr (.inr (.inr (.inr (xpf (fun _ => 0) 0)))))), (q2, xcl)] ++ xfam (fun _ => xcl) (fun _ => 0) 0) H := by rw [xpf_0]; exact hP
  have hD : va_D A ([(h0, .inr (1, [.ref q1, .ref q2, .int 0])), (q1, .inl (cy 1, 20, .inr (.inr (.inr (.inr (xpf (fun _ => 0) 0)))))), (q2, xcl)] ++ xfam (fun _ => xcl) (fun _ => 0) 0) := by rw [xpf_0]; exact hD
  refine loop _ (fun g H locs ls hP hD hS => ?_) 20 0 (fun _ => 0) H locs ls (by omega) hP hD hS hl
  exact W.vret hx hb hr (fun t ht hW => ⟨⟨_, rfl, ⟨q1, xg g 20 q2, by rw [xpf_g (Nat.le_refl 20), xfam_g (Nat.le_refl 20)]; show _ = _; unfold xg; rw [if_pos rfl]⟩, by rw [ht]; exact hP, hD⟩, hS.F ht⟩) hS.2.2 dX1_init_54
