/-! ===== the law's start, and its end ===== -/
theorem xdv8 : ∀ j, j < 6 → defaultValue (tyX8 j) = vp_V [.null, .null, .null, .null, .null, .null] j := by
  intro j hj
  rcases (show j = 0 ∨ j = 1 ∨ j = 2 ∨ j = 3 ∨ j = 4 ∨ j = 5 by omega) with rfl | rfl | rfl | rfl | rfl | rfl <;> rfl
abbrev xA (s : State) : Nat → Prop := fun q => s.heap.size ≤ q
/-- at the start: no objects, no claims, modulo 43 -/
theorem xk_stC : zSt 43 0 0 (fun _ => 0, fun _ _ => none) (fun _ => (0, 0)) (fun _ => 0, fun _ _ => none) ∧ zSC 43 0 0 (fun _ => 0, fun _ _ => none) (fun _ => (0, 0)) (fun _ => 0, fun _ _ => none) (zchs xM0 43) := by
  have h43 : zpr 43 := Or.inr (Or.inr (Or.inr (Or.inr (Or.inr rfl))))
  obtain ⟨hF, hk⟩ := zchs_ok (σ := xM0) h43 rfl
  refine ⟨⟨h43, by omega, by omega, fun j h => absurd h (Nat.not_lt_zero j), fun j h => absurd h (Nat.not_lt_zero j), fun j h => absurd h (Nat.not_lt_zero j)⟩, ⟨⟨hF, ?_, fun j hj => ?_, ⟨?_, ?_⟩, fun j h => absurd h (Nat.not_lt_zero j)⟩, fun j h => absurd h (Nat.not_lt_zero j), ⟨?_, fun j h => absurd h (Nat.not_lt_zero j)⟩⟩⟩
  · rw [hk 5 0 2 (by decide) (by decide) (by decide)]; rfl
  · rw [hk 4 j 0 (by decide) (by decide) (by decide)]
    show (if j = 43 then -1 else nI j) = nI j
    rw [if_neg (by omega)]
  · rw [hk 4 43 7 (by decide) (by decide) (by decide)]; rfl
  · rw [hk 4 43 11 (by decide) (by decide) (by decide)]; rfl
  · rw [hk 7 0 2 (by decide) (by decide) (by decide)]; rfl
theorem xk_vac {sc : List Int32} {L : Nat → Nat → Nat} {A : Nat → Prop} {U : State} {H : Heap} (h : zST (zES sc) L A U H) : zST zEC L A U H := ⟨h.1, h.2.1, fun g => absurd g (by decide)⟩
theorem xk_blind {D : va_G} {cy : Nat → ClassId} {ws : va_W} {sz : Nat} {av : List Value} {L : Nat → Nat → Nat} {A : Nat → Prop} : FrameBlind (va_Pc av (fun U => xPre D cy ws sz U ∧ zST zEC L A U U.heap)) := by
  intro a U g mk h
  obtain ⟨q0, qp, h1, h2, h3⟩ := h
  exact ⟨q0, (xPre.blind (D := D) (cy := cy) (ws := ws) (sz := sz) (av := av) a U g mk ⟨q0, qp⟩).2, fun q hq => va_Z.moved (u := U) (U := U.calling g mk a) (Vm.Alike.refl U.vm) (h1 q hq), fun t ht => va_T.moved (u := U) (U := U.calling g mk a) (Vm.Alike.refl U.vm) (h2 t ht), fun g => absurd g (by decide)⟩
/-- what the law's body owes, out of what the small machine says of its end -/
theorem xk_out {below : List Frame} {s t : State} {b : Nat} {XC : String → State → State → Prop} (hX : ∀ C a b, ¬ XC C a b) (h : vx_MQ below (fun _ _ o _ => o = .returned (some (.int 1))) XC #[Value.ref b] s 612586 7263941 (xA s) t) : lw_Z below #[Value.ref b] s t := by
  obtain ⟨o, h1, h2, h3⟩ := h
  rcases h3 with ⟨ho, L, ⟨hv, hW, hs⟩, hL⟩ | ⟨q, -, E, ce, L, hx, -⟩
  · exact ⟨o, h1, h2, ho, lw_closed (d0 := s.drawn) (Drawn.sameBut.refl s.drawn lw_cs) hv hW (hs.weaken (fun x hx hlt => absurd hlt (Nat.not_lt.mpr (hL x hx))) (Nat.le_refl _) (Nat.le_refl _))⟩
  · exact absurd hx (hX _ _ _)
set_option maxHeartbeats 4000000 in
set_option maxRecDepth 100000 in
/-- from the entry, for every script of at most 260 ints, the law comes to its end with true -/
theorem whole_start {p : Program} {e : Env} {s : State} {m : MethodId} {below : List Frame} {meth : Method} {c : Code} (l : Launch) (hflags : l.flags = flags0) {b L : Nat} {xs : Nat → Int32} (hL : L ≤ 260) (C0 : lw_At p s m meth c b L xs) : W p l e room_1 s m #[Value.ref b] below meth c s.heap [] 0 0 (lw_Z below #[Value.ref b] s) (entryFrame m ([Value.ref b] : List Value).toArray 17) := by
  obtain ⟨hx, hb, hr, hml, hown0, htsl, hX, hbl, hlocks, hgv, hxt⟩ := C0
  have hb : c.code = cL_law := hb
  have hown : s.vm.findClass RL = some m.cls := hown0
  have hts : ∀ w ∈ wsL_law, w.before #[Value.ref b] s = true := fun w h => htsl w (wsL_law_in w h)
  have hfw : ∀ w ∈ xFl, w.before #[Value.ref b] s = true := flat_of_before _ hgv
  have hfl : l.stackTraces = false := xk_flags hflags
  have hnA : ∀ a : Nat, a < s.heap.size → ¬ xA s a := fun a h => Nat.not_le.mpr h
  obtain ⟨L0, h97, hstS⟩ := xt_ST hfw htsl hnA hX hbl
  have hst0 := xk_vac hstS
  have hwd := xt_Wd htsl
  obtain ⟨D, cy, hK⟩ := xt_K htsl hts
  have hA : ∀ q : Nat, s.heap.size ≤ q → xA s q := fun _ h => h
  have hS : va_S (xA s) s.heap s.heap [] := va_S.rf
  have hP : va_P D vwCl ([] : va_W) s.heap := fun k x hx => (by simp at hx)
  have hD : va_D (xA s) ([] : va_W) := ⟨fun i j a b ha _ _ => (by simp at ha), fun k x hx => (by simp at hx)⟩
  have hl := lv_entry ([.ref b]) (n := 17) (Nat.le_of_ble_eq_true rfl)
  rw [lg_entry_eq]
  generalize (lg_sl ([.ref b]) ++ List.replicate (17 - (lg_sl ([.ref b])).length) Slot.unset).toArray = ls at hl ⊢
  have hl : lv_has ls 17 [(0, .ref b)] := hl
  refine va_new (ci := 8) (fs := [.null, .null, .null, .null, .null, .null]) (C := RX8) (T := TX8) (N := 6) hx hb hts inlX8 tyX8 tyX8_ok hown (hts (.classLink RL 10 RX8) (List.mem_of_getElem? (i := 0) rfl)) (hts (.instantiable RX8 6) (List.mem_of_getElem? (i := 1) rfl)) (hts (.initialized RX8) (List.mem_of_getElem? (i := 2) rfl)) hK hP hD hS hA rfl xdv8 (Nat.le_of_ble_eq_true rfl) (Nat.le_of_ble_eq_true rfl) dL_law_0 (fun h0 H hP hD hS => ?_)
  refine lv_dup hx hb dL_law_3 rfl ?_
  have hJ : xJ D (xA s) ([(h0, xe8)] ++ []) H := ⟨hP, hD⟩
  have hAH : ∀ x : Nat, H.size ≤ x → xA s x := fun x h => Nat.le_trans hS.1 h
  have hin := xw_inA (xw_front hJ) hAH
  refine va_callv (va_runI (As := []) (rest := [.ref h0]) ⟨hx, hb, hml, hown, hts⟩ (xc_X8_init l hfl D cy L0 h0 H.size) (cwI 0 hts gL_law_X8_init rfl rfl rfl (hts (.initialized RX8) (List.mem_of_getElem? (i := 2) rfl)) (hts (.methodLink RL 89 yX8_init) (List.mem_of_getElem? (i := 5) rfl)) (hts (.instanceMethod yX8_init) (List.mem_of_getElem? (i := 6) rfl)) rfl (by decide +kernel) ⟨Nat.le_of_ble_eq_true rfl, Nat.le_of_ble_eq_true rfl⟩) ⟨xk_blind, fun U hU hW => ⟨rfl, ⟨by rw [hU], by rw [hU]; exact hJ.1, va_K.moved hW.alike hK, hJ.2.weaken (fun _ _ _ _ => trivial), hwd.warm hW⟩, by rw [hU]; exact hst0.pass (fun _ _ _ => rfl) hS hin hW⟩⟩ rfl rfl hl.1 rfl (lv_room (Nat.le_of_ble_eq_true rfl)) dL_law_4 ⟨Nat.le_of_ble_eq_true rfl, Nat.le_of_ble_eq_true rfl⟩) hS (fun x _ h => hin x h) hin (fun L1 t H1 locs ht hvm hL1 hB hz1 hk1 hS => ?_)
  obtain ⟨hL10, hL1p⟩ := hL1
  have hB : xJ D (va_A [(h0, xe8)] H.size) (zws zEC cy L1 (zchs xM0 43, [])) H1 := by rw [← ht]; exact hB
  have hJb := xw_step hJ hAH hk1 hB
  clear hJ hin hAH hk1 hB hP hD
  subst hL10
  have hJ := hJb
  clear hJb
  have hJ : xJ D (xA s) (zws zEC cy L1 (zchs xM0 43, [])) H1 := by
    have e : zws zEC cy L1 (zchs xM0 43, []) ++ [] = zws zEC cy L1 (zchs xM0 43, []) := List.append_nil _
    rw [e] at hJ
    exact hJ
  refine lv_astore_n (lv' := [(1, .ref (L1 0 0)), (0, .ref b)]) hx hb dL_law_7 rfl hl (by decide) rfl (fun ls hl => ?_)
  have hst1 : zST (zES ((List.range L).map xs)) L1 (xA s) s s.heap := hstS.pass (locs := []) hL1p va_S.rf (fun _ h => h) (State.WarmedH.refl s)
  have h97' : L1 97 0 = b := (hL1p 97 0 (Or.inr (Or.inr (Or.inr rfl)))).trans h97
  have hW1 : zW (zES ((List.range L).map xs)) D cy (xA s) L1 (zchs xM0 43, []) H1 := by
    show va_P D vwCl (zws (zES ((List.range L).map xs)) cy L1 (zchs xM0 43, [])) H1 ∧ va_D (xA s) (zws (zES ((List.range L).map xs)) cy L1 (zchs xM0 43, []))
    rw [zws_ex (zES_ex _)]
    exact hJ
  have hH : zHas L1 ls 17 [some (Sum.inr (97, 0)), some (Sum.inr (0, 0)), none, none, none, none, none, none, none, none, none, none, none, none, none, none, none] := by
    refine ⟨hl.1, hl.2.1, rfl, fun j v hv => ?_⟩
    rcases j with _ | _ | j
    · cases hv
      show ls[0]? = some (.val (.ref (L1 97 0)))
      rw [h97']
      exact hl.2.2 _ (List.mem_cons_of_mem _ List.mem_cons_self)
    · cases hv
      exact hl.2.2 _ List.mem_cons_self
    · have h8 : (List.replicate 15 (none : Option zAV))[j]? = some (some v) := hv
      have h9 := List.mem_of_getElem? h8
      rw [List.mem_replicate] at h9
      cases h9.2
  obtain ⟨s', hev⟩ := zlw_all (sc := (List.range L).map xs) (kk := (1000, 10000)) (by rw [List.length_map, List.length_range]; omega) xk_stC.1 xk_stC.2 (by decide) (by decide)
  obtain ⟨n, hrun⟩ := zev_iff.mp hev
  refine W.widen (k := 1000) (n := 10000) (Nat.le_of_ble_eq_true rfl) (Nat.le_of_ble_eq_true rfl) ?_
  have K := zrun_sound (p := p) (l := l) (e := e) (s := s) (m := m) (args := #[Value.ref b]) (below := below) (meth := meth) (c := c) (D := D) (cy := cy) (A := xA s) (Qc := fun _ _ o _ => o = .returned (some (.int 1))) (XC := fun _ _ _ => False) (own := RL) (Ts := wsL_law) (zlook_all (zcs_L_law ((List.range L).map xs) rfl)) n 8 _ [] (zchs xM0 43, []) (1000, 10000) _ hrun L1 H1 locs ls ⟨hx, hb, hml, hown, hts, hK, hA, hlocks, hr, hxt, hst1, hfl⟩ hW1 hS hH ⟨by decide, by decide⟩ (fun L' _ H2 locs2 _ _ t _ _ => rfl)
  intro T hT X
  obtain ⟨t, a1, b1⟩ := K T hT X
  exact ⟨t, a1, xk_out (fun _ _ _ h => h) b1⟩
