/-! ===== the law's walk ===== -/
theorem xdv8 : ∀ j, j < 6 → defaultValue (tyX8 j) = vp_V [.null, .null, .null, .null, .null, .null] j := by
  intro j hj
  rcases (show j = 0 ∨ j = 1 ∨ j = 2 ∨ j = 3 ∨ j = 4 ∨ j = 5 by omega) with rfl | rfl | rfl | rfl | rfl | rfl <;> rfl
theorem xdv9 : ∀ j, j < 10 → defaultValue (tyX9 j) = vp_V [.int 0, .int 0, .int 0, .null, .int 0, .null, .null, .int 0, .null, .null] j := by
  intro j hj
  rcases (show j = 0 ∨ j = 1 ∨ j = 2 ∨ j = 3 ∨ j = 4 ∨ j = 5 ∨ j = 6 ∨ j = 7 ∨ j = 8 ∨ j = 9 by omega) with rfl | rfl | rfl | rfl | rfl | rfl | rfl | rfl | rfl | rfl <;> rfl
/-- at the start -/
theorem xk_rel : zRel (zchs xM0 43) xM9 := by
  have h43 : zpr 43 := Or.inr (Or.inr (Or.inr (Or.inr (Or.inr rfl))))
  obtain ⟨hF, hk⟩ := zchs_ok (σ := xM0) h43 rfl
  refine ⟨43, 0, 0, (fun _ => 0, fun _ _ => none), fun _ => (0, 0), (fun _ => 0, fun _ _ => none), ⟨h43, by omega, by omega, fun j h => absurd h (Nat.not_lt_zero j), fun j h => absurd h (Nat.not_lt_zero j), fun j h => absurd h (Nat.not_lt_zero j)⟩, ⟨⟨hF, ?_, fun j hj => ?_, ⟨?_, ?_⟩, fun j h => absurd h (Nat.not_lt_zero j)⟩, fun j h => absurd h (Nat.not_lt_zero j), ⟨?_, fun j h => absurd h (Nat.not_lt_zero j)⟩⟩, ⟨⟨rfl, rfl, fun j h => absurd h (Nat.not_lt_zero j)⟩, fun j h => absurd h (Nat.not_lt_zero j), ⟨rfl, fun j h => absurd h (Nat.not_lt_zero j)⟩⟩⟩
  · rw [hk 5 0 2 (by decide) (by decide) (by decide)]; rfl
  · rw [hk 4 j 0 (by decide) (by decide) (by decide)]
    show (if j = 43 then -1 else nI j) = nI j
    rw [if_neg (by omega)]
  · rw [hk 4 43 7 (by decide) (by decide) (by decide)]; rfl
  · rw [hk 4 43 11 (by decide) (by decide) (by decide)]; rfl
  · rw [hk 7 0 2 (by decide) (by decide) (by decide)]; rfl
theorem xk_le {Ln i : Nat} (hLn : Ln ≤ 3072) (hi : i ≤ Ln) : (Int32.ofNat Ln - 6 < nI i) ↔ Ln < i + 6 := by
  have e1 : (Int32.ofNat Ln).toInt = (Ln : Int) := nI_toInt (n := Ln) (by omega)
  have e : (Int32.ofNat Ln - 6).toInt = (Ln : Int) - 6 := by
    rw [Int32.toInt_sub, e1, show (6 : Int32).toInt = 6 from rfl]
    exact Int.bmod_eq_of_le (by omega) (by omega)
  rw [Int32.lt_iff_toInt_lt, e, nI_toInt (by omega)]
  omega
section XLW
variable {p : Program} {l : Launch} {e : Env} {s : State} {m : MethodId} {below : List Frame} {meth : Method} {c : Code} {Q : State → Prop} {b Ln : Nat} {xs : Nat → Int32} {D : va_G} {cy : Nat → ClassId} {cL : ClassId} {L L2 : Nat → Nat → Nat} {q : Nat}
set_option maxHeartbeats 4000000 in
set_option maxRecDepth 100000 in
theorem xk_truth {H : Heap} {locs : List Loc} {cells slots : Nat} {ls : Array Slot} {i : Nat} {f : Nat → Int64} {σ σ' : zMem} (C : xlC p l s m c b Ln xs D cy cL L L2) (hi : i + 6 ≤ Ln) (hrel : zRel σ σ') (hJ : xJ D (xA s) (xlW cy cL L (σ, []) q f ++ zws zEM cy L2 (σ', [])) H) (hS : va_S (xA s) s.heap H locs) (hl : lv_has ls 9 [(4, .int (nI i)), (3, .ref q), (2, .ref (L2 0 0)), (1, .ref (L 0 0)), (0, .ref b)]) (hc : cells + 16 ≤ 602736) (hs : slots + 64 ≤ 7287896) (K : ∀ (σ σ' : zMem) (f : Nat → Int64) (H : Heap) (locs : List Loc) (ls : Array Slot), zRel σ σ' → xJ D (xA s) (xlW cy cL L (σ, []) q f ++ zws zEM cy L2 (σ', [])) H → va_S (xA s) s.heap H locs → lv_has ls 9 [(4, .int (nI i)), (3, .ref q), (2, .ref (L2 0 0)), (1, .ref (L 0 0)), (0, .ref b)] → W p l e room_1 s m #[Value.ref b] below meth c H locs (cells + 16) (slots + 64) Q (F0 m 1235 ls [])) : W p l e room_1 s m #[Value.ref b] below meth c H locs (cells) (slots) Q (F0 m 1180 ls []) := by
  obtain ⟨hx, hb, hml, hown, hts, hX, hbl, hK, hst, hst2, hnc, hfl, hLn⟩ := C
  have hA : ∀ q : Nat, s.heap.size ≤ q → xA s q := fun _ h => h
  have hK3 : va_K D vwCl (ztys cy) s := hK.sub [0, 1, 2] rfl
  obtain ⟨d, σ1, σ1', eC, eR, hrel1⟩ := ag_truth (τ := []) (τ' := []) hrel
  have hJ : xJ D (xA s) (zws zEC cy L (σ, []) ++ ([(q, xlA cL f)] ++ zws zEM cy L2 (σ', []))) H := by rw [← List.append_assoc]; exact hJ
  refine lv_aload_n hx hb dL_law_1180 rfl (lv_at hl 3 rfl) ?_
  refine xw_after (E := zEC) (v := some (.inl (.double d))) (s' := (σ1, [])) (as := (σ, [])) (Y := [(q, xlA cL f)] ++ zws zEM cy L2 (σ', [])) (va_runV (As := []) (rest := []) ⟨hx, hb, hml, hown, hts⟩ (zM_X8_truth.2 l D cy L [zO 0 0] (σ, []) (σ1, []) (some (.inl (.double d))) H.size hfl eC) (cwV 0 hts gL_law_X8_truth rfl rfl rfl (by decide +kernel) ⟨Nat.le_of_ble_eq_true rfl, Nat.le_of_ble_eq_true rfl⟩) ⟨zPre.blind, xw_recv hK hJ (ci := 8) rfl rfl (by decide) rfl, fun U hU hW => ⟨rfl, xw_pre hK3 hJ hS hA hst hU hW⟩⟩ rfl rfl hl.1 rfl (lv_room (Nat.le_of_ble_eq_true rfl)) dL_law_1181 ⟨(show cells + 0 ≤ 602736 by omega), (show slots + 0 ≤ 7287896 by omega)⟩) hJ hS hA (fun H locs hJ hS => ?_)
  refine lv_dstore (lv' := [(5, .double d), (4, .int (nI i)), (3, .ref q), (2, .ref (L2 0 0)), (1, .ref (L 0 0)), (0, .ref b)]) hx hb dL_law_1184 hl (by decide) rfl (fun ls hl => ?_)
  refine lv_aload_n hx hb dL_law_1186 rfl (lv_at hl 3 rfl) ?_
  have hJ : xJ D (xA s) (zws zEM cy L2 (σ', []) ++ (zws zEC cy L (σ1, []) ++ [(q, xlA cL f)])) H := xw_swap (by rw [List.append_assoc]; exact hJ)
  refine xw_after (E := zEM) (v := some (.inl (.double d))) (s' := (σ1', [])) (as := (σ', [])) (Y := zws zEC cy L (σ1, []) ++ [(q, xlA cL f)]) (va_runV (As := []) (rest := []) ⟨hx, hb, hml, hown, hts⟩ (zM_X9_truth.2 l D cy L2 [zO 0 0] (σ', []) (σ1', []) (some (.inl (.double d))) H.size hfl eR) (cwV 0 hts gL_law_X9_truth rfl rfl rfl (by decide +kernel) ⟨Nat.le_of_ble_eq_true rfl, Nat.le_of_ble_eq_true rfl⟩) ⟨zPre.blind, xw_recv hK hJ (ci := 9) rfl rfl (by decide) rfl, fun U hU hW => ⟨rfl, xw_pre hK3 hJ hS hA hst2 hU hW⟩⟩ rfl rfl hl.1 rfl (lv_room (Nat.le_of_ble_eq_true rfl)) dL_law_1187 ⟨(show cells + 0 + 0 ≤ 602736 by omega), (show slots + 0 + 0 ≤ 7287896 by omega)⟩) hJ hS hA (fun H locs hJ hS => ?_)
  refine lv_dstore (lv' := [(7, .double d), (5, .double d), (4, .int (nI i)), (3, .ref q), (2, .ref (L2 0 0)), (1, .ref (L 0 0)), (0, .ref b)]) hx hb dL_law_1190 hl (by decide) rfl (fun ls hl => ?_)
  have fin : ∀ ls, lv_has ls 9 [(7, .double d), (5, .double d), (4, .int (nI i)), (3, .ref q), (2, .ref (L2 0 0)), (1, .ref (L 0 0)), (0, .ref b)] → W p l e room_1 s m #[Value.ref b] below meth c H locs (cells + 0 + 0) (slots + 0 + 0) Q (F0 m 1218 ls []) := by
    intro ls hl
    refine lv_goto (tgt := 1235) hx hb dL_law_1218 (by decide) ?_
    refine W.widen (k := cells + 16) (n := slots + 64) (show cells + 0 + 0 ≤ cells + 16 by omega) (show slots + 0 + 0 ≤ slots + 64 by omega) ?_
    exact K σ1 σ1' f H locs ls hrel1 (xw_swap hJ) hS (lv_sub hl [2, 3, 4, 5, 6] rfl)
  refine lv_dload hx hb dL_law_1192 (lv_at hl 1 rfl) ?_
  refine lv_dload hx hb dL_law_1194 (lv_at hl 0 rfl) ?_
  refine lv_dcmp hx hb dL_law_1196 ?_
  refine lv_if_eq (tgt := 1218) hx hb dL_law_1197 (by decide) (fun _ => fin ls hl) (fun hc9 => ?_)
  refine lv_dload hx hb dL_law_1200 (lv_at hl 1 rfl) ?_
  refine lv_dload hx hb dL_law_1202 (lv_at hl 1 rfl) ?_
  refine lv_dcmp hx hb dL_law_1204 ?_
  refine lv_if_eq (tgt := 1216) hx hb dL_law_1205 (by decide) (fun hc8 => absurd hc8 hc9) (fun _ => ?_)
  refine lv_dload hx hb dL_law_1208 (lv_at hl 0 rfl) ?_
  refine lv_dload hx hb dL_law_1210 (lv_at hl 0 rfl) ?_
  refine lv_dcmp hx hb dL_law_1212 ?_
  refine lv_if_ne (tgt := 1218) hx hb dL_law_1213 (by decide) (fun _ => fin ls hl) (fun hc8 => absurd hc8 hc9)
set_option maxHeartbeats 4000000 in
set_option maxRecDepth 100000 in
theorem xk_digest {H : Heap} {locs : List Loc} {cells slots : Nat} {ls : Array Slot} {i : Nat} {f : Nat → Int64} {σ σ' : zMem} (C : xlC p l s m c b Ln xs D cy cL L L2) (hi : i + 6 ≤ Ln) (hrel : zRel σ σ') (hJ : xJ D (xA s) (xlW cy cL L (σ, []) q f ++ zws zEM cy L2 (σ', [])) H) (hS : va_S (xA s) s.heap H locs) (hl : lv_has ls 9 [(4, .int (nI i)), (3, .ref q), (2, .ref (L2 0 0)), (1, .ref (L 0 0)), (0, .ref b)]) (hc : cells + 16 ≤ 602736) (hs : slots + 64 ≤ 7287896) (K : ∀ (σ σ' : zMem) (f : Nat → Int64) (H : Heap) (locs : List Loc) (ls : Array Slot), zRel σ σ' → xJ D (xA s) (xlW cy cL L (σ, []) q f ++ zws zEM cy L2 (σ', [])) H → va_S (xA s) s.heap H locs → lv_has ls 9 [(4, .int (nI i)), (3, .ref q), (2, .ref (L2 0 0)), (1, .ref (L 0 0)), (0, .ref b)] → W p l e room_1 s m #[Value.ref b] below meth c H locs (cells + 16) (slots + 64) Q (F0 m 1235 ls [])) : W p l e room_1 s m #[Value.ref b] below meth c H locs (cells) (slots) Q (F0 m 1221 ls []) := by
  obtain ⟨hx, hb, hml, hown, hts, hX, hbl, hK, hst, hst2, hnc, hfl, hLn⟩ := C
  have hA : ∀ q : Nat, s.heap.size ≤ q → xA s q := fun _ h => h
  have hK3 : va_K D vwCl (ztys cy) s := hK.sub [0, 1, 2] rfl
  obtain ⟨d, σ1, σ1', eC, eR, hrel1⟩ := ag_digest (τ := []) (τ' := []) hrel
  have hJ : xJ D (xA s) (zws zEC cy L (σ, []) ++ ([(q, xlA cL f)] ++ zws zEM cy L2 (σ', []))) H := by rw [← List.append_assoc]; exact hJ
  refine lv_aload_n hx hb dL_law_1221 rfl (lv_at hl 3 rfl) ?_
  refine xw_after (E := zEC) (v := some (.inl (.long d))) (s' := (σ1, [])) (as := (σ, [])) (Y := [(q, xlA cL f)] ++ zws zEM cy L2 (σ', [])) (va_runV (As := []) (rest := []) ⟨hx, hb, hml, hown, hts⟩ (zM_X8_digest.2 l D cy L [zO 0 0] (σ, []) (σ1, []) (some (.inl (.long d))) H.size hfl eC) (cwV 0 hts gL_law_X8_digest rfl rfl rfl (by decide +kernel) ⟨Nat.le_of_ble_eq_true rfl, Nat.le_of_ble_eq_true rfl⟩) ⟨zPre.blind, xw_recv hK hJ (ci := 8) rfl rfl (by decide) rfl, fun U hU hW => ⟨rfl, xw_pre hK3 hJ hS hA hst hU hW⟩⟩ rfl rfl hl.1 rfl (lv_room (Nat.le_of_ble_eq_true rfl)) dL_law_1222 ⟨(show cells + 0 ≤ 602736 by omega), (show slots + 0 ≤ 7287896 by omega)⟩) hJ hS hA (fun H locs hJ hS => ?_)
  refine lv_aload_n hx hb dL_law_1225 rfl (lv_at hl 2 rfl) ?_
  have hJ : xJ D (xA s) (zws zEM cy L2 (σ', []) ++ (zws zEC cy L (σ1, []) ++ [(q, xlA cL f)])) H := xw_swap (by rw [List.append_assoc]; exact hJ)
  refine xw_after (E := zEM) (v := some (.inl (.long d))) (s' := (σ1', [])) (as := (σ', [])) (Y := zws zEC cy L (σ1, []) ++ [(q, xlA cL f)]) (va_runV (As := []) (rest := [.long d]) ⟨hx, hb, hml, hown, hts⟩ (zM_X9_digest.2 l D cy L2 [zO 0 0] (σ', []) (σ1', []) (some (.inl (.long d))) H.size hfl eR) (cwV 0 hts gL_law_X9_digest rfl rfl rfl (by decide +kernel) ⟨Nat.le_of_ble_eq_true rfl, Nat.le_of_ble_eq_true rfl⟩) ⟨zPre.blind, xw_recv hK hJ (ci := 9) rfl rfl (by decide) rfl, fun U hU hW => ⟨rfl, xw_pre hK3 hJ hS hA hst2 hU hW⟩⟩ rfl rfl hl.1 rfl (lv_room (Nat.le_of_ble_eq_true rfl)) dL_law_1226 ⟨(show cells + 0 + 0 ≤ 602736 by omega), (show slots + 0 + 0 ≤ 7287896 by omega)⟩) hJ hS hA (fun H locs hJ hS => ?_)
  refine W.lcmp hx hb dL_law_1229 ?_
  refine lv_if_eq (tgt := 1235) hx hb dL_law_1230 (by decide) (fun _ => ?_) (fun hc9 => absurd ((lg_cmp_eq d d).mpr rfl) hc9)
  refine W.widen (k := cells + 16) (n := slots + 64) (show cells + 0 + 0 ≤ cells + 16 by omega) (show slots + 0 + 0 ≤ slots + 64 by omega) ?_
  exact K σ1 σ1' f H locs ls hrel1 (xw_swap hJ) hS hl
set_option maxHeartbeats 4000000 in
set_option maxRecDepth 100000 in
theorem xk_loop (C : xlC p l s m c b Ln xs D cy cL L L2) (K : ∀ (H : Heap) (locs : List Loc) (ls : Array Slot), va_S (xA s) s.heap H locs → W p l e room_1 s m #[Value.ref b] below meth c H locs 602736 7287896 Q (F0 m 1241 ls [])) : ∀ (d i cells slots : Nat) (σ σ' : zMem) (f : Nat → Int64) (H : Heap) (locs : List Loc) (ls : Array Slot), i ≤ Ln → Ln < i + 6 * (d + 1) → cells + 16 * d ≤ 602700 → slots + 64 * d ≤ 7287800 → zRel σ σ' → xJ D (xA s) (xlW cy cL L (σ, []) q f ++ zws zEM cy L2 (σ', [])) H → va_S (xA s) s.heap H locs → lv_has ls 9 [(4, .int (nI i)), (3, .ref q), (2, .ref (L2 0 0)), (1, .ref (L 0 0)), (0, .ref b)] → W p l e room_1 s m #[Value.ref b] below meth c H locs cells slots Q (F0 m 23 ls []) := by
  intro d
  induction d with
  | zero =>
    intro i cells slots σ σ' f H locs ls hi hd hc hs hrel hJ hS hl
    obtain ⟨hx, hb, hml, hown, hts, hX, hbl, hK, hst, hst2, hnc, hfl, hLn⟩ := C
    refine lv_iload hx hb dL_law_23 (lv_at hl 0 rfl) ?_
    refine lv_aload_n hx hb dL_law_25 rfl (lv_at hl 4 rfl) ?_
    refine va_slen hx hb hX hbl (Nat.not_le.mpr hbl) hS dL_law_26 ?_
    refine lv_bipush (v := 6) hx hb dL_law_27 (by decide) ?_
    refine lv_isub hx hb dL_law_29 ?_
    refine lv_icmp_gt (tgt := 1241) hx hb dL_law_30 (by decide) (fun _ => ?_) (fun h9 => absurd ((xk_le hLn hi).mpr (by omega)) h9)
    exact W.widen (by omega) (by omega) (K H locs ls hS)
  | succ d ih =>
    intro i cells slots σ σ' f H locs ls hi hd hc hs hrel hJ hS hl
    have C0 := C
    obtain ⟨hx, hb, hml, hown, hts, hX, hbl, hK, hst, hst2, hnc, hfl, hLn⟩ := C
    refine lv_iload hx hb dL_law_23 (lv_at hl 0 rfl) ?_
    refine lv_aload_n hx hb dL_law_25 rfl (lv_at hl 4 rfl) ?_
    refine va_slen hx hb hX hbl (Nat.not_le.mpr hbl) hS dL_law_26 ?_
    refine lv_bipush (v := 6) hx hb dL_law_27 (by decide) ?_
    refine lv_isub hx hb dL_law_29 ?_
    refine lv_icmp_gt (tgt := 1241) hx hb dL_law_30 (by decide) (fun _ => W.widen (by omega) (by omega) (K H locs ls hS)) (fun h9 => ?_)
    have hi6 : i + 6 ≤ Ln := by
      rcases Nat.lt_or_ge Ln (i + 6) with h | h
      · exact absurd ((xk_le hLn hi).mpr h) h9
      · exact h
    refine lv_aload_n hx hb dL_law_33 rfl (lv_at hl 4 rfl) ?_
    refine lv_iload hx hb dL_law_34 (lv_at hl 0 rfl) ?_
    refine va_sld hx hb hX hbl (Nat.not_le.mpr hbl) hS (vp_in_nI (show i < Ln by omega) (by omega)) dL_law_36 ?_
    refine lv_bipush (v := 31) hx hb dL_law_37 (by decide) ?_
    refine lv_iand hx hb dL_law_39 ?_
    generalize xs (nI i).toNatClampNeg &&& 31 = x
    have K2 : ∀ (σ σ' : zMem) (f : Nat → Int64) (H : Heap) (locs : List Loc) (ls : Array Slot), zRel σ σ' → xJ D (xA s) (xlW cy cL L (σ, []) q f ++ zws zEM cy L2 (σ', [])) H → va_S (xA s) s.heap H locs → lv_has ls 9 [(4, .int (nI i)), (3, .ref q), (2, .ref (L2 0 0)), (1, .ref (L 0 0)), (0, .ref b)] → W p l e room_1 s m #[Value.ref b] below meth c H locs (cells + 16) (slots + 64) Q (F0 m 1235 ls []) := by
      intro σ σ' f H locs ls hrel hJ hS hl
      refine lv_iinc (k := 0) (v := nI (i + 6)) (lv' := [(4, .int (nI (i + 6))), (3, .ref q), (2, .ref (L2 0 0)), (1, .ref (L 0 0)), (0, .ref b)]) hx hb dL_law_1235 hl rfl (nI_add i 6) (by decide) rfl (fun ls hl => ?_)
      refine lv_goto (tgt := 23) hx hb dL_law_1238 (by decide) ?_
      exact ih (i + 6) (cells + 16) (slots + 64) σ σ' f H locs ls hi6 (by omega) (by omega) (by omega) hrel hJ hS hl
    by_cases ho : x.toInt < 0 ∨ 16 < x.toInt
    · refine lv_tableOut (tgt := 1235) hx hb dL_law_40 ho (by decide) ?_
      exact W.widen (by omega) (by omega) (K2 σ σ' f H locs ls hrel hJ hS hl)
    · have h1 : ¬ x.toInt < 0 := fun h => ho (Or.inl h)
      have h2 : ¬ 16 < x.toInt := fun h => ho (Or.inr h)
      have h17 : x.toInt = 0 ∨ x.toInt = 1 ∨ x.toInt = 2 ∨ x.toInt = 3 ∨ x.toInt = 4 ∨ x.toInt = 5 ∨ x.toInt = 6 ∨ x.toInt = 7 ∨ x.toInt = 8 ∨ x.toInt = 9 ∨ x.toInt = 10 ∨ x.toInt = 11 ∨ x.toInt = 12 ∨ x.toInt = 13 ∨ x.toInt = 14 ∨ x.toInt = 15 ∨ x.toInt = 16 := by omega
      have hc' : cells + 16 ≤ 602736 := by omega
      have hs' : slots + 64 ≤ 7287896 := by omega
      rcases h17 with h | h | h | h | h | h | h | h | h | h | h | h | h | h | h | h | h
      · exact lv_tableIn (tgt := 124) hx hb dL_law_40 h1 h2 (by rw [h]; rfl) (by decide) (xk_begin C0 hi6 hrel hJ hS hl hc' hs' K2)
      · exact lv_tableIn (tgt := 180) hx hb dL_law_40 h1 h2 (by rw [h]; rfl) (by decide) (xk_inverse C0 hi6 hrel hJ hS hl hc' hs' K2)
      · exact lv_tableIn (tgt := 236) hx hb dL_law_40 h1 h2 (by rw [h]; rfl) (by decide) (xk_root C0 hi6 hrel hJ hS hl hc' hs' K2)
      · exact lv_tableIn (tgt := 292) hx hb dL_law_40 h1 h2 (by rw [h]; rfl) (by decide) (xk_count C0 hi6 hrel hJ hS hl hc' hs' K2)
      · exact lv_tableIn (tgt := 348) hx hb dL_law_40 h1 h2 (by rw [h]; rfl) (by decide) (xk_point C0 hi6 hrel hJ hS hl hc' hs' K2)
      · exact lv_tableIn (tgt := 428) hx hb dL_law_40 h1 h2 (by rw [h]; rfl) (by decide) (xk_make C0 hi6 hrel hJ hS hl hc' hs' K2)
      · exact lv_tableIn (tgt := 520) hx hb dL_law_40 h1 h2 (by rw [h]; rfl) (by decide) (xk_move C0 hi6 hrel hJ hS hl hc' hs' K2)
      · exact lv_tableIn (tgt := 600) hx hb dL_law_40 h1 h2 (by rw [h]; rfl) (by decide) (xk_object C0 hi6 hrel hJ hS hl hc' hs' K2)
      · exact lv_tableIn (tgt := 668) hx hb dL_law_40 h1 h2 (by rw [h]; rfl) (by decide) (xk_number C0 hi6 hrel hJ hS hl hc' hs' K2)
      · exact lv_tableIn (tgt := 736) hx hb dL_law_40 h1 h2 (by rw [h]; rfl) (by decide) (xk_places C0 hi6 hrel hJ hS hl hc' hs' K2)
      · exact lv_tableIn (tgt := 792) hx hb dL_law_40 h1 h2 (by rw [h]; rfl) (by decide) (xk_square C0 hi6 hrel hJ hS hl hc' hs' K2)
      · exact lv_tableIn (tgt := 860) hx hb dL_law_40 h1 h2 (by rw [h]; rfl) (by decide) (xk_claim C0 hi6 hrel hJ hS hl hc' hs' K2)
      · exact lv_tableIn (tgt := 964) hx hb dL_law_40 h1 h2 (by rw [h]; rfl) (by decide) (xk_holds C0 hi6 hrel hJ hS hl hc' hs' K2)
      · exact lv_tableIn (tgt := 1020) hx hb dL_law_40 h1 h2 (by rw [h]; rfl) (by decide) (xk_everywhere C0 hi6 hrel hJ hS hl hc' hs' K2)
      · exact lv_tableIn (tgt := 1100) hx hb dL_law_40 h1 h2 (by rw [h]; rfl) (by decide) (xk_locus C0 hi6 hrel hJ hS hl hc' hs' K2)
      · exact lv_tableIn (tgt := 1180) hx hb dL_law_40 h1 h2 (by rw [h]; rfl) (by decide) (xk_truth C0 hi6 hrel hJ hS hl hc' hs' K2)
      · exact lv_tableIn (tgt := 1221) hx hb dL_law_40 h1 h2 (by rw [h]; rfl) (by decide) (xk_digest C0 hi6 hrel hJ hS hl hc' hs' K2)
end XLW
theorem xk_blind {D : va_G} {cy : Nat → ClassId} {ws : va_W} {sz : Nat} {av : List Value} {L : Nat → Nat → Nat} {A : Nat → Prop} : FrameBlind (va_Pc av (fun U => xPre D cy ws sz U ∧ zST L A U U.heap)) := by
  intro a U g mk h
  obtain ⟨q0, qp, h1, h2, h3, h4, h5, h6⟩ := h
  refine ⟨q0, (xPre.blind (D := D) (cy := cy) (ws := ws) (sz := sz) (av := av) a U g mk ⟨q0, qp⟩).2, fun q hq => va_Z.moved (u := U) (U := U.calling g mk a) (Vm.Alike.refl U.vm) (h1 q hq), fun t ht => va_T.moved (u := U) (U := U.calling g mk a) (Vm.Alike.refl U.vm) (h2 t ht), vx_Zq.moved (u := U) (U := U.calling g mk a) (Vm.Alike.refl U.vm) h3, vx_Zq.moved (u := U) (U := U.calling g mk a) (Vm.Alike.refl U.vm) h4, fun q hq => ?_, fun x => zBad_same (s := U) (U := U.calling g mk a) rfl (h6 x)⟩
  obtain ⟨sa, hsa⟩ := h5 q hq
  exact ⟨sa, vk_R.same (u := U) (U := U.calling g mk a) rfl hsa⟩
theorem xk_one {D : va_G} {q : Nat} {e0 : va_E} {H : Heap} {A : Nat → Prop} {Y : va_W} (h : xJ D A (Y ++ [(q, e0)]) H) : xJ D A ([(q, e0)] ++ Y) H ∧ xJ D (fun _ => True) [(q, e0)] H := ⟨xw_swap h, (xw_front (xw_swap h)).1, (xw_front (xw_swap h)).2.weaken (fun _ _ _ _ => trivial)⟩
set_option maxHeartbeats 4000000 in
set_option maxRecDepth 100000 in
/-- YOUR PART: from the entry, for every script of at most 3072 ints, the law comes to its end with true ('hflags': the launch's flags, for a law that throws: no stack traces) -/
theorem whole_start {p : Program} {e : Env} {s : State} {m : MethodId} {below : List Frame} {meth : Method} {c : Code} (l : Launch) (hflags : l.flags = flags0) {b L : Nat} {xs : Nat → Int32} (hL : L ≤ 3072) (C0 : lw_At p s m meth c b L xs) : W p l e room_1 s m #[Value.ref b] below meth c s.heap [] 0 0 (lw_Z below #[Value.ref b] s) (entryFrame m ([Value.ref b] : List Value).toArray 9) := by
  obtain ⟨hx, hb, hr, hml, hown0, htsl, hX, hbl, hlocks, hgv⟩ := C0
  have hb : c.code = cL_law := hb
  have hown : s.vm.findClass RL = some m.cls := hown0
  have hts : ∀ w ∈ wsL_law, w.before #[Value.ref b] s = true := fun w h => htsl w (wsL_law_in w h)
  have hfw : ∀ w ∈ xFl, w.before #[Value.ref b] s = true := flat_of_before _ hgv
  have hfl : l.stackTraces = false := xk_flags hflags
  have hnA : ∀ a : Nat, a < s.heap.size → ¬ xA s a := fun a h => Nat.not_le.mpr h
  obtain ⟨L0, hst0⟩ := xt_ST hfw htsl hnA
  have hnc := xt_Nc hfw
  have hwd := xt_Wd htsl
  obtain ⟨D, cy, hK⟩ := xt_K htsl hts
  have hA : ∀ q : Nat, s.heap.size ≤ q → xA s q := fun _ h => h
  have hS : va_S (xA s) s.heap s.heap [] := va_S.rf
  have hP : va_P D vwCl ([] : va_W) s.heap := fun k x hx => (by simp at hx)
  have hD : va_D (xA s) ([] : va_W) := ⟨fun i j a b ha _ _ => (by simp at ha), fun k x hx => (by simp at hx)⟩
  have hl := lv_entry ([.ref b]) (n := 9) (Nat.le_of_ble_eq_true rfl)
  rw [lg_entry_eq]
  generalize (lg_sl ([.ref b]) ++ List.replicate (9 - (lg_sl ([.ref b])).length) Slot.unset).toArray = ls at hl ⊢
  have hl : lv_has ls 9 [(0, .ref b)] := hl
  refine va_new (ci := 8) (fs := [.null, .null, .null, .null, .null, .null]) (C := RX8) (T := TX8) (N := 6) hx hb hts inlX8 tyX8 tyX8_ok hown (hts (.classLink RL 8 RX8) (List.mem_of_getElem? (i := 0) rfl)) (hts (.instantiable RX8 6) (List.mem_of_getElem? (i := 1) rfl)) (hts (.initialized RX8) (List.mem_of_getElem? (i := 2) rfl)) hK hP hD hS hA rfl xdv8 (Nat.le_of_ble_eq_true rfl) (Nat.le_of_ble_eq_true rfl) dL_law_0 (fun h0 H hP hD hS => ?_)
  refine lv_dup hx hb dL_law_3 rfl ?_
  have hJ : xJ D (xA s) ([(h0, xe8)] ++ []) H := ⟨hP, hD⟩
  have hAH : ∀ x : Nat, H.size ≤ x → xA s x := fun x h => Nat.le_trans hS.1 h
  have hin := xw_inA (xw_front hJ) hAH
  refine va_callv (va_runI (As := []) (rest := [.ref h0]) ⟨hx, hb, hml, hown, hts⟩ (xc_X8_init l hfl D cy L0 h0 H.size) (cwI 0 hts gL_law_X8_init rfl rfl rfl (hts (.initialized RX8) (List.mem_of_getElem? (i := 2) rfl)) (hts (.methodLink RL 65 yX8_init) (List.mem_of_getElem? (i := 7) rfl)) (hts (.instanceMethod yX8_init) (List.mem_of_getElem? (i := 8) rfl)) rfl (by decide +kernel) ⟨Nat.le_of_ble_eq_true rfl, Nat.le_of_ble_eq_true rfl⟩) ⟨xk_blind, fun U hU hW => ⟨rfl, ⟨by rw [hU], by rw [hU]; exact hJ.1, va_K.moved hW.alike hK, hJ.2.weaken (fun _ _ _ _ => trivial), hwd.warm hW⟩, by rw [hU]; exact hst0.pass (fun _ => rfl) hS hin hW⟩⟩ rfl rfl hl.1 rfl (lv_room (Nat.le_of_ble_eq_true rfl)) dL_law_4 ⟨Nat.le_of_ble_eq_true rfl, Nat.le_of_ble_eq_true rfl⟩) hS (fun x _ h => hin x h) hin (fun L1 t H1 locs ht hvm hL1 hB hz1 hk1 hS => ?_)
  obtain ⟨hL10, hL198⟩ := hL1
  have hB : xJ D (va_A [(h0, xe8)] H.size) (zws zEC cy L1 (zchs xM0 43, [])) H1 := by rw [← ht]; exact hB
  have hJb := xw_step hJ hAH hk1 hB
  clear hJ hin hAH hk1 hB hP hD
  subst hL10
  have hJ := hJb
  clear hJb
  refine lv_astore_n (lv' := [(1, .ref (L1 0 0)), (0, .ref b)]) hx hb dL_law_7 rfl hl (by decide) rfl (fun ls hl => ?_)
  refine va_new (ci := 9) (fs := [.int 0, .int 0, .int 0, .null, .int 0, .null, .null, .int 0, .null, .null]) (C := RX9) (T := TX9) (N := 10) hx hb hts inlX9 tyX9 tyX9_ok hown (hts (.classLink RL 66 RX9) (List.mem_of_getElem? (i := 3) rfl)) (hts (.instantiable RX9 10) (List.mem_of_getElem? (i := 4) rfl)) (hts (.initialized RX9) (List.mem_of_getElem? (i := 5) rfl)) hK hJ.1 hJ.2 hS hA rfl xdv9 (Nat.le_of_ble_eq_true rfl) (Nat.le_of_ble_eq_true rfl) dL_law_8 (fun h9 H2 hP hD hS => ?_)
  have hJ1 := xk_one (e0 := xe9) ⟨hP, hD⟩
  clear hP hD hJ
  obtain ⟨hJ, hJ9⟩ := hJ1
  have hAH : ∀ x : Nat, H2.size ≤ x → xA s x := fun x h => Nat.le_trans hS.1 h
  have hin := xw_inA (xw_front hJ) hAH
  refine lv_dup hx hb dL_law_11 rfl ?_
  refine va_callv (va_runI (As := []) (rest := [.ref h9]) ⟨hx, hb, hml, hown, hts⟩ (xc_X9_init l D cy L0 h9 H2.size) (cwI 0 hts gL_law_X9_init rfl rfl rfl (hts (.initialized RX9) (List.mem_of_getElem? (i := 5) rfl)) (hts (.methodLink RL 68 yX9_init) (List.mem_of_getElem? (i := 117) rfl)) (hts (.instanceMethod yX9_init) (List.mem_of_getElem? (i := 118) rfl)) rfl (by decide +kernel) ⟨Nat.le_of_ble_eq_true rfl, Nat.le_of_ble_eq_true rfl⟩) ⟨xPre.blind, fun U hU hW => ⟨rfl, by rw [hU], by rw [hU]; exact hJ9.1, va_K.moved hW.alike hK, hJ9.2, hwd.warm hW⟩⟩ rfl rfl hl.1 rfl (lv_room (Nat.le_of_ble_eq_true rfl)) dL_law_12 ⟨Nat.le_of_ble_eq_true rfl, Nat.le_of_ble_eq_true rfl⟩) hS (fun x _ h => hin x h) hin (fun L2 t H3 locs ht hvm hL2 hB hz1 hk1 hS => ?_)
  obtain ⟨hL20, hL298⟩ := hL2
  have hB : xJ D (va_A [(h9, xe9)] H2.size) (zws zEM cy L2 (xM9, [])) H3 := by rw [← ht]; exact hB
  have hJb := xw_step hJ hAH hk1 hB
  clear hJ hin hAH hk1 hB hJ9
  subst hL20
  have hJ := hJb
  clear hJb
  have hJ : xJ D (xA s) (zws zEM cy L2 (xM9, []) ++ zws zEC cy L1 (zchs xM0 43, [])) H3 := by
    have e : zws zEC cy L1 (zchs xM0 43, []) ++ [] = zws zEC cy L1 (zchs xM0 43, []) := List.append_nil _
    rw [e] at hJ
    exact hJ
  refine lv_astore_n (lv' := [(2, .ref (L2 0 0)), (1, .ref (L1 0 0)), (0, .ref b)]) hx hb dL_law_15 rfl hl (by decide) rfl (fun ls hl => ?_)
  refine lv_iconst (v := 1) hx hb dL_law_16 (by decide) ?_
  refine va_newa (atype := .long) (ty := .long) (a0 := (1, .inr (.inl (fun _ => 0)))) hx hb (hts (.arrayClass .long) (List.mem_of_getElem? (i := 6) rfl)) rfl hK hJ.1 hJ.2 hS hA (fun cA => rfl) (by decide) (N' := 1) rfl (Nat.le_of_ble_eq_true rfl) (Nat.le_of_ble_eq_true rfl) (Nat.le_of_ble_eq_true rfl) dL_law_17 (fun q cL H4 hK hP hD hS => ?_)
  have hJ : xJ D (xA s) (xlW cy cL L1 (zchs xM0 43, []) q (fun _ => 0) ++ zws zEM cy L2 (xM9, [])) H4 := xw_swap (by
    have e : zws zEM cy L2 (xM9, []) ++ (zws zEC cy L1 (zchs xM0 43, []) ++ [(q, xlA cL (fun _ => 0))]) = zws zEM cy L2 (xM9, []) ++ zws zEC cy L1 (zchs xM0 43, []) ++ [(q, xlA cL (fun _ => 0))] := (List.append_assoc _ _ _).symm
    show xJ D (xA s) (zws zEM cy L2 (xM9, []) ++ (zws zEC cy L1 (zchs xM0 43, []) ++ [(q, xlA cL (fun _ => 0))])) H4
    rw [e]
    exact ⟨hP, hD⟩)
  refine lv_astore_n (lv' := [(3, .ref q), (2, .ref (L2 0 0)), (1, .ref (L1 0 0)), (0, .ref b)]) hx hb dL_law_19 rfl hl (by decide) rfl (fun ls hl => ?_)
  refine lv_iconst (v := 0) hx hb dL_law_20 (by decide) ?_
  refine lv_istore (lv' := [(4, .int (nI 0)), (3, .ref q), (2, .ref (L2 0 0)), (1, .ref (L1 0 0)), (0, .ref b)]) hx hb dL_law_21 hl (by decide) rfl (fun ls hl => ?_)
  have hst1 : zST L1 (xA s) s s.heap := hst0.pass (locs := []) hL198 va_S.rf (fun _ h => h) (State.WarmedH.refl s)
  have hst2 : zST L2 (xA s) s s.heap := hst0.pass (locs := []) hL298 va_S.rf (fun _ h => h) (State.WarmedH.refl s)
  have CC : xlC p l s m c b L xs D cy cL L1 L2 := ⟨hx, hb, hml, hown, hts, hX, hbl, hK, hst1, hst2, hnc, hfl, hL⟩
  refine W.widen (k := 1000) (n := 10000) (Nat.le_of_ble_eq_true rfl) (Nat.le_of_ble_eq_true rfl) ?_
  refine xk_loop CC (fun H locs ls hS => ?_) (L / 6) 0 1000 10000 (zchs xM0 43) xM9 (fun _ => 0) H4 _ ls (Nat.zero_le _) (by omega) (by omega) (by omega) xk_rel hJ hS hl
  refine va_forget (fun z hz => hS.2.2 z hz) ?_
  refine lv_iconst (v := 1) hx hb dL_law_1241 (by decide) ?_
  exact lw_ret (d0 := s.drawn) (Drawn.sameBut.refl s.drawn lw_cs) hx hb hr hlocks dL_law_1242
