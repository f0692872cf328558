/-! ===== the cases of the law (printed by wip/whole/gen_law2.py) ===== -/
set_option maxHeartbeats 4000000 in
set_option maxRecDepth 100000 in
theorem xk_begin {p : Program} {l : Launch} {e : Env} {s : State} {m : MethodId} {below : List Frame} {meth : Method} {c : Code} {H : Heap} {locs : List Loc} {cells slots : Nat} {Q : State → Prop} {ls : Array Slot} {b Ln : Nat} {xs : Nat → Int32} {D : va_G} {cy : Nat → ClassId} {cL : ClassId} {L L2 : Nat → Nat → Nat} {q i : Nat} {f : Nat → Int64} {σ σ' : zMem} (C : xlC p l s m c b Ln xs D cy cL L L2) (hi : i + 6 ≤ Ln) (hrel : zRel σ σ') (hJ : xJ D (xA s) (xlW cy cL L (σ, []) q f ++ zws zEM cy L2 (σ', [])) H) (hS : va_S (xA s) s.heap H locs) (hl : lv_has ls 9 [(4, .int (nI i)), (3, .ref q), (2, .ref (L2 0 0)), (1, .ref (L 0 0)), (0, .ref b)]) (hc : cells + 16 ≤ 602736) (hs : slots + 64 ≤ 7287896) (K : ∀ (σ σ' : zMem) (f : Nat → Int64) (H : Heap) (locs : List Loc) (ls : Array Slot), zRel σ σ' → xJ D (xA s) (xlW cy cL L (σ, []) q f ++ zws zEM cy L2 (σ', [])) H → va_S (xA s) s.heap H locs → lv_has ls 9 [(4, .int (nI i)), (3, .ref q), (2, .ref (L2 0 0)), (1, .ref (L 0 0)), (0, .ref b)] → W p l e room_1 s m #[Value.ref b] below meth c H locs (cells + 16) (slots + 64) Q (F0 m 1235 ls [])) : W p l e room_1 s m #[Value.ref b] below meth c H locs (cells) (slots) Q (F0 m 124 ls []) := by
  obtain ⟨hx, hb, hml, hown, hts, hX, hbl, hK, hst, hst2, hnc, hfl, hLn⟩ := C
  have hA : ∀ q : Nat, s.heap.size ≤ q → xA s q := fun _ h => h
  have hK3 : va_K D vwCl (ztys cy) s := hK.sub [0, 1, 2] rfl
  refine lv_aload_n hx hb dL_law_124 rfl (lv_at hl 3 rfl) ?_
  refine xk_arg 1 hx hb hX hbl hS (lv_at hl 4 rfl) (lv_at hl 0 rfl) (by omega) hLn (by decide) dL_law_125 dL_law_126 dL_law_128 dL_law_129 dL_law_130 ?_
  refine lv_aload_n hx hb dL_law_131 rfl (lv_at hl 1 rfl) ?_
  have aG : zAg [] [] (zcd 1 0 0) (m_X8_begin [zO 0 0, zI (xs (i + 1))] (σ, [])) (m_X9_begin [zO 0 0, zI (xs (i + 1))] (σ', [])) := ag_begin hrel
  rcases aG with ⟨v, σ1, σ1', eC, eR, h0, hrel1⟩ | ⟨x, w, σ1, σ1', eC, eR, h0, hne, hx2, hrel1⟩
  · refine xk_wrap (As := [.ref (L 0 0), .int (xs (i + 1)), .ref q]) (xl_begin l (xs (i + 1)) D cy cL L σ q f H.size hfl (Or.inl ⟨v, σ1, eC⟩)) ⟨hx, hb, hml, hown, hts⟩ (vx_cwSW 3 hts gL_law_L_begin rfl rfl rfl (by decide +kernel) ⟨Nat.le_of_ble_eq_true rfl, Nat.le_of_ble_eq_true rfl⟩) hK hst hnc hJ hS hA rfl hl.1 dL_law_132 ⟨(show cells + 1 ≤ 602736 by omega), (show slots + 6 ≤ 7287896 by omega)⟩ (fun r σ2 f1 H locs hpost hJ hS => ?_)
    obtain ⟨hr0, hσ, hf1⟩ : r = 0 ∧ σ2 = σ1 ∧ f1 0 = v.toInt64 := by
      rcases hpost with ⟨v9, e9, hr9, hf9⟩ | ⟨x9, e9, -⟩
      · have e9 := eC.symm.trans e9; cases e9; exact ⟨hr9, rfl, hf9⟩
      · have e9 := eC.symm.trans e9; cases e9
    subst hσ
    refine lv_istore (lv' := [(5, .int r), (4, .int (nI i)), (3, .ref q), (2, .ref (L2 0 0)), (1, .ref (L 0 0)), (0, .ref b)]) hx hb dL_law_135 hl (by decide) rfl (fun ls hl => ?_)
    refine lv_aload_n hx hb dL_law_137 rfl (lv_at hl 3 rfl) ?_
    refine xk_arg 1 hx hb hX hbl hS (lv_at hl 5 rfl) (lv_at hl 1 rfl) (by omega) hLn (by decide) dL_law_138 dL_law_139 dL_law_141 dL_law_142 dL_law_143 ?_
    have hJ := xw_swap hJ
    refine xw_after (E := zEM) (v := some (zI v)) (s' := (σ1', [])) (as := (σ', [])) (Y := xlW cy cL L (σ2, []) q f1) (va_runV (As := [.int (xs (i + 1))]) (rest := []) ⟨hx, hb, hml, hown, hts⟩ (zM_X9_begin.2 l D cy L2 [zO 0 0, zI (xs (i + 1))] (σ', []) (σ1', []) (some (zI v)) H.size hfl eR) (cwV 1 hts gL_law_X9_begin rfl rfl rfl (by decide +kernel) ⟨Nat.le_of_ble_eq_true rfl, Nat.le_of_ble_eq_true rfl⟩) ⟨zPre.blind, xw_recv hK hJ (ci := 9) rfl rfl (by decide) rfl, fun U hU hW => ⟨rfl, xw_pre hK3 hJ hS hA hst2 hU hW⟩⟩ rfl rfl hl.1 rfl (lv_room (Nat.le_of_ble_eq_true rfl)) dL_law_144 ⟨(show cells + 1 + 0 ≤ 602736 by omega), (show slots + 6 + 0 ≤ 7287896 by omega)⟩) hJ hS hA (fun H locs hJ hS => ?_)
    refine lv_istore (lv' := [(6, .int v), (5, .int r), (4, .int (nI i)), (3, .ref q), (2, .ref (L2 0 0)), (1, .ref (L 0 0)), (0, .ref b)]) hx hb dL_law_147 hl (by decide) rfl (fun ls hl => ?_)
    refine lv_aload_n hx hb dL_law_149 rfl (lv_at hl 4 rfl) ?_
    refine xw_after (E := zEM) (v := some (zI (σ1' 0 0 0))) (s' := (σ1', [])) (as := (σ1', [])) (Y := xlW cy cL L (σ2, []) q f1) (va_runV (As := []) (rest := []) ⟨hx, hb, hml, hown, hts⟩ (zM_X9_thrown.2 l D cy L2 [zO 0 0] (σ1', []) (σ1', []) (some (zI (σ1' 0 0 0))) H.size hfl rp_thrown) (cwV 0 hts gL_law_X9_thrown rfl rfl rfl (by decide +kernel) ⟨Nat.le_of_ble_eq_true rfl, Nat.le_of_ble_eq_true rfl⟩) ⟨zPre.blind, xw_recv hK hJ (ci := 9) rfl rfl (by decide) rfl, fun U hU hW => ⟨rfl, xw_pre hK3 hJ hS hA hst2 hU hW⟩⟩ rfl rfl hl.1 rfl (lv_room (Nat.le_of_ble_eq_true rfl)) dL_law_150 ⟨(show cells + 1 + 0 + 0 ≤ 602736 by omega), (show slots + 6 + 0 + 0 ≤ 7287896 by omega)⟩) hJ hS hA (fun H locs hJ hS => ?_)
    refine lv_iload hx hb dL_law_153 (lv_at hl 1 rfl) ?_
    refine lv_icmp_eq (tgt := 160) hx hb dL_law_155 (by decide) (fun _ => ?_) (fun hc9 => absurd (h0.trans hr0.symm) hc9)
    refine lv_iload hx hb dL_law_160 (lv_at hl 1 rfl) ?_
    refine lv_if_ne (tgt := 177) hx hb dL_law_162 (by decide) (fun hc9 => absurd hr0 hc9) (fun _ => ?_)
    refine lv_aload_n hx hb dL_law_165 rfl (lv_at hl 3 rfl) ?_
    refine lv_iconst (v := 0) hx hb dL_law_166 (by decide) ?_
    refine va_lald hx hb hK (xk_q hJ) 0 3 rfl rfl (i := 0) (vp_in_nI (show 0 < 1 by decide) (by decide)) dL_law_167 ?_
    refine lv_iload hx hb dL_law_168 (lv_at hl 0 rfl) ?_
    refine lv_i2l hx hb dL_law_170 rfl ?_
    refine W.lcmp hx hb dL_law_171 ?_
    refine lv_if_eq (tgt := 177) hx hb dL_law_172 (by decide) (fun _ => ?_) (fun hc9 => absurd ((lg_cmp_eq _ _).mpr hf1) hc9)
    refine lv_goto (tgt := 1235) hx hb dL_law_177 (by decide) ?_
    refine W.widen (k := cells + 16) (n := slots + 64) (show cells + 1 + 0 + 0 ≤ cells + 16 by omega) (show slots + 6 + 0 + 0 ≤ slots + 64 by omega) ?_
    exact K σ2 σ1' f1 H locs ls hrel1 (xw_swap hJ) hS (lv_sub hl [2, 3, 4, 5, 6] rfl)
  · refine xk_wrap (As := [.ref (L 0 0), .int (xs (i + 1)), .ref q]) (xl_begin l (xs (i + 1)) D cy cL L σ q f H.size hfl (Or.inr ⟨x, σ1, eC, hx2, hne⟩)) ⟨hx, hb, hml, hown, hts⟩ (vx_cwSW 3 hts gL_law_L_begin rfl rfl rfl (by decide +kernel) ⟨Nat.le_of_ble_eq_true rfl, Nat.le_of_ble_eq_true rfl⟩) hK hst hnc hJ hS hA rfl hl.1 dL_law_132 ⟨(show cells + 1 ≤ 602736 by omega), (show slots + 6 ≤ 7287896 by omega)⟩ (fun r σ2 f1 H locs hpost hJ hS => ?_)
    obtain ⟨hr0, hσ⟩ : r = zcd 1 0 0 x ∧ σ2 = σ1 := by
      rcases hpost with ⟨v9, e9, -⟩ | ⟨x9, e9, hr9⟩
      · have e9 := eC.symm.trans e9; cases e9
      · have e9 := eC.symm.trans e9; cases e9; exact ⟨hr9, rfl⟩
    subst hσ
    refine lv_istore (lv' := [(5, .int r), (4, .int (nI i)), (3, .ref q), (2, .ref (L2 0 0)), (1, .ref (L 0 0)), (0, .ref b)]) hx hb dL_law_135 hl (by decide) rfl (fun ls hl => ?_)
    refine lv_aload_n hx hb dL_law_137 rfl (lv_at hl 3 rfl) ?_
    refine xk_arg 1 hx hb hX hbl hS (lv_at hl 5 rfl) (lv_at hl 1 rfl) (by omega) hLn (by decide) dL_law_138 dL_law_139 dL_law_141 dL_law_142 dL_law_143 ?_
    have hJ := xw_swap hJ
    refine xw_after (E := zEM) (v := some (zI w)) (s' := (σ1', [])) (as := (σ', [])) (Y := xlW cy cL L (σ2, []) q f1) (va_runV (As := [.int (xs (i + 1))]) (rest := []) ⟨hx, hb, hml, hown, hts⟩ (zM_X9_begin.2 l D cy L2 [zO 0 0, zI (xs (i + 1))] (σ', []) (σ1', []) (some (zI w)) H.size hfl eR) (cwV 1 hts gL_law_X9_begin rfl rfl rfl (by decide +kernel) ⟨Nat.le_of_ble_eq_true rfl, Nat.le_of_ble_eq_true rfl⟩) ⟨zPre.blind, xw_recv hK hJ (ci := 9) rfl rfl (by decide) rfl, fun U hU hW => ⟨rfl, xw_pre hK3 hJ hS hA hst2 hU hW⟩⟩ rfl rfl hl.1 rfl (lv_room (Nat.le_of_ble_eq_true rfl)) dL_law_144 ⟨(show cells + 1 + 0 ≤ 602736 by omega), (show slots + 6 + 0 ≤ 7287896 by omega)⟩) hJ hS hA (fun H locs hJ hS => ?_)
    refine lv_istore (lv' := [(6, .int w), (5, .int r), (4, .int (nI i)), (3, .ref q), (2, .ref (L2 0 0)), (1, .ref (L 0 0)), (0, .ref b)]) hx hb dL_law_147 hl (by decide) rfl (fun ls hl => ?_)
    refine lv_aload_n hx hb dL_law_149 rfl (lv_at hl 4 rfl) ?_
    refine xw_after (E := zEM) (v := some (zI (σ1' 0 0 0))) (s' := (σ1', [])) (as := (σ1', [])) (Y := xlW cy cL L (σ2, []) q f1) (va_runV (As := []) (rest := []) ⟨hx, hb, hml, hown, hts⟩ (zM_X9_thrown.2 l D cy L2 [zO 0 0] (σ1', []) (σ1', []) (some (zI (σ1' 0 0 0))) H.size hfl rp_thrown) (cwV 0 hts gL_law_X9_thrown rfl rfl rfl (by decide +kernel) ⟨Nat.le_of_ble_eq_true rfl, Nat.le_of_ble_eq_true rfl⟩) ⟨zPre.blind, xw_recv hK hJ (ci := 9) rfl rfl (by decide) rfl, fun U hU hW => ⟨rfl, xw_pre hK3 hJ hS hA hst2 hU hW⟩⟩ rfl rfl hl.1 rfl (lv_room (Nat.le_of_ble_eq_true rfl)) dL_law_150 ⟨(show cells + 1 + 0 + 0 ≤ 602736 by omega), (show slots + 6 + 0 + 0 ≤ 7287896 by omega)⟩) hJ hS hA (fun H locs hJ hS => ?_)
    refine lv_iload hx hb dL_law_153 (lv_at hl 1 rfl) ?_
    refine lv_icmp_eq (tgt := 160) hx hb dL_law_155 (by decide) (fun _ => ?_) (fun hc9 => absurd (h0.trans hr0.symm) hc9)
    refine lv_iload hx hb dL_law_160 (lv_at hl 1 rfl) ?_
    refine lv_if_ne (tgt := 177) hx hb dL_law_162 (by decide) (fun _ => ?_) (fun hc9 => absurd (hr0.symm.trans hc9) hne)
    refine lv_goto (tgt := 1235) hx hb dL_law_177 (by decide) ?_
    refine W.widen (k := cells + 16) (n := slots + 64) (show cells + 1 + 0 + 0 ≤ cells + 16 by omega) (show slots + 6 + 0 + 0 ≤ slots + 64 by omega) ?_
    exact K σ2 σ1' f1 H locs ls hrel1 (xw_swap hJ) hS (lv_sub hl [2, 3, 4, 5, 6] rfl)
set_option maxHeartbeats 4000000 in
set_option maxRecDepth 100000 in
theorem xk_inverse {p : Program} {l : Launch} {e : Env} {s : State} {m : MethodId} {below : List Frame} {meth : Method} {c : Code} {H : Heap} {locs : List Loc} {cells slots : Nat} {Q : State → Prop} {ls : Array Slot} {b Ln : Nat} {xs : Nat → Int32} {D : va_G} {cy : Nat → ClassId} {cL : ClassId} {L L2 : Nat → Nat → Nat} {q i : Nat} {f : Nat → Int64} {σ σ' : zMem} (C : xlC p l s m c b Ln xs D cy cL L L2) (hi : i + 6 ≤ Ln) (hrel : zRel σ σ') (hJ : xJ D (xA s) (xlW cy cL L (σ, []) q f ++ zws zEM cy L2 (σ', [])) H) (hS : va_S (xA s) s.heap H locs) (hl : lv_has ls 9 [(4, .int (nI i)), (3, .ref q), (2, .ref (L2 0 0)), (1, .ref (L 0 0)), (0, .ref b)]) (hc : cells + 16 ≤ 602736) (hs : slots + 64 ≤ 7287896) (K : ∀ (σ σ' : zMem) (f : Nat → Int64) (H : Heap) (locs : List Loc) (ls : Array Slot), zRel σ σ' → xJ D (xA s) (xlW cy cL L (σ, []) q f ++ zws zEM cy L2 (σ', [])) H → va_S (xA s) s.heap H locs → lv_has ls 9 [(4, .int (nI i)), (3, .ref q), (2, .ref (L2 0 0)), (1, .ref (L 0 0)), (0, .ref b)] → W p l e room_1 s m #[Value.ref b] below meth c H locs (cells + 16) (slots + 64) Q (F0 m 1235 ls [])) : W p l e room_1 s m #[Value.ref b] below meth c H locs (cells) (slots) Q (F0 m 180 ls []) := by
  obtain ⟨hx, hb, hml, hown, hts, hX, hbl, hK, hst, hst2, hnc, hfl, hLn⟩ := C
  have hA : ∀ q : Nat, s.heap.size ≤ q → xA s q := fun _ h => h
  have hK3 : va_K D vwCl (ztys cy) s := hK.sub [0, 1, 2] rfl
  refine lv_aload_n hx hb dL_law_180 rfl (lv_at hl 3 rfl) ?_
  refine xk_arg 1 hx hb hX hbl hS (lv_at hl 4 rfl) (lv_at hl 0 rfl) (by omega) hLn (by decide) dL_law_181 dL_law_182 dL_law_184 dL_law_185 dL_law_186 ?_
  refine lv_aload_n hx hb dL_law_187 rfl (lv_at hl 1 rfl) ?_
  have aG : zAg [] [] (zcd 1 0 0) (m_X8_inverse [zO 0 0, zI (xs (i + 1))] (σ, [])) (m_X9_inverse [zO 0 0, zI (xs (i + 1))] (σ', [])) := ag_inverse hrel
  rcases aG with ⟨v, σ1, σ1', eC, eR, h0, hrel1⟩ | ⟨x, w, σ1, σ1', eC, eR, h0, hne, hx2, hrel1⟩
  · refine xk_wrap (As := [.ref (L 0 0), .int (xs (i + 1)), .ref q]) (xl_inverse l (xs (i + 1)) D cy cL L σ q f H.size hfl (Or.inl ⟨v, σ1, eC⟩)) ⟨hx, hb, hml, hown, hts⟩ (vx_cwSW 3 hts gL_law_L_inverse rfl rfl rfl (by decide +kernel) ⟨Nat.le_of_ble_eq_true rfl, Nat.le_of_ble_eq_true rfl⟩) hK hst hnc hJ hS hA rfl hl.1 dL_law_188 ⟨(show cells + 1 ≤ 602736 by omega), (show slots + 6 ≤ 7287896 by omega)⟩ (fun r σ2 f1 H locs hpost hJ hS => ?_)
    obtain ⟨hr0, hσ, hf1⟩ : r = 0 ∧ σ2 = σ1 ∧ f1 0 = v.toInt64 := by
      rcases hpost with ⟨v9, e9, hr9, hf9⟩ | ⟨x9, e9, -⟩
      · have e9 := eC.symm.trans e9; cases e9; exact ⟨hr9, rfl, hf9⟩
      · have e9 := eC.symm.trans e9; cases e9
    subst hσ
    refine lv_istore (lv' := [(5, .int r), (4, .int (nI i)), (3, .ref q), (2, .ref (L2 0 0)), (1, .ref (L 0 0)), (0, .ref b)]) hx hb dL_law_191 hl (by decide) rfl (fun ls hl => ?_)
    refine lv_aload_n hx hb dL_law_193 rfl (lv_at hl 3 rfl) ?_
    refine xk_arg 1 hx hb hX hbl hS (lv_at hl 5 rfl) (lv_at hl 1 rfl) (by omega) hLn (by decide) dL_law_194 dL_law_195 dL_law_197 dL_law_198 dL_law_199 ?_
    have hJ := xw_swap hJ
    refine xw_after (E := zEM) (v := some (zI v)) (s' := (σ1', [])) (as := (σ', [])) (Y := xlW cy cL L (σ2, []) q f1) (va_runV (As := [.int (xs (i + 1))]) (rest := []) ⟨hx, hb, hml, hown, hts⟩ (zM_X9_inverse.2 l D cy L2 [zO 0 0, zI (xs (i + 1))] (σ', []) (σ1', []) (some (zI v)) H.size hfl eR) (cwV 1 hts gL_law_X9_inverse rfl rfl rfl (by decide +kernel) ⟨Nat.le_of_ble_eq_true rfl, Nat.le_of_ble_eq_true rfl⟩) ⟨zPre.blind, xw_recv hK hJ (ci := 9) rfl rfl (by decide) rfl, fun U hU hW => ⟨rfl, xw_pre hK3 hJ hS hA hst2 hU hW⟩⟩ rfl rfl hl.1 rfl (lv_room (Nat.le_of_ble_eq_true rfl)) dL_law_200 ⟨(show cells + 1 + 0 ≤ 602736 by omega), (show slots + 6 + 0 ≤ 7287896 by omega)⟩) hJ hS hA (fun H locs hJ hS => ?_)
    refine lv_istore (lv' := [(6, .int v), (5, .int r), (4, .int (nI i)), (3, .ref q), (2, .ref (L2 0 0)), (1, .ref (L 0 0)), (0, .ref b)]) hx hb dL_law_203 hl (by decide) rfl (fun ls hl => ?_)
    refine lv_aload_n hx hb dL_law_205 rfl (lv_at hl 4 rfl) ?_
    refine xw_after (E := zEM) (v := some (zI (σ1' 0 0 0))) (s' := (σ1', [])) (as := (σ1', [])) (Y := xlW cy cL L (σ2, []) q f1) (va_runV (As := []) (rest := []) ⟨hx, hb, hml, hown, hts⟩ (zM_X9_thrown.2 l D cy L2 [zO 0 0] (σ1', []) (σ1', []) (some (zI (σ1' 0 0 0))) H.size hfl rp_thrown) (cwV 0 hts gL_law_X9_thrown rfl rfl rfl (by decide +kernel) ⟨Nat.le_of_ble_eq_true rfl, Nat.le_of_ble_eq_true rfl⟩) ⟨zPre.blind, xw_recv hK hJ (ci := 9) rfl rfl (by decide) rfl, fun U hU hW => ⟨rfl, xw_pre hK3 hJ hS hA hst2 hU hW⟩⟩ rfl rfl hl.1 rfl (lv_room (Nat.le_of_ble_eq_true rfl)) dL_law_206 ⟨(show cells + 1 + 0 + 0 ≤ 602736 by omega), (show slots + 6 + 0 + 0 ≤ 7287896 by omega)⟩) hJ hS hA (fun H locs hJ hS => ?_)
    refine lv_iload hx hb dL_law_209 (lv_at hl 1 rfl) ?_
    refine lv_icmp_eq (tgt := 216) hx hb dL_law_211 (by decide) (fun _ => ?_) (fun hc9 => absurd (h0.trans hr0.symm) hc9)
    refine lv_iload hx hb dL_law_216 (lv_at hl 1 rfl) ?_
    refine lv_if_ne (tgt := 233) hx hb dL_law_218 (by decide) (fun hc9 => absurd hr0 hc9) (fun _ => ?_)
    refine lv_aload_n hx hb dL_law_221 rfl (lv_at hl 3 rfl) ?_
    refine lv_iconst (v := 0) hx hb dL_law_222 (by decide) ?_
    refine va_lald hx hb hK (xk_q hJ) 0 3 rfl rfl (i := 0) (vp_in_nI (show 0 < 1 by decide) (by decide)) dL_law_223 ?_
    refine lv_iload hx hb dL_law_224 (lv_at hl 0 rfl) ?_
    refine lv_i2l hx hb dL_law_226 rfl ?_
    refine W.lcmp hx hb dL_law_227 ?_
    refine lv_if_eq (tgt := 233) hx hb dL_law_228 (by decide) (fun _ => ?_) (fun hc9 => absurd ((lg_cmp_eq _ _).mpr hf1) hc9)
    refine lv_goto (tgt := 1235) hx hb dL_law_233 (by decide) ?_
    refine W.widen (k := cells + 16) (n := slots + 64) (show cells + 1 + 0 + 0 ≤ cells + 16 by omega) (show slots + 6 + 0 + 0 ≤ slots + 64 by omega) ?_
    exact K σ2 σ1' f1 H locs ls hrel1 (xw_swap hJ) hS (lv_sub hl [2, 3, 4, 5, 6] rfl)
  · refine xk_wrap (As := [.ref (L 0 0), .int (xs (i + 1)), .ref q]) (xl_inverse l (xs (i + 1)) D cy cL L σ q f H.size hfl (Or.inr ⟨x, σ1, eC, hx2, hne⟩)) ⟨hx, hb, hml, hown, hts⟩ (vx_cwSW 3 hts gL_law_L_inverse rfl rfl rfl (by decide +kernel) ⟨Nat.le_of_ble_eq_true rfl, Nat.le_of_ble_eq_true rfl⟩) hK hst hnc hJ hS hA rfl hl.1 dL_law_188 ⟨(show cells + 1 ≤ 602736 by omega), (show slots + 6 ≤ 7287896 by omega)⟩ (fun r σ2 f1 H locs hpost hJ hS => ?_)
    obtain ⟨hr0, hσ⟩ : r = zcd 1 0 0 x ∧ σ2 = σ1 := by
      rcases hpost with ⟨v9, e9, -⟩ | ⟨x9, e9, hr9⟩
      · have e9 := eC.symm.trans e9; cases e9
      · have e9 := eC.symm.trans e9; cases e9; exact ⟨hr9, rfl⟩
    subst hσ
    refine lv_istore (lv' := [(5, .int r), (4, .int (nI i)), (3, .ref q), (2, .ref (L2 0 0)), (1, .ref (L 0 0)), (0, .ref b)]) hx hb dL_law_191 hl (by decide) rfl (fun ls hl => ?_)
    refine lv_aload_n hx hb dL_law_193 rfl (lv_at hl 3 rfl) ?_
    refine xk_arg 1 hx hb hX hbl hS (lv_at hl 5 rfl) (lv_at hl 1 rfl) (by omega) hLn (by decide) dL_law_194 dL_law_195 dL_law_197 dL_law_198 dL_law_199 ?_
    have hJ := xw_swap hJ
    refine xw_after (E := zEM) (v := some (zI w)) (s' := (σ1', [])) (as := (σ', [])) (Y := xlW cy cL L (σ2, []) q f1) (va_runV (As := [.int (xs (i + 1))]) (rest := []) ⟨hx, hb, hml, hown, hts⟩ (zM_X9_inverse.2 l D cy L2 [zO 0 0, zI (xs (i + 1))] (σ', []) (σ1', []) (some (zI w)) H.size hfl eR) (cwV 1 hts gL_law_X9_inverse rfl rfl rfl (by decide +kernel) ⟨Nat.le_of_ble_eq_true rfl, Nat.le_of_ble_eq_true rfl⟩) ⟨zPre.blind, xw_recv hK hJ (ci := 9) rfl rfl (by decide) rfl, fun U hU hW => ⟨rfl, xw_pre hK3 hJ hS hA hst2 hU hW⟩⟩ rfl rfl hl.1 rfl (lv_room (Nat.le_of_ble_eq_true rfl)) dL_law_200 ⟨(show cells + 1 + 0 ≤ 602736 by omega), (show slots + 6 + 0 ≤ 7287896 by omega)⟩) hJ hS hA (fun H locs hJ hS => ?_)
    refine lv_istore (lv' := [(6, .int w), (5, .int r), (4, .int (nI i)), (3, .ref q), (2, .ref (L2 0 0)), (1, .ref (L 0 0)), (0, .ref b)]) hx hb dL_law_203 hl (by decide) rfl (fun ls hl => ?_)
    refine lv_aload_n hx hb dL_law_205 rfl (lv_at hl 4 rfl) ?_
    refine xw_after (E := zEM) (v := some (zI (σ1' 0 0 0))) (s' := (σ1', [])) (as := (σ1', [])) (Y := xlW cy cL L (σ2, []) q f1) (va_runV (As := []) (rest := []) ⟨hx, hb, hml, hown, hts⟩ (zM_X9_thrown.2 l D cy L2 [zO 0 0] (σ1', []) (σ1', []) (some (zI (σ1' 0 0 0))) H.size hfl rp_thrown) (cwV 0 hts gL_law_X9_thrown rfl rfl rfl (by decide +kernel) ⟨Nat.le_of_ble_eq_true rfl, Nat.le_of_ble_eq_true rfl⟩) ⟨zPre.blind, xw_recv hK hJ (ci := 9) rfl rfl (by decide) rfl, fun U hU hW => ⟨rfl, xw_pre hK3 hJ hS hA hst2 hU hW⟩⟩ rfl rfl hl.1 rfl (lv_room (Nat.le_of_ble_eq_true rfl)) dL_law_206 ⟨(show cells + 1 + 0 + 0 ≤ 602736 by omega), (show slots + 6 + 0 + 0 ≤ 7287896 by omega)⟩) hJ hS hA (fun H locs hJ hS => ?_)
    refine lv_iload hx hb dL_law_209 (lv_at hl 1 rfl) ?_
    refine lv_icmp_eq (tgt := 216) hx hb dL_law_211 (by decide) (fun _ => ?_) (fun hc9 => absurd (h0.trans hr0.symm) hc9)
    refine lv_iload hx hb dL_law_216 (lv_at hl 1 rfl) ?_
    refine lv_if_ne (tgt := 233) hx hb dL_law_218 (by decide) (fun _ => ?_) (fun hc9 => absurd (hr0.symm.trans hc9) hne)
    refine lv_goto (tgt := 1235) hx hb dL_law_233 (by decide) ?_
    refine W.widen (k := cells + 16) (n := slots + 64) (show cells + 1 + 0 + 0 ≤ cells + 16 by omega) (show slots + 6 + 0 + 0 ≤ slots + 64 by omega) ?_
    exact K σ2 σ1' f1 H locs ls hrel1 (xw_swap hJ) hS (lv_sub hl [2, 3, 4, 5, 6] rfl)
set_option maxHeartbeats 4000000 in
set_option maxRecDepth 100000 in
theorem xk_root {p : Program} {l : Launch} {e : Env} {s : State} {m : MethodId} {below : List Frame} {meth : Method} {c : Code} {H : Heap} {locs : List Loc} {cells slots : Nat} {Q : State → Prop} {ls : Array Slot} {b Ln : Nat} {xs : Nat → Int32} {D : va_G} {cy : Nat → ClassId} {cL : ClassId} {L L2 : Nat → Nat → Nat} {q i : Nat} {f : Nat → Int64} {σ σ' : zMem} (C : xlC p l s m c b Ln xs D cy cL L L2) (hi : i + 6 ≤ Ln) (hrel : zRel σ σ') (hJ : xJ D (xA s) (xlW cy cL L (σ, []) q f ++ zws zEM cy L2 (σ', [])) H) (hS : va_S (xA s) s.heap H locs) (hl : lv_has ls 9 [(4, .int (nI i)), (3, .ref q), (2, .ref (L2 0 0)), (1, .ref (L 0 0)), (0, .ref b)]) (hc : cells + 16 ≤ 602736) (hs : slots + 64 ≤ 7287896) (K : ∀ (σ σ' : zMem) (f : Nat → Int64) (H : Heap) (locs : List Loc) (ls : Array Slot), zRel σ σ' → xJ D (xA s) (xlW cy cL L (σ, []) q f ++ zws zEM cy L2 (σ', [])) H → va_S (xA s) s.heap H locs → lv_has ls 9 [(4, .int (nI i)), (3, .ref q), (2, .ref (L2 0 0)), (1, .ref (L 0 0)), (0, .ref b)] → W p l e room_1 s m #[Value.ref b] below meth c H locs (cells + 16) (slots + 64) Q (F0 m 1235 ls [])) : W p l e room_1 s m #[Value.ref b] below meth c H locs (cells) (slots) Q (F0 m 236 ls []) := by
  obtain ⟨hx, hb, hml, hown, hts, hX, hbl, hK, hst, hst2, hnc, hfl, hLn⟩ := C
  have hA : ∀ q : Nat, s.heap.size ≤ q → xA s q := fun _ h => h
  have hK3 : va_K D vwCl (ztys cy) s := hK.sub [0, 1, 2] rfl
  refine lv_aload_n hx hb dL_law_236 rfl (lv_at hl 3 rfl) ?_
  refine xk_arg 1 hx hb hX hbl hS (lv_at hl 4 rfl) (lv_at hl 0 rfl) (by omega) hLn (by decide) dL_law_237 dL_law_238 dL_law_240 dL_law_241 dL_law_242 ?_
  refine lv_aload_n hx hb dL_law_243 rfl (lv_at hl 1 rfl) ?_
  have aG : zAg [] [] (zcd 1 0 0) (m_X8_root [zO 0 0, zI (xs (i + 1))] (σ, [])) (m_X9_root [zO 0 0, zI (xs (i + 1))] (σ', [])) := ag_root hrel
  rcases aG with ⟨v, σ1, σ1', eC, eR, h0, hrel1⟩ | ⟨x, w, σ1, σ1', eC, eR, h0, hne, hx2, hrel1⟩
  · refine xk_wrap (As := [.ref (L 0 0), .int (xs (i + 1)), .ref q]) (xl_root l (xs (i + 1)) D cy cL L σ q f H.size hfl (Or.inl ⟨v, σ1, eC⟩)) ⟨hx, hb, hml, hown, hts⟩ (vx_cwSW 3 hts gL_law_L_root rfl rfl rfl (by decide +kernel) ⟨Nat.le_of_ble_eq_true rfl, Nat.le_of_ble_eq_true rfl⟩) hK hst hnc hJ hS hA rfl hl.1 dL_law_244 ⟨(show cells + 1 ≤ 602736 by omega), (show slots + 6 ≤ 7287896 by omega)⟩ (fun r σ2 f1 H locs hpost hJ hS => ?_)
    obtain ⟨hr0, hσ, hf1⟩ : r = 0 ∧ σ2 = σ1 ∧ f1 0 = v.toInt64 := by
      rcases hpost with ⟨v9, e9, hr9, hf9⟩ | ⟨x9, e9, -⟩
      · have e9 := eC.symm.trans e9; cases e9; exact ⟨hr9, rfl, hf9⟩
      · have e9 := eC.symm.trans e9; cases e9
    subst hσ
    refine lv_istore (lv' := [(5, .int r), (4, .int (nI i)), (3, .ref q), (2, .ref (L2 0 0)), (1, .ref (L 0 0)), (0, .ref b)]) hx hb dL_law_247 hl (by decide) rfl (fun ls hl => ?_)
    refine lv_aload_n hx hb dL_law_249 rfl (lv_at hl 3 rfl) ?_
    refine xk_arg 1 hx hb hX hbl hS (lv_at hl 5 rfl) (lv_at hl 1 rfl) (by omega) hLn (by decide) dL_law_250 dL_law_251 dL_law_253 dL_law_254 dL_law_255 ?_
    have hJ := xw_swap hJ
    refine xw_after (E := zEM) (v := some (zI v)) (s' := (σ1', [])) (as := (σ', [])) (Y := xlW cy cL L (σ2, []) q f1) (va_runV (As := [.int (xs (i + 1))]) (rest := []) ⟨hx, hb, hml, hown, hts⟩ (zM_X9_root.2 l D cy L2 [zO 0 0, zI (xs (i + 1))] (σ', []) (σ1', []) (some (zI v)) H.size hfl eR) (cwV 1 hts gL_law_X9_root rfl rfl rfl (by decide +kernel) ⟨Nat.le_of_ble_eq_true rfl, Nat.le_of_ble_eq_true rfl⟩) ⟨zPre.blind, xw_recv hK hJ (ci := 9) rfl rfl (by decide) rfl, fun U hU hW => ⟨rfl, xw_pre hK3 hJ hS hA hst2 hU hW⟩⟩ rfl rfl hl.1 rfl (lv_room (Nat.le_of_ble_eq_true rfl)) dL_law_256 ⟨(show cells + 1 + 0 ≤ 602736 by omega), (show slots + 6 + 0 ≤ 7287896 by omega)⟩) hJ hS hA (fun H locs hJ hS => ?_)
    refine lv_istore (lv' := [(6, .int v), (5, .int r), (4, .int (nI i)), (3, .ref q), (2, .ref (L2 0 0)), (1, .ref (L 0 0)), (0, .ref b)]) hx hb dL_law_259 hl (by decide) rfl (fun ls hl => ?_)
    refine lv_aload_n hx hb dL_law_261 rfl (lv_at hl 4 rfl) ?_
    refine xw_after (E := zEM) (v := some (zI (σ1' 0 0 0))) (s' := (σ1', [])) (as := (σ1', [])) (Y := xlW cy cL L (σ2, []) q f1) (va_runV (As := []) (rest := []) ⟨hx, hb, hml, hown, hts⟩ (zM_X9_thrown.2 l D cy L2 [zO 0 0] (σ1', []) (σ1', []) (some (zI (σ1' 0 0 0))) H.size hfl rp_thrown) (cwV 0 hts gL_law_X9_thrown rfl rfl rfl (by decide +kernel) ⟨Nat.le_of_ble_eq_true rfl, Nat.le_of_ble_eq_true rfl⟩) ⟨zPre.blind, xw_recv hK hJ (ci := 9) rfl rfl (by decide) rfl, fun U hU hW => ⟨rfl, xw_pre hK3 hJ hS hA hst2 hU hW⟩⟩ rfl rfl hl.1 rfl (lv_room (Nat.le_of_ble_eq_true rfl)) dL_law_262 ⟨(show cells + 1 + 0 + 0 ≤ 602736 by omega), (show slots + 6 + 0 + 0 ≤ 7287896 by omega)⟩) hJ hS hA (fun H locs hJ hS => ?_)
    refine lv_iload hx hb dL_law_265 (lv_at hl 1 rfl) ?_
    refine lv_icmp_eq (tgt := 272) hx hb dL_law_267 (by decide) (fun _ => ?_) (fun hc9 => absurd (h0.trans hr0.symm) hc9)
    refine lv_iload hx hb dL_law_272 (lv_at hl 1 rfl) ?_
    refine lv_if_ne (tgt := 289) hx hb dL_law_274 (by decide) (fun hc9 => absurd hr0 hc9) (fun _ => ?_)
    refine lv_aload_n hx hb dL_law_277 rfl (lv_at hl 3 rfl) ?_
    refine lv_iconst (v := 0) hx hb dL_law_278 (by decide) ?_
    refine va_lald hx hb hK (xk_q hJ) 0 3 rfl rfl (i := 0) (vp_in_nI (show 0 < 1 by decide) (by decide)) dL_law_279 ?_
    refine lv_iload hx hb dL_law_280 (lv_at hl 0 rfl) ?_
    refine lv_i2l hx hb dL_law_282 rfl ?_
    refine W.lcmp hx hb dL_law_283 ?_
    refine lv_if_eq (tgt := 289) hx hb dL_law_284 (by decide) (fun _ => ?_) (fun hc9 => absurd ((lg_cmp_eq _ _).mpr hf1) hc9)
    refine lv_goto (tgt := 1235) hx hb dL_law_289 (by decide) ?_
    refine W.widen (k := cells + 16) (n := slots + 64) (show cells + 1 + 0 + 0 ≤ cells + 16 by omega) (show slots + 6 + 0 + 0 ≤ slots + 64 by omega) ?_
    exact K σ2 σ1' f1 H locs ls hrel1 (xw_swap hJ) hS (lv_sub hl [2, 3, 4, 5, 6] rfl)
  · refine xk_wrap (As := [.ref (L 0 0), .int (xs (i + 1)), .ref q]) (xl_root l (xs (i + 1)) D cy cL L σ q f H.size hfl (Or.inr ⟨x, σ1, eC, hx2, hne⟩)) ⟨hx, hb, hml, hown, hts⟩ (vx_cwSW 3 hts gL_law_L_root rfl rfl rfl (by decide +kernel) ⟨Nat.le_of_ble_eq_true rfl, Nat.le_of_ble_eq_true rfl⟩) hK hst hnc hJ hS hA rfl hl.1 dL_law_244 ⟨(show cells + 1 ≤ 602736 by omega), (show slots + 6 ≤ 7287896 by omega)⟩ (fun r σ2 f1 H locs hpost hJ hS => ?_)
    obtain ⟨hr0, hσ⟩ : r = zcd 1 0 0 x ∧ σ2 = σ1 := by
      rcases hpost with ⟨v9, e9, -⟩ | ⟨x9, e9, hr9⟩
      · have e9 := eC.symm.trans e9; cases e9
      · have e9 := eC.symm.trans e9; cases e9; exact ⟨hr9, rfl⟩
    subst hσ
    refine lv_istore (lv' := [(5, .int r), (4, .int (nI i)), (3, .ref q), (2, .ref (L2 0 0)), (1, .ref (L 0 0)), (0, .ref b)]) hx hb dL_law_247 hl (by decide) rfl (fun ls hl => ?_)
    refine lv_aload_n hx hb dL_law_249 rfl (lv_at hl 3 rfl) ?_
    refine xk_arg 1 hx hb hX hbl hS (lv_at hl 5 rfl) (lv_at hl 1 rfl) (by omega) hLn (by decide) dL_law_250 dL_law_251 dL_law_253 dL_law_254 dL_law_255 ?_
    have hJ := xw_swap hJ
    refine xw_after (E := zEM) (v := some (zI w)) (s' := (σ1', [])) (as := (σ', [])) (Y := xlW cy cL L (σ2, []) q f1) (va_runV (As := [.int (xs (i + 1))]) (rest := []) ⟨hx, hb, hml, hown, hts⟩ (zM_X9_root.2 l D cy L2 [zO 0 0, zI (xs (i + 1))] (σ', []) (σ1', []) (some (zI w)) H.size hfl eR) (cwV 1 hts gL_law_X9_root rfl rfl rfl (by decide +kernel) ⟨Nat.le_of_ble_eq_true rfl, Nat.le_of_ble_eq_true rfl⟩) ⟨zPre.blind, xw_recv hK hJ (ci := 9) rfl rfl (by decide) rfl, fun U hU hW => ⟨rfl, xw_pre hK3 hJ hS hA hst2 hU hW⟩⟩ rfl rfl hl.1 rfl (lv_room (Nat.le_of_ble_eq_true rfl)) dL_law_256 ⟨(show cells + 1 + 0 ≤ 602736 by omega), (show slots + 6 + 0 ≤ 7287896 by omega)⟩) hJ hS hA (fun H locs hJ hS => ?_)
    refine lv_istore (lv' := [(6, .int w), (5, .int r), (4, .int (nI i)), (3, .ref q), (2, .ref (L2 0 0)), (1, .ref (L 0 0)), (0, .ref b)]) hx hb dL_law_259 hl (by decide) rfl (fun ls hl => ?_)
    refine lv_aload_n hx hb dL_law_261 rfl (lv_at hl 4 rfl) ?_
    refine xw_after (E := zEM) (v := some (zI (σ1' 0 0 0))) (s' := (σ1', [])) (as := (σ1', [])) (Y := xlW cy cL L (σ2, []) q f1) (va_runV (As := []) (rest := []) ⟨hx, hb, hml, hown, hts⟩ (zM_X9_thrown.2 l D cy L2 [zO 0 0] (σ1', []) (σ1', []) (some (zI (σ1' 0 0 0))) H.size hfl rp_thrown) (cwV 0 hts gL_law_X9_thrown rfl rfl rfl (by decide +kernel) ⟨Nat.le_of_ble_eq_true rfl, Nat.le_of_ble_eq_true rfl⟩) ⟨zPre.blind, xw_recv hK hJ (ci := 9) rfl rfl (by decide) rfl, fun U hU hW => ⟨rfl, xw_pre hK3 hJ hS hA hst2 hU hW⟩⟩ rfl rfl hl.1 rfl (lv_room (Nat.le_of_ble_eq_true rfl)) dL_law_262 ⟨(show cells + 1 + 0 + 0 ≤ 602736 by omega), (show slots + 6 + 0 + 0 ≤ 7287896 by omega)⟩) hJ hS hA (fun H locs hJ hS => ?_)
    refine lv_iload hx hb dL_law_265 (lv_at hl 1 rfl) ?_
    refine lv_icmp_eq (tgt := 272) hx hb dL_law_267 (by decide) (fun _ => ?_) (fun hc9 => absurd (h0.trans hr0.symm) hc9)
    refine lv_iload hx hb dL_law_272 (lv_at hl 1 rfl) ?_
    refine lv_if_ne (tgt := 289) hx hb dL_law_274 (by decide) (fun _ => ?_) (fun hc9 => absurd (hr0.symm.trans hc9) hne)
    refine lv_goto (tgt := 1235) hx hb dL_law_289 (by decide) ?_
    refine W.widen (k := cells + 16) (n := slots + 64) (show cells + 1 + 0 + 0 ≤ cells + 16 by omega) (show slots + 6 + 0 + 0 ≤ slots + 64 by omega) ?_
    exact K σ2 σ1' f1 H locs ls hrel1 (xw_swap hJ) hS (lv_sub hl [2, 3, 4, 5, 6] rfl)
set_option maxHeartbeats 4000000 in
set_option maxRecDepth 100000 in
theorem xk_count {p : Program} {l : Launch} {e : Env} {s : State} {m : MethodId} {below : List Frame} {meth : Method} {c : Code} {H : Heap} {locs : List Loc} {cells slots : Nat} {Q : State → Prop} {ls : Array Slot} {b Ln : Nat} {xs : Nat → Int32} {D : va_G} {cy : Nat → ClassId} {cL : ClassId} {L L2 : Nat → Nat → Nat} {q i : Nat} {f : Nat → Int64} {σ σ' : zMem} (C : xlC p l s m c b Ln xs D cy cL L L2) (hi : i + 6 ≤ Ln) (hrel : zRel σ σ') (hJ : xJ D (xA s) (xlW cy cL L (σ, []) q f ++ zws zEM cy L2 (σ', [])) H) (hS : va_S (xA s) s.heap H locs) (hl : lv_has ls 9 [(4, .int (nI i)), (3, .ref q), (2, .ref (L2 0 0)), (1, .ref (L 0 0)), (0, .ref b)]) (hc : cells + 16 ≤ 602736) (hs : slots + 64 ≤ 7287896) (K : ∀ (σ σ' : zMem) (f : Nat → Int64) (H : Heap) (locs : List Loc) (ls : Array Slot), zRel σ σ' → xJ D (xA s) (xlW cy cL L (σ, []) q f ++ zws zEM cy L2 (σ', [])) H → va_S (xA s) s.heap H locs → lv_has ls 9 [(4, .int (nI i)), (3, .ref q), (2, .ref (L2 0 0)), (1, .ref (L 0 0)), (0, .ref b)] → W p l e room_1 s m #[Value.ref b] below meth c H locs (cells + 16) (slots + 64) Q (F0 m 1235 ls [])) : W p l e room_1 s m #[Value.ref b] below meth c H locs (cells) (slots) Q (F0 m 292 ls []) := by
  obtain ⟨hx, hb, hml, hown, hts, hX, hbl, hK, hst, hst2, hnc, hfl, hLn⟩ := C
  have hA : ∀ q : Nat, s.heap.size ≤ q → xA s q := fun _ h => h
  have hK3 : va_K D vwCl (ztys cy) s := hK.sub [0, 1, 2] rfl
  refine lv_aload_n hx hb dL_law_292 rfl (lv_at hl 3 rfl) ?_
  refine xk_arg 1 hx hb hX hbl hS (lv_at hl 4 rfl) (lv_at hl 0 rfl) (by omega) hLn (by decide) dL_law_293 dL_law_294 dL_law_296 dL_law_297 dL_law_298 ?_
  refine lv_aload_n hx hb dL_law_299 rfl (lv_at hl 1 rfl) ?_
  have aG : zAg [] [] (zcd 0 1 0) (m_X8_count [zO 0 0, zI (xs (i + 1))] (σ, [])) (m_X9_count [zO 0 0, zI (xs (i + 1))] (σ', [])) := ag_count hrel
  rcases aG with ⟨v, σ1, σ1', eC, eR, h0, hrel1⟩ | ⟨x, w, σ1, σ1', eC, eR, h0, hne, hx2, hrel1⟩
  · refine xk_wrap (As := [.ref (L 0 0), .int (xs (i + 1)), .ref q]) (xl_count l (xs (i + 1)) D cy cL L σ q f H.size hfl (Or.inl ⟨v, σ1, eC⟩)) ⟨hx, hb, hml, hown, hts⟩ (vx_cwSW 3 hts gL_law_L_count rfl rfl rfl (by decide +kernel) ⟨Nat.le_of_ble_eq_true rfl, Nat.le_of_ble_eq_true rfl⟩) hK hst hnc hJ hS hA rfl hl.1 dL_law_300 ⟨(show cells + 1 ≤ 602736 by omega), (show slots + 6 ≤ 7287896 by omega)⟩ (fun r σ2 f1 H locs hpost hJ hS => ?_)
    obtain ⟨hr0, hσ, hf1⟩ : r = 0 ∧ σ2 = σ1 ∧ f1 0 = v.toInt64 := by
      rcases hpost with ⟨v9, e9, hr9, hf9⟩ | ⟨x9, e9, -⟩
      · have e9 := eC.symm.trans e9; cases e9; exact ⟨hr9, rfl, hf9⟩
      · have e9 := eC.symm.trans e9; cases e9
    subst hσ
    refine lv_istore (lv' := [(5, .int r), (4, .int (nI i)), (3, .ref q), (2, .ref (L2 0 0)), (1, .ref (L 0 0)), (0, .ref b)]) hx hb dL_law_303 hl (by decide) rfl (fun ls hl => ?_)
    refine lv_aload_n hx hb dL_law_305 rfl (lv_at hl 3 rfl) ?_
    refine xk_arg 1 hx hb hX hbl hS (lv_at hl 5 rfl) (lv_at hl 1 rfl) (by omega) hLn (by decide) dL_law_306 dL_law_307 dL_law_309 dL_law_310 dL_law_311 ?_
    have hJ := xw_swap hJ
    refine xw_after (E := zEM) (v := some (zI v)) (s' := (σ1', [])) (as := (σ', [])) (Y := xlW cy cL L (σ2, []) q f1) (va_runV (As := [.int (xs (i + 1))]) (rest := []) ⟨hx, hb, hml, hown, hts⟩ (zM_X9_count.2 l D cy L2 [zO 0 0, zI (xs (i + 1))] (σ', []) (σ1', []) (some (zI v)) H.size hfl eR) (cwV 1 hts gL_law_X9_count rfl rfl rfl (by decide +kernel) ⟨Nat.le_of_ble_eq_true rfl, Nat.le_of_ble_eq_true rfl⟩) ⟨zPre.blind, xw_recv hK hJ (ci := 9) rfl rfl (by decide) rfl, fun U hU hW => ⟨rfl, xw_pre hK3 hJ hS hA hst2 hU hW⟩⟩ rfl rfl hl.1 rfl (lv_room (Nat.le_of_ble_eq_true rfl)) dL_law_312 ⟨(show cells + 1 + 0 ≤ 602736 by omega), (show slots + 6 + 0 ≤ 7287896 by omega)⟩) hJ hS hA (fun H locs hJ hS => ?_)
    refine lv_istore (lv' := [(6, .int v), (5, .int r), (4, .int (nI i)), (3, .ref q), (2, .ref (L2 0 0)), (1, .ref (L 0 0)), (0, .ref b)]) hx hb dL_law_315 hl (by decide) rfl (fun ls hl => ?_)
    refine lv_aload_n hx hb dL_law_317 rfl (lv_at hl 4 rfl) ?_
    refine xw_after (E := zEM) (v := some (zI (σ1' 0 0 0))) (s' := (σ1', [])) (as := (σ1', [])) (Y := xlW cy cL L (σ2, []) q f1) (va_runV (As := []) (rest := []) ⟨hx, hb, hml, hown, hts⟩ (zM_X9_thrown.2 l D cy L2 [zO 0 0] (σ1', []) (σ1', []) (some (zI (σ1' 0 0 0))) H.size hfl rp_thrown) (cwV 0 hts gL_law_X9_thrown rfl rfl rfl (by decide +kernel) ⟨Nat.le_of_ble_eq_true rfl, Nat.le_of_ble_eq_true rfl⟩) ⟨zPre.blind, xw_recv hK hJ (ci := 9) rfl rfl (by decide) rfl, fun U hU hW => ⟨rfl, xw_pre hK3 hJ hS hA hst2 hU hW⟩⟩ rfl rfl hl.1 rfl (lv_room (Nat.le_of_ble_eq_true rfl)) dL_law_318 ⟨(show cells + 1 + 0 + 0 ≤ 602736 by omega), (show slots + 6 + 0 + 0 ≤ 7287896 by omega)⟩) hJ hS hA (fun H locs hJ hS => ?_)
    refine lv_iload hx hb dL_law_321 (lv_at hl 1 rfl) ?_
    refine lv_icmp_eq (tgt := 328) hx hb dL_law_323 (by decide) (fun _ => ?_) (fun hc9 => absurd (h0.trans hr0.symm) hc9)
    refine lv_iload hx hb dL_law_328 (lv_at hl 1 rfl) ?_
    refine lv_if_ne (tgt := 345) hx hb dL_law_330 (by decide) (fun hc9 => absurd hr0 hc9) (fun _ => ?_)
    refine lv_aload_n hx hb dL_law_333 rfl (lv_at hl 3 rfl) ?_
    refine lv_iconst (v := 0) hx hb dL_law_334 (by decide) ?_
    refine va_lald hx hb hK (xk_q hJ) 0 3 rfl rfl (i := 0) (vp_in_nI (show 0 < 1 by decide) (by decide)) dL_law_335 ?_
    refine lv_iload hx hb dL_law_336 (lv_at hl 0 rfl) ?_
    refine lv_i2l hx hb dL_law_338 rfl ?_
    refine W.lcmp hx hb dL_law_339 ?_
    refine lv_if_eq (tgt := 345) hx hb dL_law_340 (by decide) (fun _ => ?_) (fun hc9 => absurd ((lg_cmp_eq _ _).mpr hf1) hc9)
    refine lv_goto (tgt := 1235) hx hb dL_law_345 (by decide) ?_
    refine W.widen (k := cells + 16) (n := slots + 64) (show cells + 1 + 0 + 0 ≤ cells + 16 by omega) (show slots + 6 + 0 + 0 ≤ slots + 64 by omega) ?_
    exact K σ2 σ1' f1 H locs ls hrel1 (xw_swap hJ) hS (lv_sub hl [2, 3, 4, 5, 6] rfl)
  · refine xk_wrap (As := [.ref (L 0 0), .int (xs (i + 1)), .ref q]) (xl_count l (xs (i + 1)) D cy cL L σ q f H.size hfl (Or.inr ⟨x, σ1, eC, hx2, hne⟩)) ⟨hx, hb, hml, hown, hts⟩ (vx_cwSW 3 hts gL_law_L_count rfl rfl rfl (by decide +kernel) ⟨Nat.le_of_ble_eq_true rfl, Nat.le_of_ble_eq_true rfl⟩) hK hst hnc hJ hS hA rfl hl.1 dL_law_300 ⟨(show cells + 1 ≤ 602736 by omega), (show slots + 6 ≤ 7287896 by omega)⟩ (fun r σ2 f1 H locs hpost hJ hS => ?_)
    obtain ⟨hr0, hσ⟩ : r = zcd 0 1 0 x ∧ σ2 = σ1 := by
      rcases hpost with ⟨v9, e9, -⟩ | ⟨x9, e9, hr9⟩
      · have e9 := eC.symm.trans e9; cases e9
      · have e9 := eC.symm.trans e9; cases e9; exact ⟨hr9, rfl⟩
    subst hσ
    refine lv_istore (lv' := [(5, .int r), (4, .int (nI i)), (3, .ref q), (2, .ref (L2 0 0)), (1, .ref (L 0 0)), (0, .ref b)]) hx hb dL_law_303 hl (by decide) rfl (fun ls hl => ?_)
    refine lv_aload_n hx hb dL_law_305 rfl (lv_at hl 3 rfl) ?_
    refine xk_arg 1 hx hb hX hbl hS (lv_at hl 5 rfl) (lv_at hl 1 rfl) (by omega) hLn (by decide) dL_law_306 dL_law_307 dL_law_309 dL_law_310 dL_law_311 ?_
    have hJ := xw_swap hJ
    refine xw_after (E := zEM) (v := some (zI w)) (s' := (σ1', [])) (as := (σ', [])) (Y := xlW cy cL L (σ2, []) q f1) (va_runV (As := [.int (xs (i + 1))]) (rest := []) ⟨hx, hb, hml, hown, hts⟩ (zM_X9_count.2 l D cy L2 [zO 0 0, zI (xs (i + 1))] (σ', []) (σ1', []) (some (zI w)) H.size hfl eR) (cwV 1 hts gL_law_X9_count rfl rfl rfl (by decide +kernel) ⟨Nat.le_of_ble_eq_true rfl, Nat.le_of_ble_eq_true rfl⟩) ⟨zPre.blind, xw_recv hK hJ (ci := 9) rfl rfl (by decide) rfl, fun U hU hW => ⟨rfl, xw_pre hK3 hJ hS hA hst2 hU hW⟩⟩ rfl rfl hl.1 rfl (lv_room (Nat.le_of_ble_eq_true rfl)) dL_law_312 ⟨(show cells + 1 + 0 ≤ 602736 by omega), (show slots + 6 + 0 ≤ 7287896 by omega)⟩) hJ hS hA (fun H locs hJ hS => ?_)
    refine lv_istore (lv' := [(6, .int w), (5, .int r), (4, .int (nI i)), (3, .ref q), (2, .ref (L2 0 0)), (1, .ref (L 0 0)), (0, .ref b)]) hx hb dL_law_315 hl (by decide) rfl (fun ls hl => ?_)
    refine lv_aload_n hx hb dL_law_317 rfl (lv_at hl 4 rfl) ?_
    refine xw_after (E := zEM) (v := some (zI (σ1' 0 0 0))) (s' := (σ1', [])) (as := (σ1', [])) (Y := xlW cy cL L (σ2, []) q f1) (va_runV (As := []) (rest := []) ⟨hx, hb, hml, hown, hts⟩ (zM_X9_thrown.2 l D cy L2 [zO 0 0] (σ1', []) (σ1', []) (some (zI (σ1' 0 0 0))) H.size hfl rp_thrown) (cwV 0 hts gL_law_X9_thrown rfl rfl rfl (by decide +kernel) ⟨Nat.le_of_ble_eq_true rfl, Nat.le_of_ble_eq_true rfl⟩) ⟨zPre.blind, xw_recv hK hJ (ci := 9) rfl rfl (by decide) rfl, fun U hU hW => ⟨rfl, xw_pre hK3 hJ hS hA hst2 hU hW⟩⟩ rfl rfl hl.1 rfl (lv_room (Nat.le_of_ble_eq_true rfl)) dL_law_318 ⟨(show cells + 1 + 0 + 0 ≤ 602736 by omega), (show slots + 6 + 0 + 0 ≤ 7287896 by omega)⟩) hJ hS hA (fun H locs hJ hS => ?_)
    refine lv_iload hx hb dL_law_321 (lv_at hl 1 rfl) ?_
    refine lv_icmp_eq (tgt := 328) hx hb dL_law_323 (by decide) (fun _ => ?_) (fun hc9 => absurd (h0.trans hr0.symm) hc9)
    refine lv_iload hx hb dL_law_328 (lv_at hl 1 rfl) ?_
    refine lv_if_ne (tgt := 345) hx hb dL_law_330 (by decide) (fun _ => ?_) (fun hc9 => absurd (hr0.symm.trans hc9) hne)
    refine lv_goto (tgt := 1235) hx hb dL_law_345 (by decide) ?_
    refine W.widen (k := cells + 16) (n := slots + 64) (show cells + 1 + 0 + 0 ≤ cells + 16 by omega) (show slots + 6 + 0 + 0 ≤ slots + 64 by omega) ?_
    exact K σ2 σ1' f1 H locs ls hrel1 (xw_swap hJ) hS (lv_sub hl [2, 3, 4, 5, 6] rfl)
set_option maxHeartbeats 4000000 in
set_option maxRecDepth 100000 in
theorem xk_point {p : Program} {l : Launch} {e : Env} {s : State} {m : MethodId} {below : List Frame} {meth : Method} {c : Code} {H : Heap} {locs : List Loc} {cells slots : Nat} {Q : State → Prop} {ls : Array Slot} {b Ln : Nat} {xs : Nat → Int32} {D : va_G} {cy : Nat → ClassId} {cL : ClassId} {L L2 : Nat → Nat → Nat} {q i : Nat} {f : Nat → Int64} {σ σ' : zMem} (C : xlC p l s m c b Ln xs D cy cL L L2) (hi : i + 6 ≤ Ln) (hrel : zRel σ σ') (hJ : xJ D (xA s) (xlW cy cL L (σ, []) q f ++ zws zEM cy L2 (σ', [])) H) (hS : va_S (xA s) s.heap H locs) (hl : lv_has ls 9 [(4, .int (nI i)), (3, .ref q), (2, .ref (L2 0 0)), (1, .ref (L 0 0)), (0, .ref b)]) (hc : cells + 16 ≤ 602736) (hs : slots + 64 ≤ 7287896) (K : ∀ (σ σ' : zMem) (f : Nat → Int64) (H : Heap) (locs : List Loc) (ls : Array Slot), zRel σ σ' → xJ D (xA s) (xlW cy cL L (σ, []) q f ++ zws zEM cy L2 (σ', [])) H → va_S (xA s) s.heap H locs → lv_has ls 9 [(4, .int (nI i)), (3, .ref q), (2, .ref (L2 0 0)), (1, .ref (L 0 0)), (0, .ref b)] → W p l e room_1 s m #[Value.ref b] below meth c H locs (cells + 16) (slots + 64) Q (F0 m 1235 ls [])) : W p l e room_1 s m #[Value.ref b] below meth c H locs (cells) (slots) Q (F0 m 348 ls []) := by
  obtain ⟨hx, hb, hml, hown, hts, hX, hbl, hK, hst, hst2, hnc, hfl, hLn⟩ := C
  have hA : ∀ q : Nat, s.heap.size ≤ q → xA s q := fun _ h => h
  have hK3 : va_K D vwCl (ztys cy) s := hK.sub [0, 1, 2] rfl
  refine lv_aload_n hx hb dL_law_348 rfl (lv_at hl 3 rfl) ?_
  refine xk_arg 1 hx hb hX hbl hS (lv_at hl 4 rfl) (lv_at hl 0 rfl) (by omega) hLn (by decide) dL_law_349 dL_law_350 dL_law_352 dL_law_353 dL_law_354 ?_
  refine xk_arg 2 hx hb hX hbl hS (lv_at hl 4 rfl) (lv_at hl 0 rfl) (by omega) hLn (by decide) dL_law_355 dL_law_356 dL_law_358 dL_law_359 dL_law_360 ?_
  refine xk_arg 3 hx hb hX hbl hS (lv_at hl 4 rfl) (lv_at hl 0 rfl) (by omega) hLn (by decide) dL_law_361 dL_law_362 dL_law_364 dL_law_365 dL_law_366 ?_
  refine lv_aload_n hx hb dL_law_367 rfl (lv_at hl 1 rfl) ?_
  have aG : zAg [] [] (zcd 2 1 3) (m_X8_point [zO 0 0, zI (xs (i + 1)), zI (xs (i + 2)), zI (xs (i + 3))] (σ, [])) (m_X9_point [zO 0 0, zI (xs (i + 1)), zI (xs (i + 2)), zI (xs (i + 3))] (σ', [])) := ag_point hrel
  rcases aG with ⟨v, σ1, σ1', eC, eR, h0, hrel1⟩ | ⟨x, w, σ1, σ1', eC, eR, h0, hne, hx2, hrel1⟩
  · refine xk_wrap (As := [.ref (L 0 0), .int (xs (i + 1)), .int (xs (i + 2)), .int (xs (i + 3)), .ref q]) (xl_point l (xs (i + 1)) (xs (i + 2)) (xs (i + 3)) D cy cL L σ q f H.size hfl (Or.inl ⟨v, σ1, eC⟩)) ⟨hx, hb, hml, hown, hts⟩ (vx_cwSW 5 hts gL_law_L_point rfl rfl rfl (by decide +kernel) ⟨Nat.le_of_ble_eq_true rfl, Nat.le_of_ble_eq_true rfl⟩) hK hst hnc hJ hS hA rfl hl.1 dL_law_368 ⟨(show cells + 4 ≤ 602736 by omega), (show slots + 24 ≤ 7287896 by omega)⟩ (fun r σ2 f1 H locs hpost hJ hS => ?_)
    obtain ⟨hr0, hσ, hf1⟩ : r = 0 ∧ σ2 = σ1 ∧ f1 0 = v.toInt64 := by
      rcases hpost with ⟨v9, e9, hr9, hf9⟩ | ⟨x9, e9, -⟩
      · have e9 := eC.symm.trans e9; cases e9; exact ⟨hr9, rfl, hf9⟩
      · have e9 := eC.symm.trans e9; cases e9
    subst hσ
    refine lv_istore (lv' := [(5, .int r), (4, .int (nI i)), (3, .ref q), (2, .ref (L2 0 0)), (1, .ref (L 0 0)), (0, .ref b)]) hx hb dL_law_371 hl (by decide) rfl (fun ls hl => ?_)
    refine lv_aload_n hx hb dL_law_373 rfl (lv_at hl 3 rfl) ?_
    refine xk_arg 1 hx hb hX hbl hS (lv_at hl 5 rfl) (lv_at hl 1 rfl) (by omega) hLn (by decide) dL_law_374 dL_law_375 dL_law_377 dL_law_378 dL_law_379 ?_
    refine xk_arg 2 hx hb hX hbl hS (lv_at hl 5 rfl) (lv_at hl 1 rfl) (by omega) hLn (by decide) dL_law_380 dL_law_381 dL_law_383 dL_law_384 dL_law_385 ?_
    refine xk_arg 3 hx hb hX hbl hS (lv_at hl 5 rfl) (lv_at hl 1 rfl) (by omega) hLn (by decide) dL_law_386 dL_law_387 dL_law_389 dL_law_390 dL_law_391 ?_
    have hJ := xw_swap hJ
    refine xw_after (E := zEM) (v := some (zI v)) (s' := (σ1', [])) (as := (σ', [])) (Y := xlW cy cL L (σ2, []) q f1) (va_runV (As := [.int (xs (i + 1)), .int (xs (i + 2)), .int (xs (i + 3))]) (rest := []) ⟨hx, hb, hml, hown, hts⟩ (zM_X9_point.2 l D cy L2 [zO 0 0, zI (xs (i + 1)), zI (xs (i + 2)), zI (xs (i + 3))] (σ', []) (σ1', []) (some (zI v)) H.size hfl eR) (cwV 3 hts gL_law_X9_point rfl rfl rfl (by decide +kernel) ⟨Nat.le_of_ble_eq_true rfl, Nat.le_of_ble_eq_true rfl⟩) ⟨zPre.blind, xw_recv hK hJ (ci := 9) rfl rfl (by decide) rfl, fun U hU hW => ⟨rfl, xw_pre hK3 hJ hS hA hst2 hU hW⟩⟩ rfl rfl hl.1 rfl (lv_room (Nat.le_of_ble_eq_true rfl)) dL_law_392 ⟨(show cells + 4 + 1 ≤ 602736 by omega), (show slots + 24 + 11 ≤ 7287896 by omega)⟩) hJ hS hA (fun H locs hJ hS => ?_)
    refine lv_istore (lv' := [(6, .int v), (5, .int r), (4, .int (nI i)), (3, .ref q), (2, .ref (L2 0 0)), (1, .ref (L 0 0)), (0, .ref b)]) hx hb dL_law_395 hl (by decide) rfl (fun ls hl => ?_)
    refine lv_aload_n hx hb dL_law_397 rfl (lv_at hl 4 rfl) ?_
    refine xw_after (E := zEM) (v := some (zI (σ1' 0 0 0))) (s' := (σ1', [])) (as := (σ1', [])) (Y := xlW cy cL L (σ2, []) q f1) (va_runV (As := []) (rest := []) ⟨hx, hb, hml, hown, hts⟩ (zM_X9_thrown.2 l D cy L2 [zO 0 0] (σ1', []) (σ1', []) (some (zI (σ1' 0 0 0))) H.size hfl rp_thrown) (cwV 0 hts gL_law_X9_thrown rfl rfl rfl (by decide +kernel) ⟨Nat.le_of_ble_eq_true rfl, Nat.le_of_ble_eq_true rfl⟩) ⟨zPre.blind, xw_recv hK hJ (ci := 9) rfl rfl (by decide) rfl, fun U hU hW => ⟨rfl, xw_pre hK3 hJ hS hA hst2 hU hW⟩⟩ rfl rfl hl.1 rfl (lv_room (Nat.le_of_ble_eq_true rfl)) dL_law_398 ⟨(show cells + 4 + 1 + 0 ≤ 602736 by omega), (show slots + 24 + 11 + 0 ≤ 7287896 by omega)⟩) hJ hS hA (fun H locs hJ hS => ?_)
    refine lv_iload hx hb dL_law_401 (lv_at hl 1 rfl) ?_
    refine lv_icmp_eq (tgt := 408) hx hb dL_law_403 (by decide) (fun _ => ?_) (fun hc9 => absurd (h0.trans hr0.symm) hc9)
    refine lv_iload hx hb dL_law_408 (lv_at hl 1 rfl) ?_
    refine lv_if_ne (tgt := 425) hx hb dL_law_410 (by decide) (fun hc9 => absurd hr0 hc9) (fun _ => ?_)
    refine lv_aload_n hx hb dL_law_413 rfl (lv_at hl 3 rfl) ?_
    refine lv_iconst (v := 0) hx hb dL_law_414 (by decide) ?_
    refine va_lald hx hb hK (xk_q hJ) 0 3 rfl rfl (i := 0) (vp_in_nI (show 0 < 1 by decide) (by decide)) dL_law_415 ?_
    refine lv_iload hx hb dL_law_416 (lv_at hl 0 rfl) ?_
    refine lv_i2l hx hb dL_law_418 rfl ?_
    refine W.lcmp hx hb dL_law_419 ?_
    refine lv_if_eq (tgt := 425) hx hb dL_law_420 (by decide) (fun _ => ?_) (fun hc9 => absurd ((lg_cmp_eq _ _).mpr hf1) hc9)
    refine lv_goto (tgt := 1235) hx hb dL_law_425 (by decide) ?_
    refine W.widen (k := cells + 16) (n := slots + 64) (show cells + 4 + 1 + 0 ≤ cells + 16 by omega) (show slots + 24 + 11 + 0 ≤ slots + 64 by omega) ?_
    exact K σ2 σ1' f1 H locs ls hrel1 (xw_swap hJ) hS (lv_sub hl [2, 3, 4, 5, 6] rfl)
  · refine xk_wrap (As := [.ref (L 0 0), .int (xs (i + 1)), .int (xs (i + 2)), .int (xs (i + 3)), .ref q]) (xl_point l (xs (i + 1)) (xs (i + 2)) (xs (i + 3)) D cy cL L σ q f H.size hfl (Or.inr ⟨x, σ1, eC, hx2, hne⟩)) ⟨hx, hb, hml, hown, hts⟩ (vx_cwSW 5 hts gL_law_L_point rfl rfl rfl (by decide +kernel) ⟨Nat.le_of_ble_eq_true rfl, Nat.le_of_ble_eq_true rfl⟩) hK hst hnc hJ hS hA rfl hl.1 dL_law_368 ⟨(show cells + 4 ≤ 602736 by omega), (show slots + 24 ≤ 7287896 by omega)⟩ (fun r σ2 f1 H locs hpost hJ hS => ?_)
    obtain ⟨hr0, hσ⟩ : r = zcd 2 1 3 x ∧ σ2 = σ1 := by
      rcases hpost with ⟨v9, e9, -⟩ | ⟨x9, e9, hr9⟩
      · have e9 := eC.symm.trans e9; cases e9
      · have e9 := eC.symm.trans e9; cases e9; exact ⟨hr9, rfl⟩
    subst hσ
    refine lv_istore (lv' := [(5, .int r), (4, .int (nI i)), (3, .ref q), (2, .ref (L2 0 0)), (1, .ref (L 0 0)), (0, .ref b)]) hx hb dL_law_371 hl (by decide) rfl (fun ls hl => ?_)
    refine lv_aload_n hx hb dL_law_373 rfl (lv_at hl 3 rfl) ?_
    refine xk_arg 1 hx hb hX hbl hS (lv_at hl 5 rfl) (lv_at hl 1 rfl) (by omega) hLn (by decide) dL_law_374 dL_law_375 dL_law_377 dL_law_378 dL_law_379 ?_
    refine xk_arg 2 hx hb hX hbl hS (lv_at hl 5 rfl) (lv_at hl 1 rfl) (by omega) hLn (by decide) dL_law_380 dL_law_381 dL_law_383 dL_law_384 dL_law_385 ?_
    refine xk_arg 3 hx hb hX hbl hS (lv_at hl 5 rfl) (lv_at hl 1 rfl) (by omega) hLn (by decide) dL_law_386 dL_law_387 dL_law_389 dL_law_390 dL_law_391 ?_
    have hJ := xw_swap hJ
    refine xw_after (E := zEM) (v := some (zI w)) (s' := (σ1', [])) (as := (σ', [])) (Y := xlW cy cL L (σ2, []) q f1) (va_runV (As := [.int (xs (i + 1)), .int (xs (i + 2)), .int (xs (i + 3))]) (rest := []) ⟨hx, hb, hml, hown, hts⟩ (zM_X9_point.2 l D cy L2 [zO 0 0, zI (xs (i + 1)), zI (xs (i + 2)), zI (xs (i + 3))] (σ', []) (σ1', []) (some (zI w)) H.size hfl eR) (cwV 3 hts gL_law_X9_point rfl rfl rfl (by decide +kernel) ⟨Nat.le_of_ble_eq_true rfl, Nat.le_of_ble_eq_true rfl⟩) ⟨zPre.blind, xw_recv hK hJ (ci := 9) rfl rfl (by decide) rfl, fun U hU hW => ⟨rfl, xw_pre hK3 hJ hS hA hst2 hU hW⟩⟩ rfl rfl hl.1 rfl (lv_room (Nat.le_of_ble_eq_true rfl)) dL_law_392 ⟨(show cells + 4 + 1 ≤ 602736 by omega), (show slots + 24 + 11 ≤ 7287896 by omega)⟩) hJ hS hA (fun H locs hJ hS => ?_)
    refine lv_istore (lv' := [(6, .int w), (5, .int r), (4, .int (nI i)), (3, .ref q), (2, .ref (L2 0 0)), (1, .ref (L 0 0)), (0, .ref b)]) hx hb dL_law_395 hl (by decide) rfl (fun ls hl => ?_)
    refine lv_aload_n hx hb dL_law_397 rfl (lv_at hl 4 rfl) ?_
    refine xw_after (E := zEM) (v := some (zI (σ1' 0 0 0))) (s' := (σ1', [])) (as := (σ1', [])) (Y := xlW cy cL L (σ2, []) q f1) (va_runV (As := []) (rest := []) ⟨hx, hb, hml, hown, hts⟩ (zM_X9_thrown.2 l D cy L2 [zO 0 0] (σ1', []) (σ1', []) (some (zI (σ1' 0 0 0))) H.size hfl rp_thrown) (cwV 0 hts gL_law_X9_thrown rfl rfl rfl (by decide +kernel) ⟨Nat.le_of_ble_eq_true rfl, Nat.le_of_ble_eq_true rfl⟩) ⟨zPre.blind, xw_recv hK hJ (ci := 9) rfl rfl (by decide) rfl, fun U hU hW => ⟨rfl, xw_pre hK3 hJ hS hA hst2 hU hW⟩⟩ rfl rfl hl.1 rfl (lv_room (Nat.le_of_ble_eq_true rfl)) dL_law_398 ⟨(show cells + 4 + 1 + 0 ≤ 602736 by omega), (show slots + 24 + 11 + 0 ≤ 7287896 by omega)⟩) hJ hS hA (fun H locs hJ hS => ?_)
    refine lv_iload hx hb dL_law_401 (lv_at hl 1 rfl) ?_
    refine lv_icmp_eq (tgt := 408) hx hb dL_law_403 (by decide) (fun _ => ?_) (fun hc9 => absurd (h0.trans hr0.symm) hc9)
    refine lv_iload hx hb dL_law_408 (lv_at hl 1 rfl) ?_
    refine lv_if_ne (tgt := 425) hx hb dL_law_410 (by decide) (fun _ => ?_) (fun hc9 => absurd (hr0.symm.trans hc9) hne)
    refine lv_goto (tgt := 1235) hx hb dL_law_425 (by decide) ?_
    refine W.widen (k := cells + 16) (n := slots + 64) (show cells + 4 + 1 + 0 ≤ cells + 16 by omega) (show slots + 24 + 11 + 0 ≤ slots + 64 by omega) ?_
    exact K σ2 σ1' f1 H locs ls hrel1 (xw_swap hJ) hS (lv_sub hl [2, 3, 4, 5, 6] rfl)
set_option maxHeartbeats 4000000 in
set_option maxRecDepth 100000 in
theorem xk_make {p : Program} {l : Launch} {e : Env} {s : State} {m : MethodId} {below : List Frame} {meth : Method} {c : Code} {H : Heap} {locs : List Loc} {cells slots : Nat} {Q : State → Prop} {ls : Array Slot} {b Ln : Nat} {xs : Nat → Int32} {D : va_G} {cy : Nat → ClassId} {cL : ClassId} {L L2 : Nat → Nat → Nat} {q i : Nat} {f : Nat → Int64} {σ σ' : zMem} (C : xlC p l s m c b Ln xs D cy cL L L2) (hi : i + 6 ≤ Ln) (hrel : zRel σ σ') (hJ : xJ D (xA s) (xlW cy cL L (σ, []) q f ++ zws zEM cy L2 (σ', [])) H) (hS : va_S (xA s) s.heap H locs) (hl : lv_has ls 9 [(4, .int (nI i)), (3, .ref q), (2, .ref (L2 0 0)), (1, .ref (L 0 0)), (0, .ref b)]) (hc : cells + 16 ≤ 602736) (hs : slots + 64 ≤ 7287896) (K : ∀ (σ σ' : zMem) (f : Nat → Int64) (H : Heap) (locs : List Loc) (ls : Array Slot), zRel σ σ' → xJ D (xA s) (xlW cy cL L (σ, []) q f ++ zws zEM cy L2 (σ', [])) H → va_S (xA s) s.heap H locs → lv_has ls 9 [(4, .int (nI i)), (3, .ref q), (2, .ref (L2 0 0)), (1, .ref (L 0 0)), (0, .ref b)] → W p l e room_1 s m #[Value.ref b] below meth c H locs (cells + 16) (slots + 64) Q (F0 m 1235 ls [])) : W p l e room_1 s m #[Value.ref b] below meth c H locs (cells) (slots) Q (F0 m 428 ls []) := by
  obtain ⟨hx, hb, hml, hown, hts, hX, hbl, hK, hst, hst2, hnc, hfl, hLn⟩ := C
  have hA : ∀ q : Nat, s.heap.size ≤ q → xA s q := fun _ h => h
  have hK3 : va_K D vwCl (ztys cy) s := hK.sub [0, 1, 2] rfl
  refine lv_aload_n hx hb dL_law_428 rfl (lv_at hl 3 rfl) ?_
  refine xk_arg 1 hx hb hX hbl hS (lv_at hl 4 rfl) (lv_at hl 0 rfl) (by omega) hLn (by decide) dL_law_429 dL_law_430 dL_law_432 dL_law_433 dL_law_434 ?_
  refine xk_arg 2 hx hb hX hbl hS (lv_at hl 4 rfl) (lv_at hl 0 rfl) (by omega) hLn (by decide) dL_law_435 dL_law_436 dL_law_438 dL_law_439 dL_law_440 ?_
  refine xk_arg 3 hx hb hX hbl hS (lv_at hl 4 rfl) (lv_at hl 0 rfl) (by omega) hLn (by decide) dL_law_441 dL_law_442 dL_law_444 dL_law_445 dL_law_446 ?_
  refine xk_arg 4 hx hb hX hbl hS (lv_at hl 4 rfl) (lv_at hl 0 rfl) (by omega) hLn (by decide) dL_law_447 dL_law_448 dL_law_450 dL_law_451 dL_law_452 ?_
  refine lv_aload_n hx hb dL_law_453 rfl (lv_at hl 1 rfl) ?_
  have aG : zAg [] [] (zcd 1 2 3) (m_X8_make [zO 0 0, zI (xs (i + 1)), zI (xs (i + 2)), zI (xs (i + 3)), zI (xs (i + 4))] (σ, [])) (m_X9_make [zO 0 0, zI (xs (i + 1)), zI (xs (i + 2)), zI (xs (i + 3)), zI (xs (i + 4))] (σ', [])) := ag_make hrel
  rcases aG with ⟨v, σ1, σ1', eC, eR, h0, hrel1⟩ | ⟨x, w, σ1, σ1', eC, eR, h0, hne, hx2, hrel1⟩
  · refine xk_wrap (As := [.ref (L 0 0), .int (xs (i + 1)), .int (xs (i + 2)), .int (xs (i + 3)), .int (xs (i + 4)), .ref q]) (xl_make l (xs (i + 1)) (xs (i + 2)) (xs (i + 3)) (xs (i + 4)) D cy cL L σ q f H.size hfl (Or.inl ⟨v, σ1, eC⟩)) ⟨hx, hb, hml, hown, hts⟩ (vx_cwSW 6 hts gL_law_L_make rfl rfl rfl (by decide +kernel) ⟨Nat.le_of_ble_eq_true rfl, Nat.le_of_ble_eq_true rfl⟩) hK hst hnc hJ hS hA rfl hl.1 dL_law_454 ⟨(show cells + 4 ≤ 602736 by omega), (show slots + 24 ≤ 7287896 by omega)⟩ (fun r σ2 f1 H locs hpost hJ hS => ?_)
    obtain ⟨hr0, hσ, hf1⟩ : r = 0 ∧ σ2 = σ1 ∧ f1 0 = v.toInt64 := by
      rcases hpost with ⟨v9, e9, hr9, hf9⟩ | ⟨x9, e9, -⟩
      · have e9 := eC.symm.trans e9; cases e9; exact ⟨hr9, rfl, hf9⟩
      · have e9 := eC.symm.trans e9; cases e9
    subst hσ
    refine lv_istore (lv' := [(5, .int r), (4, .int (nI i)), (3, .ref q), (2, .ref (L2 0 0)), (1, .ref (L 0 0)), (0, .ref b)]) hx hb dL_law_457 hl (by decide) rfl (fun ls hl => ?_)
    refine lv_aload_n hx hb dL_law_459 rfl (lv_at hl 3 rfl) ?_
    refine xk_arg 1 hx hb hX hbl hS (lv_at hl 5 rfl) (lv_at hl 1 rfl) (by omega) hLn (by decide) dL_law_460 dL_law_461 dL_law_463 dL_law_464 dL_law_465 ?_
    refine xk_arg 2 hx hb hX hbl hS (lv_at hl 5 rfl) (lv_at hl 1 rfl) (by omega) hLn (by decide) dL_law_466 dL_law_467 dL_law_469 dL_law_470 dL_law_471 ?_
    refine xk_arg 3 hx hb hX hbl hS (lv_at hl 5 rfl) (lv_at hl 1 rfl) (by omega) hLn (by decide) dL_law_472 dL_law_473 dL_law_475 dL_law_476 dL_law_477 ?_
    refine xk_arg 4 hx hb hX hbl hS (lv_at hl 5 rfl) (lv_at hl 1 rfl) (by omega) hLn (by decide) dL_law_478 dL_law_479 dL_law_481 dL_law_482 dL_law_483 ?_
    have hJ := xw_swap hJ
    refine xw_after (E := zEM) (v := some (zI v)) (s' := (σ1', [])) (as := (σ', [])) (Y := xlW cy cL L (σ2, []) q f1) (va_runV (As := [.int (xs (i + 1)), .int (xs (i + 2)), .int (xs (i + 3)), .int (xs (i + 4))]) (rest := []) ⟨hx, hb, hml, hown, hts⟩ (zM_X9_make.2 l D cy L2 [zO 0 0, zI (xs (i + 1)), zI (xs (i + 2)), zI (xs (i + 3)), zI (xs (i + 4))] (σ', []) (σ1', []) (some (zI v)) H.size hfl eR) (cwV 4 hts gL_law_X9_make rfl rfl rfl (by decide +kernel) ⟨Nat.le_of_ble_eq_true rfl, Nat.le_of_ble_eq_true rfl⟩) ⟨zPre.blind, xw_recv hK hJ (ci := 9) rfl rfl (by decide) rfl, fun U hU hW => ⟨rfl, xw_pre hK3 hJ hS hA hst2 hU hW⟩⟩ rfl rfl hl.1 rfl (lv_room (Nat.le_of_ble_eq_true rfl)) dL_law_484 ⟨(show cells + 4 + 2 ≤ 602736 by omega), (show slots + 24 + 22 ≤ 7287896 by omega)⟩) hJ hS hA (fun H locs hJ hS => ?_)
    refine lv_istore (lv' := [(6, .int v), (5, .int r), (4, .int (nI i)), (3, .ref q), (2, .ref (L2 0 0)), (1, .ref (L 0 0)), (0, .ref b)]) hx hb dL_law_487 hl (by decide) rfl (fun ls hl => ?_)
    refine lv_aload_n hx hb dL_law_489 rfl (lv_at hl 4 rfl) ?_
    refine xw_after (E := zEM) (v := some (zI (σ1' 0 0 0))) (s' := (σ1', [])) (as := (σ1', [])) (Y := xlW cy cL L (σ2, []) q f1) (va_runV (As := []) (rest := []) ⟨hx, hb, hml, hown, hts⟩ (zM_X9_thrown.2 l D cy L2 [zO 0 0] (σ1', []) (σ1', []) (some (zI (σ1' 0 0 0))) H.size hfl rp_thrown) (cwV 0 hts gL_law_X9_thrown rfl rfl rfl (by decide +kernel) ⟨Nat.le_of_ble_eq_true rfl, Nat.le_of_ble_eq_true rfl⟩) ⟨zPre.blind, xw_recv hK hJ (ci := 9) rfl rfl (by decide) rfl, fun U hU hW => ⟨rfl, xw_pre hK3 hJ hS hA hst2 hU hW⟩⟩ rfl rfl hl.1 rfl (lv_room (Nat.le_of_ble_eq_true rfl)) dL_law_490 ⟨(show cells + 4 + 2 + 0 ≤ 602736 by omega), (show slots + 24 + 22 + 0 ≤ 7287896 by omega)⟩) hJ hS hA (fun H locs hJ hS => ?_)
    refine lv_iload hx hb dL_law_493 (lv_at hl 1 rfl) ?_
    refine lv_icmp_eq (tgt := 500) hx hb dL_law_495 (by decide) (fun _ => ?_) (fun hc9 => absurd (h0.trans hr0.symm) hc9)
    refine lv_iload hx hb dL_law_500 (lv_at hl 1 rfl) ?_
    refine lv_if_ne (tgt := 517) hx hb dL_law_502 (by decide) (fun hc9 => absurd hr0 hc9) (fun _ => ?_)
    refine lv_aload_n hx hb dL_law_505 rfl (lv_at hl 3 rfl) ?_
    refine lv_iconst (v := 0) hx hb dL_law_506 (by decide) ?_
    refine va_lald hx hb hK (xk_q hJ) 0 3 rfl rfl (i := 0) (vp_in_nI (show 0 < 1 by decide) (by decide)) dL_law_507 ?_
    refine lv_iload hx hb dL_law_508 (lv_at hl 0 rfl) ?_
    refine lv_i2l hx hb dL_law_510 rfl ?_
    refine W.lcmp hx hb dL_law_511 ?_
    refine lv_if_eq (tgt := 517) hx hb dL_law_512 (by decide) (fun _ => ?_) (fun hc9 => absurd ((lg_cmp_eq _ _).mpr hf1) hc9)
    refine lv_goto (tgt := 1235) hx hb dL_law_517 (by decide) ?_
    refine W.widen (k := cells + 16) (n := slots + 64) (show cells + 4 + 2 + 0 ≤ cells + 16 by omega) (show slots + 24 + 22 + 0 ≤ slots + 64 by omega) ?_
    exact K σ2 σ1' f1 H locs ls hrel1 (xw_swap hJ) hS (lv_sub hl [2, 3, 4, 5, 6] rfl)
  · refine xk_wrap (As := [.ref (L 0 0), .int (xs (i + 1)), .int (xs (i + 2)), .int (xs (i + 3)), .int (xs (i + 4)), .ref q]) (xl_make l (xs (i + 1)) (xs (i + 2)) (xs (i + 3)) (xs (i + 4)) D cy cL L σ q f H.size hfl (Or.inr ⟨x, σ1, eC, hx2, hne⟩)) ⟨hx, hb, hml, hown, hts⟩ (vx_cwSW 6 hts gL_law_L_make rfl rfl rfl (by decide +kernel) ⟨Nat.le_of_ble_eq_true rfl, Nat.le_of_ble_eq_true rfl⟩) hK hst hnc hJ hS hA rfl hl.1 dL_law_454 ⟨(show cells + 4 ≤ 602736 by omega), (show slots + 24 ≤ 7287896 by omega)⟩ (fun r σ2 f1 H locs hpost hJ hS => ?_)
    obtain ⟨hr0, hσ⟩ : r = zcd 1 2 3 x ∧ σ2 = σ1 := by
      rcases hpost with ⟨v9, e9, -⟩ | ⟨x9, e9, hr9⟩
      · have e9 := eC.symm.trans e9; cases e9
      · have e9 := eC.symm.trans e9; cases e9; exact ⟨hr9, rfl⟩
    subst hσ
    refine lv_istore (lv' := [(5, .int r), (4, .int (nI i)), (3, .ref q), (2, .ref (L2 0 0)), (1, .ref (L 0 0)), (0, .ref b)]) hx hb dL_law_457 hl (by decide) rfl (fun ls hl => ?_)
    refine lv_aload_n hx hb dL_law_459 rfl (lv_at hl 3 rfl) ?_
    refine xk_arg 1 hx hb hX hbl hS (lv_at hl 5 rfl) (lv_at hl 1 rfl) (by omega) hLn (by decide) dL_law_460 dL_law_461 dL_law_463 dL_law_464 dL_law_465 ?_
    refine xk_arg 2 hx hb hX hbl hS (lv_at hl 5 rfl) (lv_at hl 1 rfl) (by omega) hLn (by decide) dL_law_466 dL_law_467 dL_law_469 dL_law_470 dL_law_471 ?_
    refine xk_arg 3 hx hb hX hbl hS (lv_at hl 5 rfl) (lv_at hl 1 rfl) (by omega) hLn (by decide) dL_law_472 dL_law_473 dL_law_475 dL_law_476 dL_law_477 ?_
    refine xk_arg 4 hx hb hX hbl hS (lv_at hl 5 rfl) (lv_at hl 1 rfl) (by omega) hLn (by decide) dL_law_478 dL_law_479 dL_law_481 dL_law_482 dL_law_483 ?_
    have hJ := xw_swap hJ
    refine xw_after (E := zEM) (v := some (zI w)) (s' := (σ1', [])) (as := (σ', [])) (Y := xlW cy cL L (σ2, []) q f1) (va_runV (As := [.int (xs (i + 1)), .int (xs (i + 2)), .int (xs (i + 3)), .int (xs (i + 4))]) (rest := []) ⟨hx, hb, hml, hown, hts⟩ (zM_X9_make.2 l D cy L2 [zO 0 0, zI (xs (i + 1)), zI (xs (i + 2)), zI (xs (i + 3)), zI (xs (i + 4))] (σ', []) (σ1', []) (some (zI w)) H.size hfl eR) (cwV 4 hts gL_law_X9_make rfl rfl rfl (by decide +kernel) ⟨Nat.le_of_ble_eq_true rfl, Nat.le_of_ble_eq_true rfl⟩) ⟨zPre.blind, xw_recv hK hJ (ci := 9) rfl rfl (by decide) rfl, fun U hU hW => ⟨rfl, xw_pre hK3 hJ hS hA hst2 hU hW⟩⟩ rfl rfl hl.1 rfl (lv_room (Nat.le_of_ble_eq_true rfl)) dL_law_484 ⟨(show cells + 4 + 2 ≤ 602736 by omega), (show slots + 24 + 22 ≤ 7287896 by omega)⟩) hJ hS hA (fun H locs hJ hS => ?_)
    refine lv_istore (lv' := [(6, .int w), (5, .int r), (4, .int (nI i)), (3, .ref q), (2, .ref (L2 0 0)), (1, .ref (L 0 0)), (0, .ref b)]) hx hb dL_law_487 hl (by decide) rfl (fun ls hl => ?_)
    refine lv_aload_n hx hb dL_law_489 rfl (lv_at hl 4 rfl) ?_
    refine xw_after (E := zEM) (v := some (zI (σ1' 0 0 0))) (s' := (σ1', [])) (as := (σ1', [])) (Y := xlW cy cL L (σ2, []) q f1) (va_runV (As := []) (rest := []) ⟨hx, hb, hml, hown, hts⟩ (zM_X9_thrown.2 l D cy L2 [zO 0 0] (σ1', []) (σ1', []) (some (zI (σ1' 0 0 0))) H.size hfl rp_thrown) (cwV 0 hts gL_law_X9_thrown rfl rfl rfl (by decide +kernel) ⟨Nat.le_of_ble_eq_true rfl, Nat.le_of_ble_eq_true rfl⟩) ⟨zPre.blind, xw_recv hK hJ (ci := 9) rfl rfl (by decide) rfl, fun U hU hW => ⟨rfl, xw_pre hK3 hJ hS hA hst2 hU hW⟩⟩ rfl rfl hl.1 rfl (lv_room (Nat.le_of_ble_eq_true rfl)) dL_law_490 ⟨(show cells + 4 + 2 + 0 ≤ 602736 by omega), (show slots + 24 + 22 + 0 ≤ 7287896 by omega)⟩) hJ hS hA (fun H locs hJ hS => ?_)
    refine lv_iload hx hb dL_law_493 (lv_at hl 1 rfl) ?_
    refine lv_icmp_eq (tgt := 500) hx hb dL_law_495 (by decide) (fun _ => ?_) (fun hc9 => absurd (h0.trans hr0.symm) hc9)
    refine lv_iload hx hb dL_law_500 (lv_at hl 1 rfl) ?_
    refine lv_if_ne (tgt := 517) hx hb dL_law_502 (by decide) (fun _ => ?_) (fun hc9 => absurd (hr0.symm.trans hc9) hne)
    refine lv_goto (tgt := 1235) hx hb dL_law_517 (by decide) ?_
    refine W.widen (k := cells + 16) (n := slots + 64) (show cells + 4 + 2 + 0 ≤ cells + 16 by omega) (show slots + 24 + 22 + 0 ≤ slots + 64 by omega) ?_
    exact K σ2 σ1' f1 H locs ls hrel1 (xw_swap hJ) hS (lv_sub hl [2, 3, 4, 5, 6] rfl)
set_option maxHeartbeats 4000000 in
set_option maxRecDepth 100000 in
theorem xk_move {p : Program} {l : Launch} {e : Env} {s : State} {m : MethodId} {below : List Frame} {meth : Method} {c : Code} {H : Heap} {locs : List Loc} {cells slots : Nat} {Q : State → Prop} {ls : Array Slot} {b Ln : Nat} {xs : Nat → Int32} {D : va_G} {cy : Nat → ClassId} {cL : ClassId} {L L2 : Nat → Nat → Nat} {q i : Nat} {f : Nat → Int64} {σ σ' : zMem} (C : xlC p l s m c b Ln xs D cy cL L L2) (hi : i + 6 ≤ Ln) (hrel : zRel σ σ') (hJ : xJ D (xA s) (xlW cy cL L (σ, []) q f ++ zws zEM cy L2 (σ', [])) H) (hS : va_S (xA s) s.heap H locs) (hl : lv_has ls 9 [(4, .int (nI i)), (3, .ref q), (2, .ref (L2 0 0)), (1, .ref (L 0 0)), (0, .ref b)]) (hc : cells + 16 ≤ 602736) (hs : slots + 64 ≤ 7287896) (K : ∀ (σ σ' : zMem) (f : Nat → Int64) (H : Heap) (locs : List Loc) (ls : Array Slot), zRel σ σ' → xJ D (xA s) (xlW cy cL L (σ, []) q f ++ zws zEM cy L2 (σ', [])) H → va_S (xA s) s.heap H locs → lv_has ls 9 [(4, .int (nI i)), (3, .ref q), (2, .ref (L2 0 0)), (1, .ref (L 0 0)), (0, .ref b)] → W p l e room_1 s m #[Value.ref b] below meth c H locs (cells + 16) (slots + 64) Q (F0 m 1235 ls [])) : W p l e room_1 s m #[Value.ref b] below meth c H locs (cells) (slots) Q (F0 m 520 ls []) := by
  obtain ⟨hx, hb, hml, hown, hts, hX, hbl, hK, hst, hst2, hnc, hfl, hLn⟩ := C
  have hA : ∀ q : Nat, s.heap.size ≤ q → xA s q := fun _ h => h
  have hK3 : va_K D vwCl (ztys cy) s := hK.sub [0, 1, 2] rfl
  refine lv_aload_n hx hb dL_law_520 rfl (lv_at hl 3 rfl) ?_
  refine xk_arg 1 hx hb hX hbl hS (lv_at hl 4 rfl) (lv_at hl 0 rfl) (by omega) hLn (by decide) dL_law_521 dL_law_522 dL_law_524 dL_law_525 dL_law_526 ?_
  refine xk_arg 2 hx hb hX hbl hS (lv_at hl 4 rfl) (lv_at hl 0 rfl) (by omega) hLn (by decide) dL_law_527 dL_law_528 dL_law_530 dL_law_531 dL_law_532 ?_
  refine xk_arg 3 hx hb hX hbl hS (lv_at hl 4 rfl) (lv_at hl 0 rfl) (by omega) hLn (by decide) dL_law_533 dL_law_534 dL_law_536 dL_law_537 dL_law_538 ?_
  refine lv_aload_n hx hb dL_law_539 rfl (lv_at hl 1 rfl) ?_
  have aG : zAg [] [] (zcd 2 1 3) (m_X8_move [zO 0 0, zI (xs (i + 1)), zI (xs (i + 2)), zI (xs (i + 3))] (σ, [])) (m_X9_move [zO 0 0, zI (xs (i + 1)), zI (xs (i + 2)), zI (xs (i + 3))] (σ', [])) := ag_move hrel
  rcases aG with ⟨v, σ1, σ1', eC, eR, h0, hrel1⟩ | ⟨x, w, σ1, σ1', eC, eR, h0, hne, hx2, hrel1⟩
  · refine xk_wrap (As := [.ref (L 0 0), .int (xs (i + 1)), .int (xs (i + 2)), .int (xs (i + 3)), .ref q]) (xl_move l (xs (i + 1)) (xs (i + 2)) (xs (i + 3)) D cy cL L σ q f H.size hfl (Or.inl ⟨v, σ1, eC⟩)) ⟨hx, hb, hml, hown, hts⟩ (vx_cwSW 5 hts gL_law_L_move rfl rfl rfl (by decide +kernel) ⟨Nat.le_of_ble_eq_true rfl, Nat.le_of_ble_eq_true rfl⟩) hK hst hnc hJ hS hA rfl hl.1 dL_law_540 ⟨(show cells + 3 ≤ 602736 by omega), (show slots + 18 ≤ 7287896 by omega)⟩ (fun r σ2 f1 H locs hpost hJ hS => ?_)
    obtain ⟨hr0, hσ, hf1⟩ : r = 0 ∧ σ2 = σ1 ∧ f1 0 = v.toInt64 := by
      rcases hpost with ⟨v9, e9, hr9, hf9⟩ | ⟨x9, e9, -⟩
      · have e9 := eC.symm.trans e9; cases e9; exact ⟨hr9, rfl, hf9⟩
      · have e9 := eC.symm.trans e9; cases e9
    subst hσ
    refine lv_istore (lv' := [(5, .int r), (4, .int (nI i)), (3, .ref q), (2, .ref (L2 0 0)), (1, .ref (L 0 0)), (0, .ref b)]) hx hb dL_law_543 hl (by decide) rfl (fun ls hl => ?_)
    refine lv_aload_n hx hb dL_law_545 rfl (lv_at hl 3 rfl) ?_
    refine xk_arg 1 hx hb hX hbl hS (lv_at hl 5 rfl) (lv_at hl 1 rfl) (by omega) hLn (by decide) dL_law_546 dL_law_547 dL_law_549 dL_law_550 dL_law_551 ?_
    refine xk_arg 2 hx hb hX hbl hS (lv_at hl 5 rfl) (lv_at hl 1 rfl) (by omega) hLn (by decide) dL_law_552 dL_law_553 dL_law_555 dL_law_556 dL_law_557 ?_
    refine xk_arg 3 hx hb hX hbl hS (lv_at hl 5 rfl) (lv_at hl 1 rfl) (by omega) hLn (by decide) dL_law_558 dL_law_559 dL_law_561 dL_law_562 dL_law_563 ?_
    have hJ := xw_swap hJ
    refine xw_after (E := zEM) (v := some (zI v)) (s' := (σ1', [])) (as := (σ', [])) (Y := xlW cy cL L (σ2, []) q f1) (va_runV (As := [.int (xs (i + 1)), .int (xs (i + 2)), .int (xs (i + 3))]) (rest := []) ⟨hx, hb, hml, hown, hts⟩ (zM_X9_move.2 l D cy L2 [zO 0 0, zI (xs (i + 1)), zI (xs (i + 2)), zI (xs (i + 3))] (σ', []) (σ1', []) (some (zI v)) H.size hfl eR) (cwV 3 hts gL_law_X9_move rfl rfl rfl (by decide +kernel) ⟨Nat.le_of_ble_eq_true rfl, Nat.le_of_ble_eq_true rfl⟩) ⟨zPre.blind, xw_recv hK hJ (ci := 9) rfl rfl (by decide) rfl, fun U hU hW => ⟨rfl, xw_pre hK3 hJ hS hA hst2 hU hW⟩⟩ rfl rfl hl.1 rfl (lv_room (Nat.le_of_ble_eq_true rfl)) dL_law_564 ⟨(show cells + 3 + 0 ≤ 602736 by omega), (show slots + 18 + 0 ≤ 7287896 by omega)⟩) hJ hS hA (fun H locs hJ hS => ?_)
    refine lv_istore (lv' := [(6, .int v), (5, .int r), (4, .int (nI i)), (3, .ref q), (2, .ref (L2 0 0)), (1, .ref (L 0 0)), (0, .ref b)]) hx hb dL_law_567 hl (by decide) rfl (fun ls hl => ?_)
    refine lv_aload_n hx hb dL_law_569 rfl (lv_at hl 4 rfl) ?_
    refine xw_after (E := zEM) (v := some (zI (σ1' 0 0 0))) (s' := (σ1', [])) (as := (σ1', [])) (Y := xlW cy cL L (σ2, []) q f1) (va_runV (As := []) (rest := []) ⟨hx, hb, hml, hown, hts⟩ (zM_X9_thrown.2 l D cy L2 [zO 0 0] (σ1', []) (σ1', []) (some (zI (σ1' 0 0 0))) H.size hfl rp_thrown) (cwV 0 hts gL_law_X9_thrown rfl rfl rfl (by decide +kernel) ⟨Nat.le_of_ble_eq_true rfl, Nat.le_of_ble_eq_true rfl⟩) ⟨zPre.blind, xw_recv hK hJ (ci := 9) rfl rfl (by decide) rfl, fun U hU hW => ⟨rfl, xw_pre hK3 hJ hS hA hst2 hU hW⟩⟩ rfl rfl hl.1 rfl (lv_room (Nat.le_of_ble_eq_true rfl)) dL_law_570 ⟨(show cells + 3 + 0 + 0 ≤ 602736 by omega), (show slots + 18 + 0 + 0 ≤ 7287896 by omega)⟩) hJ hS hA (fun H locs hJ hS => ?_)
    refine lv_iload hx hb dL_law_573 (lv_at hl 1 rfl) ?_
    refine lv_icmp_eq (tgt := 580) hx hb dL_law_575 (by decide) (fun _ => ?_) (fun hc9 => absurd (h0.trans hr0.symm) hc9)
    refine lv_iload hx hb dL_law_580 (lv_at hl 1 rfl) ?_
    refine lv_if_ne (tgt := 597) hx hb dL_law_582 (by decide) (fun hc9 => absurd hr0 hc9) (fun _ => ?_)
    refine lv_aload_n hx hb dL_law_585 rfl (lv_at hl 3 rfl) ?_
    refine lv_iconst (v := 0) hx hb dL_law_586 (by decide) ?_
    refine va_lald hx hb hK (xk_q hJ) 0 3 rfl rfl (i := 0) (vp_in_nI (show 0 < 1 by decide) (by decide)) dL_law_587 ?_
    refine lv_iload hx hb dL_law_588 (lv_at hl 0 rfl) ?_
    refine lv_i2l hx hb dL_law_590 rfl ?_
    refine W.lcmp hx hb dL_law_591 ?_
    refine lv_if_eq (tgt := 597) hx hb dL_law_592 (by decide) (fun _ => ?_) (fun hc9 => absurd ((lg_cmp_eq _ _).mpr hf1) hc9)
    refine lv_goto (tgt := 1235) hx hb dL_law_597 (by decide) ?_
    refine W.widen (k := cells + 16) (n := slots + 64) (show cells + 3 + 0 + 0 ≤ cells + 16 by omega) (show slots + 18 + 0 + 0 ≤ slots + 64 by omega) ?_
    exact K σ2 σ1' f1 H locs ls hrel1 (xw_swap hJ) hS (lv_sub hl [2, 3, 4, 5, 6] rfl)
  · refine xk_wrap (As := [.ref (L 0 0), .int (xs (i + 1)), .int (xs (i + 2)), .int (xs (i + 3)), .ref q]) (xl_move l (xs (i + 1)) (xs (i + 2)) (xs (i + 3)) D cy cL L σ q f H.size hfl (Or.inr ⟨x, σ1, eC, hx2, hne⟩)) ⟨hx, hb, hml, hown, hts⟩ (vx_cwSW 5 hts gL_law_L_move rfl rfl rfl (by decide +kernel) ⟨Nat.le_of_ble_eq_true rfl, Nat.le_of_ble_eq_true rfl⟩) hK hst hnc hJ hS hA rfl hl.1 dL_law_540 ⟨(show cells + 3 ≤ 602736 by omega), (show slots + 18 ≤ 7287896 by omega)⟩ (fun r σ2 f1 H locs hpost hJ hS => ?_)
    obtain ⟨hr0, hσ⟩ : r = zcd 2 1 3 x ∧ σ2 = σ1 := by
      rcases hpost with ⟨v9, e9, -⟩ | ⟨x9, e9, hr9⟩
      · have e9 := eC.symm.trans e9; cases e9
      · have e9 := eC.symm.trans e9; cases e9; exact ⟨hr9, rfl⟩
    subst hσ
    refine lv_istore (lv' := [(5, .int r), (4, .int (nI i)), (3, .ref q), (2, .ref (L2 0 0)), (1, .ref (L 0 0)), (0, .ref b)]) hx hb dL_law_543 hl (by decide) rfl (fun ls hl => ?_)
    refine lv_aload_n hx hb dL_law_545 rfl (lv_at hl 3 rfl) ?_
    refine xk_arg 1 hx hb hX hbl hS (lv_at hl 5 rfl) (lv_at hl 1 rfl) (by omega) hLn (by decide) dL_law_546 dL_law_547 dL_law_549 dL_law_550 dL_law_551 ?_
    refine xk_arg 2 hx hb hX hbl hS (lv_at hl 5 rfl) (lv_at hl 1 rfl) (by omega) hLn (by decide) dL_law_552 dL_law_553 dL_law_555 dL_law_556 dL_law_557 ?_
    refine xk_arg 3 hx hb hX hbl hS (lv_at hl 5 rfl) (lv_at hl 1 rfl) (by omega) hLn (by decide) dL_law_558 dL_law_559 dL_law_561 dL_law_562 dL_law_563 ?_
    have hJ := xw_swap hJ
    refine xw_after (E := zEM) (v := some (zI w)) (s' := (σ1', [])) (as := (σ', [])) (Y := xlW cy cL L (σ2, []) q f1) (va_runV (As := [.int (xs (i + 1)), .int (xs (i + 2)), .int (xs (i + 3))]) (rest := []) ⟨hx, hb, hml, hown, hts⟩ (zM_X9_move.2 l D cy L2 [zO 0 0, zI (xs (i + 1)), zI (xs (i + 2)), zI (xs (i + 3))] (σ', []) (σ1', []) (some (zI w)) H.size hfl eR) (cwV 3 hts gL_law_X9_move rfl rfl rfl (by decide +kernel) ⟨Nat.le_of_ble_eq_true rfl, Nat.le_of_ble_eq_true rfl⟩) ⟨zPre.blind, xw_recv hK hJ (ci := 9) rfl rfl (by decide) rfl, fun U hU hW => ⟨rfl, xw_pre hK3 hJ hS hA hst2 hU hW⟩⟩ rfl rfl hl.1 rfl (lv_room (Nat.le_of_ble_eq_true rfl)) dL_law_564 ⟨(show cells + 3 + 0 ≤ 602736 by omega), (show slots + 18 + 0 ≤ 7287896 by omega)⟩) hJ hS hA (fun H locs hJ hS => ?_)
    refine lv_istore (lv' := [(6, .int w), (5, .int r), (4, .int (nI i)), (3, .ref q), (2, .ref (L2 0 0)), (1, .ref (L 0 0)), (0, .ref b)]) hx hb dL_law_567 hl (by decide) rfl (fun ls hl => ?_)
    refine lv_aload_n hx hb dL_law_569 rfl (lv_at hl 4 rfl) ?_
    refine xw_after (E := zEM) (v := some (zI (σ1' 0 0 0))) (s' := (σ1', [])) (as := (σ1', [])) (Y := xlW cy cL L (σ2, []) q f1) (va_runV (As := []) (rest := []) ⟨hx, hb, hml, hown, hts⟩ (zM_X9_thrown.2 l D cy L2 [zO 0 0] (σ1', []) (σ1', []) (some (zI (σ1' 0 0 0))) H.size hfl rp_thrown) (cwV 0 hts gL_law_X9_thrown rfl rfl rfl (by decide +kernel) ⟨Nat.le_of_ble_eq_true rfl, Nat.le_of_ble_eq_true rfl⟩) ⟨zPre.blind, xw_recv hK hJ (ci := 9) rfl rfl (by decide) rfl, fun U hU hW => ⟨rfl, xw_pre hK3 hJ hS hA hst2 hU hW⟩⟩ rfl rfl hl.1 rfl (lv_room (Nat.le_of_ble_eq_true rfl)) dL_law_570 ⟨(show cells + 3 + 0 + 0 ≤ 602736 by omega), (show slots + 18 + 0 + 0 ≤ 7287896 by omega)⟩) hJ hS hA (fun H locs hJ hS => ?_)
    refine lv_iload hx hb dL_law_573 (lv_at hl 1 rfl) ?_
    refine lv_icmp_eq (tgt := 580) hx hb dL_law_575 (by decide) (fun _ => ?_) (fun hc9 => absurd (h0.trans hr0.symm) hc9)
    refine lv_iload hx hb dL_law_580 (lv_at hl 1 rfl) ?_
    refine lv_if_ne (tgt := 597) hx hb dL_law_582 (by decide) (fun _ => ?_) (fun hc9 => absurd (hr0.symm.trans hc9) hne)
    refine lv_goto (tgt := 1235) hx hb dL_law_597 (by decide) ?_
    refine W.widen (k := cells + 16) (n := slots + 64) (show cells + 3 + 0 + 0 ≤ cells + 16 by omega) (show slots + 18 + 0 + 0 ≤ slots + 64 by omega) ?_
    exact K σ2 σ1' f1 H locs ls hrel1 (xw_swap hJ) hS (lv_sub hl [2, 3, 4, 5, 6] rfl)
set_option maxHeartbeats 4000000 in
set_option maxRecDepth 100000 in
theorem xk_object {p : Program} {l : Launch} {e : Env} {s : State} {m : MethodId} {below : List Frame} {meth : Method} {c : Code} {H : Heap} {locs : List Loc} {cells slots : Nat} {Q : State → Prop} {ls : Array Slot} {b Ln : Nat} {xs : Nat → Int32} {D : va_G} {cy : Nat → ClassId} {cL : ClassId} {L L2 : Nat → Nat → Nat} {q i : Nat} {f : Nat → Int64} {σ σ' : zMem} (C : xlC p l s m c b Ln xs D cy cL L L2) (hi : i + 6 ≤ Ln) (hrel : zRel σ σ') (hJ : xJ D (xA s) (xlW cy cL L (σ, []) q f ++ zws zEM cy L2 (σ', [])) H) (hS : va_S (xA s) s.heap H locs) (hl : lv_has ls 9 [(4, .int (nI i)), (3, .ref q), (2, .ref (L2 0 0)), (1, .ref (L 0 0)), (0, .ref b)]) (hc : cells + 16 ≤ 602736) (hs : slots + 64 ≤ 7287896) (K : ∀ (σ σ' : zMem) (f : Nat → Int64) (H : Heap) (locs : List Loc) (ls : Array Slot), zRel σ σ' → xJ D (xA s) (xlW cy cL L (σ, []) q f ++ zws zEM cy L2 (σ', [])) H → va_S (xA s) s.heap H locs → lv_has ls 9 [(4, .int (nI i)), (3, .ref q), (2, .ref (L2 0 0)), (1, .ref (L 0 0)), (0, .ref b)] → W p l e room_1 s m #[Value.ref b] below meth c H locs (cells + 16) (slots + 64) Q (F0 m 1235 ls [])) : W p l e room_1 s m #[Value.ref b] below meth c H locs (cells) (slots) Q (F0 m 600 ls []) := by
  obtain ⟨hx, hb, hml, hown, hts, hX, hbl, hK, hst, hst2, hnc, hfl, hLn⟩ := C
  have hA : ∀ q : Nat, s.heap.size ≤ q → xA s q := fun _ h => h
  have hK3 : va_K D vwCl (ztys cy) s := hK.sub [0, 1, 2] rfl
  refine lv_aload_n hx hb dL_law_600 rfl (lv_at hl 3 rfl) ?_
  refine xk_arg 1 hx hb hX hbl hS (lv_at hl 4 rfl) (lv_at hl 0 rfl) (by omega) hLn (by decide) dL_law_601 dL_law_602 dL_law_604 dL_law_605 dL_law_606 ?_
  refine xk_arg 2 hx hb hX hbl hS (lv_at hl 4 rfl) (lv_at hl 0 rfl) (by omega) hLn (by decide) dL_law_607 dL_law_608 dL_law_610 dL_law_611 dL_law_612 ?_
  refine lv_aload_n hx hb dL_law_613 rfl (lv_at hl 1 rfl) ?_
  have aG : zAg [] [] (zcd 0 1 0) (m_X8_object [zO 0 0, zI (xs (i + 1)), zI (xs (i + 2))] (σ, [])) (m_X9_object [zO 0 0, zI (xs (i + 1)), zI (xs (i + 2))] (σ', [])) := ag_object hrel
  rcases aG with ⟨v, σ1, σ1', eC, eR, h0, hrel1⟩ | ⟨x, w, σ1, σ1', eC, eR, h0, hne, hx2, hrel1⟩
  · refine xk_wrap (As := [.ref (L 0 0), .int (xs (i + 1)), .int (xs (i + 2)), .ref q]) (xl_object l (xs (i + 1)) (xs (i + 2)) D cy cL L σ q f H.size hfl (Or.inl ⟨v, σ1, eC⟩)) ⟨hx, hb, hml, hown, hts⟩ (vx_cwSW 4 hts gL_law_L_object rfl rfl rfl (by decide +kernel) ⟨Nat.le_of_ble_eq_true rfl, Nat.le_of_ble_eq_true rfl⟩) hK hst hnc hJ hS hA rfl hl.1 dL_law_614 ⟨(show cells + 1 ≤ 602736 by omega), (show slots + 6 ≤ 7287896 by omega)⟩ (fun r σ2 f1 H locs hpost hJ hS => ?_)
    obtain ⟨hr0, hσ, hf1⟩ : r = 0 ∧ σ2 = σ1 ∧ f1 0 = v.toInt64 := by
      rcases hpost with ⟨v9, e9, hr9, hf9⟩ | ⟨x9, e9, -⟩
      · have e9 := eC.symm.trans e9; cases e9; exact ⟨hr9, rfl, hf9⟩
      · have e9 := eC.symm.trans e9; cases e9
    subst hσ
    refine lv_istore (lv' := [(5, .int r), (4, .int (nI i)), (3, .ref q), (2, .ref (L2 0 0)), (1, .ref (L 0 0)), (0, .ref b)]) hx hb dL_law_617 hl (by decide) rfl (fun ls hl => ?_)
    refine lv_aload_n hx hb dL_law_619 rfl (lv_at hl 3 rfl) ?_
    refine xk_arg 1 hx hb hX hbl hS (lv_at hl 5 rfl) (lv_at hl 1 rfl) (by omega) hLn (by decide) dL_law_620 dL_law_621 dL_law_623 dL_law_624 dL_law_625 ?_
    refine xk_arg 2 hx hb hX hbl hS (lv_at hl 5 rfl) (lv_at hl 1 rfl) (by omega) hLn (by decide) dL_law_626 dL_law_627 dL_law_629 dL_law_630 dL_law_631 ?_
    have hJ := xw_swap hJ
    refine xw_after (E := zEM) (v := some (zI v)) (s' := (σ1', [])) (as := (σ', [])) (Y := xlW cy cL L (σ2, []) q f1) (va_runV (As := [.int (xs (i + 1)), .int (xs (i + 2))]) (rest := []) ⟨hx, hb, hml, hown, hts⟩ (zM_X9_object.2 l D cy L2 [zO 0 0, zI (xs (i + 1)), zI (xs (i + 2))] (σ', []) (σ1', []) (some (zI v)) H.size hfl eR) (cwV 2 hts gL_law_X9_object rfl rfl rfl (by decide +kernel) ⟨Nat.le_of_ble_eq_true rfl, Nat.le_of_ble_eq_true rfl⟩) ⟨zPre.blind, xw_recv hK hJ (ci := 9) rfl rfl (by decide) rfl, fun U hU hW => ⟨rfl, xw_pre hK3 hJ hS hA hst2 hU hW⟩⟩ rfl rfl hl.1 rfl (lv_room (Nat.le_of_ble_eq_true rfl)) dL_law_632 ⟨(show cells + 1 + 0 ≤ 602736 by omega), (show slots + 6 + 0 ≤ 7287896 by omega)⟩) hJ hS hA (fun H locs hJ hS => ?_)
    refine lv_istore (lv' := [(6, .int v), (5, .int r), (4, .int (nI i)), (3, .ref q), (2, .ref (L2 0 0)), (1, .ref (L 0 0)), (0, .ref b)]) hx hb dL_law_635 hl (by decide) rfl (fun ls hl => ?_)
    refine lv_aload_n hx hb dL_law_637 rfl (lv_at hl 4 rfl) ?_
    refine xw_after (E := zEM) (v := some (zI (σ1' 0 0 0))) (s' := (σ1', [])) (as := (σ1', [])) (Y := xlW cy cL L (σ2, []) q f1) (va_runV (As := []) (rest := []) ⟨hx, hb, hml, hown, hts⟩ (zM_X9_thrown.2 l D cy L2 [zO 0 0] (σ1', []) (σ1', []) (some (zI (σ1' 0 0 0))) H.size hfl rp_thrown) (cwV 0 hts gL_law_X9_thrown rfl rfl rfl (by decide +kernel) ⟨Nat.le_of_ble_eq_true rfl, Nat.le_of_ble_eq_true rfl⟩) ⟨zPre.blind, xw_recv hK hJ (ci := 9) rfl rfl (by decide) rfl, fun U hU hW => ⟨rfl, xw_pre hK3 hJ hS hA hst2 hU hW⟩⟩ rfl rfl hl.1 rfl (lv_room (Nat.le_of_ble_eq_true rfl)) dL_law_638 ⟨(show cells + 1 + 0 + 0 ≤ 602736 by omega), (show slots + 6 + 0 + 0 ≤ 7287896 by omega)⟩) hJ hS hA (fun H locs hJ hS => ?_)
    refine lv_iload hx hb dL_law_641 (lv_at hl 1 rfl) ?_
    refine lv_icmp_eq (tgt := 648) hx hb dL_law_643 (by decide) (fun _ => ?_) (fun hc9 => absurd (h0.trans hr0.symm) hc9)
    refine lv_iload hx hb dL_law_648 (lv_at hl 1 rfl) ?_
    refine lv_if_ne (tgt := 665) hx hb dL_law_650 (by decide) (fun hc9 => absurd hr0 hc9) (fun _ => ?_)
    refine lv_aload_n hx hb dL_law_653 rfl (lv_at hl 3 rfl) ?_
    refine lv_iconst (v := 0) hx hb dL_law_654 (by decide) ?_
    refine va_lald hx hb hK (xk_q hJ) 0 3 rfl rfl (i := 0) (vp_in_nI (show 0 < 1 by decide) (by decide)) dL_law_655 ?_
    refine lv_iload hx hb dL_law_656 (lv_at hl 0 rfl) ?_
    refine lv_i2l hx hb dL_law_658 rfl ?_
    refine W.lcmp hx hb dL_law_659 ?_
    refine lv_if_eq (tgt := 665) hx hb dL_law_660 (by decide) (fun _ => ?_) (fun hc9 => absurd ((lg_cmp_eq _ _).mpr hf1) hc9)
    refine lv_goto (tgt := 1235) hx hb dL_law_665 (by decide) ?_
    refine W.widen (k := cells + 16) (n := slots + 64) (show cells + 1 + 0 + 0 ≤ cells + 16 by omega) (show slots + 6 + 0 + 0 ≤ slots + 64 by omega) ?_
    exact K σ2 σ1' f1 H locs ls hrel1 (xw_swap hJ) hS (lv_sub hl [2, 3, 4, 5, 6] rfl)
  · refine xk_wrap (As := [.ref (L 0 0), .int (xs (i + 1)), .int (xs (i + 2)), .ref q]) (xl_object l (xs (i + 1)) (xs (i + 2)) D cy cL L σ q f H.size hfl (Or.inr ⟨x, σ1, eC, hx2, hne⟩)) ⟨hx, hb, hml, hown, hts⟩ (vx_cwSW 4 hts gL_law_L_object rfl rfl rfl (by decide +kernel) ⟨Nat.le_of_ble_eq_true rfl, Nat.le_of_ble_eq_true rfl⟩) hK hst hnc hJ hS hA rfl hl.1 dL_law_614 ⟨(show cells + 1 ≤ 602736 by omega), (show slots + 6 ≤ 7287896 by omega)⟩ (fun r σ2 f1 H locs hpost hJ hS => ?_)
    obtain ⟨hr0, hσ⟩ : r = zcd 0 1 0 x ∧ σ2 = σ1 := by
      rcases hpost with ⟨v9, e9, -⟩ | ⟨x9, e9, hr9⟩
      · have e9 := eC.symm.trans e9; cases e9
      · have e9 := eC.symm.trans e9; cases e9; exact ⟨hr9, rfl⟩
    subst hσ
    refine lv_istore (lv' := [(5, .int r), (4, .int (nI i)), (3, .ref q), (2, .ref (L2 0 0)), (1, .ref (L 0 0)), (0, .ref b)]) hx hb dL_law_617 hl (by decide) rfl (fun ls hl => ?_)
    refine lv_aload_n hx hb dL_law_619 rfl (lv_at hl 3 rfl) ?_
    refine xk_arg 1 hx hb hX hbl hS (lv_at hl 5 rfl) (lv_at hl 1 rfl) (by omega) hLn (by decide) dL_law_620 dL_law_621 dL_law_623 dL_law_624 dL_law_625 ?_
    refine xk_arg 2 hx hb hX hbl hS (lv_at hl 5 rfl) (lv_at hl 1 rfl) (by omega) hLn (by decide) dL_law_626 dL_law_627 dL_law_629 dL_law_630 dL_law_631 ?_
    have hJ := xw_swap hJ
    refine xw_after (E := zEM) (v := some (zI w)) (s' := (σ1', [])) (as := (σ', [])) (Y := xlW cy cL L (σ2, []) q f1) (va_runV (As := [.int (xs (i + 1)), .int (xs (i + 2))]) (rest := []) ⟨hx, hb, hml, hown, hts⟩ (zM_X9_object.2 l D cy L2 [zO 0 0, zI (xs (i + 1)), zI (xs (i + 2))] (σ', []) (σ1', []) (some (zI w)) H.size hfl eR) (cwV 2 hts gL_law_X9_object rfl rfl rfl (by decide +kernel) ⟨Nat.le_of_ble_eq_true rfl, Nat.le_of_ble_eq_true rfl⟩) ⟨zPre.blind, xw_recv hK hJ (ci := 9) rfl rfl (by decide) rfl, fun U hU hW => ⟨rfl, xw_pre hK3 hJ hS hA hst2 hU hW⟩⟩ rfl rfl hl.1 rfl (lv_room (Nat.le_of_ble_eq_true rfl)) dL_law_632 ⟨(show cells + 1 + 0 ≤ 602736 by omega), (show slots + 6 + 0 ≤ 7287896 by omega)⟩) hJ hS hA (fun H locs hJ hS => ?_)
    refine lv_istore (lv' := [(6, .int w), (5, .int r), (4, .int (nI i)), (3, .ref q), (2, .ref (L2 0 0)), (1, .ref (L 0 0)), (0, .ref b)]) hx hb dL_law_635 hl (by decide) rfl (fun ls hl => ?_)
    refine lv_aload_n hx hb dL_law_637 rfl (lv_at hl 4 rfl) ?_
    refine xw_after (E := zEM) (v := some (zI (σ1' 0 0 0))) (s' := (σ1', [])) (as := (σ1', [])) (Y := xlW cy cL L (σ2, []) q f1) (va_runV (As := []) (rest := []) ⟨hx, hb, hml, hown, hts⟩ (zM_X9_thrown.2 l D cy L2 [zO 0 0] (σ1', []) (σ1', []) (some (zI (σ1' 0 0 0))) H.size hfl rp_thrown) (cwV 0 hts gL_law_X9_thrown rfl rfl rfl (by decide +kernel) ⟨Nat.le_of_ble_eq_true rfl, Nat.le_of_ble_eq_true rfl⟩) ⟨zPre.blind, xw_recv hK hJ (ci := 9) rfl rfl (by decide) rfl, fun U hU hW => ⟨rfl, xw_pre hK3 hJ hS hA hst2 hU hW⟩⟩ rfl rfl hl.1 rfl (lv_room (Nat.le_of_ble_eq_true rfl)) dL_law_638 ⟨(show cells + 1 + 0 + 0 ≤ 602736 by omega), (show slots + 6 + 0 + 0 ≤ 7287896 by omega)⟩) hJ hS hA (fun H locs hJ hS => ?_)
    refine lv_iload hx hb dL_law_641 (lv_at hl 1 rfl) ?_
    refine lv_icmp_eq (tgt := 648) hx hb dL_law_643 (by decide) (fun _ => ?_) (fun hc9 => absurd (h0.trans hr0.symm) hc9)
    refine lv_iload hx hb dL_law_648 (lv_at hl 1 rfl) ?_
    refine lv_if_ne (tgt := 665) hx hb dL_law_650 (by decide) (fun _ => ?_) (fun hc9 => absurd (hr0.symm.trans hc9) hne)
    refine lv_goto (tgt := 1235) hx hb dL_law_665 (by decide) ?_
    refine W.widen (k := cells + 16) (n := slots + 64) (show cells + 1 + 0 + 0 ≤ cells + 16 by omega) (show slots + 6 + 0 + 0 ≤ slots + 64 by omega) ?_
    exact K σ2 σ1' f1 H locs ls hrel1 (xw_swap hJ) hS (lv_sub hl [2, 3, 4, 5, 6] rfl)
set_option maxHeartbeats 4000000 in
set_option maxRecDepth 100000 in
theorem xk_number {p : Program} {l : Launch} {e : Env} {s : State} {m : MethodId} {below : List Frame} {meth : Method} {c : Code} {H : Heap} {locs : List Loc} {cells slots : Nat} {Q : State → Prop} {ls : Array Slot} {b Ln : Nat} {xs : Nat → Int32} {D : va_G} {cy : Nat → ClassId} {cL : ClassId} {L L2 : Nat → Nat → Nat} {q i : Nat} {f : Nat → Int64} {σ σ' : zMem} (C : xlC p l s m c b Ln xs D cy cL L L2) (hi : i + 6 ≤ Ln) (hrel : zRel σ σ') (hJ : xJ D (xA s) (xlW cy cL L (σ, []) q f ++ zws zEM cy L2 (σ', [])) H) (hS : va_S (xA s) s.heap H locs) (hl : lv_has ls 9 [(4, .int (nI i)), (3, .ref q), (2, .ref (L2 0 0)), (1, .ref (L 0 0)), (0, .ref b)]) (hc : cells + 16 ≤ 602736) (hs : slots + 64 ≤ 7287896) (K : ∀ (σ σ' : zMem) (f : Nat → Int64) (H : Heap) (locs : List Loc) (ls : Array Slot), zRel σ σ' → xJ D (xA s) (xlW cy cL L (σ, []) q f ++ zws zEM cy L2 (σ', [])) H → va_S (xA s) s.heap H locs → lv_has ls 9 [(4, .int (nI i)), (3, .ref q), (2, .ref (L2 0 0)), (1, .ref (L 0 0)), (0, .ref b)] → W p l e room_1 s m #[Value.ref b] below meth c H locs (cells + 16) (slots + 64) Q (F0 m 1235 ls [])) : W p l e room_1 s m #[Value.ref b] below meth c H locs (cells) (slots) Q (F0 m 668 ls []) := by
  obtain ⟨hx, hb, hml, hown, hts, hX, hbl, hK, hst, hst2, hnc, hfl, hLn⟩ := C
  have hA : ∀ q : Nat, s.heap.size ≤ q → xA s q := fun _ h => h
  have hK3 : va_K D vwCl (ztys cy) s := hK.sub [0, 1, 2] rfl
  refine lv_aload_n hx hb dL_law_668 rfl (lv_at hl 3 rfl) ?_
  refine xk_arg 1 hx hb hX hbl hS (lv_at hl 4 rfl) (lv_at hl 0 rfl) (by omega) hLn (by decide) dL_law_669 dL_law_670 dL_law_672 dL_law_673 dL_law_674 ?_
  refine xk_arg 2 hx hb hX hbl hS (lv_at hl 4 rfl) (lv_at hl 0 rfl) (by omega) hLn (by decide) dL_law_675 dL_law_676 dL_law_678 dL_law_679 dL_law_680 ?_
  refine lv_aload_n hx hb dL_law_681 rfl (lv_at hl 1 rfl) ?_
  have aG : zAg [] [] (zcd 0 1 2) (m_X8_number [zO 0 0, zI (xs (i + 1)), zI (xs (i + 2))] (σ, [])) (m_X9_number [zO 0 0, zI (xs (i + 1)), zI (xs (i + 2))] (σ', [])) := ag_number hrel
  rcases aG with ⟨v, σ1, σ1', eC, eR, h0, hrel1⟩ | ⟨x, w, σ1, σ1', eC, eR, h0, hne, hx2, hrel1⟩
  · refine xk_wrap (As := [.ref (L 0 0), .int (xs (i + 1)), .int (xs (i + 2)), .ref q]) (xl_number l (xs (i + 1)) (xs (i + 2)) D cy cL L σ q f H.size hfl (Or.inl ⟨v, σ1, eC⟩)) ⟨hx, hb, hml, hown, hts⟩ (vx_cwSW 4 hts gL_law_L_number rfl rfl rfl (by decide +kernel) ⟨Nat.le_of_ble_eq_true rfl, Nat.le_of_ble_eq_true rfl⟩) hK hst hnc hJ hS hA rfl hl.1 dL_law_682 ⟨(show cells + 2 ≤ 602736 by omega), (show slots + 12 ≤ 7287896 by omega)⟩ (fun r σ2 f1 H locs hpost hJ hS => ?_)
    obtain ⟨hr0, hσ, hf1⟩ : r = 0 ∧ σ2 = σ1 ∧ f1 0 = v.toInt64 := by
      rcases hpost with ⟨v9, e9, hr9, hf9⟩ | ⟨x9, e9, -⟩
      · have e9 := eC.symm.trans e9; cases e9; exact ⟨hr9, rfl, hf9⟩
      · have e9 := eC.symm.trans e9; cases e9
    subst hσ
    refine lv_istore (lv' := [(5, .int r), (4, .int (nI i)), (3, .ref q), (2, .ref (L2 0 0)), (1, .ref (L 0 0)), (0, .ref b)]) hx hb dL_law_685 hl (by decide) rfl (fun ls hl => ?_)
    refine lv_aload_n hx hb dL_law_687 rfl (lv_at hl 3 rfl) ?_
    refine xk_arg 1 hx hb hX hbl hS (lv_at hl 5 rfl) (lv_at hl 1 rfl) (by omega) hLn (by decide) dL_law_688 dL_law_689 dL_law_691 dL_law_692 dL_law_693 ?_
    refine xk_arg 2 hx hb hX hbl hS (lv_at hl 5 rfl) (lv_at hl 1 rfl) (by omega) hLn (by decide) dL_law_694 dL_law_695 dL_law_697 dL_law_698 dL_law_699 ?_
    have hJ := xw_swap hJ
    refine xw_after (E := zEM) (v := some (zI v)) (s' := (σ1', [])) (as := (σ', [])) (Y := xlW cy cL L (σ2, []) q f1) (va_runV (As := [.int (xs (i + 1)), .int (xs (i + 2))]) (rest := []) ⟨hx, hb, hml, hown, hts⟩ (zM_X9_number.2 l D cy L2 [zO 0 0, zI (xs (i + 1)), zI (xs (i + 2))] (σ', []) (σ1', []) (some (zI v)) H.size hfl eR) (cwV 2 hts gL_law_X9_number rfl rfl rfl (by decide +kernel) ⟨Nat.le_of_ble_eq_true rfl, Nat.le_of_ble_eq_true rfl⟩) ⟨zPre.blind, xw_recv hK hJ (ci := 9) rfl rfl (by decide) rfl, fun U hU hW => ⟨rfl, xw_pre hK3 hJ hS hA hst2 hU hW⟩⟩ rfl rfl hl.1 rfl (lv_room (Nat.le_of_ble_eq_true rfl)) dL_law_700 ⟨(show cells + 2 + 0 ≤ 602736 by omega), (show slots + 12 + 0 ≤ 7287896 by omega)⟩) hJ hS hA (fun H locs hJ hS => ?_)
    refine lv_istore (lv' := [(6, .int v), (5, .int r), (4, .int (nI i)), (3, .ref q), (2, .ref (L2 0 0)), (1, .ref (L 0 0)), (0, .ref b)]) hx hb dL_law_703 hl (by decide) rfl (fun ls hl => ?_)
    refine lv_aload_n hx hb dL_law_705 rfl (lv_at hl 4 rfl) ?_
    refine xw_after (E := zEM) (v := some (zI (σ1' 0 0 0))) (s' := (σ1', [])) (as := (σ1', [])) (Y := xlW cy cL L (σ2, []) q f1) (va_runV (As := []) (rest := []) ⟨hx, hb, hml, hown, hts⟩ (zM_X9_thrown.2 l D cy L2 [zO 0 0] (σ1', []) (σ1', []) (some (zI (σ1' 0 0 0))) H.size hfl rp_thrown) (cwV 0 hts gL_law_X9_thrown rfl rfl rfl (by decide +kernel) ⟨Nat.le_of_ble_eq_true rfl, Nat.le_of_ble_eq_true rfl⟩) ⟨zPre.blind, xw_recv hK hJ (ci := 9) rfl rfl (by decide) rfl, fun U hU hW => ⟨rfl, xw_pre hK3 hJ hS hA hst2 hU hW⟩⟩ rfl rfl hl.1 rfl (lv_room (Nat.le_of_ble_eq_true rfl)) dL_law_706 ⟨(show cells + 2 + 0 + 0 ≤ 602736 by omega), (show slots + 12 + 0 + 0 ≤ 7287896 by omega)⟩) hJ hS hA (fun H locs hJ hS => ?_)
    refine lv_iload hx hb dL_law_709 (lv_at hl 1 rfl) ?_
    refine lv_icmp_eq (tgt := 716) hx hb dL_law_711 (by decide) (fun _ => ?_) (fun hc9 => absurd (h0.trans hr0.symm) hc9)
    refine lv_iload hx hb dL_law_716 (lv_at hl 1 rfl) ?_
    refine lv_if_ne (tgt := 733) hx hb dL_law_718 (by decide) (fun hc9 => absurd hr0 hc9) (fun _ => ?_)
    refine lv_aload_n hx hb dL_law_721 rfl (lv_at hl 3 rfl) ?_
    refine lv_iconst (v := 0) hx hb dL_law_722 (by decide) ?_
    refine va_lald hx hb hK (xk_q hJ) 0 3 rfl rfl (i := 0) (vp_in_nI (show 0 < 1 by decide) (by decide)) dL_law_723 ?_
    refine lv_iload hx hb dL_law_724 (lv_at hl 0 rfl) ?_
    refine lv_i2l hx hb dL_law_726 rfl ?_
    refine W.lcmp hx hb dL_law_727 ?_
    refine lv_if_eq (tgt := 733) hx hb dL_law_728 (by decide) (fun _ => ?_) (fun hc9 => absurd ((lg_cmp_eq _ _).mpr hf1) hc9)
    refine lv_goto (tgt := 1235) hx hb dL_law_733 (by decide) ?_
    refine W.widen (k := cells + 16) (n := slots + 64) (show cells + 2 + 0 + 0 ≤ cells + 16 by omega) (show slots + 12 + 0 + 0 ≤ slots + 64 by omega) ?_
    exact K σ2 σ1' f1 H locs ls hrel1 (xw_swap hJ) hS (lv_sub hl [2, 3, 4, 5, 6] rfl)
  · refine xk_wrap (As := [.ref (L 0 0), .int (xs (i + 1)), .int (xs (i + 2)), .ref q]) (xl_number l (xs (i + 1)) (xs (i + 2)) D cy cL L σ q f H.size hfl (Or.inr ⟨x, σ1, eC, hx2, hne⟩)) ⟨hx, hb, hml, hown, hts⟩ (vx_cwSW 4 hts gL_law_L_number rfl rfl rfl (by decide +kernel) ⟨Nat.le_of_ble_eq_true rfl, Nat.le_of_ble_eq_true rfl⟩) hK hst hnc hJ hS hA rfl hl.1 dL_law_682 ⟨(show cells + 2 ≤ 602736 by omega), (show slots + 12 ≤ 7287896 by omega)⟩ (fun r σ2 f1 H locs hpost hJ hS => ?_)
    obtain ⟨hr0, hσ⟩ : r = zcd 0 1 2 x ∧ σ2 = σ1 := by
      rcases hpost with ⟨v9, e9, -⟩ | ⟨x9, e9, hr9⟩
      · have e9 := eC.symm.trans e9; cases e9
      · have e9 := eC.symm.trans e9; cases e9; exact ⟨hr9, rfl⟩
    subst hσ
    refine lv_istore (lv' := [(5, .int r), (4, .int (nI i)), (3, .ref q), (2, .ref (L2 0 0)), (1, .ref (L 0 0)), (0, .ref b)]) hx hb dL_law_685 hl (by decide) rfl (fun ls hl => ?_)
    refine lv_aload_n hx hb dL_law_687 rfl (lv_at hl 3 rfl) ?_
    refine xk_arg 1 hx hb hX hbl hS (lv_at hl 5 rfl) (lv_at hl 1 rfl) (by omega) hLn (by decide) dL_law_688 dL_law_689 dL_law_691 dL_law_692 dL_law_693 ?_
    refine xk_arg 2 hx hb hX hbl hS (lv_at hl 5 rfl) (lv_at hl 1 rfl) (by omega) hLn (by decide) dL_law_694 dL_law_695 dL_law_697 dL_law_698 dL_law_699 ?_
    have hJ := xw_swap hJ
    refine xw_after (E := zEM) (v := some (zI w)) (s' := (σ1', [])) (as := (σ', [])) (Y := xlW cy cL L (σ2, []) q f1) (va_runV (As := [.int (xs (i + 1)), .int (xs (i + 2))]) (rest := []) ⟨hx, hb, hml, hown, hts⟩ (zM_X9_number.2 l D cy L2 [zO 0 0, zI (xs (i + 1)), zI (xs (i + 2))] (σ', []) (σ1', []) (some (zI w)) H.size hfl eR) (cwV 2 hts gL_law_X9_number rfl rfl rfl (by decide +kernel) ⟨Nat.le_of_ble_eq_true rfl, Nat.le_of_ble_eq_true rfl⟩) ⟨zPre.blind, xw_recv hK hJ (ci := 9) rfl rfl (by decide) rfl, fun U hU hW => ⟨rfl, xw_pre hK3 hJ hS hA hst2 hU hW⟩⟩ rfl rfl hl.1 rfl (lv_room (Nat.le_of_ble_eq_true rfl)) dL_law_700 ⟨(show cells + 2 + 0 ≤ 602736 by omega), (show slots + 12 + 0 ≤ 7287896 by omega)⟩) hJ hS hA (fun H locs hJ hS => ?_)
    refine lv_istore (lv' := [(6, .int w), (5, .int r), (4, .int (nI i)), (3, .ref q), (2, .ref (L2 0 0)), (1, .ref (L 0 0)), (0, .ref b)]) hx hb dL_law_703 hl (by decide) rfl (fun ls hl => ?_)
    refine lv_aload_n hx hb dL_law_705 rfl (lv_at hl 4 rfl) ?_
    refine xw_after (E := zEM) (v := some (zI (σ1' 0 0 0))) (s' := (σ1', [])) (as := (σ1', [])) (Y := xlW cy cL L (σ2, []) q f1) (va_runV (As := []) (rest := []) ⟨hx, hb, hml, hown, hts⟩ (zM_X9_thrown.2 l D cy L2 [zO 0 0] (σ1', []) (σ1', []) (some (zI (σ1' 0 0 0))) H.size hfl rp_thrown) (cwV 0 hts gL_law_X9_thrown rfl rfl rfl (by decide +kernel) ⟨Nat.le_of_ble_eq_true rfl, Nat.le_of_ble_eq_true rfl⟩) ⟨zPre.blind, xw_recv hK hJ (ci := 9) rfl rfl (by decide) rfl, fun U hU hW => ⟨rfl, xw_pre hK3 hJ hS hA hst2 hU hW⟩⟩ rfl rfl hl.1 rfl (lv_room (Nat.le_of_ble_eq_true rfl)) dL_law_706 ⟨(show cells + 2 + 0 + 0 ≤ 602736 by omega), (show slots + 12 + 0 + 0 ≤ 7287896 by omega)⟩) hJ hS hA (fun H locs hJ hS => ?_)
    refine lv_iload hx hb dL_law_709 (lv_at hl 1 rfl) ?_
    refine lv_icmp_eq (tgt := 716) hx hb dL_law_711 (by decide) (fun _ => ?_) (fun hc9 => absurd (h0.trans hr0.symm) hc9)
    refine lv_iload hx hb dL_law_716 (lv_at hl 1 rfl) ?_
    refine lv_if_ne (tgt := 733) hx hb dL_law_718 (by decide) (fun _ => ?_) (fun hc9 => absurd (hr0.symm.trans hc9) hne)
    refine lv_goto (tgt := 1235) hx hb dL_law_733 (by decide) ?_
    refine W.widen (k := cells + 16) (n := slots + 64) (show cells + 2 + 0 + 0 ≤ cells + 16 by omega) (show slots + 12 + 0 + 0 ≤ slots + 64 by omega) ?_
    exact K σ2 σ1' f1 H locs ls hrel1 (xw_swap hJ) hS (lv_sub hl [2, 3, 4, 5, 6] rfl)
set_option maxHeartbeats 4000000 in
set_option maxRecDepth 100000 in
theorem xk_places {p : Program} {l : Launch} {e : Env} {s : State} {m : MethodId} {below : List Frame} {meth : Method} {c : Code} {H : Heap} {locs : List Loc} {cells slots : Nat} {Q : State → Prop} {ls : Array Slot} {b Ln : Nat} {xs : Nat → Int32} {D : va_G} {cy : Nat → ClassId} {cL : ClassId} {L L2 : Nat → Nat → Nat} {q i : Nat} {f : Nat → Int64} {σ σ' : zMem} (C : xlC p l s m c b Ln xs D cy cL L L2) (hi : i + 6 ≤ Ln) (hrel : zRel σ σ') (hJ : xJ D (xA s) (xlW cy cL L (σ, []) q f ++ zws zEM cy L2 (σ', [])) H) (hS : va_S (xA s) s.heap H locs) (hl : lv_has ls 9 [(4, .int (nI i)), (3, .ref q), (2, .ref (L2 0 0)), (1, .ref (L 0 0)), (0, .ref b)]) (hc : cells + 16 ≤ 602736) (hs : slots + 64 ≤ 7287896) (K : ∀ (σ σ' : zMem) (f : Nat → Int64) (H : Heap) (locs : List Loc) (ls : Array Slot), zRel σ σ' → xJ D (xA s) (xlW cy cL L (σ, []) q f ++ zws zEM cy L2 (σ', [])) H → va_S (xA s) s.heap H locs → lv_has ls 9 [(4, .int (nI i)), (3, .ref q), (2, .ref (L2 0 0)), (1, .ref (L 0 0)), (0, .ref b)] → W p l e room_1 s m #[Value.ref b] below meth c H locs (cells + 16) (slots + 64) Q (F0 m 1235 ls [])) : W p l e room_1 s m #[Value.ref b] below meth c H locs (cells) (slots) Q (F0 m 736 ls []) := by
  obtain ⟨hx, hb, hml, hown, hts, hX, hbl, hK, hst, hst2, hnc, hfl, hLn⟩ := C
  have hA : ∀ q : Nat, s.heap.size ≤ q → xA s q := fun _ h => h
  have hK3 : va_K D vwCl (ztys cy) s := hK.sub [0, 1, 2] rfl
  refine lv_aload_n hx hb dL_law_736 rfl (lv_at hl 3 rfl) ?_
  refine xk_arg 1 hx hb hX hbl hS (lv_at hl 4 rfl) (lv_at hl 0 rfl) (by omega) hLn (by decide) dL_law_737 dL_law_738 dL_law_740 dL_law_741 dL_law_742 ?_
  refine lv_aload_n hx hb dL_law_743 rfl (lv_at hl 1 rfl) ?_
  have aG : zAg [] [] (zcd 0 1 0) (m_X8_places [zO 0 0, zI (xs (i + 1))] (σ, [])) (m_X9_places [zO 0 0, zI (xs (i + 1))] (σ', [])) := ag_places hrel
  rcases aG with ⟨v, σ1, σ1', eC, eR, h0, hrel1⟩ | ⟨x, w, σ1, σ1', eC, eR, h0, hne, hx2, hrel1⟩
  · refine xk_wrap (As := [.ref (L 0 0), .int (xs (i + 1)), .ref q]) (xl_places l (xs (i + 1)) D cy cL L σ q f H.size hfl (Or.inl ⟨v, σ1, eC⟩)) ⟨hx, hb, hml, hown, hts⟩ (vx_cwSW 3 hts gL_law_L_places rfl rfl rfl (by decide +kernel) ⟨Nat.le_of_ble_eq_true rfl, Nat.le_of_ble_eq_true rfl⟩) hK hst hnc hJ hS hA rfl hl.1 dL_law_744 ⟨(show cells + 1 ≤ 602736 by omega), (show slots + 6 ≤ 7287896 by omega)⟩ (fun r σ2 f1 H locs hpost hJ hS => ?_)
    obtain ⟨hr0, hσ, hf1⟩ : r = 0 ∧ σ2 = σ1 ∧ f1 0 = v.toInt64 := by
      rcases hpost with ⟨v9, e9, hr9, hf9⟩ | ⟨x9, e9, -⟩
      · have e9 := eC.symm.trans e9; cases e9; exact ⟨hr9, rfl, hf9⟩
      · have e9 := eC.symm.trans e9; cases e9
    subst hσ
    refine lv_istore (lv' := [(5, .int r), (4, .int (nI i)), (3, .ref q), (2, .ref (L2 0 0)), (1, .ref (L 0 0)), (0, .ref b)]) hx hb dL_law_747 hl (by decide) rfl (fun ls hl => ?_)
    refine lv_aload_n hx hb dL_law_749 rfl (lv_at hl 3 rfl) ?_
    refine xk_arg 1 hx hb hX hbl hS (lv_at hl 5 rfl) (lv_at hl 1 rfl) (by omega) hLn (by decide) dL_law_750 dL_law_751 dL_law_753 dL_law_754 dL_law_755 ?_
    have hJ := xw_swap hJ
    refine xw_after (E := zEM) (v := some (zI v)) (s' := (σ1', [])) (as := (σ', [])) (Y := xlW cy cL L (σ2, []) q f1) (va_runV (As := [.int (xs (i + 1))]) (rest := []) ⟨hx, hb, hml, hown, hts⟩ (zM_X9_places.2 l D cy L2 [zO 0 0, zI (xs (i + 1))] (σ', []) (σ1', []) (some (zI v)) H.size hfl eR) (cwV 1 hts gL_law_X9_places rfl rfl rfl (by decide +kernel) ⟨Nat.le_of_ble_eq_true rfl, Nat.le_of_ble_eq_true rfl⟩) ⟨zPre.blind, xw_recv hK hJ (ci := 9) rfl rfl (by decide) rfl, fun U hU hW => ⟨rfl, xw_pre hK3 hJ hS hA hst2 hU hW⟩⟩ rfl rfl hl.1 rfl (lv_room (Nat.le_of_ble_eq_true rfl)) dL_law_756 ⟨(show cells + 1 + 0 ≤ 602736 by omega), (show slots + 6 + 0 ≤ 7287896 by omega)⟩) hJ hS hA (fun H locs hJ hS => ?_)
    refine lv_istore (lv' := [(6, .int v), (5, .int r), (4, .int (nI i)), (3, .ref q), (2, .ref (L2 0 0)), (1, .ref (L 0 0)), (0, .ref b)]) hx hb dL_law_759 hl (by decide) rfl (fun ls hl => ?_)
    refine lv_aload_n hx hb dL_law_761 rfl (lv_at hl 4 rfl) ?_
    refine xw_after (E := zEM) (v := some (zI (σ1' 0 0 0))) (s' := (σ1', [])) (as := (σ1', [])) (Y := xlW cy cL L (σ2, []) q f1) (va_runV (As := []) (rest := []) ⟨hx, hb, hml, hown, hts⟩ (zM_X9_thrown.2 l D cy L2 [zO 0 0] (σ1', []) (σ1', []) (some (zI (σ1' 0 0 0))) H.size hfl rp_thrown) (cwV 0 hts gL_law_X9_thrown rfl rfl rfl (by decide +kernel) ⟨Nat.le_of_ble_eq_true rfl, Nat.le_of_ble_eq_true rfl⟩) ⟨zPre.blind, xw_recv hK hJ (ci := 9) rfl rfl (by decide) rfl, fun U hU hW => ⟨rfl, xw_pre hK3 hJ hS hA hst2 hU hW⟩⟩ rfl rfl hl.1 rfl (lv_room (Nat.le_of_ble_eq_true rfl)) dL_law_762 ⟨(show cells + 1 + 0 + 0 ≤ 602736 by omega), (show slots + 6 + 0 + 0 ≤ 7287896 by omega)⟩) hJ hS hA (fun H locs hJ hS => ?_)
    refine lv_iload hx hb dL_law_765 (lv_at hl 1 rfl) ?_
    refine lv_icmp_eq (tgt := 772) hx hb dL_law_767 (by decide) (fun _ => ?_) (fun hc9 => absurd (h0.trans hr0.symm) hc9)
    refine lv_iload hx hb dL_law_772 (lv_at hl 1 rfl) ?_
    refine lv_if_ne (tgt := 789) hx hb dL_law_774 (by decide) (fun hc9 => absurd hr0 hc9) (fun _ => ?_)
    refine lv_aload_n hx hb dL_law_777 rfl (lv_at hl 3 rfl) ?_
    refine lv_iconst (v := 0) hx hb dL_law_778 (by decide) ?_
    refine va_lald hx hb hK (xk_q hJ) 0 3 rfl rfl (i := 0) (vp_in_nI (show 0 < 1 by decide) (by decide)) dL_law_779 ?_
    refine lv_iload hx hb dL_law_780 (lv_at hl 0 rfl) ?_
    refine lv_i2l hx hb dL_law_782 rfl ?_
    refine W.lcmp hx hb dL_law_783 ?_
    refine lv_if_eq (tgt := 789) hx hb dL_law_784 (by decide) (fun _ => ?_) (fun hc9 => absurd ((lg_cmp_eq _ _).mpr hf1) hc9)
    refine lv_goto (tgt := 1235) hx hb dL_law_789 (by decide) ?_
    refine W.widen (k := cells + 16) (n := slots + 64) (show cells + 1 + 0 + 0 ≤ cells + 16 by omega) (show slots + 6 + 0 + 0 ≤ slots + 64 by omega) ?_
    exact K σ2 σ1' f1 H locs ls hrel1 (xw_swap hJ) hS (lv_sub hl [2, 3, 4, 5, 6] rfl)
  · refine xk_wrap (As := [.ref (L 0 0), .int (xs (i + 1)), .ref q]) (xl_places l (xs (i + 1)) D cy cL L σ q f H.size hfl (Or.inr ⟨x, σ1, eC, hx2, hne⟩)) ⟨hx, hb, hml, hown, hts⟩ (vx_cwSW 3 hts gL_law_L_places rfl rfl rfl (by decide +kernel) ⟨Nat.le_of_ble_eq_true rfl, Nat.le_of_ble_eq_true rfl⟩) hK hst hnc hJ hS hA rfl hl.1 dL_law_744 ⟨(show cells + 1 ≤ 602736 by omega), (show slots + 6 ≤ 7287896 by omega)⟩ (fun r σ2 f1 H locs hpost hJ hS => ?_)
    obtain ⟨hr0, hσ⟩ : r = zcd 0 1 0 x ∧ σ2 = σ1 := by
      rcases hpost with ⟨v9, e9, -⟩ | ⟨x9, e9, hr9⟩
      · have e9 := eC.symm.trans e9; cases e9
      · have e9 := eC.symm.trans e9; cases e9; exact ⟨hr9, rfl⟩
    subst hσ
    refine lv_istore (lv' := [(5, .int r), (4, .int (nI i)), (3, .ref q), (2, .ref (L2 0 0)), (1, .ref (L 0 0)), (0, .ref b)]) hx hb dL_law_747 hl (by decide) rfl (fun ls hl => ?_)
    refine lv_aload_n hx hb dL_law_749 rfl (lv_at hl 3 rfl) ?_
    refine xk_arg 1 hx hb hX hbl hS (lv_at hl 5 rfl) (lv_at hl 1 rfl) (by omega) hLn (by decide) dL_law_750 dL_law_751 dL_law_753 dL_law_754 dL_law_755 ?_
    have hJ := xw_swap hJ
    refine xw_after (E := zEM) (v := some (zI w)) (s' := (σ1', [])) (as := (σ', [])) (Y := xlW cy cL L (σ2, []) q f1) (va_runV (As := [.int (xs (i + 1))]) (rest := []) ⟨hx, hb, hml, hown, hts⟩ (zM_X9_places.2 l D cy L2 [zO 0 0, zI (xs (i + 1))] (σ', []) (σ1', []) (some (zI w)) H.size hfl eR) (cwV 1 hts gL_law_X9_places rfl rfl rfl (by decide +kernel) ⟨Nat.le_of_ble_eq_true rfl, Nat.le_of_ble_eq_true rfl⟩) ⟨zPre.blind, xw_recv hK hJ (ci := 9) rfl rfl (by decide) rfl, fun U hU hW => ⟨rfl, xw_pre hK3 hJ hS hA hst2 hU hW⟩⟩ rfl rfl hl.1 rfl (lv_room (Nat.le_of_ble_eq_true rfl)) dL_law_756 ⟨(show cells + 1 + 0 ≤ 602736 by omega), (show slots + 6 + 0 ≤ 7287896 by omega)⟩) hJ hS hA (fun H locs hJ hS => ?_)
    refine lv_istore (lv' := [(6, .int w), (5, .int r), (4, .int (nI i)), (3, .ref q), (2, .ref (L2 0 0)), (1, .ref (L 0 0)), (0, .ref b)]) hx hb dL_law_759 hl (by decide) rfl (fun ls hl => ?_)
    refine lv_aload_n hx hb dL_law_761 rfl (lv_at hl 4 rfl) ?_
    refine xw_after (E := zEM) (v := some (zI (σ1' 0 0 0))) (s' := (σ1', [])) (as := (σ1', [])) (Y := xlW cy cL L (σ2, []) q f1) (va_runV (As := []) (rest := []) ⟨hx, hb, hml, hown, hts⟩ (zM_X9_thrown.2 l D cy L2 [zO 0 0] (σ1', []) (σ1', []) (some (zI (σ1' 0 0 0))) H.size hfl rp_thrown) (cwV 0 hts gL_law_X9_thrown rfl rfl rfl (by decide +kernel) ⟨Nat.le_of_ble_eq_true rfl, Nat.le_of_ble_eq_true rfl⟩) ⟨zPre.blind, xw_recv hK hJ (ci := 9) rfl rfl (by decide) rfl, fun U hU hW => ⟨rfl, xw_pre hK3 hJ hS hA hst2 hU hW⟩⟩ rfl rfl hl.1 rfl (lv_room (Nat.le_of_ble_eq_true rfl)) dL_law_762 ⟨(show cells + 1 + 0 + 0 ≤ 602736 by omega), (show slots + 6 + 0 + 0 ≤ 7287896 by omega)⟩) hJ hS hA (fun H locs hJ hS => ?_)
    refine lv_iload hx hb dL_law_765 (lv_at hl 1 rfl) ?_
    refine lv_icmp_eq (tgt := 772) hx hb dL_law_767 (by decide) (fun _ => ?_) (fun hc9 => absurd (h0.trans hr0.symm) hc9)
    refine lv_iload hx hb dL_law_772 (lv_at hl 1 rfl) ?_
    refine lv_if_ne (tgt := 789) hx hb dL_law_774 (by decide) (fun _ => ?_) (fun hc9 => absurd (hr0.symm.trans hc9) hne)
    refine lv_goto (tgt := 1235) hx hb dL_law_789 (by decide) ?_
    refine W.widen (k := cells + 16) (n := slots + 64) (show cells + 1 + 0 + 0 ≤ cells + 16 by omega) (show slots + 6 + 0 + 0 ≤ slots + 64 by omega) ?_
    exact K σ2 σ1' f1 H locs ls hrel1 (xw_swap hJ) hS (lv_sub hl [2, 3, 4, 5, 6] rfl)
set_option maxHeartbeats 4000000 in
set_option maxRecDepth 100000 in
theorem xk_square {p : Program} {l : Launch} {e : Env} {s : State} {m : MethodId} {below : List Frame} {meth : Method} {c : Code} {H : Heap} {locs : List Loc} {cells slots : Nat} {Q : State → Prop} {ls : Array Slot} {b Ln : Nat} {xs : Nat → Int32} {D : va_G} {cy : Nat → ClassId} {cL : ClassId} {L L2 : Nat → Nat → Nat} {q i : Nat} {f : Nat → Int64} {σ σ' : zMem} (C : xlC p l s m c b Ln xs D cy cL L L2) (hi : i + 6 ≤ Ln) (hrel : zRel σ σ') (hJ : xJ D (xA s) (xlW cy cL L (σ, []) q f ++ zws zEM cy L2 (σ', [])) H) (hS : va_S (xA s) s.heap H locs) (hl : lv_has ls 9 [(4, .int (nI i)), (3, .ref q), (2, .ref (L2 0 0)), (1, .ref (L 0 0)), (0, .ref b)]) (hc : cells + 16 ≤ 602736) (hs : slots + 64 ≤ 7287896) (K : ∀ (σ σ' : zMem) (f : Nat → Int64) (H : Heap) (locs : List Loc) (ls : Array Slot), zRel σ σ' → xJ D (xA s) (xlW cy cL L (σ, []) q f ++ zws zEM cy L2 (σ', [])) H → va_S (xA s) s.heap H locs → lv_has ls 9 [(4, .int (nI i)), (3, .ref q), (2, .ref (L2 0 0)), (1, .ref (L 0 0)), (0, .ref b)] → W p l e room_1 s m #[Value.ref b] below meth c H locs (cells + 16) (slots + 64) Q (F0 m 1235 ls [])) : W p l e room_1 s m #[Value.ref b] below meth c H locs (cells) (slots) Q (F0 m 792 ls []) := by
  obtain ⟨hx, hb, hml, hown, hts, hX, hbl, hK, hst, hst2, hnc, hfl, hLn⟩ := C
  have hA : ∀ q : Nat, s.heap.size ≤ q → xA s q := fun _ h => h
  have hK3 : va_K D vwCl (ztys cy) s := hK.sub [0, 1, 2] rfl
  refine lv_aload_n hx hb dL_law_792 rfl (lv_at hl 3 rfl) ?_
  refine xk_arg 1 hx hb hX hbl hS (lv_at hl 4 rfl) (lv_at hl 0 rfl) (by omega) hLn (by decide) dL_law_793 dL_law_794 dL_law_796 dL_law_797 dL_law_798 ?_
  refine xk_arg 2 hx hb hX hbl hS (lv_at hl 4 rfl) (lv_at hl 0 rfl) (by omega) hLn (by decide) dL_law_799 dL_law_800 dL_law_802 dL_law_803 dL_law_804 ?_
  refine lv_aload_n hx hb dL_law_805 rfl (lv_at hl 1 rfl) ?_
  have aG : zAg [] [] (zcd 0 1 2) (m_X8_square [zO 0 0, zI (xs (i + 1)), zI (xs (i + 2))] (σ, [])) (m_X9_square [zO 0 0, zI (xs (i + 1)), zI (xs (i + 2))] (σ', [])) := ag_square hrel
  rcases aG with ⟨v, σ1, σ1', eC, eR, h0, hrel1⟩ | ⟨x, w, σ1, σ1', eC, eR, h0, hne, hx2, hrel1⟩
  · refine xk_wrap (As := [.ref (L 0 0), .int (xs (i + 1)), .int (xs (i + 2)), .ref q]) (xl_square l (xs (i + 1)) (xs (i + 2)) D cy cL L σ q f H.size hfl (Or.inl ⟨v, σ1, eC⟩)) ⟨hx, hb, hml, hown, hts⟩ (vx_cwSW 4 hts gL_law_L_square rfl rfl rfl (by decide +kernel) ⟨Nat.le_of_ble_eq_true rfl, Nat.le_of_ble_eq_true rfl⟩) hK hst hnc hJ hS hA rfl hl.1 dL_law_806 ⟨(show cells + 2 ≤ 602736 by omega), (show slots + 12 ≤ 7287896 by omega)⟩ (fun r σ2 f1 H locs hpost hJ hS => ?_)
    obtain ⟨hr0, hσ, hf1⟩ : r = 0 ∧ σ2 = σ1 ∧ f1 0 = v.toInt64 := by
      rcases hpost with ⟨v9, e9, hr9, hf9⟩ | ⟨x9, e9, -⟩
      · have e9 := eC.symm.trans e9; cases e9; exact ⟨hr9, rfl, hf9⟩
      · have e9 := eC.symm.trans e9; cases e9
    subst hσ
    refine lv_istore (lv' := [(5, .int r), (4, .int (nI i)), (3, .ref q), (2, .ref (L2 0 0)), (1, .ref (L 0 0)), (0, .ref b)]) hx hb dL_law_809 hl (by decide) rfl (fun ls hl => ?_)
    refine lv_aload_n hx hb dL_law_811 rfl (lv_at hl 3 rfl) ?_
    refine xk_arg 1 hx hb hX hbl hS (lv_at hl 5 rfl) (lv_at hl 1 rfl) (by omega) hLn (by decide) dL_law_812 dL_law_813 dL_law_815 dL_law_816 dL_law_817 ?_
    refine xk_arg 2 hx hb hX hbl hS (lv_at hl 5 rfl) (lv_at hl 1 rfl) (by omega) hLn (by decide) dL_law_818 dL_law_819 dL_law_821 dL_law_822 dL_law_823 ?_
    have hJ := xw_swap hJ
    refine xw_after (E := zEM) (v := some (zI v)) (s' := (σ1', [])) (as := (σ', [])) (Y := xlW cy cL L (σ2, []) q f1) (va_runV (As := [.int (xs (i + 1)), .int (xs (i + 2))]) (rest := []) ⟨hx, hb, hml, hown, hts⟩ (zM_X9_square.2 l D cy L2 [zO 0 0, zI (xs (i + 1)), zI (xs (i + 2))] (σ', []) (σ1', []) (some (zI v)) H.size hfl eR) (cwV 2 hts gL_law_X9_square rfl rfl rfl (by decide +kernel) ⟨Nat.le_of_ble_eq_true rfl, Nat.le_of_ble_eq_true rfl⟩) ⟨zPre.blind, xw_recv hK hJ (ci := 9) rfl rfl (by decide) rfl, fun U hU hW => ⟨rfl, xw_pre hK3 hJ hS hA hst2 hU hW⟩⟩ rfl rfl hl.1 rfl (lv_room (Nat.le_of_ble_eq_true rfl)) dL_law_824 ⟨(show cells + 2 + 0 ≤ 602736 by omega), (show slots + 12 + 0 ≤ 7287896 by omega)⟩) hJ hS hA (fun H locs hJ hS => ?_)
    refine lv_istore (lv' := [(6, .int v), (5, .int r), (4, .int (nI i)), (3, .ref q), (2, .ref (L2 0 0)), (1, .ref (L 0 0)), (0, .ref b)]) hx hb dL_law_827 hl (by decide) rfl (fun ls hl => ?_)
    refine lv_aload_n hx hb dL_law_829 rfl (lv_at hl 4 rfl) ?_
    refine xw_after (E := zEM) (v := some (zI (σ1' 0 0 0))) (s' := (σ1', [])) (as := (σ1', [])) (Y := xlW cy cL L (σ2, []) q f1) (va_runV (As := []) (rest := []) ⟨hx, hb, hml, hown, hts⟩ (zM_X9_thrown.2 l D cy L2 [zO 0 0] (σ1', []) (σ1', []) (some (zI (σ1' 0 0 0))) H.size hfl rp_thrown) (cwV 0 hts gL_law_X9_thrown rfl rfl rfl (by decide +kernel) ⟨Nat.le_of_ble_eq_true rfl, Nat.le_of_ble_eq_true rfl⟩) ⟨zPre.blind, xw_recv hK hJ (ci := 9) rfl rfl (by decide) rfl, fun U hU hW => ⟨rfl, xw_pre hK3 hJ hS hA hst2 hU hW⟩⟩ rfl rfl hl.1 rfl (lv_room (Nat.le_of_ble_eq_true rfl)) dL_law_830 ⟨(show cells + 2 + 0 + 0 ≤ 602736 by omega), (show slots + 12 + 0 + 0 ≤ 7287896 by omega)⟩) hJ hS hA (fun H locs hJ hS => ?_)
    refine lv_iload hx hb dL_law_833 (lv_at hl 1 rfl) ?_
    refine lv_icmp_eq (tgt := 840) hx hb dL_law_835 (by decide) (fun _ => ?_) (fun hc9 => absurd (h0.trans hr0.symm) hc9)
    refine lv_iload hx hb dL_law_840 (lv_at hl 1 rfl) ?_
    refine lv_if_ne (tgt := 857) hx hb dL_law_842 (by decide) (fun hc9 => absurd hr0 hc9) (fun _ => ?_)
    refine lv_aload_n hx hb dL_law_845 rfl (lv_at hl 3 rfl) ?_
    refine lv_iconst (v := 0) hx hb dL_law_846 (by decide) ?_
    refine va_lald hx hb hK (xk_q hJ) 0 3 rfl rfl (i := 0) (vp_in_nI (show 0 < 1 by decide) (by decide)) dL_law_847 ?_
    refine lv_iload hx hb dL_law_848 (lv_at hl 0 rfl) ?_
    refine lv_i2l hx hb dL_law_850 rfl ?_
    refine W.lcmp hx hb dL_law_851 ?_
    refine lv_if_eq (tgt := 857) hx hb dL_law_852 (by decide) (fun _ => ?_) (fun hc9 => absurd ((lg_cmp_eq _ _).mpr hf1) hc9)
    refine lv_goto (tgt := 1235) hx hb dL_law_857 (by decide) ?_
    refine W.widen (k := cells + 16) (n := slots + 64) (show cells + 2 + 0 + 0 ≤ cells + 16 by omega) (show slots + 12 + 0 + 0 ≤ slots + 64 by omega) ?_
    exact K σ2 σ1' f1 H locs ls hrel1 (xw_swap hJ) hS (lv_sub hl [2, 3, 4, 5, 6] rfl)
  · refine xk_wrap (As := [.ref (L 0 0), .int (xs (i + 1)), .int (xs (i + 2)), .ref q]) (xl_square l (xs (i + 1)) (xs (i + 2)) D cy cL L σ q f H.size hfl (Or.inr ⟨x, σ1, eC, hx2, hne⟩)) ⟨hx, hb, hml, hown, hts⟩ (vx_cwSW 4 hts gL_law_L_square rfl rfl rfl (by decide +kernel) ⟨Nat.le_of_ble_eq_true rfl, Nat.le_of_ble_eq_true rfl⟩) hK hst hnc hJ hS hA rfl hl.1 dL_law_806 ⟨(show cells + 2 ≤ 602736 by omega), (show slots + 12 ≤ 7287896 by omega)⟩ (fun r σ2 f1 H locs hpost hJ hS => ?_)
    obtain ⟨hr0, hσ⟩ : r = zcd 0 1 2 x ∧ σ2 = σ1 := by
      rcases hpost with ⟨v9, e9, -⟩ | ⟨x9, e9, hr9⟩
      · have e9 := eC.symm.trans e9; cases e9
      · have e9 := eC.symm.trans e9; cases e9; exact ⟨hr9, rfl⟩
    subst hσ
    refine lv_istore (lv' := [(5, .int r), (4, .int (nI i)), (3, .ref q), (2, .ref (L2 0 0)), (1, .ref (L 0 0)), (0, .ref b)]) hx hb dL_law_809 hl (by decide) rfl (fun ls hl => ?_)
    refine lv_aload_n hx hb dL_law_811 rfl (lv_at hl 3 rfl) ?_
    refine xk_arg 1 hx hb hX hbl hS (lv_at hl 5 rfl) (lv_at hl 1 rfl) (by omega) hLn (by decide) dL_law_812 dL_law_813 dL_law_815 dL_law_816 dL_law_817 ?_
    refine xk_arg 2 hx hb hX hbl hS (lv_at hl 5 rfl) (lv_at hl 1 rfl) (by omega) hLn (by decide) dL_law_818 dL_law_819 dL_law_821 dL_law_822 dL_law_823 ?_
    have hJ := xw_swap hJ
    refine xw_after (E := zEM) (v := some (zI w)) (s' := (σ1', [])) (as := (σ', [])) (Y := xlW cy cL L (σ2, []) q f1) (va_runV (As := [.int (xs (i + 1)), .int (xs (i + 2))]) (rest := []) ⟨hx, hb, hml, hown, hts⟩ (zM_X9_square.2 l D cy L2 [zO 0 0, zI (xs (i + 1)), zI (xs (i + 2))] (σ', []) (σ1', []) (some (zI w)) H.size hfl eR) (cwV 2 hts gL_law_X9_square rfl rfl rfl (by decide +kernel) ⟨Nat.le_of_ble_eq_true rfl, Nat.le_of_ble_eq_true rfl⟩) ⟨zPre.blind, xw_recv hK hJ (ci := 9) rfl rfl (by decide) rfl, fun U hU hW => ⟨rfl, xw_pre hK3 hJ hS hA hst2 hU hW⟩⟩ rfl rfl hl.1 rfl (lv_room (Nat.le_of_ble_eq_true rfl)) dL_law_824 ⟨(show cells + 2 + 0 ≤ 602736 by omega), (show slots + 12 + 0 ≤ 7287896 by omega)⟩) hJ hS hA (fun H locs hJ hS => ?_)
    refine lv_istore (lv' := [(6, .int w), (5, .int r), (4, .int (nI i)), (3, .ref q), (2, .ref (L2 0 0)), (1, .ref (L 0 0)), (0, .ref b)]) hx hb dL_law_827 hl (by decide) rfl (fun ls hl => ?_)
    refine lv_aload_n hx hb dL_law_829 rfl (lv_at hl 4 rfl) ?_
    refine xw_after (E := zEM) (v := some (zI (σ1' 0 0 0))) (s' := (σ1', [])) (as := (σ1', [])) (Y := xlW cy cL L (σ2, []) q f1) (va_runV (As := []) (rest := []) ⟨hx, hb, hml, hown, hts⟩ (zM_X9_thrown.2 l D cy L2 [zO 0 0] (σ1', []) (σ1', []) (some (zI (σ1' 0 0 0))) H.size hfl rp_thrown) (cwV 0 hts gL_law_X9_thrown rfl rfl rfl (by decide +kernel) ⟨Nat.le_of_ble_eq_true rfl, Nat.le_of_ble_eq_true rfl⟩) ⟨zPre.blind, xw_recv hK hJ (ci := 9) rfl rfl (by decide) rfl, fun U hU hW => ⟨rfl, xw_pre hK3 hJ hS hA hst2 hU hW⟩⟩ rfl rfl hl.1 rfl (lv_room (Nat.le_of_ble_eq_true rfl)) dL_law_830 ⟨(show cells + 2 + 0 + 0 ≤ 602736 by omega), (show slots + 12 + 0 + 0 ≤ 7287896 by omega)⟩) hJ hS hA (fun H locs hJ hS => ?_)
    refine lv_iload hx hb dL_law_833 (lv_at hl 1 rfl) ?_
    refine lv_icmp_eq (tgt := 840) hx hb dL_law_835 (by decide) (fun _ => ?_) (fun hc9 => absurd (h0.trans hr0.symm) hc9)
    refine lv_iload hx hb dL_law_840 (lv_at hl 1 rfl) ?_
    refine lv_if_ne (tgt := 857) hx hb dL_law_842 (by decide) (fun _ => ?_) (fun hc9 => absurd (hr0.symm.trans hc9) hne)
    refine lv_goto (tgt := 1235) hx hb dL_law_857 (by decide) ?_
    refine W.widen (k := cells + 16) (n := slots + 64) (show cells + 2 + 0 + 0 ≤ cells + 16 by omega) (show slots + 12 + 0 + 0 ≤ slots + 64 by omega) ?_
    exact K σ2 σ1' f1 H locs ls hrel1 (xw_swap hJ) hS (lv_sub hl [2, 3, 4, 5, 6] rfl)
set_option maxHeartbeats 4000000 in
set_option maxRecDepth 100000 in
theorem xk_claim {p : Program} {l : Launch} {e : Env} {s : State} {m : MethodId} {below : List Frame} {meth : Method} {c : Code} {H : Heap} {locs : List Loc} {cells slots : Nat} {Q : State → Prop} {ls : Array Slot} {b Ln : Nat} {xs : Nat → Int32} {D : va_G} {cy : Nat → ClassId} {cL : ClassId} {L L2 : Nat → Nat → Nat} {q i : Nat} {f : Nat → Int64} {σ σ' : zMem} (C : xlC p l s m c b Ln xs D cy cL L L2) (hi : i + 6 ≤ Ln) (hrel : zRel σ σ') (hJ : xJ D (xA s) (xlW cy cL L (σ, []) q f ++ zws zEM cy L2 (σ', [])) H) (hS : va_S (xA s) s.heap H locs) (hl : lv_has ls 9 [(4, .int (nI i)), (3, .ref q), (2, .ref (L2 0 0)), (1, .ref (L 0 0)), (0, .ref b)]) (hc : cells + 16 ≤ 602736) (hs : slots + 64 ≤ 7287896) (K : ∀ (σ σ' : zMem) (f : Nat → Int64) (H : Heap) (locs : List Loc) (ls : Array Slot), zRel σ σ' → xJ D (xA s) (xlW cy cL L (σ, []) q f ++ zws zEM cy L2 (σ', [])) H → va_S (xA s) s.heap H locs → lv_has ls 9 [(4, .int (nI i)), (3, .ref q), (2, .ref (L2 0 0)), (1, .ref (L 0 0)), (0, .ref b)] → W p l e room_1 s m #[Value.ref b] below meth c H locs (cells + 16) (slots + 64) Q (F0 m 1235 ls [])) : W p l e room_1 s m #[Value.ref b] below meth c H locs (cells) (slots) Q (F0 m 860 ls []) := by
  obtain ⟨hx, hb, hml, hown, hts, hX, hbl, hK, hst, hst2, hnc, hfl, hLn⟩ := C
  have hA : ∀ q : Nat, s.heap.size ≤ q → xA s q := fun _ h => h
  have hK3 : va_K D vwCl (ztys cy) s := hK.sub [0, 1, 2] rfl
  refine lv_aload_n hx hb dL_law_860 rfl (lv_at hl 3 rfl) ?_
  refine xk_arg 1 hx hb hX hbl hS (lv_at hl 4 rfl) (lv_at hl 0 rfl) (by omega) hLn (by decide) dL_law_861 dL_law_862 dL_law_864 dL_law_865 dL_law_866 ?_
  refine xk_arg 2 hx hb hX hbl hS (lv_at hl 4 rfl) (lv_at hl 0 rfl) (by omega) hLn (by decide) dL_law_867 dL_law_868 dL_law_870 dL_law_871 dL_law_872 ?_
  refine xk_arg 3 hx hb hX hbl hS (lv_at hl 4 rfl) (lv_at hl 0 rfl) (by omega) hLn (by decide) dL_law_873 dL_law_874 dL_law_876 dL_law_877 dL_law_878 ?_
  refine xk_arg 4 hx hb hX hbl hS (lv_at hl 4 rfl) (lv_at hl 0 rfl) (by omega) hLn (by decide) dL_law_879 dL_law_880 dL_law_882 dL_law_883 dL_law_884 ?_
  refine xk_arg 5 hx hb hX hbl hS (lv_at hl 4 rfl) (lv_at hl 0 rfl) (by omega) hLn (by decide) dL_law_885 dL_law_886 dL_law_888 dL_law_889 dL_law_890 ?_
  refine lv_aload_n hx hb dL_law_891 rfl (lv_at hl 1 rfl) ?_
  have aG : zAg [] [] (zcd 1 2 3) (m_X8_claim [zO 0 0, zI (xs (i + 1)), zI (xs (i + 2)), zI (xs (i + 3)), zI (xs (i + 4)), zI (xs (i + 5))] (σ, [])) (m_X9_claim [zO 0 0, zI (xs (i + 1)), zI (xs (i + 2)), zI (xs (i + 3)), zI (xs (i + 4)), zI (xs (i + 5))] (σ', [])) := ag_claim hrel
  rcases aG with ⟨v, σ1, σ1', eC, eR, h0, hrel1⟩ | ⟨x, w, σ1, σ1', eC, eR, h0, hne, hx2, hrel1⟩
  · refine xk_wrap (As := [.ref (L 0 0), .int (xs (i + 1)), .int (xs (i + 2)), .int (xs (i + 3)), .int (xs (i + 4)), .int (xs (i + 5)), .ref q]) (xl_claim l (xs (i + 1)) (xs (i + 2)) (xs (i + 3)) (xs (i + 4)) (xs (i + 5)) D cy cL L σ q f H.size hfl (Or.inl ⟨v, σ1, eC⟩)) ⟨hx, hb, hml, hown, hts⟩ (vx_cwSW 7 hts gL_law_L_claim rfl rfl rfl (by decide +kernel) ⟨Nat.le_of_ble_eq_true rfl, Nat.le_of_ble_eq_true rfl⟩) hK hst hnc hJ hS hA rfl hl.1 dL_law_892 ⟨(show cells + 5 ≤ 602736 by omega), (show slots + 30 ≤ 7287896 by omega)⟩ (fun r σ2 f1 H locs hpost hJ hS => ?_)
    obtain ⟨hr0, hσ, hf1⟩ : r = 0 ∧ σ2 = σ1 ∧ f1 0 = v.toInt64 := by
      rcases hpost with ⟨v9, e9, hr9, hf9⟩ | ⟨x9, e9, -⟩
      · have e9 := eC.symm.trans e9; cases e9; exact ⟨hr9, rfl, hf9⟩
      · have e9 := eC.symm.trans e9; cases e9
    subst hσ
    refine lv_istore (lv' := [(5, .int r), (4, .int (nI i)), (3, .ref q), (2, .ref (L2 0 0)), (1, .ref (L 0 0)), (0, .ref b)]) hx hb dL_law_895 hl (by decide) rfl (fun ls hl => ?_)
    refine lv_aload_n hx hb dL_law_897 rfl (lv_at hl 3 rfl) ?_
    refine xk_arg 1 hx hb hX hbl hS (lv_at hl 5 rfl) (lv_at hl 1 rfl) (by omega) hLn (by decide) dL_law_898 dL_law_899 dL_law_901 dL_law_902 dL_law_903 ?_
    refine xk_arg 2 hx hb hX hbl hS (lv_at hl 5 rfl) (lv_at hl 1 rfl) (by omega) hLn (by decide) dL_law_904 dL_law_905 dL_law_907 dL_law_908 dL_law_909 ?_
    refine xk_arg 3 hx hb hX hbl hS (lv_at hl 5 rfl) (lv_at hl 1 rfl) (by omega) hLn (by decide) dL_law_910 dL_law_911 dL_law_913 dL_law_914 dL_law_915 ?_
    refine xk_arg 4 hx hb hX hbl hS (lv_at hl 5 rfl) (lv_at hl 1 rfl) (by omega) hLn (by decide) dL_law_916 dL_law_917 dL_law_919 dL_law_920 dL_law_921 ?_
    refine xk_arg 5 hx hb hX hbl hS (lv_at hl 5 rfl) (lv_at hl 1 rfl) (by omega) hLn (by decide) dL_law_922 dL_law_923 dL_law_925 dL_law_926 dL_law_927 ?_
    have hJ := xw_swap hJ
    refine xw_after (E := zEM) (v := some (zI v)) (s' := (σ1', [])) (as := (σ', [])) (Y := xlW cy cL L (σ2, []) q f1) (va_runV (As := [.int (xs (i + 1)), .int (xs (i + 2)), .int (xs (i + 3)), .int (xs (i + 4)), .int (xs (i + 5))]) (rest := []) ⟨hx, hb, hml, hown, hts⟩ (zM_X9_claim.2 l D cy L2 [zO 0 0, zI (xs (i + 1)), zI (xs (i + 2)), zI (xs (i + 3)), zI (xs (i + 4)), zI (xs (i + 5))] (σ', []) (σ1', []) (some (zI v)) H.size hfl eR) (cwV 5 hts gL_law_X9_claim rfl rfl rfl (by decide +kernel) ⟨Nat.le_of_ble_eq_true rfl, Nat.le_of_ble_eq_true rfl⟩) ⟨zPre.blind, xw_recv hK hJ (ci := 9) rfl rfl (by decide) rfl, fun U hU hW => ⟨rfl, xw_pre hK3 hJ hS hA hst2 hU hW⟩⟩ rfl rfl hl.1 rfl (lv_room (Nat.le_of_ble_eq_true rfl)) dL_law_928 ⟨(show cells + 5 + 2 ≤ 602736 by omega), (show slots + 30 + 22 ≤ 7287896 by omega)⟩) hJ hS hA (fun H locs hJ hS => ?_)
    refine lv_istore (lv' := [(6, .int v), (5, .int r), (4, .int (nI i)), (3, .ref q), (2, .ref (L2 0 0)), (1, .ref (L 0 0)), (0, .ref b)]) hx hb dL_law_931 hl (by decide) rfl (fun ls hl => ?_)
    refine lv_aload_n hx hb dL_law_933 rfl (lv_at hl 4 rfl) ?_
    refine xw_after (E := zEM) (v := some (zI (σ1' 0 0 0))) (s' := (σ1', [])) (as := (σ1', [])) (Y := xlW cy cL L (σ2, []) q f1) (va_runV (As := []) (rest := []) ⟨hx, hb, hml, hown, hts⟩ (zM_X9_thrown.2 l D cy L2 [zO 0 0] (σ1', []) (σ1', []) (some (zI (σ1' 0 0 0))) H.size hfl rp_thrown) (cwV 0 hts gL_law_X9_thrown rfl rfl rfl (by decide +kernel) ⟨Nat.le_of_ble_eq_true rfl, Nat.le_of_ble_eq_true rfl⟩) ⟨zPre.blind, xw_recv hK hJ (ci := 9) rfl rfl (by decide) rfl, fun U hU hW => ⟨rfl, xw_pre hK3 hJ hS hA hst2 hU hW⟩⟩ rfl rfl hl.1 rfl (lv_room (Nat.le_of_ble_eq_true rfl)) dL_law_934 ⟨(show cells + 5 + 2 + 0 ≤ 602736 by omega), (show slots + 30 + 22 + 0 ≤ 7287896 by omega)⟩) hJ hS hA (fun H locs hJ hS => ?_)
    refine lv_iload hx hb dL_law_937 (lv_at hl 1 rfl) ?_
    refine lv_icmp_eq (tgt := 944) hx hb dL_law_939 (by decide) (fun _ => ?_) (fun hc9 => absurd (h0.trans hr0.symm) hc9)
    refine lv_iload hx hb dL_law_944 (lv_at hl 1 rfl) ?_
    refine lv_if_ne (tgt := 961) hx hb dL_law_946 (by decide) (fun hc9 => absurd hr0 hc9) (fun _ => ?_)
    refine lv_aload_n hx hb dL_law_949 rfl (lv_at hl 3 rfl) ?_
    refine lv_iconst (v := 0) hx hb dL_law_950 (by decide) ?_
    refine va_lald hx hb hK (xk_q hJ) 0 3 rfl rfl (i := 0) (vp_in_nI (show 0 < 1 by decide) (by decide)) dL_law_951 ?_
    refine lv_iload hx hb dL_law_952 (lv_at hl 0 rfl) ?_
    refine lv_i2l hx hb dL_law_954 rfl ?_
    refine W.lcmp hx hb dL_law_955 ?_
    refine lv_if_eq (tgt := 961) hx hb dL_law_956 (by decide) (fun _ => ?_) (fun hc9 => absurd ((lg_cmp_eq _ _).mpr hf1) hc9)
    refine lv_goto (tgt := 1235) hx hb dL_law_961 (by decide) ?_
    refine W.widen (k := cells + 16) (n := slots + 64) (show cells + 5 + 2 + 0 ≤ cells + 16 by omega) (show slots + 30 + 22 + 0 ≤ slots + 64 by omega) ?_
    exact K σ2 σ1' f1 H locs ls hrel1 (xw_swap hJ) hS (lv_sub hl [2, 3, 4, 5, 6] rfl)
  · refine xk_wrap (As := [.ref (L 0 0), .int (xs (i + 1)), .int (xs (i + 2)), .int (xs (i + 3)), .int (xs (i + 4)), .int (xs (i + 5)), .ref q]) (xl_claim l (xs (i + 1)) (xs (i + 2)) (xs (i + 3)) (xs (i + 4)) (xs (i + 5)) D cy cL L σ q f H.size hfl (Or.inr ⟨x, σ1, eC, hx2, hne⟩)) ⟨hx, hb, hml, hown, hts⟩ (vx_cwSW 7 hts gL_law_L_claim rfl rfl rfl (by decide +kernel) ⟨Nat.le_of_ble_eq_true rfl, Nat.le_of_ble_eq_true rfl⟩) hK hst hnc hJ hS hA rfl hl.1 dL_law_892 ⟨(show cells + 5 ≤ 602736 by omega), (show slots + 30 ≤ 7287896 by omega)⟩ (fun r σ2 f1 H locs hpost hJ hS => ?_)
    obtain ⟨hr0, hσ⟩ : r = zcd 1 2 3 x ∧ σ2 = σ1 := by
      rcases hpost with ⟨v9, e9, -⟩ | ⟨x9, e9, hr9⟩
      · have e9 := eC.symm.trans e9; cases e9
      · have e9 := eC.symm.trans e9; cases e9; exact ⟨hr9, rfl⟩
    subst hσ
    refine lv_istore (lv' := [(5, .int r), (4, .int (nI i)), (3, .ref q), (2, .ref (L2 0 0)), (1, .ref (L 0 0)), (0, .ref b)]) hx hb dL_law_895 hl (by decide) rfl (fun ls hl => ?_)
    refine lv_aload_n hx hb dL_law_897 rfl (lv_at hl 3 rfl) ?_
    refine xk_arg 1 hx hb hX hbl hS (lv_at hl 5 rfl) (lv_at hl 1 rfl) (by omega) hLn (by decide) dL_law_898 dL_law_899 dL_law_901 dL_law_902 dL_law_903 ?_
    refine xk_arg 2 hx hb hX hbl hS (lv_at hl 5 rfl) (lv_at hl 1 rfl) (by omega) hLn (by decide) dL_law_904 dL_law_905 dL_law_907 dL_law_908 dL_law_909 ?_
    refine xk_arg 3 hx hb hX hbl hS (lv_at hl 5 rfl) (lv_at hl 1 rfl) (by omega) hLn (by decide) dL_law_910 dL_law_911 dL_law_913 dL_law_914 dL_law_915 ?_
    refine xk_arg 4 hx hb hX hbl hS (lv_at hl 5 rfl) (lv_at hl 1 rfl) (by omega) hLn (by decide) dL_law_916 dL_law_917 dL_law_919 dL_law_920 dL_law_921 ?_
    refine xk_arg 5 hx hb hX hbl hS (lv_at hl 5 rfl) (lv_at hl 1 rfl) (by omega) hLn (by decide) dL_law_922 dL_law_923 dL_law_925 dL_law_926 dL_law_927 ?_
    have hJ := xw_swap hJ
    refine xw_after (E := zEM) (v := some (zI w)) (s' := (σ1', [])) (as := (σ', [])) (Y := xlW cy cL L (σ2, []) q f1) (va_runV (As := [.int (xs (i + 1)), .int (xs (i + 2)), .int (xs (i + 3)), .int (xs (i + 4)), .int (xs (i + 5))]) (rest := []) ⟨hx, hb, hml, hown, hts⟩ (zM_X9_claim.2 l D cy L2 [zO 0 0, zI (xs (i + 1)), zI (xs (i + 2)), zI (xs (i + 3)), zI (xs (i + 4)), zI (xs (i + 5))] (σ', []) (σ1', []) (some (zI w)) H.size hfl eR) (cwV 5 hts gL_law_X9_claim rfl rfl rfl (by decide +kernel) ⟨Nat.le_of_ble_eq_true rfl, Nat.le_of_ble_eq_true rfl⟩) ⟨zPre.blind, xw_recv hK hJ (ci := 9) rfl rfl (by decide) rfl, fun U hU hW => ⟨rfl, xw_pre hK3 hJ hS hA hst2 hU hW⟩⟩ rfl rfl hl.1 rfl (lv_room (Nat.le_of_ble_eq_true rfl)) dL_law_928 ⟨(show cells + 5 + 2 ≤ 602736 by omega), (show slots + 30 + 22 ≤ 7287896 by omega)⟩) hJ hS hA (fun H locs hJ hS => ?_)
    refine lv_istore (lv' := [(6, .int w), (5, .int r), (4, .int (nI i)), (3, .ref q), (2, .ref (L2 0 0)), (1, .ref (L 0 0)), (0, .ref b)]) hx hb dL_law_931 hl (by decide) rfl (fun ls hl => ?_)
    refine lv_aload_n hx hb dL_law_933 rfl (lv_at hl 4 rfl) ?_
    refine xw_after (E := zEM) (v := some (zI (σ1' 0 0 0))) (s' := (σ1', [])) (as := (σ1', [])) (Y := xlW cy cL L (σ2, []) q f1) (va_runV (As := []) (rest := []) ⟨hx, hb, hml, hown, hts⟩ (zM_X9_thrown.2 l D cy L2 [zO 0 0] (σ1', []) (σ1', []) (some (zI (σ1' 0 0 0))) H.size hfl rp_thrown) (cwV 0 hts gL_law_X9_thrown rfl rfl rfl (by decide +kernel) ⟨Nat.le_of_ble_eq_true rfl, Nat.le_of_ble_eq_true rfl⟩) ⟨zPre.blind, xw_recv hK hJ (ci := 9) rfl rfl (by decide) rfl, fun U hU hW => ⟨rfl, xw_pre hK3 hJ hS hA hst2 hU hW⟩⟩ rfl rfl hl.1 rfl (lv_room (Nat.le_of_ble_eq_true rfl)) dL_law_934 ⟨(show cells + 5 + 2 + 0 ≤ 602736 by omega), (show slots + 30 + 22 + 0 ≤ 7287896 by omega)⟩) hJ hS hA (fun H locs hJ hS => ?_)
    refine lv_iload hx hb dL_law_937 (lv_at hl 1 rfl) ?_
    refine lv_icmp_eq (tgt := 944) hx hb dL_law_939 (by decide) (fun _ => ?_) (fun hc9 => absurd (h0.trans hr0.symm) hc9)
    refine lv_iload hx hb dL_law_944 (lv_at hl 1 rfl) ?_
    refine lv_if_ne (tgt := 961) hx hb dL_law_946 (by decide) (fun _ => ?_) (fun hc9 => absurd (hr0.symm.trans hc9) hne)
    refine lv_goto (tgt := 1235) hx hb dL_law_961 (by decide) ?_
    refine W.widen (k := cells + 16) (n := slots + 64) (show cells + 5 + 2 + 0 ≤ cells + 16 by omega) (show slots + 30 + 22 + 0 ≤ slots + 64 by omega) ?_
    exact K σ2 σ1' f1 H locs ls hrel1 (xw_swap hJ) hS (lv_sub hl [2, 3, 4, 5, 6] rfl)
set_option maxHeartbeats 4000000 in
set_option maxRecDepth 100000 in
theorem xk_holds {p : Program} {l : Launch} {e : Env} {s : State} {m : MethodId} {below : List Frame} {meth : Method} {c : Code} {H : Heap} {locs : List Loc} {cells slots : Nat} {Q : State → Prop} {ls : Array Slot} {b Ln : Nat} {xs : Nat → Int32} {D : va_G} {cy : Nat → ClassId} {cL : ClassId} {L L2 : Nat → Nat → Nat} {q i : Nat} {f : Nat → Int64} {σ σ' : zMem} (C : xlC p l s m c b Ln xs D cy cL L L2) (hi : i + 6 ≤ Ln) (hrel : zRel σ σ') (hJ : xJ D (xA s) (xlW cy cL L (σ, []) q f ++ zws zEM cy L2 (σ', [])) H) (hS : va_S (xA s) s.heap H locs) (hl : lv_has ls 9 [(4, .int (nI i)), (3, .ref q), (2, .ref (L2 0 0)), (1, .ref (L 0 0)), (0, .ref b)]) (hc : cells + 16 ≤ 602736) (hs : slots + 64 ≤ 7287896) (K : ∀ (σ σ' : zMem) (f : Nat → Int64) (H : Heap) (locs : List Loc) (ls : Array Slot), zRel σ σ' → xJ D (xA s) (xlW cy cL L (σ, []) q f ++ zws zEM cy L2 (σ', [])) H → va_S (xA s) s.heap H locs → lv_has ls 9 [(4, .int (nI i)), (3, .ref q), (2, .ref (L2 0 0)), (1, .ref (L 0 0)), (0, .ref b)] → W p l e room_1 s m #[Value.ref b] below meth c H locs (cells + 16) (slots + 64) Q (F0 m 1235 ls [])) : W p l e room_1 s m #[Value.ref b] below meth c H locs (cells) (slots) Q (F0 m 964 ls []) := by
  obtain ⟨hx, hb, hml, hown, hts, hX, hbl, hK, hst, hst2, hnc, hfl, hLn⟩ := C
  have hA : ∀ q : Nat, s.heap.size ≤ q → xA s q := fun _ h => h
  have hK3 : va_K D vwCl (ztys cy) s := hK.sub [0, 1, 2] rfl
  refine lv_aload_n hx hb dL_law_964 rfl (lv_at hl 3 rfl) ?_
  refine xk_arg 1 hx hb hX hbl hS (lv_at hl 4 rfl) (lv_at hl 0 rfl) (by omega) hLn (by decide) dL_law_965 dL_law_966 dL_law_968 dL_law_969 dL_law_970 ?_
  refine lv_aload_n hx hb dL_law_971 rfl (lv_at hl 1 rfl) ?_
  have aG : zAg [] [] (zcd 0 1 0) (m_X8_holds [zO 0 0, zI (xs (i + 1))] (σ, [])) (m_X9_holds [zO 0 0, zI (xs (i + 1))] (σ', [])) := ag_holds hrel
  rcases aG with ⟨v, σ1, σ1', eC, eR, h0, hrel1⟩ | ⟨x, w, σ1, σ1', eC, eR, h0, hne, hx2, hrel1⟩
  · refine xk_wrap (As := [.ref (L 0 0), .int (xs (i + 1)), .ref q]) (xl_holds l (xs (i + 1)) D cy cL L σ q f H.size hfl (Or.inl ⟨v, σ1, eC⟩)) ⟨hx, hb, hml, hown, hts⟩ (vx_cwSW 3 hts gL_law_L_holds rfl rfl rfl (by decide +kernel) ⟨Nat.le_of_ble_eq_true rfl, Nat.le_of_ble_eq_true rfl⟩) hK hst hnc hJ hS hA rfl hl.1 dL_law_972 ⟨(show cells + 1 ≤ 602736 by omega), (show slots + 6 ≤ 7287896 by omega)⟩ (fun r σ2 f1 H locs hpost hJ hS => ?_)
    obtain ⟨hr0, hσ, hf1⟩ : r = 0 ∧ σ2 = σ1 ∧ f1 0 = v.toInt64 := by
      rcases hpost with ⟨v9, e9, hr9, hf9⟩ | ⟨x9, e9, -⟩
      · have e9 := eC.symm.trans e9; cases e9; exact ⟨hr9, rfl, hf9⟩
      · have e9 := eC.symm.trans e9; cases e9
    subst hσ
    refine lv_istore (lv' := [(5, .int r), (4, .int (nI i)), (3, .ref q), (2, .ref (L2 0 0)), (1, .ref (L 0 0)), (0, .ref b)]) hx hb dL_law_975 hl (by decide) rfl (fun ls hl => ?_)
    refine lv_aload_n hx hb dL_law_977 rfl (lv_at hl 3 rfl) ?_
    refine xk_arg 1 hx hb hX hbl hS (lv_at hl 5 rfl) (lv_at hl 1 rfl) (by omega) hLn (by decide) dL_law_978 dL_law_979 dL_law_981 dL_law_982 dL_law_983 ?_
    have hJ := xw_swap hJ
    refine xw_after (E := zEM) (v := some (zI v)) (s' := (σ1', [])) (as := (σ', [])) (Y := xlW cy cL L (σ2, []) q f1) (va_runV (As := [.int (xs (i + 1))]) (rest := []) ⟨hx, hb, hml, hown, hts⟩ (zM_X9_holds.2 l D cy L2 [zO 0 0, zI (xs (i + 1))] (σ', []) (σ1', []) (some (zI v)) H.size hfl eR) (cwV 1 hts gL_law_X9_holds rfl rfl rfl (by decide +kernel) ⟨Nat.le_of_ble_eq_true rfl, Nat.le_of_ble_eq_true rfl⟩) ⟨zPre.blind, xw_recv hK hJ (ci := 9) rfl rfl (by decide) rfl, fun U hU hW => ⟨rfl, xw_pre hK3 hJ hS hA hst2 hU hW⟩⟩ rfl rfl hl.1 rfl (lv_room (Nat.le_of_ble_eq_true rfl)) dL_law_984 ⟨(show cells + 1 + 0 ≤ 602736 by omega), (show slots + 6 + 0 ≤ 7287896 by omega)⟩) hJ hS hA (fun H locs hJ hS => ?_)
    refine lv_istore (lv' := [(6, .int v), (5, .int r), (4, .int (nI i)), (3, .ref q), (2, .ref (L2 0 0)), (1, .ref (L 0 0)), (0, .ref b)]) hx hb dL_law_987 hl (by decide) rfl (fun ls hl => ?_)
    refine lv_aload_n hx hb dL_law_989 rfl (lv_at hl 4 rfl) ?_
    refine xw_after (E := zEM) (v := some (zI (σ1' 0 0 0))) (s' := (σ1', [])) (as := (σ1', [])) (Y := xlW cy cL L (σ2, []) q f1) (va_runV (As := []) (rest := []) ⟨hx, hb, hml, hown, hts⟩ (zM_X9_thrown.2 l D cy L2 [zO 0 0] (σ1', []) (σ1', []) (some (zI (σ1' 0 0 0))) H.size hfl rp_thrown) (cwV 0 hts gL_law_X9_thrown rfl rfl rfl (by decide +kernel) ⟨Nat.le_of_ble_eq_true rfl, Nat.le_of_ble_eq_true rfl⟩) ⟨zPre.blind, xw_recv hK hJ (ci := 9) rfl rfl (by decide) rfl, fun U hU hW => ⟨rfl, xw_pre hK3 hJ hS hA hst2 hU hW⟩⟩ rfl rfl hl.1 rfl (lv_room (Nat.le_of_ble_eq_true rfl)) dL_law_990 ⟨(show cells + 1 + 0 + 0 ≤ 602736 by omega), (show slots + 6 + 0 + 0 ≤ 7287896 by omega)⟩) hJ hS hA (fun H locs hJ hS => ?_)
    refine lv_iload hx hb dL_law_993 (lv_at hl 1 rfl) ?_
    refine lv_icmp_eq (tgt := 1000) hx hb dL_law_995 (by decide) (fun _ => ?_) (fun hc9 => absurd (h0.trans hr0.symm) hc9)
    refine lv_iload hx hb dL_law_1000 (lv_at hl 1 rfl) ?_
    refine lv_if_ne (tgt := 1017) hx hb dL_law_1002 (by decide) (fun hc9 => absurd hr0 hc9) (fun _ => ?_)
    refine lv_aload_n hx hb dL_law_1005 rfl (lv_at hl 3 rfl) ?_
    refine lv_iconst (v := 0) hx hb dL_law_1006 (by decide) ?_
    refine va_lald hx hb hK (xk_q hJ) 0 3 rfl rfl (i := 0) (vp_in_nI (show 0 < 1 by decide) (by decide)) dL_law_1007 ?_
    refine lv_iload hx hb dL_law_1008 (lv_at hl 0 rfl) ?_
    refine lv_i2l hx hb dL_law_1010 rfl ?_
    refine W.lcmp hx hb dL_law_1011 ?_
    refine lv_if_eq (tgt := 1017) hx hb dL_law_1012 (by decide) (fun _ => ?_) (fun hc9 => absurd ((lg_cmp_eq _ _).mpr hf1) hc9)
    refine lv_goto (tgt := 1235) hx hb dL_law_1017 (by decide) ?_
    refine W.widen (k := cells + 16) (n := slots + 64) (show cells + 1 + 0 + 0 ≤ cells + 16 by omega) (show slots + 6 + 0 + 0 ≤ slots + 64 by omega) ?_
    exact K σ2 σ1' f1 H locs ls hrel1 (xw_swap hJ) hS (lv_sub hl [2, 3, 4, 5, 6] rfl)
  · refine xk_wrap (As := [.ref (L 0 0), .int (xs (i + 1)), .ref q]) (xl_holds l (xs (i + 1)) D cy cL L σ q f H.size hfl (Or.inr ⟨x, σ1, eC, hx2, hne⟩)) ⟨hx, hb, hml, hown, hts⟩ (vx_cwSW 3 hts gL_law_L_holds rfl rfl rfl (by decide +kernel) ⟨Nat.le_of_ble_eq_true rfl, Nat.le_of_ble_eq_true rfl⟩) hK hst hnc hJ hS hA rfl hl.1 dL_law_972 ⟨(show cells + 1 ≤ 602736 by omega), (show slots + 6 ≤ 7287896 by omega)⟩ (fun r σ2 f1 H locs hpost hJ hS => ?_)
    obtain ⟨hr0, hσ⟩ : r = zcd 0 1 0 x ∧ σ2 = σ1 := by
      rcases hpost with ⟨v9, e9, -⟩ | ⟨x9, e9, hr9⟩
      · have e9 := eC.symm.trans e9; cases e9
      · have e9 := eC.symm.trans e9; cases e9; exact ⟨hr9, rfl⟩
    subst hσ
    refine lv_istore (lv' := [(5, .int r), (4, .int (nI i)), (3, .ref q), (2, .ref (L2 0 0)), (1, .ref (L 0 0)), (0, .ref b)]) hx hb dL_law_975 hl (by decide) rfl (fun ls hl => ?_)
    refine lv_aload_n hx hb dL_law_977 rfl (lv_at hl 3 rfl) ?_
    refine xk_arg 1 hx hb hX hbl hS (lv_at hl 5 rfl) (lv_at hl 1 rfl) (by omega) hLn (by decide) dL_law_978 dL_law_979 dL_law_981 dL_law_982 dL_law_983 ?_
    have hJ := xw_swap hJ
    refine xw_after (E := zEM) (v := some (zI w)) (s' := (σ1', [])) (as := (σ', [])) (Y := xlW cy cL L (σ2, []) q f1) (va_runV (As := [.int (xs (i + 1))]) (rest := []) ⟨hx, hb, hml, hown, hts⟩ (zM_X9_holds.2 l D cy L2 [zO 0 0, zI (xs (i + 1))] (σ', []) (σ1', []) (some (zI w)) H.size hfl eR) (cwV 1 hts gL_law_X9_holds rfl rfl rfl (by decide +kernel) ⟨Nat.le_of_ble_eq_true rfl, Nat.le_of_ble_eq_true rfl⟩) ⟨zPre.blind, xw_recv hK hJ (ci := 9) rfl rfl (by decide) rfl, fun U hU hW => ⟨rfl, xw_pre hK3 hJ hS hA hst2 hU hW⟩⟩ rfl rfl hl.1 rfl (lv_room (Nat.le_of_ble_eq_true rfl)) dL_law_984 ⟨(show cells + 1 + 0 ≤ 602736 by omega), (show slots + 6 + 0 ≤ 7287896 by omega)⟩) hJ hS hA (fun H locs hJ hS => ?_)
    refine lv_istore (lv' := [(6, .int w), (5, .int r), (4, .int (nI i)), (3, .ref q), (2, .ref (L2 0 0)), (1, .ref (L 0 0)), (0, .ref b)]) hx hb dL_law_987 hl (by decide) rfl (fun ls hl => ?_)
    refine lv_aload_n hx hb dL_law_989 rfl (lv_at hl 4 rfl) ?_
    refine xw_after (E := zEM) (v := some (zI (σ1' 0 0 0))) (s' := (σ1', [])) (as := (σ1', [])) (Y := xlW cy cL L (σ2, []) q f1) (va_runV (As := []) (rest := []) ⟨hx, hb, hml, hown, hts⟩ (zM_X9_thrown.2 l D cy L2 [zO 0 0] (σ1', []) (σ1', []) (some (zI (σ1' 0 0 0))) H.size hfl rp_thrown) (cwV 0 hts gL_law_X9_thrown rfl rfl rfl (by decide +kernel) ⟨Nat.le_of_ble_eq_true rfl, Nat.le_of_ble_eq_true rfl⟩) ⟨zPre.blind, xw_recv hK hJ (ci := 9) rfl rfl (by decide) rfl, fun U hU hW => ⟨rfl, xw_pre hK3 hJ hS hA hst2 hU hW⟩⟩ rfl rfl hl.1 rfl (lv_room (Nat.le_of_ble_eq_true rfl)) dL_law_990 ⟨(show cells + 1 + 0 + 0 ≤ 602736 by omega), (show slots + 6 + 0 + 0 ≤ 7287896 by omega)⟩) hJ hS hA (fun H locs hJ hS => ?_)
    refine lv_iload hx hb dL_law_993 (lv_at hl 1 rfl) ?_
    refine lv_icmp_eq (tgt := 1000) hx hb dL_law_995 (by decide) (fun _ => ?_) (fun hc9 => absurd (h0.trans hr0.symm) hc9)
    refine lv_iload hx hb dL_law_1000 (lv_at hl 1 rfl) ?_
    refine lv_if_ne (tgt := 1017) hx hb dL_law_1002 (by decide) (fun _ => ?_) (fun hc9 => absurd (hr0.symm.trans hc9) hne)
    refine lv_goto (tgt := 1235) hx hb dL_law_1017 (by decide) ?_
    refine W.widen (k := cells + 16) (n := slots + 64) (show cells + 1 + 0 + 0 ≤ cells + 16 by omega) (show slots + 6 + 0 + 0 ≤ slots + 64 by omega) ?_
    exact K σ2 σ1' f1 H locs ls hrel1 (xw_swap hJ) hS (lv_sub hl [2, 3, 4, 5, 6] rfl)
set_option maxHeartbeats 4000000 in
set_option maxRecDepth 100000 in
theorem xk_everywhere {p : Program} {l : Launch} {e : Env} {s : State} {m : MethodId} {below : List Frame} {meth : Method} {c : Code} {H : Heap} {locs : List Loc} {cells slots : Nat} {Q : State → Prop} {ls : Array Slot} {b Ln : Nat} {xs : Nat → Int32} {D : va_G} {cy : Nat → ClassId} {cL : ClassId} {L L2 : Nat → Nat → Nat} {q i : Nat} {f : Nat → Int64} {σ σ' : zMem} (C : xlC p l s m c b Ln xs D cy cL L L2) (hi : i + 6 ≤ Ln) (hrel : zRel σ σ') (hJ : xJ D (xA s) (xlW cy cL L (σ, []) q f ++ zws zEM cy L2 (σ', [])) H) (hS : va_S (xA s) s.heap H locs) (hl : lv_has ls 9 [(4, .int (nI i)), (3, .ref q), (2, .ref (L2 0 0)), (1, .ref (L 0 0)), (0, .ref b)]) (hc : cells + 16 ≤ 602736) (hs : slots + 64 ≤ 7287896) (K : ∀ (σ σ' : zMem) (f : Nat → Int64) (H : Heap) (locs : List Loc) (ls : Array Slot), zRel σ σ' → xJ D (xA s) (xlW cy cL L (σ, []) q f ++ zws zEM cy L2 (σ', [])) H → va_S (xA s) s.heap H locs → lv_has ls 9 [(4, .int (nI i)), (3, .ref q), (2, .ref (L2 0 0)), (1, .ref (L 0 0)), (0, .ref b)] → W p l e room_1 s m #[Value.ref b] below meth c H locs (cells + 16) (slots + 64) Q (F0 m 1235 ls [])) : W p l e room_1 s m #[Value.ref b] below meth c H locs (cells) (slots) Q (F0 m 1020 ls []) := by
  obtain ⟨hx, hb, hml, hown, hts, hX, hbl, hK, hst, hst2, hnc, hfl, hLn⟩ := C
  have hA : ∀ q : Nat, s.heap.size ≤ q → xA s q := fun _ h => h
  have hK3 : va_K D vwCl (ztys cy) s := hK.sub [0, 1, 2] rfl
  refine lv_aload_n hx hb dL_law_1020 rfl (lv_at hl 3 rfl) ?_
  refine xk_arg 1 hx hb hX hbl hS (lv_at hl 4 rfl) (lv_at hl 0 rfl) (by omega) hLn (by decide) dL_law_1021 dL_law_1022 dL_law_1024 dL_law_1025 dL_law_1026 ?_
  refine xk_arg 2 hx hb hX hbl hS (lv_at hl 4 rfl) (lv_at hl 0 rfl) (by omega) hLn (by decide) dL_law_1027 dL_law_1028 dL_law_1030 dL_law_1031 dL_law_1032 ?_
  refine xk_arg 3 hx hb hX hbl hS (lv_at hl 4 rfl) (lv_at hl 0 rfl) (by omega) hLn (by decide) dL_law_1033 dL_law_1034 dL_law_1036 dL_law_1037 dL_law_1038 ?_
  refine lv_aload_n hx hb dL_law_1039 rfl (lv_at hl 1 rfl) ?_
  have aG : zAg [] [] (zcd 0 1 2) (m_X8_everywhere [zO 0 0, zI (xs (i + 1)), zI (xs (i + 2)), zI (xs (i + 3))] (σ, [])) (m_X9_everywhere [zO 0 0, zI (xs (i + 1)), zI (xs (i + 2)), zI (xs (i + 3))] (σ', [])) := ag_everywhere hrel
  rcases aG with ⟨v, σ1, σ1', eC, eR, h0, hrel1⟩ | ⟨x, w, σ1, σ1', eC, eR, h0, hne, hx2, hrel1⟩
  · refine xk_wrap (As := [.ref (L 0 0), .int (xs (i + 1)), .int (xs (i + 2)), .int (xs (i + 3)), .ref q]) (xl_everywhere l (xs (i + 1)) (xs (i + 2)) (xs (i + 3)) D cy cL L σ q f H.size hfl (Or.inl ⟨v, σ1, eC⟩)) ⟨hx, hb, hml, hown, hts⟩ (vx_cwSW 5 hts gL_law_L_everywhere rfl rfl rfl (by decide +kernel) ⟨Nat.le_of_ble_eq_true rfl, Nat.le_of_ble_eq_true rfl⟩) hK hst hnc hJ hS hA rfl hl.1 dL_law_1040 ⟨(show cells + 2 ≤ 602736 by omega), (show slots + 12 ≤ 7287896 by omega)⟩ (fun r σ2 f1 H locs hpost hJ hS => ?_)
    obtain ⟨hr0, hσ, hf1⟩ : r = 0 ∧ σ2 = σ1 ∧ f1 0 = v.toInt64 := by
      rcases hpost with ⟨v9, e9, hr9, hf9⟩ | ⟨x9, e9, -⟩
      · have e9 := eC.symm.trans e9; cases e9; exact ⟨hr9, rfl, hf9⟩
      · have e9 := eC.symm.trans e9; cases e9
    subst hσ
    refine lv_istore (lv' := [(5, .int r), (4, .int (nI i)), (3, .ref q), (2, .ref (L2 0 0)), (1, .ref (L 0 0)), (0, .ref b)]) hx hb dL_law_1043 hl (by decide) rfl (fun ls hl => ?_)
    refine lv_aload_n hx hb dL_law_1045 rfl (lv_at hl 3 rfl) ?_
    refine xk_arg 1 hx hb hX hbl hS (lv_at hl 5 rfl) (lv_at hl 1 rfl) (by omega) hLn (by decide) dL_law_1046 dL_law_1047 dL_law_1049 dL_law_1050 dL_law_1051 ?_
    refine xk_arg 2 hx hb hX hbl hS (lv_at hl 5 rfl) (lv_at hl 1 rfl) (by omega) hLn (by decide) dL_law_1052 dL_law_1053 dL_law_1055 dL_law_1056 dL_law_1057 ?_
    refine xk_arg 3 hx hb hX hbl hS (lv_at hl 5 rfl) (lv_at hl 1 rfl) (by omega) hLn (by decide) dL_law_1058 dL_law_1059 dL_law_1061 dL_law_1062 dL_law_1063 ?_
    have hJ := xw_swap hJ
    refine xw_after (E := zEM) (v := some (zI v)) (s' := (σ1', [])) (as := (σ', [])) (Y := xlW cy cL L (σ2, []) q f1) (va_runV (As := [.int (xs (i + 1)), .int (xs (i + 2)), .int (xs (i + 3))]) (rest := []) ⟨hx, hb, hml, hown, hts⟩ (zM_X9_everywhere.2 l D cy L2 [zO 0 0, zI (xs (i + 1)), zI (xs (i + 2)), zI (xs (i + 3))] (σ', []) (σ1', []) (some (zI v)) H.size hfl eR) (cwV 3 hts gL_law_X9_everywhere rfl rfl rfl (by decide +kernel) ⟨Nat.le_of_ble_eq_true rfl, Nat.le_of_ble_eq_true rfl⟩) ⟨zPre.blind, xw_recv hK hJ (ci := 9) rfl rfl (by decide) rfl, fun U hU hW => ⟨rfl, xw_pre hK3 hJ hS hA hst2 hU hW⟩⟩ rfl rfl hl.1 rfl (lv_room (Nat.le_of_ble_eq_true rfl)) dL_law_1064 ⟨(show cells + 2 + 1 ≤ 602736 by omega), (show slots + 12 + 11 ≤ 7287896 by omega)⟩) hJ hS hA (fun H locs hJ hS => ?_)
    refine lv_istore (lv' := [(6, .int v), (5, .int r), (4, .int (nI i)), (3, .ref q), (2, .ref (L2 0 0)), (1, .ref (L 0 0)), (0, .ref b)]) hx hb dL_law_1067 hl (by decide) rfl (fun ls hl => ?_)
    refine lv_aload_n hx hb dL_law_1069 rfl (lv_at hl 4 rfl) ?_
    refine xw_after (E := zEM) (v := some (zI (σ1' 0 0 0))) (s' := (σ1', [])) (as := (σ1', [])) (Y := xlW cy cL L (σ2, []) q f1) (va_runV (As := []) (rest := []) ⟨hx, hb, hml, hown, hts⟩ (zM_X9_thrown.2 l D cy L2 [zO 0 0] (σ1', []) (σ1', []) (some (zI (σ1' 0 0 0))) H.size hfl rp_thrown) (cwV 0 hts gL_law_X9_thrown rfl rfl rfl (by decide +kernel) ⟨Nat.le_of_ble_eq_true rfl, Nat.le_of_ble_eq_true rfl⟩) ⟨zPre.blind, xw_recv hK hJ (ci := 9) rfl rfl (by decide) rfl, fun U hU hW => ⟨rfl, xw_pre hK3 hJ hS hA hst2 hU hW⟩⟩ rfl rfl hl.1 rfl (lv_room (Nat.le_of_ble_eq_true rfl)) dL_law_1070 ⟨(show cells + 2 + 1 + 0 ≤ 602736 by omega), (show slots + 12 + 11 + 0 ≤ 7287896 by omega)⟩) hJ hS hA (fun H locs hJ hS => ?_)
    refine lv_iload hx hb dL_law_1073 (lv_at hl 1 rfl) ?_
    refine lv_icmp_eq (tgt := 1080) hx hb dL_law_1075 (by decide) (fun _ => ?_) (fun hc9 => absurd (h0.trans hr0.symm) hc9)
    refine lv_iload hx hb dL_law_1080 (lv_at hl 1 rfl) ?_
    refine lv_if_ne (tgt := 1097) hx hb dL_law_1082 (by decide) (fun hc9 => absurd hr0 hc9) (fun _ => ?_)
    refine lv_aload_n hx hb dL_law_1085 rfl (lv_at hl 3 rfl) ?_
    refine lv_iconst (v := 0) hx hb dL_law_1086 (by decide) ?_
    refine va_lald hx hb hK (xk_q hJ) 0 3 rfl rfl (i := 0) (vp_in_nI (show 0 < 1 by decide) (by decide)) dL_law_1087 ?_
    refine lv_iload hx hb dL_law_1088 (lv_at hl 0 rfl) ?_
    refine lv_i2l hx hb dL_law_1090 rfl ?_
    refine W.lcmp hx hb dL_law_1091 ?_
    refine lv_if_eq (tgt := 1097) hx hb dL_law_1092 (by decide) (fun _ => ?_) (fun hc9 => absurd ((lg_cmp_eq _ _).mpr hf1) hc9)
    refine lv_goto (tgt := 1235) hx hb dL_law_1097 (by decide) ?_
    refine W.widen (k := cells + 16) (n := slots + 64) (show cells + 2 + 1 + 0 ≤ cells + 16 by omega) (show slots + 12 + 11 + 0 ≤ slots + 64 by omega) ?_
    exact K σ2 σ1' f1 H locs ls hrel1 (xw_swap hJ) hS (lv_sub hl [2, 3, 4, 5, 6] rfl)
  · refine xk_wrap (As := [.ref (L 0 0), .int (xs (i + 1)), .int (xs (i + 2)), .int (xs (i + 3)), .ref q]) (xl_everywhere l (xs (i + 1)) (xs (i + 2)) (xs (i + 3)) D cy cL L σ q f H.size hfl (Or.inr ⟨x, σ1, eC, hx2, hne⟩)) ⟨hx, hb, hml, hown, hts⟩ (vx_cwSW 5 hts gL_law_L_everywhere rfl rfl rfl (by decide +kernel) ⟨Nat.le_of_ble_eq_true rfl, Nat.le_of_ble_eq_true rfl⟩) hK hst hnc hJ hS hA rfl hl.1 dL_law_1040 ⟨(show cells + 2 ≤ 602736 by omega), (show slots + 12 ≤ 7287896 by omega)⟩ (fun r σ2 f1 H locs hpost hJ hS => ?_)
    obtain ⟨hr0, hσ⟩ : r = zcd 0 1 2 x ∧ σ2 = σ1 := by
      rcases hpost with ⟨v9, e9, -⟩ | ⟨x9, e9, hr9⟩
      · have e9 := eC.symm.trans e9; cases e9
      · have e9 := eC.symm.trans e9; cases e9; exact ⟨hr9, rfl⟩
    subst hσ
    refine lv_istore (lv' := [(5, .int r), (4, .int (nI i)), (3, .ref q), (2, .ref (L2 0 0)), (1, .ref (L 0 0)), (0, .ref b)]) hx hb dL_law_1043 hl (by decide) rfl (fun ls hl => ?_)
    refine lv_aload_n hx hb dL_law_1045 rfl (lv_at hl 3 rfl) ?_
    refine xk_arg 1 hx hb hX hbl hS (lv_at hl 5 rfl) (lv_at hl 1 rfl) (by omega) hLn (by decide) dL_law_1046 dL_law_1047 dL_law_1049 dL_law_1050 dL_law_1051 ?_
    refine xk_arg 2 hx hb hX hbl hS (lv_at hl 5 rfl) (lv_at hl 1 rfl) (by omega) hLn (by decide) dL_law_1052 dL_law_1053 dL_law_1055 dL_law_1056 dL_law_1057 ?_
    refine xk_arg 3 hx hb hX hbl hS (lv_at hl 5 rfl) (lv_at hl 1 rfl) (by omega) hLn (by decide) dL_law_1058 dL_law_1059 dL_law_1061 dL_law_1062 dL_law_1063 ?_
    have hJ := xw_swap hJ
    refine xw_after (E := zEM) (v := some (zI w)) (s' := (σ1', [])) (as := (σ', [])) (Y := xlW cy cL L (σ2, []) q f1) (va_runV (As := [.int (xs (i + 1)), .int (xs (i + 2)), .int (xs (i + 3))]) (rest := []) ⟨hx, hb, hml, hown, hts⟩ (zM_X9_everywhere.2 l D cy L2 [zO 0 0, zI (xs (i + 1)), zI (xs (i + 2)), zI (xs (i + 3))] (σ', []) (σ1', []) (some (zI w)) H.size hfl eR) (cwV 3 hts gL_law_X9_everywhere rfl rfl rfl (by decide +kernel) ⟨Nat.le_of_ble_eq_true rfl, Nat.le_of_ble_eq_true rfl⟩) ⟨zPre.blind, xw_recv hK hJ (ci := 9) rfl rfl (by decide) rfl, fun U hU hW => ⟨rfl, xw_pre hK3 hJ hS hA hst2 hU hW⟩⟩ rfl rfl hl.1 rfl (lv_room (Nat.le_of_ble_eq_true rfl)) dL_law_1064 ⟨(show cells + 2 + 1 ≤ 602736 by omega), (show slots + 12 + 11 ≤ 7287896 by omega)⟩) hJ hS hA (fun H locs hJ hS => ?_)
    refine lv_istore (lv' := [(6, .int w), (5, .int r), (4, .int (nI i)), (3, .ref q), (2, .ref (L2 0 0)), (1, .ref (L 0 0)), (0, .ref b)]) hx hb dL_law_1067 hl (by decide) rfl (fun ls hl => ?_)
    refine lv_aload_n hx hb dL_law_1069 rfl (lv_at hl 4 rfl) ?_
    refine xw_after (E := zEM) (v := some (zI (σ1' 0 0 0))) (s' := (σ1', [])) (as := (σ1', [])) (Y := xlW cy cL L (σ2, []) q f1) (va_runV (As := []) (rest := []) ⟨hx, hb, hml, hown, hts⟩ (zM_X9_thrown.2 l D cy L2 [zO 0 0] (σ1', []) (σ1', []) (some (zI (σ1' 0 0 0))) H.size hfl rp_thrown) (cwV 0 hts gL_law_X9_thrown rfl rfl rfl (by decide +kernel) ⟨Nat.le_of_ble_eq_true rfl, Nat.le_of_ble_eq_true rfl⟩) ⟨zPre.blind, xw_recv hK hJ (ci := 9) rfl rfl (by decide) rfl, fun U hU hW => ⟨rfl, xw_pre hK3 hJ hS hA hst2 hU hW⟩⟩ rfl rfl hl.1 rfl (lv_room (Nat.le_of_ble_eq_true rfl)) dL_law_1070 ⟨(show cells + 2 + 1 + 0 ≤ 602736 by omega), (show slots + 12 + 11 + 0 ≤ 7287896 by omega)⟩) hJ hS hA (fun H locs hJ hS => ?_)
    refine lv_iload hx hb dL_law_1073 (lv_at hl 1 rfl) ?_
    refine lv_icmp_eq (tgt := 1080) hx hb dL_law_1075 (by decide) (fun _ => ?_) (fun hc9 => absurd (h0.trans hr0.symm) hc9)
    refine lv_iload hx hb dL_law_1080 (lv_at hl 1 rfl) ?_
    refine lv_if_ne (tgt := 1097) hx hb dL_law_1082 (by decide) (fun _ => ?_) (fun hc9 => absurd (hr0.symm.trans hc9) hne)
    refine lv_goto (tgt := 1235) hx hb dL_law_1097 (by decide) ?_
    refine W.widen (k := cells + 16) (n := slots + 64) (show cells + 2 + 1 + 0 ≤ cells + 16 by omega) (show slots + 12 + 11 + 0 ≤ slots + 64 by omega) ?_
    exact K σ2 σ1' f1 H locs ls hrel1 (xw_swap hJ) hS (lv_sub hl [2, 3, 4, 5, 6] rfl)
set_option maxHeartbeats 4000000 in
set_option maxRecDepth 100000 in
theorem xk_locus {p : Program} {l : Launch} {e : Env} {s : State} {m : MethodId} {below : List Frame} {meth : Method} {c : Code} {H : Heap} {locs : List Loc} {cells slots : Nat} {Q : State → Prop} {ls : Array Slot} {b Ln : Nat} {xs : Nat → Int32} {D : va_G} {cy : Nat → ClassId} {cL : ClassId} {L L2 : Nat → Nat → Nat} {q i : Nat} {f : Nat → Int64} {σ σ' : zMem} (C : xlC p l s m c b Ln xs D cy cL L L2) (hi : i + 6 ≤ Ln) (hrel : zRel σ σ') (hJ : xJ D (xA s) (xlW cy cL L (σ, []) q f ++ zws zEM cy L2 (σ', [])) H) (hS : va_S (xA s) s.heap H locs) (hl : lv_has ls 9 [(4, .int (nI i)), (3, .ref q), (2, .ref (L2 0 0)), (1, .ref (L 0 0)), (0, .ref b)]) (hc : cells + 16 ≤ 602736) (hs : slots + 64 ≤ 7287896) (K : ∀ (σ σ' : zMem) (f : Nat → Int64) (H : Heap) (locs : List Loc) (ls : Array Slot), zRel σ σ' → xJ D (xA s) (xlW cy cL L (σ, []) q f ++ zws zEM cy L2 (σ', [])) H → va_S (xA s) s.heap H locs → lv_has ls 9 [(4, .int (nI i)), (3, .ref q), (2, .ref (L2 0 0)), (1, .ref (L 0 0)), (0, .ref b)] → W p l e room_1 s m #[Value.ref b] below meth c H locs (cells + 16) (slots + 64) Q (F0 m 1235 ls [])) : W p l e room_1 s m #[Value.ref b] below meth c H locs (cells) (slots) Q (F0 m 1100 ls []) := by
  obtain ⟨hx, hb, hml, hown, hts, hX, hbl, hK, hst, hst2, hnc, hfl, hLn⟩ := C
  have hA : ∀ q : Nat, s.heap.size ≤ q → xA s q := fun _ h => h
  have hK3 : va_K D vwCl (ztys cy) s := hK.sub [0, 1, 2] rfl
  refine lv_aload_n hx hb dL_law_1100 rfl (lv_at hl 3 rfl) ?_
  refine xk_arg 1 hx hb hX hbl hS (lv_at hl 4 rfl) (lv_at hl 0 rfl) (by omega) hLn (by decide) dL_law_1101 dL_law_1102 dL_law_1104 dL_law_1105 dL_law_1106 ?_
  refine xk_arg 2 hx hb hX hbl hS (lv_at hl 4 rfl) (lv_at hl 0 rfl) (by omega) hLn (by decide) dL_law_1107 dL_law_1108 dL_law_1110 dL_law_1111 dL_law_1112 ?_
  refine xk_arg 3 hx hb hX hbl hS (lv_at hl 4 rfl) (lv_at hl 0 rfl) (by omega) hLn (by decide) dL_law_1113 dL_law_1114 dL_law_1116 dL_law_1117 dL_law_1118 ?_
  refine lv_aload_n hx hb dL_law_1119 rfl (lv_at hl 1 rfl) ?_
  have aG : zAg [] [] (zcd 0 1 2) (m_X8_locus [zO 0 0, zI (xs (i + 1)), zI (xs (i + 2)), zI (xs (i + 3))] (σ, [])) (m_X9_locus [zO 0 0, zI (xs (i + 1)), zI (xs (i + 2)), zI (xs (i + 3))] (σ', [])) := ag_locus hrel
  rcases aG with ⟨v, σ1, σ1', eC, eR, h0, hrel1⟩ | ⟨x, w, σ1, σ1', eC, eR, h0, hne, hx2, hrel1⟩
  · refine xk_wrap (As := [.ref (L 0 0), .int (xs (i + 1)), .int (xs (i + 2)), .int (xs (i + 3)), .ref q]) (xl_locus l (xs (i + 1)) (xs (i + 2)) (xs (i + 3)) D cy cL L σ q f H.size hfl (Or.inl ⟨v, σ1, eC⟩)) ⟨hx, hb, hml, hown, hts⟩ (vx_cwSW 5 hts gL_law_L_locus rfl rfl rfl (by decide +kernel) ⟨Nat.le_of_ble_eq_true rfl, Nat.le_of_ble_eq_true rfl⟩) hK hst hnc hJ hS hA rfl hl.1 dL_law_1120 ⟨(show cells + 2 ≤ 602736 by omega), (show slots + 12 ≤ 7287896 by omega)⟩ (fun r σ2 f1 H locs hpost hJ hS => ?_)
    obtain ⟨hr0, hσ, hf1⟩ : r = 0 ∧ σ2 = σ1 ∧ f1 0 = v.toInt64 := by
      rcases hpost with ⟨v9, e9, hr9, hf9⟩ | ⟨x9, e9, -⟩
      · have e9 := eC.symm.trans e9; cases e9; exact ⟨hr9, rfl, hf9⟩
      · have e9 := eC.symm.trans e9; cases e9
    subst hσ
    refine lv_istore (lv' := [(5, .int r), (4, .int (nI i)), (3, .ref q), (2, .ref (L2 0 0)), (1, .ref (L 0 0)), (0, .ref b)]) hx hb dL_law_1123 hl (by decide) rfl (fun ls hl => ?_)
    refine lv_aload_n hx hb dL_law_1125 rfl (lv_at hl 3 rfl) ?_
    refine xk_arg 1 hx hb hX hbl hS (lv_at hl 5 rfl) (lv_at hl 1 rfl) (by omega) hLn (by decide) dL_law_1126 dL_law_1127 dL_law_1129 dL_law_1130 dL_law_1131 ?_
    refine xk_arg 2 hx hb hX hbl hS (lv_at hl 5 rfl) (lv_at hl 1 rfl) (by omega) hLn (by decide) dL_law_1132 dL_law_1133 dL_law_1135 dL_law_1136 dL_law_1137 ?_
    refine xk_arg 3 hx hb hX hbl hS (lv_at hl 5 rfl) (lv_at hl 1 rfl) (by omega) hLn (by decide) dL_law_1138 dL_law_1139 dL_law_1141 dL_law_1142 dL_law_1143 ?_
    have hJ := xw_swap hJ
    refine xw_after (E := zEM) (v := some (zI v)) (s' := (σ1', [])) (as := (σ', [])) (Y := xlW cy cL L (σ2, []) q f1) (va_runV (As := [.int (xs (i + 1)), .int (xs (i + 2)), .int (xs (i + 3))]) (rest := []) ⟨hx, hb, hml, hown, hts⟩ (zM_X9_locus.2 l D cy L2 [zO 0 0, zI (xs (i + 1)), zI (xs (i + 2)), zI (xs (i + 3))] (σ', []) (σ1', []) (some (zI v)) H.size hfl eR) (cwV 3 hts gL_law_X9_locus rfl rfl rfl (by decide +kernel) ⟨Nat.le_of_ble_eq_true rfl, Nat.le_of_ble_eq_true rfl⟩) ⟨zPre.blind, xw_recv hK hJ (ci := 9) rfl rfl (by decide) rfl, fun U hU hW => ⟨rfl, xw_pre hK3 hJ hS hA hst2 hU hW⟩⟩ rfl rfl hl.1 rfl (lv_room (Nat.le_of_ble_eq_true rfl)) dL_law_1144 ⟨(show cells + 2 + 0 ≤ 602736 by omega), (show slots + 12 + 0 ≤ 7287896 by omega)⟩) hJ hS hA (fun H locs hJ hS => ?_)
    refine lv_istore (lv' := [(6, .int v), (5, .int r), (4, .int (nI i)), (3, .ref q), (2, .ref (L2 0 0)), (1, .ref (L 0 0)), (0, .ref b)]) hx hb dL_law_1147 hl (by decide) rfl (fun ls hl => ?_)
    refine lv_aload_n hx hb dL_law_1149 rfl (lv_at hl 4 rfl) ?_
    refine xw_after (E := zEM) (v := some (zI (σ1' 0 0 0))) (s' := (σ1', [])) (as := (σ1', [])) (Y := xlW cy cL L (σ2, []) q f1) (va_runV (As := []) (rest := []) ⟨hx, hb, hml, hown, hts⟩ (zM_X9_thrown.2 l D cy L2 [zO 0 0] (σ1', []) (σ1', []) (some (zI (σ1' 0 0 0))) H.size hfl rp_thrown) (cwV 0 hts gL_law_X9_thrown rfl rfl rfl (by decide +kernel) ⟨Nat.le_of_ble_eq_true rfl, Nat.le_of_ble_eq_true rfl⟩) ⟨zPre.blind, xw_recv hK hJ (ci := 9) rfl rfl (by decide) rfl, fun U hU hW => ⟨rfl, xw_pre hK3 hJ hS hA hst2 hU hW⟩⟩ rfl rfl hl.1 rfl (lv_room (Nat.le_of_ble_eq_true rfl)) dL_law_1150 ⟨(show cells + 2 + 0 + 0 ≤ 602736 by omega), (show slots + 12 + 0 + 0 ≤ 7287896 by omega)⟩) hJ hS hA (fun H locs hJ hS => ?_)
    refine lv_iload hx hb dL_law_1153 (lv_at hl 1 rfl) ?_
    refine lv_icmp_eq (tgt := 1160) hx hb dL_law_1155 (by decide) (fun _ => ?_) (fun hc9 => absurd (h0.trans hr0.symm) hc9)
    refine lv_iload hx hb dL_law_1160 (lv_at hl 1 rfl) ?_
    refine lv_if_ne (tgt := 1177) hx hb dL_law_1162 (by decide) (fun hc9 => absurd hr0 hc9) (fun _ => ?_)
    refine lv_aload_n hx hb dL_law_1165 rfl (lv_at hl 3 rfl) ?_
    refine lv_iconst (v := 0) hx hb dL_law_1166 (by decide) ?_
    refine va_lald hx hb hK (xk_q hJ) 0 3 rfl rfl (i := 0) (vp_in_nI (show 0 < 1 by decide) (by decide)) dL_law_1167 ?_
    refine lv_iload hx hb dL_law_1168 (lv_at hl 0 rfl) ?_
    refine lv_i2l hx hb dL_law_1170 rfl ?_
    refine W.lcmp hx hb dL_law_1171 ?_
    refine lv_if_eq (tgt := 1177) hx hb dL_law_1172 (by decide) (fun _ => ?_) (fun hc9 => absurd ((lg_cmp_eq _ _).mpr hf1) hc9)
    refine lv_goto (tgt := 1235) hx hb dL_law_1177 (by decide) ?_
    refine W.widen (k := cells + 16) (n := slots + 64) (show cells + 2 + 0 + 0 ≤ cells + 16 by omega) (show slots + 12 + 0 + 0 ≤ slots + 64 by omega) ?_
    exact K σ2 σ1' f1 H locs ls hrel1 (xw_swap hJ) hS (lv_sub hl [2, 3, 4, 5, 6] rfl)
  · refine xk_wrap (As := [.ref (L 0 0), .int (xs (i + 1)), .int (xs (i + 2)), .int (xs (i + 3)), .ref q]) (xl_locus l (xs (i + 1)) (xs (i + 2)) (xs (i + 3)) D cy cL L σ q f H.size hfl (Or.inr ⟨x, σ1, eC, hx2, hne⟩)) ⟨hx, hb, hml, hown, hts⟩ (vx_cwSW 5 hts gL_law_L_locus rfl rfl rfl (by decide +kernel) ⟨Nat.le_of_ble_eq_true rfl, Nat.le_of_ble_eq_true rfl⟩) hK hst hnc hJ hS hA rfl hl.1 dL_law_1120 ⟨(show cells + 2 ≤ 602736 by omega), (show slots + 12 ≤ 7287896 by omega)⟩ (fun r σ2 f1 H locs hpost hJ hS => ?_)
    obtain ⟨hr0, hσ⟩ : r = zcd 0 1 2 x ∧ σ2 = σ1 := by
      rcases hpost with ⟨v9, e9, -⟩ | ⟨x9, e9, hr9⟩
      · have e9 := eC.symm.trans e9; cases e9
      · have e9 := eC.symm.trans e9; cases e9; exact ⟨hr9, rfl⟩
    subst hσ
    refine lv_istore (lv' := [(5, .int r), (4, .int (nI i)), (3, .ref q), (2, .ref (L2 0 0)), (1, .ref (L 0 0)), (0, .ref b)]) hx hb dL_law_1123 hl (by decide) rfl (fun ls hl => ?_)
    refine lv_aload_n hx hb dL_law_1125 rfl (lv_at hl 3 rfl) ?_
    refine xk_arg 1 hx hb hX hbl hS (lv_at hl 5 rfl) (lv_at hl 1 rfl) (by omega) hLn (by decide) dL_law_1126 dL_law_1127 dL_law_1129 dL_law_1130 dL_law_1131 ?_
    refine xk_arg 2 hx hb hX hbl hS (lv_at hl 5 rfl) (lv_at hl 1 rfl) (by omega) hLn (by decide) dL_law_1132 dL_law_1133 dL_law_1135 dL_law_1136 dL_law_1137 ?_
    refine xk_arg 3 hx hb hX hbl hS (lv_at hl 5 rfl) (lv_at hl 1 rfl) (by omega) hLn (by decide) dL_law_1138 dL_law_1139 dL_law_1141 dL_law_1142 dL_law_1143 ?_
    have hJ := xw_swap hJ
    refine xw_after (E := zEM) (v := some (zI w)) (s' := (σ1', [])) (as := (σ', [])) (Y := xlW cy cL L (σ2, []) q f1) (va_runV (As := [.int (xs (i + 1)), .int (xs (i + 2)), .int (xs (i + 3))]) (rest := []) ⟨hx, hb, hml, hown, hts⟩ (zM_X9_locus.2 l D cy L2 [zO 0 0, zI (xs (i + 1)), zI (xs (i + 2)), zI (xs (i + 3))] (σ', []) (σ1', []) (some (zI w)) H.size hfl eR) (cwV 3 hts gL_law_X9_locus rfl rfl rfl (by decide +kernel) ⟨Nat.le_of_ble_eq_true rfl, Nat.le_of_ble_eq_true rfl⟩) ⟨zPre.blind, xw_recv hK hJ (ci := 9) rfl rfl (by decide) rfl, fun U hU hW => ⟨rfl, xw_pre hK3 hJ hS hA hst2 hU hW⟩⟩ rfl rfl hl.1 rfl (lv_room (Nat.le_of_ble_eq_true rfl)) dL_law_1144 ⟨(show cells + 2 + 0 ≤ 602736 by omega), (show slots + 12 + 0 ≤ 7287896 by omega)⟩) hJ hS hA (fun H locs hJ hS => ?_)
    refine lv_istore (lv' := [(6, .int w), (5, .int r), (4, .int (nI i)), (3, .ref q), (2, .ref (L2 0 0)), (1, .ref (L 0 0)), (0, .ref b)]) hx hb dL_law_1147 hl (by decide) rfl (fun ls hl => ?_)
    refine lv_aload_n hx hb dL_law_1149 rfl (lv_at hl 4 rfl) ?_
    refine xw_after (E := zEM) (v := some (zI (σ1' 0 0 0))) (s' := (σ1', [])) (as := (σ1', [])) (Y := xlW cy cL L (σ2, []) q f1) (va_runV (As := []) (rest := []) ⟨hx, hb, hml, hown, hts⟩ (zM_X9_thrown.2 l D cy L2 [zO 0 0] (σ1', []) (σ1', []) (some (zI (σ1' 0 0 0))) H.size hfl rp_thrown) (cwV 0 hts gL_law_X9_thrown rfl rfl rfl (by decide +kernel) ⟨Nat.le_of_ble_eq_true rfl, Nat.le_of_ble_eq_true rfl⟩) ⟨zPre.blind, xw_recv hK hJ (ci := 9) rfl rfl (by decide) rfl, fun U hU hW => ⟨rfl, xw_pre hK3 hJ hS hA hst2 hU hW⟩⟩ rfl rfl hl.1 rfl (lv_room (Nat.le_of_ble_eq_true rfl)) dL_law_1150 ⟨(show cells + 2 + 0 + 0 ≤ 602736 by omega), (show slots + 12 + 0 + 0 ≤ 7287896 by omega)⟩) hJ hS hA (fun H locs hJ hS => ?_)
    refine lv_iload hx hb dL_law_1153 (lv_at hl 1 rfl) ?_
    refine lv_icmp_eq (tgt := 1160) hx hb dL_law_1155 (by decide) (fun _ => ?_) (fun hc9 => absurd (h0.trans hr0.symm) hc9)
    refine lv_iload hx hb dL_law_1160 (lv_at hl 1 rfl) ?_
    refine lv_if_ne (tgt := 1177) hx hb dL_law_1162 (by decide) (fun _ => ?_) (fun hc9 => absurd (hr0.symm.trans hc9) hne)
    refine lv_goto (tgt := 1235) hx hb dL_law_1177 (by decide) ?_
    refine W.widen (k := cells + 16) (n := slots + 64) (show cells + 2 + 0 + 0 ≤ cells + 16 by omega) (show slots + 12 + 0 + 0 ≤ slots + 64 by omega) ?_
    exact K σ2 σ1' f1 H locs ls hrel1 (xw_swap hJ) hS (lv_sub hl [2, 3, 4, 5, 6] rfl)
