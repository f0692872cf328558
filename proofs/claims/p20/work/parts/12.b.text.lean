/-! ===== a String's own methods, for the law's texts ===== -/
theorem zJdk {E : zEnv} {y : MethodName} {cc : ByteArray} {nL : Nat} {ws ws' : List Cond} {ret : Option FieldType} {R : Room} {f : List zAV → zAS → Option zOut} (hy : plainFor y = true) (hw : ws = Cond.code y cc nL ret :: ws') (hf : ∀ args s o, f args s = some o → ∃ v, o = (.inl v, s) ∧ zargsok args = true ∧ (zargs args).length ≤ nL)
    (body : ∀ args s v, f args s = some (.inl v, s) → ∀ p l e s0 m below meth c D cy A L lsC Qc XC, zC E y.cls cc nL ws ret p l s0 m (args.map (zc L)).toArray meth c D cy A L → zW E D cy A L s s0.heap → zEnd E D cy A Qc XC (args.map (zc L)).toArray s0 L (.inl v, s) → lv_has lsC nL (lv_args 0 (args.map (zc L))) →
      W p l e R s0 m (args.map (zc L)).toArray below meth c s0.heap [] 0 0 (vx_MQ below Qc XC (args.map (zc L)).toArray s0 R.cells R.slots A) (F0 m 0 lsC [])) : zMeets E y ws R f := by
  refine zX_M ⟨fun args s o h => ?_, fun l D cy L av as o sz hfl h => ?_⟩
  · obtain ⟨v, rfl, -⟩ := hf args s o h
    rfl
  · obtain ⟨v, rfl, hok, hlen⟩ := hf av as o h
    have hnd : ∀ v ∈ av, ∀ x, v ≠ .inl (.double x) := by
      intro v hv x hx
      have := List.all_eq_true.mp hok v hv
      rw [hx] at this
      cases this
    refine zx_ofW (cc := cc) (maxL := nL) (ret := ret) hy hw ?_
    intro p e s m args below meth c s₁ B hml hxt hv
    obtain ⟨rfl, hsz, hP, hK, hD0, hst⟩ := hv
    subst hsz
    have hD := hD0.self (sz := s.heap.size)
    have hl := lv_entry (av.map (zc L)) (n := nL) (by rw [zargs_len av hnd]; exact hlen)
    rw [lg_entry_eq]
    generalize (lg_sl (av.map (zc L)) ++ List.replicate (nL - (lg_sl (av.map (zc L))).length) Slot.unset).toArray = lsC at hl ⊢
    refine body av as v h p l e s m below meth c D cy _ L lsC _ _ ⟨B.exec, B.bytes, hml, findClass_of_methodNamed B.named, atoms_spec (ws := ws) B.pre, hK, fun q hq => Or.inr hq, B.notSynchronized, B.returns, hxt, hst, hfl⟩ ⟨hP, hD⟩ ?_ hl
    intro H locs hW hS
    intro t ht hWm
    exact ⟨rfl, by rw [ht]; exact hW, hS.F ht⟩
def zIn (i : Nat) (j : Int32) : Prop := i < 6 ∧ ¬ j < 0 ∧ j.toNatClampNeg < zSl.getD i 0
def zLen (i : Nat) : Int32 := Int32.ofNat (zSl.getD i 0)
def zChr (i : Nat) (j : Int32) : Int32 := (zSb.getD i []).getD j.toNatClampNeg 0
theorem zChr_is {i : Nat} {j : Int32} (h : zIn i j) : zChr i j = 48 ∨ zChr i j = 49 ∨ zChr i j = 50 := by
  obtain ⟨h1, h2, h3⟩ := h
  unfold zChr
  generalize j.toNatClampNeg = q at h3 ⊢
  have h6 : i = 0 ∨ i = 1 ∨ i = 2 ∨ i = 3 ∨ i = 4 ∨ i = 5 := by omega
  rcases h6 with rfl | rfl | rfl | rfl | rfl | rfl
  all_goals
    have h4 : q = 0 ∨ q = 1 ∨ q = 2 := by
      have h5 : q < 3 := Nat.lt_of_lt_of_le h3 (by decide)
      omega
    rcases h4 with rfl | rfl | rfl <;> first | exact Or.inl rfl | exact Or.inr (Or.inl rfl) | exact Or.inr (Or.inr rfl) | exact absurd h3 (by decide)
abbrev zR_J0_coder : Room := ({ frames := 0, cells := 0, slots := 0, locals := 0 } : Room)
abbrev zR_J0_length_8abf5 : Room := ({ frames := 1, cells := 0, slots := 0, locals := 28 } : Room)
abbrev zR_J0_check : Room := ({ frames := 1, cells := 0, slots := 0, locals := 22 } : Room)
abbrev zR_J1_charAt : Room := ({ frames := 2, cells := 0, slots := 0, locals := 43 } : Room)
abbrev zR_J0_charAt_5068e : Room := ({ frames := 3, cells := 0, slots := 0, locals := 100 } : Room)
def zf1 (k : Nat) (g : Nat → Int32) (args : List zAV) (s : zAS) : Option zOut := match args with
  | [.inr (k', i)] => if k' = k ∧ i < 6 then some (.inl (some (zI (g i))), s) else none
  | _ => none
theorem zf1_sp {k : Nat} {g : Nat → Int32} {args : List zAV} {s : zAS} {o : zOut} (h : zf1 k g args s = some o) : ∃ i, i < 6 ∧ args = [zO k i] ∧ o = (.inl (some (zI (g i))), s) := by
  unfold zf1 at h
  split at h
  · split at h
    · rename_i hq
      cases h
      obtain ⟨rfl, hi⟩ := hq
      exact ⟨_, hi, rfl, rfl⟩
    · cases h
  · cases h
noncomputable def zf2 (k : Nat) (args : List zAV) (s : zAS) : Option zOut := match args with
  | [.inr (k', i), .inl (.int j)] => @ite _ (k' = k ∧ zIn i j) (Classical.propDecidable _) (some (.inl (some (zI (zChr i j))), s)) none
  | _ => none
theorem zf2_sp {k : Nat} {args : List zAV} {s : zAS} {o : zOut} (h : zf2 k args s = some o) : ∃ i j, zIn i j ∧ args = [zO k i, zI j] ∧ o = (.inl (some (zI (zChr i j))), s) := by
  unfold zf2 at h
  split at h
  · split at h
    · rename_i hq
      cases h
      obtain ⟨rfl, hi⟩ := hq
      exact ⟨_, _, hi, rfl, rfl⟩
    · cases h
  · cases h
def m_J0_coder : List zAV → zAS → Option zOut := zf1 96 (fun _ => 0)
def m_J0_isLatin1 : List zAV → zAS → Option zOut := zf1 96 (fun _ => 1)
def m_J0_length_8abf5 : List zAV → zAS → Option zOut := zf1 96 zLen
noncomputable def m_J1_charAt : List zAV → zAS → Option zOut := zf2 95
noncomputable def m_J0_charAt_5068e : List zAV → zAS → Option zOut := zf2 96
def m_J3_check (args : List zAV) (s : zAS) : Option zOut := match args with
  | [.inl (.int i), .inl (.int n), .inl v] => if 0 ≤ i ∧ i < n ∧ v.category = 1 then some (.inl (some (zI i)), s) else none
  | _ => none
def m_J0_check (args : List zAV) (s : zAS) : Option zOut := match args with
  | [.inl (.int i), .inl (.int n)] => if 0 ≤ i ∧ i < n then some (.inl none, s) else none
  | _ => none
theorem z1ok {k i : Nat} : zargsok [zO k i] = true ∧ (zargs [zO k i]).length ≤ 1 := ⟨rfl, Nat.le_refl _⟩
set_option maxRecDepth 100000 in
set_option maxHeartbeats 4000000 in
theorem zM_J0_coder (sc : List Int32) : zMeets (zES sc) yJ0_coder_7d493 wsJ0_coder_7d493 zR_J0_coder m_J0_coder := by
  refine zJdk (ret := some .byte) (cc := cJ0_coder_7d493) (nL := 1) (by decide +kernel) rfl (fun args s o h => ?_) ?_
  · obtain ⟨i, -, rfl, rfl⟩ := zf1_sp h
    exact ⟨_, rfl, z1ok⟩
  · intro args s v h p l e s0 m below meth c D cy A L lsC Qc XC hC hW hE hl
    obtain ⟨i, hi, rfl, hv⟩ := zf1_sp h
    cases hv
    obtain ⟨hx, hb, hml, hown, hts, hK, hA, hlocks, hr, hxt, hst, hfl⟩ := hC
    obtain ⟨-, -, -, -, q5, -, q7, -⟩ := hst.2.2 rfl
    have hl : lv_has lsC 1 [(0, .ref (L 96 i))] := hl
    have hS : va_S A s0.heap s0.heap [] := va_S.rf
    refine va_gets hx hb q7 hS hown (hts (.fieldLink RJ0 38 "java/lang/String" "COMPACT_STRINGS" "Z") (List.mem_of_getElem? (i := 1) rfl)) (fun _ h9 => h9) dJ0_coder_7d493_0 ?_
    refine lv_if_eq (tgt := 13) hx hb dJ0_coder_7d493_3 (by decide) (fun h0 => absurd h0 (by decide)) (fun _ => ?_)
    refine lv_aload_n hx hb dJ0_coder_7d493_6 rfl (lv_at hl 0 rfl) ?_
    refine vk_getf hx hb (q5.1 i hi).2.1 hS hown (hts (.fieldLink RJ0 15 "java/lang/String" "coder" "B") (List.mem_of_getElem? (i := 2) rfl)) (fun _ h9 => h9) dJ0_coder_7d493_7 ?_
    refine lv_goto (tgt := 14) hx hb dJ0_coder_7d493_10 (by decide) ?_
    refine vx_ret ?_
    exact W.zret (v := 0) (ty := .byte) hx hb hr (by decide) (fun t ht hW9 => hE s0.heap [] hW hS t ht hW9) hS.2.2 dJ0_coder_7d493_14
set_option maxRecDepth 100000 in
set_option maxHeartbeats 4000000 in
theorem zM_J0_isLatin1 (sc : List Int32) : zMeets (zES sc) yJ0_isLatin1_aae02 wsJ0_isLatin1_aae02 zR_J0_coder m_J0_isLatin1 := by
  refine zJdk (ret := some .boolean) (cc := cJ0_isLatin1_aae02) (nL := 1) (by decide +kernel) rfl (fun args s o h => ?_) ?_
  · obtain ⟨i, -, rfl, rfl⟩ := zf1_sp h
    exact ⟨_, rfl, z1ok⟩
  · intro args s v h p l e s0 m below meth c D cy A L lsC Qc XC hC hW hE hl
    obtain ⟨i, hi, rfl, hv⟩ := zf1_sp h
    cases hv
    obtain ⟨hx, hb, hml, hown, hts, hK, hA, hlocks, hr, hxt, hst, hfl⟩ := hC
    obtain ⟨-, -, -, -, q5, -, q7, -⟩ := hst.2.2 rfl
    have hl : lv_has lsC 1 [(0, .ref (L 96 i))] := hl
    have hS : va_S A s0.heap s0.heap [] := va_S.rf
    refine va_gets hx hb q7 hS hown (hts (.fieldLink RJ0 38 "java/lang/String" "COMPACT_STRINGS" "Z") (List.mem_of_getElem? (i := 1) rfl)) (fun _ h9 => h9) dJ0_isLatin1_aae02_0 ?_
    refine lv_if_eq (tgt := 17) hx hb dJ0_isLatin1_aae02_3 (by decide) (fun h0 => absurd h0 (by decide)) (fun _ => ?_)
    refine lv_aload_n hx hb dJ0_isLatin1_aae02_6 rfl (lv_at hl 0 rfl) ?_
    refine vk_getf hx hb (q5.1 i hi).2.1 hS hown (hts (.fieldLink RJ0 15 "java/lang/String" "coder" "B") (List.mem_of_getElem? (i := 2) rfl)) (fun _ h9 => h9) dJ0_isLatin1_aae02_7 ?_
    refine lv_if_ne (tgt := 17) hx hb dJ0_isLatin1_aae02_10 (by decide) (fun h0 => absurd rfl h0) (fun _ => ?_)
    refine lv_iconst (v := 1) hx hb dJ0_isLatin1_aae02_13 (by decide) ?_
    refine lv_goto (tgt := 18) hx hb dJ0_isLatin1_aae02_14 (by decide) ?_
    refine vx_ret ?_
    exact W.zret (v := 1) (ty := .boolean) hx hb hr (by decide) (fun t ht hW9 => hE s0.heap [] hW hS t ht hW9) hS.2.2 dJ0_isLatin1_aae02_18
set_option maxRecDepth 100000 in
set_option maxHeartbeats 4000000 in
theorem zM_J0_length_8abf5 (sc : List Int32) : zMeets (zES sc) yJ0_length_8abf5 wsJ0_length_8abf5 zR_J0_length_8abf5 m_J0_length_8abf5 := by
  refine zJdk (ret := some .int) (cc := cJ0_length_8abf5) (nL := 1) (by decide +kernel) rfl (fun args s o h => ?_) ?_
  · obtain ⟨i, -, rfl, rfl⟩ := zf1_sp h
    exact ⟨_, rfl, z1ok⟩
  · intro args s v h p l e s0 m below meth c D cy A L lsC Qc XC hC hW hE hl
    obtain ⟨i, hi, rfl, hv⟩ := zf1_sp h
    cases hv
    obtain ⟨hx, hb, hml, hown, hts, hK, hA, hlocks, hr, hxt, hst, hfl⟩ := hC
    obtain ⟨-, -, -, -, q5, -, q7, -⟩ := hst.2.2 rfl
    have hl : lv_has lsC 1 [(0, .ref (L 96 i))] := hl
    have hS : va_S A s0.heap s0.heap [] := va_S.rf
    refine lv_aload_n hx hb dJ0_length_8abf5_0 rfl (lv_at hl 0 rfl) ?_
    refine vk_getf hx hb (q5.1 i hi).2.2.1 hS hown (hts (.fieldLink RJ0 9 "java/lang/String" "value" "[B") (List.mem_of_getElem? (i := 1) rfl)) (fun _ h9 => h9) dJ0_length_8abf5_1 ?_
    refine va_tlen hx hb (q5.1 i hi).2.2.2 hS rfl dJ0_length_8abf5_4 ?_
    refine lv_aload_n hx hb dJ0_length_8abf5_5 rfl (lv_at hl 0 rfl) ?_
    have hfv : m_J0_coder [zO 96 i] s = some (.inl (some (zI 0)), s) := by simp [m_J0_coder, zf1, hi]
    refine zs_after (E := zES sc) (D := D) (cy := cy) (L := L) (v := some (zI 0)) (s' := s) (va_runV (As := []) (rest := [.int (Int32.ofNat (zSl.getD i 0))]) ⟨hx, hb, hml, hown, hts⟩ ((zM_J0_coder sc).2 l D cy L _ s s _ s0.heap.size hfl hfv) (cwV 0 hts gJ0_length_8abf5_J0_coder_7d493 rfl rfl rfl (by decide +kernel) ⟨by decide, by decide⟩)
          ⟨zPre.blind, vk_recv q5 hi hS, fun U hU hWm => ⟨rfl, zPre.at hK hW hS hA hst hU hWm⟩⟩ rfl rfl hl.1 rfl (lv_room (Nat.le_of_ble_eq_true rfl)) dJ0_length_8abf5_6 ⟨Nat.le_refl _, Nat.le_refl _⟩) hS (zA_sub hW hS hA) (fun H1 locs1 hW1 hS1 => ?_)
    refine lv_ishr hx hb dJ0_length_8abf5_9 ?_
    refine W.widen (k := 0) (n := 0) (Nat.le_refl _) (Nat.le_refl _) (vx_ret ?_)
    have e9 : Int32.ofNat (zSl.getD i 0) >>> ((0 : Int32) &&& 31) = zLen i := by
      have h6 : i = 0 ∨ i = 1 ∨ i = 2 ∨ i = 3 ∨ i = 4 ∨ i = 5 := by omega
      rcases h6 with rfl | rfl | rfl | rfl | rfl | rfl <;> decide
    show W p l e _ s0 m _ below meth c H1 locs1 _ _ _ (F0 m 10 lsC [.int (Int32.ofNat (zSl.getD i 0) >>> ((0 : Int32) &&& 31))])
    rw [e9]
    exact W.zret (v := zLen i) (ty := .int) hx hb hr rfl (fun t ht hW9 => hE H1 locs1 hW1 hS1 t ht hW9) hS1.2.2 dJ0_length_8abf5_10
set_option maxRecDepth 100000 in
set_option maxHeartbeats 4000000 in
theorem zM_J3_check (sc : List Int32) : zMeets (zES sc) yJ3_checkIndex_8e157 wsJ3_checkIndex_8e157 zR_J0_coder m_J3_check := by
  have sp : ∀ args s o, m_J3_check args s = some o → ∃ i n v, 0 ≤ i ∧ i < n ∧ v.category = 1 ∧ args = [zI i, zI n, .inl v] ∧ o = (.inl (some (zI i)), s) := by
    intro args s o h
    unfold m_J3_check at h
    split at h
    · split at h
      · rename_i hq
        cases h
        exact ⟨_, _, _, hq.1, hq.2.1, hq.2.2, rfl, rfl⟩
      · cases h
    · cases h
  refine zJdk (ret := some .int) (cc := cJ3_checkIndex_8e157) (nL := 3) (by decide +kernel) rfl (fun args s o h => ?_) ?_
  · obtain ⟨i, n, v, -, -, hc, rfl, rfl⟩ := sp _ _ _ h
    refine ⟨_, rfl, ?_⟩
    cases v <;> first | exact ⟨rfl, Nat.le_refl _⟩ | exact absurd hc (fun h9 => by simp [Value.category] at h9)
  · intro args s v h p l e s0 m below meth c D cy A L lsC Qc XC hC hW hE hl
    obtain ⟨i, n, v3, h0, hn, hc, rfl, hv⟩ := sp _ _ _ h
    cases hv
    obtain ⟨hx, hb, hml, hown, hts, hK, hA, hlocks, hr, hxt, hst, hfl⟩ := hC
    have hl : lv_has lsC 3 [(0, .int i), (1, .int n), (2, v3)] := hl
    have hS : va_S A s0.heap s0.heap [] := va_S.rf
    refine lv_iload_n hx hb dJ3_checkIndex_8e157_0 rfl (lv_at hl 0 rfl) ?_
    refine lv_if_lt (tgt := 9) hx hb dJ3_checkIndex_8e157_1 (by decide) (fun h9 => absurd h0 (Int32.not_le.mpr h9)) (fun _ => ?_)
    refine lv_iload_n hx hb dJ3_checkIndex_8e157_4 rfl (lv_at hl 0 rfl) ?_
    refine lv_iload_n hx hb dJ3_checkIndex_8e157_5 rfl (lv_at hl 1 rfl) ?_
    refine lv_icmp_lt (tgt := 16) hx hb dJ3_checkIndex_8e157_6 (by decide) (fun _ => ?_) (fun h9 => absurd hn h9)
    refine lv_iload_n hx hb dJ3_checkIndex_8e157_16 rfl (lv_at hl 0 rfl) ?_
    refine vx_ret ?_
    exact W.zret (v := i) (ty := .int) hx hb hr rfl (fun t ht hW9 => hE s0.heap [] hW hS t ht hW9) hS.2.2 dJ3_checkIndex_8e157_17
set_option maxRecDepth 100000 in
set_option maxHeartbeats 4000000 in
theorem zM_J0_check (sc : List Int32) : zMeets (zES sc) yJ0_checkIndex_df160 wsJ0_checkIndex_df160 zR_J0_check m_J0_check := by
  have sp : ∀ args s o, m_J0_check args s = some o → ∃ i n, 0 ≤ i ∧ i < n ∧ args = [zI i, zI n] ∧ o = (.inl none, s) := by
    intro args s o h
    unfold m_J0_check at h
    split at h
    · split at h
      · rename_i hq
        cases h
        exact ⟨_, _, hq.1, hq.2, rfl, rfl⟩
      · cases h
    · cases h
  refine zJdk (ret := none) (cc := cJ0_checkIndex_df160) (nL := 2) (by decide +kernel) rfl (fun args s o h => ?_) ?_
  · obtain ⟨i, n, -, -, rfl, rfl⟩ := sp _ _ _ h
    exact ⟨_, rfl, rfl, Nat.le_refl _⟩
  · intro args s v h p l e s0 m below meth c D cy A L lsC Qc XC hC hW hE hl
    obtain ⟨i, n, h0, hn, rfl, hv⟩ := sp _ _ _ h
    cases hv
    obtain ⟨hx, hb, hml, hown, hts, hK, hA, hlocks, hr, hxt, hst, hfl⟩ := hC
    obtain ⟨-, -, -, -, -, -, -, q8⟩ := hst.2.2 rfl
    have hl : lv_has lsC 2 [(0, .int i), (1, .int n)] := hl
    have hS : va_S A s0.heap s0.heap [] := va_S.rf
    refine lv_iload_n hx hb dJ0_checkIndex_df160_0 rfl (lv_at hl 0 rfl) ?_
    refine lv_iload_n hx hb dJ0_checkIndex_df160_1 rfl (lv_at hl 1 rfl) ?_
    have go : ∀ v3 : Value, v3.category = 1 → W p l e zR_J0_check s0 m ([zI i, zI n].map (zc L)).toArray below meth c s0.heap [] 0 0 (vx_MQ below Qc XC ([zI i, zI n].map (zc L)).toArray s0 zR_J0_check.cells zR_J0_check.slots A) (F0 m 5 lsC [v3, .int n, .int i]) := by
      intro v3 h3
      have hfv : m_J3_check [zI i, zI n, .inl v3] s = some (.inl (some (zI i)), s) := by
        unfold m_J3_check
        exact if_pos ⟨h0, hn, h3⟩
      refine zs_after (E := zES sc) (D := D) (cy := cy) (L := L) (v := some (zI i)) (s' := s) (va_runS (As := [.int i, .int n, v3]) (rest := []) ⟨hx, hb, hml, hown, hts⟩ ((zM_J3_check sc).2 l D cy L _ s s _ s0.heap.size hfl hfv) (va_cwS 3 hts gJ0_checkIndex_df160_J3_checkIndex_8e157 rfl rfl rfl (by decide +kernel) ⟨by decide, by decide⟩)
        ⟨zPre.blind, fun U hU hWm => ⟨rfl, zPre.at hK hW hS hA hst hU hWm⟩⟩ rfl rfl hl.1 rfl (lv_room (by decide)) dJ0_checkIndex_df160_5 ⟨Nat.le_refl _, Nat.le_refl _⟩) hS (zA_sub hW hS hA) (fun H1 locs1 hW1 hS1 => ?_)
      refine lv_pop hx hb dJ0_checkIndex_df160_8 rfl ?_
      refine W.widen (k := 0) (n := 0) (Nat.le_refl _) (Nat.le_refl _) (vx_ret ?_)
      exact W.vret hx hb hr (fun t ht hW9 => hE H1 locs1 hW1 hS1 t ht hW9) hS1.2.2 dJ0_checkIndex_df160_9
    have hlk := hts (.fieldLink RJ0 1053 "jdk/internal/util/Preconditions" "SIOOBE_FORMATTER" "Ljava/util/function/BiFunction;") (List.mem_of_getElem? (i := 1) rfl)
    rcases q8.1 with hz | ⟨t, hz⟩
    · exact va_gets hx hb hz hS hown hlk (fun _ h9 => h9) dJ0_checkIndex_df160_2 (go _ rfl)
    · exact va_gets hx hb hz hS hown hlk (fun _ h9 => h9) dJ0_checkIndex_df160_2 (go _ rfl)
theorem zIn_int {i : Nat} {j : Int32} (h : zIn i j) : 0 ≤ j ∧ j < Int32.ofNat (zSl.getD i 0) := by
  obtain ⟨h1, h2, h3⟩ := h
  have h0 : 0 ≤ j := Int32.not_lt.mp h2
  refine ⟨h0, ?_⟩
  have hb : zSl.getD i 0 < 4 := by
    have h6 : i = 0 ∨ i = 1 ∨ i = 2 ∨ i = 3 ∨ i = 4 ∨ i = 5 := by omega
    rcases h6 with rfl | rfl | rfl | rfl | rfl | rfl <;> decide
  have e1 : (Int32.ofNat (zSl.getD i 0)).toInt = zSl.getD i 0 := nI_toInt (n := zSl.getD i 0) (by omega)
  have e2 : (j.toNatClampNeg : Int) = j.toInt := by
    have := Int32.le_iff_toInt_le.mp h0
    have e3 : (0 : Int32).toInt = 0 := rfl
    unfold Int32.toNatClampNeg
    omega
  rw [Int32.lt_iff_toInt_lt, e1]
  omega
set_option maxRecDepth 100000 in
set_option maxHeartbeats 4000000 in
theorem zM_J1_charAt (sc : List Int32) : zMeets (zES sc) yJ1_charAt_3b067 wsJ1_charAt_3b067 zR_J1_charAt m_J1_charAt := by
  refine zJdk (ret := some .char) (cc := cJ1_charAt_3b067) (nL := 2) (by decide +kernel) rfl (fun args s o h => ?_) ?_
  · obtain ⟨i, j, -, rfl, rfl⟩ := zf2_sp h
    exact ⟨_, rfl, rfl, Nat.le_refl _⟩
  · intro args s v h p l e s0 m below meth c D cy A L lsC Qc XC hC hW hE hl
    obtain ⟨i, j, hij, rfl, hv⟩ := zf2_sp h
    cases hv
    obtain ⟨hx, hb, hml, hown, hts, hK, hA, hlocks, hr, hxt, hst, hfl⟩ := hC
    obtain ⟨-, -, -, -, q5, -, -, -⟩ := hst.2.2 rfl
    have hl : lv_has lsC 2 [(0, .ref (L 95 i)), (1, .int j)] := hl
    have hS : va_S A s0.heap s0.heap [] := va_S.rf
    have hT := (q5.1 i hij.1).2.2.2
    refine lv_iload_n hx hb dJ1_charAt_3b067_0 rfl (lv_at hl 1 rfl) ?_
    refine lv_aload_n hx hb dJ1_charAt_3b067_1 rfl (lv_at hl 0 rfl) ?_
    refine va_tlen hx hb hT hS rfl dJ1_charAt_3b067_2 ?_
    have hfv : m_J0_check [zI j, zI (Int32.ofNat (zSl.getD i 0))] s = some (.inl none, s) := by
      unfold m_J0_check
      exact if_pos (zIn_int hij)
    refine zs_after (E := zES sc) (D := D) (cy := cy) (L := L) (v := none) (s' := s) (va_runS (As := [.int j, .int (Int32.ofNat (zSl.getD i 0))]) (rest := []) ⟨hx, hb, hml, hown, hts⟩ ((zM_J0_check sc).2 l D cy L _ s s _ s0.heap.size hfl hfv) (va_cwS 2 hts gJ1_charAt_3b067_J0_checkIndex_df160 rfl rfl rfl (by decide +kernel) ⟨by decide, by decide⟩)
      ⟨zPre.blind, fun U hU hWm => ⟨rfl, zPre.at hK hW hS hA hst hU hWm⟩⟩ rfl rfl hl.1 rfl (lv_room (by decide)) dJ1_charAt_3b067_3 ⟨Nat.le_refl _, Nat.le_refl _⟩) hS (zA_sub hW hS hA) (fun H1 locs1 hW1 hS1 => ?_)
    refine lv_aload_n hx hb dJ1_charAt_3b067_6 rfl (lv_at hl 0 rfl) ?_
    refine lv_iload_n hx hb dJ1_charAt_3b067_7 rfl (lv_at hl 1 rfl) ?_
    refine va_tb (v := .int (zChr i j)) hx hb hT hS1 (zvin hij.2.1 hij.2.2) rfl dJ1_charAt_3b067_8 ?_
    refine lv_sipush (v := 255) hx hb dJ1_charAt_3b067_9 (by decide) ?_
    refine lv_iand hx hb dJ1_charAt_3b067_12 ?_
    have e9 : ((zChr i j &&& 255).toUInt32 % 65536).toInt32 = zChr i j := by
      rcases zChr_is hij with h9 | h9 | h9 <;> rw [h9] <;> decide
    refine lv_i2c (v := zChr i j) hx hb dJ1_charAt_3b067_13 e9 ?_
    refine W.widen (k := 0) (n := 0) (Nat.le_refl _) (Nat.le_refl _) (vx_ret ?_)
    exact W.zret (v := zChr i j) (ty := .char) hx hb hr (by rcases zChr_is hij with h9 | h9 | h9 <;> rw [h9] <;> decide) (fun t ht hW9 => hE H1 locs1 hW1 hS1 t ht hW9) hS1.2.2 dJ1_charAt_3b067_14
set_option maxRecDepth 100000 in
set_option maxHeartbeats 4000000 in
theorem zM_J0_charAt_5068e (sc : List Int32) : zMeets (zES sc) yJ0_charAt_5068e wsJ0_charAt_5068e zR_J0_charAt_5068e m_J0_charAt_5068e := by
  refine zJdk (ret := some .char) (cc := cJ0_charAt_5068e) (nL := 2) (by decide +kernel) rfl (fun args s o h => ?_) ?_
  · obtain ⟨i, j, -, rfl, rfl⟩ := zf2_sp h
    exact ⟨_, rfl, rfl, Nat.le_refl _⟩
  · intro args s v h p l e s0 m below meth c D cy A L lsC Qc XC hC hW hE hl
    obtain ⟨i, j, hij, rfl, hv⟩ := zf2_sp h
    cases hv
    obtain ⟨hx, hb, hml, hown, hts, hK, hA, hlocks, hr, hxt, hst, hfl⟩ := hC
    obtain ⟨-, -, -, -, q5, -, -, -⟩ := hst.2.2 rfl
    have hl : lv_has lsC 2 [(0, .ref (L 96 i)), (1, .int j)] := hl
    have hS : va_S A s0.heap s0.heap [] := va_S.rf
    have hi := hij.1
    refine lv_aload_n hx hb dJ0_charAt_5068e_0 rfl (lv_at hl 0 rfl) ?_
    have hfv : m_J0_isLatin1 [zO 96 i] s = some (.inl (some (zI 1)), s) := by simp [m_J0_isLatin1, zf1, hi]
    refine zs_after (E := zES sc) (D := D) (cy := cy) (L := L) (v := some (zI 1)) (s' := s) (va_runV (As := []) (rest := []) ⟨hx, hb, hml, hown, hts⟩ ((zM_J0_isLatin1 sc).2 l D cy L _ s s _ s0.heap.size hfl hfv) (cwV 0 hts gJ0_charAt_5068e_J0_isLatin1_aae02 rfl rfl rfl (by decide +kernel) ⟨by decide, by decide⟩)
          ⟨zPre.blind, vk_recv q5 hi hS, fun U hU hWm => ⟨rfl, zPre.at hK hW hS hA hst hU hWm⟩⟩ rfl rfl hl.1 rfl (lv_room (by decide)) dJ0_charAt_5068e_1 ⟨Nat.le_refl _, Nat.le_refl _⟩) hS (zA_sub hW hS hA) (fun H1 locs1 hW1 hS1 => ?_)
    refine lv_if_eq (tgt := 16) hx hb dJ0_charAt_5068e_4 (by decide) (fun h0 => absurd h0 (by decide)) (fun _ => ?_)
    refine lv_aload_n hx hb dJ0_charAt_5068e_7 rfl (lv_at hl 0 rfl) ?_
    refine vk_getf hx hb (q5.1 i hi).2.2.1 hS1 hown (hts (.fieldLink RJ0 9 "java/lang/String" "value" "[B") (List.mem_of_getElem? (i := 1) rfl)) (fun _ h9 => h9) dJ0_charAt_5068e_8 ?_
    refine lv_iload_n hx hb dJ0_charAt_5068e_11 rfl (lv_at hl 1 rfl) ?_
    have hfv2 : m_J1_charAt [zO 95 i, zI j] s = some (.inl (some (zI (zChr i j))), s) := by
      unfold m_J1_charAt zf2
      exact if_pos ⟨rfl, hij⟩
    refine zs_after (E := zES sc) (D := D) (cy := cy) (L := L) (v := some (zI (zChr i j))) (s' := s) (va_runS (As := [.ref (L 95 i), .int j]) (rest := []) ⟨hx, hb, hml, hown, hts⟩ ((zM_J1_charAt sc).2 l D cy L _ s s _ H1.size hfl hfv2) (va_cwS 2 hts gJ0_charAt_5068e_J1_charAt_3b067 rfl rfl rfl (by decide +kernel) ⟨by decide, by decide⟩)
      ⟨zPre.blind, fun U hU hWm => ⟨rfl, zPre.at hK hW1 hS1 hA hst hU hWm⟩⟩ rfl rfl hl.1 rfl (lv_room (by decide)) dJ0_charAt_5068e_12 ⟨Nat.le_refl _, Nat.le_refl _⟩) hS1 (zA_sub hW1 hS1 hA) (fun H2 locs2 hW2 hS2 => ?_)
    refine W.widen (k := 0) (n := 0) (Nat.le_refl _) (Nat.le_refl _) (vx_ret ?_)
    exact W.zret (v := zChr i j) (ty := .char) hx hb hr (by rcases zChr_is hij with h9 | h9 | h9 <;> rw [h9] <;> decide) (fun t ht hW9 => hE H2 locs2 hW2 hS2 t ht hW9) hS2.2.2 dJ0_charAt_5068e_15
