/-! X9_thrown: PrimePlaneModel.thrown()I -/
abbrev zR_X9_thrown : Room := ({ frames := 0, cells := 0, slots := 0, locals := 0 } : Room)
noncomputable def zl_X9_thrown : List (Nat × zOp) := [(0, z_lda 0 1), (1, z_get zEM 9 0 4), (4, z_reti false)]
noncomputable def zk_X9_thrown (pc : Nat) : Option zOp := zlook zl_X9_thrown pc
noncomputable def m_X9_thrown : List zAV → zAS → Option zOut := zmeth zk_X9_thrown 1
set_option maxRecDepth 100000 in
set_option maxHeartbeats 4000000 in
theorem zcs_X9_thrown {R : Room} (hR : R = zR_X9_thrown) : ∀ q ∈ zl_X9_thrown, zS zEM yX9_thrown.cls cX9_thrown 1 wsX9_thrown (some .int) R q.1 q.2 := by
  subst hR
  have hin9 : ∀ w ∈ wsX90, w ∈ wsX9_thrown := fun w h => List.mem_cons_of_mem _ (List.mem_append_right _ h)
  refine List.forall_mem_cons.mpr ⟨zs_aload_n dX9_thrown_0 rfl, ?_⟩
  refine List.forall_mem_cons.mpr ⟨zs_get (ci := 9) (j := 0) (N := 10) (C := RX9) (T := TX9) (index := 29) rfl (by decide) hin9 (List.mem_of_getElem? (i := 1) rfl) dX9_thrown_1, ?_⟩
  refine List.forall_mem_cons.mpr ⟨zs_reti (ty := .int) rfl (fun x h => (zni x h).1) dX9_thrown_4, ?_⟩
  exact fun _ h => absurd h List.not_mem_nil
theorem zM_X9_thrown : zMeets zEM yX9_thrown wsX9_thrown zR_X9_thrown m_X9_thrown := zmeth_M zEMok (zlook_all (zcs_X9_thrown rfl)) (by decide +kernel) rfl
theorem zr_X9_thrown_0 (st : List zAV) (s : zAS) (k : Nat × Nat) (o : Nat × Nat) : zev zk_X9_thrown (0, [some (Sum.inr o)], st, s, k) = zev zk_X9_thrown (1, [some (Sum.inr o)], Sum.inr o :: st, s, k) := zev_go rfl rfl
theorem zr_X9_thrown_1 (ls : zLs) (st : List zAV) (s : zAS) (k : Nat × Nat) (o i : Nat) : zev zk_X9_thrown (1, ls, Sum.inr (o, i) :: st, s, k) = zpush zk_X9_thrown 4 ls st s k (zgv zEM 9 0 o i s.1) := zf_get rfl
theorem zr_X9_thrown_4 (ls : zLs) (s : zAS) (k : Nat × Nat) (x : Int32) : zev zk_X9_thrown (4, ls, [Sum.inl (Value.int x)], s, k) = some (.inl (some (Sum.inl (Value.int x))), s) := zf_reti rfl
/-! X9_fail: PrimePlaneModel.fail(I)I -/
abbrev zR_X9_fail : Room := ({ frames := 0, cells := 0, slots := 0, locals := 0 } : Room)
noncomputable def zl_X9_fail : List (Nat × zOp) := [(0, z_lda 0 1), (1, z_ldi 1 2), (2, z_put zEM 9 0 false 5), (5, z_ic (0) 6), (6, z_reti false)]
noncomputable def zk_X9_fail (pc : Nat) : Option zOp := zlook zl_X9_fail pc
noncomputable def m_X9_fail : List zAV → zAS → Option zOut := zmeth zk_X9_fail 2
set_option maxRecDepth 100000 in
set_option maxHeartbeats 4000000 in
theorem zcs_X9_fail {R : Room} (hR : R = zR_X9_fail) : ∀ q ∈ zl_X9_fail, zS zEM yX9_fail.cls cX9_fail 2 wsX9_fail (some .int) R q.1 q.2 := by
  subst hR
  have hin9 : ∀ w ∈ wsX90, w ∈ wsX9_fail := fun w h => List.mem_cons_of_mem _ (List.mem_append_right _ h)
  refine List.forall_mem_cons.mpr ⟨zs_aload_n dX9_fail_0 rfl, ?_⟩
  refine List.forall_mem_cons.mpr ⟨zs_iload_n dX9_fail_1 rfl, ?_⟩
  refine List.forall_mem_cons.mpr ⟨zs_put (ci := 9) (j := 0) (N := 10) (C := RX9) (T := TX9) (index := 29) (b := false) .int tyX9 rfl (by decide) hin9 tyX9_ok nmX9 (List.mem_of_getElem? (i := 1) rfl) rfl (by decide +kernel) zni dX9_fail_2, ?_⟩
  refine List.forall_mem_cons.mpr ⟨zs_iconst dX9_fail_5 (by decide), ?_⟩
  refine List.forall_mem_cons.mpr ⟨zs_reti (ty := .int) rfl (fun x h => (zni x h).1) dX9_fail_6, ?_⟩
  exact fun _ h => absurd h List.not_mem_nil
theorem zM_X9_fail : zMeets zEM yX9_fail wsX9_fail zR_X9_fail m_X9_fail := zmeth_M zEMok (zlook_all (zcs_X9_fail rfl)) (by decide +kernel) rfl
theorem zr_X9_fail_0 (a1 : Option zAV) (st : List zAV) (s : zAS) (k : Nat × Nat) (o : Nat × Nat) : zev zk_X9_fail (0, [some (Sum.inr o), a1], st, s, k) = zev zk_X9_fail (1, [some (Sum.inr o), a1], Sum.inr o :: st, s, k) := zev_go rfl rfl
theorem zr_X9_fail_1 (a0 : Option zAV) (st : List zAV) (s : zAS) (k : Nat × Nat) (x : Int32) : zev zk_X9_fail (1, [a0, some (Sum.inl (Value.int x))], st, s, k) = zev zk_X9_fail (2, [a0, some (Sum.inl (Value.int x))], Sum.inl (Value.int x) :: st, s, k) := zev_go rfl rfl
theorem zr_X9_fail_2 (ls : zLs) (st : List zAV) (s : zAS) (k : Nat × Nat) (o i : Nat) (x : Int32) (h : zpok zEM 9 0 false o i x) : zev zk_X9_fail (2, ls, Sum.inl (Value.int x) :: Sum.inr (o, i) :: st, s, k) = zev zk_X9_fail (5, ls, st, (zup s.1 o i 0 x, s.2), k) := zf_put rfl h
theorem zr_X9_fail_5 (ls : zLs) (st : List zAV) (s : zAS) (k : Nat × Nat) : zev zk_X9_fail (5, ls, st, s, k) = zev zk_X9_fail (6, ls, Sum.inl (Value.int (0)) :: st, s, k) := zev_go rfl rfl
theorem zr_X9_fail_6 (ls : zLs) (s : zAS) (k : Nat × Nat) (x : Int32) : zev zk_X9_fail (6, ls, [Sum.inl (Value.int x)], s, k) = some (.inl (some (Sum.inl (Value.int x))), s) := zf_reti rfl
/-! X9_isIn: PrimePlaneModel.isIn(III)Z -/
abbrev zR_X9_isIn : Room := ({ frames := 0, cells := 0, slots := 0, locals := 0 } : Room)
noncomputable def zl_X9_isIn : List (Nat × zOp) := [(0, z_ldi 0 1), (1, z_ldi 1 2), (2, z_cmp (fun x y => decide (x < y)) 14 5), (5, z_ldi 0 6), (6, z_ldi 2 7), (7, z_cmp (fun x y => decide (y < x)) 14 10), (10, z_ic (1) 11), (11, z_goto 15), (14, z_ic (0) 15), (15, z_reti true)]
noncomputable def zk_X9_isIn (pc : Nat) : Option zOp := zlook zl_X9_isIn pc
noncomputable def m_X9_isIn : List zAV → zAS → Option zOut := zmeth zk_X9_isIn 3
set_option maxRecDepth 100000 in
set_option maxHeartbeats 4000000 in
theorem zcs_X9_isIn {R : Room} (hR : R = zR_X9_isIn) : ∀ q ∈ zl_X9_isIn, zS zEM yX9_isIn.cls cX9_isIn 3 wsX9_isIn (some .boolean) R q.1 q.2 := by
  subst hR
  refine List.forall_mem_cons.mpr ⟨zs_iload_n dX9_isIn_0 rfl, ?_⟩
  refine List.forall_mem_cons.mpr ⟨zs_iload_n dX9_isIn_1 rfl, ?_⟩
  refine List.forall_mem_cons.mpr ⟨zs_iclt dX9_isIn_2 (by decide), ?_⟩
  refine List.forall_mem_cons.mpr ⟨zs_iload_n dX9_isIn_5 rfl, ?_⟩
  refine List.forall_mem_cons.mpr ⟨zs_iload_n dX9_isIn_6 rfl, ?_⟩
  refine List.forall_mem_cons.mpr ⟨zs_icgt dX9_isIn_7 (by decide), ?_⟩
  refine List.forall_mem_cons.mpr ⟨zs_iconst dX9_isIn_10 (by decide), ?_⟩
  refine List.forall_mem_cons.mpr ⟨zs_goto dX9_isIn_11 (by decide), ?_⟩
  refine List.forall_mem_cons.mpr ⟨zs_iconst dX9_isIn_14 (by decide), ?_⟩
  refine List.forall_mem_cons.mpr ⟨zs_reti (ty := .boolean) rfl (fun x h => (znz x h).1) dX9_isIn_15, ?_⟩
  exact fun _ h => absurd h List.not_mem_nil
theorem zM_X9_isIn : zMeets zEM yX9_isIn wsX9_isIn zR_X9_isIn m_X9_isIn := zmeth_M zEMok (zlook_all (zcs_X9_isIn rfl)) (by decide +kernel) rfl
theorem zr_X9_isIn_0 (a1 a2 : Option zAV) (st : List zAV) (s : zAS) (k : Nat × Nat) (x : Int32) : zev zk_X9_isIn (0, [some (Sum.inl (Value.int x)), a1, a2], st, s, k) = zev zk_X9_isIn (1, [some (Sum.inl (Value.int x)), a1, a2], Sum.inl (Value.int x) :: st, s, k) := zev_go rfl rfl
theorem zr_X9_isIn_1 (a0 a2 : Option zAV) (st : List zAV) (s : zAS) (k : Nat × Nat) (x : Int32) : zev zk_X9_isIn (1, [a0, some (Sum.inl (Value.int x)), a2], st, s, k) = zev zk_X9_isIn (2, [a0, some (Sum.inl (Value.int x)), a2], Sum.inl (Value.int x) :: st, s, k) := zev_go rfl rfl
theorem zr_X9_isIn_2 (ls : zLs) (st : List zAV) (s : zAS) (k : Nat × Nat) (x y : Int32) : zev zk_X9_isIn (2, ls, Sum.inl (Value.int y) :: Sum.inl (Value.int x) :: st, s, k) = if decide (x < y) = true then zev zk_X9_isIn (14, ls, st, s, k) else zev zk_X9_isIn (5, ls, st, s, k) := zf_cmp (f := fun x y => decide (x < y)) rfl
theorem zr_X9_isIn_5 (a1 a2 : Option zAV) (st : List zAV) (s : zAS) (k : Nat × Nat) (x : Int32) : zev zk_X9_isIn (5, [some (Sum.inl (Value.int x)), a1, a2], st, s, k) = zev zk_X9_isIn (6, [some (Sum.inl (Value.int x)), a1, a2], Sum.inl (Value.int x) :: st, s, k) := zev_go rfl rfl
theorem zr_X9_isIn_6 (a0 a1 : Option zAV) (st : List zAV) (s : zAS) (k : Nat × Nat) (x : Int32) : zev zk_X9_isIn (6, [a0, a1, some (Sum.inl (Value.int x))], st, s, k) = zev zk_X9_isIn (7, [a0, a1, some (Sum.inl (Value.int x))], Sum.inl (Value.int x) :: st, s, k) := zev_go rfl rfl
theorem zr_X9_isIn_7 (ls : zLs) (st : List zAV) (s : zAS) (k : Nat × Nat) (x y : Int32) : zev zk_X9_isIn (7, ls, Sum.inl (Value.int y) :: Sum.inl (Value.int x) :: st, s, k) = if decide (y < x) = true then zev zk_X9_isIn (14, ls, st, s, k) else zev zk_X9_isIn (10, ls, st, s, k) := zf_cmp (f := fun x y => decide (y < x)) rfl
theorem zr_X9_isIn_10 (ls : zLs) (st : List zAV) (s : zAS) (k : Nat × Nat) : zev zk_X9_isIn (10, ls, st, s, k) = zev zk_X9_isIn (11, ls, Sum.inl (Value.int (1)) :: st, s, k) := zev_go rfl rfl
theorem zr_X9_isIn_11 (ls : zLs) (st : List zAV) (s : zAS) (k : Nat × Nat) : zev zk_X9_isIn (11, ls, st, s, k) = zev zk_X9_isIn (15, ls, st, s, k) := zev_go rfl rfl
theorem zr_X9_isIn_14 (ls : zLs) (st : List zAV) (s : zAS) (k : Nat × Nat) : zev zk_X9_isIn (14, ls, st, s, k) = zev zk_X9_isIn (15, ls, Sum.inl (Value.int (0)) :: st, s, k) := zev_go rfl rfl
theorem zr_X9_isIn_15 (ls : zLs) (s : zAS) (k : Nat × Nat) (x : Int32) (hx : x = 0 ∨ x = 1) : zev zk_X9_isIn (15, ls, [Sum.inl (Value.int x)], s, k) = some (.inl (some (Sum.inl (Value.int x))), s) := zf_retz rfl hx
/-! X9_isObject: PrimePlaneModel.isObject(I)Z -/
abbrev zR_X9_isObject : Room := ({ frames := 1, cells := 0, slots := 0, locals := 22 } : Room)
noncomputable def zl_X9_isObject : List (Nat × zOp) := [(0, z_ldi 1 1), (1, z_ic (0) 2), (2, z_lda 0 3), (3, z_get zEM 9 2 6), (6, z_ic (1) 7), (7, z_bin (fun x y => x - y) 8), (8, z_callS m_X9_isIn 3 0 0 (zR_X9_isObject).cells (zR_X9_isObject).slots 11), (11, z_reti true)]
noncomputable def zk_X9_isObject (pc : Nat) : Option zOp := zlook zl_X9_isObject pc
noncomputable def m_X9_isObject : List zAV → zAS → Option zOut := zmeth zk_X9_isObject 2
set_option maxRecDepth 100000 in
set_option maxHeartbeats 4000000 in
theorem zcs_X9_isObject {R : Room} (hR : R = zR_X9_isObject) : ∀ q ∈ zl_X9_isObject, zS zEM yX9_isObject.cls cX9_isObject 2 wsX9_isObject (some .boolean) R q.1 q.2 := by
  subst hR
  have hin9 : ∀ w ∈ wsX90, w ∈ wsX9_isObject := fun w h => List.mem_cons_of_mem _ (List.mem_append_right _ h)
  refine List.forall_mem_cons.mpr ⟨zs_iload_n dX9_isObject_0 rfl, ?_⟩
  refine List.forall_mem_cons.mpr ⟨zs_iconst dX9_isObject_1 (by decide), ?_⟩
  refine List.forall_mem_cons.mpr ⟨zs_aload_n dX9_isObject_2 rfl, ?_⟩
  refine List.forall_mem_cons.mpr ⟨zs_get (ci := 9) (j := 2) (N := 10) (C := RX9) (T := TX9) (index := 32) rfl (by decide) hin9 (List.mem_of_getElem? (i := 1) rfl) dX9_isObject_3, ?_⟩
  refine List.forall_mem_cons.mpr ⟨zs_iconst dX9_isObject_6 (by decide), ?_⟩
  refine List.forall_mem_cons.mpr ⟨zs_isub dX9_isObject_7, ?_⟩
  refine List.forall_mem_cons.mpr ⟨zs_callS (rm := zR_X9_isIn) (n := 3) zM_X9_isIn gX9_isObject_X9_isIn rfl (by decide +kernel) ⟨by decide, by decide⟩ dX9_isObject_8, ?_⟩
  refine List.forall_mem_cons.mpr ⟨zs_reti (ty := .boolean) rfl (fun x h => (znz x h).1) dX9_isObject_11, ?_⟩
  exact fun _ h => absurd h List.not_mem_nil
theorem zM_X9_isObject : zMeets zEM yX9_isObject wsX9_isObject zR_X9_isObject m_X9_isObject := zmeth_M zEMok (zlook_all (zcs_X9_isObject rfl)) (by decide +kernel) rfl
theorem zr_X9_isObject_0 (a0 : Option zAV) (st : List zAV) (s : zAS) (k : Nat × Nat) (x : Int32) : zev zk_X9_isObject (0, [a0, some (Sum.inl (Value.int x))], st, s, k) = zev zk_X9_isObject (1, [a0, some (Sum.inl (Value.int x))], Sum.inl (Value.int x) :: st, s, k) := zev_go rfl rfl
theorem zr_X9_isObject_1 (ls : zLs) (st : List zAV) (s : zAS) (k : Nat × Nat) : zev zk_X9_isObject (1, ls, st, s, k) = zev zk_X9_isObject (2, ls, Sum.inl (Value.int (0)) :: st, s, k) := zev_go rfl rfl
theorem zr_X9_isObject_2 (a1 : Option zAV) (st : List zAV) (s : zAS) (k : Nat × Nat) (o : Nat × Nat) : zev zk_X9_isObject (2, [some (Sum.inr o), a1], st, s, k) = zev zk_X9_isObject (3, [some (Sum.inr o), a1], Sum.inr o :: st, s, k) := zev_go rfl rfl
theorem zr_X9_isObject_3 (ls : zLs) (st : List zAV) (s : zAS) (k : Nat × Nat) (o i : Nat) : zev zk_X9_isObject (3, ls, Sum.inr (o, i) :: st, s, k) = zpush zk_X9_isObject 6 ls st s k (zgv zEM 9 2 o i s.1) := zf_get rfl
theorem zr_X9_isObject_6 (ls : zLs) (st : List zAV) (s : zAS) (k : Nat × Nat) : zev zk_X9_isObject (6, ls, st, s, k) = zev zk_X9_isObject (7, ls, Sum.inl (Value.int (1)) :: st, s, k) := zev_go rfl rfl
theorem zr_X9_isObject_7 (ls : zLs) (st : List zAV) (s : zAS) (k : Nat × Nat) (x y : Int32) : zev zk_X9_isObject (7, ls, Sum.inl (Value.int y) :: Sum.inl (Value.int x) :: st, s, k) = zev zk_X9_isObject (8, ls, Sum.inl (Value.int (x - y)) :: st, s, k) := zev_go rfl rfl
theorem zr_X9_isObject_8 (ls : zLs) (st : List zAV) (s : zAS) (k : Nat × Nat) (v0 v1 v2 : zAV) (h : (st.map zcat).sum ≤ 8 ∧ k.1 + 0 ≤ (zR_X9_isObject).cells ∧ k.2 + 0 ≤ (zR_X9_isObject).slots) : zev zk_X9_isObject (8, ls, v2 :: v1 :: v0 :: st, s, k) = zret zk_X9_isObject 11 ls st (k.1 + 0, k.2 + 0) (m_X9_isIn [v0, v1, v2] s) := zf_callS (as := [v2, v1, v0]) 3 rfl rfl h
theorem zr_X9_isObject_11 (ls : zLs) (s : zAS) (k : Nat × Nat) (x : Int32) (hx : x = 0 ∨ x = 1) : zev zk_X9_isObject (11, ls, [Sum.inl (Value.int x)], s, k) = some (.inl (some (Sum.inl (Value.int x))), s) := zf_retz rfl hx
/-! X9_get: PrimePlaneModel.get(II)I -/
abbrev zR_X9_get : Room := ({ frames := 0, cells := 0, slots := 0, locals := 0 } : Room)
noncomputable def zl_X9_get : List (Nat × zOp) := [(0, z_lda 0 1), (1, z_get zEM 9 3 4), (4, z_ic (11) 6), (6, z_ldi 1 7), (7, z_bin (fun x y => x * y) 8), (8, z_ldi 2 9), (9, z_bin (fun x y => x + y) 10), (10, z_iald zEM 11), (11, z_reti false)]
noncomputable def zk_X9_get (pc : Nat) : Option zOp := zlook zl_X9_get pc
noncomputable def m_X9_get : List zAV → zAS → Option zOut := zmeth zk_X9_get 3
set_option maxRecDepth 100000 in
set_option maxHeartbeats 4000000 in
theorem zcs_X9_get {R : Room} (hR : R = zR_X9_get) : ∀ q ∈ zl_X9_get, zS zEM yX9_get.cls cX9_get 3 wsX9_get (some .int) R q.1 q.2 := by
  subst hR
  have hin9 : ∀ w ∈ wsX90, w ∈ wsX9_get := fun w h => List.mem_cons_of_mem _ (List.mem_append_right _ h)
  refine List.forall_mem_cons.mpr ⟨zs_aload_n dX9_get_0 rfl, ?_⟩
  refine List.forall_mem_cons.mpr ⟨zs_get (ci := 9) (j := 3) (N := 10) (C := RX9) (T := TX9) (index := 13) rfl (by decide) hin9 (List.mem_of_getElem? (i := 1) rfl) dX9_get_1, ?_⟩
  refine List.forall_mem_cons.mpr ⟨zs_bipush dX9_get_4 (by decide), ?_⟩
  refine List.forall_mem_cons.mpr ⟨zs_iload_n dX9_get_6 rfl, ?_⟩
  refine List.forall_mem_cons.mpr ⟨zs_imul dX9_get_7, ?_⟩
  refine List.forall_mem_cons.mpr ⟨zs_iload_n dX9_get_8 rfl, ?_⟩
  refine List.forall_mem_cons.mpr ⟨zs_iadd dX9_get_9, ?_⟩
  refine List.forall_mem_cons.mpr ⟨zs_iald dX9_get_10, ?_⟩
  refine List.forall_mem_cons.mpr ⟨zs_reti (ty := .int) rfl (fun x h => (zni x h).1) dX9_get_11, ?_⟩
  exact fun _ h => absurd h List.not_mem_nil
theorem zM_X9_get : zMeets zEM yX9_get wsX9_get zR_X9_get m_X9_get := zmeth_M zEMok (zlook_all (zcs_X9_get rfl)) (by decide +kernel) rfl
theorem zr_X9_get_0 (a1 a2 : Option zAV) (st : List zAV) (s : zAS) (k : Nat × Nat) (o : Nat × Nat) : zev zk_X9_get (0, [some (Sum.inr o), a1, a2], st, s, k) = zev zk_X9_get (1, [some (Sum.inr o), a1, a2], Sum.inr o :: st, s, k) := zev_go rfl rfl
theorem zr_X9_get_1 (ls : zLs) (st : List zAV) (s : zAS) (k : Nat × Nat) (o i : Nat) : zev zk_X9_get (1, ls, Sum.inr (o, i) :: st, s, k) = zpush zk_X9_get 4 ls st s k (zgv zEM 9 3 o i s.1) := zf_get rfl
theorem zr_X9_get_4 (ls : zLs) (st : List zAV) (s : zAS) (k : Nat × Nat) : zev zk_X9_get (4, ls, st, s, k) = zev zk_X9_get (6, ls, Sum.inl (Value.int (11)) :: st, s, k) := zev_go rfl rfl
theorem zr_X9_get_6 (a0 a2 : Option zAV) (st : List zAV) (s : zAS) (k : Nat × Nat) (x : Int32) : zev zk_X9_get (6, [a0, some (Sum.inl (Value.int x)), a2], st, s, k) = zev zk_X9_get (7, [a0, some (Sum.inl (Value.int x)), a2], Sum.inl (Value.int x) :: st, s, k) := zev_go rfl rfl
theorem zr_X9_get_7 (ls : zLs) (st : List zAV) (s : zAS) (k : Nat × Nat) (x y : Int32) : zev zk_X9_get (7, ls, Sum.inl (Value.int y) :: Sum.inl (Value.int x) :: st, s, k) = zev zk_X9_get (8, ls, Sum.inl (Value.int (x * y)) :: st, s, k) := zev_go rfl rfl
theorem zr_X9_get_8 (a0 a1 : Option zAV) (st : List zAV) (s : zAS) (k : Nat × Nat) (x : Int32) : zev zk_X9_get (8, [a0, a1, some (Sum.inl (Value.int x))], st, s, k) = zev zk_X9_get (9, [a0, a1, some (Sum.inl (Value.int x))], Sum.inl (Value.int x) :: st, s, k) := zev_go rfl rfl
theorem zr_X9_get_9 (ls : zLs) (st : List zAV) (s : zAS) (k : Nat × Nat) (x y : Int32) : zev zk_X9_get (9, ls, Sum.inl (Value.int y) :: Sum.inl (Value.int x) :: st, s, k) = zev zk_X9_get (10, ls, Sum.inl (Value.int (x + y)) :: st, s, k) := zev_go rfl rfl
theorem zr_X9_get_10 (ls : zLs) (st : List zAV) (s : zAS) (k : Nat × Nat) (o i : Nat) (j : Int32) : zev zk_X9_get (10, ls, Sum.inl (Value.int j) :: Sum.inr (o, i) :: st, s, k) = zpush zk_X9_get 11 ls st s k (zald zEM o i j s) := zf_iald rfl
theorem zr_X9_get_11 (ls : zLs) (s : zAS) (k : Nat × Nat) (x : Int32) : zev zk_X9_get (11, ls, [Sum.inl (Value.int x)], s, k) = some (.inl (some (Sum.inl (Value.int x))), s) := zf_reti rfl
/-! X9_sort: PrimePlaneModel.sort(I)I -/
abbrev zR_X9_sort : Room := ({ frames := 1, cells := 0, slots := 0, locals := 22 } : Room)
noncomputable def zl_X9_sort : List (Nat × zOp) := [(0, z_lda 0 1), (1, z_ldi 1 2), (2, z_ic (0) 3), (3, z_callV zEM 9 m_X9_get 2 0 0 (zR_X9_sort).cells (zR_X9_sort).slots 6), (6, z_reti false)]
noncomputable def zk_X9_sort (pc : Nat) : Option zOp := zlook zl_X9_sort pc
noncomputable def m_X9_sort : List zAV → zAS → Option zOut := zmeth zk_X9_sort 2
set_option maxRecDepth 100000 in
set_option maxHeartbeats 4000000 in
theorem zcs_X9_sort {R : Room} (hR : R = zR_X9_sort) : ∀ q ∈ zl_X9_sort, zS zEM yX9_sort.cls cX9_sort 2 wsX9_sort (some .int) R q.1 q.2 := by
  subst hR
  refine List.forall_mem_cons.mpr ⟨zs_aload_n dX9_sort_0 rfl, ?_⟩
  refine List.forall_mem_cons.mpr ⟨zs_iload_n dX9_sort_1 rfl, ?_⟩
  refine List.forall_mem_cons.mpr ⟨zs_iconst dX9_sort_2 (by decide), ?_⟩
  refine List.forall_mem_cons.mpr ⟨zs_callV (ci := 9) (rm := zR_X9_get) (n := 2) rfl zM_X9_get gX9_sort_X9_get rfl (by decide +kernel) ⟨by decide, by decide⟩ dX9_sort_3, ?_⟩
  refine List.forall_mem_cons.mpr ⟨zs_reti (ty := .int) rfl (fun x h => (zni x h).1) dX9_sort_6, ?_⟩
  exact fun _ h => absurd h List.not_mem_nil
theorem zM_X9_sort : zMeets zEM yX9_sort wsX9_sort zR_X9_sort m_X9_sort := zmeth_M zEMok (zlook_all (zcs_X9_sort rfl)) (by decide +kernel) rfl
theorem zr_X9_sort_0 (a1 : Option zAV) (st : List zAV) (s : zAS) (k : Nat × Nat) (o : Nat × Nat) : zev zk_X9_sort (0, [some (Sum.inr o), a1], st, s, k) = zev zk_X9_sort (1, [some (Sum.inr o), a1], Sum.inr o :: st, s, k) := zev_go rfl rfl
theorem zr_X9_sort_1 (a0 : Option zAV) (st : List zAV) (s : zAS) (k : Nat × Nat) (x : Int32) : zev zk_X9_sort (1, [a0, some (Sum.inl (Value.int x))], st, s, k) = zev zk_X9_sort (2, [a0, some (Sum.inl (Value.int x))], Sum.inl (Value.int x) :: st, s, k) := zev_go rfl rfl
theorem zr_X9_sort_2 (ls : zLs) (st : List zAV) (s : zAS) (k : Nat × Nat) : zev zk_X9_sort (2, ls, st, s, k) = zev zk_X9_sort (3, ls, Sum.inl (Value.int (0)) :: st, s, k) := zev_go rfl rfl
theorem zr_X9_sort_3 (ls : zLs) (st : List zAV) (s : zAS) (k : Nat × Nat) (r v0 v1 : zAV) (h : zcok zEM 9 0 0 (zR_X9_sort).cells (zR_X9_sort).slots r st k) : zev zk_X9_sort (3, ls, v1 :: v0 :: r :: st, s, k) = zret zk_X9_sort 6 ls st (k.1 + 0, k.2 + 0) (m_X9_get [r, v0, v1] s) := zf_callV (as := [v1, v0]) 2 rfl rfl h
theorem zr_X9_sort_6 (ls : zLs) (s : zAS) (k : Nat × Nat) (x : Int32) : zev zk_X9_sort (6, ls, [Sum.inl (Value.int x)], s, k) = some (.inl (some (Sum.inl (Value.int x))), s) := zf_reti rfl
/-! X9_lacks: PrimePlaneModel.lacks(I)Z -/
abbrev zR_X9_lacks : Room := ({ frames := 1, cells := 0, slots := 0, locals := 22 } : Room)
noncomputable def zl_X9_lacks : List (Nat × zOp) := [(0, z_lda 0 1), (1, z_ldi 1 2), (2, z_ic (7) 4), (4, z_callV zEM 9 m_X9_get 2 0 0 (zR_X9_lacks).cells (zR_X9_lacks).slots 7), (7, z_ic (1) 8), (8, z_cmp (fun x y => decide (¬ x = y)) 15 11), (11, z_ic (1) 12), (12, z_goto 16), (15, z_ic (0) 16), (16, z_reti true)]
noncomputable def zk_X9_lacks (pc : Nat) : Option zOp := zlook zl_X9_lacks pc
noncomputable def m_X9_lacks : List zAV → zAS → Option zOut := zmeth zk_X9_lacks 2
set_option maxRecDepth 100000 in
set_option maxHeartbeats 4000000 in
theorem zcs_X9_lacks {R : Room} (hR : R = zR_X9_lacks) : ∀ q ∈ zl_X9_lacks, zS zEM yX9_lacks.cls cX9_lacks 2 wsX9_lacks (some .boolean) R q.1 q.2 := by
  subst hR
  refine List.forall_mem_cons.mpr ⟨zs_aload_n dX9_lacks_0 rfl, ?_⟩
  refine List.forall_mem_cons.mpr ⟨zs_iload_n dX9_lacks_1 rfl, ?_⟩
  refine List.forall_mem_cons.mpr ⟨zs_bipush dX9_lacks_2 (by decide), ?_⟩
  refine List.forall_mem_cons.mpr ⟨zs_callV (ci := 9) (rm := zR_X9_get) (n := 2) rfl zM_X9_get gX9_lacks_X9_get rfl (by decide +kernel) ⟨by decide, by decide⟩ dX9_lacks_4, ?_⟩
  refine List.forall_mem_cons.mpr ⟨zs_iconst dX9_lacks_7 (by decide), ?_⟩
  refine List.forall_mem_cons.mpr ⟨zs_icne dX9_lacks_8 (by decide), ?_⟩
  refine List.forall_mem_cons.mpr ⟨zs_iconst dX9_lacks_11 (by decide), ?_⟩
  refine List.forall_mem_cons.mpr ⟨zs_goto dX9_lacks_12 (by decide), ?_⟩
  refine List.forall_mem_cons.mpr ⟨zs_iconst dX9_lacks_15 (by decide), ?_⟩
  refine List.forall_mem_cons.mpr ⟨zs_reti (ty := .boolean) rfl (fun x h => (znz x h).1) dX9_lacks_16, ?_⟩
  exact fun _ h => absurd h List.not_mem_nil
theorem zM_X9_lacks : zMeets zEM yX9_lacks wsX9_lacks zR_X9_lacks m_X9_lacks := zmeth_M zEMok (zlook_all (zcs_X9_lacks rfl)) (by decide +kernel) rfl
theorem zr_X9_lacks_0 (a1 : Option zAV) (st : List zAV) (s : zAS) (k : Nat × Nat) (o : Nat × Nat) : zev zk_X9_lacks (0, [some (Sum.inr o), a1], st, s, k) = zev zk_X9_lacks (1, [some (Sum.inr o), a1], Sum.inr o :: st, s, k) := zev_go rfl rfl
theorem zr_X9_lacks_1 (a0 : Option zAV) (st : List zAV) (s : zAS) (k : Nat × Nat) (x : Int32) : zev zk_X9_lacks (1, [a0, some (Sum.inl (Value.int x))], st, s, k) = zev zk_X9_lacks (2, [a0, some (Sum.inl (Value.int x))], Sum.inl (Value.int x) :: st, s, k) := zev_go rfl rfl
theorem zr_X9_lacks_2 (ls : zLs) (st : List zAV) (s : zAS) (k : Nat × Nat) : zev zk_X9_lacks (2, ls, st, s, k) = zev zk_X9_lacks (4, ls, Sum.inl (Value.int (7)) :: st, s, k) := zev_go rfl rfl
theorem zr_X9_lacks_4 (ls : zLs) (st : List zAV) (s : zAS) (k : Nat × Nat) (r v0 v1 : zAV) (h : zcok zEM 9 0 0 (zR_X9_lacks).cells (zR_X9_lacks).slots r st k) : zev zk_X9_lacks (4, ls, v1 :: v0 :: r :: st, s, k) = zret zk_X9_lacks 7 ls st (k.1 + 0, k.2 + 0) (m_X9_get [r, v0, v1] s) := zf_callV (as := [v1, v0]) 2 rfl rfl h
theorem zr_X9_lacks_7 (ls : zLs) (st : List zAV) (s : zAS) (k : Nat × Nat) : zev zk_X9_lacks (7, ls, st, s, k) = zev zk_X9_lacks (8, ls, Sum.inl (Value.int (1)) :: st, s, k) := zev_go rfl rfl
theorem zr_X9_lacks_8 (ls : zLs) (st : List zAV) (s : zAS) (k : Nat × Nat) (x y : Int32) : zev zk_X9_lacks (8, ls, Sum.inl (Value.int y) :: Sum.inl (Value.int x) :: st, s, k) = if decide (¬ x = y) = true then zev zk_X9_lacks (15, ls, st, s, k) else zev zk_X9_lacks (11, ls, st, s, k) := zf_cmp (f := fun x y => decide (¬ x = y)) rfl
theorem zr_X9_lacks_11 (ls : zLs) (st : List zAV) (s : zAS) (k : Nat × Nat) : zev zk_X9_lacks (11, ls, st, s, k) = zev zk_X9_lacks (12, ls, Sum.inl (Value.int (1)) :: st, s, k) := zev_go rfl rfl
theorem zr_X9_lacks_12 (ls : zLs) (st : List zAV) (s : zAS) (k : Nat × Nat) : zev zk_X9_lacks (12, ls, st, s, k) = zev zk_X9_lacks (16, ls, st, s, k) := zev_go rfl rfl
theorem zr_X9_lacks_15 (ls : zLs) (st : List zAV) (s : zAS) (k : Nat × Nat) : zev zk_X9_lacks (15, ls, st, s, k) = zev zk_X9_lacks (16, ls, Sum.inl (Value.int (0)) :: st, s, k) := zev_go rfl rfl
theorem zr_X9_lacks_16 (ls : zLs) (s : zAS) (k : Nat × Nat) (x : Int32) (hx : x = 0 ∨ x = 1) : zev zk_X9_lacks (16, ls, [Sum.inl (Value.int x)], s, k) = some (.inl (some (Sum.inl (Value.int x))), s) := zf_retz rfl hx
/-! X9_x: PrimePlaneModel.x(I)I -/
abbrev zR_X9_x : Room := ({ frames := 1, cells := 0, slots := 0, locals := 22 } : Room)
noncomputable def zl_X9_x : List (Nat × zOp) := [(0, z_lda 0 1), (1, z_ldi 1 2), (2, z_ic (8) 4), (4, z_callV zEM 9 m_X9_get 2 0 0 (zR_X9_x).cells (zR_X9_x).slots 7), (7, z_reti false)]
noncomputable def zk_X9_x (pc : Nat) : Option zOp := zlook zl_X9_x pc
noncomputable def m_X9_x : List zAV → zAS → Option zOut := zmeth zk_X9_x 2
set_option maxRecDepth 100000 in
set_option maxHeartbeats 4000000 in
theorem zcs_X9_x {R : Room} (hR : R = zR_X9_x) : ∀ q ∈ zl_X9_x, zS zEM yX9_x.cls cX9_x 2 wsX9_x (some .int) R q.1 q.2 := by
  subst hR
  refine List.forall_mem_cons.mpr ⟨zs_aload_n dX9_x_0 rfl, ?_⟩
  refine List.forall_mem_cons.mpr ⟨zs_iload_n dX9_x_1 rfl, ?_⟩
  refine List.forall_mem_cons.mpr ⟨zs_bipush dX9_x_2 (by decide), ?_⟩
  refine List.forall_mem_cons.mpr ⟨zs_callV (ci := 9) (rm := zR_X9_get) (n := 2) rfl zM_X9_get gX9_x_X9_get rfl (by decide +kernel) ⟨by decide, by decide⟩ dX9_x_4, ?_⟩
  refine List.forall_mem_cons.mpr ⟨zs_reti (ty := .int) rfl (fun x h => (zni x h).1) dX9_x_7, ?_⟩
  exact fun _ h => absurd h List.not_mem_nil
theorem zM_X9_x : zMeets zEM yX9_x wsX9_x zR_X9_x m_X9_x := zmeth_M zEMok (zlook_all (zcs_X9_x rfl)) (by decide +kernel) rfl
theorem zr_X9_x_0 (a1 : Option zAV) (st : List zAV) (s : zAS) (k : Nat × Nat) (o : Nat × Nat) : zev zk_X9_x (0, [some (Sum.inr o), a1], st, s, k) = zev zk_X9_x (1, [some (Sum.inr o), a1], Sum.inr o :: st, s, k) := zev_go rfl rfl
theorem zr_X9_x_1 (a0 : Option zAV) (st : List zAV) (s : zAS) (k : Nat × Nat) (x : Int32) : zev zk_X9_x (1, [a0, some (Sum.inl (Value.int x))], st, s, k) = zev zk_X9_x (2, [a0, some (Sum.inl (Value.int x))], Sum.inl (Value.int x) :: st, s, k) := zev_go rfl rfl
theorem zr_X9_x_2 (ls : zLs) (st : List zAV) (s : zAS) (k : Nat × Nat) : zev zk_X9_x (2, ls, st, s, k) = zev zk_X9_x (4, ls, Sum.inl (Value.int (8)) :: st, s, k) := zev_go rfl rfl
theorem zr_X9_x_4 (ls : zLs) (st : List zAV) (s : zAS) (k : Nat × Nat) (r v0 v1 : zAV) (h : zcok zEM 9 0 0 (zR_X9_x).cells (zR_X9_x).slots r st k) : zev zk_X9_x (4, ls, v1 :: v0 :: r :: st, s, k) = zret zk_X9_x 7 ls st (k.1 + 0, k.2 + 0) (m_X9_get [r, v0, v1] s) := zf_callV (as := [v1, v0]) 2 rfl rfl h
theorem zr_X9_x_7 (ls : zLs) (s : zAS) (k : Nat × Nat) (x : Int32) : zev zk_X9_x (7, ls, [Sum.inl (Value.int x)], s, k) = some (.inl (some (Sum.inl (Value.int x))), s) := zf_reti rfl
/-! X9_y: PrimePlaneModel.y(I)I -/
abbrev zR_X9_y : Room := ({ frames := 1, cells := 0, slots := 0, locals := 22 } : Room)
noncomputable def zl_X9_y : List (Nat × zOp) := [(0, z_lda 0 1), (1, z_ldi 1 2), (2, z_ic (9) 4), (4, z_callV zEM 9 m_X9_get 2 0 0 (zR_X9_y).cells (zR_X9_y).slots 7), (7, z_reti false)]
noncomputable def zk_X9_y (pc : Nat) : Option zOp := zlook zl_X9_y pc
noncomputable def m_X9_y : List zAV → zAS → Option zOut := zmeth zk_X9_y 2
set_option maxRecDepth 100000 in
set_option maxHeartbeats 4000000 in
theorem zcs_X9_y {R : Room} (hR : R = zR_X9_y) : ∀ q ∈ zl_X9_y, zS zEM yX9_y.cls cX9_y 2 wsX9_y (some .int) R q.1 q.2 := by
  subst hR
  refine List.forall_mem_cons.mpr ⟨zs_aload_n dX9_y_0 rfl, ?_⟩
  refine List.forall_mem_cons.mpr ⟨zs_iload_n dX9_y_1 rfl, ?_⟩
  refine List.forall_mem_cons.mpr ⟨zs_bipush dX9_y_2 (by decide), ?_⟩
  refine List.forall_mem_cons.mpr ⟨zs_callV (ci := 9) (rm := zR_X9_get) (n := 2) rfl zM_X9_get gX9_y_X9_get rfl (by decide +kernel) ⟨by decide, by decide⟩ dX9_y_4, ?_⟩
  refine List.forall_mem_cons.mpr ⟨zs_reti (ty := .int) rfl (fun x h => (zni x h).1) dX9_y_7, ?_⟩
  exact fun _ h => absurd h List.not_mem_nil
theorem zM_X9_y : zMeets zEM yX9_y wsX9_y zR_X9_y m_X9_y := zmeth_M zEMok (zlook_all (zcs_X9_y rfl)) (by decide +kernel) rfl
theorem zr_X9_y_0 (a1 : Option zAV) (st : List zAV) (s : zAS) (k : Nat × Nat) (o : Nat × Nat) : zev zk_X9_y (0, [some (Sum.inr o), a1], st, s, k) = zev zk_X9_y (1, [some (Sum.inr o), a1], Sum.inr o :: st, s, k) := zev_go rfl rfl
theorem zr_X9_y_1 (a0 : Option zAV) (st : List zAV) (s : zAS) (k : Nat × Nat) (x : Int32) : zev zk_X9_y (1, [a0, some (Sum.inl (Value.int x))], st, s, k) = zev zk_X9_y (2, [a0, some (Sum.inl (Value.int x))], Sum.inl (Value.int x) :: st, s, k) := zev_go rfl rfl
theorem zr_X9_y_2 (ls : zLs) (st : List zAV) (s : zAS) (k : Nat × Nat) : zev zk_X9_y (2, ls, st, s, k) = zev zk_X9_y (4, ls, Sum.inl (Value.int (9)) :: st, s, k) := zev_go rfl rfl
theorem zr_X9_y_4 (ls : zLs) (st : List zAV) (s : zAS) (k : Nat × Nat) (r v0 v1 : zAV) (h : zcok zEM 9 0 0 (zR_X9_y).cells (zR_X9_y).slots r st k) : zev zk_X9_y (4, ls, v1 :: v0 :: r :: st, s, k) = zret zk_X9_y 7 ls st (k.1 + 0, k.2 + 0) (m_X9_get [r, v0, v1] s) := zf_callV (as := [v1, v0]) 2 rfl rfl h
theorem zr_X9_y_7 (ls : zLs) (s : zAS) (k : Nat × Nat) (x : Int32) : zev zk_X9_y (7, ls, [Sum.inl (Value.int x)], s, k) = some (.inl (some (Sum.inl (Value.int x))), s) := zf_reti rfl
/-! X9_z: PrimePlaneModel.z(I)I -/
abbrev zR_X9_z : Room := ({ frames := 1, cells := 0, slots := 0, locals := 22 } : Room)
noncomputable def zl_X9_z : List (Nat × zOp) := [(0, z_lda 0 1), (1, z_ldi 1 2), (2, z_ic (10) 4), (4, z_callV zEM 9 m_X9_get 2 0 0 (zR_X9_z).cells (zR_X9_z).slots 7), (7, z_reti false)]
noncomputable def zk_X9_z (pc : Nat) : Option zOp := zlook zl_X9_z pc
noncomputable def m_X9_z : List zAV → zAS → Option zOut := zmeth zk_X9_z 2
set_option maxRecDepth 100000 in
set_option maxHeartbeats 4000000 in
theorem zcs_X9_z {R : Room} (hR : R = zR_X9_z) : ∀ q ∈ zl_X9_z, zS zEM yX9_z.cls cX9_z 2 wsX9_z (some .int) R q.1 q.2 := by
  subst hR
  refine List.forall_mem_cons.mpr ⟨zs_aload_n dX9_z_0 rfl, ?_⟩
  refine List.forall_mem_cons.mpr ⟨zs_iload_n dX9_z_1 rfl, ?_⟩
  refine List.forall_mem_cons.mpr ⟨zs_bipush dX9_z_2 (by decide), ?_⟩
  refine List.forall_mem_cons.mpr ⟨zs_callV (ci := 9) (rm := zR_X9_get) (n := 2) rfl zM_X9_get gX9_z_X9_get rfl (by decide +kernel) ⟨by decide, by decide⟩ dX9_z_4, ?_⟩
  refine List.forall_mem_cons.mpr ⟨zs_reti (ty := .int) rfl (fun x h => (zni x h).1) dX9_z_7, ?_⟩
  exact fun _ h => absurd h List.not_mem_nil
theorem zM_X9_z : zMeets zEM yX9_z wsX9_z zR_X9_z m_X9_z := zmeth_M zEMok (zlook_all (zcs_X9_z rfl)) (by decide +kernel) rfl
theorem zr_X9_z_0 (a1 : Option zAV) (st : List zAV) (s : zAS) (k : Nat × Nat) (o : Nat × Nat) : zev zk_X9_z (0, [some (Sum.inr o), a1], st, s, k) = zev zk_X9_z (1, [some (Sum.inr o), a1], Sum.inr o :: st, s, k) := zev_go rfl rfl
theorem zr_X9_z_1 (a0 : Option zAV) (st : List zAV) (s : zAS) (k : Nat × Nat) (x : Int32) : zev zk_X9_z (1, [a0, some (Sum.inl (Value.int x))], st, s, k) = zev zk_X9_z (2, [a0, some (Sum.inl (Value.int x))], Sum.inl (Value.int x) :: st, s, k) := zev_go rfl rfl
theorem zr_X9_z_2 (ls : zLs) (st : List zAV) (s : zAS) (k : Nat × Nat) : zev zk_X9_z (2, ls, st, s, k) = zev zk_X9_z (4, ls, Sum.inl (Value.int (10)) :: st, s, k) := zev_go rfl rfl
theorem zr_X9_z_4 (ls : zLs) (st : List zAV) (s : zAS) (k : Nat × Nat) (r v0 v1 : zAV) (h : zcok zEM 9 0 0 (zR_X9_z).cells (zR_X9_z).slots r st k) : zev zk_X9_z (4, ls, v1 :: v0 :: r :: st, s, k) = zret zk_X9_z 7 ls st (k.1 + 0, k.2 + 0) (m_X9_get [r, v0, v1] s) := zf_callV (as := [v1, v0]) 2 rfl rfl h
theorem zr_X9_z_7 (ls : zLs) (s : zAS) (k : Nat × Nat) (x : Int32) : zev zk_X9_z (7, ls, [Sum.inl (Value.int x)], s, k) = some (.inl (some (Sum.inl (Value.int x))), s) := zf_reti rfl
/-! X9_mod: PrimePlaneModel.mod(I)I -/
abbrev zR_X9_mod : Room := ({ frames := 1, cells := 0, slots := 0, locals := 22 } : Room)
noncomputable def zl_X9_mod : List (Nat × zOp) := [(0, z_ldi 1 1), (1, z_lda 0 2), (2, z_get zEM 9 1 5), (5, z_callS m_J9_floorMod_7cf53 2 0 0 (zR_X9_mod).cells (zR_X9_mod).slots 8), (8, z_reti false)]
noncomputable def zk_X9_mod (pc : Nat) : Option zOp := zlook zl_X9_mod pc
noncomputable def m_X9_mod : List zAV → zAS → Option zOut := zmeth zk_X9_mod 2
set_option maxRecDepth 100000 in
set_option maxHeartbeats 4000000 in
theorem zcs_X9_mod {R : Room} (hR : R = zR_X9_mod) : ∀ q ∈ zl_X9_mod, zS zEM yX9_mod.cls cX9_mod 2 wsX9_mod (some .int) R q.1 q.2 := by
  subst hR
  have hin9 : ∀ w ∈ wsX90, w ∈ wsX9_mod := fun w h => List.mem_cons_of_mem _ (List.mem_append_right _ h)
  refine List.forall_mem_cons.mpr ⟨zs_iload_n dX9_mod_0 rfl, ?_⟩
  refine List.forall_mem_cons.mpr ⟨zs_aload_n dX9_mod_1 rfl, ?_⟩
  refine List.forall_mem_cons.mpr ⟨zs_get (ci := 9) (j := 1) (N := 10) (C := RX9) (T := TX9) (index := 7) rfl (by decide) hin9 (List.mem_of_getElem? (i := 1) rfl) dX9_mod_2, ?_⟩
  refine List.forall_mem_cons.mpr ⟨zs_callS (rm := zR_J9_floorMod_7cf53) (n := 2) (zM_J9_floorMod_7cf53 zEMok) gX9_mod_J9_floorMod_7cf53 rfl (by decide +kernel) ⟨by decide, by decide⟩ dX9_mod_5, ?_⟩
  refine List.forall_mem_cons.mpr ⟨zs_reti (ty := .int) rfl (fun x h => (zni x h).1) dX9_mod_8, ?_⟩
  exact fun _ h => absurd h List.not_mem_nil
theorem zM_X9_mod : zMeets zEM yX9_mod wsX9_mod zR_X9_mod m_X9_mod := zmeth_M zEMok (zlook_all (zcs_X9_mod rfl)) (by decide +kernel) rfl
theorem zr_X9_mod_0 (a0 : Option zAV) (st : List zAV) (s : zAS) (k : Nat × Nat) (x : Int32) : zev zk_X9_mod (0, [a0, some (Sum.inl (Value.int x))], st, s, k) = zev zk_X9_mod (1, [a0, some (Sum.inl (Value.int x))], Sum.inl (Value.int x) :: st, s, k) := zev_go rfl rfl
theorem zr_X9_mod_1 (a1 : Option zAV) (st : List zAV) (s : zAS) (k : Nat × Nat) (o : Nat × Nat) : zev zk_X9_mod (1, [some (Sum.inr o), a1], st, s, k) = zev zk_X9_mod (2, [some (Sum.inr o), a1], Sum.inr o :: st, s, k) := zev_go rfl rfl
theorem zr_X9_mod_2 (ls : zLs) (st : List zAV) (s : zAS) (k : Nat × Nat) (o i : Nat) : zev zk_X9_mod (2, ls, Sum.inr (o, i) :: st, s, k) = zpush zk_X9_mod 5 ls st s k (zgv zEM 9 1 o i s.1) := zf_get rfl
theorem zr_X9_mod_5 (ls : zLs) (st : List zAV) (s : zAS) (k : Nat × Nat) (v0 v1 : zAV) (h : (st.map zcat).sum ≤ 8 ∧ k.1 + 0 ≤ (zR_X9_mod).cells ∧ k.2 + 0 ≤ (zR_X9_mod).slots) : zev zk_X9_mod (5, ls, v1 :: v0 :: st, s, k) = zret zk_X9_mod 8 ls st (k.1 + 0, k.2 + 0) (m_J9_floorMod_7cf53 [v0, v1] s) := zf_callS (as := [v1, v0]) 2 rfl rfl h
theorem zr_X9_mod_8 (ls : zLs) (s : zAS) (k : Nat × Nat) (x : Int32) : zev zk_X9_mod (8, ls, [Sum.inl (Value.int x)], s, k) = some (.inl (some (Sum.inl (Value.int x))), s) := zf_reti rfl
/-! X9_opposite: PrimePlaneModel.opposite(I)I -/
abbrev zR_X9_opposite : Room := ({ frames := 0, cells := 0, slots := 0, locals := 0 } : Room)
noncomputable def zl_X9_opposite : List (Nat × zOp) := [(0, z_ic (1) 1), (1, z_sti 2 2), (2, z_ldi 2 3), (3, z_ldi 1 4), (4, z_bin (fun x y => x * y) 5), (5, z_lda 0 6), (6, z_get zEM 9 1 9), (9, z_rem 10), (10, z_ic (1) 11), (11, z_cmp (fun x y => decide (x = y)) 20 14), (14, z_iinc 2 (1) 17), (17, z_goto 2), (20, z_ldi 2 21), (21, z_reti false)]
noncomputable def zk_X9_opposite (pc : Nat) : Option zOp := zlook zl_X9_opposite pc
noncomputable def m_X9_opposite : List zAV → zAS → Option zOut := zmeth zk_X9_opposite 3
set_option maxRecDepth 100000 in
set_option maxHeartbeats 4000000 in
theorem zcs_X9_opposite {R : Room} (hR : R = zR_X9_opposite) : ∀ q ∈ zl_X9_opposite, zS zEM yX9_opposite.cls cX9_opposite 3 wsX9_opposite (some .int) R q.1 q.2 := by
  subst hR
  have hin9 : ∀ w ∈ wsX90, w ∈ wsX9_opposite := fun w h => List.mem_cons_of_mem _ (List.mem_append_right _ h)
  refine List.forall_mem_cons.mpr ⟨zs_iconst dX9_opposite_0 (by decide), ?_⟩
  refine List.forall_mem_cons.mpr ⟨zs_istore_n dX9_opposite_1 rfl, ?_⟩
  refine List.forall_mem_cons.mpr ⟨zs_iload_n dX9_opposite_2 rfl, ?_⟩
  refine List.forall_mem_cons.mpr ⟨zs_iload_n dX9_opposite_3 rfl, ?_⟩
  refine List.forall_mem_cons.mpr ⟨zs_imul dX9_opposite_4, ?_⟩
  refine List.forall_mem_cons.mpr ⟨zs_aload_n dX9_opposite_5 rfl, ?_⟩
  refine List.forall_mem_cons.mpr ⟨zs_get (ci := 9) (j := 1) (N := 10) (C := RX9) (T := TX9) (index := 7) rfl (by decide) hin9 (List.mem_of_getElem? (i := 1) rfl) dX9_opposite_6, ?_⟩
  refine List.forall_mem_cons.mpr ⟨zs_irem dX9_opposite_9, ?_⟩
  refine List.forall_mem_cons.mpr ⟨zs_iconst dX9_opposite_10 (by decide), ?_⟩
  refine List.forall_mem_cons.mpr ⟨zs_iceq dX9_opposite_11 (by decide), ?_⟩
  refine List.forall_mem_cons.mpr ⟨zs_iinc dX9_opposite_14 (by decide), ?_⟩
  refine List.forall_mem_cons.mpr ⟨zs_goto dX9_opposite_17 (by decide), ?_⟩
  refine List.forall_mem_cons.mpr ⟨zs_iload_n dX9_opposite_20 rfl, ?_⟩
  refine List.forall_mem_cons.mpr ⟨zs_reti (ty := .int) rfl (fun x h => (zni x h).1) dX9_opposite_21, ?_⟩
  exact fun _ h => absurd h List.not_mem_nil
theorem zM_X9_opposite : zMeets zEM yX9_opposite wsX9_opposite zR_X9_opposite m_X9_opposite := zmeth_M zEMok (zlook_all (zcs_X9_opposite rfl)) (by decide +kernel) rfl
theorem zr_X9_opposite_0 (ls : zLs) (st : List zAV) (s : zAS) (k : Nat × Nat) : zev zk_X9_opposite (0, ls, st, s, k) = zev zk_X9_opposite (1, ls, Sum.inl (Value.int (1)) :: st, s, k) := zev_go rfl rfl
theorem zr_X9_opposite_1 (a0 a1 a2 : Option zAV) (st : List zAV) (s : zAS) (k : Nat × Nat) (x : Int32) : zev zk_X9_opposite (1, [a0, a1, a2], Sum.inl (Value.int x) :: st, s, k) = zev zk_X9_opposite (2, [a0, zk1 a1, some (Sum.inl (Value.int x))], st, s, k) := zev_go rfl rfl
theorem zr_X9_opposite_2 (a0 a1 : Option zAV) (st : List zAV) (s : zAS) (k : Nat × Nat) (x : Int32) : zev zk_X9_opposite (2, [a0, a1, some (Sum.inl (Value.int x))], st, s, k) = zev zk_X9_opposite (3, [a0, a1, some (Sum.inl (Value.int x))], Sum.inl (Value.int x) :: st, s, k) := zev_go rfl rfl
theorem zr_X9_opposite_3 (a0 a2 : Option zAV) (st : List zAV) (s : zAS) (k : Nat × Nat) (x : Int32) : zev zk_X9_opposite (3, [a0, some (Sum.inl (Value.int x)), a2], st, s, k) = zev zk_X9_opposite (4, [a0, some (Sum.inl (Value.int x)), a2], Sum.inl (Value.int x) :: st, s, k) := zev_go rfl rfl
theorem zr_X9_opposite_4 (ls : zLs) (st : List zAV) (s : zAS) (k : Nat × Nat) (x y : Int32) : zev zk_X9_opposite (4, ls, Sum.inl (Value.int y) :: Sum.inl (Value.int x) :: st, s, k) = zev zk_X9_opposite (5, ls, Sum.inl (Value.int (x * y)) :: st, s, k) := zev_go rfl rfl
theorem zr_X9_opposite_5 (a1 a2 : Option zAV) (st : List zAV) (s : zAS) (k : Nat × Nat) (o : Nat × Nat) : zev zk_X9_opposite (5, [some (Sum.inr o), a1, a2], st, s, k) = zev zk_X9_opposite (6, [some (Sum.inr o), a1, a2], Sum.inr o :: st, s, k) := zev_go rfl rfl
theorem zr_X9_opposite_6 (ls : zLs) (st : List zAV) (s : zAS) (k : Nat × Nat) (o i : Nat) : zev zk_X9_opposite (6, ls, Sum.inr (o, i) :: st, s, k) = zpush zk_X9_opposite 9 ls st s k (zgv zEM 9 1 o i s.1) := zf_get rfl
theorem zr_X9_opposite_9 (ls : zLs) (st : List zAV) (s : zAS) (k : Nat × Nat) (x y : Int32) : zev zk_X9_opposite (9, ls, Sum.inl (Value.int y) :: Sum.inl (Value.int x) :: st, s, k) = if y = 0 then none else zev zk_X9_opposite (10, ls, Sum.inl (Value.int (x - x / y * y)) :: st, s, k) := zf_rem rfl
theorem zr_X9_opposite_10 (ls : zLs) (st : List zAV) (s : zAS) (k : Nat × Nat) : zev zk_X9_opposite (10, ls, st, s, k) = zev zk_X9_opposite (11, ls, Sum.inl (Value.int (1)) :: st, s, k) := zev_go rfl rfl
theorem zr_X9_opposite_11 (ls : zLs) (st : List zAV) (s : zAS) (k : Nat × Nat) (x y : Int32) : zev zk_X9_opposite (11, ls, Sum.inl (Value.int y) :: Sum.inl (Value.int x) :: st, s, k) = if decide (x = y) = true then zev zk_X9_opposite (20, ls, st, s, k) else zev zk_X9_opposite (14, ls, st, s, k) := zf_cmp (f := fun x y => decide (x = y)) rfl
theorem zr_X9_opposite_14 (a0 a1 : Option zAV) (st : List zAV) (s : zAS) (k : Nat × Nat) (x : Int32) : zev zk_X9_opposite (14, [a0, a1, some (Sum.inl (Value.int x))], st, s, k) = zev zk_X9_opposite (17, [a0, zk1 a1, some (Sum.inl (Value.int (x + (1))))], st, s, k) := zev_go rfl rfl
theorem zr_X9_opposite_17 (ls : zLs) (st : List zAV) (s : zAS) (k : Nat × Nat) : zev zk_X9_opposite (17, ls, st, s, k) = zev zk_X9_opposite (2, ls, st, s, k) := zev_go rfl rfl
theorem zr_X9_opposite_20 (a0 a1 : Option zAV) (st : List zAV) (s : zAS) (k : Nat × Nat) (x : Int32) : zev zk_X9_opposite (20, [a0, a1, some (Sum.inl (Value.int x))], st, s, k) = zev zk_X9_opposite (21, [a0, a1, some (Sum.inl (Value.int x))], Sum.inl (Value.int x) :: st, s, k) := zev_go rfl rfl
theorem zr_X9_opposite_21 (ls : zLs) (s : zAS) (k : Nat × Nat) (x : Int32) : zev zk_X9_opposite (21, ls, [Sum.inl (Value.int x)], s, k) = some (.inl (some (Sum.inl (Value.int x))), s) := zf_reti rfl
/-! X9_squareOf: PrimePlaneModel.squareOf(IIII)I -/
abbrev zR_X9_squareOf : Room := ({ frames := 2, cells := 0, slots := 0, locals := 43 } : Room)
noncomputable def zl_X9_squareOf : List (Nat × zOp) := [(0, z_lda 0 1), (1, z_ldi 1 2), (2, z_ldi 3 3), (3, z_bin (fun x y => x - y) 4), (4, z_ldi 1 5), (5, z_ldi 3 6), (6, z_bin (fun x y => x - y) 7), (7, z_bin (fun x y => x * y) 8), (8, z_ldi 2 9), (9, z_ldi 4 11), (11, z_bin (fun x y => x - y) 12), (12, z_ldi 2 13), (13, z_ldi 4 15), (15, z_bin (fun x y => x - y) 16), (16, z_bin (fun x y => x * y) 17), (17, z_bin (fun x y => x + y) 18), (18, z_callV zEM 9 m_X9_mod 1 0 0 (zR_X9_squareOf).cells (zR_X9_squareOf).slots 21), (21, z_reti false)]
noncomputable def zk_X9_squareOf (pc : Nat) : Option zOp := zlook zl_X9_squareOf pc
noncomputable def m_X9_squareOf : List zAV → zAS → Option zOut := zmeth zk_X9_squareOf 5
set_option maxRecDepth 100000 in
set_option maxHeartbeats 4000000 in
theorem zcs_X9_squareOf {R : Room} (hR : R = zR_X9_squareOf) : ∀ q ∈ zl_X9_squareOf, zS zEM yX9_squareOf.cls cX9_squareOf 5 wsX9_squareOf (some .int) R q.1 q.2 := by
  subst hR
  refine List.forall_mem_cons.mpr ⟨zs_aload_n dX9_squareOf_0 rfl, ?_⟩
  refine List.forall_mem_cons.mpr ⟨zs_iload_n dX9_squareOf_1 rfl, ?_⟩
  refine List.forall_mem_cons.mpr ⟨zs_iload_n dX9_squareOf_2 rfl, ?_⟩
  refine List.forall_mem_cons.mpr ⟨zs_isub dX9_squareOf_3, ?_⟩
  refine List.forall_mem_cons.mpr ⟨zs_iload_n dX9_squareOf_4 rfl, ?_⟩
  refine List.forall_mem_cons.mpr ⟨zs_iload_n dX9_squareOf_5 rfl, ?_⟩
  refine List.forall_mem_cons.mpr ⟨zs_isub dX9_squareOf_6, ?_⟩
  refine List.forall_mem_cons.mpr ⟨zs_imul dX9_squareOf_7, ?_⟩
  refine List.forall_mem_cons.mpr ⟨zs_iload_n dX9_squareOf_8 rfl, ?_⟩
  refine List.forall_mem_cons.mpr ⟨zs_iload dX9_squareOf_9, ?_⟩
  refine List.forall_mem_cons.mpr ⟨zs_isub dX9_squareOf_11, ?_⟩
  refine List.forall_mem_cons.mpr ⟨zs_iload_n dX9_squareOf_12 rfl, ?_⟩
  refine List.forall_mem_cons.mpr ⟨zs_iload dX9_squareOf_13, ?_⟩
  refine List.forall_mem_cons.mpr ⟨zs_isub dX9_squareOf_15, ?_⟩
  refine List.forall_mem_cons.mpr ⟨zs_imul dX9_squareOf_16, ?_⟩
  refine List.forall_mem_cons.mpr ⟨zs_iadd dX9_squareOf_17, ?_⟩
  refine List.forall_mem_cons.mpr ⟨zs_callV (ci := 9) (rm := zR_X9_mod) (n := 1) rfl zM_X9_mod gX9_squareOf_X9_mod rfl (by decide +kernel) ⟨by decide, by decide⟩ dX9_squareOf_18, ?_⟩
  refine List.forall_mem_cons.mpr ⟨zs_reti (ty := .int) rfl (fun x h => (zni x h).1) dX9_squareOf_21, ?_⟩
  exact fun _ h => absurd h List.not_mem_nil
theorem zM_X9_squareOf : zMeets zEM yX9_squareOf wsX9_squareOf zR_X9_squareOf m_X9_squareOf := zmeth_M zEMok (zlook_all (zcs_X9_squareOf rfl)) (by decide +kernel) rfl
theorem zr_X9_squareOf_0 (a1 a2 a3 a4 : Option zAV) (st : List zAV) (s : zAS) (k : Nat × Nat) (o : Nat × Nat) : zev zk_X9_squareOf (0, [some (Sum.inr o), a1, a2, a3, a4], st, s, k) = zev zk_X9_squareOf (1, [some (Sum.inr o), a1, a2, a3, a4], Sum.inr o :: st, s, k) := zev_go rfl rfl
theorem zr_X9_squareOf_1 (a0 a2 a3 a4 : Option zAV) (st : List zAV) (s : zAS) (k : Nat × Nat) (x : Int32) : zev zk_X9_squareOf (1, [a0, some (Sum.inl (Value.int x)), a2, a3, a4], st, s, k) = zev zk_X9_squareOf (2, [a0, some (Sum.inl (Value.int x)), a2, a3, a4], Sum.inl (Value.int x) :: st, s, k) := zev_go rfl rfl
theorem zr_X9_squareOf_2 (a0 a1 a2 a4 : Option zAV) (st : List zAV) (s : zAS) (k : Nat × Nat) (x : Int32) : zev zk_X9_squareOf (2, [a0, a1, a2, some (Sum.inl (Value.int x)), a4], st, s, k) = zev zk_X9_squareOf (3, [a0, a1, a2, some (Sum.inl (Value.int x)), a4], Sum.inl (Value.int x) :: st, s, k) := zev_go rfl rfl
theorem zr_X9_squareOf_3 (ls : zLs) (st : List zAV) (s : zAS) (k : Nat × Nat) (x y : Int32) : zev zk_X9_squareOf (3, ls, Sum.inl (Value.int y) :: Sum.inl (Value.int x) :: st, s, k) = zev zk_X9_squareOf (4, ls, Sum.inl (Value.int (x - y)) :: st, s, k) := zev_go rfl rfl
theorem zr_X9_squareOf_4 (a0 a2 a3 a4 : Option zAV) (st : List zAV) (s : zAS) (k : Nat × Nat) (x : Int32) : zev zk_X9_squareOf (4, [a0, some (Sum.inl (Value.int x)), a2, a3, a4], st, s, k) = zev zk_X9_squareOf (5, [a0, some (Sum.inl (Value.int x)), a2, a3, a4], Sum.inl (Value.int x) :: st, s, k) := zev_go rfl rfl
theorem zr_X9_squareOf_5 (a0 a1 a2 a4 : Option zAV) (st : List zAV) (s : zAS) (k : Nat × Nat) (x : Int32) : zev zk_X9_squareOf (5, [a0, a1, a2, some (Sum.inl (Value.int x)), a4], st, s, k) = zev zk_X9_squareOf (6, [a0, a1, a2, some (Sum.inl (Value.int x)), a4], Sum.inl (Value.int x) :: st, s, k) := zev_go rfl rfl
theorem zr_X9_squareOf_6 (ls : zLs) (st : List zAV) (s : zAS) (k : Nat × Nat) (x y : Int32) : zev zk_X9_squareOf (6, ls, Sum.inl (Value.int y) :: Sum.inl (Value.int x) :: st, s, k) = zev zk_X9_squareOf (7, ls, Sum.inl (Value.int (x - y)) :: st, s, k) := zev_go rfl rfl
theorem zr_X9_squareOf_7 (ls : zLs) (st : List zAV) (s : zAS) (k : Nat × Nat) (x y : Int32) : zev zk_X9_squareOf (7, ls, Sum.inl (Value.int y) :: Sum.inl (Value.int x) :: st, s, k) = zev zk_X9_squareOf (8, ls, Sum.inl (Value.int (x * y)) :: st, s, k) := zev_go rfl rfl
theorem zr_X9_squareOf_8 (a0 a1 a3 a4 : Option zAV) (st : List zAV) (s : zAS) (k : Nat × Nat) (x : Int32) : zev zk_X9_squareOf (8, [a0, a1, some (Sum.inl (Value.int x)), a3, a4], st, s, k) = zev zk_X9_squareOf (9, [a0, a1, some (Sum.inl (Value.int x)), a3, a4], Sum.inl (Value.int x) :: st, s, k) := zev_go rfl rfl
theorem zr_X9_squareOf_9 (a0 a1 a2 a3 : Option zAV) (st : List zAV) (s : zAS) (k : Nat × Nat) (x : Int32) : zev zk_X9_squareOf (9, [a0, a1, a2, a3, some (Sum.inl (Value.int x))], st, s, k) = zev zk_X9_squareOf (11, [a0, a1, a2, a3, some (Sum.inl (Value.int x))], Sum.inl (Value.int x) :: st, s, k) := zev_go rfl rfl
theorem zr_X9_squareOf_11 (ls : zLs) (st : List zAV) (s : zAS) (k : Nat × Nat) (x y : Int32) : zev zk_X9_squareOf (11, ls, Sum.inl (Value.int y) :: Sum.inl (Value.int x) :: st, s, k) = zev zk_X9_squareOf (12, ls, Sum.inl (Value.int (x - y)) :: st, s, k) := zev_go rfl rfl
theorem zr_X9_squareOf_12 (a0 a1 a3 a4 : Option zAV) (st : List zAV) (s : zAS) (k : Nat × Nat) (x : Int32) : zev zk_X9_squareOf (12, [a0, a1, some (Sum.inl (Value.int x)), a3, a4], st, s, k) = zev zk_X9_squareOf (13, [a0, a1, some (Sum.inl (Value.int x)), a3, a4], Sum.inl (Value.int x) :: st, s, k) := zev_go rfl rfl
theorem zr_X9_squareOf_13 (a0 a1 a2 a3 : Option zAV) (st : List zAV) (s : zAS) (k : Nat × Nat) (x : Int32) : zev zk_X9_squareOf (13, [a0, a1, a2, a3, some (Sum.inl (Value.int x))], st, s, k) = zev zk_X9_squareOf (15, [a0, a1, a2, a3, some (Sum.inl (Value.int x))], Sum.inl (Value.int x) :: st, s, k) := zev_go rfl rfl
theorem zr_X9_squareOf_15 (ls : zLs) (st : List zAV) (s : zAS) (k : Nat × Nat) (x y : Int32) : zev zk_X9_squareOf (15, ls, Sum.inl (Value.int y) :: Sum.inl (Value.int x) :: st, s, k) = zev zk_X9_squareOf (16, ls, Sum.inl (Value.int (x - y)) :: st, s, k) := zev_go rfl rfl
theorem zr_X9_squareOf_16 (ls : zLs) (st : List zAV) (s : zAS) (k : Nat × Nat) (x y : Int32) : zev zk_X9_squareOf (16, ls, Sum.inl (Value.int y) :: Sum.inl (Value.int x) :: st, s, k) = zev zk_X9_squareOf (17, ls, Sum.inl (Value.int (x * y)) :: st, s, k) := zev_go rfl rfl
theorem zr_X9_squareOf_17 (ls : zLs) (st : List zAV) (s : zAS) (k : Nat × Nat) (x y : Int32) : zev zk_X9_squareOf (17, ls, Sum.inl (Value.int y) :: Sum.inl (Value.int x) :: st, s, k) = zev zk_X9_squareOf (18, ls, Sum.inl (Value.int (x + y)) :: st, s, k) := zev_go rfl rfl
theorem zr_X9_squareOf_18 (ls : zLs) (st : List zAV) (s : zAS) (k : Nat × Nat) (r v0 : zAV) (h : zcok zEM 9 0 0 (zR_X9_squareOf).cells (zR_X9_squareOf).slots r st k) : zev zk_X9_squareOf (18, ls, v0 :: r :: st, s, k) = zret zk_X9_squareOf 21 ls st (k.1 + 0, k.2 + 0) (m_X9_mod [r, v0] s) := zf_callV (as := [v0]) 1 rfl rfl h
theorem zr_X9_squareOf_21 (ls : zLs) (s : zAS) (k : Nat × Nat) (x : Int32) : zev zk_X9_squareOf (21, ls, [Sum.inl (Value.int x)], s, k) = some (.inl (some (Sum.inl (Value.int x))), s) := zf_reti rfl
/-! X9_begin: PrimePlaneModel.begin(I)I -/
abbrev zR_X9_begin : Room := ({ frames := 1, cells := 0, slots := 0, locals := 21 } : Room)
noncomputable def zl_X9_begin : List (Nat × zOp) := [(0, z_lda 0 1), (1, z_ic (0) 2), (2, z_put zEM 9 0 false 5), (5, z_ldi 1 6), (6, z_ic (7) 8), (8, z_cmp (fun x y => decide (x = y)) 41 11), (11, z_ldi 1 12), (12, z_ic (11) 14), (14, z_cmp (fun x y => decide (x = y)) 41 17), (17, z_ldi 1 18), (18, z_ic (19) 20), (20, z_cmp (fun x y => decide (x = y)) 41 23), (23, z_ldi 1 24), (24, z_ic (23) 26), (26, z_cmp (fun x y => decide (x = y)) 41 29), (29, z_ldi 1 30), (30, z_ic (31) 32), (32, z_cmp (fun x y => decide (x = y)) 41 35), (35, z_ldi 1 36), (36, z_ic (43) 38), (38, z_cmp (fun x y => decide (¬ x = y)) 45 41), (41, z_ic (1) 42), (42, z_goto 46), (45, z_ic (0) 46), (46, z_sti 2 47), (47, z_ldi 2 48), (48, z_if (fun x => decide (¬ x = 0)) 57 51), (51, z_lda 0 52), (52, z_ic (1) 53), (53, z_callV zEM 9 m_X9_fail 1 0 0 (zR_X9_begin).cells (zR_X9_begin).slots 56), (56, z_reti false), (57, z_lda 0 58), (58, z_ldi 1 59), (59, z_put zEM 9 1 false 62), (62, z_lda 0 63), (63, z_ic (0) 64), (64, z_put zEM 9 2 false 67), (67, z_lda 0 68), (68, z_ic (0) 69), (69, z_put zEM 9 4 false 72), (72, z_lda 0 73), (73, z_get zEM 9 1 76), (76, z_lda 0 77), (77, z_get zEM 9 1 80), (80, z_bin (fun x y => x * y) 81), (81, z_reti false)]
noncomputable def zk_X9_begin (pc : Nat) : Option zOp := zlook zl_X9_begin pc
noncomputable def m_X9_begin : List zAV → zAS → Option zOut := zmeth zk_X9_begin 3
set_option maxRecDepth 100000 in
set_option maxHeartbeats 4000000 in
theorem zcs_X9_begin {R : Room} (hR : R = zR_X9_begin) : ∀ q ∈ zl_X9_begin, zS zEM yX9_begin.cls cX9_begin 3 wsX9_begin (some .int) R q.1 q.2 := by
  subst hR
  have hin9 : ∀ w ∈ wsX90, w ∈ wsX9_begin := fun w h => List.mem_cons_of_mem _ (List.mem_append_right _ h)
  refine List.forall_mem_cons.mpr ⟨zs_aload_n dX9_begin_0 rfl, ?_⟩
  refine List.forall_mem_cons.mpr ⟨zs_iconst dX9_begin_1 (by decide), ?_⟩
  refine List.forall_mem_cons.mpr ⟨zs_put (ci := 9) (j := 0) (N := 10) (C := RX9) (T := TX9) (index := 29) (b := false) .int tyX9 rfl (by decide) hin9 tyX9_ok nmX9 (List.mem_of_getElem? (i := 1) rfl) rfl (by decide +kernel) zni dX9_begin_2, ?_⟩
  refine List.forall_mem_cons.mpr ⟨zs_iload_n dX9_begin_5 rfl, ?_⟩
  refine List.forall_mem_cons.mpr ⟨zs_bipush dX9_begin_6 (by decide), ?_⟩
  refine List.forall_mem_cons.mpr ⟨zs_iceq dX9_begin_8 (by decide), ?_⟩
  refine List.forall_mem_cons.mpr ⟨zs_iload_n dX9_begin_11 rfl, ?_⟩
  refine List.forall_mem_cons.mpr ⟨zs_bipush dX9_begin_12 (by decide), ?_⟩
  refine List.forall_mem_cons.mpr ⟨zs_iceq dX9_begin_14 (by decide), ?_⟩
  refine List.forall_mem_cons.mpr ⟨zs_iload_n dX9_begin_17 rfl, ?_⟩
  refine List.forall_mem_cons.mpr ⟨zs_bipush dX9_begin_18 (by decide), ?_⟩
  refine List.forall_mem_cons.mpr ⟨zs_iceq dX9_begin_20 (by decide), ?_⟩
  refine List.forall_mem_cons.mpr ⟨zs_iload_n dX9_begin_23 rfl, ?_⟩
  refine List.forall_mem_cons.mpr ⟨zs_bipush dX9_begin_24 (by decide), ?_⟩
  refine List.forall_mem_cons.mpr ⟨zs_iceq dX9_begin_26 (by decide), ?_⟩
  refine List.forall_mem_cons.mpr ⟨zs_iload_n dX9_begin_29 rfl, ?_⟩
  refine List.forall_mem_cons.mpr ⟨zs_bipush dX9_begin_30 (by decide), ?_⟩
  refine List.forall_mem_cons.mpr ⟨zs_iceq dX9_begin_32 (by decide), ?_⟩
  refine List.forall_mem_cons.mpr ⟨zs_iload_n dX9_begin_35 rfl, ?_⟩
  refine List.forall_mem_cons.mpr ⟨zs_bipush dX9_begin_36 (by decide), ?_⟩
  refine List.forall_mem_cons.mpr ⟨zs_icne dX9_begin_38 (by decide), ?_⟩
  refine List.forall_mem_cons.mpr ⟨zs_iconst dX9_begin_41 (by decide), ?_⟩
  refine List.forall_mem_cons.mpr ⟨zs_goto dX9_begin_42 (by decide), ?_⟩
  refine List.forall_mem_cons.mpr ⟨zs_iconst dX9_begin_45 (by decide), ?_⟩
  refine List.forall_mem_cons.mpr ⟨zs_istore_n dX9_begin_46 rfl, ?_⟩
  refine List.forall_mem_cons.mpr ⟨zs_iload_n dX9_begin_47 rfl, ?_⟩
  refine List.forall_mem_cons.mpr ⟨zs_ifne dX9_begin_48 (by decide), ?_⟩
  refine List.forall_mem_cons.mpr ⟨zs_aload_n dX9_begin_51 rfl, ?_⟩
  refine List.forall_mem_cons.mpr ⟨zs_iconst dX9_begin_52 (by decide), ?_⟩
  refine List.forall_mem_cons.mpr ⟨zs_callV (ci := 9) (rm := zR_X9_fail) (n := 1) rfl zM_X9_fail gX9_begin_X9_fail rfl (by decide +kernel) ⟨by decide, by decide⟩ dX9_begin_53, ?_⟩
  refine List.forall_mem_cons.mpr ⟨zs_reti (ty := .int) rfl (fun x h => (zni x h).1) dX9_begin_56, ?_⟩
  refine List.forall_mem_cons.mpr ⟨zs_aload_n dX9_begin_57 rfl, ?_⟩
  refine List.forall_mem_cons.mpr ⟨zs_iload_n dX9_begin_58 rfl, ?_⟩
  refine List.forall_mem_cons.mpr ⟨zs_put (ci := 9) (j := 1) (N := 10) (C := RX9) (T := TX9) (index := 7) (b := false) .int tyX9 rfl (by decide) hin9 tyX9_ok nmX9 (List.mem_of_getElem? (i := 2) rfl) rfl (by decide +kernel) zni dX9_begin_59, ?_⟩
  refine List.forall_mem_cons.mpr ⟨zs_aload_n dX9_begin_62 rfl, ?_⟩
  refine List.forall_mem_cons.mpr ⟨zs_iconst dX9_begin_63 (by decide), ?_⟩
  refine List.forall_mem_cons.mpr ⟨zs_put (ci := 9) (j := 2) (N := 10) (C := RX9) (T := TX9) (index := 32) (b := false) .int tyX9 rfl (by decide) hin9 tyX9_ok nmX9 (List.mem_of_getElem? (i := 3) rfl) rfl (by decide +kernel) zni dX9_begin_64, ?_⟩
  refine List.forall_mem_cons.mpr ⟨zs_aload_n dX9_begin_67 rfl, ?_⟩
  refine List.forall_mem_cons.mpr ⟨zs_iconst dX9_begin_68 (by decide), ?_⟩
  refine List.forall_mem_cons.mpr ⟨zs_put (ci := 9) (j := 4) (N := 10) (C := RX9) (T := TX9) (index := 55) (b := false) .int tyX9 rfl (by decide) hin9 tyX9_ok nmX9 (List.mem_of_getElem? (i := 4) rfl) rfl (by decide +kernel) zni dX9_begin_69, ?_⟩
  refine List.forall_mem_cons.mpr ⟨zs_aload_n dX9_begin_72 rfl, ?_⟩
  refine List.forall_mem_cons.mpr ⟨zs_get (ci := 9) (j := 1) (N := 10) (C := RX9) (T := TX9) (index := 7) rfl (by decide) hin9 (List.mem_of_getElem? (i := 2) rfl) dX9_begin_73, ?_⟩
  refine List.forall_mem_cons.mpr ⟨zs_aload_n dX9_begin_76 rfl, ?_⟩
  refine List.forall_mem_cons.mpr ⟨zs_get (ci := 9) (j := 1) (N := 10) (C := RX9) (T := TX9) (index := 7) rfl (by decide) hin9 (List.mem_of_getElem? (i := 2) rfl) dX9_begin_77, ?_⟩
  refine List.forall_mem_cons.mpr ⟨zs_imul dX9_begin_80, ?_⟩
  refine List.forall_mem_cons.mpr ⟨zs_reti (ty := .int) rfl (fun x h => (zni x h).1) dX9_begin_81, ?_⟩
  exact fun _ h => absurd h List.not_mem_nil
theorem zM_X9_begin : zMeets zEM yX9_begin wsX9_begin zR_X9_begin m_X9_begin := zmeth_M zEMok (zlook_all (zcs_X9_begin rfl)) (by decide +kernel) rfl
theorem zr_X9_begin_0 (a1 a2 : Option zAV) (st : List zAV) (s : zAS) (k : Nat × Nat) (o : Nat × Nat) : zev zk_X9_begin (0, [some (Sum.inr o), a1, a2], st, s, k) = zev zk_X9_begin (1, [some (Sum.inr o), a1, a2], Sum.inr o :: st, s, k) := zev_go rfl rfl
theorem zr_X9_begin_1 (ls : zLs) (st : List zAV) (s : zAS) (k : Nat × Nat) : zev zk_X9_begin (1, ls, st, s, k) = zev zk_X9_begin (2, ls, Sum.inl (Value.int (0)) :: st, s, k) := zev_go rfl rfl
theorem zr_X9_begin_2 (ls : zLs) (st : List zAV) (s : zAS) (k : Nat × Nat) (o i : Nat) (x : Int32) (h : zpok zEM 9 0 false o i x) : zev zk_X9_begin (2, ls, Sum.inl (Value.int x) :: Sum.inr (o, i) :: st, s, k) = zev zk_X9_begin (5, ls, st, (zup s.1 o i 0 x, s.2), k) := zf_put rfl h
theorem zr_X9_begin_5 (a0 a2 : Option zAV) (st : List zAV) (s : zAS) (k : Nat × Nat) (x : Int32) : zev zk_X9_begin (5, [a0, some (Sum.inl (Value.int x)), a2], st, s, k) = zev zk_X9_begin (6, [a0, some (Sum.inl (Value.int x)), a2], Sum.inl (Value.int x) :: st, s, k) := zev_go rfl rfl
theorem zr_X9_begin_6 (ls : zLs) (st : List zAV) (s : zAS) (k : Nat × Nat) : zev zk_X9_begin (6, ls, st, s, k) = zev zk_X9_begin (8, ls, Sum.inl (Value.int (7)) :: st, s, k) := zev_go rfl rfl
theorem zr_X9_begin_8 (ls : zLs) (st : List zAV) (s : zAS) (k : Nat × Nat) (x y : Int32) : zev zk_X9_begin (8, ls, Sum.inl (Value.int y) :: Sum.inl (Value.int x) :: st, s, k) = if decide (x = y) = true then zev zk_X9_begin (41, ls, st, s, k) else zev zk_X9_begin (11, ls, st, s, k) := zf_cmp (f := fun x y => decide (x = y)) rfl
theorem zr_X9_begin_11 (a0 a2 : Option zAV) (st : List zAV) (s : zAS) (k : Nat × Nat) (x : Int32) : zev zk_X9_begin (11, [a0, some (Sum.inl (Value.int x)), a2], st, s, k) = zev zk_X9_begin (12, [a0, some (Sum.inl (Value.int x)), a2], Sum.inl (Value.int x) :: st, s, k) := zev_go rfl rfl
theorem zr_X9_begin_12 (ls : zLs) (st : List zAV) (s : zAS) (k : Nat × Nat) : zev zk_X9_begin (12, ls, st, s, k) = zev zk_X9_begin (14, ls, Sum.inl (Value.int (11)) :: st, s, k) := zev_go rfl rfl
theorem zr_X9_begin_14 (ls : zLs) (st : List zAV) (s : zAS) (k : Nat × Nat) (x y : Int32) : zev zk_X9_begin (14, ls, Sum.inl (Value.int y) :: Sum.inl (Value.int x) :: st, s, k) = if decide (x = y) = true then zev zk_X9_begin (41, ls, st, s, k) else zev zk_X9_begin (17, ls, st, s, k) := zf_cmp (f := fun x y => decide (x = y)) rfl
theorem zr_X9_begin_17 (a0 a2 : Option zAV) (st : List zAV) (s : zAS) (k : Nat × Nat) (x : Int32) : zev zk_X9_begin (17, [a0, some (Sum.inl (Value.int x)), a2], st, s, k) = zev zk_X9_begin (18, [a0, some (Sum.inl (Value.int x)), a2], Sum.inl (Value.int x) :: st, s, k) := zev_go rfl rfl
theorem zr_X9_begin_18 (ls : zLs) (st : List zAV) (s : zAS) (k : Nat × Nat) : zev zk_X9_begin (18, ls, st, s, k) = zev zk_X9_begin (20, ls, Sum.inl (Value.int (19)) :: st, s, k) := zev_go rfl rfl
theorem zr_X9_begin_20 (ls : zLs) (st : List zAV) (s : zAS) (k : Nat × Nat) (x y : Int32) : zev zk_X9_begin (20, ls, Sum.inl (Value.int y) :: Sum.inl (Value.int x) :: st, s, k) = if decide (x = y) = true then zev zk_X9_begin (41, ls, st, s, k) else zev zk_X9_begin (23, ls, st, s, k) := zf_cmp (f := fun x y => decide (x = y)) rfl
theorem zr_X9_begin_23 (a0 a2 : Option zAV) (st : List zAV) (s : zAS) (k : Nat × Nat) (x : Int32) : zev zk_X9_begin (23, [a0, some (Sum.inl (Value.int x)), a2], st, s, k) = zev zk_X9_begin (24, [a0, some (Sum.inl (Value.int x)), a2], Sum.inl (Value.int x) :: st, s, k) := zev_go rfl rfl
theorem zr_X9_begin_24 (ls : zLs) (st : List zAV) (s : zAS) (k : Nat × Nat) : zev zk_X9_begin (24, ls, st, s, k) = zev zk_X9_begin (26, ls, Sum.inl (Value.int (23)) :: st, s, k) := zev_go rfl rfl
theorem zr_X9_begin_26 (ls : zLs) (st : List zAV) (s : zAS) (k : Nat × Nat) (x y : Int32) : zev zk_X9_begin (26, ls, Sum.inl (Value.int y) :: Sum.inl (Value.int x) :: st, s, k) = if decide (x = y) = true then zev zk_X9_begin (41, ls, st, s, k) else zev zk_X9_begin (29, ls, st, s, k) := zf_cmp (f := fun x y => decide (x = y)) rfl
theorem zr_X9_begin_29 (a0 a2 : Option zAV) (st : List zAV) (s : zAS) (k : Nat × Nat) (x : Int32) : zev zk_X9_begin (29, [a0, some (Sum.inl (Value.int x)), a2], st, s, k) = zev zk_X9_begin (30, [a0, some (Sum.inl (Value.int x)), a2], Sum.inl (Value.int x) :: st, s, k) := zev_go rfl rfl
theorem zr_X9_begin_30 (ls : zLs) (st : List zAV) (s : zAS) (k : Nat × Nat) : zev zk_X9_begin (30, ls, st, s, k) = zev zk_X9_begin (32, ls, Sum.inl (Value.int (31)) :: st, s, k) := zev_go rfl rfl
theorem zr_X9_begin_32 (ls : zLs) (st : List zAV) (s : zAS) (k : Nat × Nat) (x y : Int32) : zev zk_X9_begin (32, ls, Sum.inl (Value.int y) :: Sum.inl (Value.int x) :: st, s, k) = if decide (x = y) = true then zev zk_X9_begin (41, ls, st, s, k) else zev zk_X9_begin (35, ls, st, s, k) := zf_cmp (f := fun x y => decide (x = y)) rfl
theorem zr_X9_begin_35 (a0 a2 : Option zAV) (st : List zAV) (s : zAS) (k : Nat × Nat) (x : Int32) : zev zk_X9_begin (35, [a0, some (Sum.inl (Value.int x)), a2], st, s, k) = zev zk_X9_begin (36, [a0, some (Sum.inl (Value.int x)), a2], Sum.inl (Value.int x) :: st, s, k) := zev_go rfl rfl
theorem zr_X9_begin_36 (ls : zLs) (st : List zAV) (s : zAS) (k : Nat × Nat) : zev zk_X9_begin (36, ls, st, s, k) = zev zk_X9_begin (38, ls, Sum.inl (Value.int (43)) :: st, s, k) := zev_go rfl rfl
theorem zr_X9_begin_38 (ls : zLs) (st : List zAV) (s : zAS) (k : Nat × Nat) (x y : Int32) : zev zk_X9_begin (38, ls, Sum.inl (Value.int y) :: Sum.inl (Value.int x) :: st, s, k) = if decide (¬ x = y) = true then zev zk_X9_begin (45, ls, st, s, k) else zev zk_X9_begin (41, ls, st, s, k) := zf_cmp (f := fun x y => decide (¬ x = y)) rfl
theorem zr_X9_begin_41 (ls : zLs) (st : List zAV) (s : zAS) (k : Nat × Nat) : zev zk_X9_begin (41, ls, st, s, k) = zev zk_X9_begin (42, ls, Sum.inl (Value.int (1)) :: st, s, k) := zev_go rfl rfl
theorem zr_X9_begin_42 (ls : zLs) (st : List zAV) (s : zAS) (k : Nat × Nat) : zev zk_X9_begin (42, ls, st, s, k) = zev zk_X9_begin (46, ls, st, s, k) := zev_go rfl rfl
theorem zr_X9_begin_45 (ls : zLs) (st : List zAV) (s : zAS) (k : Nat × Nat) : zev zk_X9_begin (45, ls, st, s, k) = zev zk_X9_begin (46, ls, Sum.inl (Value.int (0)) :: st, s, k) := zev_go rfl rfl
theorem zr_X9_begin_46 (a0 a1 a2 : Option zAV) (st : List zAV) (s : zAS) (k : Nat × Nat) (x : Int32) : zev zk_X9_begin (46, [a0, a1, a2], Sum.inl (Value.int x) :: st, s, k) = zev zk_X9_begin (47, [a0, zk1 a1, some (Sum.inl (Value.int x))], st, s, k) := zev_go rfl rfl
theorem zr_X9_begin_47 (a0 a1 : Option zAV) (st : List zAV) (s : zAS) (k : Nat × Nat) (x : Int32) : zev zk_X9_begin (47, [a0, a1, some (Sum.inl (Value.int x))], st, s, k) = zev zk_X9_begin (48, [a0, a1, some (Sum.inl (Value.int x))], Sum.inl (Value.int x) :: st, s, k) := zev_go rfl rfl
theorem zr_X9_begin_48 (ls : zLs) (st : List zAV) (s : zAS) (k : Nat × Nat) (x : Int32) : zev zk_X9_begin (48, ls, Sum.inl (Value.int x) :: st, s, k) = if decide (¬ x = 0) = true then zev zk_X9_begin (57, ls, st, s, k) else zev zk_X9_begin (51, ls, st, s, k) := zf_if (f := fun x => decide (¬ x = 0)) rfl
theorem zr_X9_begin_51 (a1 a2 : Option zAV) (st : List zAV) (s : zAS) (k : Nat × Nat) (o : Nat × Nat) : zev zk_X9_begin (51, [some (Sum.inr o), a1, a2], st, s, k) = zev zk_X9_begin (52, [some (Sum.inr o), a1, a2], Sum.inr o :: st, s, k) := zev_go rfl rfl
theorem zr_X9_begin_52 (ls : zLs) (st : List zAV) (s : zAS) (k : Nat × Nat) : zev zk_X9_begin (52, ls, st, s, k) = zev zk_X9_begin (53, ls, Sum.inl (Value.int (1)) :: st, s, k) := zev_go rfl rfl
theorem zr_X9_begin_53 (ls : zLs) (st : List zAV) (s : zAS) (k : Nat × Nat) (r v0 : zAV) (h : zcok zEM 9 0 0 (zR_X9_begin).cells (zR_X9_begin).slots r st k) : zev zk_X9_begin (53, ls, v0 :: r :: st, s, k) = zret zk_X9_begin 56 ls st (k.1 + 0, k.2 + 0) (m_X9_fail [r, v0] s) := zf_callV (as := [v0]) 1 rfl rfl h
theorem zr_X9_begin_56 (ls : zLs) (s : zAS) (k : Nat × Nat) (x : Int32) : zev zk_X9_begin (56, ls, [Sum.inl (Value.int x)], s, k) = some (.inl (some (Sum.inl (Value.int x))), s) := zf_reti rfl
theorem zr_X9_begin_57 (a1 a2 : Option zAV) (st : List zAV) (s : zAS) (k : Nat × Nat) (o : Nat × Nat) : zev zk_X9_begin (57, [some (Sum.inr o), a1, a2], st, s, k) = zev zk_X9_begin (58, [some (Sum.inr o), a1, a2], Sum.inr o :: st, s, k) := zev_go rfl rfl
theorem zr_X9_begin_58 (a0 a2 : Option zAV) (st : List zAV) (s : zAS) (k : Nat × Nat) (x : Int32) : zev zk_X9_begin (58, [a0, some (Sum.inl (Value.int x)), a2], st, s, k) = zev zk_X9_begin (59, [a0, some (Sum.inl (Value.int x)), a2], Sum.inl (Value.int x) :: st, s, k) := zev_go rfl rfl
theorem zr_X9_begin_59 (ls : zLs) (st : List zAV) (s : zAS) (k : Nat × Nat) (o i : Nat) (x : Int32) (h : zpok zEM 9 1 false o i x) : zev zk_X9_begin (59, ls, Sum.inl (Value.int x) :: Sum.inr (o, i) :: st, s, k) = zev zk_X9_begin (62, ls, st, (zup s.1 o i 1 x, s.2), k) := zf_put rfl h
theorem zr_X9_begin_62 (a1 a2 : Option zAV) (st : List zAV) (s : zAS) (k : Nat × Nat) (o : Nat × Nat) : zev zk_X9_begin (62, [some (Sum.inr o), a1, a2], st, s, k) = zev zk_X9_begin (63, [some (Sum.inr o), a1, a2], Sum.inr o :: st, s, k) := zev_go rfl rfl
theorem zr_X9_begin_63 (ls : zLs) (st : List zAV) (s : zAS) (k : Nat × Nat) : zev zk_X9_begin (63, ls, st, s, k) = zev zk_X9_begin (64, ls, Sum.inl (Value.int (0)) :: st, s, k) := zev_go rfl rfl
theorem zr_X9_begin_64 (ls : zLs) (st : List zAV) (s : zAS) (k : Nat × Nat) (o i : Nat) (x : Int32) (h : zpok zEM 9 2 false o i x) : zev zk_X9_begin (64, ls, Sum.inl (Value.int x) :: Sum.inr (o, i) :: st, s, k) = zev zk_X9_begin (67, ls, st, (zup s.1 o i 2 x, s.2), k) := zf_put rfl h
theorem zr_X9_begin_67 (a1 a2 : Option zAV) (st : List zAV) (s : zAS) (k : Nat × Nat) (o : Nat × Nat) : zev zk_X9_begin (67, [some (Sum.inr o), a1, a2], st, s, k) = zev zk_X9_begin (68, [some (Sum.inr o), a1, a2], Sum.inr o :: st, s, k) := zev_go rfl rfl
theorem zr_X9_begin_68 (ls : zLs) (st : List zAV) (s : zAS) (k : Nat × Nat) : zev zk_X9_begin (68, ls, st, s, k) = zev zk_X9_begin (69, ls, Sum.inl (Value.int (0)) :: st, s, k) := zev_go rfl rfl
theorem zr_X9_begin_69 (ls : zLs) (st : List zAV) (s : zAS) (k : Nat × Nat) (o i : Nat) (x : Int32) (h : zpok zEM 9 4 false o i x) : zev zk_X9_begin (69, ls, Sum.inl (Value.int x) :: Sum.inr (o, i) :: st, s, k) = zev zk_X9_begin (72, ls, st, (zup s.1 o i 4 x, s.2), k) := zf_put rfl h
theorem zr_X9_begin_72 (a1 a2 : Option zAV) (st : List zAV) (s : zAS) (k : Nat × Nat) (o : Nat × Nat) : zev zk_X9_begin (72, [some (Sum.inr o), a1, a2], st, s, k) = zev zk_X9_begin (73, [some (Sum.inr o), a1, a2], Sum.inr o :: st, s, k) := zev_go rfl rfl
theorem zr_X9_begin_73 (ls : zLs) (st : List zAV) (s : zAS) (k : Nat × Nat) (o i : Nat) : zev zk_X9_begin (73, ls, Sum.inr (o, i) :: st, s, k) = zpush zk_X9_begin 76 ls st s k (zgv zEM 9 1 o i s.1) := zf_get rfl
theorem zr_X9_begin_76 (a1 a2 : Option zAV) (st : List zAV) (s : zAS) (k : Nat × Nat) (o : Nat × Nat) : zev zk_X9_begin (76, [some (Sum.inr o), a1, a2], st, s, k) = zev zk_X9_begin (77, [some (Sum.inr o), a1, a2], Sum.inr o :: st, s, k) := zev_go rfl rfl
theorem zr_X9_begin_77 (ls : zLs) (st : List zAV) (s : zAS) (k : Nat × Nat) (o i : Nat) : zev zk_X9_begin (77, ls, Sum.inr (o, i) :: st, s, k) = zpush zk_X9_begin 80 ls st s k (zgv zEM 9 1 o i s.1) := zf_get rfl
theorem zr_X9_begin_80 (ls : zLs) (st : List zAV) (s : zAS) (k : Nat × Nat) (x y : Int32) : zev zk_X9_begin (80, ls, Sum.inl (Value.int y) :: Sum.inl (Value.int x) :: st, s, k) = zev zk_X9_begin (81, ls, Sum.inl (Value.int (x * y)) :: st, s, k) := zev_go rfl rfl
theorem zr_X9_begin_81 (ls : zLs) (s : zAS) (k : Nat × Nat) (x : Int32) : zev zk_X9_begin (81, ls, [Sum.inl (Value.int x)], s, k) = some (.inl (some (Sum.inl (Value.int x))), s) := zf_reti rfl
/-! X9_inverse: PrimePlaneModel.inverse(I)I -/
abbrev zR_X9_inverse : Room := ({ frames := 1, cells := 0, slots := 0, locals := 22 } : Room)
noncomputable def zl_X9_inverse : List (Nat × zOp) := [(0, z_lda 0 1), (1, z_ic (0) 2), (2, z_put zEM 9 0 false 5), (5, z_ldi 1 6), (6, z_ic (1) 7), (7, z_lda 0 8), (8, z_get zEM 9 1 11), (11, z_ic (1) 12), (12, z_bin (fun x y => x - y) 13), (13, z_callS m_X9_isIn 3 0 0 (zR_X9_inverse).cells (zR_X9_inverse).slots 16), (16, z_if (fun x => decide (x = 0)) 27 19), (19, z_lda 0 20), (20, z_ldi 1 21), (21, z_callV zEM 9 m_X9_opposite 1 0 0 (zR_X9_inverse).cells (zR_X9_inverse).slots 24), (24, z_goto 32), (27, z_lda 0 28), (28, z_ic (1) 29), (29, z_callV zEM 9 m_X9_fail 1 0 0 (zR_X9_inverse).cells (zR_X9_inverse).slots 32), (32, z_reti false)]
noncomputable def zk_X9_inverse (pc : Nat) : Option zOp := zlook zl_X9_inverse pc
noncomputable def m_X9_inverse : List zAV → zAS → Option zOut := zmeth zk_X9_inverse 2
set_option maxRecDepth 100000 in
set_option maxHeartbeats 4000000 in
theorem zcs_X9_inverse {R : Room} (hR : R = zR_X9_inverse) : ∀ q ∈ zl_X9_inverse, zS zEM yX9_inverse.cls cX9_inverse 2 wsX9_inverse (some .int) R q.1 q.2 := by
  subst hR
  have hin9 : ∀ w ∈ wsX90, w ∈ wsX9_inverse := fun w h => List.mem_cons_of_mem _ (List.mem_append_right _ h)
  refine List.forall_mem_cons.mpr ⟨zs_aload_n dX9_inverse_0 rfl, ?_⟩
  refine List.forall_mem_cons.mpr ⟨zs_iconst dX9_inverse_1 (by decide), ?_⟩
  refine List.forall_mem_cons.mpr ⟨zs_put (ci := 9) (j := 0) (N := 10) (C := RX9) (T := TX9) (index := 29) (b := false) .int tyX9 rfl (by decide) hin9 tyX9_ok nmX9 (List.mem_of_getElem? (i := 1) rfl) rfl (by decide +kernel) zni dX9_inverse_2, ?_⟩
  refine List.forall_mem_cons.mpr ⟨zs_iload_n dX9_inverse_5 rfl, ?_⟩
  refine List.forall_mem_cons.mpr ⟨zs_iconst dX9_inverse_6 (by decide), ?_⟩
  refine List.forall_mem_cons.mpr ⟨zs_aload_n dX9_inverse_7 rfl, ?_⟩
  refine List.forall_mem_cons.mpr ⟨zs_get (ci := 9) (j := 1) (N := 10) (C := RX9) (T := TX9) (index := 7) rfl (by decide) hin9 (List.mem_of_getElem? (i := 2) rfl) dX9_inverse_8, ?_⟩
  refine List.forall_mem_cons.mpr ⟨zs_iconst dX9_inverse_11 (by decide), ?_⟩
  refine List.forall_mem_cons.mpr ⟨zs_isub dX9_inverse_12, ?_⟩
  refine List.forall_mem_cons.mpr ⟨zs_callS (rm := zR_X9_isIn) (n := 3) zM_X9_isIn gX9_inverse_X9_isIn rfl (by decide +kernel) ⟨by decide, by decide⟩ dX9_inverse_13, ?_⟩
  refine List.forall_mem_cons.mpr ⟨zs_ifeq dX9_inverse_16 (by decide), ?_⟩
  refine List.forall_mem_cons.mpr ⟨zs_aload_n dX9_inverse_19 rfl, ?_⟩
  refine List.forall_mem_cons.mpr ⟨zs_iload_n dX9_inverse_20 rfl, ?_⟩
  refine List.forall_mem_cons.mpr ⟨zs_callV (ci := 9) (rm := zR_X9_opposite) (n := 1) rfl zM_X9_opposite gX9_inverse_X9_opposite rfl (by decide +kernel) ⟨by decide, by decide⟩ dX9_inverse_21, ?_⟩
  refine List.forall_mem_cons.mpr ⟨zs_goto dX9_inverse_24 (by decide), ?_⟩
  refine List.forall_mem_cons.mpr ⟨zs_aload_n dX9_inverse_27 rfl, ?_⟩
  refine List.forall_mem_cons.mpr ⟨zs_iconst dX9_inverse_28 (by decide), ?_⟩
  refine List.forall_mem_cons.mpr ⟨zs_callV (ci := 9) (rm := zR_X9_fail) (n := 1) rfl zM_X9_fail gX9_inverse_X9_fail rfl (by decide +kernel) ⟨by decide, by decide⟩ dX9_inverse_29, ?_⟩
  refine List.forall_mem_cons.mpr ⟨zs_reti (ty := .int) rfl (fun x h => (zni x h).1) dX9_inverse_32, ?_⟩
  exact fun _ h => absurd h List.not_mem_nil
theorem zM_X9_inverse : zMeets zEM yX9_inverse wsX9_inverse zR_X9_inverse m_X9_inverse := zmeth_M zEMok (zlook_all (zcs_X9_inverse rfl)) (by decide +kernel) rfl
theorem zr_X9_inverse_0 (a1 : Option zAV) (st : List zAV) (s : zAS) (k : Nat × Nat) (o : Nat × Nat) : zev zk_X9_inverse (0, [some (Sum.inr o), a1], st, s, k) = zev zk_X9_inverse (1, [some (Sum.inr o), a1], Sum.inr o :: st, s, k) := zev_go rfl rfl
theorem zr_X9_inverse_1 (ls : zLs) (st : List zAV) (s : zAS) (k : Nat × Nat) : zev zk_X9_inverse (1, ls, st, s, k) = zev zk_X9_inverse (2, ls, Sum.inl (Value.int (0)) :: st, s, k) := zev_go rfl rfl
theorem zr_X9_inverse_2 (ls : zLs) (st : List zAV) (s : zAS) (k : Nat × Nat) (o i : Nat) (x : Int32) (h : zpok zEM 9 0 false o i x) : zev zk_X9_inverse (2, ls, Sum.inl (Value.int x) :: Sum.inr (o, i) :: st, s, k) = zev zk_X9_inverse (5, ls, st, (zup s.1 o i 0 x, s.2), k) := zf_put rfl h
theorem zr_X9_inverse_5 (a0 : Option zAV) (st : List zAV) (s : zAS) (k : Nat × Nat) (x : Int32) : zev zk_X9_inverse (5, [a0, some (Sum.inl (Value.int x))], st, s, k) = zev zk_X9_inverse (6, [a0, some (Sum.inl (Value.int x))], Sum.inl (Value.int x) :: st, s, k) := zev_go rfl rfl
theorem zr_X9_inverse_6 (ls : zLs) (st : List zAV) (s : zAS) (k : Nat × Nat) : zev zk_X9_inverse (6, ls, st, s, k) = zev zk_X9_inverse (7, ls, Sum.inl (Value.int (1)) :: st, s, k) := zev_go rfl rfl
theorem zr_X9_inverse_7 (a1 : Option zAV) (st : List zAV) (s : zAS) (k : Nat × Nat) (o : Nat × Nat) : zev zk_X9_inverse (7, [some (Sum.inr o), a1], st, s, k) = zev zk_X9_inverse (8, [some (Sum.inr o), a1], Sum.inr o :: st, s, k) := zev_go rfl rfl
theorem zr_X9_inverse_8 (ls : zLs) (st : List zAV) (s : zAS) (k : Nat × Nat) (o i : Nat) : zev zk_X9_inverse (8, ls, Sum.inr (o, i) :: st, s, k) = zpush zk_X9_inverse 11 ls st s k (zgv zEM 9 1 o i s.1) := zf_get rfl
theorem zr_X9_inverse_11 (ls : zLs) (st : List zAV) (s : zAS) (k : Nat × Nat) : zev zk_X9_inverse (11, ls, st, s, k) = zev zk_X9_inverse (12, ls, Sum.inl (Value.int (1)) :: st, s, k) := zev_go rfl rfl
theorem zr_X9_inverse_12 (ls : zLs) (st : List zAV) (s : zAS) (k : Nat × Nat) (x y : Int32) : zev zk_X9_inverse (12, ls, Sum.inl (Value.int y) :: Sum.inl (Value.int x) :: st, s, k) = zev zk_X9_inverse (13, ls, Sum.inl (Value.int (x - y)) :: st, s, k) := zev_go rfl rfl
theorem zr_X9_inverse_13 (ls : zLs) (st : List zAV) (s : zAS) (k : Nat × Nat) (v0 v1 v2 : zAV) (h : (st.map zcat).sum ≤ 8 ∧ k.1 + 0 ≤ (zR_X9_inverse).cells ∧ k.2 + 0 ≤ (zR_X9_inverse).slots) : zev zk_X9_inverse (13, ls, v2 :: v1 :: v0 :: st, s, k) = zret zk_X9_inverse 16 ls st (k.1 + 0, k.2 + 0) (m_X9_isIn [v0, v1, v2] s) := zf_callS (as := [v2, v1, v0]) 3 rfl rfl h
theorem zr_X9_inverse_16 (ls : zLs) (st : List zAV) (s : zAS) (k : Nat × Nat) (x : Int32) : zev zk_X9_inverse (16, ls, Sum.inl (Value.int x) :: st, s, k) = if decide (x = 0) = true then zev zk_X9_inverse (27, ls, st, s, k) else zev zk_X9_inverse (19, ls, st, s, k) := zf_if (f := fun x => decide (x = 0)) rfl
theorem zr_X9_inverse_19 (a1 : Option zAV) (st : List zAV) (s : zAS) (k : Nat × Nat) (o : Nat × Nat) : zev zk_X9_inverse (19, [some (Sum.inr o), a1], st, s, k) = zev zk_X9_inverse (20, [some (Sum.inr o), a1], Sum.inr o :: st, s, k) := zev_go rfl rfl
theorem zr_X9_inverse_20 (a0 : Option zAV) (st : List zAV) (s : zAS) (k : Nat × Nat) (x : Int32) : zev zk_X9_inverse (20, [a0, some (Sum.inl (Value.int x))], st, s, k) = zev zk_X9_inverse (21, [a0, some (Sum.inl (Value.int x))], Sum.inl (Value.int x) :: st, s, k) := zev_go rfl rfl
theorem zr_X9_inverse_21 (ls : zLs) (st : List zAV) (s : zAS) (k : Nat × Nat) (r v0 : zAV) (h : zcok zEM 9 0 0 (zR_X9_inverse).cells (zR_X9_inverse).slots r st k) : zev zk_X9_inverse (21, ls, v0 :: r :: st, s, k) = zret zk_X9_inverse 24 ls st (k.1 + 0, k.2 + 0) (m_X9_opposite [r, v0] s) := zf_callV (as := [v0]) 1 rfl rfl h
theorem zr_X9_inverse_24 (ls : zLs) (st : List zAV) (s : zAS) (k : Nat × Nat) : zev zk_X9_inverse (24, ls, st, s, k) = zev zk_X9_inverse (32, ls, st, s, k) := zev_go rfl rfl
theorem zr_X9_inverse_27 (a1 : Option zAV) (st : List zAV) (s : zAS) (k : Nat × Nat) (o : Nat × Nat) : zev zk_X9_inverse (27, [some (Sum.inr o), a1], st, s, k) = zev zk_X9_inverse (28, [some (Sum.inr o), a1], Sum.inr o :: st, s, k) := zev_go rfl rfl
theorem zr_X9_inverse_28 (ls : zLs) (st : List zAV) (s : zAS) (k : Nat × Nat) : zev zk_X9_inverse (28, ls, st, s, k) = zev zk_X9_inverse (29, ls, Sum.inl (Value.int (1)) :: st, s, k) := zev_go rfl rfl
theorem zr_X9_inverse_29 (ls : zLs) (st : List zAV) (s : zAS) (k : Nat × Nat) (r v0 : zAV) (h : zcok zEM 9 0 0 (zR_X9_inverse).cells (zR_X9_inverse).slots r st k) : zev zk_X9_inverse (29, ls, v0 :: r :: st, s, k) = zret zk_X9_inverse 32 ls st (k.1 + 0, k.2 + 0) (m_X9_fail [r, v0] s) := zf_callV (as := [v0]) 1 rfl rfl h
theorem zr_X9_inverse_32 (ls : zLs) (s : zAS) (k : Nat × Nat) (x : Int32) : zev zk_X9_inverse (32, ls, [Sum.inl (Value.int x)], s, k) = some (.inl (some (Sum.inl (Value.int x))), s) := zf_reti rfl
/-! X9_root: PrimePlaneModel.root(I)I -/
abbrev zR_X9_root : Room := ({ frames := 1, cells := 0, slots := 0, locals := 22 } : Room)
noncomputable def zl_X9_root : List (Nat × zOp) := [(0, z_lda 0 1), (1, z_ic (0) 2), (2, z_put zEM 9 0 false 5), (5, z_ldi 1 6), (6, z_ic (0) 7), (7, z_lda 0 8), (8, z_get zEM 9 1 11), (11, z_ic (1) 12), (12, z_bin (fun x y => x - y) 13), (13, z_callS m_X9_isIn 3 0 0 (zR_X9_root).cells (zR_X9_root).slots 16), (16, z_if (fun x => decide (¬ x = 0)) 25 19), (19, z_lda 0 20), (20, z_ic (1) 21), (21, z_callV zEM 9 m_X9_fail 1 0 0 (zR_X9_root).cells (zR_X9_root).slots 24), (24, z_reti false), (25, z_ic (0) 26), (26, z_sti 2 27), (27, z_ldi 2 28), (28, z_lda 0 29), (29, z_get zEM 9 1 32), (32, z_cmp (fun x y => decide (y ≤ x)) 53 35), (35, z_ldi 2 36), (36, z_ldi 2 37), (37, z_bin (fun x y => x * y) 38), (38, z_lda 0 39), (39, z_get zEM 9 1 42), (42, z_rem 43), (43, z_ldi 1 44), (44, z_cmp (fun x y => decide (x = y)) 53 47), (47, z_iinc 2 (1) 50), (50, z_goto 27), (53, z_ldi 2 54), (54, z_lda 0 55), (55, z_get zEM 9 1 58), (58, z_cmp (fun x y => decide (y ≤ x)) 65 61), (61, z_ldi 2 62), (62, z_goto 66), (65, z_ic (-1) 66), (66, z_reti false)]
noncomputable def zk_X9_root (pc : Nat) : Option zOp := zlook zl_X9_root pc
noncomputable def m_X9_root : List zAV → zAS → Option zOut := zmeth zk_X9_root 3
set_option maxRecDepth 100000 in
set_option maxHeartbeats 4000000 in
theorem zcs_X9_root {R : Room} (hR : R = zR_X9_root) : ∀ q ∈ zl_X9_root, zS zEM yX9_root.cls cX9_root 3 wsX9_root (some .int) R q.1 q.2 := by
  subst hR
  have hin9 : ∀ w ∈ wsX90, w ∈ wsX9_root := fun w h => List.mem_cons_of_mem _ (List.mem_append_right _ h)
  refine List.forall_mem_cons.mpr ⟨zs_aload_n dX9_root_0 rfl, ?_⟩
  refine List.forall_mem_cons.mpr ⟨zs_iconst dX9_root_1 (by decide), ?_⟩
  refine List.forall_mem_cons.mpr ⟨zs_put (ci := 9) (j := 0) (N := 10) (C := RX9) (T := TX9) (index := 29) (b := false) .int tyX9 rfl (by decide) hin9 tyX9_ok nmX9 (List.mem_of_getElem? (i := 1) rfl) rfl (by decide +kernel) zni dX9_root_2, ?_⟩
  refine List.forall_mem_cons.mpr ⟨zs_iload_n dX9_root_5 rfl, ?_⟩
  refine List.forall_mem_cons.mpr ⟨zs_iconst dX9_root_6 (by decide), ?_⟩
  refine List.forall_mem_cons.mpr ⟨zs_aload_n dX9_root_7 rfl, ?_⟩
  refine List.forall_mem_cons.mpr ⟨zs_get (ci := 9) (j := 1) (N := 10) (C := RX9) (T := TX9) (index := 7) rfl (by decide) hin9 (List.mem_of_getElem? (i := 2) rfl) dX9_root_8, ?_⟩
  refine List.forall_mem_cons.mpr ⟨zs_iconst dX9_root_11 (by decide), ?_⟩
  refine List.forall_mem_cons.mpr ⟨zs_isub dX9_root_12, ?_⟩
  refine List.forall_mem_cons.mpr ⟨zs_callS (rm := zR_X9_isIn) (n := 3) zM_X9_isIn gX9_root_X9_isIn rfl (by decide +kernel) ⟨by decide, by decide⟩ dX9_root_13, ?_⟩
  refine List.forall_mem_cons.mpr ⟨zs_ifne dX9_root_16 (by decide), ?_⟩
  refine List.forall_mem_cons.mpr ⟨zs_aload_n dX9_root_19 rfl, ?_⟩
  refine List.forall_mem_cons.mpr ⟨zs_iconst dX9_root_20 (by decide), ?_⟩
  refine List.forall_mem_cons.mpr ⟨zs_callV (ci := 9) (rm := zR_X9_fail) (n := 1) rfl zM_X9_fail gX9_root_X9_fail rfl (by decide +kernel) ⟨by decide, by decide⟩ dX9_root_21, ?_⟩
  refine List.forall_mem_cons.mpr ⟨zs_reti (ty := .int) rfl (fun x h => (zni x h).1) dX9_root_24, ?_⟩
  refine List.forall_mem_cons.mpr ⟨zs_iconst dX9_root_25 (by decide), ?_⟩
  refine List.forall_mem_cons.mpr ⟨zs_istore_n dX9_root_26 rfl, ?_⟩
  refine List.forall_mem_cons.mpr ⟨zs_iload_n dX9_root_27 rfl, ?_⟩
  refine List.forall_mem_cons.mpr ⟨zs_aload_n dX9_root_28 rfl, ?_⟩
  refine List.forall_mem_cons.mpr ⟨zs_get (ci := 9) (j := 1) (N := 10) (C := RX9) (T := TX9) (index := 7) rfl (by decide) hin9 (List.mem_of_getElem? (i := 2) rfl) dX9_root_29, ?_⟩
  refine List.forall_mem_cons.mpr ⟨zs_icge dX9_root_32 (by decide), ?_⟩
  refine List.forall_mem_cons.mpr ⟨zs_iload_n dX9_root_35 rfl, ?_⟩
  refine List.forall_mem_cons.mpr ⟨zs_iload_n dX9_root_36 rfl, ?_⟩
  refine List.forall_mem_cons.mpr ⟨zs_imul dX9_root_37, ?_⟩
  refine List.forall_mem_cons.mpr ⟨zs_aload_n dX9_root_38 rfl, ?_⟩
  refine List.forall_mem_cons.mpr ⟨zs_get (ci := 9) (j := 1) (N := 10) (C := RX9) (T := TX9) (index := 7) rfl (by decide) hin9 (List.mem_of_getElem? (i := 2) rfl) dX9_root_39, ?_⟩
  refine List.forall_mem_cons.mpr ⟨zs_irem dX9_root_42, ?_⟩
  refine List.forall_mem_cons.mpr ⟨zs_iload_n dX9_root_43 rfl, ?_⟩
  refine List.forall_mem_cons.mpr ⟨zs_iceq dX9_root_44 (by decide), ?_⟩
  refine List.forall_mem_cons.mpr ⟨zs_iinc dX9_root_47 (by decide), ?_⟩
  refine List.forall_mem_cons.mpr ⟨zs_goto dX9_root_50 (by decide), ?_⟩
  refine List.forall_mem_cons.mpr ⟨zs_iload_n dX9_root_53 rfl, ?_⟩
  refine List.forall_mem_cons.mpr ⟨zs_aload_n dX9_root_54 rfl, ?_⟩
  refine List.forall_mem_cons.mpr ⟨zs_get (ci := 9) (j := 1) (N := 10) (C := RX9) (T := TX9) (index := 7) rfl (by decide) hin9 (List.mem_of_getElem? (i := 2) rfl) dX9_root_55, ?_⟩
  refine List.forall_mem_cons.mpr ⟨zs_icge dX9_root_58 (by decide), ?_⟩
  refine List.forall_mem_cons.mpr ⟨zs_iload_n dX9_root_61 rfl, ?_⟩
  refine List.forall_mem_cons.mpr ⟨zs_goto dX9_root_62 (by decide), ?_⟩
  refine List.forall_mem_cons.mpr ⟨zs_iconst dX9_root_65 (by decide), ?_⟩
  refine List.forall_mem_cons.mpr ⟨zs_reti (ty := .int) rfl (fun x h => (zni x h).1) dX9_root_66, ?_⟩
  exact fun _ h => absurd h List.not_mem_nil
theorem zM_X9_root : zMeets zEM yX9_root wsX9_root zR_X9_root m_X9_root := zmeth_M zEMok (zlook_all (zcs_X9_root rfl)) (by decide +kernel) rfl
theorem zr_X9_root_0 (a1 a2 : Option zAV) (st : List zAV) (s : zAS) (k : Nat × Nat) (o : Nat × Nat) : zev zk_X9_root (0, [some (Sum.inr o), a1, a2], st, s, k) = zev zk_X9_root (1, [some (Sum.inr o), a1, a2], Sum.inr o :: st, s, k) := zev_go rfl rfl
theorem zr_X9_root_1 (ls : zLs) (st : List zAV) (s : zAS) (k : Nat × Nat) : zev zk_X9_root (1, ls, st, s, k) = zev zk_X9_root (2, ls, Sum.inl (Value.int (0)) :: st, s, k) := zev_go rfl rfl
theorem zr_X9_root_2 (ls : zLs) (st : List zAV) (s : zAS) (k : Nat × Nat) (o i : Nat) (x : Int32) (h : zpok zEM 9 0 false o i x) : zev zk_X9_root (2, ls, Sum.inl (Value.int x) :: Sum.inr (o, i) :: st, s, k) = zev zk_X9_root (5, ls, st, (zup s.1 o i 0 x, s.2), k) := zf_put rfl h
theorem zr_X9_root_5 (a0 a2 : Option zAV) (st : List zAV) (s : zAS) (k : Nat × Nat) (x : Int32) : zev zk_X9_root (5, [a0, some (Sum.inl (Value.int x)), a2], st, s, k) = zev zk_X9_root (6, [a0, some (Sum.inl (Value.int x)), a2], Sum.inl (Value.int x) :: st, s, k) := zev_go rfl rfl
theorem zr_X9_root_6 (ls : zLs) (st : List zAV) (s : zAS) (k : Nat × Nat) : zev zk_X9_root (6, ls, st, s, k) = zev zk_X9_root (7, ls, Sum.inl (Value.int (0)) :: st, s, k) := zev_go rfl rfl
theorem zr_X9_root_7 (a1 a2 : Option zAV) (st : List zAV) (s : zAS) (k : Nat × Nat) (o : Nat × Nat) : zev zk_X9_root (7, [some (Sum.inr o), a1, a2], st, s, k) = zev zk_X9_root (8, [some (Sum.inr o), a1, a2], Sum.inr o :: st, s, k) := zev_go rfl rfl
theorem zr_X9_root_8 (ls : zLs) (st : List zAV) (s : zAS) (k : Nat × Nat) (o i : Nat) : zev zk_X9_root (8, ls, Sum.inr (o, i) :: st, s, k) = zpush zk_X9_root 11 ls st s k (zgv zEM 9 1 o i s.1) := zf_get rfl
theorem zr_X9_root_11 (ls : zLs) (st : List zAV) (s : zAS) (k : Nat × Nat) : zev zk_X9_root (11, ls, st, s, k) = zev zk_X9_root (12, ls, Sum.inl (Value.int (1)) :: st, s, k) := zev_go rfl rfl
theorem zr_X9_root_12 (ls : zLs) (st : List zAV) (s : zAS) (k : Nat × Nat) (x y : Int32) : zev zk_X9_root (12, ls, Sum.inl (Value.int y) :: Sum.inl (Value.int x) :: st, s, k) = zev zk_X9_root (13, ls, Sum.inl (Value.int (x - y)) :: st, s, k) := zev_go rfl rfl
theorem zr_X9_root_13 (ls : zLs) (st : List zAV) (s : zAS) (k : Nat × Nat) (v0 v1 v2 : zAV) (h : (st.map zcat).sum ≤ 8 ∧ k.1 + 0 ≤ (zR_X9_root).cells ∧ k.2 + 0 ≤ (zR_X9_root).slots) : zev zk_X9_root (13, ls, v2 :: v1 :: v0 :: st, s, k) = zret zk_X9_root 16 ls st (k.1 + 0, k.2 + 0) (m_X9_isIn [v0, v1, v2] s) := zf_callS (as := [v2, v1, v0]) 3 rfl rfl h
theorem zr_X9_root_16 (ls : zLs) (st : List zAV) (s : zAS) (k : Nat × Nat) (x : Int32) : zev zk_X9_root (16, ls, Sum.inl (Value.int x) :: st, s, k) = if decide (¬ x = 0) = true then zev zk_X9_root (25, ls, st, s, k) else zev zk_X9_root (19, ls, st, s, k) := zf_if (f := fun x => decide (¬ x = 0)) rfl
theorem zr_X9_root_19 (a1 a2 : Option zAV) (st : List zAV) (s : zAS) (k : Nat × Nat) (o : Nat × Nat) : zev zk_X9_root (19, [some (Sum.inr o), a1, a2], st, s, k) = zev zk_X9_root (20, [some (Sum.inr o), a1, a2], Sum.inr o :: st, s, k) := zev_go rfl rfl
theorem zr_X9_root_20 (ls : zLs) (st : List zAV) (s : zAS) (k : Nat × Nat) : zev zk_X9_root (20, ls, st, s, k) = zev zk_X9_root (21, ls, Sum.inl (Value.int (1)) :: st, s, k) := zev_go rfl rfl
theorem zr_X9_root_21 (ls : zLs) (st : List zAV) (s : zAS) (k : Nat × Nat) (r v0 : zAV) (h : zcok zEM 9 0 0 (zR_X9_root).cells (zR_X9_root).slots r st k) : zev zk_X9_root (21, ls, v0 :: r :: st, s, k) = zret zk_X9_root 24 ls st (k.1 + 0, k.2 + 0) (m_X9_fail [r, v0] s) := zf_callV (as := [v0]) 1 rfl rfl h
theorem zr_X9_root_24 (ls : zLs) (s : zAS) (k : Nat × Nat) (x : Int32) : zev zk_X9_root (24, ls, [Sum.inl (Value.int x)], s, k) = some (.inl (some (Sum.inl (Value.int x))), s) := zf_reti rfl
theorem zr_X9_root_25 (ls : zLs) (st : List zAV) (s : zAS) (k : Nat × Nat) : zev zk_X9_root (25, ls, st, s, k) = zev zk_X9_root (26, ls, Sum.inl (Value.int (0)) :: st, s, k) := zev_go rfl rfl
theorem zr_X9_root_26 (a0 a1 a2 : Option zAV) (st : List zAV) (s : zAS) (k : Nat × Nat) (x : Int32) : zev zk_X9_root (26, [a0, a1, a2], Sum.inl (Value.int x) :: st, s, k) = zev zk_X9_root (27, [a0, zk1 a1, some (Sum.inl (Value.int x))], st, s, k) := zev_go rfl rfl
theorem zr_X9_root_27 (a0 a1 : Option zAV) (st : List zAV) (s : zAS) (k : Nat × Nat) (x : Int32) : zev zk_X9_root (27, [a0, a1, some (Sum.inl (Value.int x))], st, s, k) = zev zk_X9_root (28, [a0, a1, some (Sum.inl (Value.int x))], Sum.inl (Value.int x) :: st, s, k) := zev_go rfl rfl
theorem zr_X9_root_28 (a1 a2 : Option zAV) (st : List zAV) (s : zAS) (k : Nat × Nat) (o : Nat × Nat) : zev zk_X9_root (28, [some (Sum.inr o), a1, a2], st, s, k) = zev zk_X9_root (29, [some (Sum.inr o), a1, a2], Sum.inr o :: st, s, k) := zev_go rfl rfl
theorem zr_X9_root_29 (ls : zLs) (st : List zAV) (s : zAS) (k : Nat × Nat) (o i : Nat) : zev zk_X9_root (29, ls, Sum.inr (o, i) :: st, s, k) = zpush zk_X9_root 32 ls st s k (zgv zEM 9 1 o i s.1) := zf_get rfl
theorem zr_X9_root_32 (ls : zLs) (st : List zAV) (s : zAS) (k : Nat × Nat) (x y : Int32) : zev zk_X9_root (32, ls, Sum.inl (Value.int y) :: Sum.inl (Value.int x) :: st, s, k) = if decide (y ≤ x) = true then zev zk_X9_root (53, ls, st, s, k) else zev zk_X9_root (35, ls, st, s, k) := zf_cmp (f := fun x y => decide (y ≤ x)) rfl
theorem zr_X9_root_35 (a0 a1 : Option zAV) (st : List zAV) (s : zAS) (k : Nat × Nat) (x : Int32) : zev zk_X9_root (35, [a0, a1, some (Sum.inl (Value.int x))], st, s, k) = zev zk_X9_root (36, [a0, a1, some (Sum.inl (Value.int x))], Sum.inl (Value.int x) :: st, s, k) := zev_go rfl rfl
theorem zr_X9_root_36 (a0 a1 : Option zAV) (st : List zAV) (s : zAS) (k : Nat × Nat) (x : Int32) : zev zk_X9_root (36, [a0, a1, some (Sum.inl (Value.int x))], st, s, k) = zev zk_X9_root (37, [a0, a1, some (Sum.inl (Value.int x))], Sum.inl (Value.int x) :: st, s, k) := zev_go rfl rfl
theorem zr_X9_root_37 (ls : zLs) (st : List zAV) (s : zAS) (k : Nat × Nat) (x y : Int32) : zev zk_X9_root (37, ls, Sum.inl (Value.int y) :: Sum.inl (Value.int x) :: st, s, k) = zev zk_X9_root (38, ls, Sum.inl (Value.int (x * y)) :: st, s, k) := zev_go rfl rfl
theorem zr_X9_root_38 (a1 a2 : Option zAV) (st : List zAV) (s : zAS) (k : Nat × Nat) (o : Nat × Nat) : zev zk_X9_root (38, [some (Sum.inr o), a1, a2], st, s, k) = zev zk_X9_root (39, [some (Sum.inr o), a1, a2], Sum.inr o :: st, s, k) := zev_go rfl rfl
theorem zr_X9_root_39 (ls : zLs) (st : List zAV) (s : zAS) (k : Nat × Nat) (o i : Nat) : zev zk_X9_root (39, ls, Sum.inr (o, i) :: st, s, k) = zpush zk_X9_root 42 ls st s k (zgv zEM 9 1 o i s.1) := zf_get rfl
theorem zr_X9_root_42 (ls : zLs) (st : List zAV) (s : zAS) (k : Nat × Nat) (x y : Int32) : zev zk_X9_root (42, ls, Sum.inl (Value.int y) :: Sum.inl (Value.int x) :: st, s, k) = if y = 0 then none else zev zk_X9_root (43, ls, Sum.inl (Value.int (x - x / y * y)) :: st, s, k) := zf_rem rfl
theorem zr_X9_root_43 (a0 a2 : Option zAV) (st : List zAV) (s : zAS) (k : Nat × Nat) (x : Int32) : zev zk_X9_root (43, [a0, some (Sum.inl (Value.int x)), a2], st, s, k) = zev zk_X9_root (44, [a0, some (Sum.inl (Value.int x)), a2], Sum.inl (Value.int x) :: st, s, k) := zev_go rfl rfl
theorem zr_X9_root_44 (ls : zLs) (st : List zAV) (s : zAS) (k : Nat × Nat) (x y : Int32) : zev zk_X9_root (44, ls, Sum.inl (Value.int y) :: Sum.inl (Value.int x) :: st, s, k) = if decide (x = y) = true then zev zk_X9_root (53, ls, st, s, k) else zev zk_X9_root (47, ls, st, s, k) := zf_cmp (f := fun x y => decide (x = y)) rfl
theorem zr_X9_root_47 (a0 a1 : Option zAV) (st : List zAV) (s : zAS) (k : Nat × Nat) (x : Int32) : zev zk_X9_root (47, [a0, a1, some (Sum.inl (Value.int x))], st, s, k) = zev zk_X9_root (50, [a0, zk1 a1, some (Sum.inl (Value.int (x + (1))))], st, s, k) := zev_go rfl rfl
theorem zr_X9_root_50 (ls : zLs) (st : List zAV) (s : zAS) (k : Nat × Nat) : zev zk_X9_root (50, ls, st, s, k) = zev zk_X9_root (27, ls, st, s, k) := zev_go rfl rfl
theorem zr_X9_root_53 (a0 a1 : Option zAV) (st : List zAV) (s : zAS) (k : Nat × Nat) (x : Int32) : zev zk_X9_root (53, [a0, a1, some (Sum.inl (Value.int x))], st, s, k) = zev zk_X9_root (54, [a0, a1, some (Sum.inl (Value.int x))], Sum.inl (Value.int x) :: st, s, k) := zev_go rfl rfl
theorem zr_X9_root_54 (a1 a2 : Option zAV) (st : List zAV) (s : zAS) (k : Nat × Nat) (o : Nat × Nat) : zev zk_X9_root (54, [some (Sum.inr o), a1, a2], st, s, k) = zev zk_X9_root (55, [some (Sum.inr o), a1, a2], Sum.inr o :: st, s, k) := zev_go rfl rfl
theorem zr_X9_root_55 (ls : zLs) (st : List zAV) (s : zAS) (k : Nat × Nat) (o i : Nat) : zev zk_X9_root (55, ls, Sum.inr (o, i) :: st, s, k) = zpush zk_X9_root 58 ls st s k (zgv zEM 9 1 o i s.1) := zf_get rfl
theorem zr_X9_root_58 (ls : zLs) (st : List zAV) (s : zAS) (k : Nat × Nat) (x y : Int32) : zev zk_X9_root (58, ls, Sum.inl (Value.int y) :: Sum.inl (Value.int x) :: st, s, k) = if decide (y ≤ x) = true then zev zk_X9_root (65, ls, st, s, k) else zev zk_X9_root (61, ls, st, s, k) := zf_cmp (f := fun x y => decide (y ≤ x)) rfl
theorem zr_X9_root_61 (a0 a1 : Option zAV) (st : List zAV) (s : zAS) (k : Nat × Nat) (x : Int32) : zev zk_X9_root (61, [a0, a1, some (Sum.inl (Value.int x))], st, s, k) = zev zk_X9_root (62, [a0, a1, some (Sum.inl (Value.int x))], Sum.inl (Value.int x) :: st, s, k) := zev_go rfl rfl
theorem zr_X9_root_62 (ls : zLs) (st : List zAV) (s : zAS) (k : Nat × Nat) : zev zk_X9_root (62, ls, st, s, k) = zev zk_X9_root (66, ls, st, s, k) := zev_go rfl rfl
theorem zr_X9_root_65 (ls : zLs) (st : List zAV) (s : zAS) (k : Nat × Nat) : zev zk_X9_root (65, ls, st, s, k) = zev zk_X9_root (66, ls, Sum.inl (Value.int (-1)) :: st, s, k) := zev_go rfl rfl
theorem zr_X9_root_66 (ls : zLs) (s : zAS) (k : Nat × Nat) (x : Int32) : zev zk_X9_root (66, ls, [Sum.inl (Value.int x)], s, k) = some (.inl (some (Sum.inl (Value.int x))), s) := zf_reti rfl
/-! X9_lay: PrimePlaneModel.lay(III)Z -/
abbrev zR_X9_lay : Room := ({ frames := 2, cells := 0, slots := 0, locals := 43 } : Room)
noncomputable def zl_X9_lay : List (Nat × zOp) := [(0, z_lda 0 1), (1, z_get zEM 9 6 4), (4, z_ic (0) 5), (5, z_lda 0 6), (6, z_ldi 1 7), (7, z_callV zEM 9 m_X9_mod 1 0 0 (zR_X9_lay).cells (zR_X9_lay).slots 10), (10, z_iast zEM 11), (11, z_lda 0 12), (12, z_get zEM 9 6 15), (15, z_ic (1) 16), (16, z_lda 0 17), (17, z_ldi 2 18), (18, z_callV zEM 9 m_X9_mod 1 0 0 (zR_X9_lay).cells (zR_X9_lay).slots 21), (21, z_iast zEM 22), (22, z_lda 0 23), (23, z_get zEM 9 6 26), (26, z_ic (2) 27), (27, z_lda 0 28), (28, z_ldi 3 29), (29, z_callV zEM 9 m_X9_mod 1 0 0 (zR_X9_lay).cells (zR_X9_lay).slots 32), (32, z_iast zEM 33), (33, z_ic (1) 34), (34, z_reti true)]
noncomputable def zk_X9_lay (pc : Nat) : Option zOp := zlook zl_X9_lay pc
noncomputable def m_X9_lay : List zAV → zAS → Option zOut := zmeth zk_X9_lay 4
set_option maxRecDepth 100000 in
set_option maxHeartbeats 4000000 in
theorem zcs_X9_lay {R : Room} (hR : R = zR_X9_lay) : ∀ q ∈ zl_X9_lay, zS zEM yX9_lay.cls cX9_lay 4 wsX9_lay (some .boolean) R q.1 q.2 := by
  subst hR
  have hin9 : ∀ w ∈ wsX90, w ∈ wsX9_lay := fun w h => List.mem_cons_of_mem _ (List.mem_append_right _ h)
  refine List.forall_mem_cons.mpr ⟨zs_aload_n dX9_lay_0 rfl, ?_⟩
  refine List.forall_mem_cons.mpr ⟨zs_get (ci := 9) (j := 6) (N := 10) (C := RX9) (T := TX9) (index := 20) rfl (by decide) hin9 (List.mem_of_getElem? (i := 1) rfl) dX9_lay_1, ?_⟩
  refine List.forall_mem_cons.mpr ⟨zs_iconst dX9_lay_4 (by decide), ?_⟩
  refine List.forall_mem_cons.mpr ⟨zs_aload_n dX9_lay_5 rfl, ?_⟩
  refine List.forall_mem_cons.mpr ⟨zs_iload_n dX9_lay_6 rfl, ?_⟩
  refine List.forall_mem_cons.mpr ⟨zs_callV (ci := 9) (rm := zR_X9_mod) (n := 1) rfl zM_X9_mod gX9_lay_X9_mod rfl (by decide +kernel) ⟨by decide, by decide⟩ dX9_lay_7, ?_⟩
  refine List.forall_mem_cons.mpr ⟨zs_iast dX9_lay_10, ?_⟩
  refine List.forall_mem_cons.mpr ⟨zs_aload_n dX9_lay_11 rfl, ?_⟩
  refine List.forall_mem_cons.mpr ⟨zs_get (ci := 9) (j := 6) (N := 10) (C := RX9) (T := TX9) (index := 20) rfl (by decide) hin9 (List.mem_of_getElem? (i := 1) rfl) dX9_lay_12, ?_⟩
  refine List.forall_mem_cons.mpr ⟨zs_iconst dX9_lay_15 (by decide), ?_⟩
  refine List.forall_mem_cons.mpr ⟨zs_aload_n dX9_lay_16 rfl, ?_⟩
  refine List.forall_mem_cons.mpr ⟨zs_iload_n dX9_lay_17 rfl, ?_⟩
  refine List.forall_mem_cons.mpr ⟨zs_callV (ci := 9) (rm := zR_X9_mod) (n := 1) rfl zM_X9_mod gX9_lay_X9_mod rfl (by decide +kernel) ⟨by decide, by decide⟩ dX9_lay_18, ?_⟩
  refine List.forall_mem_cons.mpr ⟨zs_iast dX9_lay_21, ?_⟩
  refine List.forall_mem_cons.mpr ⟨zs_aload_n dX9_lay_22 rfl, ?_⟩
  refine List.forall_mem_cons.mpr ⟨zs_get (ci := 9) (j := 6) (N := 10) (C := RX9) (T := TX9) (index := 20) rfl (by decide) hin9 (List.mem_of_getElem? (i := 1) rfl) dX9_lay_23, ?_⟩
  refine List.forall_mem_cons.mpr ⟨zs_iconst dX9_lay_26 (by decide), ?_⟩
  refine List.forall_mem_cons.mpr ⟨zs_aload_n dX9_lay_27 rfl, ?_⟩
  refine List.forall_mem_cons.mpr ⟨zs_iload_n dX9_lay_28 rfl, ?_⟩
  refine List.forall_mem_cons.mpr ⟨zs_callV (ci := 9) (rm := zR_X9_mod) (n := 1) rfl zM_X9_mod gX9_lay_X9_mod rfl (by decide +kernel) ⟨by decide, by decide⟩ dX9_lay_29, ?_⟩
  refine List.forall_mem_cons.mpr ⟨zs_iast dX9_lay_32, ?_⟩
  refine List.forall_mem_cons.mpr ⟨zs_iconst dX9_lay_33 (by decide), ?_⟩
  refine List.forall_mem_cons.mpr ⟨zs_reti (ty := .boolean) rfl (fun x h => (znz x h).1) dX9_lay_34, ?_⟩
  exact fun _ h => absurd h List.not_mem_nil
theorem zM_X9_lay : zMeets zEM yX9_lay wsX9_lay zR_X9_lay m_X9_lay := zmeth_M zEMok (zlook_all (zcs_X9_lay rfl)) (by decide +kernel) rfl
theorem zr_X9_lay_0 (a1 a2 a3 : Option zAV) (st : List zAV) (s : zAS) (k : Nat × Nat) (o : Nat × Nat) : zev zk_X9_lay (0, [some (Sum.inr o), a1, a2, a3], st, s, k) = zev zk_X9_lay (1, [some (Sum.inr o), a1, a2, a3], Sum.inr o :: st, s, k) := zev_go rfl rfl
theorem zr_X9_lay_1 (ls : zLs) (st : List zAV) (s : zAS) (k : Nat × Nat) (o i : Nat) : zev zk_X9_lay (1, ls, Sum.inr (o, i) :: st, s, k) = zpush zk_X9_lay 4 ls st s k (zgv zEM 9 6 o i s.1) := zf_get rfl
theorem zr_X9_lay_4 (ls : zLs) (st : List zAV) (s : zAS) (k : Nat × Nat) : zev zk_X9_lay (4, ls, st, s, k) = zev zk_X9_lay (5, ls, Sum.inl (Value.int (0)) :: st, s, k) := zev_go rfl rfl
theorem zr_X9_lay_5 (a1 a2 a3 : Option zAV) (st : List zAV) (s : zAS) (k : Nat × Nat) (o : Nat × Nat) : zev zk_X9_lay (5, [some (Sum.inr o), a1, a2, a3], st, s, k) = zev zk_X9_lay (6, [some (Sum.inr o), a1, a2, a3], Sum.inr o :: st, s, k) := zev_go rfl rfl
theorem zr_X9_lay_6 (a0 a2 a3 : Option zAV) (st : List zAV) (s : zAS) (k : Nat × Nat) (x : Int32) : zev zk_X9_lay (6, [a0, some (Sum.inl (Value.int x)), a2, a3], st, s, k) = zev zk_X9_lay (7, [a0, some (Sum.inl (Value.int x)), a2, a3], Sum.inl (Value.int x) :: st, s, k) := zev_go rfl rfl
theorem zr_X9_lay_7 (ls : zLs) (st : List zAV) (s : zAS) (k : Nat × Nat) (r v0 : zAV) (h : zcok zEM 9 0 0 (zR_X9_lay).cells (zR_X9_lay).slots r st k) : zev zk_X9_lay (7, ls, v0 :: r :: st, s, k) = zret zk_X9_lay 10 ls st (k.1 + 0, k.2 + 0) (m_X9_mod [r, v0] s) := zf_callV (as := [v0]) 1 rfl rfl h
theorem zr_X9_lay_10 (ls : zLs) (st : List zAV) (s : zAS) (k : Nat × Nat) (o i : Nat) (j x : Int32) : zev zk_X9_lay (10, ls, Sum.inl (Value.int x) :: Sum.inl (Value.int j) :: Sum.inr (o, i) :: st, s, k) = zgo zk_X9_lay 11 ls st k (zast zEM o i j x s) := zf_iast rfl
theorem zr_X9_lay_11 (a1 a2 a3 : Option zAV) (st : List zAV) (s : zAS) (k : Nat × Nat) (o : Nat × Nat) : zev zk_X9_lay (11, [some (Sum.inr o), a1, a2, a3], st, s, k) = zev zk_X9_lay (12, [some (Sum.inr o), a1, a2, a3], Sum.inr o :: st, s, k) := zev_go rfl rfl
theorem zr_X9_lay_12 (ls : zLs) (st : List zAV) (s : zAS) (k : Nat × Nat) (o i : Nat) : zev zk_X9_lay (12, ls, Sum.inr (o, i) :: st, s, k) = zpush zk_X9_lay 15 ls st s k (zgv zEM 9 6 o i s.1) := zf_get rfl
theorem zr_X9_lay_15 (ls : zLs) (st : List zAV) (s : zAS) (k : Nat × Nat) : zev zk_X9_lay (15, ls, st, s, k) = zev zk_X9_lay (16, ls, Sum.inl (Value.int (1)) :: st, s, k) := zev_go rfl rfl
theorem zr_X9_lay_16 (a1 a2 a3 : Option zAV) (st : List zAV) (s : zAS) (k : Nat × Nat) (o : Nat × Nat) : zev zk_X9_lay (16, [some (Sum.inr o), a1, a2, a3], st, s, k) = zev zk_X9_lay (17, [some (Sum.inr o), a1, a2, a3], Sum.inr o :: st, s, k) := zev_go rfl rfl
theorem zr_X9_lay_17 (a0 a1 a3 : Option zAV) (st : List zAV) (s : zAS) (k : Nat × Nat) (x : Int32) : zev zk_X9_lay (17, [a0, a1, some (Sum.inl (Value.int x)), a3], st, s, k) = zev zk_X9_lay (18, [a0, a1, some (Sum.inl (Value.int x)), a3], Sum.inl (Value.int x) :: st, s, k) := zev_go rfl rfl
theorem zr_X9_lay_18 (ls : zLs) (st : List zAV) (s : zAS) (k : Nat × Nat) (r v0 : zAV) (h : zcok zEM 9 0 0 (zR_X9_lay).cells (zR_X9_lay).slots r st k) : zev zk_X9_lay (18, ls, v0 :: r :: st, s, k) = zret zk_X9_lay 21 ls st (k.1 + 0, k.2 + 0) (m_X9_mod [r, v0] s) := zf_callV (as := [v0]) 1 rfl rfl h
theorem zr_X9_lay_21 (ls : zLs) (st : List zAV) (s : zAS) (k : Nat × Nat) (o i : Nat) (j x : Int32) : zev zk_X9_lay (21, ls, Sum.inl (Value.int x) :: Sum.inl (Value.int j) :: Sum.inr (o, i) :: st, s, k) = zgo zk_X9_lay 22 ls st k (zast zEM o i j x s) := zf_iast rfl
theorem zr_X9_lay_22 (a1 a2 a3 : Option zAV) (st : List zAV) (s : zAS) (k : Nat × Nat) (o : Nat × Nat) : zev zk_X9_lay (22, [some (Sum.inr o), a1, a2, a3], st, s, k) = zev zk_X9_lay (23, [some (Sum.inr o), a1, a2, a3], Sum.inr o :: st, s, k) := zev_go rfl rfl
theorem zr_X9_lay_23 (ls : zLs) (st : List zAV) (s : zAS) (k : Nat × Nat) (o i : Nat) : zev zk_X9_lay (23, ls, Sum.inr (o, i) :: st, s, k) = zpush zk_X9_lay 26 ls st s k (zgv zEM 9 6 o i s.1) := zf_get rfl
theorem zr_X9_lay_26 (ls : zLs) (st : List zAV) (s : zAS) (k : Nat × Nat) : zev zk_X9_lay (26, ls, st, s, k) = zev zk_X9_lay (27, ls, Sum.inl (Value.int (2)) :: st, s, k) := zev_go rfl rfl
theorem zr_X9_lay_27 (a1 a2 a3 : Option zAV) (st : List zAV) (s : zAS) (k : Nat × Nat) (o : Nat × Nat) : zev zk_X9_lay (27, [some (Sum.inr o), a1, a2, a3], st, s, k) = zev zk_X9_lay (28, [some (Sum.inr o), a1, a2, a3], Sum.inr o :: st, s, k) := zev_go rfl rfl
theorem zr_X9_lay_28 (a0 a1 a2 : Option zAV) (st : List zAV) (s : zAS) (k : Nat × Nat) (x : Int32) : zev zk_X9_lay (28, [a0, a1, a2, some (Sum.inl (Value.int x))], st, s, k) = zev zk_X9_lay (29, [a0, a1, a2, some (Sum.inl (Value.int x))], Sum.inl (Value.int x) :: st, s, k) := zev_go rfl rfl
theorem zr_X9_lay_29 (ls : zLs) (st : List zAV) (s : zAS) (k : Nat × Nat) (r v0 : zAV) (h : zcok zEM 9 0 0 (zR_X9_lay).cells (zR_X9_lay).slots r st k) : zev zk_X9_lay (29, ls, v0 :: r :: st, s, k) = zret zk_X9_lay 32 ls st (k.1 + 0, k.2 + 0) (m_X9_mod [r, v0] s) := zf_callV (as := [v0]) 1 rfl rfl h
theorem zr_X9_lay_32 (ls : zLs) (st : List zAV) (s : zAS) (k : Nat × Nat) (o i : Nat) (j x : Int32) : zev zk_X9_lay (32, ls, Sum.inl (Value.int x) :: Sum.inl (Value.int j) :: Sum.inr (o, i) :: st, s, k) = zgo zk_X9_lay 33 ls st k (zast zEM o i j x s) := zf_iast rfl
theorem zr_X9_lay_33 (ls : zLs) (st : List zAV) (s : zAS) (k : Nat × Nat) : zev zk_X9_lay (33, ls, st, s, k) = zev zk_X9_lay (34, ls, Sum.inl (Value.int (1)) :: st, s, k) := zev_go rfl rfl
theorem zr_X9_lay_34 (ls : zLs) (s : zAS) (k : Nat × Nat) (x : Int32) (hx : x = 0 ∨ x = 1) : zev zk_X9_lay (34, ls, [Sum.inl (Value.int x)], s, k) = some (.inl (some (Sum.inl (Value.int x))), s) := zf_retz rfl hx
/-! X9_layLine: PrimePlaneModel.layLine(III)Z -/
abbrev zR_X9_layLine : Room := ({ frames := 3, cells := 0, slots := 0, locals := 66 } : Room)
noncomputable def zl_X9_layLine : List (Nat × zOp) := [(0, z_lda 0 1), (1, z_ldi 1 2), (2, z_callV zEM 9 m_X9_mod 1 0 0 (zR_X9_layLine).cells (zR_X9_layLine).slots 5), (5, z_if (fun x => decide (x = 0)) 16 8), (8, z_lda 0 9), (9, z_ldi 1 10), (10, z_callV zEM 9 m_X9_mod 1 0 0 (zR_X9_layLine).cells (zR_X9_layLine).slots 13), (13, z_goto 21), (16, z_lda 0 17), (17, z_ldi 2 18), (18, z_callV zEM 9 m_X9_mod 1 0 0 (zR_X9_layLine).cells (zR_X9_layLine).slots 21), (21, z_sti 4 23), (23, z_ldi 4 25), (25, z_if (fun x => decide (¬ x = 0)) 30 28), (28, z_ic (0) 29), (29, z_reti true), (30, z_lda 0 31), (31, z_ldi 4 33), (33, z_callV zEM 9 m_X9_opposite 1 0 0 (zR_X9_layLine).cells (zR_X9_layLine).slots 36), (36, z_sti 5 38), (38, z_lda 0 39), (39, z_lda 0 40), (40, z_ldi 1 41), (41, z_callV zEM 9 m_X9_mod 1 0 0 (zR_X9_layLine).cells (zR_X9_layLine).slots 44), (44, z_ldi 5 46), (46, z_bin (fun x y => x * y) 47), (47, z_lda 0 48), (48, z_ldi 2 49), (49, z_callV zEM 9 m_X9_mod 1 0 0 (zR_X9_layLine).cells (zR_X9_layLine).slots 52), (52, z_ldi 5 54), (54, z_bin (fun x y => x * y) 55), (55, z_lda 0 56), (56, z_ldi 3 57), (57, z_callV zEM 9 m_X9_mod 1 0 0 (zR_X9_layLine).cells (zR_X9_layLine).slots 60), (60, z_ldi 5 62), (62, z_bin (fun x y => x * y) 63), (63, z_callV zEM 9 m_X9_lay 3 0 0 (zR_X9_layLine).cells (zR_X9_layLine).slots 66), (66, z_reti true)]
noncomputable def zk_X9_layLine (pc : Nat) : Option zOp := zlook zl_X9_layLine pc
noncomputable def m_X9_layLine : List zAV → zAS → Option zOut := zmeth zk_X9_layLine 6
set_option maxRecDepth 100000 in
set_option maxHeartbeats 4000000 in
theorem zcs_X9_layLine {R : Room} (hR : R = zR_X9_layLine) : ∀ q ∈ zl_X9_layLine, zS zEM yX9_layLine.cls cX9_layLine 6 wsX9_layLine (some .boolean) R q.1 q.2 := by
  subst hR
  refine List.forall_mem_cons.mpr ⟨zs_aload_n dX9_layLine_0 rfl, ?_⟩
  refine List.forall_mem_cons.mpr ⟨zs_iload_n dX9_layLine_1 rfl, ?_⟩
  refine List.forall_mem_cons.mpr ⟨zs_callV (ci := 9) (rm := zR_X9_mod) (n := 1) rfl zM_X9_mod gX9_layLine_X9_mod rfl (by decide +kernel) ⟨by decide, by decide⟩ dX9_layLine_2, ?_⟩
  refine List.forall_mem_cons.mpr ⟨zs_ifeq dX9_layLine_5 (by decide), ?_⟩
  refine List.forall_mem_cons.mpr ⟨zs_aload_n dX9_layLine_8 rfl, ?_⟩
  refine List.forall_mem_cons.mpr ⟨zs_iload_n dX9_layLine_9 rfl, ?_⟩
  refine List.forall_mem_cons.mpr ⟨zs_callV (ci := 9) (rm := zR_X9_mod) (n := 1) rfl zM_X9_mod gX9_layLine_X9_mod rfl (by decide +kernel) ⟨by decide, by decide⟩ dX9_layLine_10, ?_⟩
  refine List.forall_mem_cons.mpr ⟨zs_goto dX9_layLine_13 (by decide), ?_⟩
  refine List.forall_mem_cons.mpr ⟨zs_aload_n dX9_layLine_16 rfl, ?_⟩
  refine List.forall_mem_cons.mpr ⟨zs_iload_n dX9_layLine_17 rfl, ?_⟩
  refine List.forall_mem_cons.mpr ⟨zs_callV (ci := 9) (rm := zR_X9_mod) (n := 1) rfl zM_X9_mod gX9_layLine_X9_mod rfl (by decide +kernel) ⟨by decide, by decide⟩ dX9_layLine_18, ?_⟩
  refine List.forall_mem_cons.mpr ⟨zs_istore dX9_layLine_21, ?_⟩
  refine List.forall_mem_cons.mpr ⟨zs_iload dX9_layLine_23, ?_⟩
  refine List.forall_mem_cons.mpr ⟨zs_ifne dX9_layLine_25 (by decide), ?_⟩
  refine List.forall_mem_cons.mpr ⟨zs_iconst dX9_layLine_28 (by decide), ?_⟩
  refine List.forall_mem_cons.mpr ⟨zs_reti (ty := .boolean) rfl (fun x h => (znz x h).1) dX9_layLine_29, ?_⟩
  refine List.forall_mem_cons.mpr ⟨zs_aload_n dX9_layLine_30 rfl, ?_⟩
  refine List.forall_mem_cons.mpr ⟨zs_iload dX9_layLine_31, ?_⟩
  refine List.forall_mem_cons.mpr ⟨zs_callV (ci := 9) (rm := zR_X9_opposite) (n := 1) rfl zM_X9_opposite gX9_layLine_X9_opposite rfl (by decide +kernel) ⟨by decide, by decide⟩ dX9_layLine_33, ?_⟩
  refine List.forall_mem_cons.mpr ⟨zs_istore dX9_layLine_36, ?_⟩
  refine List.forall_mem_cons.mpr ⟨zs_aload_n dX9_layLine_38 rfl, ?_⟩
  refine List.forall_mem_cons.mpr ⟨zs_aload_n dX9_layLine_39 rfl, ?_⟩
  refine List.forall_mem_cons.mpr ⟨zs_iload_n dX9_layLine_40 rfl, ?_⟩
  refine List.forall_mem_cons.mpr ⟨zs_callV (ci := 9) (rm := zR_X9_mod) (n := 1) rfl zM_X9_mod gX9_layLine_X9_mod rfl (by decide +kernel) ⟨by decide, by decide⟩ dX9_layLine_41, ?_⟩
  refine List.forall_mem_cons.mpr ⟨zs_iload dX9_layLine_44, ?_⟩
  refine List.forall_mem_cons.mpr ⟨zs_imul dX9_layLine_46, ?_⟩
  refine List.forall_mem_cons.mpr ⟨zs_aload_n dX9_layLine_47 rfl, ?_⟩
  refine List.forall_mem_cons.mpr ⟨zs_iload_n dX9_layLine_48 rfl, ?_⟩
  refine List.forall_mem_cons.mpr ⟨zs_callV (ci := 9) (rm := zR_X9_mod) (n := 1) rfl zM_X9_mod gX9_layLine_X9_mod rfl (by decide +kernel) ⟨by decide, by decide⟩ dX9_layLine_49, ?_⟩
  refine List.forall_mem_cons.mpr ⟨zs_iload dX9_layLine_52, ?_⟩
  refine List.forall_mem_cons.mpr ⟨zs_imul dX9_layLine_54, ?_⟩
  refine List.forall_mem_cons.mpr ⟨zs_aload_n dX9_layLine_55 rfl, ?_⟩
  refine List.forall_mem_cons.mpr ⟨zs_iload_n dX9_layLine_56 rfl, ?_⟩
  refine List.forall_mem_cons.mpr ⟨zs_callV (ci := 9) (rm := zR_X9_mod) (n := 1) rfl zM_X9_mod gX9_layLine_X9_mod rfl (by decide +kernel) ⟨by decide, by decide⟩ dX9_layLine_57, ?_⟩
  refine List.forall_mem_cons.mpr ⟨zs_iload dX9_layLine_60, ?_⟩
  refine List.forall_mem_cons.mpr ⟨zs_imul dX9_layLine_62, ?_⟩
  refine List.forall_mem_cons.mpr ⟨zs_callV (ci := 9) (rm := zR_X9_lay) (n := 3) rfl zM_X9_lay gX9_layLine_X9_lay rfl (by decide +kernel) ⟨by decide, by decide⟩ dX9_layLine_63, ?_⟩
  refine List.forall_mem_cons.mpr ⟨zs_reti (ty := .boolean) rfl (fun x h => (znz x h).1) dX9_layLine_66, ?_⟩
  exact fun _ h => absurd h List.not_mem_nil
theorem zM_X9_layLine : zMeets zEM yX9_layLine wsX9_layLine zR_X9_layLine m_X9_layLine := zmeth_M zEMok (zlook_all (zcs_X9_layLine rfl)) (by decide +kernel) rfl
theorem zr_X9_layLine_0 (a1 a2 a3 a4 a5 : Option zAV) (st : List zAV) (s : zAS) (k : Nat × Nat) (o : Nat × Nat) : zev zk_X9_layLine (0, [some (Sum.inr o), a1, a2, a3, a4, a5], st, s, k) = zev zk_X9_layLine (1, [some (Sum.inr o), a1, a2, a3, a4, a5], Sum.inr o :: st, s, k) := zev_go rfl rfl
theorem zr_X9_layLine_1 (a0 a2 a3 a4 a5 : Option zAV) (st : List zAV) (s : zAS) (k : Nat × Nat) (x : Int32) : zev zk_X9_layLine (1, [a0, some (Sum.inl (Value.int x)), a2, a3, a4, a5], st, s, k) = zev zk_X9_layLine (2, [a0, some (Sum.inl (Value.int x)), a2, a3, a4, a5], Sum.inl (Value.int x) :: st, s, k) := zev_go rfl rfl
theorem zr_X9_layLine_2 (ls : zLs) (st : List zAV) (s : zAS) (k : Nat × Nat) (r v0 : zAV) (h : zcok zEM 9 0 0 (zR_X9_layLine).cells (zR_X9_layLine).slots r st k) : zev zk_X9_layLine (2, ls, v0 :: r :: st, s, k) = zret zk_X9_layLine 5 ls st (k.1 + 0, k.2 + 0) (m_X9_mod [r, v0] s) := zf_callV (as := [v0]) 1 rfl rfl h
theorem zr_X9_layLine_5 (ls : zLs) (st : List zAV) (s : zAS) (k : Nat × Nat) (x : Int32) : zev zk_X9_layLine (5, ls, Sum.inl (Value.int x) :: st, s, k) = if decide (x = 0) = true then zev zk_X9_layLine (16, ls, st, s, k) else zev zk_X9_layLine (8, ls, st, s, k) := zf_if (f := fun x => decide (x = 0)) rfl
theorem zr_X9_layLine_8 (a1 a2 a3 a4 a5 : Option zAV) (st : List zAV) (s : zAS) (k : Nat × Nat) (o : Nat × Nat) : zev zk_X9_layLine (8, [some (Sum.inr o), a1, a2, a3, a4, a5], st, s, k) = zev zk_X9_layLine (9, [some (Sum.inr o), a1, a2, a3, a4, a5], Sum.inr o :: st, s, k) := zev_go rfl rfl
theorem zr_X9_layLine_9 (a0 a2 a3 a4 a5 : Option zAV) (st : List zAV) (s : zAS) (k : Nat × Nat) (x : Int32) : zev zk_X9_layLine (9, [a0, some (Sum.inl (Value.int x)), a2, a3, a4, a5], st, s, k) = zev zk_X9_layLine (10, [a0, some (Sum.inl (Value.int x)), a2, a3, a4, a5], Sum.inl (Value.int x) :: st, s, k) := zev_go rfl rfl
theorem zr_X9_layLine_10 (ls : zLs) (st : List zAV) (s : zAS) (k : Nat × Nat) (r v0 : zAV) (h : zcok zEM 9 0 0 (zR_X9_layLine).cells (zR_X9_layLine).slots r st k) : zev zk_X9_layLine (10, ls, v0 :: r :: st, s, k) = zret zk_X9_layLine 13 ls st (k.1 + 0, k.2 + 0) (m_X9_mod [r, v0] s) := zf_callV (as := [v0]) 1 rfl rfl h
theorem zr_X9_layLine_13 (ls : zLs) (st : List zAV) (s : zAS) (k : Nat × Nat) : zev zk_X9_layLine (13, ls, st, s, k) = zev zk_X9_layLine (21, ls, st, s, k) := zev_go rfl rfl
theorem zr_X9_layLine_16 (a1 a2 a3 a4 a5 : Option zAV) (st : List zAV) (s : zAS) (k : Nat × Nat) (o : Nat × Nat) : zev zk_X9_layLine (16, [some (Sum.inr o), a1, a2, a3, a4, a5], st, s, k) = zev zk_X9_layLine (17, [some (Sum.inr o), a1, a2, a3, a4, a5], Sum.inr o :: st, s, k) := zev_go rfl rfl
theorem zr_X9_layLine_17 (a0 a1 a3 a4 a5 : Option zAV) (st : List zAV) (s : zAS) (k : Nat × Nat) (x : Int32) : zev zk_X9_layLine (17, [a0, a1, some (Sum.inl (Value.int x)), a3, a4, a5], st, s, k) = zev zk_X9_layLine (18, [a0, a1, some (Sum.inl (Value.int x)), a3, a4, a5], Sum.inl (Value.int x) :: st, s, k) := zev_go rfl rfl
theorem zr_X9_layLine_18 (ls : zLs) (st : List zAV) (s : zAS) (k : Nat × Nat) (r v0 : zAV) (h : zcok zEM 9 0 0 (zR_X9_layLine).cells (zR_X9_layLine).slots r st k) : zev zk_X9_layLine (18, ls, v0 :: r :: st, s, k) = zret zk_X9_layLine 21 ls st (k.1 + 0, k.2 + 0) (m_X9_mod [r, v0] s) := zf_callV (as := [v0]) 1 rfl rfl h
theorem zr_X9_layLine_21 (a0 a1 a2 a3 a4 a5 : Option zAV) (st : List zAV) (s : zAS) (k : Nat × Nat) (x : Int32) : zev zk_X9_layLine (21, [a0, a1, a2, a3, a4, a5], Sum.inl (Value.int x) :: st, s, k) = zev zk_X9_layLine (23, [a0, a1, a2, zk1 a3, some (Sum.inl (Value.int x)), a5], st, s, k) := zev_go rfl rfl
theorem zr_X9_layLine_23 (a0 a1 a2 a3 a5 : Option zAV) (st : List zAV) (s : zAS) (k : Nat × Nat) (x : Int32) : zev zk_X9_layLine (23, [a0, a1, a2, a3, some (Sum.inl (Value.int x)), a5], st, s, k) = zev zk_X9_layLine (25, [a0, a1, a2, a3, some (Sum.inl (Value.int x)), a5], Sum.inl (Value.int x) :: st, s, k) := zev_go rfl rfl
theorem zr_X9_layLine_25 (ls : zLs) (st : List zAV) (s : zAS) (k : Nat × Nat) (x : Int32) : zev zk_X9_layLine (25, ls, Sum.inl (Value.int x) :: st, s, k) = if decide (¬ x = 0) = true then zev zk_X9_layLine (30, ls, st, s, k) else zev zk_X9_layLine (28, ls, st, s, k) := zf_if (f := fun x => decide (¬ x = 0)) rfl
theorem zr_X9_layLine_28 (ls : zLs) (st : List zAV) (s : zAS) (k : Nat × Nat) : zev zk_X9_layLine (28, ls, st, s, k) = zev zk_X9_layLine (29, ls, Sum.inl (Value.int (0)) :: st, s, k) := zev_go rfl rfl
theorem zr_X9_layLine_29 (ls : zLs) (s : zAS) (k : Nat × Nat) (x : Int32) (hx : x = 0 ∨ x = 1) : zev zk_X9_layLine (29, ls, [Sum.inl (Value.int x)], s, k) = some (.inl (some (Sum.inl (Value.int x))), s) := zf_retz rfl hx
theorem zr_X9_layLine_30 (a1 a2 a3 a4 a5 : Option zAV) (st : List zAV) (s : zAS) (k : Nat × Nat) (o : Nat × Nat) : zev zk_X9_layLine (30, [some (Sum.inr o), a1, a2, a3, a4, a5], st, s, k) = zev zk_X9_layLine (31, [some (Sum.inr o), a1, a2, a3, a4, a5], Sum.inr o :: st, s, k) := zev_go rfl rfl
theorem zr_X9_layLine_31 (a0 a1 a2 a3 a5 : Option zAV) (st : List zAV) (s : zAS) (k : Nat × Nat) (x : Int32) : zev zk_X9_layLine (31, [a0, a1, a2, a3, some (Sum.inl (Value.int x)), a5], st, s, k) = zev zk_X9_layLine (33, [a0, a1, a2, a3, some (Sum.inl (Value.int x)), a5], Sum.inl (Value.int x) :: st, s, k) := zev_go rfl rfl
theorem zr_X9_layLine_33 (ls : zLs) (st : List zAV) (s : zAS) (k : Nat × Nat) (r v0 : zAV) (h : zcok zEM 9 0 0 (zR_X9_layLine).cells (zR_X9_layLine).slots r st k) : zev zk_X9_layLine (33, ls, v0 :: r :: st, s, k) = zret zk_X9_layLine 36 ls st (k.1 + 0, k.2 + 0) (m_X9_opposite [r, v0] s) := zf_callV (as := [v0]) 1 rfl rfl h
theorem zr_X9_layLine_36 (a0 a1 a2 a3 a4 a5 : Option zAV) (st : List zAV) (s : zAS) (k : Nat × Nat) (x : Int32) : zev zk_X9_layLine (36, [a0, a1, a2, a3, a4, a5], Sum.inl (Value.int x) :: st, s, k) = zev zk_X9_layLine (38, [a0, a1, a2, a3, zk1 a4, some (Sum.inl (Value.int x))], st, s, k) := zev_go rfl rfl
theorem zr_X9_layLine_38 (a1 a2 a3 a4 a5 : Option zAV) (st : List zAV) (s : zAS) (k : Nat × Nat) (o : Nat × Nat) : zev zk_X9_layLine (38, [some (Sum.inr o), a1, a2, a3, a4, a5], st, s, k) = zev zk_X9_layLine (39, [some (Sum.inr o), a1, a2, a3, a4, a5], Sum.inr o :: st, s, k) := zev_go rfl rfl
theorem zr_X9_layLine_39 (a1 a2 a3 a4 a5 : Option zAV) (st : List zAV) (s : zAS) (k : Nat × Nat) (o : Nat × Nat) : zev zk_X9_layLine (39, [some (Sum.inr o), a1, a2, a3, a4, a5], st, s, k) = zev zk_X9_layLine (40, [some (Sum.inr o), a1, a2, a3, a4, a5], Sum.inr o :: st, s, k) := zev_go rfl rfl
theorem zr_X9_layLine_40 (a0 a2 a3 a4 a5 : Option zAV) (st : List zAV) (s : zAS) (k : Nat × Nat) (x : Int32) : zev zk_X9_layLine (40, [a0, some (Sum.inl (Value.int x)), a2, a3, a4, a5], st, s, k) = zev zk_X9_layLine (41, [a0, some (Sum.inl (Value.int x)), a2, a3, a4, a5], Sum.inl (Value.int x) :: st, s, k) := zev_go rfl rfl
theorem zr_X9_layLine_41 (ls : zLs) (st : List zAV) (s : zAS) (k : Nat × Nat) (r v0 : zAV) (h : zcok zEM 9 0 0 (zR_X9_layLine).cells (zR_X9_layLine).slots r st k) : zev zk_X9_layLine (41, ls, v0 :: r :: st, s, k) = zret zk_X9_layLine 44 ls st (k.1 + 0, k.2 + 0) (m_X9_mod [r, v0] s) := zf_callV (as := [v0]) 1 rfl rfl h
theorem zr_X9_layLine_44 (a0 a1 a2 a3 a4 : Option zAV) (st : List zAV) (s : zAS) (k : Nat × Nat) (x : Int32) : zev zk_X9_layLine (44, [a0, a1, a2, a3, a4, some (Sum.inl (Value.int x))], st, s, k) = zev zk_X9_layLine (46, [a0, a1, a2, a3, a4, some (Sum.inl (Value.int x))], Sum.inl (Value.int x) :: st, s, k) := zev_go rfl rfl
theorem zr_X9_layLine_46 (ls : zLs) (st : List zAV) (s : zAS) (k : Nat × Nat) (x y : Int32) : zev zk_X9_layLine (46, ls, Sum.inl (Value.int y) :: Sum.inl (Value.int x) :: st, s, k) = zev zk_X9_layLine (47, ls, Sum.inl (Value.int (x * y)) :: st, s, k) := zev_go rfl rfl
theorem zr_X9_layLine_47 (a1 a2 a3 a4 a5 : Option zAV) (st : List zAV) (s : zAS) (k : Nat × Nat) (o : Nat × Nat) : zev zk_X9_layLine (47, [some (Sum.inr o), a1, a2, a3, a4, a5], st, s, k) = zev zk_X9_layLine (48, [some (Sum.inr o), a1, a2, a3, a4, a5], Sum.inr o :: st, s, k) := zev_go rfl rfl
theorem zr_X9_layLine_48 (a0 a1 a3 a4 a5 : Option zAV) (st : List zAV) (s : zAS) (k : Nat × Nat) (x : Int32) : zev zk_X9_layLine (48, [a0, a1, some (Sum.inl (Value.int x)), a3, a4, a5], st, s, k) = zev zk_X9_layLine (49, [a0, a1, some (Sum.inl (Value.int x)), a3, a4, a5], Sum.inl (Value.int x) :: st, s, k) := zev_go rfl rfl
theorem zr_X9_layLine_49 (ls : zLs) (st : List zAV) (s : zAS) (k : Nat × Nat) (r v0 : zAV) (h : zcok zEM 9 0 0 (zR_X9_layLine).cells (zR_X9_layLine).slots r st k) : zev zk_X9_layLine (49, ls, v0 :: r :: st, s, k) = zret zk_X9_layLine 52 ls st (k.1 + 0, k.2 + 0) (m_X9_mod [r, v0] s) := zf_callV (as := [v0]) 1 rfl rfl h
theorem zr_X9_layLine_52 (a0 a1 a2 a3 a4 : Option zAV) (st : List zAV) (s : zAS) (k : Nat × Nat) (x : Int32) : zev zk_X9_layLine (52, [a0, a1, a2, a3, a4, some (Sum.inl (Value.int x))], st, s, k) = zev zk_X9_layLine (54, [a0, a1, a2, a3, a4, some (Sum.inl (Value.int x))], Sum.inl (Value.int x) :: st, s, k) := zev_go rfl rfl
theorem zr_X9_layLine_54 (ls : zLs) (st : List zAV) (s : zAS) (k : Nat × Nat) (x y : Int32) : zev zk_X9_layLine (54, ls, Sum.inl (Value.int y) :: Sum.inl (Value.int x) :: st, s, k) = zev zk_X9_layLine (55, ls, Sum.inl (Value.int (x * y)) :: st, s, k) := zev_go rfl rfl
theorem zr_X9_layLine_55 (a1 a2 a3 a4 a5 : Option zAV) (st : List zAV) (s : zAS) (k : Nat × Nat) (o : Nat × Nat) : zev zk_X9_layLine (55, [some (Sum.inr o), a1, a2, a3, a4, a5], st, s, k) = zev zk_X9_layLine (56, [some (Sum.inr o), a1, a2, a3, a4, a5], Sum.inr o :: st, s, k) := zev_go rfl rfl
theorem zr_X9_layLine_56 (a0 a1 a2 a4 a5 : Option zAV) (st : List zAV) (s : zAS) (k : Nat × Nat) (x : Int32) : zev zk_X9_layLine (56, [a0, a1, a2, some (Sum.inl (Value.int x)), a4, a5], st, s, k) = zev zk_X9_layLine (57, [a0, a1, a2, some (Sum.inl (Value.int x)), a4, a5], Sum.inl (Value.int x) :: st, s, k) := zev_go rfl rfl
theorem zr_X9_layLine_57 (ls : zLs) (st : List zAV) (s : zAS) (k : Nat × Nat) (r v0 : zAV) (h : zcok zEM 9 0 0 (zR_X9_layLine).cells (zR_X9_layLine).slots r st k) : zev zk_X9_layLine (57, ls, v0 :: r :: st, s, k) = zret zk_X9_layLine 60 ls st (k.1 + 0, k.2 + 0) (m_X9_mod [r, v0] s) := zf_callV (as := [v0]) 1 rfl rfl h
theorem zr_X9_layLine_60 (a0 a1 a2 a3 a4 : Option zAV) (st : List zAV) (s : zAS) (k : Nat × Nat) (x : Int32) : zev zk_X9_layLine (60, [a0, a1, a2, a3, a4, some (Sum.inl (Value.int x))], st, s, k) = zev zk_X9_layLine (62, [a0, a1, a2, a3, a4, some (Sum.inl (Value.int x))], Sum.inl (Value.int x) :: st, s, k) := zev_go rfl rfl
theorem zr_X9_layLine_62 (ls : zLs) (st : List zAV) (s : zAS) (k : Nat × Nat) (x y : Int32) : zev zk_X9_layLine (62, ls, Sum.inl (Value.int y) :: Sum.inl (Value.int x) :: st, s, k) = zev zk_X9_layLine (63, ls, Sum.inl (Value.int (x * y)) :: st, s, k) := zev_go rfl rfl
theorem zr_X9_layLine_63 (ls : zLs) (st : List zAV) (s : zAS) (k : Nat × Nat) (r v0 v1 v2 : zAV) (h : zcok zEM 9 0 0 (zR_X9_layLine).cells (zR_X9_layLine).slots r st k) : zev zk_X9_layLine (63, ls, v2 :: v1 :: v0 :: r :: st, s, k) = zret zk_X9_layLine 66 ls st (k.1 + 0, k.2 + 0) (m_X9_lay [r, v0, v1, v2] s) := zf_callV (as := [v2, v1, v0]) 3 rfl rfl h
theorem zr_X9_layLine_66 (ls : zLs) (s : zAS) (k : Nat × Nat) (x : Int32) (hx : x = 0 ∨ x = 1) : zev zk_X9_layLine (66, ls, [Sum.inl (Value.int x)], s, k) = some (.inl (some (Sum.inl (Value.int x))), s) := zf_retz rfl hx
/-! X9_intersect: PrimePlaneModel.intersect(IIIIII)Z -/
abbrev zR_X9_intersect : Room := ({ frames := 3, cells := 0, slots := 0, locals := 66 } : Room)
noncomputable def zl_X9_intersect : List (Nat × zOp) := [(0, z_lda 0 1), (1, z_ldi 1 2), (2, z_ldi 5 4), (4, z_bin (fun x y => x * y) 5), (5, z_ldi 4 7), (7, z_ldi 2 8), (8, z_bin (fun x y => x * y) 9), (9, z_bin (fun x y => x - y) 10), (10, z_callV zEM 9 m_X9_mod 1 0 0 (zR_X9_intersect).cells (zR_X9_intersect).slots 13), (13, z_sti 7 15), (15, z_ldi 7 17), (17, z_if (fun x => decide (¬ x = 0)) 22 20), (20, z_ic (0) 21), (21, z_reti true), (22, z_lda 0 23), (23, z_ldi 7 25), (25, z_callV zEM 9 m_X9_opposite 1 0 0 (zR_X9_intersect).cells (zR_X9_intersect).slots 28), (28, z_sti 8 30), (30, z_lda 0 31), (31, z_lda 0 32), (32, z_ldi 2 33), (33, z_ldi 6 35), (35, z_bin (fun x y => x * y) 36), (36, z_ldi 5 38), (38, z_ldi 3 39), (39, z_bin (fun x y => x * y) 40), (40, z_bin (fun x y => x - y) 41), (41, z_callV zEM 9 m_X9_mod 1 0 0 (zR_X9_intersect).cells (zR_X9_intersect).slots 44), (44, z_ldi 8 46), (46, z_bin (fun x y => x * y) 47), (47, z_lda 0 48), (48, z_ldi 3 49), (49, z_ldi 4 51), (51, z_bin (fun x y => x * y) 52), (52, z_ldi 6 54), (54, z_ldi 1 55), (55, z_bin (fun x y => x * y) 56), (56, z_bin (fun x y => x - y) 57), (57, z_callV zEM 9 m_X9_mod 1 0 0 (zR_X9_intersect).cells (zR_X9_intersect).slots 60), (60, z_ldi 8 62), (62, z_bin (fun x y => x * y) 63), (63, z_ic (0) 64), (64, z_callV zEM 9 m_X9_lay 3 0 0 (zR_X9_intersect).cells (zR_X9_intersect).slots 67), (67, z_reti true)]
noncomputable def zk_X9_intersect (pc : Nat) : Option zOp := zlook zl_X9_intersect pc
noncomputable def m_X9_intersect : List zAV → zAS → Option zOut := zmeth zk_X9_intersect 9
set_option maxRecDepth 100000 in
set_option maxHeartbeats 4000000 in
theorem zcs_X9_intersect {R : Room} (hR : R = zR_X9_intersect) : ∀ q ∈ zl_X9_intersect, zS zEM yX9_intersect.cls cX9_intersect 9 wsX9_intersect (some .boolean) R q.1 q.2 := by
  subst hR
  refine List.forall_mem_cons.mpr ⟨zs_aload_n dX9_intersect_0 rfl, ?_⟩
  refine List.forall_mem_cons.mpr ⟨zs_iload_n dX9_intersect_1 rfl, ?_⟩
  refine List.forall_mem_cons.mpr ⟨zs_iload dX9_intersect_2, ?_⟩
  refine List.forall_mem_cons.mpr ⟨zs_imul dX9_intersect_4, ?_⟩
  refine List.forall_mem_cons.mpr ⟨zs_iload dX9_intersect_5, ?_⟩
  refine List.forall_mem_cons.mpr ⟨zs_iload_n dX9_intersect_7 rfl, ?_⟩
  refine List.forall_mem_cons.mpr ⟨zs_imul dX9_intersect_8, ?_⟩
  refine List.forall_mem_cons.mpr ⟨zs_isub dX9_intersect_9, ?_⟩
  refine List.forall_mem_cons.mpr ⟨zs_callV (ci := 9) (rm := zR_X9_mod) (n := 1) rfl zM_X9_mod gX9_intersect_X9_mod rfl (by decide +kernel) ⟨by decide, by decide⟩ dX9_intersect_10, ?_⟩
  refine List.forall_mem_cons.mpr ⟨zs_istore dX9_intersect_13, ?_⟩
  refine List.forall_mem_cons.mpr ⟨zs_iload dX9_intersect_15, ?_⟩
  refine List.forall_mem_cons.mpr ⟨zs_ifne dX9_intersect_17 (by decide), ?_⟩
  refine List.forall_mem_cons.mpr ⟨zs_iconst dX9_intersect_20 (by decide), ?_⟩
  refine List.forall_mem_cons.mpr ⟨zs_reti (ty := .boolean) rfl (fun x h => (znz x h).1) dX9_intersect_21, ?_⟩
  refine List.forall_mem_cons.mpr ⟨zs_aload_n dX9_intersect_22 rfl, ?_⟩
  refine List.forall_mem_cons.mpr ⟨zs_iload dX9_intersect_23, ?_⟩
  refine List.forall_mem_cons.mpr ⟨zs_callV (ci := 9) (rm := zR_X9_opposite) (n := 1) rfl zM_X9_opposite gX9_intersect_X9_opposite rfl (by decide +kernel) ⟨by decide, by decide⟩ dX9_intersect_25, ?_⟩
  refine List.forall_mem_cons.mpr ⟨zs_istore dX9_intersect_28, ?_⟩
  refine List.forall_mem_cons.mpr ⟨zs_aload_n dX9_intersect_30 rfl, ?_⟩
  refine List.forall_mem_cons.mpr ⟨zs_aload_n dX9_intersect_31 rfl, ?_⟩
  refine List.forall_mem_cons.mpr ⟨zs_iload_n dX9_intersect_32 rfl, ?_⟩
  refine List.forall_mem_cons.mpr ⟨zs_iload dX9_intersect_33, ?_⟩
  refine List.forall_mem_cons.mpr ⟨zs_imul dX9_intersect_35, ?_⟩
  refine List.forall_mem_cons.mpr ⟨zs_iload dX9_intersect_36, ?_⟩
  refine List.forall_mem_cons.mpr ⟨zs_iload_n dX9_intersect_38 rfl, ?_⟩
  refine List.forall_mem_cons.mpr ⟨zs_imul dX9_intersect_39, ?_⟩
  refine List.forall_mem_cons.mpr ⟨zs_isub dX9_intersect_40, ?_⟩
  refine List.forall_mem_cons.mpr ⟨zs_callV (ci := 9) (rm := zR_X9_mod) (n := 1) rfl zM_X9_mod gX9_intersect_X9_mod rfl (by decide +kernel) ⟨by decide, by decide⟩ dX9_intersect_41, ?_⟩
  refine List.forall_mem_cons.mpr ⟨zs_iload dX9_intersect_44, ?_⟩
  refine List.forall_mem_cons.mpr ⟨zs_imul dX9_intersect_46, ?_⟩
  refine List.forall_mem_cons.mpr ⟨zs_aload_n dX9_intersect_47 rfl, ?_⟩
  refine List.forall_mem_cons.mpr ⟨zs_iload_n dX9_intersect_48 rfl, ?_⟩
  refine List.forall_mem_cons.mpr ⟨zs_iload dX9_intersect_49, ?_⟩
  refine List.forall_mem_cons.mpr ⟨zs_imul dX9_intersect_51, ?_⟩
  refine List.forall_mem_cons.mpr ⟨zs_iload dX9_intersect_52, ?_⟩
  refine List.forall_mem_cons.mpr ⟨zs_iload_n dX9_intersect_54 rfl, ?_⟩
  refine List.forall_mem_cons.mpr ⟨zs_imul dX9_intersect_55, ?_⟩
  refine List.forall_mem_cons.mpr ⟨zs_isub dX9_intersect_56, ?_⟩
  refine List.forall_mem_cons.mpr ⟨zs_callV (ci := 9) (rm := zR_X9_mod) (n := 1) rfl zM_X9_mod gX9_intersect_X9_mod rfl (by decide +kernel) ⟨by decide, by decide⟩ dX9_intersect_57, ?_⟩
  refine List.forall_mem_cons.mpr ⟨zs_iload dX9_intersect_60, ?_⟩
  refine List.forall_mem_cons.mpr ⟨zs_imul dX9_intersect_62, ?_⟩
  refine List.forall_mem_cons.mpr ⟨zs_iconst dX9_intersect_63 (by decide), ?_⟩
  refine List.forall_mem_cons.mpr ⟨zs_callV (ci := 9) (rm := zR_X9_lay) (n := 3) rfl zM_X9_lay gX9_intersect_X9_lay rfl (by decide +kernel) ⟨by decide, by decide⟩ dX9_intersect_64, ?_⟩
  refine List.forall_mem_cons.mpr ⟨zs_reti (ty := .boolean) rfl (fun x h => (znz x h).1) dX9_intersect_67, ?_⟩
  exact fun _ h => absurd h List.not_mem_nil
theorem zM_X9_intersect : zMeets zEM yX9_intersect wsX9_intersect zR_X9_intersect m_X9_intersect := zmeth_M zEMok (zlook_all (zcs_X9_intersect rfl)) (by decide +kernel) rfl
theorem zr_X9_intersect_0 (a1 a2 a3 a4 a5 a6 a7 a8 : Option zAV) (st : List zAV) (s : zAS) (k : Nat × Nat) (o : Nat × Nat) : zev zk_X9_intersect (0, [some (Sum.inr o), a1, a2, a3, a4, a5, a6, a7, a8], st, s, k) = zev zk_X9_intersect (1, [some (Sum.inr o), a1, a2, a3, a4, a5, a6, a7, a8], Sum.inr o :: st, s, k) := zev_go rfl rfl
theorem zr_X9_intersect_1 (a0 a2 a3 a4 a5 a6 a7 a8 : Option zAV) (st : List zAV) (s : zAS) (k : Nat × Nat) (x : Int32) : zev zk_X9_intersect (1, [a0, some (Sum.inl (Value.int x)), a2, a3, a4, a5, a6, a7, a8], st, s, k) = zev zk_X9_intersect (2, [a0, some (Sum.inl (Value.int x)), a2, a3, a4, a5, a6, a7, a8], Sum.inl (Value.int x) :: st, s, k) := zev_go rfl rfl
theorem zr_X9_intersect_2 (a0 a1 a2 a3 a4 a6 a7 a8 : Option zAV) (st : List zAV) (s : zAS) (k : Nat × Nat) (x : Int32) : zev zk_X9_intersect (2, [a0, a1, a2, a3, a4, some (Sum.inl (Value.int x)), a6, a7, a8], st, s, k) = zev zk_X9_intersect (4, [a0, a1, a2, a3, a4, some (Sum.inl (Value.int x)), a6, a7, a8], Sum.inl (Value.int x) :: st, s, k) := zev_go rfl rfl
theorem zr_X9_intersect_4 (ls : zLs) (st : List zAV) (s : zAS) (k : Nat × Nat) (x y : Int32) : zev zk_X9_intersect (4, ls, Sum.inl (Value.int y) :: Sum.inl (Value.int x) :: st, s, k) = zev zk_X9_intersect (5, ls, Sum.inl (Value.int (x * y)) :: st, s, k) := zev_go rfl rfl
theorem zr_X9_intersect_5 (a0 a1 a2 a3 a5 a6 a7 a8 : Option zAV) (st : List zAV) (s : zAS) (k : Nat × Nat) (x : Int32) : zev zk_X9_intersect (5, [a0, a1, a2, a3, some (Sum.inl (Value.int x)), a5, a6, a7, a8], st, s, k) = zev zk_X9_intersect (7, [a0, a1, a2, a3, some (Sum.inl (Value.int x)), a5, a6, a7, a8], Sum.inl (Value.int x) :: st, s, k) := zev_go rfl rfl
theorem zr_X9_intersect_7 (a0 a1 a3 a4 a5 a6 a7 a8 : Option zAV) (st : List zAV) (s : zAS) (k : Nat × Nat) (x : Int32) : zev zk_X9_intersect (7, [a0, a1, some (Sum.inl (Value.int x)), a3, a4, a5, a6, a7, a8], st, s, k) = zev zk_X9_intersect (8, [a0, a1, some (Sum.inl (Value.int x)), a3, a4, a5, a6, a7, a8], Sum.inl (Value.int x) :: st, s, k) := zev_go rfl rfl
theorem zr_X9_intersect_8 (ls : zLs) (st : List zAV) (s : zAS) (k : Nat × Nat) (x y : Int32) : zev zk_X9_intersect (8, ls, Sum.inl (Value.int y) :: Sum.inl (Value.int x) :: st, s, k) = zev zk_X9_intersect (9, ls, Sum.inl (Value.int (x * y)) :: st, s, k) := zev_go rfl rfl
theorem zr_X9_intersect_9 (ls : zLs) (st : List zAV) (s : zAS) (k : Nat × Nat) (x y : Int32) : zev zk_X9_intersect (9, ls, Sum.inl (Value.int y) :: Sum.inl (Value.int x) :: st, s, k) = zev zk_X9_intersect (10, ls, Sum.inl (Value.int (x - y)) :: st, s, k) := zev_go rfl rfl
theorem zr_X9_intersect_10 (ls : zLs) (st : List zAV) (s : zAS) (k : Nat × Nat) (r v0 : zAV) (h : zcok zEM 9 0 0 (zR_X9_intersect).cells (zR_X9_intersect).slots r st k) : zev zk_X9_intersect (10, ls, v0 :: r :: st, s, k) = zret zk_X9_intersect 13 ls st (k.1 + 0, k.2 + 0) (m_X9_mod [r, v0] s) := zf_callV (as := [v0]) 1 rfl rfl h
theorem zr_X9_intersect_13 (a0 a1 a2 a3 a4 a5 a6 a7 a8 : Option zAV) (st : List zAV) (s : zAS) (k : Nat × Nat) (x : Int32) : zev zk_X9_intersect (13, [a0, a1, a2, a3, a4, a5, a6, a7, a8], Sum.inl (Value.int x) :: st, s, k) = zev zk_X9_intersect (15, [a0, a1, a2, a3, a4, a5, zk1 a6, some (Sum.inl (Value.int x)), a8], st, s, k) := zev_go rfl rfl
theorem zr_X9_intersect_15 (a0 a1 a2 a3 a4 a5 a6 a8 : Option zAV) (st : List zAV) (s : zAS) (k : Nat × Nat) (x : Int32) : zev zk_X9_intersect (15, [a0, a1, a2, a3, a4, a5, a6, some (Sum.inl (Value.int x)), a8], st, s, k) = zev zk_X9_intersect (17, [a0, a1, a2, a3, a4, a5, a6, some (Sum.inl (Value.int x)), a8], Sum.inl (Value.int x) :: st, s, k) := zev_go rfl rfl
theorem zr_X9_intersect_17 (ls : zLs) (st : List zAV) (s : zAS) (k : Nat × Nat) (x : Int32) : zev zk_X9_intersect (17, ls, Sum.inl (Value.int x) :: st, s, k) = if decide (¬ x = 0) = true then zev zk_X9_intersect (22, ls, st, s, k) else zev zk_X9_intersect (20, ls, st, s, k) := zf_if (f := fun x => decide (¬ x = 0)) rfl
theorem zr_X9_intersect_20 (ls : zLs) (st : List zAV) (s : zAS) (k : Nat × Nat) : zev zk_X9_intersect (20, ls, st, s, k) = zev zk_X9_intersect (21, ls, Sum.inl (Value.int (0)) :: st, s, k) := zev_go rfl rfl
theorem zr_X9_intersect_21 (ls : zLs) (s : zAS) (k : Nat × Nat) (x : Int32) (hx : x = 0 ∨ x = 1) : zev zk_X9_intersect (21, ls, [Sum.inl (Value.int x)], s, k) = some (.inl (some (Sum.inl (Value.int x))), s) := zf_retz rfl hx
theorem zr_X9_intersect_22 (a1 a2 a3 a4 a5 a6 a7 a8 : Option zAV) (st : List zAV) (s : zAS) (k : Nat × Nat) (o : Nat × Nat) : zev zk_X9_intersect (22, [some (Sum.inr o), a1, a2, a3, a4, a5, a6, a7, a8], st, s, k) = zev zk_X9_intersect (23, [some (Sum.inr o), a1, a2, a3, a4, a5, a6, a7, a8], Sum.inr o :: st, s, k) := zev_go rfl rfl
theorem zr_X9_intersect_23 (a0 a1 a2 a3 a4 a5 a6 a8 : Option zAV) (st : List zAV) (s : zAS) (k : Nat × Nat) (x : Int32) : zev zk_X9_intersect (23, [a0, a1, a2, a3, a4, a5, a6, some (Sum.inl (Value.int x)), a8], st, s, k) = zev zk_X9_intersect (25, [a0, a1, a2, a3, a4, a5, a6, some (Sum.inl (Value.int x)), a8], Sum.inl (Value.int x) :: st, s, k) := zev_go rfl rfl
theorem zr_X9_intersect_25 (ls : zLs) (st : List zAV) (s : zAS) (k : Nat × Nat) (r v0 : zAV) (h : zcok zEM 9 0 0 (zR_X9_intersect).cells (zR_X9_intersect).slots r st k) : zev zk_X9_intersect (25, ls, v0 :: r :: st, s, k) = zret zk_X9_intersect 28 ls st (k.1 + 0, k.2 + 0) (m_X9_opposite [r, v0] s) := zf_callV (as := [v0]) 1 rfl rfl h
theorem zr_X9_intersect_28 (a0 a1 a2 a3 a4 a5 a6 a7 a8 : Option zAV) (st : List zAV) (s : zAS) (k : Nat × Nat) (x : Int32) : zev zk_X9_intersect (28, [a0, a1, a2, a3, a4, a5, a6, a7, a8], Sum.inl (Value.int x) :: st, s, k) = zev zk_X9_intersect (30, [a0, a1, a2, a3, a4, a5, a6, zk1 a7, some (Sum.inl (Value.int x))], st, s, k) := zev_go rfl rfl
theorem zr_X9_intersect_30 (a1 a2 a3 a4 a5 a6 a7 a8 : Option zAV) (st : List zAV) (s : zAS) (k : Nat × Nat) (o : Nat × Nat) : zev zk_X9_intersect (30, [some (Sum.inr o), a1, a2, a3, a4, a5, a6, a7, a8], st, s, k) = zev zk_X9_intersect (31, [some (Sum.inr o), a1, a2, a3, a4, a5, a6, a7, a8], Sum.inr o :: st, s, k) := zev_go rfl rfl
theorem zr_X9_intersect_31 (a1 a2 a3 a4 a5 a6 a7 a8 : Option zAV) (st : List zAV) (s : zAS) (k : Nat × Nat) (o : Nat × Nat) : zev zk_X9_intersect (31, [some (Sum.inr o), a1, a2, a3, a4, a5, a6, a7, a8], st, s, k) = zev zk_X9_intersect (32, [some (Sum.inr o), a1, a2, a3, a4, a5, a6, a7, a8], Sum.inr o :: st, s, k) := zev_go rfl rfl
theorem zr_X9_intersect_32 (a0 a1 a3 a4 a5 a6 a7 a8 : Option zAV) (st : List zAV) (s : zAS) (k : Nat × Nat) (x : Int32) : zev zk_X9_intersect (32, [a0, a1, some (Sum.inl (Value.int x)), a3, a4, a5, a6, a7, a8], st, s, k) = zev zk_X9_intersect (33, [a0, a1, some (Sum.inl (Value.int x)), a3, a4, a5, a6, a7, a8], Sum.inl (Value.int x) :: st, s, k) := zev_go rfl rfl
theorem zr_X9_intersect_33 (a0 a1 a2 a3 a4 a5 a7 a8 : Option zAV) (st : List zAV) (s : zAS) (k : Nat × Nat) (x : Int32) : zev zk_X9_intersect (33, [a0, a1, a2, a3, a4, a5, some (Sum.inl (Value.int x)), a7, a8], st, s, k) = zev zk_X9_intersect (35, [a0, a1, a2, a3, a4, a5, some (Sum.inl (Value.int x)), a7, a8], Sum.inl (Value.int x) :: st, s, k) := zev_go rfl rfl
theorem zr_X9_intersect_35 (ls : zLs) (st : List zAV) (s : zAS) (k : Nat × Nat) (x y : Int32) : zev zk_X9_intersect (35, ls, Sum.inl (Value.int y) :: Sum.inl (Value.int x) :: st, s, k) = zev zk_X9_intersect (36, ls, Sum.inl (Value.int (x * y)) :: st, s, k) := zev_go rfl rfl
theorem zr_X9_intersect_36 (a0 a1 a2 a3 a4 a6 a7 a8 : Option zAV) (st : List zAV) (s : zAS) (k : Nat × Nat) (x : Int32) : zev zk_X9_intersect (36, [a0, a1, a2, a3, a4, some (Sum.inl (Value.int x)), a6, a7, a8], st, s, k) = zev zk_X9_intersect (38, [a0, a1, a2, a3, a4, some (Sum.inl (Value.int x)), a6, a7, a8], Sum.inl (Value.int x) :: st, s, k) := zev_go rfl rfl
theorem zr_X9_intersect_38 (a0 a1 a2 a4 a5 a6 a7 a8 : Option zAV) (st : List zAV) (s : zAS) (k : Nat × Nat) (x : Int32) : zev zk_X9_intersect (38, [a0, a1, a2, some (Sum.inl (Value.int x)), a4, a5, a6, a7, a8], st, s, k) = zev zk_X9_intersect (39, [a0, a1, a2, some (Sum.inl (Value.int x)), a4, a5, a6, a7, a8], Sum.inl (Value.int x) :: st, s, k) := zev_go rfl rfl
theorem zr_X9_intersect_39 (ls : zLs) (st : List zAV) (s : zAS) (k : Nat × Nat) (x y : Int32) : zev zk_X9_intersect (39, ls, Sum.inl (Value.int y) :: Sum.inl (Value.int x) :: st, s, k) = zev zk_X9_intersect (40, ls, Sum.inl (Value.int (x * y)) :: st, s, k) := zev_go rfl rfl
theorem zr_X9_intersect_40 (ls : zLs) (st : List zAV) (s : zAS) (k : Nat × Nat) (x y : Int32) : zev zk_X9_intersect (40, ls, Sum.inl (Value.int y) :: Sum.inl (Value.int x) :: st, s, k) = zev zk_X9_intersect (41, ls, Sum.inl (Value.int (x - y)) :: st, s, k) := zev_go rfl rfl
theorem zr_X9_intersect_41 (ls : zLs) (st : List zAV) (s : zAS) (k : Nat × Nat) (r v0 : zAV) (h : zcok zEM 9 0 0 (zR_X9_intersect).cells (zR_X9_intersect).slots r st k) : zev zk_X9_intersect (41, ls, v0 :: r :: st, s, k) = zret zk_X9_intersect 44 ls st (k.1 + 0, k.2 + 0) (m_X9_mod [r, v0] s) := zf_callV (as := [v0]) 1 rfl rfl h
theorem zr_X9_intersect_44 (a0 a1 a2 a3 a4 a5 a6 a7 : Option zAV) (st : List zAV) (s : zAS) (k : Nat × Nat) (x : Int32) : zev zk_X9_intersect (44, [a0, a1, a2, a3, a4, a5, a6, a7, some (Sum.inl (Value.int x))], st, s, k) = zev zk_X9_intersect (46, [a0, a1, a2, a3, a4, a5, a6, a7, some (Sum.inl (Value.int x))], Sum.inl (Value.int x) :: st, s, k) := zev_go rfl rfl
theorem zr_X9_intersect_46 (ls : zLs) (st : List zAV) (s : zAS) (k : Nat × Nat) (x y : Int32) : zev zk_X9_intersect (46, ls, Sum.inl (Value.int y) :: Sum.inl (Value.int x) :: st, s, k) = zev zk_X9_intersect (47, ls, Sum.inl (Value.int (x * y)) :: st, s, k) := zev_go rfl rfl
theorem zr_X9_intersect_47 (a1 a2 a3 a4 a5 a6 a7 a8 : Option zAV) (st : List zAV) (s : zAS) (k : Nat × Nat) (o : Nat × Nat) : zev zk_X9_intersect (47, [some (Sum.inr o), a1, a2, a3, a4, a5, a6, a7, a8], st, s, k) = zev zk_X9_intersect (48, [some (Sum.inr o), a1, a2, a3, a4, a5, a6, a7, a8], Sum.inr o :: st, s, k) := zev_go rfl rfl
theorem zr_X9_intersect_48 (a0 a1 a2 a4 a5 a6 a7 a8 : Option zAV) (st : List zAV) (s : zAS) (k : Nat × Nat) (x : Int32) : zev zk_X9_intersect (48, [a0, a1, a2, some (Sum.inl (Value.int x)), a4, a5, a6, a7, a8], st, s, k) = zev zk_X9_intersect (49, [a0, a1, a2, some (Sum.inl (Value.int x)), a4, a5, a6, a7, a8], Sum.inl (Value.int x) :: st, s, k) := zev_go rfl rfl
theorem zr_X9_intersect_49 (a0 a1 a2 a3 a5 a6 a7 a8 : Option zAV) (st : List zAV) (s : zAS) (k : Nat × Nat) (x : Int32) : zev zk_X9_intersect (49, [a0, a1, a2, a3, some (Sum.inl (Value.int x)), a5, a6, a7, a8], st, s, k) = zev zk_X9_intersect (51, [a0, a1, a2, a3, some (Sum.inl (Value.int x)), a5, a6, a7, a8], Sum.inl (Value.int x) :: st, s, k) := zev_go rfl rfl
theorem zr_X9_intersect_51 (ls : zLs) (st : List zAV) (s : zAS) (k : Nat × Nat) (x y : Int32) : zev zk_X9_intersect (51, ls, Sum.inl (Value.int y) :: Sum.inl (Value.int x) :: st, s, k) = zev zk_X9_intersect (52, ls, Sum.inl (Value.int (x * y)) :: st, s, k) := zev_go rfl rfl
theorem zr_X9_intersect_52 (a0 a1 a2 a3 a4 a5 a7 a8 : Option zAV) (st : List zAV) (s : zAS) (k : Nat × Nat) (x : Int32) : zev zk_X9_intersect (52, [a0, a1, a2, a3, a4, a5, some (Sum.inl (Value.int x)), a7, a8], st, s, k) = zev zk_X9_intersect (54, [a0, a1, a2, a3, a4, a5, some (Sum.inl (Value.int x)), a7, a8], Sum.inl (Value.int x) :: st, s, k) := zev_go rfl rfl
theorem zr_X9_intersect_54 (a0 a2 a3 a4 a5 a6 a7 a8 : Option zAV) (st : List zAV) (s : zAS) (k : Nat × Nat) (x : Int32) : zev zk_X9_intersect (54, [a0, some (Sum.inl (Value.int x)), a2, a3, a4, a5, a6, a7, a8], st, s, k) = zev zk_X9_intersect (55, [a0, some (Sum.inl (Value.int x)), a2, a3, a4, a5, a6, a7, a8], Sum.inl (Value.int x) :: st, s, k) := zev_go rfl rfl
theorem zr_X9_intersect_55 (ls : zLs) (st : List zAV) (s : zAS) (k : Nat × Nat) (x y : Int32) : zev zk_X9_intersect (55, ls, Sum.inl (Value.int y) :: Sum.inl (Value.int x) :: st, s, k) = zev zk_X9_intersect (56, ls, Sum.inl (Value.int (x * y)) :: st, s, k) := zev_go rfl rfl
theorem zr_X9_intersect_56 (ls : zLs) (st : List zAV) (s : zAS) (k : Nat × Nat) (x y : Int32) : zev zk_X9_intersect (56, ls, Sum.inl (Value.int y) :: Sum.inl (Value.int x) :: st, s, k) = zev zk_X9_intersect (57, ls, Sum.inl (Value.int (x - y)) :: st, s, k) := zev_go rfl rfl
theorem zr_X9_intersect_57 (ls : zLs) (st : List zAV) (s : zAS) (k : Nat × Nat) (r v0 : zAV) (h : zcok zEM 9 0 0 (zR_X9_intersect).cells (zR_X9_intersect).slots r st k) : zev zk_X9_intersect (57, ls, v0 :: r :: st, s, k) = zret zk_X9_intersect 60 ls st (k.1 + 0, k.2 + 0) (m_X9_mod [r, v0] s) := zf_callV (as := [v0]) 1 rfl rfl h
theorem zr_X9_intersect_60 (a0 a1 a2 a3 a4 a5 a6 a7 : Option zAV) (st : List zAV) (s : zAS) (k : Nat × Nat) (x : Int32) : zev zk_X9_intersect (60, [a0, a1, a2, a3, a4, a5, a6, a7, some (Sum.inl (Value.int x))], st, s, k) = zev zk_X9_intersect (62, [a0, a1, a2, a3, a4, a5, a6, a7, some (Sum.inl (Value.int x))], Sum.inl (Value.int x) :: st, s, k) := zev_go rfl rfl
theorem zr_X9_intersect_62 (ls : zLs) (st : List zAV) (s : zAS) (k : Nat × Nat) (x y : Int32) : zev zk_X9_intersect (62, ls, Sum.inl (Value.int y) :: Sum.inl (Value.int x) :: st, s, k) = zev zk_X9_intersect (63, ls, Sum.inl (Value.int (x * y)) :: st, s, k) := zev_go rfl rfl
theorem zr_X9_intersect_63 (ls : zLs) (st : List zAV) (s : zAS) (k : Nat × Nat) : zev zk_X9_intersect (63, ls, st, s, k) = zev zk_X9_intersect (64, ls, Sum.inl (Value.int (0)) :: st, s, k) := zev_go rfl rfl
theorem zr_X9_intersect_64 (ls : zLs) (st : List zAV) (s : zAS) (k : Nat × Nat) (r v0 v1 v2 : zAV) (h : zcok zEM 9 0 0 (zR_X9_intersect).cells (zR_X9_intersect).slots r st k) : zev zk_X9_intersect (64, ls, v2 :: v1 :: v0 :: r :: st, s, k) = zret zk_X9_intersect 67 ls st (k.1 + 0, k.2 + 0) (m_X9_lay [r, v0, v1, v2] s) := zf_callV (as := [v2, v1, v0]) 3 rfl rfl h
theorem zr_X9_intersect_67 (ls : zLs) (s : zAS) (k : Nat × Nat) (x : Int32) (hx : x = 0 ∨ x = 1) : zev zk_X9_intersect (67, ls, [Sum.inl (Value.int x)], s, k) = some (.inl (some (Sum.inl (Value.int x))), s) := zf_retz rfl hx
/-! X9_common: PrimePlaneModel.common(IIIIIIZ)Z -/
abbrev zR_X9_common : Room := ({ frames := 3, cells := 0, slots := 0, locals := 67 } : Room)
noncomputable def zl_X9_common : List (Nat × zOp) := [(0, z_ic (0) 1), (1, z_sti 8 3), (3, z_ldi 2 4), (4, z_if (fun x => decide (¬ x = 0)) 11 7), (7, z_ic (0) 8), (8, z_goto 16), (11, z_lda 0 12), (12, z_ldi 2 13), (13, z_callV zEM 9 m_X9_opposite 1 0 0 (zR_X9_common).cells (zR_X9_common).slots 16), (16, z_sti 9 18), (18, z_ic (0) 19), (19, z_sti 10 21), (21, z_ldi 10 23), (23, z_lda 0 24), (24, z_get zEM 9 1 27), (27, z_cmp (fun x y => decide (y ≤ x)) 131 30), (30, z_ldi 8 32), (32, z_ldi 7 34), (34, z_if (fun x => decide (x = 0)) 41 37), (37, z_ic (2) 38), (38, z_goto 42), (41, z_ic (1) 42), (42, z_cmp (fun x y => decide (y ≤ x)) 131 45), (45, z_ldi 2 46), (46, z_if (fun x => decide (¬ x = 0)) 58 49), (49, z_lda 0 50), (50, z_ldi 3 51), (51, z_neg 52), (52, z_callV zEM 9 m_X9_mod 1 0 0 (zR_X9_common).cells (zR_X9_common).slots 55), (55, z_goto 60), (58, z_ldi 10 60), (60, z_sti 11 62), (62, z_ldi 2 63), (63, z_if (fun x => decide (¬ x = 0)) 71 66), (66, z_ldi 10 68), (68, z_goto 90), (71, z_lda 0 72), (72, z_ldi 1 73), (73, z_ldi 10 75), (75, z_bin (fun x y => x * y) 76), (76, z_ldi 3 77), (77, z_bin (fun x y => x + y) 78), (78, z_neg 79), (79, z_callV zEM 9 m_X9_mod 1 0 0 (zR_X9_common).cells (zR_X9_common).slots 82), (82, z_ldi 9 84), (84, z_bin (fun x y => x * y) 85), (85, z_lda 0 86), (86, z_get zEM 9 1 89), (89, z_rem 90), (90, z_sti 12 92), (92, z_lda 0 93), (93, z_ldi 11 95), (95, z_ldi 12 97), (97, z_ldi 4 99), (99, z_ldi 5 101), (101, z_callV zEM 9 m_X9_squareOf 4 0 0 (zR_X9_common).cells (zR_X9_common).slots 104), (104, z_ldi 6 106), (106, z_cmp (fun x y => decide (x = y)) 112 109), (109, z_goto 125), (112, z_lda 0 113), (113, z_ldi 11 115), (115, z_ldi 12 117), (117, z_ic (0) 118), (118, z_callV zEM 9 m_X9_lay 3 0 0 (zR_X9_common).cells (zR_X9_common).slots 121), (121, z_pop 122), (122, z_iinc 8 (1) 125), (125, z_iinc 10 (1) 128), (128, z_goto 21), (131, z_ldi 8 133), (133, z_if (fun x => decide (x ≤ 0)) 140 136), (136, z_ic (1) 137), (137, z_goto 141), (140, z_ic (0) 141), (141, z_reti true)]
noncomputable def zk_X9_common (pc : Nat) : Option zOp := zlook zl_X9_common pc
noncomputable def m_X9_common : List zAV → zAS → Option zOut := zmeth zk_X9_common 13
set_option maxRecDepth 100000 in
set_option maxHeartbeats 4000000 in
theorem zcs_X9_common {R : Room} (hR : R = zR_X9_common) : ∀ q ∈ zl_X9_common, zS zEM yX9_common.cls cX9_common 13 wsX9_common (some .boolean) R q.1 q.2 := by
  subst hR
  have hin9 : ∀ w ∈ wsX90, w ∈ wsX9_common := fun w h => List.mem_cons_of_mem _ (List.mem_append_right _ h)
  refine List.forall_mem_cons.mpr ⟨zs_iconst dX9_common_0 (by decide), ?_⟩
  refine List.forall_mem_cons.mpr ⟨zs_istore dX9_common_1, ?_⟩
  refine List.forall_mem_cons.mpr ⟨zs_iload_n dX9_common_3 rfl, ?_⟩
  refine List.forall_mem_cons.mpr ⟨zs_ifne dX9_common_4 (by decide), ?_⟩
  refine List.forall_mem_cons.mpr ⟨zs_iconst dX9_common_7 (by decide), ?_⟩
  refine List.forall_mem_cons.mpr ⟨zs_goto dX9_common_8 (by decide), ?_⟩
  refine List.forall_mem_cons.mpr ⟨zs_aload_n dX9_common_11 rfl, ?_⟩
  refine List.forall_mem_cons.mpr ⟨zs_iload_n dX9_common_12 rfl, ?_⟩
  refine List.forall_mem_cons.mpr ⟨zs_callV (ci := 9) (rm := zR_X9_opposite) (n := 1) rfl zM_X9_opposite gX9_common_X9_opposite rfl (by decide +kernel) ⟨by decide, by decide⟩ dX9_common_13, ?_⟩
  refine List.forall_mem_cons.mpr ⟨zs_istore dX9_common_16, ?_⟩
  refine List.forall_mem_cons.mpr ⟨zs_iconst dX9_common_18 (by decide), ?_⟩
  refine List.forall_mem_cons.mpr ⟨zs_istore dX9_common_19, ?_⟩
  refine List.forall_mem_cons.mpr ⟨zs_iload dX9_common_21, ?_⟩
  refine List.forall_mem_cons.mpr ⟨zs_aload_n dX9_common_23 rfl, ?_⟩
  refine List.forall_mem_cons.mpr ⟨zs_get (ci := 9) (j := 1) (N := 10) (C := RX9) (T := TX9) (index := 7) rfl (by decide) hin9 (List.mem_of_getElem? (i := 1) rfl) dX9_common_24, ?_⟩
  refine List.forall_mem_cons.mpr ⟨zs_icge dX9_common_27 (by decide), ?_⟩
  refine List.forall_mem_cons.mpr ⟨zs_iload dX9_common_30, ?_⟩
  refine List.forall_mem_cons.mpr ⟨zs_iload dX9_common_32, ?_⟩
  refine List.forall_mem_cons.mpr ⟨zs_ifeq dX9_common_34 (by decide), ?_⟩
  refine List.forall_mem_cons.mpr ⟨zs_iconst dX9_common_37 (by decide), ?_⟩
  refine List.forall_mem_cons.mpr ⟨zs_goto dX9_common_38 (by decide), ?_⟩
  refine List.forall_mem_cons.mpr ⟨zs_iconst dX9_common_41 (by decide), ?_⟩
  refine List.forall_mem_cons.mpr ⟨zs_icge dX9_common_42 (by decide), ?_⟩
  refine List.forall_mem_cons.mpr ⟨zs_iload_n dX9_common_45 rfl, ?_⟩
  refine List.forall_mem_cons.mpr ⟨zs_ifne dX9_common_46 (by decide), ?_⟩
  refine List.forall_mem_cons.mpr ⟨zs_aload_n dX9_common_49 rfl, ?_⟩
  refine List.forall_mem_cons.mpr ⟨zs_iload_n dX9_common_50 rfl, ?_⟩
  refine List.forall_mem_cons.mpr ⟨zs_ineg dX9_common_51, ?_⟩
  refine List.forall_mem_cons.mpr ⟨zs_callV (ci := 9) (rm := zR_X9_mod) (n := 1) rfl zM_X9_mod gX9_common_X9_mod rfl (by decide +kernel) ⟨by decide, by decide⟩ dX9_common_52, ?_⟩
  refine List.forall_mem_cons.mpr ⟨zs_goto dX9_common_55 (by decide), ?_⟩
  refine List.forall_mem_cons.mpr ⟨zs_iload dX9_common_58, ?_⟩
  refine List.forall_mem_cons.mpr ⟨zs_istore dX9_common_60, ?_⟩
  refine List.forall_mem_cons.mpr ⟨zs_iload_n dX9_common_62 rfl, ?_⟩
  refine List.forall_mem_cons.mpr ⟨zs_ifne dX9_common_63 (by decide), ?_⟩
  refine List.forall_mem_cons.mpr ⟨zs_iload dX9_common_66, ?_⟩
  refine List.forall_mem_cons.mpr ⟨zs_goto dX9_common_68 (by decide), ?_⟩
  refine List.forall_mem_cons.mpr ⟨zs_aload_n dX9_common_71 rfl, ?_⟩
  refine List.forall_mem_cons.mpr ⟨zs_iload_n dX9_common_72 rfl, ?_⟩
  refine List.forall_mem_cons.mpr ⟨zs_iload dX9_common_73, ?_⟩
  refine List.forall_mem_cons.mpr ⟨zs_imul dX9_common_75, ?_⟩
  refine List.forall_mem_cons.mpr ⟨zs_iload_n dX9_common_76 rfl, ?_⟩
  refine List.forall_mem_cons.mpr ⟨zs_iadd dX9_common_77, ?_⟩
  refine List.forall_mem_cons.mpr ⟨zs_ineg dX9_common_78, ?_⟩
  refine List.forall_mem_cons.mpr ⟨zs_callV (ci := 9) (rm := zR_X9_mod) (n := 1) rfl zM_X9_mod gX9_common_X9_mod rfl (by decide +kernel) ⟨by decide, by decide⟩ dX9_common_79, ?_⟩
  refine List.forall_mem_cons.mpr ⟨zs_iload dX9_common_82, ?_⟩
  refine List.forall_mem_cons.mpr ⟨zs_imul dX9_common_84, ?_⟩
  refine List.forall_mem_cons.mpr ⟨zs_aload_n dX9_common_85 rfl, ?_⟩
  refine List.forall_mem_cons.mpr ⟨zs_get (ci := 9) (j := 1) (N := 10) (C := RX9) (T := TX9) (index := 7) rfl (by decide) hin9 (List.mem_of_getElem? (i := 1) rfl) dX9_common_86, ?_⟩
  refine List.forall_mem_cons.mpr ⟨zs_irem dX9_common_89, ?_⟩
  refine List.forall_mem_cons.mpr ⟨zs_istore dX9_common_90, ?_⟩
  refine List.forall_mem_cons.mpr ⟨zs_aload_n dX9_common_92 rfl, ?_⟩
  refine List.forall_mem_cons.mpr ⟨zs_iload dX9_common_93, ?_⟩
  refine List.forall_mem_cons.mpr ⟨zs_iload dX9_common_95, ?_⟩
  refine List.forall_mem_cons.mpr ⟨zs_iload dX9_common_97, ?_⟩
  refine List.forall_mem_cons.mpr ⟨zs_iload dX9_common_99, ?_⟩
  refine List.forall_mem_cons.mpr ⟨zs_callV (ci := 9) (rm := zR_X9_squareOf) (n := 4) rfl zM_X9_squareOf gX9_common_X9_squareOf rfl (by decide +kernel) ⟨by decide, by decide⟩ dX9_common_101, ?_⟩
  refine List.forall_mem_cons.mpr ⟨zs_iload dX9_common_104, ?_⟩
  refine List.forall_mem_cons.mpr ⟨zs_iceq dX9_common_106 (by decide), ?_⟩
  refine List.forall_mem_cons.mpr ⟨zs_goto dX9_common_109 (by decide), ?_⟩
  refine List.forall_mem_cons.mpr ⟨zs_aload_n dX9_common_112 rfl, ?_⟩
  refine List.forall_mem_cons.mpr ⟨zs_iload dX9_common_113, ?_⟩
  refine List.forall_mem_cons.mpr ⟨zs_iload dX9_common_115, ?_⟩
  refine List.forall_mem_cons.mpr ⟨zs_iconst dX9_common_117 (by decide), ?_⟩
  refine List.forall_mem_cons.mpr ⟨zs_callV (ci := 9) (rm := zR_X9_lay) (n := 3) rfl zM_X9_lay gX9_common_X9_lay rfl (by decide +kernel) ⟨by decide, by decide⟩ dX9_common_118, ?_⟩
  refine List.forall_mem_cons.mpr ⟨zs_pop dX9_common_121, ?_⟩
  refine List.forall_mem_cons.mpr ⟨zs_iinc dX9_common_122 (by decide), ?_⟩
  refine List.forall_mem_cons.mpr ⟨zs_iinc dX9_common_125 (by decide), ?_⟩
  refine List.forall_mem_cons.mpr ⟨zs_goto dX9_common_128 (by decide), ?_⟩
  refine List.forall_mem_cons.mpr ⟨zs_iload dX9_common_131, ?_⟩
  refine List.forall_mem_cons.mpr ⟨zs_ifle dX9_common_133 (by decide), ?_⟩
  refine List.forall_mem_cons.mpr ⟨zs_iconst dX9_common_136 (by decide), ?_⟩
  refine List.forall_mem_cons.mpr ⟨zs_goto dX9_common_137 (by decide), ?_⟩
  refine List.forall_mem_cons.mpr ⟨zs_iconst dX9_common_140 (by decide), ?_⟩
  refine List.forall_mem_cons.mpr ⟨zs_reti (ty := .boolean) rfl (fun x h => (znz x h).1) dX9_common_141, ?_⟩
  exact fun _ h => absurd h List.not_mem_nil
theorem zM_X9_common : zMeets zEM yX9_common wsX9_common zR_X9_common m_X9_common := zmeth_M zEMok (zlook_all (zcs_X9_common rfl)) (by decide +kernel) rfl
theorem zr_X9_common_0 (ls : zLs) (st : List zAV) (s : zAS) (k : Nat × Nat) : zev zk_X9_common (0, ls, st, s, k) = zev zk_X9_common (1, ls, Sum.inl (Value.int (0)) :: st, s, k) := zev_go rfl rfl
theorem zr_X9_common_1 (a0 a1 a2 a3 a4 a5 a6 a7 a8 a9 a10 a11 a12 : Option zAV) (st : List zAV) (s : zAS) (k : Nat × Nat) (x : Int32) : zev zk_X9_common (1, [a0, a1, a2, a3, a4, a5, a6, a7, a8, a9, a10, a11, a12], Sum.inl (Value.int x) :: st, s, k) = zev zk_X9_common (3, [a0, a1, a2, a3, a4, a5, a6, zk1 a7, some (Sum.inl (Value.int x)), a9, a10, a11, a12], st, s, k) := zev_go rfl rfl
theorem zr_X9_common_3 (a0 a1 a3 a4 a5 a6 a7 a8 a9 a10 a11 a12 : Option zAV) (st : List zAV) (s : zAS) (k : Nat × Nat) (x : Int32) : zev zk_X9_common (3, [a0, a1, some (Sum.inl (Value.int x)), a3, a4, a5, a6, a7, a8, a9, a10, a11, a12], st, s, k) = zev zk_X9_common (4, [a0, a1, some (Sum.inl (Value.int x)), a3, a4, a5, a6, a7, a8, a9, a10, a11, a12], Sum.inl (Value.int x) :: st, s, k) := zev_go rfl rfl
theorem zr_X9_common_4 (ls : zLs) (st : List zAV) (s : zAS) (k : Nat × Nat) (x : Int32) : zev zk_X9_common (4, ls, Sum.inl (Value.int x) :: st, s, k) = if decide (¬ x = 0) = true then zev zk_X9_common (11, ls, st, s, k) else zev zk_X9_common (7, ls, st, s, k) := zf_if (f := fun x => decide (¬ x = 0)) rfl
theorem zr_X9_common_7 (ls : zLs) (st : List zAV) (s : zAS) (k : Nat × Nat) : zev zk_X9_common (7, ls, st, s, k) = zev zk_X9_common (8, ls, Sum.inl (Value.int (0)) :: st, s, k) := zev_go rfl rfl
theorem zr_X9_common_8 (ls : zLs) (st : List zAV) (s : zAS) (k : Nat × Nat) : zev zk_X9_common (8, ls, st, s, k) = zev zk_X9_common (16, ls, st, s, k) := zev_go rfl rfl
theorem zr_X9_common_11 (a1 a2 a3 a4 a5 a6 a7 a8 a9 a10 a11 a12 : Option zAV) (st : List zAV) (s : zAS) (k : Nat × Nat) (o : Nat × Nat) : zev zk_X9_common (11, [some (Sum.inr o), a1, a2, a3, a4, a5, a6, a7, a8, a9, a10, a11, a12], st, s, k) = zev zk_X9_common (12, [some (Sum.inr o), a1, a2, a3, a4, a5, a6, a7, a8, a9, a10, a11, a12], Sum.inr o :: st, s, k) := zev_go rfl rfl
theorem zr_X9_common_12 (a0 a1 a3 a4 a5 a6 a7 a8 a9 a10 a11 a12 : Option zAV) (st : List zAV) (s : zAS) (k : Nat × Nat) (x : Int32) : zev zk_X9_common (12, [a0, a1, some (Sum.inl (Value.int x)), a3, a4, a5, a6, a7, a8, a9, a10, a11, a12], st, s, k) = zev zk_X9_common (13, [a0, a1, some (Sum.inl (Value.int x)), a3, a4, a5, a6, a7, a8, a9, a10, a11, a12], Sum.inl (Value.int x) :: st, s, k) := zev_go rfl rfl
theorem zr_X9_common_13 (ls : zLs) (st : List zAV) (s : zAS) (k : Nat × Nat) (r v0 : zAV) (h : zcok zEM 9 0 0 (zR_X9_common).cells (zR_X9_common).slots r st k) : zev zk_X9_common (13, ls, v0 :: r :: st, s, k) = zret zk_X9_common 16 ls st (k.1 + 0, k.2 + 0) (m_X9_opposite [r, v0] s) := zf_callV (as := [v0]) 1 rfl rfl h
theorem zr_X9_common_16 (a0 a1 a2 a3 a4 a5 a6 a7 a8 a9 a10 a11 a12 : Option zAV) (st : List zAV) (s : zAS) (k : Nat × Nat) (x : Int32) : zev zk_X9_common (16, [a0, a1, a2, a3, a4, a5, a6, a7, a8, a9, a10, a11, a12], Sum.inl (Value.int x) :: st, s, k) = zev zk_X9_common (18, [a0, a1, a2, a3, a4, a5, a6, a7, zk1 a8, some (Sum.inl (Value.int x)), a10, a11, a12], st, s, k) := zev_go rfl rfl
theorem zr_X9_common_18 (ls : zLs) (st : List zAV) (s : zAS) (k : Nat × Nat) : zev zk_X9_common (18, ls, st, s, k) = zev zk_X9_common (19, ls, Sum.inl (Value.int (0)) :: st, s, k) := zev_go rfl rfl
theorem zr_X9_common_19 (a0 a1 a2 a3 a4 a5 a6 a7 a8 a9 a10 a11 a12 : Option zAV) (st : List zAV) (s : zAS) (k : Nat × Nat) (x : Int32) : zev zk_X9_common (19, [a0, a1, a2, a3, a4, a5, a6, a7, a8, a9, a10, a11, a12], Sum.inl (Value.int x) :: st, s, k) = zev zk_X9_common (21, [a0, a1, a2, a3, a4, a5, a6, a7, a8, zk1 a9, some (Sum.inl (Value.int x)), a11, a12], st, s, k) := zev_go rfl rfl
theorem zr_X9_common_21 (a0 a1 a2 a3 a4 a5 a6 a7 a8 a9 a11 a12 : Option zAV) (st : List zAV) (s : zAS) (k : Nat × Nat) (x : Int32) : zev zk_X9_common (21, [a0, a1, a2, a3, a4, a5, a6, a7, a8, a9, some (Sum.inl (Value.int x)), a11, a12], st, s, k) = zev zk_X9_common (23, [a0, a1, a2, a3, a4, a5, a6, a7, a8, a9, some (Sum.inl (Value.int x)), a11, a12], Sum.inl (Value.int x) :: st, s, k) := zev_go rfl rfl
theorem zr_X9_common_23 (a1 a2 a3 a4 a5 a6 a7 a8 a9 a10 a11 a12 : Option zAV) (st : List zAV) (s : zAS) (k : Nat × Nat) (o : Nat × Nat) : zev zk_X9_common (23, [some (Sum.inr o), a1, a2, a3, a4, a5, a6, a7, a8, a9, a10, a11, a12], st, s, k) = zev zk_X9_common (24, [some (Sum.inr o), a1, a2, a3, a4, a5, a6, a7, a8, a9, a10, a11, a12], Sum.inr o :: st, s, k) := zev_go rfl rfl
theorem zr_X9_common_24 (ls : zLs) (st : List zAV) (s : zAS) (k : Nat × Nat) (o i : Nat) : zev zk_X9_common (24, ls, Sum.inr (o, i) :: st, s, k) = zpush zk_X9_common 27 ls st s k (zgv zEM 9 1 o i s.1) := zf_get rfl
theorem zr_X9_common_27 (ls : zLs) (st : List zAV) (s : zAS) (k : Nat × Nat) (x y : Int32) : zev zk_X9_common (27, ls, Sum.inl (Value.int y) :: Sum.inl (Value.int x) :: st, s, k) = if decide (y ≤ x) = true then zev zk_X9_common (131, ls, st, s, k) else zev zk_X9_common (30, ls, st, s, k) := zf_cmp (f := fun x y => decide (y ≤ x)) rfl
theorem zr_X9_common_30 (a0 a1 a2 a3 a4 a5 a6 a7 a9 a10 a11 a12 : Option zAV) (st : List zAV) (s : zAS) (k : Nat × Nat) (x : Int32) : zev zk_X9_common (30, [a0, a1, a2, a3, a4, a5, a6, a7, some (Sum.inl (Value.int x)), a9, a10, a11, a12], st, s, k) = zev zk_X9_common (32, [a0, a1, a2, a3, a4, a5, a6, a7, some (Sum.inl (Value.int x)), a9, a10, a11, a12], Sum.inl (Value.int x) :: st, s, k) := zev_go rfl rfl
theorem zr_X9_common_32 (a0 a1 a2 a3 a4 a5 a6 a8 a9 a10 a11 a12 : Option zAV) (st : List zAV) (s : zAS) (k : Nat × Nat) (x : Int32) : zev zk_X9_common (32, [a0, a1, a2, a3, a4, a5, a6, some (Sum.inl (Value.int x)), a8, a9, a10, a11, a12], st, s, k) = zev zk_X9_common (34, [a0, a1, a2, a3, a4, a5, a6, some (Sum.inl (Value.int x)), a8, a9, a10, a11, a12], Sum.inl (Value.int x) :: st, s, k) := zev_go rfl rfl
theorem zr_X9_common_34 (ls : zLs) (st : List zAV) (s : zAS) (k : Nat × Nat) (x : Int32) : zev zk_X9_common (34, ls, Sum.inl (Value.int x) :: st, s, k) = if decide (x = 0) = true then zev zk_X9_common (41, ls, st, s, k) else zev zk_X9_common (37, ls, st, s, k) := zf_if (f := fun x => decide (x = 0)) rfl
theorem zr_X9_common_37 (ls : zLs) (st : List zAV) (s : zAS) (k : Nat × Nat) : zev zk_X9_common (37, ls, st, s, k) = zev zk_X9_common (38, ls, Sum.inl (Value.int (2)) :: st, s, k) := zev_go rfl rfl
theorem zr_X9_common_38 (ls : zLs) (st : List zAV) (s : zAS) (k : Nat × Nat) : zev zk_X9_common (38, ls, st, s, k) = zev zk_X9_common (42, ls, st, s, k) := zev_go rfl rfl
theorem zr_X9_common_41 (ls : zLs) (st : List zAV) (s : zAS) (k : Nat × Nat) : zev zk_X9_common (41, ls, st, s, k) = zev zk_X9_common (42, ls, Sum.inl (Value.int (1)) :: st, s, k) := zev_go rfl rfl
theorem zr_X9_common_42 (ls : zLs) (st : List zAV) (s : zAS) (k : Nat × Nat) (x y : Int32) : zev zk_X9_common (42, ls, Sum.inl (Value.int y) :: Sum.inl (Value.int x) :: st, s, k) = if decide (y ≤ x) = true then zev zk_X9_common (131, ls, st, s, k) else zev zk_X9_common (45, ls, st, s, k) := zf_cmp (f := fun x y => decide (y ≤ x)) rfl
theorem zr_X9_common_45 (a0 a1 a3 a4 a5 a6 a7 a8 a9 a10 a11 a12 : Option zAV) (st : List zAV) (s : zAS) (k : Nat × Nat) (x : Int32) : zev zk_X9_common (45, [a0, a1, some (Sum.inl (Value.int x)), a3, a4, a5, a6, a7, a8, a9, a10, a11, a12], st, s, k) = zev zk_X9_common (46, [a0, a1, some (Sum.inl (Value.int x)), a3, a4, a5, a6, a7, a8, a9, a10, a11, a12], Sum.inl (Value.int x) :: st, s, k) := zev_go rfl rfl
theorem zr_X9_common_46 (ls : zLs) (st : List zAV) (s : zAS) (k : Nat × Nat) (x : Int32) : zev zk_X9_common (46, ls, Sum.inl (Value.int x) :: st, s, k) = if decide (¬ x = 0) = true then zev zk_X9_common (58, ls, st, s, k) else zev zk_X9_common (49, ls, st, s, k) := zf_if (f := fun x => decide (¬ x = 0)) rfl
theorem zr_X9_common_49 (a1 a2 a3 a4 a5 a6 a7 a8 a9 a10 a11 a12 : Option zAV) (st : List zAV) (s : zAS) (k : Nat × Nat) (o : Nat × Nat) : zev zk_X9_common (49, [some (Sum.inr o), a1, a2, a3, a4, a5, a6, a7, a8, a9, a10, a11, a12], st, s, k) = zev zk_X9_common (50, [some (Sum.inr o), a1, a2, a3, a4, a5, a6, a7, a8, a9, a10, a11, a12], Sum.inr o :: st, s, k) := zev_go rfl rfl
theorem zr_X9_common_50 (a0 a1 a2 a4 a5 a6 a7 a8 a9 a10 a11 a12 : Option zAV) (st : List zAV) (s : zAS) (k : Nat × Nat) (x : Int32) : zev zk_X9_common (50, [a0, a1, a2, some (Sum.inl (Value.int x)), a4, a5, a6, a7, a8, a9, a10, a11, a12], st, s, k) = zev zk_X9_common (51, [a0, a1, a2, some (Sum.inl (Value.int x)), a4, a5, a6, a7, a8, a9, a10, a11, a12], Sum.inl (Value.int x) :: st, s, k) := zev_go rfl rfl
theorem zr_X9_common_51 (ls : zLs) (st : List zAV) (s : zAS) (k : Nat × Nat) (x : Int32) : zev zk_X9_common (51, ls, Sum.inl (Value.int x) :: st, s, k) = zev zk_X9_common (52, ls, Sum.inl (Value.int (-x)) :: st, s, k) := zev_go rfl rfl
theorem zr_X9_common_52 (ls : zLs) (st : List zAV) (s : zAS) (k : Nat × Nat) (r v0 : zAV) (h : zcok zEM 9 0 0 (zR_X9_common).cells (zR_X9_common).slots r st k) : zev zk_X9_common (52, ls, v0 :: r :: st, s, k) = zret zk_X9_common 55 ls st (k.1 + 0, k.2 + 0) (m_X9_mod [r, v0] s) := zf_callV (as := [v0]) 1 rfl rfl h
theorem zr_X9_common_55 (ls : zLs) (st : List zAV) (s : zAS) (k : Nat × Nat) : zev zk_X9_common (55, ls, st, s, k) = zev zk_X9_common (60, ls, st, s, k) := zev_go rfl rfl
theorem zr_X9_common_58 (a0 a1 a2 a3 a4 a5 a6 a7 a8 a9 a11 a12 : Option zAV) (st : List zAV) (s : zAS) (k : Nat × Nat) (x : Int32) : zev zk_X9_common (58, [a0, a1, a2, a3, a4, a5, a6, a7, a8, a9, some (Sum.inl (Value.int x)), a11, a12], st, s, k) = zev zk_X9_common (60, [a0, a1, a2, a3, a4, a5, a6, a7, a8, a9, some (Sum.inl (Value.int x)), a11, a12], Sum.inl (Value.int x) :: st, s, k) := zev_go rfl rfl
theorem zr_X9_common_60 (a0 a1 a2 a3 a4 a5 a6 a7 a8 a9 a10 a11 a12 : Option zAV) (st : List zAV) (s : zAS) (k : Nat × Nat) (x : Int32) : zev zk_X9_common (60, [a0, a1, a2, a3, a4, a5, a6, a7, a8, a9, a10, a11, a12], Sum.inl (Value.int x) :: st, s, k) = zev zk_X9_common (62, [a0, a1, a2, a3, a4, a5, a6, a7, a8, a9, zk1 a10, some (Sum.inl (Value.int x)), a12], st, s, k) := zev_go rfl rfl
theorem zr_X9_common_62 (a0 a1 a3 a4 a5 a6 a7 a8 a9 a10 a11 a12 : Option zAV) (st : List zAV) (s : zAS) (k : Nat × Nat) (x : Int32) : zev zk_X9_common (62, [a0, a1, some (Sum.inl (Value.int x)), a3, a4, a5, a6, a7, a8, a9, a10, a11, a12], st, s, k) = zev zk_X9_common (63, [a0, a1, some (Sum.inl (Value.int x)), a3, a4, a5, a6, a7, a8, a9, a10, a11, a12], Sum.inl (Value.int x) :: st, s, k) := zev_go rfl rfl
theorem zr_X9_common_63 (ls : zLs) (st : List zAV) (s : zAS) (k : Nat × Nat) (x : Int32) : zev zk_X9_common (63, ls, Sum.inl (Value.int x) :: st, s, k) = if decide (¬ x = 0) = true then zev zk_X9_common (71, ls, st, s, k) else zev zk_X9_common (66, ls, st, s, k) := zf_if (f := fun x => decide (¬ x = 0)) rfl
theorem zr_X9_common_66 (a0 a1 a2 a3 a4 a5 a6 a7 a8 a9 a11 a12 : Option zAV) (st : List zAV) (s : zAS) (k : Nat × Nat) (x : Int32) : zev zk_X9_common (66, [a0, a1, a2, a3, a4, a5, a6, a7, a8, a9, some (Sum.inl (Value.int x)), a11, a12], st, s, k) = zev zk_X9_common (68, [a0, a1, a2, a3, a4, a5, a6, a7, a8, a9, some (Sum.inl (Value.int x)), a11, a12], Sum.inl (Value.int x) :: st, s, k) := zev_go rfl rfl
theorem zr_X9_common_68 (ls : zLs) (st : List zAV) (s : zAS) (k : Nat × Nat) : zev zk_X9_common (68, ls, st, s, k) = zev zk_X9_common (90, ls, st, s, k) := zev_go rfl rfl
theorem zr_X9_common_71 (a1 a2 a3 a4 a5 a6 a7 a8 a9 a10 a11 a12 : Option zAV) (st : List zAV) (s : zAS) (k : Nat × Nat) (o : Nat × Nat) : zev zk_X9_common (71, [some (Sum.inr o), a1, a2, a3, a4, a5, a6, a7, a8, a9, a10, a11, a12], st, s, k) = zev zk_X9_common (72, [some (Sum.inr o), a1, a2, a3, a4, a5, a6, a7, a8, a9, a10, a11, a12], Sum.inr o :: st, s, k) := zev_go rfl rfl
theorem zr_X9_common_72 (a0 a2 a3 a4 a5 a6 a7 a8 a9 a10 a11 a12 : Option zAV) (st : List zAV) (s : zAS) (k : Nat × Nat) (x : Int32) : zev zk_X9_common (72, [a0, some (Sum.inl (Value.int x)), a2, a3, a4, a5, a6, a7, a8, a9, a10, a11, a12], st, s, k) = zev zk_X9_common (73, [a0, some (Sum.inl (Value.int x)), a2, a3, a4, a5, a6, a7, a8, a9, a10, a11, a12], Sum.inl (Value.int x) :: st, s, k) := zev_go rfl rfl
theorem zr_X9_common_73 (a0 a1 a2 a3 a4 a5 a6 a7 a8 a9 a11 a12 : Option zAV) (st : List zAV) (s : zAS) (k : Nat × Nat) (x : Int32) : zev zk_X9_common (73, [a0, a1, a2, a3, a4, a5, a6, a7, a8, a9, some (Sum.inl (Value.int x)), a11, a12], st, s, k) = zev zk_X9_common (75, [a0, a1, a2, a3, a4, a5, a6, a7, a8, a9, some (Sum.inl (Value.int x)), a11, a12], Sum.inl (Value.int x) :: st, s, k) := zev_go rfl rfl
theorem zr_X9_common_75 (ls : zLs) (st : List zAV) (s : zAS) (k : Nat × Nat) (x y : Int32) : zev zk_X9_common (75, ls, Sum.inl (Value.int y) :: Sum.inl (Value.int x) :: st, s, k) = zev zk_X9_common (76, ls, Sum.inl (Value.int (x * y)) :: st, s, k) := zev_go rfl rfl
theorem zr_X9_common_76 (a0 a1 a2 a4 a5 a6 a7 a8 a9 a10 a11 a12 : Option zAV) (st : List zAV) (s : zAS) (k : Nat × Nat) (x : Int32) : zev zk_X9_common (76, [a0, a1, a2, some (Sum.inl (Value.int x)), a4, a5, a6, a7, a8, a9, a10, a11, a12], st, s, k) = zev zk_X9_common (77, [a0, a1, a2, some (Sum.inl (Value.int x)), a4, a5, a6, a7, a8, a9, a10, a11, a12], Sum.inl (Value.int x) :: st, s, k) := zev_go rfl rfl
theorem zr_X9_common_77 (ls : zLs) (st : List zAV) (s : zAS) (k : Nat × Nat) (x y : Int32) : zev zk_X9_common (77, ls, Sum.inl (Value.int y) :: Sum.inl (Value.int x) :: st, s, k) = zev zk_X9_common (78, ls, Sum.inl (Value.int (x + y)) :: st, s, k) := zev_go rfl rfl
theorem zr_X9_common_78 (ls : zLs) (st : List zAV) (s : zAS) (k : Nat × Nat) (x : Int32) : zev zk_X9_common (78, ls, Sum.inl (Value.int x) :: st, s, k) = zev zk_X9_common (79, ls, Sum.inl (Value.int (-x)) :: st, s, k) := zev_go rfl rfl
theorem zr_X9_common_79 (ls : zLs) (st : List zAV) (s : zAS) (k : Nat × Nat) (r v0 : zAV) (h : zcok zEM 9 0 0 (zR_X9_common).cells (zR_X9_common).slots r st k) : zev zk_X9_common (79, ls, v0 :: r :: st, s, k) = zret zk_X9_common 82 ls st (k.1 + 0, k.2 + 0) (m_X9_mod [r, v0] s) := zf_callV (as := [v0]) 1 rfl rfl h
theorem zr_X9_common_82 (a0 a1 a2 a3 a4 a5 a6 a7 a8 a10 a11 a12 : Option zAV) (st : List zAV) (s : zAS) (k : Nat × Nat) (x : Int32) : zev zk_X9_common (82, [a0, a1, a2, a3, a4, a5, a6, a7, a8, some (Sum.inl (Value.int x)), a10, a11, a12], st, s, k) = zev zk_X9_common (84, [a0, a1, a2, a3, a4, a5, a6, a7, a8, some (Sum.inl (Value.int x)), a10, a11, a12], Sum.inl (Value.int x) :: st, s, k) := zev_go rfl rfl
theorem zr_X9_common_84 (ls : zLs) (st : List zAV) (s : zAS) (k : Nat × Nat) (x y : Int32) : zev zk_X9_common (84, ls, Sum.inl (Value.int y) :: Sum.inl (Value.int x) :: st, s, k) = zev zk_X9_common (85, ls, Sum.inl (Value.int (x * y)) :: st, s, k) := zev_go rfl rfl
theorem zr_X9_common_85 (a1 a2 a3 a4 a5 a6 a7 a8 a9 a10 a11 a12 : Option zAV) (st : List zAV) (s : zAS) (k : Nat × Nat) (o : Nat × Nat) : zev zk_X9_common (85, [some (Sum.inr o), a1, a2, a3, a4, a5, a6, a7, a8, a9, a10, a11, a12], st, s, k) = zev zk_X9_common (86, [some (Sum.inr o), a1, a2, a3, a4, a5, a6, a7, a8, a9, a10, a11, a12], Sum.inr o :: st, s, k) := zev_go rfl rfl
theorem zr_X9_common_86 (ls : zLs) (st : List zAV) (s : zAS) (k : Nat × Nat) (o i : Nat) : zev zk_X9_common (86, ls, Sum.inr (o, i) :: st, s, k) = zpush zk_X9_common 89 ls st s k (zgv zEM 9 1 o i s.1) := zf_get rfl
theorem zr_X9_common_89 (ls : zLs) (st : List zAV) (s : zAS) (k : Nat × Nat) (x y : Int32) : zev zk_X9_common (89, ls, Sum.inl (Value.int y) :: Sum.inl (Value.int x) :: st, s, k) = if y = 0 then none else zev zk_X9_common (90, ls, Sum.inl (Value.int (x - x / y * y)) :: st, s, k) := zf_rem rfl
theorem zr_X9_common_90 (a0 a1 a2 a3 a4 a5 a6 a7 a8 a9 a10 a11 a12 : Option zAV) (st : List zAV) (s : zAS) (k : Nat × Nat) (x : Int32) : zev zk_X9_common (90, [a0, a1, a2, a3, a4, a5, a6, a7, a8, a9, a10, a11, a12], Sum.inl (Value.int x) :: st, s, k) = zev zk_X9_common (92, [a0, a1, a2, a3, a4, a5, a6, a7, a8, a9, a10, zk1 a11, some (Sum.inl (Value.int x))], st, s, k) := zev_go rfl rfl
theorem zr_X9_common_92 (a1 a2 a3 a4 a5 a6 a7 a8 a9 a10 a11 a12 : Option zAV) (st : List zAV) (s : zAS) (k : Nat × Nat) (o : Nat × Nat) : zev zk_X9_common (92, [some (Sum.inr o), a1, a2, a3, a4, a5, a6, a7, a8, a9, a10, a11, a12], st, s, k) = zev zk_X9_common (93, [some (Sum.inr o), a1, a2, a3, a4, a5, a6, a7, a8, a9, a10, a11, a12], Sum.inr o :: st, s, k) := zev_go rfl rfl
theorem zr_X9_common_93 (a0 a1 a2 a3 a4 a5 a6 a7 a8 a9 a10 a12 : Option zAV) (st : List zAV) (s : zAS) (k : Nat × Nat) (x : Int32) : zev zk_X9_common (93, [a0, a1, a2, a3, a4, a5, a6, a7, a8, a9, a10, some (Sum.inl (Value.int x)), a12], st, s, k) = zev zk_X9_common (95, [a0, a1, a2, a3, a4, a5, a6, a7, a8, a9, a10, some (Sum.inl (Value.int x)), a12], Sum.inl (Value.int x) :: st, s, k) := zev_go rfl rfl
theorem zr_X9_common_95 (a0 a1 a2 a3 a4 a5 a6 a7 a8 a9 a10 a11 : Option zAV) (st : List zAV) (s : zAS) (k : Nat × Nat) (x : Int32) : zev zk_X9_common (95, [a0, a1, a2, a3, a4, a5, a6, a7, a8, a9, a10, a11, some (Sum.inl (Value.int x))], st, s, k) = zev zk_X9_common (97, [a0, a1, a2, a3, a4, a5, a6, a7, a8, a9, a10, a11, some (Sum.inl (Value.int x))], Sum.inl (Value.int x) :: st, s, k) := zev_go rfl rfl
theorem zr_X9_common_97 (a0 a1 a2 a3 a5 a6 a7 a8 a9 a10 a11 a12 : Option zAV) (st : List zAV) (s : zAS) (k : Nat × Nat) (x : Int32) : zev zk_X9_common (97, [a0, a1, a2, a3, some (Sum.inl (Value.int x)), a5, a6, a7, a8, a9, a10, a11, a12], st, s, k) = zev zk_X9_common (99, [a0, a1, a2, a3, some (Sum.inl (Value.int x)), a5, a6, a7, a8, a9, a10, a11, a12], Sum.inl (Value.int x) :: st, s, k) := zev_go rfl rfl
theorem zr_X9_common_99 (a0 a1 a2 a3 a4 a6 a7 a8 a9 a10 a11 a12 : Option zAV) (st : List zAV) (s : zAS) (k : Nat × Nat) (x : Int32) : zev zk_X9_common (99, [a0, a1, a2, a3, a4, some (Sum.inl (Value.int x)), a6, a7, a8, a9, a10, a11, a12], st, s, k) = zev zk_X9_common (101, [a0, a1, a2, a3, a4, some (Sum.inl (Value.int x)), a6, a7, a8, a9, a10, a11, a12], Sum.inl (Value.int x) :: st, s, k) := zev_go rfl rfl
theorem zr_X9_common_101 (ls : zLs) (st : List zAV) (s : zAS) (k : Nat × Nat) (r v0 v1 v2 v3 : zAV) (h : zcok zEM 9 0 0 (zR_X9_common).cells (zR_X9_common).slots r st k) : zev zk_X9_common (101, ls, v3 :: v2 :: v1 :: v0 :: r :: st, s, k) = zret zk_X9_common 104 ls st (k.1 + 0, k.2 + 0) (m_X9_squareOf [r, v0, v1, v2, v3] s) := zf_callV (as := [v3, v2, v1, v0]) 4 rfl rfl h
theorem zr_X9_common_104 (a0 a1 a2 a3 a4 a5 a7 a8 a9 a10 a11 a12 : Option zAV) (st : List zAV) (s : zAS) (k : Nat × Nat) (x : Int32) : zev zk_X9_common (104, [a0, a1, a2, a3, a4, a5, some (Sum.inl (Value.int x)), a7, a8, a9, a10, a11, a12], st, s, k) = zev zk_X9_common (106, [a0, a1, a2, a3, a4, a5, some (Sum.inl (Value.int x)), a7, a8, a9, a10, a11, a12], Sum.inl (Value.int x) :: st, s, k) := zev_go rfl rfl
theorem zr_X9_common_106 (ls : zLs) (st : List zAV) (s : zAS) (k : Nat × Nat) (x y : Int32) : zev zk_X9_common (106, ls, Sum.inl (Value.int y) :: Sum.inl (Value.int x) :: st, s, k) = if decide (x = y) = true then zev zk_X9_common (112, ls, st, s, k) else zev zk_X9_common (109, ls, st, s, k) := zf_cmp (f := fun x y => decide (x = y)) rfl
theorem zr_X9_common_109 (ls : zLs) (st : List zAV) (s : zAS) (k : Nat × Nat) : zev zk_X9_common (109, ls, st, s, k) = zev zk_X9_common (125, ls, st, s, k) := zev_go rfl rfl
theorem zr_X9_common_112 (a1 a2 a3 a4 a5 a6 a7 a8 a9 a10 a11 a12 : Option zAV) (st : List zAV) (s : zAS) (k : Nat × Nat) (o : Nat × Nat) : zev zk_X9_common (112, [some (Sum.inr o), a1, a2, a3, a4, a5, a6, a7, a8, a9, a10, a11, a12], st, s, k) = zev zk_X9_common (113, [some (Sum.inr o), a1, a2, a3, a4, a5, a6, a7, a8, a9, a10, a11, a12], Sum.inr o :: st, s, k) := zev_go rfl rfl
theorem zr_X9_common_113 (a0 a1 a2 a3 a4 a5 a6 a7 a8 a9 a10 a12 : Option zAV) (st : List zAV) (s : zAS) (k : Nat × Nat) (x : Int32) : zev zk_X9_common (113, [a0, a1, a2, a3, a4, a5, a6, a7, a8, a9, a10, some (Sum.inl (Value.int x)), a12], st, s, k) = zev zk_X9_common (115, [a0, a1, a2, a3, a4, a5, a6, a7, a8, a9, a10, some (Sum.inl (Value.int x)), a12], Sum.inl (Value.int x) :: st, s, k) := zev_go rfl rfl
theorem zr_X9_common_115 (a0 a1 a2 a3 a4 a5 a6 a7 a8 a9 a10 a11 : Option zAV) (st : List zAV) (s : zAS) (k : Nat × Nat) (x : Int32) : zev zk_X9_common (115, [a0, a1, a2, a3, a4, a5, a6, a7, a8, a9, a10, a11, some (Sum.inl (Value.int x))], st, s, k) = zev zk_X9_common (117, [a0, a1, a2, a3, a4, a5, a6, a7, a8, a9, a10, a11, some (Sum.inl (Value.int x))], Sum.inl (Value.int x) :: st, s, k) := zev_go rfl rfl
theorem zr_X9_common_117 (ls : zLs) (st : List zAV) (s : zAS) (k : Nat × Nat) : zev zk_X9_common (117, ls, st, s, k) = zev zk_X9_common (118, ls, Sum.inl (Value.int (0)) :: st, s, k) := zev_go rfl rfl
theorem zr_X9_common_118 (ls : zLs) (st : List zAV) (s : zAS) (k : Nat × Nat) (r v0 v1 v2 : zAV) (h : zcok zEM 9 0 0 (zR_X9_common).cells (zR_X9_common).slots r st k) : zev zk_X9_common (118, ls, v2 :: v1 :: v0 :: r :: st, s, k) = zret zk_X9_common 121 ls st (k.1 + 0, k.2 + 0) (m_X9_lay [r, v0, v1, v2] s) := zf_callV (as := [v2, v1, v0]) 3 rfl rfl h
theorem zr_X9_common_121 (ls : zLs) (st : List zAV) (s : zAS) (k : Nat × Nat) (v : zAV) (hv : zc1 v = true) : zev zk_X9_common (121, ls, v :: st, s, k) = zev zk_X9_common (122, ls, st, s, k) := zf_pop rfl hv
theorem zr_X9_common_122 (a0 a1 a2 a3 a4 a5 a6 a7 a9 a10 a11 a12 : Option zAV) (st : List zAV) (s : zAS) (k : Nat × Nat) (x : Int32) : zev zk_X9_common (122, [a0, a1, a2, a3, a4, a5, a6, a7, some (Sum.inl (Value.int x)), a9, a10, a11, a12], st, s, k) = zev zk_X9_common (125, [a0, a1, a2, a3, a4, a5, a6, zk1 a7, some (Sum.inl (Value.int (x + (1)))), a9, a10, a11, a12], st, s, k) := zev_go rfl rfl
theorem zr_X9_common_125 (a0 a1 a2 a3 a4 a5 a6 a7 a8 a9 a11 a12 : Option zAV) (st : List zAV) (s : zAS) (k : Nat × Nat) (x : Int32) : zev zk_X9_common (125, [a0, a1, a2, a3, a4, a5, a6, a7, a8, a9, some (Sum.inl (Value.int x)), a11, a12], st, s, k) = zev zk_X9_common (128, [a0, a1, a2, a3, a4, a5, a6, a7, a8, zk1 a9, some (Sum.inl (Value.int (x + (1)))), a11, a12], st, s, k) := zev_go rfl rfl
theorem zr_X9_common_128 (ls : zLs) (st : List zAV) (s : zAS) (k : Nat × Nat) : zev zk_X9_common (128, ls, st, s, k) = zev zk_X9_common (21, ls, st, s, k) := zev_go rfl rfl
theorem zr_X9_common_131 (a0 a1 a2 a3 a4 a5 a6 a7 a9 a10 a11 a12 : Option zAV) (st : List zAV) (s : zAS) (k : Nat × Nat) (x : Int32) : zev zk_X9_common (131, [a0, a1, a2, a3, a4, a5, a6, a7, some (Sum.inl (Value.int x)), a9, a10, a11, a12], st, s, k) = zev zk_X9_common (133, [a0, a1, a2, a3, a4, a5, a6, a7, some (Sum.inl (Value.int x)), a9, a10, a11, a12], Sum.inl (Value.int x) :: st, s, k) := zev_go rfl rfl
theorem zr_X9_common_133 (ls : zLs) (st : List zAV) (s : zAS) (k : Nat × Nat) (x : Int32) : zev zk_X9_common (133, ls, Sum.inl (Value.int x) :: st, s, k) = if decide (x ≤ 0) = true then zev zk_X9_common (140, ls, st, s, k) else zev zk_X9_common (136, ls, st, s, k) := zf_if (f := fun x => decide (x ≤ 0)) rfl
theorem zr_X9_common_136 (ls : zLs) (st : List zAV) (s : zAS) (k : Nat × Nat) : zev zk_X9_common (136, ls, st, s, k) = zev zk_X9_common (137, ls, Sum.inl (Value.int (1)) :: st, s, k) := zev_go rfl rfl
theorem zr_X9_common_137 (ls : zLs) (st : List zAV) (s : zAS) (k : Nat × Nat) : zev zk_X9_common (137, ls, st, s, k) = zev zk_X9_common (141, ls, st, s, k) := zev_go rfl rfl
theorem zr_X9_common_140 (ls : zLs) (st : List zAV) (s : zAS) (k : Nat × Nat) : zev zk_X9_common (140, ls, st, s, k) = zev zk_X9_common (141, ls, Sum.inl (Value.int (0)) :: st, s, k) := zev_go rfl rfl
theorem zr_X9_common_141 (ls : zLs) (s : zAS) (k : Nat × Nat) (x : Int32) (hx : x = 0 ∨ x = 1) : zev zk_X9_common (141, ls, [Sum.inl (Value.int x)], s, k) = some (.inl (some (Sum.inl (Value.int x))), s) := zf_retz rfl hx
/-! X9_commonOfCircles: PrimePlaneModel.commonOfCircles(IIZ)Z -/
abbrev zR_X9_commonOfCircles : Room := ({ frames := 4, cells := 0, slots := 0, locals := 99 } : Room)
noncomputable def zl_X9_commonOfCircles : List (Nat × zOp) := [(0, z_ic (2) 1), (1, z_lda 0 2), (2, z_ldi 2 3), (3, z_callV zEM 9 m_X9_x 1 0 0 (zR_X9_commonOfCircles).cells (zR_X9_commonOfCircles).slots 6), (6, z_lda 0 7), (7, z_ldi 1 8), (8, z_callV zEM 9 m_X9_x 1 0 0 (zR_X9_commonOfCircles).cells (zR_X9_commonOfCircles).slots 11), (11, z_bin (fun x y => x - y) 12), (12, z_bin (fun x y => x * y) 13), (13, z_sti 4 15), (15, z_ic (2) 16), (16, z_lda 0 17), (17, z_ldi 2 18), (18, z_callV zEM 9 m_X9_y 1 0 0 (zR_X9_commonOfCircles).cells (zR_X9_commonOfCircles).slots 21), (21, z_lda 0 22), (22, z_ldi 1 23), (23, z_callV zEM 9 m_X9_y 1 0 0 (zR_X9_commonOfCircles).cells (zR_X9_commonOfCircles).slots 26), (26, z_bin (fun x y => x - y) 27), (27, z_bin (fun x y => x * y) 28), (28, z_sti 5 30), (30, z_lda 0 31), (31, z_ldi 4 33), (33, z_ldi 5 35), (35, z_lda 0 36), (36, z_ldi 1 37), (37, z_callV zEM 9 m_X9_x 1 0 0 (zR_X9_commonOfCircles).cells (zR_X9_commonOfCircles).slots 40), (40, z_lda 0 41), (41, z_ldi 1 42), (42, z_callV zEM 9 m_X9_x 1 0 0 (zR_X9_commonOfCircles).cells (zR_X9_commonOfCircles).slots 45), (45, z_bin (fun x y => x * y) 46), (46, z_lda 0 47), (47, z_ldi 1 48), (48, z_callV zEM 9 m_X9_y 1 0 0 (zR_X9_commonOfCircles).cells (zR_X9_commonOfCircles).slots 51), (51, z_lda 0 52), (52, z_ldi 1 53), (53, z_callV zEM 9 m_X9_y 1 0 0 (zR_X9_commonOfCircles).cells (zR_X9_commonOfCircles).slots 56), (56, z_bin (fun x y => x * y) 57), (57, z_bin (fun x y => x + y) 58), (58, z_lda 0 59), (59, z_ldi 2 60), (60, z_callV zEM 9 m_X9_x 1 0 0 (zR_X9_commonOfCircles).cells (zR_X9_commonOfCircles).slots 63), (63, z_lda 0 64), (64, z_ldi 2 65), (65, z_callV zEM 9 m_X9_x 1 0 0 (zR_X9_commonOfCircles).cells (zR_X9_commonOfCircles).slots 68), (68, z_bin (fun x y => x * y) 69), (69, z_bin (fun x y => x - y) 70), (70, z_lda 0 71), (71, z_ldi 2 72), (72, z_callV zEM 9 m_X9_y 1 0 0 (zR_X9_commonOfCircles).cells (zR_X9_commonOfCircles).slots 75), (75, z_lda 0 76), (76, z_ldi 2 77), (77, z_callV zEM 9 m_X9_y 1 0 0 (zR_X9_commonOfCircles).cells (zR_X9_commonOfCircles).slots 80), (80, z_bin (fun x y => x * y) 81), (81, z_bin (fun x y => x - y) 82), (82, z_lda 0 83), (83, z_ldi 1 84), (84, z_callV zEM 9 m_X9_z 1 0 0 (zR_X9_commonOfCircles).cells (zR_X9_commonOfCircles).slots 87), (87, z_bin (fun x y => x - y) 88), (88, z_lda 0 89), (89, z_ldi 2 90), (90, z_callV zEM 9 m_X9_z 1 0 0 (zR_X9_commonOfCircles).cells (zR_X9_commonOfCircles).slots 93), (93, z_bin (fun x y => x + y) 94), (94, z_callV zEM 9 m_X9_layLine 3 0 0 (zR_X9_commonOfCircles).cells (zR_X9_commonOfCircles).slots 97), (97, z_if (fun x => decide (¬ x = 0)) 102 100), (100, z_ic (0) 101), (101, z_reti true), (102, z_lda 0 103), (103, z_lda 0 104), (104, z_get zEM 9 6 107), (107, z_ic (0) 108), (108, z_iald zEM 109), (109, z_lda 0 110), (110, z_get zEM 9 6 113), (113, z_ic (1) 114), (114, z_iald zEM 115), (115, z_lda 0 116), (116, z_get zEM 9 6 119), (119, z_ic (2) 120), (120, z_iald zEM 121), (121, z_lda 0 122), (122, z_ldi 1 123), (123, z_callV zEM 9 m_X9_x 1 0 0 (zR_X9_commonOfCircles).cells (zR_X9_commonOfCircles).slots 126), (126, z_lda 0 127), (127, z_ldi 1 128), (128, z_callV zEM 9 m_X9_y 1 0 0 (zR_X9_commonOfCircles).cells (zR_X9_commonOfCircles).slots 131), (131, z_lda 0 132), (132, z_ldi 1 133), (133, z_callV zEM 9 m_X9_z 1 0 0 (zR_X9_commonOfCircles).cells (zR_X9_commonOfCircles).slots 136), (136, z_ldi 3 137), (137, z_callV zEM 9 m_X9_common 7 0 0 (zR_X9_commonOfCircles).cells (zR_X9_commonOfCircles).slots 140), (140, z_reti true)]
noncomputable def zk_X9_commonOfCircles (pc : Nat) : Option zOp := zlook zl_X9_commonOfCircles pc
noncomputable def m_X9_commonOfCircles : List zAV → zAS → Option zOut := zmeth zk_X9_commonOfCircles 6
set_option maxRecDepth 100000 in
set_option maxHeartbeats 4000000 in
theorem zcs_X9_commonOfCircles {R : Room} (hR : R = zR_X9_commonOfCircles) : ∀ q ∈ zl_X9_commonOfCircles, zS zEM yX9_commonOfCircles.cls cX9_commonOfCircles 6 wsX9_commonOfCircles (some .boolean) R q.1 q.2 := by
  subst hR
  have hin9 : ∀ w ∈ wsX90, w ∈ wsX9_commonOfCircles := fun w h => List.mem_cons_of_mem _ (List.mem_append_right _ h)
  refine List.forall_mem_cons.mpr ⟨zs_iconst dX9_commonOfCircles_0 (by decide), ?_⟩
  refine List.forall_mem_cons.mpr ⟨zs_aload_n dX9_commonOfCircles_1 rfl, ?_⟩
  refine List.forall_mem_cons.mpr ⟨zs_iload_n dX9_commonOfCircles_2 rfl, ?_⟩
  refine List.forall_mem_cons.mpr ⟨zs_callV (ci := 9) (rm := zR_X9_x) (n := 1) rfl zM_X9_x gX9_commonOfCircles_X9_x rfl (by decide +kernel) ⟨by decide, by decide⟩ dX9_commonOfCircles_3, ?_⟩
  refine List.forall_mem_cons.mpr ⟨zs_aload_n dX9_commonOfCircles_6 rfl, ?_⟩
  refine List.forall_mem_cons.mpr ⟨zs_iload_n dX9_commonOfCircles_7 rfl, ?_⟩
  refine List.forall_mem_cons.mpr ⟨zs_callV (ci := 9) (rm := zR_X9_x) (n := 1) rfl zM_X9_x gX9_commonOfCircles_X9_x rfl (by decide +kernel) ⟨by decide, by decide⟩ dX9_commonOfCircles_8, ?_⟩
  refine List.forall_mem_cons.mpr ⟨zs_isub dX9_commonOfCircles_11, ?_⟩
  refine List.forall_mem_cons.mpr ⟨zs_imul dX9_commonOfCircles_12, ?_⟩
  refine List.forall_mem_cons.mpr ⟨zs_istore dX9_commonOfCircles_13, ?_⟩
  refine List.forall_mem_cons.mpr ⟨zs_iconst dX9_commonOfCircles_15 (by decide), ?_⟩
  refine List.forall_mem_cons.mpr ⟨zs_aload_n dX9_commonOfCircles_16 rfl, ?_⟩
  refine List.forall_mem_cons.mpr ⟨zs_iload_n dX9_commonOfCircles_17 rfl, ?_⟩
  refine List.forall_mem_cons.mpr ⟨zs_callV (ci := 9) (rm := zR_X9_y) (n := 1) rfl zM_X9_y gX9_commonOfCircles_X9_y rfl (by decide +kernel) ⟨by decide, by decide⟩ dX9_commonOfCircles_18, ?_⟩
  refine List.forall_mem_cons.mpr ⟨zs_aload_n dX9_commonOfCircles_21 rfl, ?_⟩
  refine List.forall_mem_cons.mpr ⟨zs_iload_n dX9_commonOfCircles_22 rfl, ?_⟩
  refine List.forall_mem_cons.mpr ⟨zs_callV (ci := 9) (rm := zR_X9_y) (n := 1) rfl zM_X9_y gX9_commonOfCircles_X9_y rfl (by decide +kernel) ⟨by decide, by decide⟩ dX9_commonOfCircles_23, ?_⟩
  refine List.forall_mem_cons.mpr ⟨zs_isub dX9_commonOfCircles_26, ?_⟩
  refine List.forall_mem_cons.mpr ⟨zs_imul dX9_commonOfCircles_27, ?_⟩
  refine List.forall_mem_cons.mpr ⟨zs_istore dX9_commonOfCircles_28, ?_⟩
  refine List.forall_mem_cons.mpr ⟨zs_aload_n dX9_commonOfCircles_30 rfl, ?_⟩
  refine List.forall_mem_cons.mpr ⟨zs_iload dX9_commonOfCircles_31, ?_⟩
  refine List.forall_mem_cons.mpr ⟨zs_iload dX9_commonOfCircles_33, ?_⟩
  refine List.forall_mem_cons.mpr ⟨zs_aload_n dX9_commonOfCircles_35 rfl, ?_⟩
  refine List.forall_mem_cons.mpr ⟨zs_iload_n dX9_commonOfCircles_36 rfl, ?_⟩
  refine List.forall_mem_cons.mpr ⟨zs_callV (ci := 9) (rm := zR_X9_x) (n := 1) rfl zM_X9_x gX9_commonOfCircles_X9_x rfl (by decide +kernel) ⟨by decide, by decide⟩ dX9_commonOfCircles_37, ?_⟩
  refine List.forall_mem_cons.mpr ⟨zs_aload_n dX9_commonOfCircles_40 rfl, ?_⟩
  refine List.forall_mem_cons.mpr ⟨zs_iload_n dX9_commonOfCircles_41 rfl, ?_⟩
  refine List.forall_mem_cons.mpr ⟨zs_callV (ci := 9) (rm := zR_X9_x) (n := 1) rfl zM_X9_x gX9_commonOfCircles_X9_x rfl (by decide +kernel) ⟨by decide, by decide⟩ dX9_commonOfCircles_42, ?_⟩
  refine List.forall_mem_cons.mpr ⟨zs_imul dX9_commonOfCircles_45, ?_⟩
  refine List.forall_mem_cons.mpr ⟨zs_aload_n dX9_commonOfCircles_46 rfl, ?_⟩
  refine List.forall_mem_cons.mpr ⟨zs_iload_n dX9_commonOfCircles_47 rfl, ?_⟩
  refine List.forall_mem_cons.mpr ⟨zs_callV (ci := 9) (rm := zR_X9_y) (n := 1) rfl zM_X9_y gX9_commonOfCircles_X9_y rfl (by decide +kernel) ⟨by decide, by decide⟩ dX9_commonOfCircles_48, ?_⟩
  refine List.forall_mem_cons.mpr ⟨zs_aload_n dX9_commonOfCircles_51 rfl, ?_⟩
  refine List.forall_mem_cons.mpr ⟨zs_iload_n dX9_commonOfCircles_52 rfl, ?_⟩
  refine List.forall_mem_cons.mpr ⟨zs_callV (ci := 9) (rm := zR_X9_y) (n := 1) rfl zM_X9_y gX9_commonOfCircles_X9_y rfl (by decide +kernel) ⟨by decide, by decide⟩ dX9_commonOfCircles_53, ?_⟩
  refine List.forall_mem_cons.mpr ⟨zs_imul dX9_commonOfCircles_56, ?_⟩
  refine List.forall_mem_cons.mpr ⟨zs_iadd dX9_commonOfCircles_57, ?_⟩
  refine List.forall_mem_cons.mpr ⟨zs_aload_n dX9_commonOfCircles_58 rfl, ?_⟩
  refine List.forall_mem_cons.mpr ⟨zs_iload_n dX9_commonOfCircles_59 rfl, ?_⟩
  refine List.forall_mem_cons.mpr ⟨zs_callV (ci := 9) (rm := zR_X9_x) (n := 1) rfl zM_X9_x gX9_commonOfCircles_X9_x rfl (by decide +kernel) ⟨by decide, by decide⟩ dX9_commonOfCircles_60, ?_⟩
  refine List.forall_mem_cons.mpr ⟨zs_aload_n dX9_commonOfCircles_63 rfl, ?_⟩
  refine List.forall_mem_cons.mpr ⟨zs_iload_n dX9_commonOfCircles_64 rfl, ?_⟩
  refine List.forall_mem_cons.mpr ⟨zs_callV (ci := 9) (rm := zR_X9_x) (n := 1) rfl zM_X9_x gX9_commonOfCircles_X9_x rfl (by decide +kernel) ⟨by decide, by decide⟩ dX9_commonOfCircles_65, ?_⟩
  refine List.forall_mem_cons.mpr ⟨zs_imul dX9_commonOfCircles_68, ?_⟩
  refine List.forall_mem_cons.mpr ⟨zs_isub dX9_commonOfCircles_69, ?_⟩
  refine List.forall_mem_cons.mpr ⟨zs_aload_n dX9_commonOfCircles_70 rfl, ?_⟩
  refine List.forall_mem_cons.mpr ⟨zs_iload_n dX9_commonOfCircles_71 rfl, ?_⟩
  refine List.forall_mem_cons.mpr ⟨zs_callV (ci := 9) (rm := zR_X9_y) (n := 1) rfl zM_X9_y gX9_commonOfCircles_X9_y rfl (by decide +kernel) ⟨by decide, by decide⟩ dX9_commonOfCircles_72, ?_⟩
  refine List.forall_mem_cons.mpr ⟨zs_aload_n dX9_commonOfCircles_75 rfl, ?_⟩
  refine List.forall_mem_cons.mpr ⟨zs_iload_n dX9_commonOfCircles_76 rfl, ?_⟩
  refine List.forall_mem_cons.mpr ⟨zs_callV (ci := 9) (rm := zR_X9_y) (n := 1) rfl zM_X9_y gX9_commonOfCircles_X9_y rfl (by decide +kernel) ⟨by decide, by decide⟩ dX9_commonOfCircles_77, ?_⟩
  refine List.forall_mem_cons.mpr ⟨zs_imul dX9_commonOfCircles_80, ?_⟩
  refine List.forall_mem_cons.mpr ⟨zs_isub dX9_commonOfCircles_81, ?_⟩
  refine List.forall_mem_cons.mpr ⟨zs_aload_n dX9_commonOfCircles_82 rfl, ?_⟩
  refine List.forall_mem_cons.mpr ⟨zs_iload_n dX9_commonOfCircles_83 rfl, ?_⟩
  refine List.forall_mem_cons.mpr ⟨zs_callV (ci := 9) (rm := zR_X9_z) (n := 1) rfl zM_X9_z gX9_commonOfCircles_X9_z rfl (by decide +kernel) ⟨by decide, by decide⟩ dX9_commonOfCircles_84, ?_⟩
  refine List.forall_mem_cons.mpr ⟨zs_isub dX9_commonOfCircles_87, ?_⟩
  refine List.forall_mem_cons.mpr ⟨zs_aload_n dX9_commonOfCircles_88 rfl, ?_⟩
  refine List.forall_mem_cons.mpr ⟨zs_iload_n dX9_commonOfCircles_89 rfl, ?_⟩
  refine List.forall_mem_cons.mpr ⟨zs_callV (ci := 9) (rm := zR_X9_z) (n := 1) rfl zM_X9_z gX9_commonOfCircles_X9_z rfl (by decide +kernel) ⟨by decide, by decide⟩ dX9_commonOfCircles_90, ?_⟩
  refine List.forall_mem_cons.mpr ⟨zs_iadd dX9_commonOfCircles_93, ?_⟩
  refine List.forall_mem_cons.mpr ⟨zs_callV (ci := 9) (rm := zR_X9_layLine) (n := 3) rfl zM_X9_layLine gX9_commonOfCircles_X9_layLine rfl (by decide +kernel) ⟨by decide, by decide⟩ dX9_commonOfCircles_94, ?_⟩
  refine List.forall_mem_cons.mpr ⟨zs_ifne dX9_commonOfCircles_97 (by decide), ?_⟩
  refine List.forall_mem_cons.mpr ⟨zs_iconst dX9_commonOfCircles_100 (by decide), ?_⟩
  refine List.forall_mem_cons.mpr ⟨zs_reti (ty := .boolean) rfl (fun x h => (znz x h).1) dX9_commonOfCircles_101, ?_⟩
  refine List.forall_mem_cons.mpr ⟨zs_aload_n dX9_commonOfCircles_102 rfl, ?_⟩
  refine List.forall_mem_cons.mpr ⟨zs_aload_n dX9_commonOfCircles_103 rfl, ?_⟩
  refine List.forall_mem_cons.mpr ⟨zs_get (ci := 9) (j := 6) (N := 10) (C := RX9) (T := TX9) (index := 20) rfl (by decide) hin9 (List.mem_of_getElem? (i := 1) rfl) dX9_commonOfCircles_104, ?_⟩
  refine List.forall_mem_cons.mpr ⟨zs_iconst dX9_commonOfCircles_107 (by decide), ?_⟩
  refine List.forall_mem_cons.mpr ⟨zs_iald dX9_commonOfCircles_108, ?_⟩
  refine List.forall_mem_cons.mpr ⟨zs_aload_n dX9_commonOfCircles_109 rfl, ?_⟩
  refine List.forall_mem_cons.mpr ⟨zs_get (ci := 9) (j := 6) (N := 10) (C := RX9) (T := TX9) (index := 20) rfl (by decide) hin9 (List.mem_of_getElem? (i := 1) rfl) dX9_commonOfCircles_110, ?_⟩
  refine List.forall_mem_cons.mpr ⟨zs_iconst dX9_commonOfCircles_113 (by decide), ?_⟩
  refine List.forall_mem_cons.mpr ⟨zs_iald dX9_commonOfCircles_114, ?_⟩
  refine List.forall_mem_cons.mpr ⟨zs_aload_n dX9_commonOfCircles_115 rfl, ?_⟩
  refine List.forall_mem_cons.mpr ⟨zs_get (ci := 9) (j := 6) (N := 10) (C := RX9) (T := TX9) (index := 20) rfl (by decide) hin9 (List.mem_of_getElem? (i := 1) rfl) dX9_commonOfCircles_116, ?_⟩
  refine List.forall_mem_cons.mpr ⟨zs_iconst dX9_commonOfCircles_119 (by decide), ?_⟩
  refine List.forall_mem_cons.mpr ⟨zs_iald dX9_commonOfCircles_120, ?_⟩
  refine List.forall_mem_cons.mpr ⟨zs_aload_n dX9_commonOfCircles_121 rfl, ?_⟩
  refine List.forall_mem_cons.mpr ⟨zs_iload_n dX9_commonOfCircles_122 rfl, ?_⟩
  refine List.forall_mem_cons.mpr ⟨zs_callV (ci := 9) (rm := zR_X9_x) (n := 1) rfl zM_X9_x gX9_commonOfCircles_X9_x rfl (by decide +kernel) ⟨by decide, by decide⟩ dX9_commonOfCircles_123, ?_⟩
  refine List.forall_mem_cons.mpr ⟨zs_aload_n dX9_commonOfCircles_126 rfl, ?_⟩
  refine List.forall_mem_cons.mpr ⟨zs_iload_n dX9_commonOfCircles_127 rfl, ?_⟩
  refine List.forall_mem_cons.mpr ⟨zs_callV (ci := 9) (rm := zR_X9_y) (n := 1) rfl zM_X9_y gX9_commonOfCircles_X9_y rfl (by decide +kernel) ⟨by decide, by decide⟩ dX9_commonOfCircles_128, ?_⟩
  refine List.forall_mem_cons.mpr ⟨zs_aload_n dX9_commonOfCircles_131 rfl, ?_⟩
  refine List.forall_mem_cons.mpr ⟨zs_iload_n dX9_commonOfCircles_132 rfl, ?_⟩
  refine List.forall_mem_cons.mpr ⟨zs_callV (ci := 9) (rm := zR_X9_z) (n := 1) rfl zM_X9_z gX9_commonOfCircles_X9_z rfl (by decide +kernel) ⟨by decide, by decide⟩ dX9_commonOfCircles_133, ?_⟩
  refine List.forall_mem_cons.mpr ⟨zs_iload_n dX9_commonOfCircles_136 rfl, ?_⟩
  refine List.forall_mem_cons.mpr ⟨zs_callV (ci := 9) (rm := zR_X9_common) (n := 7) rfl zM_X9_common gX9_commonOfCircles_X9_common rfl (by decide +kernel) ⟨by decide, by decide⟩ dX9_commonOfCircles_137, ?_⟩
  refine List.forall_mem_cons.mpr ⟨zs_reti (ty := .boolean) rfl (fun x h => (znz x h).1) dX9_commonOfCircles_140, ?_⟩
  exact fun _ h => absurd h List.not_mem_nil
theorem zM_X9_commonOfCircles : zMeets zEM yX9_commonOfCircles wsX9_commonOfCircles zR_X9_commonOfCircles m_X9_commonOfCircles := zmeth_M zEMok (zlook_all (zcs_X9_commonOfCircles rfl)) (by decide +kernel) rfl
theorem zr_X9_commonOfCircles_0 (ls : zLs) (st : List zAV) (s : zAS) (k : Nat × Nat) : zev zk_X9_commonOfCircles (0, ls, st, s, k) = zev zk_X9_commonOfCircles (1, ls, Sum.inl (Value.int (2)) :: st, s, k) := zev_go rfl rfl
theorem zr_X9_commonOfCircles_1 (a1 a2 a3 a4 a5 : Option zAV) (st : List zAV) (s : zAS) (k : Nat × Nat) (o : Nat × Nat) : zev zk_X9_commonOfCircles (1, [some (Sum.inr o), a1, a2, a3, a4, a5], st, s, k) = zev zk_X9_commonOfCircles (2, [some (Sum.inr o), a1, a2, a3, a4, a5], Sum.inr o :: st, s, k) := zev_go rfl rfl
theorem zr_X9_commonOfCircles_2 (a0 a1 a3 a4 a5 : Option zAV) (st : List zAV) (s : zAS) (k : Nat × Nat) (x : Int32) : zev zk_X9_commonOfCircles (2, [a0, a1, some (Sum.inl (Value.int x)), a3, a4, a5], st, s, k) = zev zk_X9_commonOfCircles (3, [a0, a1, some (Sum.inl (Value.int x)), a3, a4, a5], Sum.inl (Value.int x) :: st, s, k) := zev_go rfl rfl
theorem zr_X9_commonOfCircles_3 (ls : zLs) (st : List zAV) (s : zAS) (k : Nat × Nat) (r v0 : zAV) (h : zcok zEM 9 0 0 (zR_X9_commonOfCircles).cells (zR_X9_commonOfCircles).slots r st k) : zev zk_X9_commonOfCircles (3, ls, v0 :: r :: st, s, k) = zret zk_X9_commonOfCircles 6 ls st (k.1 + 0, k.2 + 0) (m_X9_x [r, v0] s) := zf_callV (as := [v0]) 1 rfl rfl h
theorem zr_X9_commonOfCircles_6 (a1 a2 a3 a4 a5 : Option zAV) (st : List zAV) (s : zAS) (k : Nat × Nat) (o : Nat × Nat) : zev zk_X9_commonOfCircles (6, [some (Sum.inr o), a1, a2, a3, a4, a5], st, s, k) = zev zk_X9_commonOfCircles (7, [some (Sum.inr o), a1, a2, a3, a4, a5], Sum.inr o :: st, s, k) := zev_go rfl rfl
theorem zr_X9_commonOfCircles_7 (a0 a2 a3 a4 a5 : Option zAV) (st : List zAV) (s : zAS) (k : Nat × Nat) (x : Int32) : zev zk_X9_commonOfCircles (7, [a0, some (Sum.inl (Value.int x)), a2, a3, a4, a5], st, s, k) = zev zk_X9_commonOfCircles (8, [a0, some (Sum.inl (Value.int x)), a2, a3, a4, a5], Sum.inl (Value.int x) :: st, s, k) := zev_go rfl rfl
theorem zr_X9_commonOfCircles_8 (ls : zLs) (st : List zAV) (s : zAS) (k : Nat × Nat) (r v0 : zAV) (h : zcok zEM 9 0 0 (zR_X9_commonOfCircles).cells (zR_X9_commonOfCircles).slots r st k) : zev zk_X9_commonOfCircles (8, ls, v0 :: r :: st, s, k) = zret zk_X9_commonOfCircles 11 ls st (k.1 + 0, k.2 + 0) (m_X9_x [r, v0] s) := zf_callV (as := [v0]) 1 rfl rfl h
theorem zr_X9_commonOfCircles_11 (ls : zLs) (st : List zAV) (s : zAS) (k : Nat × Nat) (x y : Int32) : zev zk_X9_commonOfCircles (11, ls, Sum.inl (Value.int y) :: Sum.inl (Value.int x) :: st, s, k) = zev zk_X9_commonOfCircles (12, ls, Sum.inl (Value.int (x - y)) :: st, s, k) := zev_go rfl rfl
theorem zr_X9_commonOfCircles_12 (ls : zLs) (st : List zAV) (s : zAS) (k : Nat × Nat) (x y : Int32) : zev zk_X9_commonOfCircles (12, ls, Sum.inl (Value.int y) :: Sum.inl (Value.int x) :: st, s, k) = zev zk_X9_commonOfCircles (13, ls, Sum.inl (Value.int (x * y)) :: st, s, k) := zev_go rfl rfl
theorem zr_X9_commonOfCircles_13 (a0 a1 a2 a3 a4 a5 : Option zAV) (st : List zAV) (s : zAS) (k : Nat × Nat) (x : Int32) : zev zk_X9_commonOfCircles (13, [a0, a1, a2, a3, a4, a5], Sum.inl (Value.int x) :: st, s, k) = zev zk_X9_commonOfCircles (15, [a0, a1, a2, zk1 a3, some (Sum.inl (Value.int x)), a5], st, s, k) := zev_go rfl rfl
theorem zr_X9_commonOfCircles_15 (ls : zLs) (st : List zAV) (s : zAS) (k : Nat × Nat) : zev zk_X9_commonOfCircles (15, ls, st, s, k) = zev zk_X9_commonOfCircles (16, ls, Sum.inl (Value.int (2)) :: st, s, k) := zev_go rfl rfl
theorem zr_X9_commonOfCircles_16 (a1 a2 a3 a4 a5 : Option zAV) (st : List zAV) (s : zAS) (k : Nat × Nat) (o : Nat × Nat) : zev zk_X9_commonOfCircles (16, [some (Sum.inr o), a1, a2, a3, a4, a5], st, s, k) = zev zk_X9_commonOfCircles (17, [some (Sum.inr o), a1, a2, a3, a4, a5], Sum.inr o :: st, s, k) := zev_go rfl rfl
theorem zr_X9_commonOfCircles_17 (a0 a1 a3 a4 a5 : Option zAV) (st : List zAV) (s : zAS) (k : Nat × Nat) (x : Int32) : zev zk_X9_commonOfCircles (17, [a0, a1, some (Sum.inl (Value.int x)), a3, a4, a5], st, s, k) = zev zk_X9_commonOfCircles (18, [a0, a1, some (Sum.inl (Value.int x)), a3, a4, a5], Sum.inl (Value.int x) :: st, s, k) := zev_go rfl rfl
theorem zr_X9_commonOfCircles_18 (ls : zLs) (st : List zAV) (s : zAS) (k : Nat × Nat) (r v0 : zAV) (h : zcok zEM 9 0 0 (zR_X9_commonOfCircles).cells (zR_X9_commonOfCircles).slots r st k) : zev zk_X9_commonOfCircles (18, ls, v0 :: r :: st, s, k) = zret zk_X9_commonOfCircles 21 ls st (k.1 + 0, k.2 + 0) (m_X9_y [r, v0] s) := zf_callV (as := [v0]) 1 rfl rfl h
theorem zr_X9_commonOfCircles_21 (a1 a2 a3 a4 a5 : Option zAV) (st : List zAV) (s : zAS) (k : Nat × Nat) (o : Nat × Nat) : zev zk_X9_commonOfCircles (21, [some (Sum.inr o), a1, a2, a3, a4, a5], st, s, k) = zev zk_X9_commonOfCircles (22, [some (Sum.inr o), a1, a2, a3, a4, a5], Sum.inr o :: st, s, k) := zev_go rfl rfl
theorem zr_X9_commonOfCircles_22 (a0 a2 a3 a4 a5 : Option zAV) (st : List zAV) (s : zAS) (k : Nat × Nat) (x : Int32) : zev zk_X9_commonOfCircles (22, [a0, some (Sum.inl (Value.int x)), a2, a3, a4, a5], st, s, k) = zev zk_X9_commonOfCircles (23, [a0, some (Sum.inl (Value.int x)), a2, a3, a4, a5], Sum.inl (Value.int x) :: st, s, k) := zev_go rfl rfl
theorem zr_X9_commonOfCircles_23 (ls : zLs) (st : List zAV) (s : zAS) (k : Nat × Nat) (r v0 : zAV) (h : zcok zEM 9 0 0 (zR_X9_commonOfCircles).cells (zR_X9_commonOfCircles).slots r st k) : zev zk_X9_commonOfCircles (23, ls, v0 :: r :: st, s, k) = zret zk_X9_commonOfCircles 26 ls st (k.1 + 0, k.2 + 0) (m_X9_y [r, v0] s) := zf_callV (as := [v0]) 1 rfl rfl h
theorem zr_X9_commonOfCircles_26 (ls : zLs) (st : List zAV) (s : zAS) (k : Nat × Nat) (x y : Int32) : zev zk_X9_commonOfCircles (26, ls, Sum.inl (Value.int y) :: Sum.inl (Value.int x) :: st, s, k) = zev zk_X9_commonOfCircles (27, ls, Sum.inl (Value.int (x - y)) :: st, s, k) := zev_go rfl rfl
theorem zr_X9_commonOfCircles_27 (ls : zLs) (st : List zAV) (s : zAS) (k : Nat × Nat) (x y : Int32) : zev zk_X9_commonOfCircles (27, ls, Sum.inl (Value.int y) :: Sum.inl (Value.int x) :: st, s, k) = zev zk_X9_commonOfCircles (28, ls, Sum.inl (Value.int (x * y)) :: st, s, k) := zev_go rfl rfl
theorem zr_X9_commonOfCircles_28 (a0 a1 a2 a3 a4 a5 : Option zAV) (st : List zAV) (s : zAS) (k : Nat × Nat) (x : Int32) : zev zk_X9_commonOfCircles (28, [a0, a1, a2, a3, a4, a5], Sum.inl (Value.int x) :: st, s, k) = zev zk_X9_commonOfCircles (30, [a0, a1, a2, a3, zk1 a4, some (Sum.inl (Value.int x))], st, s, k) := zev_go rfl rfl
theorem zr_X9_commonOfCircles_30 (a1 a2 a3 a4 a5 : Option zAV) (st : List zAV) (s : zAS) (k : Nat × Nat) (o : Nat × Nat) : zev zk_X9_commonOfCircles (30, [some (Sum.inr o), a1, a2, a3, a4, a5], st, s, k) = zev zk_X9_commonOfCircles (31, [some (Sum.inr o), a1, a2, a3, a4, a5], Sum.inr o :: st, s, k) := zev_go rfl rfl
theorem zr_X9_commonOfCircles_31 (a0 a1 a2 a3 a5 : Option zAV) (st : List zAV) (s : zAS) (k : Nat × Nat) (x : Int32) : zev zk_X9_commonOfCircles (31, [a0, a1, a2, a3, some (Sum.inl (Value.int x)), a5], st, s, k) = zev zk_X9_commonOfCircles (33, [a0, a1, a2, a3, some (Sum.inl (Value.int x)), a5], Sum.inl (Value.int x) :: st, s, k) := zev_go rfl rfl
theorem zr_X9_commonOfCircles_33 (a0 a1 a2 a3 a4 : Option zAV) (st : List zAV) (s : zAS) (k : Nat × Nat) (x : Int32) : zev zk_X9_commonOfCircles (33, [a0, a1, a2, a3, a4, some (Sum.inl (Value.int x))], st, s, k) = zev zk_X9_commonOfCircles (35, [a0, a1, a2, a3, a4, some (Sum.inl (Value.int x))], Sum.inl (Value.int x) :: st, s, k) := zev_go rfl rfl
theorem zr_X9_commonOfCircles_35 (a1 a2 a3 a4 a5 : Option zAV) (st : List zAV) (s : zAS) (k : Nat × Nat) (o : Nat × Nat) : zev zk_X9_commonOfCircles (35, [some (Sum.inr o), a1, a2, a3, a4, a5], st, s, k) = zev zk_X9_commonOfCircles (36, [some (Sum.inr o), a1, a2, a3, a4, a5], Sum.inr o :: st, s, k) := zev_go rfl rfl
theorem zr_X9_commonOfCircles_36 (a0 a2 a3 a4 a5 : Option zAV) (st : List zAV) (s : zAS) (k : Nat × Nat) (x : Int32) : zev zk_X9_commonOfCircles (36, [a0, some (Sum.inl (Value.int x)), a2, a3, a4, a5], st, s, k) = zev zk_X9_commonOfCircles (37, [a0, some (Sum.inl (Value.int x)), a2, a3, a4, a5], Sum.inl (Value.int x) :: st, s, k) := zev_go rfl rfl
theorem zr_X9_commonOfCircles_37 (ls : zLs) (st : List zAV) (s : zAS) (k : Nat × Nat) (r v0 : zAV) (h : zcok zEM 9 0 0 (zR_X9_commonOfCircles).cells (zR_X9_commonOfCircles).slots r st k) : zev zk_X9_commonOfCircles (37, ls, v0 :: r :: st, s, k) = zret zk_X9_commonOfCircles 40 ls st (k.1 + 0, k.2 + 0) (m_X9_x [r, v0] s) := zf_callV (as := [v0]) 1 rfl rfl h
theorem zr_X9_commonOfCircles_40 (a1 a2 a3 a4 a5 : Option zAV) (st : List zAV) (s : zAS) (k : Nat × Nat) (o : Nat × Nat) : zev zk_X9_commonOfCircles (40, [some (Sum.inr o), a1, a2, a3, a4, a5], st, s, k) = zev zk_X9_commonOfCircles (41, [some (Sum.inr o), a1, a2, a3, a4, a5], Sum.inr o :: st, s, k) := zev_go rfl rfl
theorem zr_X9_commonOfCircles_41 (a0 a2 a3 a4 a5 : Option zAV) (st : List zAV) (s : zAS) (k : Nat × Nat) (x : Int32) : zev zk_X9_commonOfCircles (41, [a0, some (Sum.inl (Value.int x)), a2, a3, a4, a5], st, s, k) = zev zk_X9_commonOfCircles (42, [a0, some (Sum.inl (Value.int x)), a2, a3, a4, a5], Sum.inl (Value.int x) :: st, s, k) := zev_go rfl rfl
theorem zr_X9_commonOfCircles_42 (ls : zLs) (st : List zAV) (s : zAS) (k : Nat × Nat) (r v0 : zAV) (h : zcok zEM 9 0 0 (zR_X9_commonOfCircles).cells (zR_X9_commonOfCircles).slots r st k) : zev zk_X9_commonOfCircles (42, ls, v0 :: r :: st, s, k) = zret zk_X9_commonOfCircles 45 ls st (k.1 + 0, k.2 + 0) (m_X9_x [r, v0] s) := zf_callV (as := [v0]) 1 rfl rfl h
theorem zr_X9_commonOfCircles_45 (ls : zLs) (st : List zAV) (s : zAS) (k : Nat × Nat) (x y : Int32) : zev zk_X9_commonOfCircles (45, ls, Sum.inl (Value.int y) :: Sum.inl (Value.int x) :: st, s, k) = zev zk_X9_commonOfCircles (46, ls, Sum.inl (Value.int (x * y)) :: st, s, k) := zev_go rfl rfl
theorem zr_X9_commonOfCircles_46 (a1 a2 a3 a4 a5 : Option zAV) (st : List zAV) (s : zAS) (k : Nat × Nat) (o : Nat × Nat) : zev zk_X9_commonOfCircles (46, [some (Sum.inr o), a1, a2, a3, a4, a5], st, s, k) = zev zk_X9_commonOfCircles (47, [some (Sum.inr o), a1, a2, a3, a4, a5], Sum.inr o :: st, s, k) := zev_go rfl rfl
theorem zr_X9_commonOfCircles_47 (a0 a2 a3 a4 a5 : Option zAV) (st : List zAV) (s : zAS) (k : Nat × Nat) (x : Int32) : zev zk_X9_commonOfCircles (47, [a0, some (Sum.inl (Value.int x)), a2, a3, a4, a5], st, s, k) = zev zk_X9_commonOfCircles (48, [a0, some (Sum.inl (Value.int x)), a2, a3, a4, a5], Sum.inl (Value.int x) :: st, s, k) := zev_go rfl rfl
theorem zr_X9_commonOfCircles_48 (ls : zLs) (st : List zAV) (s : zAS) (k : Nat × Nat) (r v0 : zAV) (h : zcok zEM 9 0 0 (zR_X9_commonOfCircles).cells (zR_X9_commonOfCircles).slots r st k) : zev zk_X9_commonOfCircles (48, ls, v0 :: r :: st, s, k) = zret zk_X9_commonOfCircles 51 ls st (k.1 + 0, k.2 + 0) (m_X9_y [r, v0] s) := zf_callV (as := [v0]) 1 rfl rfl h
theorem zr_X9_commonOfCircles_51 (a1 a2 a3 a4 a5 : Option zAV) (st : List zAV) (s : zAS) (k : Nat × Nat) (o : Nat × Nat) : zev zk_X9_commonOfCircles (51, [some (Sum.inr o), a1, a2, a3, a4, a5], st, s, k) = zev zk_X9_commonOfCircles (52, [some (Sum.inr o), a1, a2, a3, a4, a5], Sum.inr o :: st, s, k) := zev_go rfl rfl
theorem zr_X9_commonOfCircles_52 (a0 a2 a3 a4 a5 : Option zAV) (st : List zAV) (s : zAS) (k : Nat × Nat) (x : Int32) : zev zk_X9_commonOfCircles (52, [a0, some (Sum.inl (Value.int x)), a2, a3, a4, a5], st, s, k) = zev zk_X9_commonOfCircles (53, [a0, some (Sum.inl (Value.int x)), a2, a3, a4, a5], Sum.inl (Value.int x) :: st, s, k) := zev_go rfl rfl
theorem zr_X9_commonOfCircles_53 (ls : zLs) (st : List zAV) (s : zAS) (k : Nat × Nat) (r v0 : zAV) (h : zcok zEM 9 0 0 (zR_X9_commonOfCircles).cells (zR_X9_commonOfCircles).slots r st k) : zev zk_X9_commonOfCircles (53, ls, v0 :: r :: st, s, k) = zret zk_X9_commonOfCircles 56 ls st (k.1 + 0, k.2 + 0) (m_X9_y [r, v0] s) := zf_callV (as := [v0]) 1 rfl rfl h
theorem zr_X9_commonOfCircles_56 (ls : zLs) (st : List zAV) (s : zAS) (k : Nat × Nat) (x y : Int32) : zev zk_X9_commonOfCircles (56, ls, Sum.inl (Value.int y) :: Sum.inl (Value.int x) :: st, s, k) = zev zk_X9_commonOfCircles (57, ls, Sum.inl (Value.int (x * y)) :: st, s, k) := zev_go rfl rfl
theorem zr_X9_commonOfCircles_57 (ls : zLs) (st : List zAV) (s : zAS) (k : Nat × Nat) (x y : Int32) : zev zk_X9_commonOfCircles (57, ls, Sum.inl (Value.int y) :: Sum.inl (Value.int x) :: st, s, k) = zev zk_X9_commonOfCircles (58, ls, Sum.inl (Value.int (x + y)) :: st, s, k) := zev_go rfl rfl
theorem zr_X9_commonOfCircles_58 (a1 a2 a3 a4 a5 : Option zAV) (st : List zAV) (s : zAS) (k : Nat × Nat) (o : Nat × Nat) : zev zk_X9_commonOfCircles (58, [some (Sum.inr o), a1, a2, a3, a4, a5], st, s, k) = zev zk_X9_commonOfCircles (59, [some (Sum.inr o), a1, a2, a3, a4, a5], Sum.inr o :: st, s, k) := zev_go rfl rfl
theorem zr_X9_commonOfCircles_59 (a0 a1 a3 a4 a5 : Option zAV) (st : List zAV) (s : zAS) (k : Nat × Nat) (x : Int32) : zev zk_X9_commonOfCircles (59, [a0, a1, some (Sum.inl (Value.int x)), a3, a4, a5], st, s, k) = zev zk_X9_commonOfCircles (60, [a0, a1, some (Sum.inl (Value.int x)), a3, a4, a5], Sum.inl (Value.int x) :: st, s, k) := zev_go rfl rfl
theorem zr_X9_commonOfCircles_60 (ls : zLs) (st : List zAV) (s : zAS) (k : Nat × Nat) (r v0 : zAV) (h : zcok zEM 9 0 0 (zR_X9_commonOfCircles).cells (zR_X9_commonOfCircles).slots r st k) : zev zk_X9_commonOfCircles (60, ls, v0 :: r :: st, s, k) = zret zk_X9_commonOfCircles 63 ls st (k.1 + 0, k.2 + 0) (m_X9_x [r, v0] s) := zf_callV (as := [v0]) 1 rfl rfl h
theorem zr_X9_commonOfCircles_63 (a1 a2 a3 a4 a5 : Option zAV) (st : List zAV) (s : zAS) (k : Nat × Nat) (o : Nat × Nat) : zev zk_X9_commonOfCircles (63, [some (Sum.inr o), a1, a2, a3, a4, a5], st, s, k) = zev zk_X9_commonOfCircles (64, [some (Sum.inr o), a1, a2, a3, a4, a5], Sum.inr o :: st, s, k) := zev_go rfl rfl
theorem zr_X9_commonOfCircles_64 (a0 a1 a3 a4 a5 : Option zAV) (st : List zAV) (s : zAS) (k : Nat × Nat) (x : Int32) : zev zk_X9_commonOfCircles (64, [a0, a1, some (Sum.inl (Value.int x)), a3, a4, a5], st, s, k) = zev zk_X9_commonOfCircles (65, [a0, a1, some (Sum.inl (Value.int x)), a3, a4, a5], Sum.inl (Value.int x) :: st, s, k) := zev_go rfl rfl
theorem zr_X9_commonOfCircles_65 (ls : zLs) (st : List zAV) (s : zAS) (k : Nat × Nat) (r v0 : zAV) (h : zcok zEM 9 0 0 (zR_X9_commonOfCircles).cells (zR_X9_commonOfCircles).slots r st k) : zev zk_X9_commonOfCircles (65, ls, v0 :: r :: st, s, k) = zret zk_X9_commonOfCircles 68 ls st (k.1 + 0, k.2 + 0) (m_X9_x [r, v0] s) := zf_callV (as := [v0]) 1 rfl rfl h
theorem zr_X9_commonOfCircles_68 (ls : zLs) (st : List zAV) (s : zAS) (k : Nat × Nat) (x y : Int32) : zev zk_X9_commonOfCircles (68, ls, Sum.inl (Value.int y) :: Sum.inl (Value.int x) :: st, s, k) = zev zk_X9_commonOfCircles (69, ls, Sum.inl (Value.int (x * y)) :: st, s, k) := zev_go rfl rfl
theorem zr_X9_commonOfCircles_69 (ls : zLs) (st : List zAV) (s : zAS) (k : Nat × Nat) (x y : Int32) : zev zk_X9_commonOfCircles (69, ls, Sum.inl (Value.int y) :: Sum.inl (Value.int x) :: st, s, k) = zev zk_X9_commonOfCircles (70, ls, Sum.inl (Value.int (x - y)) :: st, s, k) := zev_go rfl rfl
theorem zr_X9_commonOfCircles_70 (a1 a2 a3 a4 a5 : Option zAV) (st : List zAV) (s : zAS) (k : Nat × Nat) (o : Nat × Nat) : zev zk_X9_commonOfCircles (70, [some (Sum.inr o), a1, a2, a3, a4, a5], st, s, k) = zev zk_X9_commonOfCircles (71, [some (Sum.inr o), a1, a2, a3, a4, a5], Sum.inr o :: st, s, k) := zev_go rfl rfl
theorem zr_X9_commonOfCircles_71 (a0 a1 a3 a4 a5 : Option zAV) (st : List zAV) (s : zAS) (k : Nat × Nat) (x : Int32) : zev zk_X9_commonOfCircles (71, [a0, a1, some (Sum.inl (Value.int x)), a3, a4, a5], st, s, k) = zev zk_X9_commonOfCircles (72, [a0, a1, some (Sum.inl (Value.int x)), a3, a4, a5], Sum.inl (Value.int x) :: st, s, k) := zev_go rfl rfl
theorem zr_X9_commonOfCircles_72 (ls : zLs) (st : List zAV) (s : zAS) (k : Nat × Nat) (r v0 : zAV) (h : zcok zEM 9 0 0 (zR_X9_commonOfCircles).cells (zR_X9_commonOfCircles).slots r st k) : zev zk_X9_commonOfCircles (72, ls, v0 :: r :: st, s, k) = zret zk_X9_commonOfCircles 75 ls st (k.1 + 0, k.2 + 0) (m_X9_y [r, v0] s) := zf_callV (as := [v0]) 1 rfl rfl h
theorem zr_X9_commonOfCircles_75 (a1 a2 a3 a4 a5 : Option zAV) (st : List zAV) (s : zAS) (k : Nat × Nat) (o : Nat × Nat) : zev zk_X9_commonOfCircles (75, [some (Sum.inr o), a1, a2, a3, a4, a5], st, s, k) = zev zk_X9_commonOfCircles (76, [some (Sum.inr o), a1, a2, a3, a4, a5], Sum.inr o :: st, s, k) := zev_go rfl rfl
theorem zr_X9_commonOfCircles_76 (a0 a1 a3 a4 a5 : Option zAV) (st : List zAV) (s : zAS) (k : Nat × Nat) (x : Int32) : zev zk_X9_commonOfCircles (76, [a0, a1, some (Sum.inl (Value.int x)), a3, a4, a5], st, s, k) = zev zk_X9_commonOfCircles (77, [a0, a1, some (Sum.inl (Value.int x)), a3, a4, a5], Sum.inl (Value.int x) :: st, s, k) := zev_go rfl rfl
theorem zr_X9_commonOfCircles_77 (ls : zLs) (st : List zAV) (s : zAS) (k : Nat × Nat) (r v0 : zAV) (h : zcok zEM 9 0 0 (zR_X9_commonOfCircles).cells (zR_X9_commonOfCircles).slots r st k) : zev zk_X9_commonOfCircles (77, ls, v0 :: r :: st, s, k) = zret zk_X9_commonOfCircles 80 ls st (k.1 + 0, k.2 + 0) (m_X9_y [r, v0] s) := zf_callV (as := [v0]) 1 rfl rfl h
theorem zr_X9_commonOfCircles_80 (ls : zLs) (st : List zAV) (s : zAS) (k : Nat × Nat) (x y : Int32) : zev zk_X9_commonOfCircles (80, ls, Sum.inl (Value.int y) :: Sum.inl (Value.int x) :: st, s, k) = zev zk_X9_commonOfCircles (81, ls, Sum.inl (Value.int (x * y)) :: st, s, k) := zev_go rfl rfl
theorem zr_X9_commonOfCircles_81 (ls : zLs) (st : List zAV) (s : zAS) (k : Nat × Nat) (x y : Int32) : zev zk_X9_commonOfCircles (81, ls, Sum.inl (Value.int y) :: Sum.inl (Value.int x) :: st, s, k) = zev zk_X9_commonOfCircles (82, ls, Sum.inl (Value.int (x - y)) :: st, s, k) := zev_go rfl rfl
theorem zr_X9_commonOfCircles_82 (a1 a2 a3 a4 a5 : Option zAV) (st : List zAV) (s : zAS) (k : Nat × Nat) (o : Nat × Nat) : zev zk_X9_commonOfCircles (82, [some (Sum.inr o), a1, a2, a3, a4, a5], st, s, k) = zev zk_X9_commonOfCircles (83, [some (Sum.inr o), a1, a2, a3, a4, a5], Sum.inr o :: st, s, k) := zev_go rfl rfl
theorem zr_X9_commonOfCircles_83 (a0 a2 a3 a4 a5 : Option zAV) (st : List zAV) (s : zAS) (k : Nat × Nat) (x : Int32) : zev zk_X9_commonOfCircles (83, [a0, some (Sum.inl (Value.int x)), a2, a3, a4, a5], st, s, k) = zev zk_X9_commonOfCircles (84, [a0, some (Sum.inl (Value.int x)), a2, a3, a4, a5], Sum.inl (Value.int x) :: st, s, k) := zev_go rfl rfl
theorem zr_X9_commonOfCircles_84 (ls : zLs) (st : List zAV) (s : zAS) (k : Nat × Nat) (r v0 : zAV) (h : zcok zEM 9 0 0 (zR_X9_commonOfCircles).cells (zR_X9_commonOfCircles).slots r st k) : zev zk_X9_commonOfCircles (84, ls, v0 :: r :: st, s, k) = zret zk_X9_commonOfCircles 87 ls st (k.1 + 0, k.2 + 0) (m_X9_z [r, v0] s) := zf_callV (as := [v0]) 1 rfl rfl h
theorem zr_X9_commonOfCircles_87 (ls : zLs) (st : List zAV) (s : zAS) (k : Nat × Nat) (x y : Int32) : zev zk_X9_commonOfCircles (87, ls, Sum.inl (Value.int y) :: Sum.inl (Value.int x) :: st, s, k) = zev zk_X9_commonOfCircles (88, ls, Sum.inl (Value.int (x - y)) :: st, s, k) := zev_go rfl rfl
theorem zr_X9_commonOfCircles_88 (a1 a2 a3 a4 a5 : Option zAV) (st : List zAV) (s : zAS) (k : Nat × Nat) (o : Nat × Nat) : zev zk_X9_commonOfCircles (88, [some (Sum.inr o), a1, a2, a3, a4, a5], st, s, k) = zev zk_X9_commonOfCircles (89, [some (Sum.inr o), a1, a2, a3, a4, a5], Sum.inr o :: st, s, k) := zev_go rfl rfl
theorem zr_X9_commonOfCircles_89 (a0 a1 a3 a4 a5 : Option zAV) (st : List zAV) (s : zAS) (k : Nat × Nat) (x : Int32) : zev zk_X9_commonOfCircles (89, [a0, a1, some (Sum.inl (Value.int x)), a3, a4, a5], st, s, k) = zev zk_X9_commonOfCircles (90, [a0, a1, some (Sum.inl (Value.int x)), a3, a4, a5], Sum.inl (Value.int x) :: st, s, k) := zev_go rfl rfl
theorem zr_X9_commonOfCircles_90 (ls : zLs) (st : List zAV) (s : zAS) (k : Nat × Nat) (r v0 : zAV) (h : zcok zEM 9 0 0 (zR_X9_commonOfCircles).cells (zR_X9_commonOfCircles).slots r st k) : zev zk_X9_commonOfCircles (90, ls, v0 :: r :: st, s, k) = zret zk_X9_commonOfCircles 93 ls st (k.1 + 0, k.2 + 0) (m_X9_z [r, v0] s) := zf_callV (as := [v0]) 1 rfl rfl h
theorem zr_X9_commonOfCircles_93 (ls : zLs) (st : List zAV) (s : zAS) (k : Nat × Nat) (x y : Int32) : zev zk_X9_commonOfCircles (93, ls, Sum.inl (Value.int y) :: Sum.inl (Value.int x) :: st, s, k) = zev zk_X9_commonOfCircles (94, ls, Sum.inl (Value.int (x + y)) :: st, s, k) := zev_go rfl rfl
theorem zr_X9_commonOfCircles_94 (ls : zLs) (st : List zAV) (s : zAS) (k : Nat × Nat) (r v0 v1 v2 : zAV) (h : zcok zEM 9 0 0 (zR_X9_commonOfCircles).cells (zR_X9_commonOfCircles).slots r st k) : zev zk_X9_commonOfCircles (94, ls, v2 :: v1 :: v0 :: r :: st, s, k) = zret zk_X9_commonOfCircles 97 ls st (k.1 + 0, k.2 + 0) (m_X9_layLine [r, v0, v1, v2] s) := zf_callV (as := [v2, v1, v0]) 3 rfl rfl h
theorem zr_X9_commonOfCircles_97 (ls : zLs) (st : List zAV) (s : zAS) (k : Nat × Nat) (x : Int32) : zev zk_X9_commonOfCircles (97, ls, Sum.inl (Value.int x) :: st, s, k) = if decide (¬ x = 0) = true then zev zk_X9_commonOfCircles (102, ls, st, s, k) else zev zk_X9_commonOfCircles (100, ls, st, s, k) := zf_if (f := fun x => decide (¬ x = 0)) rfl
theorem zr_X9_commonOfCircles_100 (ls : zLs) (st : List zAV) (s : zAS) (k : Nat × Nat) : zev zk_X9_commonOfCircles (100, ls, st, s, k) = zev zk_X9_commonOfCircles (101, ls, Sum.inl (Value.int (0)) :: st, s, k) := zev_go rfl rfl
theorem zr_X9_commonOfCircles_101 (ls : zLs) (s : zAS) (k : Nat × Nat) (x : Int32) (hx : x = 0 ∨ x = 1) : zev zk_X9_commonOfCircles (101, ls, [Sum.inl (Value.int x)], s, k) = some (.inl (some (Sum.inl (Value.int x))), s) := zf_retz rfl hx
theorem zr_X9_commonOfCircles_102 (a1 a2 a3 a4 a5 : Option zAV) (st : List zAV) (s : zAS) (k : Nat × Nat) (o : Nat × Nat) : zev zk_X9_commonOfCircles (102, [some (Sum.inr o), a1, a2, a3, a4, a5], st, s, k) = zev zk_X9_commonOfCircles (103, [some (Sum.inr o), a1, a2, a3, a4, a5], Sum.inr o :: st, s, k) := zev_go rfl rfl
theorem zr_X9_commonOfCircles_103 (a1 a2 a3 a4 a5 : Option zAV) (st : List zAV) (s : zAS) (k : Nat × Nat) (o : Nat × Nat) : zev zk_X9_commonOfCircles (103, [some (Sum.inr o), a1, a2, a3, a4, a5], st, s, k) = zev zk_X9_commonOfCircles (104, [some (Sum.inr o), a1, a2, a3, a4, a5], Sum.inr o :: st, s, k) := zev_go rfl rfl
theorem zr_X9_commonOfCircles_104 (ls : zLs) (st : List zAV) (s : zAS) (k : Nat × Nat) (o i : Nat) : zev zk_X9_commonOfCircles (104, ls, Sum.inr (o, i) :: st, s, k) = zpush zk_X9_commonOfCircles 107 ls st s k (zgv zEM 9 6 o i s.1) := zf_get rfl
theorem zr_X9_commonOfCircles_107 (ls : zLs) (st : List zAV) (s : zAS) (k : Nat × Nat) : zev zk_X9_commonOfCircles (107, ls, st, s, k) = zev zk_X9_commonOfCircles (108, ls, Sum.inl (Value.int (0)) :: st, s, k) := zev_go rfl rfl
theorem zr_X9_commonOfCircles_108 (ls : zLs) (st : List zAV) (s : zAS) (k : Nat × Nat) (o i : Nat) (j : Int32) : zev zk_X9_commonOfCircles (108, ls, Sum.inl (Value.int j) :: Sum.inr (o, i) :: st, s, k) = zpush zk_X9_commonOfCircles 109 ls st s k (zald zEM o i j s) := zf_iald rfl
theorem zr_X9_commonOfCircles_109 (a1 a2 a3 a4 a5 : Option zAV) (st : List zAV) (s : zAS) (k : Nat × Nat) (o : Nat × Nat) : zev zk_X9_commonOfCircles (109, [some (Sum.inr o), a1, a2, a3, a4, a5], st, s, k) = zev zk_X9_commonOfCircles (110, [some (Sum.inr o), a1, a2, a3, a4, a5], Sum.inr o :: st, s, k) := zev_go rfl rfl
theorem zr_X9_commonOfCircles_110 (ls : zLs) (st : List zAV) (s : zAS) (k : Nat × Nat) (o i : Nat) : zev zk_X9_commonOfCircles (110, ls, Sum.inr (o, i) :: st, s, k) = zpush zk_X9_commonOfCircles 113 ls st s k (zgv zEM 9 6 o i s.1) := zf_get rfl
theorem zr_X9_commonOfCircles_113 (ls : zLs) (st : List zAV) (s : zAS) (k : Nat × Nat) : zev zk_X9_commonOfCircles (113, ls, st, s, k) = zev zk_X9_commonOfCircles (114, ls, Sum.inl (Value.int (1)) :: st, s, k) := zev_go rfl rfl
theorem zr_X9_commonOfCircles_114 (ls : zLs) (st : List zAV) (s : zAS) (k : Nat × Nat) (o i : Nat) (j : Int32) : zev zk_X9_commonOfCircles (114, ls, Sum.inl (Value.int j) :: Sum.inr (o, i) :: st, s, k) = zpush zk_X9_commonOfCircles 115 ls st s k (zald zEM o i j s) := zf_iald rfl
theorem zr_X9_commonOfCircles_115 (a1 a2 a3 a4 a5 : Option zAV) (st : List zAV) (s : zAS) (k : Nat × Nat) (o : Nat × Nat) : zev zk_X9_commonOfCircles (115, [some (Sum.inr o), a1, a2, a3, a4, a5], st, s, k) = zev zk_X9_commonOfCircles (116, [some (Sum.inr o), a1, a2, a3, a4, a5], Sum.inr o :: st, s, k) := zev_go rfl rfl
theorem zr_X9_commonOfCircles_116 (ls : zLs) (st : List zAV) (s : zAS) (k : Nat × Nat) (o i : Nat) : zev zk_X9_commonOfCircles (116, ls, Sum.inr (o, i) :: st, s, k) = zpush zk_X9_commonOfCircles 119 ls st s k (zgv zEM 9 6 o i s.1) := zf_get rfl
theorem zr_X9_commonOfCircles_119 (ls : zLs) (st : List zAV) (s : zAS) (k : Nat × Nat) : zev zk_X9_commonOfCircles (119, ls, st, s, k) = zev zk_X9_commonOfCircles (120, ls, Sum.inl (Value.int (2)) :: st, s, k) := zev_go rfl rfl
theorem zr_X9_commonOfCircles_120 (ls : zLs) (st : List zAV) (s : zAS) (k : Nat × Nat) (o i : Nat) (j : Int32) : zev zk_X9_commonOfCircles (120, ls, Sum.inl (Value.int j) :: Sum.inr (o, i) :: st, s, k) = zpush zk_X9_commonOfCircles 121 ls st s k (zald zEM o i j s) := zf_iald rfl
theorem zr_X9_commonOfCircles_121 (a1 a2 a3 a4 a5 : Option zAV) (st : List zAV) (s : zAS) (k : Nat × Nat) (o : Nat × Nat) : zev zk_X9_commonOfCircles (121, [some (Sum.inr o), a1, a2, a3, a4, a5], st, s, k) = zev zk_X9_commonOfCircles (122, [some (Sum.inr o), a1, a2, a3, a4, a5], Sum.inr o :: st, s, k) := zev_go rfl rfl
theorem zr_X9_commonOfCircles_122 (a0 a2 a3 a4 a5 : Option zAV) (st : List zAV) (s : zAS) (k : Nat × Nat) (x : Int32) : zev zk_X9_commonOfCircles (122, [a0, some (Sum.inl (Value.int x)), a2, a3, a4, a5], st, s, k) = zev zk_X9_commonOfCircles (123, [a0, some (Sum.inl (Value.int x)), a2, a3, a4, a5], Sum.inl (Value.int x) :: st, s, k) := zev_go rfl rfl
theorem zr_X9_commonOfCircles_123 (ls : zLs) (st : List zAV) (s : zAS) (k : Nat × Nat) (r v0 : zAV) (h : zcok zEM 9 0 0 (zR_X9_commonOfCircles).cells (zR_X9_commonOfCircles).slots r st k) : zev zk_X9_commonOfCircles (123, ls, v0 :: r :: st, s, k) = zret zk_X9_commonOfCircles 126 ls st (k.1 + 0, k.2 + 0) (m_X9_x [r, v0] s) := zf_callV (as := [v0]) 1 rfl rfl h
theorem zr_X9_commonOfCircles_126 (a1 a2 a3 a4 a5 : Option zAV) (st : List zAV) (s : zAS) (k : Nat × Nat) (o : Nat × Nat) : zev zk_X9_commonOfCircles (126, [some (Sum.inr o), a1, a2, a3, a4, a5], st, s, k) = zev zk_X9_commonOfCircles (127, [some (Sum.inr o), a1, a2, a3, a4, a5], Sum.inr o :: st, s, k) := zev_go rfl rfl
theorem zr_X9_commonOfCircles_127 (a0 a2 a3 a4 a5 : Option zAV) (st : List zAV) (s : zAS) (k : Nat × Nat) (x : Int32) : zev zk_X9_commonOfCircles (127, [a0, some (Sum.inl (Value.int x)), a2, a3, a4, a5], st, s, k) = zev zk_X9_commonOfCircles (128, [a0, some (Sum.inl (Value.int x)), a2, a3, a4, a5], Sum.inl (Value.int x) :: st, s, k) := zev_go rfl rfl
theorem zr_X9_commonOfCircles_128 (ls : zLs) (st : List zAV) (s : zAS) (k : Nat × Nat) (r v0 : zAV) (h : zcok zEM 9 0 0 (zR_X9_commonOfCircles).cells (zR_X9_commonOfCircles).slots r st k) : zev zk_X9_commonOfCircles (128, ls, v0 :: r :: st, s, k) = zret zk_X9_commonOfCircles 131 ls st (k.1 + 0, k.2 + 0) (m_X9_y [r, v0] s) := zf_callV (as := [v0]) 1 rfl rfl h
theorem zr_X9_commonOfCircles_131 (a1 a2 a3 a4 a5 : Option zAV) (st : List zAV) (s : zAS) (k : Nat × Nat) (o : Nat × Nat) : zev zk_X9_commonOfCircles (131, [some (Sum.inr o), a1, a2, a3, a4, a5], st, s, k) = zev zk_X9_commonOfCircles (132, [some (Sum.inr o), a1, a2, a3, a4, a5], Sum.inr o :: st, s, k) := zev_go rfl rfl
theorem zr_X9_commonOfCircles_132 (a0 a2 a3 a4 a5 : Option zAV) (st : List zAV) (s : zAS) (k : Nat × Nat) (x : Int32) : zev zk_X9_commonOfCircles (132, [a0, some (Sum.inl (Value.int x)), a2, a3, a4, a5], st, s, k) = zev zk_X9_commonOfCircles (133, [a0, some (Sum.inl (Value.int x)), a2, a3, a4, a5], Sum.inl (Value.int x) :: st, s, k) := zev_go rfl rfl
theorem zr_X9_commonOfCircles_133 (ls : zLs) (st : List zAV) (s : zAS) (k : Nat × Nat) (r v0 : zAV) (h : zcok zEM 9 0 0 (zR_X9_commonOfCircles).cells (zR_X9_commonOfCircles).slots r st k) : zev zk_X9_commonOfCircles (133, ls, v0 :: r :: st, s, k) = zret zk_X9_commonOfCircles 136 ls st (k.1 + 0, k.2 + 0) (m_X9_z [r, v0] s) := zf_callV (as := [v0]) 1 rfl rfl h
theorem zr_X9_commonOfCircles_136 (a0 a1 a2 a4 a5 : Option zAV) (st : List zAV) (s : zAS) (k : Nat × Nat) (x : Int32) : zev zk_X9_commonOfCircles (136, [a0, a1, a2, some (Sum.inl (Value.int x)), a4, a5], st, s, k) = zev zk_X9_commonOfCircles (137, [a0, a1, a2, some (Sum.inl (Value.int x)), a4, a5], Sum.inl (Value.int x) :: st, s, k) := zev_go rfl rfl
theorem zr_X9_commonOfCircles_137 (ls : zLs) (st : List zAV) (s : zAS) (k : Nat × Nat) (r v0 v1 v2 v3 v4 v5 v6 : zAV) (h : zcok zEM 9 0 0 (zR_X9_commonOfCircles).cells (zR_X9_commonOfCircles).slots r st k) : zev zk_X9_commonOfCircles (137, ls, v6 :: v5 :: v4 :: v3 :: v2 :: v1 :: v0 :: r :: st, s, k) = zret zk_X9_commonOfCircles 140 ls st (k.1 + 0, k.2 + 0) (m_X9_common [r, v0, v1, v2, v3, v4, v5, v6] s) := zf_callV (as := [v6, v5, v4, v3, v2, v1, v0]) 7 rfl rfl h
theorem zr_X9_commonOfCircles_140 (ls : zLs) (s : zAS) (k : Nat × Nat) (x : Int32) (hx : x = 0 ∨ x = 1) : zev zk_X9_commonOfCircles (140, ls, [Sum.inl (Value.int x)], s, k) = some (.inl (some (Sum.inl (Value.int x))), s) := zf_retz rfl hx
