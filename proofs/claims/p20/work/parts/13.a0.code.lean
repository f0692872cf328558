/-! X0_become: PrimePlane$Claim.become(IIIII)V -/
abbrev zR_X0_become : Room := ({ frames := 0, cells := 0, slots := 0, locals := 0 } : Room)
noncomputable def zl_X0_become : List (Nat × zOp) := [(0, z_lda 0 1), (1, z_ldi 1 2), (2, z_put zEC 0 0 false 5), (5, z_lda 0 6), (6, z_ldi 2 7), (7, z_put zEC 0 1 false 10), (10, z_lda 0 11), (11, z_ldi 3 12), (12, z_put zEC 0 2 false 15), (15, z_lda 0 16), (16, z_ldi 4 18), (18, z_put zEC 0 3 false 21), (21, z_lda 0 22), (22, z_ldi 5 24), (24, z_put zEC 0 4 false 27), (27, z_retv)]
noncomputable def zk_X0_become (pc : Nat) : Option zOp := zlook zl_X0_become pc
noncomputable def m_X0_become : List zAV → zAS → Option zOut := zmeth zk_X0_become 6
set_option maxRecDepth 100000 in
set_option maxHeartbeats 4000000 in
theorem zcs_X0_become {R : Room} (hR : R = zR_X0_become) : ∀ q ∈ zl_X0_become, zS zEC yX0_become.cls cX0_become 6 wsX0_become none R q.1 q.2 := by
  subst hR
  have hin0 : ∀ w ∈ wsX00, w ∈ wsX0_become := fun w h => List.mem_cons_of_mem _ (List.mem_append_right _ h)
  refine List.forall_mem_cons.mpr ⟨zs_aload_n dX0_become_0 rfl, ?_⟩
  refine List.forall_mem_cons.mpr ⟨zs_iload_n dX0_become_1 rfl, ?_⟩
  refine List.forall_mem_cons.mpr ⟨zs_put (ci := 0) (j := 0) (N := 5) (C := RX0) (T := TX0) (index := 24) (b := false) .int tyX0 rfl (by decide) hin0 tyX0_ok nmX0 (List.mem_of_getElem? (i := 1) rfl) rfl (by decide +kernel) zni dX0_become_2, ?_⟩
  refine List.forall_mem_cons.mpr ⟨zs_aload_n dX0_become_5 rfl, ?_⟩
  refine List.forall_mem_cons.mpr ⟨zs_iload_n dX0_become_6 rfl, ?_⟩
  refine List.forall_mem_cons.mpr ⟨zs_put (ci := 0) (j := 1) (N := 5) (C := RX0) (T := TX0) (index := 9) (b := false) .int tyX0 rfl (by decide) hin0 tyX0_ok nmX0 (List.mem_of_getElem? (i := 2) rfl) rfl (by decide +kernel) zni dX0_become_7, ?_⟩
  refine List.forall_mem_cons.mpr ⟨zs_aload_n dX0_become_10 rfl, ?_⟩
  refine List.forall_mem_cons.mpr ⟨zs_iload_n dX0_become_11 rfl, ?_⟩
  refine List.forall_mem_cons.mpr ⟨zs_put (ci := 0) (j := 2) (N := 5) (C := RX0) (T := TX0) (index := 15) (b := false) .int tyX0 rfl (by decide) hin0 tyX0_ok nmX0 (List.mem_of_getElem? (i := 3) rfl) rfl (by decide +kernel) zni dX0_become_12, ?_⟩
  refine List.forall_mem_cons.mpr ⟨zs_aload_n dX0_become_15 rfl, ?_⟩
  refine List.forall_mem_cons.mpr ⟨zs_iload dX0_become_16, ?_⟩
  refine List.forall_mem_cons.mpr ⟨zs_put (ci := 0) (j := 3) (N := 5) (C := RX0) (T := TX0) (index := 18) (b := false) .int tyX0 rfl (by decide) hin0 tyX0_ok nmX0 (List.mem_of_getElem? (i := 4) rfl) rfl (by decide +kernel) zni dX0_become_18, ?_⟩
  refine List.forall_mem_cons.mpr ⟨zs_aload_n dX0_become_21 rfl, ?_⟩
  refine List.forall_mem_cons.mpr ⟨zs_iload dX0_become_22, ?_⟩
  refine List.forall_mem_cons.mpr ⟨zs_put (ci := 0) (j := 4) (N := 5) (C := RX0) (T := TX0) (index := 21) (b := false) .int tyX0 rfl (by decide) hin0 tyX0_ok nmX0 (List.mem_of_getElem? (i := 5) rfl) rfl (by decide +kernel) zni dX0_become_24, ?_⟩
  refine List.forall_mem_cons.mpr ⟨zs_retv rfl dX0_become_27, ?_⟩
  exact fun _ h => absurd h List.not_mem_nil
theorem zM_X0_become : zMeets zEC yX0_become wsX0_become zR_X0_become m_X0_become := zmeth_M zECok (zlook_all (zcs_X0_become rfl)) (by decide +kernel) rfl
theorem zr_X0_become_0 (a1 a2 a3 a4 a5 : Option zAV) (st : List zAV) (s : zAS) (k : Nat × Nat) (o : Nat × Nat) : zev zk_X0_become (0, [some (Sum.inr o), a1, a2, a3, a4, a5], st, s, k) = zev zk_X0_become (1, [some (Sum.inr o), a1, a2, a3, a4, a5], Sum.inr o :: st, s, k) := zev_go rfl rfl
theorem zr_X0_become_1 (a0 a2 a3 a4 a5 : Option zAV) (st : List zAV) (s : zAS) (k : Nat × Nat) (x : Int32) : zev zk_X0_become (1, [a0, some (Sum.inl (Value.int x)), a2, a3, a4, a5], st, s, k) = zev zk_X0_become (2, [a0, some (Sum.inl (Value.int x)), a2, a3, a4, a5], Sum.inl (Value.int x) :: st, s, k) := zev_go rfl rfl
theorem zr_X0_become_2 (ls : zLs) (st : List zAV) (s : zAS) (k : Nat × Nat) (o i : Nat) (x : Int32) (h : zpok zEC 0 0 false o i x) : zev zk_X0_become (2, ls, Sum.inl (Value.int x) :: Sum.inr (o, i) :: st, s, k) = zev zk_X0_become (5, ls, st, (zup s.1 o i 0 x, s.2), k) := zf_put rfl h
theorem zr_X0_become_5 (a1 a2 a3 a4 a5 : Option zAV) (st : List zAV) (s : zAS) (k : Nat × Nat) (o : Nat × Nat) : zev zk_X0_become (5, [some (Sum.inr o), a1, a2, a3, a4, a5], st, s, k) = zev zk_X0_become (6, [some (Sum.inr o), a1, a2, a3, a4, a5], Sum.inr o :: st, s, k) := zev_go rfl rfl
theorem zr_X0_become_6 (a0 a1 a3 a4 a5 : Option zAV) (st : List zAV) (s : zAS) (k : Nat × Nat) (x : Int32) : zev zk_X0_become (6, [a0, a1, some (Sum.inl (Value.int x)), a3, a4, a5], st, s, k) = zev zk_X0_become (7, [a0, a1, some (Sum.inl (Value.int x)), a3, a4, a5], Sum.inl (Value.int x) :: st, s, k) := zev_go rfl rfl
theorem zr_X0_become_7 (ls : zLs) (st : List zAV) (s : zAS) (k : Nat × Nat) (o i : Nat) (x : Int32) (h : zpok zEC 0 1 false o i x) : zev zk_X0_become (7, ls, Sum.inl (Value.int x) :: Sum.inr (o, i) :: st, s, k) = zev zk_X0_become (10, ls, st, (zup s.1 o i 1 x, s.2), k) := zf_put rfl h
theorem zr_X0_become_10 (a1 a2 a3 a4 a5 : Option zAV) (st : List zAV) (s : zAS) (k : Nat × Nat) (o : Nat × Nat) : zev zk_X0_become (10, [some (Sum.inr o), a1, a2, a3, a4, a5], st, s, k) = zev zk_X0_become (11, [some (Sum.inr o), a1, a2, a3, a4, a5], Sum.inr o :: st, s, k) := zev_go rfl rfl
theorem zr_X0_become_11 (a0 a1 a2 a4 a5 : Option zAV) (st : List zAV) (s : zAS) (k : Nat × Nat) (x : Int32) : zev zk_X0_become (11, [a0, a1, a2, some (Sum.inl (Value.int x)), a4, a5], st, s, k) = zev zk_X0_become (12, [a0, a1, a2, some (Sum.inl (Value.int x)), a4, a5], Sum.inl (Value.int x) :: st, s, k) := zev_go rfl rfl
theorem zr_X0_become_12 (ls : zLs) (st : List zAV) (s : zAS) (k : Nat × Nat) (o i : Nat) (x : Int32) (h : zpok zEC 0 2 false o i x) : zev zk_X0_become (12, ls, Sum.inl (Value.int x) :: Sum.inr (o, i) :: st, s, k) = zev zk_X0_become (15, ls, st, (zup s.1 o i 2 x, s.2), k) := zf_put rfl h
theorem zr_X0_become_15 (a1 a2 a3 a4 a5 : Option zAV) (st : List zAV) (s : zAS) (k : Nat × Nat) (o : Nat × Nat) : zev zk_X0_become (15, [some (Sum.inr o), a1, a2, a3, a4, a5], st, s, k) = zev zk_X0_become (16, [some (Sum.inr o), a1, a2, a3, a4, a5], Sum.inr o :: st, s, k) := zev_go rfl rfl
theorem zr_X0_become_16 (a0 a1 a2 a3 a5 : Option zAV) (st : List zAV) (s : zAS) (k : Nat × Nat) (x : Int32) : zev zk_X0_become (16, [a0, a1, a2, a3, some (Sum.inl (Value.int x)), a5], st, s, k) = zev zk_X0_become (18, [a0, a1, a2, a3, some (Sum.inl (Value.int x)), a5], Sum.inl (Value.int x) :: st, s, k) := zev_go rfl rfl
theorem zr_X0_become_18 (ls : zLs) (st : List zAV) (s : zAS) (k : Nat × Nat) (o i : Nat) (x : Int32) (h : zpok zEC 0 3 false o i x) : zev zk_X0_become (18, ls, Sum.inl (Value.int x) :: Sum.inr (o, i) :: st, s, k) = zev zk_X0_become (21, ls, st, (zup s.1 o i 3 x, s.2), k) := zf_put rfl h
theorem zr_X0_become_21 (a1 a2 a3 a4 a5 : Option zAV) (st : List zAV) (s : zAS) (k : Nat × Nat) (o : Nat × Nat) : zev zk_X0_become (21, [some (Sum.inr o), a1, a2, a3, a4, a5], st, s, k) = zev zk_X0_become (22, [some (Sum.inr o), a1, a2, a3, a4, a5], Sum.inr o :: st, s, k) := zev_go rfl rfl
theorem zr_X0_become_22 (a0 a1 a2 a3 a4 : Option zAV) (st : List zAV) (s : zAS) (k : Nat × Nat) (x : Int32) : zev zk_X0_become (22, [a0, a1, a2, a3, a4, some (Sum.inl (Value.int x))], st, s, k) = zev zk_X0_become (24, [a0, a1, a2, a3, a4, some (Sum.inl (Value.int x))], Sum.inl (Value.int x) :: st, s, k) := zev_go rfl rfl
theorem zr_X0_become_24 (ls : zLs) (st : List zAV) (s : zAS) (k : Nat × Nat) (o i : Nat) (x : Int32) (h : zpok zEC 0 4 false o i x) : zev zk_X0_become (24, ls, Sum.inl (Value.int x) :: Sum.inr (o, i) :: st, s, k) = zev zk_X0_become (27, ls, st, (zup s.1 o i 4 x, s.2), k) := zf_put rfl h
theorem zr_X0_become_27 (ls : zLs) (s : zAS) (k : Nat × Nat) : zev zk_X0_become (27, ls, [], s, k) = some (.inl none, s) := zev_end rfl rfl
/-! J9_floorMod_7cf53: java/lang/Math.floorMod(II)I -/
abbrev zR_J9_floorMod_7cf53 : Room := ({ frames := 0, cells := 0, slots := 0, locals := 0 } : Room)
noncomputable def zl_J9_floorMod_7cf53 : List (Nat × zOp) := [(0, z_ldi 0 1), (1, z_ldi 1 2), (2, z_rem 3), (3, z_sti 2 4), (4, z_ldi 0 5), (5, z_ldi 1 6), (6, z_bin (fun x y => x ^^^ y) 7), (7, z_if (fun x => decide (0 ≤ x)) 18 10), (10, z_ldi 2 11), (11, z_if (fun x => decide (x = 0)) 18 14), (14, z_ldi 2 15), (15, z_ldi 1 16), (16, z_bin (fun x y => x + y) 17), (17, z_reti false), (18, z_ldi 2 19), (19, z_reti false)]
noncomputable def zk_J9_floorMod_7cf53 (pc : Nat) : Option zOp := zlook zl_J9_floorMod_7cf53 pc
noncomputable def m_J9_floorMod_7cf53 : List zAV → zAS → Option zOut := zmeth zk_J9_floorMod_7cf53 3
set_option maxRecDepth 100000 in
set_option maxHeartbeats 4000000 in
theorem zcs_J9_floorMod_7cf53 {E : zEnv} (Eok : zEok E) {R : Room} (hR : R = zR_J9_floorMod_7cf53) : ∀ q ∈ zl_J9_floorMod_7cf53, zS E yJ9_floorMod_7cf53.cls cJ9_floorMod_7cf53 3 wsJ9_floorMod_7cf53 (some .int) R q.1 q.2 := by
  subst hR
  refine List.forall_mem_cons.mpr ⟨zs_iload_n dJ9_floorMod_7cf53_0 rfl, ?_⟩
  refine List.forall_mem_cons.mpr ⟨zs_iload_n dJ9_floorMod_7cf53_1 rfl, ?_⟩
  refine List.forall_mem_cons.mpr ⟨zs_irem dJ9_floorMod_7cf53_2, ?_⟩
  refine List.forall_mem_cons.mpr ⟨zs_istore_n dJ9_floorMod_7cf53_3 rfl, ?_⟩
  refine List.forall_mem_cons.mpr ⟨zs_iload_n dJ9_floorMod_7cf53_4 rfl, ?_⟩
  refine List.forall_mem_cons.mpr ⟨zs_iload_n dJ9_floorMod_7cf53_5 rfl, ?_⟩
  refine List.forall_mem_cons.mpr ⟨zs_ixor dJ9_floorMod_7cf53_6, ?_⟩
  refine List.forall_mem_cons.mpr ⟨zs_ifge dJ9_floorMod_7cf53_7 (by decide), ?_⟩
  refine List.forall_mem_cons.mpr ⟨zs_iload_n dJ9_floorMod_7cf53_10 rfl, ?_⟩
  refine List.forall_mem_cons.mpr ⟨zs_ifeq dJ9_floorMod_7cf53_11 (by decide), ?_⟩
  refine List.forall_mem_cons.mpr ⟨zs_iload_n dJ9_floorMod_7cf53_14 rfl, ?_⟩
  refine List.forall_mem_cons.mpr ⟨zs_iload_n dJ9_floorMod_7cf53_15 rfl, ?_⟩
  refine List.forall_mem_cons.mpr ⟨zs_iadd dJ9_floorMod_7cf53_16, ?_⟩
  refine List.forall_mem_cons.mpr ⟨zs_reti (ty := .int) rfl (fun x h => (zni x h).1) dJ9_floorMod_7cf53_17, ?_⟩
  refine List.forall_mem_cons.mpr ⟨zs_iload_n dJ9_floorMod_7cf53_18 rfl, ?_⟩
  refine List.forall_mem_cons.mpr ⟨zs_reti (ty := .int) rfl (fun x h => (zni x h).1) dJ9_floorMod_7cf53_19, ?_⟩
  exact fun _ h => absurd h List.not_mem_nil
theorem zM_J9_floorMod_7cf53 {E : zEnv} (Eok : zEok E) : zMeets E yJ9_floorMod_7cf53 wsJ9_floorMod_7cf53 zR_J9_floorMod_7cf53 m_J9_floorMod_7cf53 := zmeth_M Eok (zlook_all (zcs_J9_floorMod_7cf53 Eok rfl)) (by decide +kernel) rfl
theorem zr_J9_floorMod_7cf53_0 (a1 a2 : Option zAV) (st : List zAV) (s : zAS) (k : Nat × Nat) (x : Int32) : zev zk_J9_floorMod_7cf53 (0, [some (Sum.inl (Value.int x)), a1, a2], st, s, k) = zev zk_J9_floorMod_7cf53 (1, [some (Sum.inl (Value.int x)), a1, a2], Sum.inl (Value.int x) :: st, s, k) := zev_go rfl rfl
theorem zr_J9_floorMod_7cf53_1 (a0 a2 : Option zAV) (st : List zAV) (s : zAS) (k : Nat × Nat) (x : Int32) : zev zk_J9_floorMod_7cf53 (1, [a0, some (Sum.inl (Value.int x)), a2], st, s, k) = zev zk_J9_floorMod_7cf53 (2, [a0, some (Sum.inl (Value.int x)), a2], Sum.inl (Value.int x) :: st, s, k) := zev_go rfl rfl
theorem zr_J9_floorMod_7cf53_2 (ls : zLs) (st : List zAV) (s : zAS) (k : Nat × Nat) (x y : Int32) : zev zk_J9_floorMod_7cf53 (2, ls, Sum.inl (Value.int y) :: Sum.inl (Value.int x) :: st, s, k) = if y = 0 then none else zev zk_J9_floorMod_7cf53 (3, ls, Sum.inl (Value.int (x - x / y * y)) :: st, s, k) := zf_rem rfl
theorem zr_J9_floorMod_7cf53_3 (a0 a1 a2 : Option zAV) (st : List zAV) (s : zAS) (k : Nat × Nat) (x : Int32) : zev zk_J9_floorMod_7cf53 (3, [a0, a1, a2], Sum.inl (Value.int x) :: st, s, k) = zev zk_J9_floorMod_7cf53 (4, [a0, zk1 a1, some (Sum.inl (Value.int x))], st, s, k) := zev_go rfl rfl
theorem zr_J9_floorMod_7cf53_4 (a1 a2 : Option zAV) (st : List zAV) (s : zAS) (k : Nat × Nat) (x : Int32) : zev zk_J9_floorMod_7cf53 (4, [some (Sum.inl (Value.int x)), a1, a2], st, s, k) = zev zk_J9_floorMod_7cf53 (5, [some (Sum.inl (Value.int x)), a1, a2], Sum.inl (Value.int x) :: st, s, k) := zev_go rfl rfl
theorem zr_J9_floorMod_7cf53_5 (a0 a2 : Option zAV) (st : List zAV) (s : zAS) (k : Nat × Nat) (x : Int32) : zev zk_J9_floorMod_7cf53 (5, [a0, some (Sum.inl (Value.int x)), a2], st, s, k) = zev zk_J9_floorMod_7cf53 (6, [a0, some (Sum.inl (Value.int x)), a2], Sum.inl (Value.int x) :: st, s, k) := zev_go rfl rfl
theorem zr_J9_floorMod_7cf53_6 (ls : zLs) (st : List zAV) (s : zAS) (k : Nat × Nat) (x y : Int32) : zev zk_J9_floorMod_7cf53 (6, ls, Sum.inl (Value.int y) :: Sum.inl (Value.int x) :: st, s, k) = zev zk_J9_floorMod_7cf53 (7, ls, Sum.inl (Value.int (x ^^^ y)) :: st, s, k) := zev_go rfl rfl
theorem zr_J9_floorMod_7cf53_7 (ls : zLs) (st : List zAV) (s : zAS) (k : Nat × Nat) (x : Int32) : zev zk_J9_floorMod_7cf53 (7, ls, Sum.inl (Value.int x) :: st, s, k) = if decide (0 ≤ x) = true then zev zk_J9_floorMod_7cf53 (18, ls, st, s, k) else zev zk_J9_floorMod_7cf53 (10, ls, st, s, k) := zf_if (f := fun x => decide (0 ≤ x)) rfl
theorem zr_J9_floorMod_7cf53_10 (a0 a1 : Option zAV) (st : List zAV) (s : zAS) (k : Nat × Nat) (x : Int32) : zev zk_J9_floorMod_7cf53 (10, [a0, a1, some (Sum.inl (Value.int x))], st, s, k) = zev zk_J9_floorMod_7cf53 (11, [a0, a1, some (Sum.inl (Value.int x))], Sum.inl (Value.int x) :: st, s, k) := zev_go rfl rfl
theorem zr_J9_floorMod_7cf53_11 (ls : zLs) (st : List zAV) (s : zAS) (k : Nat × Nat) (x : Int32) : zev zk_J9_floorMod_7cf53 (11, ls, Sum.inl (Value.int x) :: st, s, k) = if decide (x = 0) = true then zev zk_J9_floorMod_7cf53 (18, ls, st, s, k) else zev zk_J9_floorMod_7cf53 (14, ls, st, s, k) := zf_if (f := fun x => decide (x = 0)) rfl
theorem zr_J9_floorMod_7cf53_14 (a0 a1 : Option zAV) (st : List zAV) (s : zAS) (k : Nat × Nat) (x : Int32) : zev zk_J9_floorMod_7cf53 (14, [a0, a1, some (Sum.inl (Value.int x))], st, s, k) = zev zk_J9_floorMod_7cf53 (15, [a0, a1, some (Sum.inl (Value.int x))], Sum.inl (Value.int x) :: st, s, k) := zev_go rfl rfl
theorem zr_J9_floorMod_7cf53_15 (a0 a2 : Option zAV) (st : List zAV) (s : zAS) (k : Nat × Nat) (x : Int32) : zev zk_J9_floorMod_7cf53 (15, [a0, some (Sum.inl (Value.int x)), a2], st, s, k) = zev zk_J9_floorMod_7cf53 (16, [a0, some (Sum.inl (Value.int x)), a2], Sum.inl (Value.int x) :: st, s, k) := zev_go rfl rfl
theorem zr_J9_floorMod_7cf53_16 (ls : zLs) (st : List zAV) (s : zAS) (k : Nat × Nat) (x y : Int32) : zev zk_J9_floorMod_7cf53 (16, ls, Sum.inl (Value.int y) :: Sum.inl (Value.int x) :: st, s, k) = zev zk_J9_floorMod_7cf53 (17, ls, Sum.inl (Value.int (x + y)) :: st, s, k) := zev_go rfl rfl
theorem zr_J9_floorMod_7cf53_17 (ls : zLs) (s : zAS) (k : Nat × Nat) (x : Int32) : zev zk_J9_floorMod_7cf53 (17, ls, [Sum.inl (Value.int x)], s, k) = some (.inl (some (Sum.inl (Value.int x))), s) := zf_reti rfl
theorem zr_J9_floorMod_7cf53_18 (a0 a1 : Option zAV) (st : List zAV) (s : zAS) (k : Nat × Nat) (x : Int32) : zev zk_J9_floorMod_7cf53 (18, [a0, a1, some (Sum.inl (Value.int x))], st, s, k) = zev zk_J9_floorMod_7cf53 (19, [a0, a1, some (Sum.inl (Value.int x))], Sum.inl (Value.int x) :: st, s, k) := zev_go rfl rfl
theorem zr_J9_floorMod_7cf53_19 (ls : zLs) (s : zAS) (k : Nat × Nat) (x : Int32) : zev zk_J9_floorMod_7cf53 (19, ls, [Sum.inl (Value.int x)], s, k) = some (.inl (some (Sum.inl (Value.int x))), s) := zf_reti rfl
/-! X3_rest: PrimePlane$Field.rest(I)I -/
abbrev zR_X3_rest : Room := ({ frames := 1, cells := 0, slots := 0, locals := 22 } : Room)
noncomputable def zl_X3_rest : List (Nat × zOp) := [(0, z_lda 0 1), (1, z_get zEC 3 0 4), (4, z_if (fun x => decide (¬ x = 0)) 11 7), (7, z_ic (0) 8), (8, z_goto 19), (11, z_ldi 1 12), (12, z_lda 0 13), (13, z_get zEC 3 0 16), (16, z_callS m_J9_floorMod_7cf53 2 0 0 (zR_X3_rest).cells (zR_X3_rest).slots 19), (19, z_reti false)]
noncomputable def zk_X3_rest (pc : Nat) : Option zOp := zlook zl_X3_rest pc
noncomputable def m_X3_rest : List zAV → zAS → Option zOut := zmeth zk_X3_rest 2
set_option maxRecDepth 100000 in
set_option maxHeartbeats 4000000 in
theorem zcs_X3_rest {R : Room} (hR : R = zR_X3_rest) : ∀ q ∈ zl_X3_rest, zS zEC yX3_rest.cls cX3_rest 2 wsX3_rest (some .int) R q.1 q.2 := by
  subst hR
  have hin3 : ∀ w ∈ wsX30, w ∈ wsX3_rest := fun w h => List.mem_cons_of_mem _ (List.mem_append_right _ h)
  refine List.forall_mem_cons.mpr ⟨zs_aload_n dX3_rest_0 rfl, ?_⟩
  refine List.forall_mem_cons.mpr ⟨zs_get (ci := 3) (j := 0) (N := 3) (C := RX3) (T := TX3) (index := 9) rfl (by decide) hin3 (List.mem_of_getElem? (i := 1) rfl) dX3_rest_1, ?_⟩
  refine List.forall_mem_cons.mpr ⟨zs_ifne dX3_rest_4 (by decide), ?_⟩
  refine List.forall_mem_cons.mpr ⟨zs_iconst dX3_rest_7 (by decide), ?_⟩
  refine List.forall_mem_cons.mpr ⟨zs_goto dX3_rest_8 (by decide), ?_⟩
  refine List.forall_mem_cons.mpr ⟨zs_iload_n dX3_rest_11 rfl, ?_⟩
  refine List.forall_mem_cons.mpr ⟨zs_aload_n dX3_rest_12 rfl, ?_⟩
  refine List.forall_mem_cons.mpr ⟨zs_get (ci := 3) (j := 0) (N := 3) (C := RX3) (T := TX3) (index := 9) rfl (by decide) hin3 (List.mem_of_getElem? (i := 1) rfl) dX3_rest_13, ?_⟩
  refine List.forall_mem_cons.mpr ⟨zs_callS (rm := zR_J9_floorMod_7cf53) (n := 2) (zM_J9_floorMod_7cf53 zECok) gX3_rest_J9_floorMod_7cf53 rfl (by decide +kernel) ⟨by decide, by decide⟩ dX3_rest_16, ?_⟩
  refine List.forall_mem_cons.mpr ⟨zs_reti (ty := .int) rfl (fun x h => (zni x h).1) dX3_rest_19, ?_⟩
  exact fun _ h => absurd h List.not_mem_nil
theorem zM_X3_rest : zMeets zEC yX3_rest wsX3_rest zR_X3_rest m_X3_rest := zmeth_M zECok (zlook_all (zcs_X3_rest rfl)) (by decide +kernel) rfl
theorem zr_X3_rest_0 (a1 : Option zAV) (st : List zAV) (s : zAS) (k : Nat × Nat) (o : Nat × Nat) : zev zk_X3_rest (0, [some (Sum.inr o), a1], st, s, k) = zev zk_X3_rest (1, [some (Sum.inr o), a1], Sum.inr o :: st, s, k) := zev_go rfl rfl
theorem zr_X3_rest_1 (ls : zLs) (st : List zAV) (s : zAS) (k : Nat × Nat) (o i : Nat) : zev zk_X3_rest (1, ls, Sum.inr (o, i) :: st, s, k) = zpush zk_X3_rest 4 ls st s k (zgv zEC 3 0 o i s.1) := zf_get rfl
theorem zr_X3_rest_4 (ls : zLs) (st : List zAV) (s : zAS) (k : Nat × Nat) (x : Int32) : zev zk_X3_rest (4, ls, Sum.inl (Value.int x) :: st, s, k) = if decide (¬ x = 0) = true then zev zk_X3_rest (11, ls, st, s, k) else zev zk_X3_rest (7, ls, st, s, k) := zf_if (f := fun x => decide (¬ x = 0)) rfl
theorem zr_X3_rest_7 (ls : zLs) (st : List zAV) (s : zAS) (k : Nat × Nat) : zev zk_X3_rest (7, ls, st, s, k) = zev zk_X3_rest (8, ls, Sum.inl (Value.int (0)) :: st, s, k) := zev_go rfl rfl
theorem zr_X3_rest_8 (ls : zLs) (st : List zAV) (s : zAS) (k : Nat × Nat) : zev zk_X3_rest (8, ls, st, s, k) = zev zk_X3_rest (19, ls, st, s, k) := zev_go rfl rfl
theorem zr_X3_rest_11 (a0 : Option zAV) (st : List zAV) (s : zAS) (k : Nat × Nat) (x : Int32) : zev zk_X3_rest (11, [a0, some (Sum.inl (Value.int x))], st, s, k) = zev zk_X3_rest (12, [a0, some (Sum.inl (Value.int x))], Sum.inl (Value.int x) :: st, s, k) := zev_go rfl rfl
theorem zr_X3_rest_12 (a1 : Option zAV) (st : List zAV) (s : zAS) (k : Nat × Nat) (o : Nat × Nat) : zev zk_X3_rest (12, [some (Sum.inr o), a1], st, s, k) = zev zk_X3_rest (13, [some (Sum.inr o), a1], Sum.inr o :: st, s, k) := zev_go rfl rfl
theorem zr_X3_rest_13 (ls : zLs) (st : List zAV) (s : zAS) (k : Nat × Nat) (o i : Nat) : zev zk_X3_rest (13, ls, Sum.inr (o, i) :: st, s, k) = zpush zk_X3_rest 16 ls st s k (zgv zEC 3 0 o i s.1) := zf_get rfl
theorem zr_X3_rest_16 (ls : zLs) (st : List zAV) (s : zAS) (k : Nat × Nat) (v0 v1 : zAV) (h : (st.map zcat).sum ≤ 8 ∧ k.1 + 0 ≤ (zR_X3_rest).cells ∧ k.2 + 0 ≤ (zR_X3_rest).slots) : zev zk_X3_rest (16, ls, v1 :: v0 :: st, s, k) = zret zk_X3_rest 19 ls st (k.1 + 0, k.2 + 0) (m_J9_floorMod_7cf53 [v0, v1] s) := zf_callS (as := [v1, v0]) 2 rfl rfl h
theorem zr_X3_rest_19 (ls : zLs) (s : zAS) (k : Nat × Nat) (x : Int32) : zev zk_X3_rest (19, ls, [Sum.inl (Value.int x)], s, k) = some (.inl (some (Sum.inl (Value.int x))), s) := zf_reti rfl
/-! X4_put: PrimePlane$Figure.put(III)V -/
abbrev zR_X4_put : Room := ({ frames := 0, cells := 0, slots := 0, locals := 0 } : Room)
noncomputable def zl_X4_put : List (Nat × zOp) := [(0, z_lda 0 1), (1, z_ldi 1 2), (2, z_put zEC 4 8 false 5), (5, z_lda 0 6), (6, z_ldi 2 7), (7, z_put zEC 4 9 false 10), (10, z_lda 0 11), (11, z_ldi 3 12), (12, z_put zEC 4 10 false 15), (15, z_retv)]
noncomputable def zk_X4_put (pc : Nat) : Option zOp := zlook zl_X4_put pc
noncomputable def m_X4_put : List zAV → zAS → Option zOut := zmeth zk_X4_put 4
set_option maxRecDepth 100000 in
set_option maxHeartbeats 4000000 in
theorem zcs_X4_put {R : Room} (hR : R = zR_X4_put) : ∀ q ∈ zl_X4_put, zS zEC yX4_put.cls cX4_put 4 wsX4_put none R q.1 q.2 := by
  subst hR
  have hin4 : ∀ w ∈ wsX40, w ∈ wsX4_put := fun w h => List.mem_cons_of_mem _ (List.mem_append_right _ h)
  refine List.forall_mem_cons.mpr ⟨zs_aload_n dX4_put_0 rfl, ?_⟩
  refine List.forall_mem_cons.mpr ⟨zs_iload_n dX4_put_1 rfl, ?_⟩
  refine List.forall_mem_cons.mpr ⟨zs_put (ci := 4) (j := 8) (N := 13) (C := RX4) (T := TX4) (index := 33) (b := false) .int tyX4 rfl (by decide) hin4 tyX4_ok nmX4 (List.mem_of_getElem? (i := 1) rfl) rfl (by decide +kernel) zni dX4_put_2, ?_⟩
  refine List.forall_mem_cons.mpr ⟨zs_aload_n dX4_put_5 rfl, ?_⟩
  refine List.forall_mem_cons.mpr ⟨zs_iload_n dX4_put_6 rfl, ?_⟩
  refine List.forall_mem_cons.mpr ⟨zs_put (ci := 4) (j := 9) (N := 13) (C := RX4) (T := TX4) (index := 36) (b := false) .int tyX4 rfl (by decide) hin4 tyX4_ok nmX4 (List.mem_of_getElem? (i := 2) rfl) rfl (by decide +kernel) zni dX4_put_7, ?_⟩
  refine List.forall_mem_cons.mpr ⟨zs_aload_n dX4_put_10 rfl, ?_⟩
  refine List.forall_mem_cons.mpr ⟨zs_iload_n dX4_put_11 rfl, ?_⟩
  refine List.forall_mem_cons.mpr ⟨zs_put (ci := 4) (j := 10) (N := 13) (C := RX4) (T := TX4) (index := 39) (b := false) .int tyX4 rfl (by decide) hin4 tyX4_ok nmX4 (List.mem_of_getElem? (i := 3) rfl) rfl (by decide +kernel) zni dX4_put_12, ?_⟩
  refine List.forall_mem_cons.mpr ⟨zs_retv rfl dX4_put_15, ?_⟩
  exact fun _ h => absurd h List.not_mem_nil
theorem zM_X4_put : zMeets zEC yX4_put wsX4_put zR_X4_put m_X4_put := zmeth_M zECok (zlook_all (zcs_X4_put rfl)) (by decide +kernel) rfl
theorem zr_X4_put_0 (a1 a2 a3 : Option zAV) (st : List zAV) (s : zAS) (k : Nat × Nat) (o : Nat × Nat) : zev zk_X4_put (0, [some (Sum.inr o), a1, a2, a3], st, s, k) = zev zk_X4_put (1, [some (Sum.inr o), a1, a2, a3], Sum.inr o :: st, s, k) := zev_go rfl rfl
theorem zr_X4_put_1 (a0 a2 a3 : Option zAV) (st : List zAV) (s : zAS) (k : Nat × Nat) (x : Int32) : zev zk_X4_put (1, [a0, some (Sum.inl (Value.int x)), a2, a3], st, s, k) = zev zk_X4_put (2, [a0, some (Sum.inl (Value.int x)), a2, a3], Sum.inl (Value.int x) :: st, s, k) := zev_go rfl rfl
theorem zr_X4_put_2 (ls : zLs) (st : List zAV) (s : zAS) (k : Nat × Nat) (o i : Nat) (x : Int32) (h : zpok zEC 4 8 false o i x) : zev zk_X4_put (2, ls, Sum.inl (Value.int x) :: Sum.inr (o, i) :: st, s, k) = zev zk_X4_put (5, ls, st, (zup s.1 o i 8 x, s.2), k) := zf_put rfl h
theorem zr_X4_put_5 (a1 a2 a3 : Option zAV) (st : List zAV) (s : zAS) (k : Nat × Nat) (o : Nat × Nat) : zev zk_X4_put (5, [some (Sum.inr o), a1, a2, a3], st, s, k) = zev zk_X4_put (6, [some (Sum.inr o), a1, a2, a3], Sum.inr o :: st, s, k) := zev_go rfl rfl
theorem zr_X4_put_6 (a0 a1 a3 : Option zAV) (st : List zAV) (s : zAS) (k : Nat × Nat) (x : Int32) : zev zk_X4_put (6, [a0, a1, some (Sum.inl (Value.int x)), a3], st, s, k) = zev zk_X4_put (7, [a0, a1, some (Sum.inl (Value.int x)), a3], Sum.inl (Value.int x) :: st, s, k) := zev_go rfl rfl
theorem zr_X4_put_7 (ls : zLs) (st : List zAV) (s : zAS) (k : Nat × Nat) (o i : Nat) (x : Int32) (h : zpok zEC 4 9 false o i x) : zev zk_X4_put (7, ls, Sum.inl (Value.int x) :: Sum.inr (o, i) :: st, s, k) = zev zk_X4_put (10, ls, st, (zup s.1 o i 9 x, s.2), k) := zf_put rfl h
theorem zr_X4_put_10 (a1 a2 a3 : Option zAV) (st : List zAV) (s : zAS) (k : Nat × Nat) (o : Nat × Nat) : zev zk_X4_put (10, [some (Sum.inr o), a1, a2, a3], st, s, k) = zev zk_X4_put (11, [some (Sum.inr o), a1, a2, a3], Sum.inr o :: st, s, k) := zev_go rfl rfl
theorem zr_X4_put_11 (a0 a1 a2 : Option zAV) (st : List zAV) (s : zAS) (k : Nat × Nat) (x : Int32) : zev zk_X4_put (11, [a0, a1, a2, some (Sum.inl (Value.int x))], st, s, k) = zev zk_X4_put (12, [a0, a1, a2, some (Sum.inl (Value.int x))], Sum.inl (Value.int x) :: st, s, k) := zev_go rfl rfl
theorem zr_X4_put_12 (ls : zLs) (st : List zAV) (s : zAS) (k : Nat × Nat) (o i : Nat) (x : Int32) (h : zpok zEC 4 10 false o i x) : zev zk_X4_put (12, ls, Sum.inl (Value.int x) :: Sum.inr (o, i) :: st, s, k) = zev zk_X4_put (15, ls, st, (zup s.1 o i 10 x, s.2), k) := zf_put rfl h
theorem zr_X4_put_15 (ls : zLs) (s : zAS) (k : Nat × Nat) : zev zk_X4_put (15, ls, [], s, k) = some (.inl none, s) := zev_end rfl rfl
/-! X3_inverseOf: PrimePlane$Field.inverseOf(I)I -/
abbrev zR_X3_inverseOf : Room := ({ frames := 0, cells := 0, slots := 0, locals := 0 } : Room)
noncomputable def zl_X3_inverseOf : List (Nat × zOp) := [(0, z_ldi 1 1), (1, z_if (fun x => decide (x < 0)) 22 4), (4, z_ldi 1 5), (5, z_lda 0 6), (6, z_get zEC 3 1 9), (9, z_alen zEC 10), (10, z_cmp (fun x y => decide (y ≤ x)) 22 13), (13, z_lda 0 14), (14, z_get zEC 3 1 17), (17, z_ldi 1 18), (18, z_iald zEC 19), (19, z_goto 23), (22, z_ic (0) 23), (23, z_reti false)]
noncomputable def zk_X3_inverseOf (pc : Nat) : Option zOp := zlook zl_X3_inverseOf pc
noncomputable def m_X3_inverseOf : List zAV → zAS → Option zOut := zmeth zk_X3_inverseOf 2
set_option maxRecDepth 100000 in
set_option maxHeartbeats 4000000 in
theorem zcs_X3_inverseOf {R : Room} (hR : R = zR_X3_inverseOf) : ∀ q ∈ zl_X3_inverseOf, zS zEC yX3_inverseOf.cls cX3_inverseOf 2 wsX3_inverseOf (some .int) R q.1 q.2 := by
  subst hR
  have hin3 : ∀ w ∈ wsX30, w ∈ wsX3_inverseOf := fun w h => List.mem_cons_of_mem _ (List.mem_append_right _ h)
  refine List.forall_mem_cons.mpr ⟨zs_iload_n dX3_inverseOf_0 rfl, ?_⟩
  refine List.forall_mem_cons.mpr ⟨zs_iflt dX3_inverseOf_1 (by decide), ?_⟩
  refine List.forall_mem_cons.mpr ⟨zs_iload_n dX3_inverseOf_4 rfl, ?_⟩
  refine List.forall_mem_cons.mpr ⟨zs_aload_n dX3_inverseOf_5 rfl, ?_⟩
  refine List.forall_mem_cons.mpr ⟨zs_get (ci := 3) (j := 1) (N := 3) (C := RX3) (T := TX3) (index := 15) rfl (by decide) hin3 (List.mem_of_getElem? (i := 1) rfl) dX3_inverseOf_6, ?_⟩
  refine List.forall_mem_cons.mpr ⟨zs_alen dX3_inverseOf_9, ?_⟩
  refine List.forall_mem_cons.mpr ⟨zs_icge dX3_inverseOf_10 (by decide), ?_⟩
  refine List.forall_mem_cons.mpr ⟨zs_aload_n dX3_inverseOf_13 rfl, ?_⟩
  refine List.forall_mem_cons.mpr ⟨zs_get (ci := 3) (j := 1) (N := 3) (C := RX3) (T := TX3) (index := 15) rfl (by decide) hin3 (List.mem_of_getElem? (i := 1) rfl) dX3_inverseOf_14, ?_⟩
  refine List.forall_mem_cons.mpr ⟨zs_iload_n dX3_inverseOf_17 rfl, ?_⟩
  refine List.forall_mem_cons.mpr ⟨zs_iald dX3_inverseOf_18, ?_⟩
  refine List.forall_mem_cons.mpr ⟨zs_goto dX3_inverseOf_19 (by decide), ?_⟩
  refine List.forall_mem_cons.mpr ⟨zs_iconst dX3_inverseOf_22 (by decide), ?_⟩
  refine List.forall_mem_cons.mpr ⟨zs_reti (ty := .int) rfl (fun x h => (zni x h).1) dX3_inverseOf_23, ?_⟩
  exact fun _ h => absurd h List.not_mem_nil
theorem zM_X3_inverseOf : zMeets zEC yX3_inverseOf wsX3_inverseOf zR_X3_inverseOf m_X3_inverseOf := zmeth_M zECok (zlook_all (zcs_X3_inverseOf rfl)) (by decide +kernel) rfl
theorem zr_X3_inverseOf_0 (a0 : Option zAV) (st : List zAV) (s : zAS) (k : Nat × Nat) (x : Int32) : zev zk_X3_inverseOf (0, [a0, some (Sum.inl (Value.int x))], st, s, k) = zev zk_X3_inverseOf (1, [a0, some (Sum.inl (Value.int x))], Sum.inl (Value.int x) :: st, s, k) := zev_go rfl rfl
theorem zr_X3_inverseOf_1 (ls : zLs) (st : List zAV) (s : zAS) (k : Nat × Nat) (x : Int32) : zev zk_X3_inverseOf (1, ls, Sum.inl (Value.int x) :: st, s, k) = if decide (x < 0) = true then zev zk_X3_inverseOf (22, ls, st, s, k) else zev zk_X3_inverseOf (4, ls, st, s, k) := zf_if (f := fun x => decide (x < 0)) rfl
theorem zr_X3_inverseOf_4 (a0 : Option zAV) (st : List zAV) (s : zAS) (k : Nat × Nat) (x : Int32) : zev zk_X3_inverseOf (4, [a0, some (Sum.inl (Value.int x))], st, s, k) = zev zk_X3_inverseOf (5, [a0, some (Sum.inl (Value.int x))], Sum.inl (Value.int x) :: st, s, k) := zev_go rfl rfl
theorem zr_X3_inverseOf_5 (a1 : Option zAV) (st : List zAV) (s : zAS) (k : Nat × Nat) (o : Nat × Nat) : zev zk_X3_inverseOf (5, [some (Sum.inr o), a1], st, s, k) = zev zk_X3_inverseOf (6, [some (Sum.inr o), a1], Sum.inr o :: st, s, k) := zev_go rfl rfl
theorem zr_X3_inverseOf_6 (ls : zLs) (st : List zAV) (s : zAS) (k : Nat × Nat) (o i : Nat) : zev zk_X3_inverseOf (6, ls, Sum.inr (o, i) :: st, s, k) = zpush zk_X3_inverseOf 9 ls st s k (zgv zEC 3 1 o i s.1) := zf_get rfl
theorem zr_X3_inverseOf_9 (ls : zLs) (st : List zAV) (s : zAS) (k : Nat × Nat) (o i : Nat) : zev zk_X3_inverseOf (9, ls, Sum.inr (o, i) :: st, s, k) = zpush zk_X3_inverseOf 10 ls st s k (zalen zEC o i s.2) := zf_alen rfl
theorem zr_X3_inverseOf_10 (ls : zLs) (st : List zAV) (s : zAS) (k : Nat × Nat) (x y : Int32) : zev zk_X3_inverseOf (10, ls, Sum.inl (Value.int y) :: Sum.inl (Value.int x) :: st, s, k) = if decide (y ≤ x) = true then zev zk_X3_inverseOf (22, ls, st, s, k) else zev zk_X3_inverseOf (13, ls, st, s, k) := zf_cmp (f := fun x y => decide (y ≤ x)) rfl
theorem zr_X3_inverseOf_13 (a1 : Option zAV) (st : List zAV) (s : zAS) (k : Nat × Nat) (o : Nat × Nat) : zev zk_X3_inverseOf (13, [some (Sum.inr o), a1], st, s, k) = zev zk_X3_inverseOf (14, [some (Sum.inr o), a1], Sum.inr o :: st, s, k) := zev_go rfl rfl
theorem zr_X3_inverseOf_14 (ls : zLs) (st : List zAV) (s : zAS) (k : Nat × Nat) (o i : Nat) : zev zk_X3_inverseOf (14, ls, Sum.inr (o, i) :: st, s, k) = zpush zk_X3_inverseOf 17 ls st s k (zgv zEC 3 1 o i s.1) := zf_get rfl
theorem zr_X3_inverseOf_17 (a0 : Option zAV) (st : List zAV) (s : zAS) (k : Nat × Nat) (x : Int32) : zev zk_X3_inverseOf (17, [a0, some (Sum.inl (Value.int x))], st, s, k) = zev zk_X3_inverseOf (18, [a0, some (Sum.inl (Value.int x))], Sum.inl (Value.int x) :: st, s, k) := zev_go rfl rfl
theorem zr_X3_inverseOf_18 (ls : zLs) (st : List zAV) (s : zAS) (k : Nat × Nat) (o i : Nat) (j : Int32) : zev zk_X3_inverseOf (18, ls, Sum.inl (Value.int j) :: Sum.inr (o, i) :: st, s, k) = zpush zk_X3_inverseOf 19 ls st s k (zald zEC o i j s) := zf_iald rfl
theorem zr_X3_inverseOf_19 (ls : zLs) (st : List zAV) (s : zAS) (k : Nat × Nat) : zev zk_X3_inverseOf (19, ls, st, s, k) = zev zk_X3_inverseOf (23, ls, st, s, k) := zev_go rfl rfl
theorem zr_X3_inverseOf_22 (ls : zLs) (st : List zAV) (s : zAS) (k : Nat × Nat) : zev zk_X3_inverseOf (22, ls, st, s, k) = zev zk_X3_inverseOf (23, ls, Sum.inl (Value.int (0)) :: st, s, k) := zev_go rfl rfl
theorem zr_X3_inverseOf_23 (ls : zLs) (s : zAS) (k : Nat × Nat) (x : Int32) : zev zk_X3_inverseOf (23, ls, [Sum.inl (Value.int x)], s, k) = some (.inl (some (Sum.inl (Value.int x))), s) := zf_reti rfl
/-! X3_ratio: PrimePlane$Field.ratio(II)I -/
abbrev zR_X3_ratio : Room := ({ frames := 2, cells := 0, slots := 0, locals := 43 } : Room)
noncomputable def zl_X3_ratio : List (Nat × zOp) := [(0, z_lda 0 1), (1, z_lda 0 2), (2, z_ldi 1 3), (3, z_callV zEC 3 m_X3_rest 1 0 0 (zR_X3_ratio).cells (zR_X3_ratio).slots 6), (6, z_lda 0 7), (7, z_lda 0 8), (8, z_ldi 2 9), (9, z_callV zEC 3 m_X3_rest 1 0 0 (zR_X3_ratio).cells (zR_X3_ratio).slots 12), (12, z_callV zEC 3 m_X3_inverseOf 1 0 0 (zR_X3_ratio).cells (zR_X3_ratio).slots 15), (15, z_bin (fun x y => x * y) 16), (16, z_callV zEC 3 m_X3_rest 1 0 0 (zR_X3_ratio).cells (zR_X3_ratio).slots 19), (19, z_reti false)]
noncomputable def zk_X3_ratio (pc : Nat) : Option zOp := zlook zl_X3_ratio pc
noncomputable def m_X3_ratio : List zAV → zAS → Option zOut := zmeth zk_X3_ratio 3
set_option maxRecDepth 100000 in
set_option maxHeartbeats 4000000 in
theorem zcs_X3_ratio {R : Room} (hR : R = zR_X3_ratio) : ∀ q ∈ zl_X3_ratio, zS zEC yX3_ratio.cls cX3_ratio 3 wsX3_ratio (some .int) R q.1 q.2 := by
  subst hR
  refine List.forall_mem_cons.mpr ⟨zs_aload_n dX3_ratio_0 rfl, ?_⟩
  refine List.forall_mem_cons.mpr ⟨zs_aload_n dX3_ratio_1 rfl, ?_⟩
  refine List.forall_mem_cons.mpr ⟨zs_iload_n dX3_ratio_2 rfl, ?_⟩
  refine List.forall_mem_cons.mpr ⟨zs_callV (ci := 3) (rm := zR_X3_rest) (n := 1) rfl zM_X3_rest gX3_ratio_X3_rest rfl (by decide +kernel) ⟨by decide, by decide⟩ dX3_ratio_3, ?_⟩
  refine List.forall_mem_cons.mpr ⟨zs_aload_n dX3_ratio_6 rfl, ?_⟩
  refine List.forall_mem_cons.mpr ⟨zs_aload_n dX3_ratio_7 rfl, ?_⟩
  refine List.forall_mem_cons.mpr ⟨zs_iload_n dX3_ratio_8 rfl, ?_⟩
  refine List.forall_mem_cons.mpr ⟨zs_callV (ci := 3) (rm := zR_X3_rest) (n := 1) rfl zM_X3_rest gX3_ratio_X3_rest rfl (by decide +kernel) ⟨by decide, by decide⟩ dX3_ratio_9, ?_⟩
  refine List.forall_mem_cons.mpr ⟨zs_callV (ci := 3) (rm := zR_X3_inverseOf) (n := 1) rfl zM_X3_inverseOf gX3_ratio_X3_inverseOf rfl (by decide +kernel) ⟨by decide, by decide⟩ dX3_ratio_12, ?_⟩
  refine List.forall_mem_cons.mpr ⟨zs_imul dX3_ratio_15, ?_⟩
  refine List.forall_mem_cons.mpr ⟨zs_callV (ci := 3) (rm := zR_X3_rest) (n := 1) rfl zM_X3_rest gX3_ratio_X3_rest rfl (by decide +kernel) ⟨by decide, by decide⟩ dX3_ratio_16, ?_⟩
  refine List.forall_mem_cons.mpr ⟨zs_reti (ty := .int) rfl (fun x h => (zni x h).1) dX3_ratio_19, ?_⟩
  exact fun _ h => absurd h List.not_mem_nil
theorem zM_X3_ratio : zMeets zEC yX3_ratio wsX3_ratio zR_X3_ratio m_X3_ratio := zmeth_M zECok (zlook_all (zcs_X3_ratio rfl)) (by decide +kernel) rfl
theorem zr_X3_ratio_0 (a1 a2 : Option zAV) (st : List zAV) (s : zAS) (k : Nat × Nat) (o : Nat × Nat) : zev zk_X3_ratio (0, [some (Sum.inr o), a1, a2], st, s, k) = zev zk_X3_ratio (1, [some (Sum.inr o), a1, a2], Sum.inr o :: st, s, k) := zev_go rfl rfl
theorem zr_X3_ratio_1 (a1 a2 : Option zAV) (st : List zAV) (s : zAS) (k : Nat × Nat) (o : Nat × Nat) : zev zk_X3_ratio (1, [some (Sum.inr o), a1, a2], st, s, k) = zev zk_X3_ratio (2, [some (Sum.inr o), a1, a2], Sum.inr o :: st, s, k) := zev_go rfl rfl
theorem zr_X3_ratio_2 (a0 a2 : Option zAV) (st : List zAV) (s : zAS) (k : Nat × Nat) (x : Int32) : zev zk_X3_ratio (2, [a0, some (Sum.inl (Value.int x)), a2], st, s, k) = zev zk_X3_ratio (3, [a0, some (Sum.inl (Value.int x)), a2], Sum.inl (Value.int x) :: st, s, k) := zev_go rfl rfl
theorem zr_X3_ratio_3 (ls : zLs) (st : List zAV) (s : zAS) (k : Nat × Nat) (r v0 : zAV) (h : zcok zEC 3 0 0 (zR_X3_ratio).cells (zR_X3_ratio).slots r st k) : zev zk_X3_ratio (3, ls, v0 :: r :: st, s, k) = zret zk_X3_ratio 6 ls st (k.1 + 0, k.2 + 0) (m_X3_rest [r, v0] s) := zf_callV (as := [v0]) 1 rfl rfl h
theorem zr_X3_ratio_6 (a1 a2 : Option zAV) (st : List zAV) (s : zAS) (k : Nat × Nat) (o : Nat × Nat) : zev zk_X3_ratio (6, [some (Sum.inr o), a1, a2], st, s, k) = zev zk_X3_ratio (7, [some (Sum.inr o), a1, a2], Sum.inr o :: st, s, k) := zev_go rfl rfl
theorem zr_X3_ratio_7 (a1 a2 : Option zAV) (st : List zAV) (s : zAS) (k : Nat × Nat) (o : Nat × Nat) : zev zk_X3_ratio (7, [some (Sum.inr o), a1, a2], st, s, k) = zev zk_X3_ratio (8, [some (Sum.inr o), a1, a2], Sum.inr o :: st, s, k) := zev_go rfl rfl
theorem zr_X3_ratio_8 (a0 a1 : Option zAV) (st : List zAV) (s : zAS) (k : Nat × Nat) (x : Int32) : zev zk_X3_ratio (8, [a0, a1, some (Sum.inl (Value.int x))], st, s, k) = zev zk_X3_ratio (9, [a0, a1, some (Sum.inl (Value.int x))], Sum.inl (Value.int x) :: st, s, k) := zev_go rfl rfl
theorem zr_X3_ratio_9 (ls : zLs) (st : List zAV) (s : zAS) (k : Nat × Nat) (r v0 : zAV) (h : zcok zEC 3 0 0 (zR_X3_ratio).cells (zR_X3_ratio).slots r st k) : zev zk_X3_ratio (9, ls, v0 :: r :: st, s, k) = zret zk_X3_ratio 12 ls st (k.1 + 0, k.2 + 0) (m_X3_rest [r, v0] s) := zf_callV (as := [v0]) 1 rfl rfl h
theorem zr_X3_ratio_12 (ls : zLs) (st : List zAV) (s : zAS) (k : Nat × Nat) (r v0 : zAV) (h : zcok zEC 3 0 0 (zR_X3_ratio).cells (zR_X3_ratio).slots r st k) : zev zk_X3_ratio (12, ls, v0 :: r :: st, s, k) = zret zk_X3_ratio 15 ls st (k.1 + 0, k.2 + 0) (m_X3_inverseOf [r, v0] s) := zf_callV (as := [v0]) 1 rfl rfl h
theorem zr_X3_ratio_15 (ls : zLs) (st : List zAV) (s : zAS) (k : Nat × Nat) (x y : Int32) : zev zk_X3_ratio (15, ls, Sum.inl (Value.int y) :: Sum.inl (Value.int x) :: st, s, k) = zev zk_X3_ratio (16, ls, Sum.inl (Value.int (x * y)) :: st, s, k) := zev_go rfl rfl
theorem zr_X3_ratio_16 (ls : zLs) (st : List zAV) (s : zAS) (k : Nat × Nat) (r v0 : zAV) (h : zcok zEC 3 0 0 (zR_X3_ratio).cells (zR_X3_ratio).slots r st k) : zev zk_X3_ratio (16, ls, v0 :: r :: st, s, k) = zret zk_X3_ratio 19 ls st (k.1 + 0, k.2 + 0) (m_X3_rest [r, v0] s) := zf_callV (as := [v0]) 1 rfl rfl h
theorem zr_X3_ratio_19 (ls : zLs) (s : zAS) (k : Nat × Nat) (x : Int32) : zev zk_X3_ratio (19, ls, [Sum.inl (Value.int x)], s, k) = some (.inl (some (Sum.inl (Value.int x))), s) := zf_reti rfl
/-! X3_rootOf: PrimePlane$Field.rootOf(I)I -/
abbrev zR_X3_rootOf : Room := ({ frames := 2, cells := 0, slots := 0, locals := 43 } : Room)
noncomputable def zl_X3_rootOf : List (Nat × zOp) := [(0, z_lda 0 1), (1, z_ldi 1 2), (2, z_callV zEC 3 m_X3_rest 1 0 0 (zR_X3_rootOf).cells (zR_X3_rootOf).slots 5), (5, z_sti 2 6), (6, z_ldi 2 7), (7, z_if (fun x => decide (x < 0)) 28 10), (10, z_ldi 2 11), (11, z_lda 0 12), (12, z_get zEC 3 2 15), (15, z_alen zEC 16), (16, z_cmp (fun x y => decide (y ≤ x)) 28 19), (19, z_lda 0 20), (20, z_get zEC 3 2 23), (23, z_ldi 2 24), (24, z_iald zEC 25), (25, z_goto 29), (28, z_ic (-1) 29), (29, z_reti false)]
noncomputable def zk_X3_rootOf (pc : Nat) : Option zOp := zlook zl_X3_rootOf pc
noncomputable def m_X3_rootOf : List zAV → zAS → Option zOut := zmeth zk_X3_rootOf 3
set_option maxRecDepth 100000 in
set_option maxHeartbeats 4000000 in
theorem zcs_X3_rootOf {R : Room} (hR : R = zR_X3_rootOf) : ∀ q ∈ zl_X3_rootOf, zS zEC yX3_rootOf.cls cX3_rootOf 3 wsX3_rootOf (some .int) R q.1 q.2 := by
  subst hR
  have hin3 : ∀ w ∈ wsX30, w ∈ wsX3_rootOf := fun w h => List.mem_cons_of_mem _ (List.mem_append_right _ h)
  refine List.forall_mem_cons.mpr ⟨zs_aload_n dX3_rootOf_0 rfl, ?_⟩
  refine List.forall_mem_cons.mpr ⟨zs_iload_n dX3_rootOf_1 rfl, ?_⟩
  refine List.forall_mem_cons.mpr ⟨zs_callV (ci := 3) (rm := zR_X3_rest) (n := 1) rfl zM_X3_rest gX3_rootOf_X3_rest rfl (by decide +kernel) ⟨by decide, by decide⟩ dX3_rootOf_2, ?_⟩
  refine List.forall_mem_cons.mpr ⟨zs_istore_n dX3_rootOf_5 rfl, ?_⟩
  refine List.forall_mem_cons.mpr ⟨zs_iload_n dX3_rootOf_6 rfl, ?_⟩
  refine List.forall_mem_cons.mpr ⟨zs_iflt dX3_rootOf_7 (by decide), ?_⟩
  refine List.forall_mem_cons.mpr ⟨zs_iload_n dX3_rootOf_10 rfl, ?_⟩
  refine List.forall_mem_cons.mpr ⟨zs_aload_n dX3_rootOf_11 rfl, ?_⟩
  refine List.forall_mem_cons.mpr ⟨zs_get (ci := 3) (j := 2) (N := 3) (C := RX3) (T := TX3) (index := 19) rfl (by decide) hin3 (List.mem_of_getElem? (i := 1) rfl) dX3_rootOf_12, ?_⟩
  refine List.forall_mem_cons.mpr ⟨zs_alen dX3_rootOf_15, ?_⟩
  refine List.forall_mem_cons.mpr ⟨zs_icge dX3_rootOf_16 (by decide), ?_⟩
  refine List.forall_mem_cons.mpr ⟨zs_aload_n dX3_rootOf_19 rfl, ?_⟩
  refine List.forall_mem_cons.mpr ⟨zs_get (ci := 3) (j := 2) (N := 3) (C := RX3) (T := TX3) (index := 19) rfl (by decide) hin3 (List.mem_of_getElem? (i := 1) rfl) dX3_rootOf_20, ?_⟩
  refine List.forall_mem_cons.mpr ⟨zs_iload_n dX3_rootOf_23 rfl, ?_⟩
  refine List.forall_mem_cons.mpr ⟨zs_iald dX3_rootOf_24, ?_⟩
  refine List.forall_mem_cons.mpr ⟨zs_goto dX3_rootOf_25 (by decide), ?_⟩
  refine List.forall_mem_cons.mpr ⟨zs_iconst dX3_rootOf_28 (by decide), ?_⟩
  refine List.forall_mem_cons.mpr ⟨zs_reti (ty := .int) rfl (fun x h => (zni x h).1) dX3_rootOf_29, ?_⟩
  exact fun _ h => absurd h List.not_mem_nil
theorem zM_X3_rootOf : zMeets zEC yX3_rootOf wsX3_rootOf zR_X3_rootOf m_X3_rootOf := zmeth_M zECok (zlook_all (zcs_X3_rootOf rfl)) (by decide +kernel) rfl
theorem zr_X3_rootOf_0 (a1 a2 : Option zAV) (st : List zAV) (s : zAS) (k : Nat × Nat) (o : Nat × Nat) : zev zk_X3_rootOf (0, [some (Sum.inr o), a1, a2], st, s, k) = zev zk_X3_rootOf (1, [some (Sum.inr o), a1, a2], Sum.inr o :: st, s, k) := zev_go rfl rfl
theorem zr_X3_rootOf_1 (a0 a2 : Option zAV) (st : List zAV) (s : zAS) (k : Nat × Nat) (x : Int32) : zev zk_X3_rootOf (1, [a0, some (Sum.inl (Value.int x)), a2], st, s, k) = zev zk_X3_rootOf (2, [a0, some (Sum.inl (Value.int x)), a2], Sum.inl (Value.int x) :: st, s, k) := zev_go rfl rfl
theorem zr_X3_rootOf_2 (ls : zLs) (st : List zAV) (s : zAS) (k : Nat × Nat) (r v0 : zAV) (h : zcok zEC 3 0 0 (zR_X3_rootOf).cells (zR_X3_rootOf).slots r st k) : zev zk_X3_rootOf (2, ls, v0 :: r :: st, s, k) = zret zk_X3_rootOf 5 ls st (k.1 + 0, k.2 + 0) (m_X3_rest [r, v0] s) := zf_callV (as := [v0]) 1 rfl rfl h
theorem zr_X3_rootOf_5 (a0 a1 a2 : Option zAV) (st : List zAV) (s : zAS) (k : Nat × Nat) (x : Int32) : zev zk_X3_rootOf (5, [a0, a1, a2], Sum.inl (Value.int x) :: st, s, k) = zev zk_X3_rootOf (6, [a0, zk1 a1, some (Sum.inl (Value.int x))], st, s, k) := zev_go rfl rfl
theorem zr_X3_rootOf_6 (a0 a1 : Option zAV) (st : List zAV) (s : zAS) (k : Nat × Nat) (x : Int32) : zev zk_X3_rootOf (6, [a0, a1, some (Sum.inl (Value.int x))], st, s, k) = zev zk_X3_rootOf (7, [a0, a1, some (Sum.inl (Value.int x))], Sum.inl (Value.int x) :: st, s, k) := zev_go rfl rfl
theorem zr_X3_rootOf_7 (ls : zLs) (st : List zAV) (s : zAS) (k : Nat × Nat) (x : Int32) : zev zk_X3_rootOf (7, ls, Sum.inl (Value.int x) :: st, s, k) = if decide (x < 0) = true then zev zk_X3_rootOf (28, ls, st, s, k) else zev zk_X3_rootOf (10, ls, st, s, k) := zf_if (f := fun x => decide (x < 0)) rfl
theorem zr_X3_rootOf_10 (a0 a1 : Option zAV) (st : List zAV) (s : zAS) (k : Nat × Nat) (x : Int32) : zev zk_X3_rootOf (10, [a0, a1, some (Sum.inl (Value.int x))], st, s, k) = zev zk_X3_rootOf (11, [a0, a1, some (Sum.inl (Value.int x))], Sum.inl (Value.int x) :: st, s, k) := zev_go rfl rfl
theorem zr_X3_rootOf_11 (a1 a2 : Option zAV) (st : List zAV) (s : zAS) (k : Nat × Nat) (o : Nat × Nat) : zev zk_X3_rootOf (11, [some (Sum.inr o), a1, a2], st, s, k) = zev zk_X3_rootOf (12, [some (Sum.inr o), a1, a2], Sum.inr o :: st, s, k) := zev_go rfl rfl
theorem zr_X3_rootOf_12 (ls : zLs) (st : List zAV) (s : zAS) (k : Nat × Nat) (o i : Nat) : zev zk_X3_rootOf (12, ls, Sum.inr (o, i) :: st, s, k) = zpush zk_X3_rootOf 15 ls st s k (zgv zEC 3 2 o i s.1) := zf_get rfl
theorem zr_X3_rootOf_15 (ls : zLs) (st : List zAV) (s : zAS) (k : Nat × Nat) (o i : Nat) : zev zk_X3_rootOf (15, ls, Sum.inr (o, i) :: st, s, k) = zpush zk_X3_rootOf 16 ls st s k (zalen zEC o i s.2) := zf_alen rfl
theorem zr_X3_rootOf_16 (ls : zLs) (st : List zAV) (s : zAS) (k : Nat × Nat) (x y : Int32) : zev zk_X3_rootOf (16, ls, Sum.inl (Value.int y) :: Sum.inl (Value.int x) :: st, s, k) = if decide (y ≤ x) = true then zev zk_X3_rootOf (28, ls, st, s, k) else zev zk_X3_rootOf (19, ls, st, s, k) := zf_cmp (f := fun x y => decide (y ≤ x)) rfl
theorem zr_X3_rootOf_19 (a1 a2 : Option zAV) (st : List zAV) (s : zAS) (k : Nat × Nat) (o : Nat × Nat) : zev zk_X3_rootOf (19, [some (Sum.inr o), a1, a2], st, s, k) = zev zk_X3_rootOf (20, [some (Sum.inr o), a1, a2], Sum.inr o :: st, s, k) := zev_go rfl rfl
theorem zr_X3_rootOf_20 (ls : zLs) (st : List zAV) (s : zAS) (k : Nat × Nat) (o i : Nat) : zev zk_X3_rootOf (20, ls, Sum.inr (o, i) :: st, s, k) = zpush zk_X3_rootOf 23 ls st s k (zgv zEC 3 2 o i s.1) := zf_get rfl
theorem zr_X3_rootOf_23 (a0 a1 : Option zAV) (st : List zAV) (s : zAS) (k : Nat × Nat) (x : Int32) : zev zk_X3_rootOf (23, [a0, a1, some (Sum.inl (Value.int x))], st, s, k) = zev zk_X3_rootOf (24, [a0, a1, some (Sum.inl (Value.int x))], Sum.inl (Value.int x) :: st, s, k) := zev_go rfl rfl
theorem zr_X3_rootOf_24 (ls : zLs) (st : List zAV) (s : zAS) (k : Nat × Nat) (o i : Nat) (j : Int32) : zev zk_X3_rootOf (24, ls, Sum.inl (Value.int j) :: Sum.inr (o, i) :: st, s, k) = zpush zk_X3_rootOf 25 ls st s k (zald zEC o i j s) := zf_iald rfl
theorem zr_X3_rootOf_25 (ls : zLs) (st : List zAV) (s : zAS) (k : Nat × Nat) : zev zk_X3_rootOf (25, ls, st, s, k) = zev zk_X3_rootOf (29, ls, st, s, k) := zev_go rfl rfl
theorem zr_X3_rootOf_28 (ls : zLs) (st : List zAV) (s : zAS) (k : Nat × Nat) : zev zk_X3_rootOf (28, ls, st, s, k) = zev zk_X3_rootOf (29, ls, Sum.inl (Value.int (-1)) :: st, s, k) := zev_go rfl rfl
theorem zr_X3_rootOf_29 (ls : zLs) (s : zAS) (k : Nat × Nat) (x : Int32) : zev zk_X3_rootOf (29, ls, [Sum.inl (Value.int x)], s, k) = some (.inl (some (Sum.inl (Value.int x))), s) := zf_reti rfl
/-! X3_isOffered: PrimePlane$Field.isOffered(I)Z -/
abbrev zR_X3_isOffered : Room := ({ frames := 0, cells := 0, slots := 0, locals := 0 } : Room)
noncomputable def zl_X3_isOffered : List (Nat × zOp) := [(0, z_ldi 0 1), (1, z_ic (7) 3), (3, z_cmp (fun x y => decide (x = y)) 36 6), (6, z_ldi 0 7), (7, z_ic (11) 9), (9, z_cmp (fun x y => decide (x = y)) 36 12), (12, z_ldi 0 13), (13, z_ic (19) 15), (15, z_cmp (fun x y => decide (x = y)) 36 18), (18, z_ldi 0 19), (19, z_ic (23) 21), (21, z_cmp (fun x y => decide (x = y)) 36 24), (24, z_ldi 0 25), (25, z_ic (31) 27), (27, z_cmp (fun x y => decide (x = y)) 36 30), (30, z_ldi 0 31), (31, z_ic (43) 33), (33, z_cmp (fun x y => decide (¬ x = y)) 40 36), (36, z_ic (1) 37), (37, z_goto 41), (40, z_ic (0) 41), (41, z_reti true)]
noncomputable def zk_X3_isOffered (pc : Nat) : Option zOp := zlook zl_X3_isOffered pc
noncomputable def m_X3_isOffered : List zAV → zAS → Option zOut := zmeth zk_X3_isOffered 1
set_option maxRecDepth 100000 in
set_option maxHeartbeats 4000000 in
theorem zcs_X3_isOffered {R : Room} (hR : R = zR_X3_isOffered) : ∀ q ∈ zl_X3_isOffered, zS zEC yX3_isOffered.cls cX3_isOffered 1 wsX3_isOffered (some .boolean) R q.1 q.2 := by
  subst hR
  refine List.forall_mem_cons.mpr ⟨zs_iload_n dX3_isOffered_0 rfl, ?_⟩
  refine List.forall_mem_cons.mpr ⟨zs_bipush dX3_isOffered_1 (by decide), ?_⟩
  refine List.forall_mem_cons.mpr ⟨zs_iceq dX3_isOffered_3 (by decide), ?_⟩
  refine List.forall_mem_cons.mpr ⟨zs_iload_n dX3_isOffered_6 rfl, ?_⟩
  refine List.forall_mem_cons.mpr ⟨zs_bipush dX3_isOffered_7 (by decide), ?_⟩
  refine List.forall_mem_cons.mpr ⟨zs_iceq dX3_isOffered_9 (by decide), ?_⟩
  refine List.forall_mem_cons.mpr ⟨zs_iload_n dX3_isOffered_12 rfl, ?_⟩
  refine List.forall_mem_cons.mpr ⟨zs_bipush dX3_isOffered_13 (by decide), ?_⟩
  refine List.forall_mem_cons.mpr ⟨zs_iceq dX3_isOffered_15 (by decide), ?_⟩
  refine List.forall_mem_cons.mpr ⟨zs_iload_n dX3_isOffered_18 rfl, ?_⟩
  refine List.forall_mem_cons.mpr ⟨zs_bipush dX3_isOffered_19 (by decide), ?_⟩
  refine List.forall_mem_cons.mpr ⟨zs_iceq dX3_isOffered_21 (by decide), ?_⟩
  refine List.forall_mem_cons.mpr ⟨zs_iload_n dX3_isOffered_24 rfl, ?_⟩
  refine List.forall_mem_cons.mpr ⟨zs_bipush dX3_isOffered_25 (by decide), ?_⟩
  refine List.forall_mem_cons.mpr ⟨zs_iceq dX3_isOffered_27 (by decide), ?_⟩
  refine List.forall_mem_cons.mpr ⟨zs_iload_n dX3_isOffered_30 rfl, ?_⟩
  refine List.forall_mem_cons.mpr ⟨zs_bipush dX3_isOffered_31 (by decide), ?_⟩
  refine List.forall_mem_cons.mpr ⟨zs_icne dX3_isOffered_33 (by decide), ?_⟩
  refine List.forall_mem_cons.mpr ⟨zs_iconst dX3_isOffered_36 (by decide), ?_⟩
  refine List.forall_mem_cons.mpr ⟨zs_goto dX3_isOffered_37 (by decide), ?_⟩
  refine List.forall_mem_cons.mpr ⟨zs_iconst dX3_isOffered_40 (by decide), ?_⟩
  refine List.forall_mem_cons.mpr ⟨zs_reti (ty := .boolean) rfl (fun x h => (znz x h).1) dX3_isOffered_41, ?_⟩
  exact fun _ h => absurd h List.not_mem_nil
theorem zM_X3_isOffered : zMeets zEC yX3_isOffered wsX3_isOffered zR_X3_isOffered m_X3_isOffered := zmeth_M zECok (zlook_all (zcs_X3_isOffered rfl)) (by decide +kernel) rfl
theorem zr_X3_isOffered_0 (st : List zAV) (s : zAS) (k : Nat × Nat) (x : Int32) : zev zk_X3_isOffered (0, [some (Sum.inl (Value.int x))], st, s, k) = zev zk_X3_isOffered (1, [some (Sum.inl (Value.int x))], Sum.inl (Value.int x) :: st, s, k) := zev_go rfl rfl
theorem zr_X3_isOffered_1 (ls : zLs) (st : List zAV) (s : zAS) (k : Nat × Nat) : zev zk_X3_isOffered (1, ls, st, s, k) = zev zk_X3_isOffered (3, ls, Sum.inl (Value.int (7)) :: st, s, k) := zev_go rfl rfl
theorem zr_X3_isOffered_3 (ls : zLs) (st : List zAV) (s : zAS) (k : Nat × Nat) (x y : Int32) : zev zk_X3_isOffered (3, ls, Sum.inl (Value.int y) :: Sum.inl (Value.int x) :: st, s, k) = if decide (x = y) = true then zev zk_X3_isOffered (36, ls, st, s, k) else zev zk_X3_isOffered (6, ls, st, s, k) := zf_cmp (f := fun x y => decide (x = y)) rfl
theorem zr_X3_isOffered_6 (st : List zAV) (s : zAS) (k : Nat × Nat) (x : Int32) : zev zk_X3_isOffered (6, [some (Sum.inl (Value.int x))], st, s, k) = zev zk_X3_isOffered (7, [some (Sum.inl (Value.int x))], Sum.inl (Value.int x) :: st, s, k) := zev_go rfl rfl
theorem zr_X3_isOffered_7 (ls : zLs) (st : List zAV) (s : zAS) (k : Nat × Nat) : zev zk_X3_isOffered (7, ls, st, s, k) = zev zk_X3_isOffered (9, ls, Sum.inl (Value.int (11)) :: st, s, k) := zev_go rfl rfl
theorem zr_X3_isOffered_9 (ls : zLs) (st : List zAV) (s : zAS) (k : Nat × Nat) (x y : Int32) : zev zk_X3_isOffered (9, ls, Sum.inl (Value.int y) :: Sum.inl (Value.int x) :: st, s, k) = if decide (x = y) = true then zev zk_X3_isOffered (36, ls, st, s, k) else zev zk_X3_isOffered (12, ls, st, s, k) := zf_cmp (f := fun x y => decide (x = y)) rfl
theorem zr_X3_isOffered_12 (st : List zAV) (s : zAS) (k : Nat × Nat) (x : Int32) : zev zk_X3_isOffered (12, [some (Sum.inl (Value.int x))], st, s, k) = zev zk_X3_isOffered (13, [some (Sum.inl (Value.int x))], Sum.inl (Value.int x) :: st, s, k) := zev_go rfl rfl
theorem zr_X3_isOffered_13 (ls : zLs) (st : List zAV) (s : zAS) (k : Nat × Nat) : zev zk_X3_isOffered (13, ls, st, s, k) = zev zk_X3_isOffered (15, ls, Sum.inl (Value.int (19)) :: st, s, k) := zev_go rfl rfl
theorem zr_X3_isOffered_15 (ls : zLs) (st : List zAV) (s : zAS) (k : Nat × Nat) (x y : Int32) : zev zk_X3_isOffered (15, ls, Sum.inl (Value.int y) :: Sum.inl (Value.int x) :: st, s, k) = if decide (x = y) = true then zev zk_X3_isOffered (36, ls, st, s, k) else zev zk_X3_isOffered (18, ls, st, s, k) := zf_cmp (f := fun x y => decide (x = y)) rfl
theorem zr_X3_isOffered_18 (st : List zAV) (s : zAS) (k : Nat × Nat) (x : Int32) : zev zk_X3_isOffered (18, [some (Sum.inl (Value.int x))], st, s, k) = zev zk_X3_isOffered (19, [some (Sum.inl (Value.int x))], Sum.inl (Value.int x) :: st, s, k) := zev_go rfl rfl
theorem zr_X3_isOffered_19 (ls : zLs) (st : List zAV) (s : zAS) (k : Nat × Nat) : zev zk_X3_isOffered (19, ls, st, s, k) = zev zk_X3_isOffered (21, ls, Sum.inl (Value.int (23)) :: st, s, k) := zev_go rfl rfl
theorem zr_X3_isOffered_21 (ls : zLs) (st : List zAV) (s : zAS) (k : Nat × Nat) (x y : Int32) : zev zk_X3_isOffered (21, ls, Sum.inl (Value.int y) :: Sum.inl (Value.int x) :: st, s, k) = if decide (x = y) = true then zev zk_X3_isOffered (36, ls, st, s, k) else zev zk_X3_isOffered (24, ls, st, s, k) := zf_cmp (f := fun x y => decide (x = y)) rfl
theorem zr_X3_isOffered_24 (st : List zAV) (s : zAS) (k : Nat × Nat) (x : Int32) : zev zk_X3_isOffered (24, [some (Sum.inl (Value.int x))], st, s, k) = zev zk_X3_isOffered (25, [some (Sum.inl (Value.int x))], Sum.inl (Value.int x) :: st, s, k) := zev_go rfl rfl
theorem zr_X3_isOffered_25 (ls : zLs) (st : List zAV) (s : zAS) (k : Nat × Nat) : zev zk_X3_isOffered (25, ls, st, s, k) = zev zk_X3_isOffered (27, ls, Sum.inl (Value.int (31)) :: st, s, k) := zev_go rfl rfl
theorem zr_X3_isOffered_27 (ls : zLs) (st : List zAV) (s : zAS) (k : Nat × Nat) (x y : Int32) : zev zk_X3_isOffered (27, ls, Sum.inl (Value.int y) :: Sum.inl (Value.int x) :: st, s, k) = if decide (x = y) = true then zev zk_X3_isOffered (36, ls, st, s, k) else zev zk_X3_isOffered (30, ls, st, s, k) := zf_cmp (f := fun x y => decide (x = y)) rfl
theorem zr_X3_isOffered_30 (st : List zAV) (s : zAS) (k : Nat × Nat) (x : Int32) : zev zk_X3_isOffered (30, [some (Sum.inl (Value.int x))], st, s, k) = zev zk_X3_isOffered (31, [some (Sum.inl (Value.int x))], Sum.inl (Value.int x) :: st, s, k) := zev_go rfl rfl
theorem zr_X3_isOffered_31 (ls : zLs) (st : List zAV) (s : zAS) (k : Nat × Nat) : zev zk_X3_isOffered (31, ls, st, s, k) = zev zk_X3_isOffered (33, ls, Sum.inl (Value.int (43)) :: st, s, k) := zev_go rfl rfl
theorem zr_X3_isOffered_33 (ls : zLs) (st : List zAV) (s : zAS) (k : Nat × Nat) (x y : Int32) : zev zk_X3_isOffered (33, ls, Sum.inl (Value.int y) :: Sum.inl (Value.int x) :: st, s, k) = if decide (¬ x = y) = true then zev zk_X3_isOffered (40, ls, st, s, k) else zev zk_X3_isOffered (36, ls, st, s, k) := zf_cmp (f := fun x y => decide (¬ x = y)) rfl
theorem zr_X3_isOffered_36 (ls : zLs) (st : List zAV) (s : zAS) (k : Nat × Nat) : zev zk_X3_isOffered (36, ls, st, s, k) = zev zk_X3_isOffered (37, ls, Sum.inl (Value.int (1)) :: st, s, k) := zev_go rfl rfl
theorem zr_X3_isOffered_37 (ls : zLs) (st : List zAV) (s : zAS) (k : Nat × Nat) : zev zk_X3_isOffered (37, ls, st, s, k) = zev zk_X3_isOffered (41, ls, st, s, k) := zev_go rfl rfl
theorem zr_X3_isOffered_40 (ls : zLs) (st : List zAV) (s : zAS) (k : Nat × Nat) : zev zk_X3_isOffered (40, ls, st, s, k) = zev zk_X3_isOffered (41, ls, Sum.inl (Value.int (0)) :: st, s, k) := zev_go rfl rfl
theorem zr_X3_isOffered_41 (ls : zLs) (s : zAS) (k : Nat × Nat) (x : Int32) (hx : x = 0 ∨ x = 1) : zev zk_X3_isOffered (41, ls, [Sum.inl (Value.int x)], s, k) = some (.inl (some (Sum.inl (Value.int x))), s) := zf_retz rfl hx
/-! X3_keep: PrimePlane$Field.keep([III)V -/
abbrev zR_X3_keep : Room := ({ frames := 0, cells := 0, slots := 0, locals := 0 } : Room)
noncomputable def zl_X3_keep : List (Nat × zOp) := [(0, z_ldi 1 1), (1, z_if (fun x => decide (x < 0)) 14 4), (4, z_ldi 1 5), (5, z_lda 0 6), (6, z_alen zEC 7), (7, z_cmp (fun x y => decide (y ≤ x)) 14 10), (10, z_lda 0 11), (11, z_ldi 1 12), (12, z_ldi 2 13), (13, z_iast zEC 14), (14, z_retv)]
noncomputable def zk_X3_keep (pc : Nat) : Option zOp := zlook zl_X3_keep pc
noncomputable def m_X3_keep : List zAV → zAS → Option zOut := zmeth zk_X3_keep 3
set_option maxRecDepth 100000 in
set_option maxHeartbeats 4000000 in
theorem zcs_X3_keep {R : Room} (hR : R = zR_X3_keep) : ∀ q ∈ zl_X3_keep, zS zEC yX3_keep.cls cX3_keep 3 wsX3_keep none R q.1 q.2 := by
  subst hR
  refine List.forall_mem_cons.mpr ⟨zs_iload_n dX3_keep_0 rfl, ?_⟩
  refine List.forall_mem_cons.mpr ⟨zs_iflt dX3_keep_1 (by decide), ?_⟩
  refine List.forall_mem_cons.mpr ⟨zs_iload_n dX3_keep_4 rfl, ?_⟩
  refine List.forall_mem_cons.mpr ⟨zs_aload_n dX3_keep_5 rfl, ?_⟩
  refine List.forall_mem_cons.mpr ⟨zs_alen dX3_keep_6, ?_⟩
  refine List.forall_mem_cons.mpr ⟨zs_icge dX3_keep_7 (by decide), ?_⟩
  refine List.forall_mem_cons.mpr ⟨zs_aload_n dX3_keep_10 rfl, ?_⟩
  refine List.forall_mem_cons.mpr ⟨zs_iload_n dX3_keep_11 rfl, ?_⟩
  refine List.forall_mem_cons.mpr ⟨zs_iload_n dX3_keep_12 rfl, ?_⟩
  refine List.forall_mem_cons.mpr ⟨zs_iast dX3_keep_13, ?_⟩
  refine List.forall_mem_cons.mpr ⟨zs_retv rfl dX3_keep_14, ?_⟩
  exact fun _ h => absurd h List.not_mem_nil
theorem zM_X3_keep : zMeets zEC yX3_keep wsX3_keep zR_X3_keep m_X3_keep := zmeth_M zECok (zlook_all (zcs_X3_keep rfl)) (by decide +kernel) rfl
theorem zr_X3_keep_0 (a0 a2 : Option zAV) (st : List zAV) (s : zAS) (k : Nat × Nat) (x : Int32) : zev zk_X3_keep (0, [a0, some (Sum.inl (Value.int x)), a2], st, s, k) = zev zk_X3_keep (1, [a0, some (Sum.inl (Value.int x)), a2], Sum.inl (Value.int x) :: st, s, k) := zev_go rfl rfl
theorem zr_X3_keep_1 (ls : zLs) (st : List zAV) (s : zAS) (k : Nat × Nat) (x : Int32) : zev zk_X3_keep (1, ls, Sum.inl (Value.int x) :: st, s, k) = if decide (x < 0) = true then zev zk_X3_keep (14, ls, st, s, k) else zev zk_X3_keep (4, ls, st, s, k) := zf_if (f := fun x => decide (x < 0)) rfl
theorem zr_X3_keep_4 (a0 a2 : Option zAV) (st : List zAV) (s : zAS) (k : Nat × Nat) (x : Int32) : zev zk_X3_keep (4, [a0, some (Sum.inl (Value.int x)), a2], st, s, k) = zev zk_X3_keep (5, [a0, some (Sum.inl (Value.int x)), a2], Sum.inl (Value.int x) :: st, s, k) := zev_go rfl rfl
theorem zr_X3_keep_5 (a1 a2 : Option zAV) (st : List zAV) (s : zAS) (k : Nat × Nat) (o : Nat × Nat) : zev zk_X3_keep (5, [some (Sum.inr o), a1, a2], st, s, k) = zev zk_X3_keep (6, [some (Sum.inr o), a1, a2], Sum.inr o :: st, s, k) := zev_go rfl rfl
theorem zr_X3_keep_6 (ls : zLs) (st : List zAV) (s : zAS) (k : Nat × Nat) (o i : Nat) : zev zk_X3_keep (6, ls, Sum.inr (o, i) :: st, s, k) = zpush zk_X3_keep 7 ls st s k (zalen zEC o i s.2) := zf_alen rfl
theorem zr_X3_keep_7 (ls : zLs) (st : List zAV) (s : zAS) (k : Nat × Nat) (x y : Int32) : zev zk_X3_keep (7, ls, Sum.inl (Value.int y) :: Sum.inl (Value.int x) :: st, s, k) = if decide (y ≤ x) = true then zev zk_X3_keep (14, ls, st, s, k) else zev zk_X3_keep (10, ls, st, s, k) := zf_cmp (f := fun x y => decide (y ≤ x)) rfl
theorem zr_X3_keep_10 (a1 a2 : Option zAV) (st : List zAV) (s : zAS) (k : Nat × Nat) (o : Nat × Nat) : zev zk_X3_keep (10, [some (Sum.inr o), a1, a2], st, s, k) = zev zk_X3_keep (11, [some (Sum.inr o), a1, a2], Sum.inr o :: st, s, k) := zev_go rfl rfl
theorem zr_X3_keep_11 (a0 a2 : Option zAV) (st : List zAV) (s : zAS) (k : Nat × Nat) (x : Int32) : zev zk_X3_keep (11, [a0, some (Sum.inl (Value.int x)), a2], st, s, k) = zev zk_X3_keep (12, [a0, some (Sum.inl (Value.int x)), a2], Sum.inl (Value.int x) :: st, s, k) := zev_go rfl rfl
theorem zr_X3_keep_12 (a0 a1 : Option zAV) (st : List zAV) (s : zAS) (k : Nat × Nat) (x : Int32) : zev zk_X3_keep (12, [a0, a1, some (Sum.inl (Value.int x))], st, s, k) = zev zk_X3_keep (13, [a0, a1, some (Sum.inl (Value.int x))], Sum.inl (Value.int x) :: st, s, k) := zev_go rfl rfl
theorem zr_X3_keep_13 (ls : zLs) (st : List zAV) (s : zAS) (k : Nat × Nat) (o i : Nat) (j x : Int32) : zev zk_X3_keep (13, ls, Sum.inl (Value.int x) :: Sum.inl (Value.int j) :: Sum.inr (o, i) :: st, s, k) = zgo zk_X3_keep 14 ls st k (zast zEC o i j x s) := zf_iast rfl
theorem zr_X3_keep_14 (ls : zLs) (s : zAS) (k : Nat × Nat) : zev zk_X3_keep (14, ls, [], s, k) = some (.inl none, s) := zev_end rfl rfl
/-! X3_choose: PrimePlane$Field.choose(I)V -/
abbrev zR_X3_choose : Room := ({ frames := 2, cells := 0, slots := 0, locals := 43 } : Room)
noncomputable def zl_X3_choose : List (Nat × zOp) := [(0, z_lda 0 1), (1, z_ldi 1 2), (2, z_put zEC 3 0 false 5), (5, z_ic (0) 6), (6, z_sti 2 7), (7, z_ldi 2 8), (8, z_lda 0 9), (9, z_get zEC 3 2 12), (12, z_alen zEC 13), (13, z_cmp (fun x y => decide (y ≤ x)) 29 16), (16, z_lda 0 17), (17, z_get zEC 3 2 20), (20, z_ldi 2 21), (21, z_ic (-1) 22), (22, z_iast zEC 23), (23, z_iinc 2 (1) 26), (26, z_goto 7), (29, z_ldi 1 30), (30, z_ic (1) 31), (31, z_bin (fun x y => x - y) 32), (32, z_sti 2 33), (33, z_ldi 2 34), (34, z_if (fun x => decide (x < 0)) 58 37), (37, z_lda 0 38), (38, z_get zEC 3 2 41), (41, z_lda 0 42), (42, z_ldi 2 43), (43, z_ldi 2 44), (44, z_bin (fun x y => x * y) 45), (45, z_callV zEC 3 m_X3_rest 1 0 0 (zR_X3_choose).cells (zR_X3_choose).slots 48), (48, z_ldi 2 49), (49, z_callS m_X3_keep 3 0 0 (zR_X3_choose).cells (zR_X3_choose).slots 52), (52, z_iinc 2 (-1) 55), (55, z_goto 33), (58, z_ic (1) 59), (59, z_sti 2 60), (60, z_ldi 2 61), (61, z_ldi 1 62), (62, z_cmp (fun x y => decide (y ≤ x)) 104 65), (65, z_ic (1) 66), (66, z_sti 3 67), (67, z_ldi 3 68), (68, z_ldi 1 69), (69, z_cmp (fun x y => decide (y ≤ x)) 98 72), (72, z_lda 0 73), (73, z_ldi 2 74), (74, z_ldi 3 75), (75, z_bin (fun x y => x * y) 76), (76, z_callV zEC 3 m_X3_rest 1 0 0 (zR_X3_choose).cells (zR_X3_choose).slots 79), (79, z_ic (1) 80), (80, z_cmp (fun x y => decide (¬ x = y)) 92 83), (83, z_lda 0 84), (84, z_get zEC 3 1 87), (87, z_ldi 2 88), (88, z_ldi 3 89), (89, z_callS m_X3_keep 3 0 0 (zR_X3_choose).cells (zR_X3_choose).slots 92), (92, z_iinc 3 (1) 95), (95, z_goto 67), (98, z_iinc 2 (1) 101), (101, z_goto 60), (104, z_retv)]
noncomputable def zk_X3_choose (pc : Nat) : Option zOp := zlook zl_X3_choose pc
noncomputable def m_X3_choose : List zAV → zAS → Option zOut := zmeth zk_X3_choose 4
set_option maxRecDepth 100000 in
set_option maxHeartbeats 4000000 in
theorem zcs_X3_choose {R : Room} (hR : R = zR_X3_choose) : ∀ q ∈ zl_X3_choose, zS zEC yX3_choose.cls cX3_choose 4 wsX3_choose none R q.1 q.2 := by
  subst hR
  have hin3 : ∀ w ∈ wsX30, w ∈ wsX3_choose := fun w h => List.mem_cons_of_mem _ (List.mem_append_right _ h)
  refine List.forall_mem_cons.mpr ⟨zs_aload_n dX3_choose_0 rfl, ?_⟩
  refine List.forall_mem_cons.mpr ⟨zs_iload_n dX3_choose_1 rfl, ?_⟩
  refine List.forall_mem_cons.mpr ⟨zs_put (ci := 3) (j := 0) (N := 3) (C := RX3) (T := TX3) (index := 9) (b := false) .int tyX3 rfl (by decide) hin3 tyX3_ok nmX3 (List.mem_of_getElem? (i := 1) rfl) rfl (by decide +kernel) zni dX3_choose_2, ?_⟩
  refine List.forall_mem_cons.mpr ⟨zs_iconst dX3_choose_5 (by decide), ?_⟩
  refine List.forall_mem_cons.mpr ⟨zs_istore_n dX3_choose_6 rfl, ?_⟩
  refine List.forall_mem_cons.mpr ⟨zs_iload_n dX3_choose_7 rfl, ?_⟩
  refine List.forall_mem_cons.mpr ⟨zs_aload_n dX3_choose_8 rfl, ?_⟩
  refine List.forall_mem_cons.mpr ⟨zs_get (ci := 3) (j := 2) (N := 3) (C := RX3) (T := TX3) (index := 19) rfl (by decide) hin3 (List.mem_of_getElem? (i := 2) rfl) dX3_choose_9, ?_⟩
  refine List.forall_mem_cons.mpr ⟨zs_alen dX3_choose_12, ?_⟩
  refine List.forall_mem_cons.mpr ⟨zs_icge dX3_choose_13 (by decide), ?_⟩
  refine List.forall_mem_cons.mpr ⟨zs_aload_n dX3_choose_16 rfl, ?_⟩
  refine List.forall_mem_cons.mpr ⟨zs_get (ci := 3) (j := 2) (N := 3) (C := RX3) (T := TX3) (index := 19) rfl (by decide) hin3 (List.mem_of_getElem? (i := 2) rfl) dX3_choose_17, ?_⟩
  refine List.forall_mem_cons.mpr ⟨zs_iload_n dX3_choose_20 rfl, ?_⟩
  refine List.forall_mem_cons.mpr ⟨zs_iconst dX3_choose_21 (by decide), ?_⟩
  refine List.forall_mem_cons.mpr ⟨zs_iast dX3_choose_22, ?_⟩
  refine List.forall_mem_cons.mpr ⟨zs_iinc dX3_choose_23 (by decide), ?_⟩
  refine List.forall_mem_cons.mpr ⟨zs_goto dX3_choose_26 (by decide), ?_⟩
  refine List.forall_mem_cons.mpr ⟨zs_iload_n dX3_choose_29 rfl, ?_⟩
  refine List.forall_mem_cons.mpr ⟨zs_iconst dX3_choose_30 (by decide), ?_⟩
  refine List.forall_mem_cons.mpr ⟨zs_isub dX3_choose_31, ?_⟩
  refine List.forall_mem_cons.mpr ⟨zs_istore_n dX3_choose_32 rfl, ?_⟩
  refine List.forall_mem_cons.mpr ⟨zs_iload_n dX3_choose_33 rfl, ?_⟩
  refine List.forall_mem_cons.mpr ⟨zs_iflt dX3_choose_34 (by decide), ?_⟩
  refine List.forall_mem_cons.mpr ⟨zs_aload_n dX3_choose_37 rfl, ?_⟩
  refine List.forall_mem_cons.mpr ⟨zs_get (ci := 3) (j := 2) (N := 3) (C := RX3) (T := TX3) (index := 19) rfl (by decide) hin3 (List.mem_of_getElem? (i := 2) rfl) dX3_choose_38, ?_⟩
  refine List.forall_mem_cons.mpr ⟨zs_aload_n dX3_choose_41 rfl, ?_⟩
  refine List.forall_mem_cons.mpr ⟨zs_iload_n dX3_choose_42 rfl, ?_⟩
  refine List.forall_mem_cons.mpr ⟨zs_iload_n dX3_choose_43 rfl, ?_⟩
  refine List.forall_mem_cons.mpr ⟨zs_imul dX3_choose_44, ?_⟩
  refine List.forall_mem_cons.mpr ⟨zs_callV (ci := 3) (rm := zR_X3_rest) (n := 1) rfl zM_X3_rest gX3_choose_X3_rest rfl (by decide +kernel) ⟨by decide, by decide⟩ dX3_choose_45, ?_⟩
  refine List.forall_mem_cons.mpr ⟨zs_iload_n dX3_choose_48 rfl, ?_⟩
  refine List.forall_mem_cons.mpr ⟨zs_callS (rm := zR_X3_keep) (n := 3) zM_X3_keep gX3_choose_X3_keep rfl (by decide +kernel) ⟨by decide, by decide⟩ dX3_choose_49, ?_⟩
  refine List.forall_mem_cons.mpr ⟨zs_iinc dX3_choose_52 (by decide), ?_⟩
  refine List.forall_mem_cons.mpr ⟨zs_goto dX3_choose_55 (by decide), ?_⟩
  refine List.forall_mem_cons.mpr ⟨zs_iconst dX3_choose_58 (by decide), ?_⟩
  refine List.forall_mem_cons.mpr ⟨zs_istore_n dX3_choose_59 rfl, ?_⟩
  refine List.forall_mem_cons.mpr ⟨zs_iload_n dX3_choose_60 rfl, ?_⟩
  refine List.forall_mem_cons.mpr ⟨zs_iload_n dX3_choose_61 rfl, ?_⟩
  refine List.forall_mem_cons.mpr ⟨zs_icge dX3_choose_62 (by decide), ?_⟩
  refine List.forall_mem_cons.mpr ⟨zs_iconst dX3_choose_65 (by decide), ?_⟩
  refine List.forall_mem_cons.mpr ⟨zs_istore_n dX3_choose_66 rfl, ?_⟩
  refine List.forall_mem_cons.mpr ⟨zs_iload_n dX3_choose_67 rfl, ?_⟩
  refine List.forall_mem_cons.mpr ⟨zs_iload_n dX3_choose_68 rfl, ?_⟩
  refine List.forall_mem_cons.mpr ⟨zs_icge dX3_choose_69 (by decide), ?_⟩
  refine List.forall_mem_cons.mpr ⟨zs_aload_n dX3_choose_72 rfl, ?_⟩
  refine List.forall_mem_cons.mpr ⟨zs_iload_n dX3_choose_73 rfl, ?_⟩
  refine List.forall_mem_cons.mpr ⟨zs_iload_n dX3_choose_74 rfl, ?_⟩
  refine List.forall_mem_cons.mpr ⟨zs_imul dX3_choose_75, ?_⟩
  refine List.forall_mem_cons.mpr ⟨zs_callV (ci := 3) (rm := zR_X3_rest) (n := 1) rfl zM_X3_rest gX3_choose_X3_rest rfl (by decide +kernel) ⟨by decide, by decide⟩ dX3_choose_76, ?_⟩
  refine List.forall_mem_cons.mpr ⟨zs_iconst dX3_choose_79 (by decide), ?_⟩
  refine List.forall_mem_cons.mpr ⟨zs_icne dX3_choose_80 (by decide), ?_⟩
  refine List.forall_mem_cons.mpr ⟨zs_aload_n dX3_choose_83 rfl, ?_⟩
  refine List.forall_mem_cons.mpr ⟨zs_get (ci := 3) (j := 1) (N := 3) (C := RX3) (T := TX3) (index := 15) rfl (by decide) hin3 (List.mem_of_getElem? (i := 3) rfl) dX3_choose_84, ?_⟩
  refine List.forall_mem_cons.mpr ⟨zs_iload_n dX3_choose_87 rfl, ?_⟩
  refine List.forall_mem_cons.mpr ⟨zs_iload_n dX3_choose_88 rfl, ?_⟩
  refine List.forall_mem_cons.mpr ⟨zs_callS (rm := zR_X3_keep) (n := 3) zM_X3_keep gX3_choose_X3_keep rfl (by decide +kernel) ⟨by decide, by decide⟩ dX3_choose_89, ?_⟩
  refine List.forall_mem_cons.mpr ⟨zs_iinc dX3_choose_92 (by decide), ?_⟩
  refine List.forall_mem_cons.mpr ⟨zs_goto dX3_choose_95 (by decide), ?_⟩
  refine List.forall_mem_cons.mpr ⟨zs_iinc dX3_choose_98 (by decide), ?_⟩
  refine List.forall_mem_cons.mpr ⟨zs_goto dX3_choose_101 (by decide), ?_⟩
  refine List.forall_mem_cons.mpr ⟨zs_retv rfl dX3_choose_104, ?_⟩
  exact fun _ h => absurd h List.not_mem_nil
theorem zM_X3_choose : zMeets zEC yX3_choose wsX3_choose zR_X3_choose m_X3_choose := zmeth_M zECok (zlook_all (zcs_X3_choose rfl)) (by decide +kernel) rfl
theorem zr_X3_choose_0 (a1 a2 a3 : Option zAV) (st : List zAV) (s : zAS) (k : Nat × Nat) (o : Nat × Nat) : zev zk_X3_choose (0, [some (Sum.inr o), a1, a2, a3], st, s, k) = zev zk_X3_choose (1, [some (Sum.inr o), a1, a2, a3], Sum.inr o :: st, s, k) := zev_go rfl rfl
theorem zr_X3_choose_1 (a0 a2 a3 : Option zAV) (st : List zAV) (s : zAS) (k : Nat × Nat) (x : Int32) : zev zk_X3_choose (1, [a0, some (Sum.inl (Value.int x)), a2, a3], st, s, k) = zev zk_X3_choose (2, [a0, some (Sum.inl (Value.int x)), a2, a3], Sum.inl (Value.int x) :: st, s, k) := zev_go rfl rfl
theorem zr_X3_choose_2 (ls : zLs) (st : List zAV) (s : zAS) (k : Nat × Nat) (o i : Nat) (x : Int32) (h : zpok zEC 3 0 false o i x) : zev zk_X3_choose (2, ls, Sum.inl (Value.int x) :: Sum.inr (o, i) :: st, s, k) = zev zk_X3_choose (5, ls, st, (zup s.1 o i 0 x, s.2), k) := zf_put rfl h
theorem zr_X3_choose_5 (ls : zLs) (st : List zAV) (s : zAS) (k : Nat × Nat) : zev zk_X3_choose (5, ls, st, s, k) = zev zk_X3_choose (6, ls, Sum.inl (Value.int (0)) :: st, s, k) := zev_go rfl rfl
theorem zr_X3_choose_6 (a0 a1 a2 a3 : Option zAV) (st : List zAV) (s : zAS) (k : Nat × Nat) (x : Int32) : zev zk_X3_choose (6, [a0, a1, a2, a3], Sum.inl (Value.int x) :: st, s, k) = zev zk_X3_choose (7, [a0, zk1 a1, some (Sum.inl (Value.int x)), a3], st, s, k) := zev_go rfl rfl
theorem zr_X3_choose_7 (a0 a1 a3 : Option zAV) (st : List zAV) (s : zAS) (k : Nat × Nat) (x : Int32) : zev zk_X3_choose (7, [a0, a1, some (Sum.inl (Value.int x)), a3], st, s, k) = zev zk_X3_choose (8, [a0, a1, some (Sum.inl (Value.int x)), a3], Sum.inl (Value.int x) :: st, s, k) := zev_go rfl rfl
theorem zr_X3_choose_8 (a1 a2 a3 : Option zAV) (st : List zAV) (s : zAS) (k : Nat × Nat) (o : Nat × Nat) : zev zk_X3_choose (8, [some (Sum.inr o), a1, a2, a3], st, s, k) = zev zk_X3_choose (9, [some (Sum.inr o), a1, a2, a3], Sum.inr o :: st, s, k) := zev_go rfl rfl
theorem zr_X3_choose_9 (ls : zLs) (st : List zAV) (s : zAS) (k : Nat × Nat) (o i : Nat) : zev zk_X3_choose (9, ls, Sum.inr (o, i) :: st, s, k) = zpush zk_X3_choose 12 ls st s k (zgv zEC 3 2 o i s.1) := zf_get rfl
theorem zr_X3_choose_12 (ls : zLs) (st : List zAV) (s : zAS) (k : Nat × Nat) (o i : Nat) : zev zk_X3_choose (12, ls, Sum.inr (o, i) :: st, s, k) = zpush zk_X3_choose 13 ls st s k (zalen zEC o i s.2) := zf_alen rfl
theorem zr_X3_choose_13 (ls : zLs) (st : List zAV) (s : zAS) (k : Nat × Nat) (x y : Int32) : zev zk_X3_choose (13, ls, Sum.inl (Value.int y) :: Sum.inl (Value.int x) :: st, s, k) = if decide (y ≤ x) = true then zev zk_X3_choose (29, ls, st, s, k) else zev zk_X3_choose (16, ls, st, s, k) := zf_cmp (f := fun x y => decide (y ≤ x)) rfl
theorem zr_X3_choose_16 (a1 a2 a3 : Option zAV) (st : List zAV) (s : zAS) (k : Nat × Nat) (o : Nat × Nat) : zev zk_X3_choose (16, [some (Sum.inr o), a1, a2, a3], st, s, k) = zev zk_X3_choose (17, [some (Sum.inr o), a1, a2, a3], Sum.inr o :: st, s, k) := zev_go rfl rfl
theorem zr_X3_choose_17 (ls : zLs) (st : List zAV) (s : zAS) (k : Nat × Nat) (o i : Nat) : zev zk_X3_choose (17, ls, Sum.inr (o, i) :: st, s, k) = zpush zk_X3_choose 20 ls st s k (zgv zEC 3 2 o i s.1) := zf_get rfl
theorem zr_X3_choose_20 (a0 a1 a3 : Option zAV) (st : List zAV) (s : zAS) (k : Nat × Nat) (x : Int32) : zev zk_X3_choose (20, [a0, a1, some (Sum.inl (Value.int x)), a3], st, s, k) = zev zk_X3_choose (21, [a0, a1, some (Sum.inl (Value.int x)), a3], Sum.inl (Value.int x) :: st, s, k) := zev_go rfl rfl
theorem zr_X3_choose_21 (ls : zLs) (st : List zAV) (s : zAS) (k : Nat × Nat) : zev zk_X3_choose (21, ls, st, s, k) = zev zk_X3_choose (22, ls, Sum.inl (Value.int (-1)) :: st, s, k) := zev_go rfl rfl
theorem zr_X3_choose_22 (ls : zLs) (st : List zAV) (s : zAS) (k : Nat × Nat) (o i : Nat) (j x : Int32) : zev zk_X3_choose (22, ls, Sum.inl (Value.int x) :: Sum.inl (Value.int j) :: Sum.inr (o, i) :: st, s, k) = zgo zk_X3_choose 23 ls st k (zast zEC o i j x s) := zf_iast rfl
theorem zr_X3_choose_23 (a0 a1 a3 : Option zAV) (st : List zAV) (s : zAS) (k : Nat × Nat) (x : Int32) : zev zk_X3_choose (23, [a0, a1, some (Sum.inl (Value.int x)), a3], st, s, k) = zev zk_X3_choose (26, [a0, zk1 a1, some (Sum.inl (Value.int (x + (1)))), a3], st, s, k) := zev_go rfl rfl
theorem zr_X3_choose_26 (ls : zLs) (st : List zAV) (s : zAS) (k : Nat × Nat) : zev zk_X3_choose (26, ls, st, s, k) = zev zk_X3_choose (7, ls, st, s, k) := zev_go rfl rfl
theorem zr_X3_choose_29 (a0 a2 a3 : Option zAV) (st : List zAV) (s : zAS) (k : Nat × Nat) (x : Int32) : zev zk_X3_choose (29, [a0, some (Sum.inl (Value.int x)), a2, a3], st, s, k) = zev zk_X3_choose (30, [a0, some (Sum.inl (Value.int x)), a2, a3], Sum.inl (Value.int x) :: st, s, k) := zev_go rfl rfl
theorem zr_X3_choose_30 (ls : zLs) (st : List zAV) (s : zAS) (k : Nat × Nat) : zev zk_X3_choose (30, ls, st, s, k) = zev zk_X3_choose (31, ls, Sum.inl (Value.int (1)) :: st, s, k) := zev_go rfl rfl
theorem zr_X3_choose_31 (ls : zLs) (st : List zAV) (s : zAS) (k : Nat × Nat) (x y : Int32) : zev zk_X3_choose (31, ls, Sum.inl (Value.int y) :: Sum.inl (Value.int x) :: st, s, k) = zev zk_X3_choose (32, ls, Sum.inl (Value.int (x - y)) :: st, s, k) := zev_go rfl rfl
theorem zr_X3_choose_32 (a0 a1 a2 a3 : Option zAV) (st : List zAV) (s : zAS) (k : Nat × Nat) (x : Int32) : zev zk_X3_choose (32, [a0, a1, a2, a3], Sum.inl (Value.int x) :: st, s, k) = zev zk_X3_choose (33, [a0, zk1 a1, some (Sum.inl (Value.int x)), a3], st, s, k) := zev_go rfl rfl
theorem zr_X3_choose_33 (a0 a1 a3 : Option zAV) (st : List zAV) (s : zAS) (k : Nat × Nat) (x : Int32) : zev zk_X3_choose (33, [a0, a1, some (Sum.inl (Value.int x)), a3], st, s, k) = zev zk_X3_choose (34, [a0, a1, some (Sum.inl (Value.int x)), a3], Sum.inl (Value.int x) :: st, s, k) := zev_go rfl rfl
theorem zr_X3_choose_34 (ls : zLs) (st : List zAV) (s : zAS) (k : Nat × Nat) (x : Int32) : zev zk_X3_choose (34, ls, Sum.inl (Value.int x) :: st, s, k) = if decide (x < 0) = true then zev zk_X3_choose (58, ls, st, s, k) else zev zk_X3_choose (37, ls, st, s, k) := zf_if (f := fun x => decide (x < 0)) rfl
theorem zr_X3_choose_37 (a1 a2 a3 : Option zAV) (st : List zAV) (s : zAS) (k : Nat × Nat) (o : Nat × Nat) : zev zk_X3_choose (37, [some (Sum.inr o), a1, a2, a3], st, s, k) = zev zk_X3_choose (38, [some (Sum.inr o), a1, a2, a3], Sum.inr o :: st, s, k) := zev_go rfl rfl
theorem zr_X3_choose_38 (ls : zLs) (st : List zAV) (s : zAS) (k : Nat × Nat) (o i : Nat) : zev zk_X3_choose (38, ls, Sum.inr (o, i) :: st, s, k) = zpush zk_X3_choose 41 ls st s k (zgv zEC 3 2 o i s.1) := zf_get rfl
theorem zr_X3_choose_41 (a1 a2 a3 : Option zAV) (st : List zAV) (s : zAS) (k : Nat × Nat) (o : Nat × Nat) : zev zk_X3_choose (41, [some (Sum.inr o), a1, a2, a3], st, s, k) = zev zk_X3_choose (42, [some (Sum.inr o), a1, a2, a3], Sum.inr o :: st, s, k) := zev_go rfl rfl
theorem zr_X3_choose_42 (a0 a1 a3 : Option zAV) (st : List zAV) (s : zAS) (k : Nat × Nat) (x : Int32) : zev zk_X3_choose (42, [a0, a1, some (Sum.inl (Value.int x)), a3], st, s, k) = zev zk_X3_choose (43, [a0, a1, some (Sum.inl (Value.int x)), a3], Sum.inl (Value.int x) :: st, s, k) := zev_go rfl rfl
theorem zr_X3_choose_43 (a0 a1 a3 : Option zAV) (st : List zAV) (s : zAS) (k : Nat × Nat) (x : Int32) : zev zk_X3_choose (43, [a0, a1, some (Sum.inl (Value.int x)), a3], st, s, k) = zev zk_X3_choose (44, [a0, a1, some (Sum.inl (Value.int x)), a3], Sum.inl (Value.int x) :: st, s, k) := zev_go rfl rfl
theorem zr_X3_choose_44 (ls : zLs) (st : List zAV) (s : zAS) (k : Nat × Nat) (x y : Int32) : zev zk_X3_choose (44, ls, Sum.inl (Value.int y) :: Sum.inl (Value.int x) :: st, s, k) = zev zk_X3_choose (45, ls, Sum.inl (Value.int (x * y)) :: st, s, k) := zev_go rfl rfl
theorem zr_X3_choose_45 (ls : zLs) (st : List zAV) (s : zAS) (k : Nat × Nat) (r v0 : zAV) (h : zcok zEC 3 0 0 (zR_X3_choose).cells (zR_X3_choose).slots r st k) : zev zk_X3_choose (45, ls, v0 :: r :: st, s, k) = zret zk_X3_choose 48 ls st (k.1 + 0, k.2 + 0) (m_X3_rest [r, v0] s) := zf_callV (as := [v0]) 1 rfl rfl h
theorem zr_X3_choose_48 (a0 a1 a3 : Option zAV) (st : List zAV) (s : zAS) (k : Nat × Nat) (x : Int32) : zev zk_X3_choose (48, [a0, a1, some (Sum.inl (Value.int x)), a3], st, s, k) = zev zk_X3_choose (49, [a0, a1, some (Sum.inl (Value.int x)), a3], Sum.inl (Value.int x) :: st, s, k) := zev_go rfl rfl
theorem zr_X3_choose_49 (ls : zLs) (st : List zAV) (s : zAS) (k : Nat × Nat) (v0 v1 v2 : zAV) (h : (st.map zcat).sum ≤ 8 ∧ k.1 + 0 ≤ (zR_X3_choose).cells ∧ k.2 + 0 ≤ (zR_X3_choose).slots) : zev zk_X3_choose (49, ls, v2 :: v1 :: v0 :: st, s, k) = zret zk_X3_choose 52 ls st (k.1 + 0, k.2 + 0) (m_X3_keep [v0, v1, v2] s) := zf_callS (as := [v2, v1, v0]) 3 rfl rfl h
theorem zr_X3_choose_52 (a0 a1 a3 : Option zAV) (st : List zAV) (s : zAS) (k : Nat × Nat) (x : Int32) : zev zk_X3_choose (52, [a0, a1, some (Sum.inl (Value.int x)), a3], st, s, k) = zev zk_X3_choose (55, [a0, zk1 a1, some (Sum.inl (Value.int (x + (-1)))), a3], st, s, k) := zev_go rfl rfl
theorem zr_X3_choose_55 (ls : zLs) (st : List zAV) (s : zAS) (k : Nat × Nat) : zev zk_X3_choose (55, ls, st, s, k) = zev zk_X3_choose (33, ls, st, s, k) := zev_go rfl rfl
theorem zr_X3_choose_58 (ls : zLs) (st : List zAV) (s : zAS) (k : Nat × Nat) : zev zk_X3_choose (58, ls, st, s, k) = zev zk_X3_choose (59, ls, Sum.inl (Value.int (1)) :: st, s, k) := zev_go rfl rfl
theorem zr_X3_choose_59 (a0 a1 a2 a3 : Option zAV) (st : List zAV) (s : zAS) (k : Nat × Nat) (x : Int32) : zev zk_X3_choose (59, [a0, a1, a2, a3], Sum.inl (Value.int x) :: st, s, k) = zev zk_X3_choose (60, [a0, zk1 a1, some (Sum.inl (Value.int x)), a3], st, s, k) := zev_go rfl rfl
theorem zr_X3_choose_60 (a0 a1 a3 : Option zAV) (st : List zAV) (s : zAS) (k : Nat × Nat) (x : Int32) : zev zk_X3_choose (60, [a0, a1, some (Sum.inl (Value.int x)), a3], st, s, k) = zev zk_X3_choose (61, [a0, a1, some (Sum.inl (Value.int x)), a3], Sum.inl (Value.int x) :: st, s, k) := zev_go rfl rfl
theorem zr_X3_choose_61 (a0 a2 a3 : Option zAV) (st : List zAV) (s : zAS) (k : Nat × Nat) (x : Int32) : zev zk_X3_choose (61, [a0, some (Sum.inl (Value.int x)), a2, a3], st, s, k) = zev zk_X3_choose (62, [a0, some (Sum.inl (Value.int x)), a2, a3], Sum.inl (Value.int x) :: st, s, k) := zev_go rfl rfl
theorem zr_X3_choose_62 (ls : zLs) (st : List zAV) (s : zAS) (k : Nat × Nat) (x y : Int32) : zev zk_X3_choose (62, ls, Sum.inl (Value.int y) :: Sum.inl (Value.int x) :: st, s, k) = if decide (y ≤ x) = true then zev zk_X3_choose (104, ls, st, s, k) else zev zk_X3_choose (65, ls, st, s, k) := zf_cmp (f := fun x y => decide (y ≤ x)) rfl
theorem zr_X3_choose_65 (ls : zLs) (st : List zAV) (s : zAS) (k : Nat × Nat) : zev zk_X3_choose (65, ls, st, s, k) = zev zk_X3_choose (66, ls, Sum.inl (Value.int (1)) :: st, s, k) := zev_go rfl rfl
theorem zr_X3_choose_66 (a0 a1 a2 a3 : Option zAV) (st : List zAV) (s : zAS) (k : Nat × Nat) (x : Int32) : zev zk_X3_choose (66, [a0, a1, a2, a3], Sum.inl (Value.int x) :: st, s, k) = zev zk_X3_choose (67, [a0, a1, zk1 a2, some (Sum.inl (Value.int x))], st, s, k) := zev_go rfl rfl
theorem zr_X3_choose_67 (a0 a1 a2 : Option zAV) (st : List zAV) (s : zAS) (k : Nat × Nat) (x : Int32) : zev zk_X3_choose (67, [a0, a1, a2, some (Sum.inl (Value.int x))], st, s, k) = zev zk_X3_choose (68, [a0, a1, a2, some (Sum.inl (Value.int x))], Sum.inl (Value.int x) :: st, s, k) := zev_go rfl rfl
theorem zr_X3_choose_68 (a0 a2 a3 : Option zAV) (st : List zAV) (s : zAS) (k : Nat × Nat) (x : Int32) : zev zk_X3_choose (68, [a0, some (Sum.inl (Value.int x)), a2, a3], st, s, k) = zev zk_X3_choose (69, [a0, some (Sum.inl (Value.int x)), a2, a3], Sum.inl (Value.int x) :: st, s, k) := zev_go rfl rfl
theorem zr_X3_choose_69 (ls : zLs) (st : List zAV) (s : zAS) (k : Nat × Nat) (x y : Int32) : zev zk_X3_choose (69, ls, Sum.inl (Value.int y) :: Sum.inl (Value.int x) :: st, s, k) = if decide (y ≤ x) = true then zev zk_X3_choose (98, ls, st, s, k) else zev zk_X3_choose (72, ls, st, s, k) := zf_cmp (f := fun x y => decide (y ≤ x)) rfl
theorem zr_X3_choose_72 (a1 a2 a3 : Option zAV) (st : List zAV) (s : zAS) (k : Nat × Nat) (o : Nat × Nat) : zev zk_X3_choose (72, [some (Sum.inr o), a1, a2, a3], st, s, k) = zev zk_X3_choose (73, [some (Sum.inr o), a1, a2, a3], Sum.inr o :: st, s, k) := zev_go rfl rfl
theorem zr_X3_choose_73 (a0 a1 a3 : Option zAV) (st : List zAV) (s : zAS) (k : Nat × Nat) (x : Int32) : zev zk_X3_choose (73, [a0, a1, some (Sum.inl (Value.int x)), a3], st, s, k) = zev zk_X3_choose (74, [a0, a1, some (Sum.inl (Value.int x)), a3], Sum.inl (Value.int x) :: st, s, k) := zev_go rfl rfl
theorem zr_X3_choose_74 (a0 a1 a2 : Option zAV) (st : List zAV) (s : zAS) (k : Nat × Nat) (x : Int32) : zev zk_X3_choose (74, [a0, a1, a2, some (Sum.inl (Value.int x))], st, s, k) = zev zk_X3_choose (75, [a0, a1, a2, some (Sum.inl (Value.int x))], Sum.inl (Value.int x) :: st, s, k) := zev_go rfl rfl
theorem zr_X3_choose_75 (ls : zLs) (st : List zAV) (s : zAS) (k : Nat × Nat) (x y : Int32) : zev zk_X3_choose (75, ls, Sum.inl (Value.int y) :: Sum.inl (Value.int x) :: st, s, k) = zev zk_X3_choose (76, ls, Sum.inl (Value.int (x * y)) :: st, s, k) := zev_go rfl rfl
theorem zr_X3_choose_76 (ls : zLs) (st : List zAV) (s : zAS) (k : Nat × Nat) (r v0 : zAV) (h : zcok zEC 3 0 0 (zR_X3_choose).cells (zR_X3_choose).slots r st k) : zev zk_X3_choose (76, ls, v0 :: r :: st, s, k) = zret zk_X3_choose 79 ls st (k.1 + 0, k.2 + 0) (m_X3_rest [r, v0] s) := zf_callV (as := [v0]) 1 rfl rfl h
theorem zr_X3_choose_79 (ls : zLs) (st : List zAV) (s : zAS) (k : Nat × Nat) : zev zk_X3_choose (79, ls, st, s, k) = zev zk_X3_choose (80, ls, Sum.inl (Value.int (1)) :: st, s, k) := zev_go rfl rfl
theorem zr_X3_choose_80 (ls : zLs) (st : List zAV) (s : zAS) (k : Nat × Nat) (x y : Int32) : zev zk_X3_choose (80, ls, Sum.inl (Value.int y) :: Sum.inl (Value.int x) :: st, s, k) = if decide (¬ x = y) = true then zev zk_X3_choose (92, ls, st, s, k) else zev zk_X3_choose (83, ls, st, s, k) := zf_cmp (f := fun x y => decide (¬ x = y)) rfl
theorem zr_X3_choose_83 (a1 a2 a3 : Option zAV) (st : List zAV) (s : zAS) (k : Nat × Nat) (o : Nat × Nat) : zev zk_X3_choose (83, [some (Sum.inr o), a1, a2, a3], st, s, k) = zev zk_X3_choose (84, [some (Sum.inr o), a1, a2, a3], Sum.inr o :: st, s, k) := zev_go rfl rfl
theorem zr_X3_choose_84 (ls : zLs) (st : List zAV) (s : zAS) (k : Nat × Nat) (o i : Nat) : zev zk_X3_choose (84, ls, Sum.inr (o, i) :: st, s, k) = zpush zk_X3_choose 87 ls st s k (zgv zEC 3 1 o i s.1) := zf_get rfl
theorem zr_X3_choose_87 (a0 a1 a3 : Option zAV) (st : List zAV) (s : zAS) (k : Nat × Nat) (x : Int32) : zev zk_X3_choose (87, [a0, a1, some (Sum.inl (Value.int x)), a3], st, s, k) = zev zk_X3_choose (88, [a0, a1, some (Sum.inl (Value.int x)), a3], Sum.inl (Value.int x) :: st, s, k) := zev_go rfl rfl
theorem zr_X3_choose_88 (a0 a1 a2 : Option zAV) (st : List zAV) (s : zAS) (k : Nat × Nat) (x : Int32) : zev zk_X3_choose (88, [a0, a1, a2, some (Sum.inl (Value.int x))], st, s, k) = zev zk_X3_choose (89, [a0, a1, a2, some (Sum.inl (Value.int x))], Sum.inl (Value.int x) :: st, s, k) := zev_go rfl rfl
theorem zr_X3_choose_89 (ls : zLs) (st : List zAV) (s : zAS) (k : Nat × Nat) (v0 v1 v2 : zAV) (h : (st.map zcat).sum ≤ 8 ∧ k.1 + 0 ≤ (zR_X3_choose).cells ∧ k.2 + 0 ≤ (zR_X3_choose).slots) : zev zk_X3_choose (89, ls, v2 :: v1 :: v0 :: st, s, k) = zret zk_X3_choose 92 ls st (k.1 + 0, k.2 + 0) (m_X3_keep [v0, v1, v2] s) := zf_callS (as := [v2, v1, v0]) 3 rfl rfl h
theorem zr_X3_choose_92 (a0 a1 a2 : Option zAV) (st : List zAV) (s : zAS) (k : Nat × Nat) (x : Int32) : zev zk_X3_choose (92, [a0, a1, a2, some (Sum.inl (Value.int x))], st, s, k) = zev zk_X3_choose (95, [a0, a1, zk1 a2, some (Sum.inl (Value.int (x + (1))))], st, s, k) := zev_go rfl rfl
theorem zr_X3_choose_95 (ls : zLs) (st : List zAV) (s : zAS) (k : Nat × Nat) : zev zk_X3_choose (95, ls, st, s, k) = zev zk_X3_choose (67, ls, st, s, k) := zev_go rfl rfl
theorem zr_X3_choose_98 (a0 a1 a3 : Option zAV) (st : List zAV) (s : zAS) (k : Nat × Nat) (x : Int32) : zev zk_X3_choose (98, [a0, a1, some (Sum.inl (Value.int x)), a3], st, s, k) = zev zk_X3_choose (101, [a0, zk1 a1, some (Sum.inl (Value.int (x + (1)))), a3], st, s, k) := zev_go rfl rfl
theorem zr_X3_choose_101 (ls : zLs) (st : List zAV) (s : zAS) (k : Nat × Nat) : zev zk_X3_choose (101, ls, st, s, k) = zev zk_X3_choose (60, ls, st, s, k) := zev_go rfl rfl
theorem zr_X3_choose_104 (ls : zLs) (s : zAS) (k : Nat × Nat) : zev zk_X3_choose (104, ls, [], s, k) = some (.inl none, s) := zev_end rfl rfl
/-! X3_has: PrimePlane$Field.has(I)Z -/
abbrev zR_X3_has : Room := ({ frames := 0, cells := 0, slots := 0, locals := 0 } : Room)
noncomputable def zl_X3_has : List (Nat × zOp) := [(0, z_ldi 1 1), (1, z_if (fun x => decide (x < 0)) 16 4), (4, z_ldi 1 5), (5, z_lda 0 6), (6, z_get zEC 3 0 9), (9, z_cmp (fun x y => decide (y ≤ x)) 16 12), (12, z_ic (1) 13), (13, z_goto 17), (16, z_ic (0) 17), (17, z_reti true)]
noncomputable def zk_X3_has (pc : Nat) : Option zOp := zlook zl_X3_has pc
noncomputable def m_X3_has : List zAV → zAS → Option zOut := zmeth zk_X3_has 2
set_option maxRecDepth 100000 in
set_option maxHeartbeats 4000000 in
theorem zcs_X3_has {R : Room} (hR : R = zR_X3_has) : ∀ q ∈ zl_X3_has, zS zEC yX3_has.cls cX3_has 2 wsX3_has (some .boolean) R q.1 q.2 := by
  subst hR
  have hin3 : ∀ w ∈ wsX30, w ∈ wsX3_has := fun w h => List.mem_cons_of_mem _ (List.mem_append_right _ h)
  refine List.forall_mem_cons.mpr ⟨zs_iload_n dX3_has_0 rfl, ?_⟩
  refine List.forall_mem_cons.mpr ⟨zs_iflt dX3_has_1 (by decide), ?_⟩
  refine List.forall_mem_cons.mpr ⟨zs_iload_n dX3_has_4 rfl, ?_⟩
  refine List.forall_mem_cons.mpr ⟨zs_aload_n dX3_has_5 rfl, ?_⟩
  refine List.forall_mem_cons.mpr ⟨zs_get (ci := 3) (j := 0) (N := 3) (C := RX3) (T := TX3) (index := 9) rfl (by decide) hin3 (List.mem_of_getElem? (i := 1) rfl) dX3_has_6, ?_⟩
  refine List.forall_mem_cons.mpr ⟨zs_icge dX3_has_9 (by decide), ?_⟩
  refine List.forall_mem_cons.mpr ⟨zs_iconst dX3_has_12 (by decide), ?_⟩
  refine List.forall_mem_cons.mpr ⟨zs_goto dX3_has_13 (by decide), ?_⟩
  refine List.forall_mem_cons.mpr ⟨zs_iconst dX3_has_16 (by decide), ?_⟩
  refine List.forall_mem_cons.mpr ⟨zs_reti (ty := .boolean) rfl (fun x h => (znz x h).1) dX3_has_17, ?_⟩
  exact fun _ h => absurd h List.not_mem_nil
theorem zM_X3_has : zMeets zEC yX3_has wsX3_has zR_X3_has m_X3_has := zmeth_M zECok (zlook_all (zcs_X3_has rfl)) (by decide +kernel) rfl
theorem zr_X3_has_0 (a0 : Option zAV) (st : List zAV) (s : zAS) (k : Nat × Nat) (x : Int32) : zev zk_X3_has (0, [a0, some (Sum.inl (Value.int x))], st, s, k) = zev zk_X3_has (1, [a0, some (Sum.inl (Value.int x))], Sum.inl (Value.int x) :: st, s, k) := zev_go rfl rfl
theorem zr_X3_has_1 (ls : zLs) (st : List zAV) (s : zAS) (k : Nat × Nat) (x : Int32) : zev zk_X3_has (1, ls, Sum.inl (Value.int x) :: st, s, k) = if decide (x < 0) = true then zev zk_X3_has (16, ls, st, s, k) else zev zk_X3_has (4, ls, st, s, k) := zf_if (f := fun x => decide (x < 0)) rfl
theorem zr_X3_has_4 (a0 : Option zAV) (st : List zAV) (s : zAS) (k : Nat × Nat) (x : Int32) : zev zk_X3_has (4, [a0, some (Sum.inl (Value.int x))], st, s, k) = zev zk_X3_has (5, [a0, some (Sum.inl (Value.int x))], Sum.inl (Value.int x) :: st, s, k) := zev_go rfl rfl
theorem zr_X3_has_5 (a1 : Option zAV) (st : List zAV) (s : zAS) (k : Nat × Nat) (o : Nat × Nat) : zev zk_X3_has (5, [some (Sum.inr o), a1], st, s, k) = zev zk_X3_has (6, [some (Sum.inr o), a1], Sum.inr o :: st, s, k) := zev_go rfl rfl
theorem zr_X3_has_6 (ls : zLs) (st : List zAV) (s : zAS) (k : Nat × Nat) (o i : Nat) : zev zk_X3_has (6, ls, Sum.inr (o, i) :: st, s, k) = zpush zk_X3_has 9 ls st s k (zgv zEC 3 0 o i s.1) := zf_get rfl
theorem zr_X3_has_9 (ls : zLs) (st : List zAV) (s : zAS) (k : Nat × Nat) (x y : Int32) : zev zk_X3_has (9, ls, Sum.inl (Value.int y) :: Sum.inl (Value.int x) :: st, s, k) = if decide (y ≤ x) = true then zev zk_X3_has (16, ls, st, s, k) else zev zk_X3_has (12, ls, st, s, k) := zf_cmp (f := fun x y => decide (y ≤ x)) rfl
theorem zr_X3_has_12 (ls : zLs) (st : List zAV) (s : zAS) (k : Nat × Nat) : zev zk_X3_has (12, ls, st, s, k) = zev zk_X3_has (13, ls, Sum.inl (Value.int (1)) :: st, s, k) := zev_go rfl rfl
theorem zr_X3_has_13 (ls : zLs) (st : List zAV) (s : zAS) (k : Nat × Nat) : zev zk_X3_has (13, ls, st, s, k) = zev zk_X3_has (17, ls, st, s, k) := zev_go rfl rfl
theorem zr_X3_has_16 (ls : zLs) (st : List zAV) (s : zAS) (k : Nat × Nat) : zev zk_X3_has (16, ls, st, s, k) = zev zk_X3_has (17, ls, Sum.inl (Value.int (0)) :: st, s, k) := zev_go rfl rfl
theorem zr_X3_has_17 (ls : zLs) (s : zAS) (k : Nat × Nat) (x : Int32) (hx : x = 0 ∨ x = 1) : zev zk_X3_has (17, ls, [Sum.inl (Value.int x)], s, k) = some (.inl (some (Sum.inl (Value.int x))), s) := zf_retz rfl hx
/-! X4_become: PrimePlane$Figure.become(IIII)V -/
abbrev zR_X4_become : Room := ({ frames := 0, cells := 0, slots := 0, locals := 0 } : Room)
noncomputable def zl_X4_become : List (Nat × zOp) := [(0, z_lda 0 1), (1, z_ldi 1 2), (2, z_put zEC 4 1 false 5), (5, z_lda 0 6), (6, z_ldi 2 7), (7, z_put zEC 4 2 false 10), (10, z_lda 0 11), (11, z_ldi 3 12), (12, z_put zEC 4 3 false 15), (15, z_lda 0 16), (16, z_ldi 4 18), (18, z_put zEC 4 4 false 21), (21, z_retv)]
noncomputable def zk_X4_become (pc : Nat) : Option zOp := zlook zl_X4_become pc
noncomputable def m_X4_become : List zAV → zAS → Option zOut := zmeth zk_X4_become 5
set_option maxRecDepth 100000 in
set_option maxHeartbeats 4000000 in
theorem zcs_X4_become {R : Room} (hR : R = zR_X4_become) : ∀ q ∈ zl_X4_become, zS zEC yX4_become.cls cX4_become 5 wsX4_become none R q.1 q.2 := by
  subst hR
  have hin4 : ∀ w ∈ wsX40, w ∈ wsX4_become := fun w h => List.mem_cons_of_mem _ (List.mem_append_right _ h)
  refine List.forall_mem_cons.mpr ⟨zs_aload_n dX4_become_0 rfl, ?_⟩
  refine List.forall_mem_cons.mpr ⟨zs_iload_n dX4_become_1 rfl, ?_⟩
  refine List.forall_mem_cons.mpr ⟨zs_put (ci := 4) (j := 1) (N := 13) (C := RX4) (T := TX4) (index := 24) (b := false) .int tyX4 rfl (by decide) hin4 tyX4_ok nmX4 (List.mem_of_getElem? (i := 1) rfl) rfl (by decide +kernel) zni dX4_become_2, ?_⟩
  refine List.forall_mem_cons.mpr ⟨zs_aload_n dX4_become_5 rfl, ?_⟩
  refine List.forall_mem_cons.mpr ⟨zs_iload_n dX4_become_6 rfl, ?_⟩
  refine List.forall_mem_cons.mpr ⟨zs_put (ci := 4) (j := 2) (N := 13) (C := RX4) (T := TX4) (index := 9) (b := false) .int tyX4 rfl (by decide) hin4 tyX4_ok nmX4 (List.mem_of_getElem? (i := 2) rfl) rfl (by decide +kernel) zni dX4_become_7, ?_⟩
  refine List.forall_mem_cons.mpr ⟨zs_aload_n dX4_become_10 rfl, ?_⟩
  refine List.forall_mem_cons.mpr ⟨zs_iload_n dX4_become_11 rfl, ?_⟩
  refine List.forall_mem_cons.mpr ⟨zs_put (ci := 4) (j := 3) (N := 13) (C := RX4) (T := TX4) (index := 15) (b := false) .int tyX4 rfl (by decide) hin4 tyX4_ok nmX4 (List.mem_of_getElem? (i := 3) rfl) rfl (by decide +kernel) zni dX4_become_12, ?_⟩
  refine List.forall_mem_cons.mpr ⟨zs_aload_n dX4_become_15 rfl, ?_⟩
  refine List.forall_mem_cons.mpr ⟨zs_iload dX4_become_16, ?_⟩
  refine List.forall_mem_cons.mpr ⟨zs_put (ci := 4) (j := 4) (N := 13) (C := RX4) (T := TX4) (index := 18) (b := false) .int tyX4 rfl (by decide) hin4 tyX4_ok nmX4 (List.mem_of_getElem? (i := 4) rfl) rfl (by decide +kernel) zni dX4_become_18, ?_⟩
  refine List.forall_mem_cons.mpr ⟨zs_retv rfl dX4_become_21, ?_⟩
  exact fun _ h => absurd h List.not_mem_nil
theorem zM_X4_become : zMeets zEC yX4_become wsX4_become zR_X4_become m_X4_become := zmeth_M zECok (zlook_all (zcs_X4_become rfl)) (by decide +kernel) rfl
theorem zr_X4_become_0 (a1 a2 a3 a4 : Option zAV) (st : List zAV) (s : zAS) (k : Nat × Nat) (o : Nat × Nat) : zev zk_X4_become (0, [some (Sum.inr o), a1, a2, a3, a4], st, s, k) = zev zk_X4_become (1, [some (Sum.inr o), a1, a2, a3, a4], Sum.inr o :: st, s, k) := zev_go rfl rfl
theorem zr_X4_become_1 (a0 a2 a3 a4 : Option zAV) (st : List zAV) (s : zAS) (k : Nat × Nat) (x : Int32) : zev zk_X4_become (1, [a0, some (Sum.inl (Value.int x)), a2, a3, a4], st, s, k) = zev zk_X4_become (2, [a0, some (Sum.inl (Value.int x)), a2, a3, a4], Sum.inl (Value.int x) :: st, s, k) := zev_go rfl rfl
theorem zr_X4_become_2 (ls : zLs) (st : List zAV) (s : zAS) (k : Nat × Nat) (o i : Nat) (x : Int32) (h : zpok zEC 4 1 false o i x) : zev zk_X4_become (2, ls, Sum.inl (Value.int x) :: Sum.inr (o, i) :: st, s, k) = zev zk_X4_become (5, ls, st, (zup s.1 o i 1 x, s.2), k) := zf_put rfl h
theorem zr_X4_become_5 (a1 a2 a3 a4 : Option zAV) (st : List zAV) (s : zAS) (k : Nat × Nat) (o : Nat × Nat) : zev zk_X4_become (5, [some (Sum.inr o), a1, a2, a3, a4], st, s, k) = zev zk_X4_become (6, [some (Sum.inr o), a1, a2, a3, a4], Sum.inr o :: st, s, k) := zev_go rfl rfl
theorem zr_X4_become_6 (a0 a1 a3 a4 : Option zAV) (st : List zAV) (s : zAS) (k : Nat × Nat) (x : Int32) : zev zk_X4_become (6, [a0, a1, some (Sum.inl (Value.int x)), a3, a4], st, s, k) = zev zk_X4_become (7, [a0, a1, some (Sum.inl (Value.int x)), a3, a4], Sum.inl (Value.int x) :: st, s, k) := zev_go rfl rfl
theorem zr_X4_become_7 (ls : zLs) (st : List zAV) (s : zAS) (k : Nat × Nat) (o i : Nat) (x : Int32) (h : zpok zEC 4 2 false o i x) : zev zk_X4_become (7, ls, Sum.inl (Value.int x) :: Sum.inr (o, i) :: st, s, k) = zev zk_X4_become (10, ls, st, (zup s.1 o i 2 x, s.2), k) := zf_put rfl h
theorem zr_X4_become_10 (a1 a2 a3 a4 : Option zAV) (st : List zAV) (s : zAS) (k : Nat × Nat) (o : Nat × Nat) : zev zk_X4_become (10, [some (Sum.inr o), a1, a2, a3, a4], st, s, k) = zev zk_X4_become (11, [some (Sum.inr o), a1, a2, a3, a4], Sum.inr o :: st, s, k) := zev_go rfl rfl
theorem zr_X4_become_11 (a0 a1 a2 a4 : Option zAV) (st : List zAV) (s : zAS) (k : Nat × Nat) (x : Int32) : zev zk_X4_become (11, [a0, a1, a2, some (Sum.inl (Value.int x)), a4], st, s, k) = zev zk_X4_become (12, [a0, a1, a2, some (Sum.inl (Value.int x)), a4], Sum.inl (Value.int x) :: st, s, k) := zev_go rfl rfl
theorem zr_X4_become_12 (ls : zLs) (st : List zAV) (s : zAS) (k : Nat × Nat) (o i : Nat) (x : Int32) (h : zpok zEC 4 3 false o i x) : zev zk_X4_become (12, ls, Sum.inl (Value.int x) :: Sum.inr (o, i) :: st, s, k) = zev zk_X4_become (15, ls, st, (zup s.1 o i 3 x, s.2), k) := zf_put rfl h
theorem zr_X4_become_15 (a1 a2 a3 a4 : Option zAV) (st : List zAV) (s : zAS) (k : Nat × Nat) (o : Nat × Nat) : zev zk_X4_become (15, [some (Sum.inr o), a1, a2, a3, a4], st, s, k) = zev zk_X4_become (16, [some (Sum.inr o), a1, a2, a3, a4], Sum.inr o :: st, s, k) := zev_go rfl rfl
theorem zr_X4_become_16 (a0 a1 a2 a3 : Option zAV) (st : List zAV) (s : zAS) (k : Nat × Nat) (x : Int32) : zev zk_X4_become (16, [a0, a1, a2, a3, some (Sum.inl (Value.int x))], st, s, k) = zev zk_X4_become (18, [a0, a1, a2, a3, some (Sum.inl (Value.int x))], Sum.inl (Value.int x) :: st, s, k) := zev_go rfl rfl
theorem zr_X4_become_18 (ls : zLs) (st : List zAV) (s : zAS) (k : Nat × Nat) (o i : Nat) (x : Int32) (h : zpok zEC 4 4 false o i x) : zev zk_X4_become (18, ls, Sum.inl (Value.int x) :: Sum.inr (o, i) :: st, s, k) = zev zk_X4_become (21, ls, st, (zup s.1 o i 4 x, s.2), k) := zf_put rfl h
theorem zr_X4_become_21 (ls : zLs) (s : zAS) (k : Nat × Nat) : zev zk_X4_become (21, ls, [], s, k) = some (.inl none, s) := zev_end rfl rfl
/-! X4_tell: PrimePlane$Figure.tell(II)V -/
abbrev zR_X4_tell : Room := ({ frames := 0, cells := 0, slots := 0, locals := 0 } : Room)
noncomputable def zl_X4_tell : List (Nat × zOp) := [(0, z_lda 0 1), (1, z_ldi 1 2), (2, z_put zEC 4 5 false 5), (5, z_lda 0 6), (6, z_ldi 2 7), (7, z_put zEC 4 6 false 10), (10, z_retv)]
noncomputable def zk_X4_tell (pc : Nat) : Option zOp := zlook zl_X4_tell pc
noncomputable def m_X4_tell : List zAV → zAS → Option zOut := zmeth zk_X4_tell 3
set_option maxRecDepth 100000 in
set_option maxHeartbeats 4000000 in
theorem zcs_X4_tell {R : Room} (hR : R = zR_X4_tell) : ∀ q ∈ zl_X4_tell, zS zEC yX4_tell.cls cX4_tell 3 wsX4_tell none R q.1 q.2 := by
  subst hR
  have hin4 : ∀ w ∈ wsX40, w ∈ wsX4_tell := fun w h => List.mem_cons_of_mem _ (List.mem_append_right _ h)
  refine List.forall_mem_cons.mpr ⟨zs_aload_n dX4_tell_0 rfl, ?_⟩
  refine List.forall_mem_cons.mpr ⟨zs_iload_n dX4_tell_1 rfl, ?_⟩
  refine List.forall_mem_cons.mpr ⟨zs_put (ci := 4) (j := 5) (N := 13) (C := RX4) (T := TX4) (index := 27) (b := false) .int tyX4 rfl (by decide) hin4 tyX4_ok nmX4 (List.mem_of_getElem? (i := 1) rfl) rfl (by decide +kernel) zni dX4_tell_2, ?_⟩
  refine List.forall_mem_cons.mpr ⟨zs_aload_n dX4_tell_5 rfl, ?_⟩
  refine List.forall_mem_cons.mpr ⟨zs_iload_n dX4_tell_6 rfl, ?_⟩
  refine List.forall_mem_cons.mpr ⟨zs_put (ci := 4) (j := 6) (N := 13) (C := RX4) (T := TX4) (index := 30) (b := false) .int tyX4 rfl (by decide) hin4 tyX4_ok nmX4 (List.mem_of_getElem? (i := 2) rfl) rfl (by decide +kernel) zni dX4_tell_7, ?_⟩
  refine List.forall_mem_cons.mpr ⟨zs_retv rfl dX4_tell_10, ?_⟩
  exact fun _ h => absurd h List.not_mem_nil
theorem zM_X4_tell : zMeets zEC yX4_tell wsX4_tell zR_X4_tell m_X4_tell := zmeth_M zECok (zlook_all (zcs_X4_tell rfl)) (by decide +kernel) rfl
theorem zr_X4_tell_0 (a1 a2 : Option zAV) (st : List zAV) (s : zAS) (k : Nat × Nat) (o : Nat × Nat) : zev zk_X4_tell (0, [some (Sum.inr o), a1, a2], st, s, k) = zev zk_X4_tell (1, [some (Sum.inr o), a1, a2], Sum.inr o :: st, s, k) := zev_go rfl rfl
theorem zr_X4_tell_1 (a0 a2 : Option zAV) (st : List zAV) (s : zAS) (k : Nat × Nat) (x : Int32) : zev zk_X4_tell (1, [a0, some (Sum.inl (Value.int x)), a2], st, s, k) = zev zk_X4_tell (2, [a0, some (Sum.inl (Value.int x)), a2], Sum.inl (Value.int x) :: st, s, k) := zev_go rfl rfl
theorem zr_X4_tell_2 (ls : zLs) (st : List zAV) (s : zAS) (k : Nat × Nat) (o i : Nat) (x : Int32) (h : zpok zEC 4 5 false o i x) : zev zk_X4_tell (2, ls, Sum.inl (Value.int x) :: Sum.inr (o, i) :: st, s, k) = zev zk_X4_tell (5, ls, st, (zup s.1 o i 5 x, s.2), k) := zf_put rfl h
theorem zr_X4_tell_5 (a1 a2 : Option zAV) (st : List zAV) (s : zAS) (k : Nat × Nat) (o : Nat × Nat) : zev zk_X4_tell (5, [some (Sum.inr o), a1, a2], st, s, k) = zev zk_X4_tell (6, [some (Sum.inr o), a1, a2], Sum.inr o :: st, s, k) := zev_go rfl rfl
theorem zr_X4_tell_6 (a0 a1 : Option zAV) (st : List zAV) (s : zAS) (k : Nat × Nat) (x : Int32) : zev zk_X4_tell (6, [a0, a1, some (Sum.inl (Value.int x))], st, s, k) = zev zk_X4_tell (7, [a0, a1, some (Sum.inl (Value.int x))], Sum.inl (Value.int x) :: st, s, k) := zev_go rfl rfl
theorem zr_X4_tell_7 (ls : zLs) (st : List zAV) (s : zAS) (k : Nat × Nat) (o i : Nat) (x : Int32) (h : zpok zEC 4 6 false o i x) : zev zk_X4_tell (7, ls, Sum.inl (Value.int x) :: Sum.inr (o, i) :: st, s, k) = zev zk_X4_tell (10, ls, st, (zup s.1 o i 6 x, s.2), k) := zf_put rfl h
theorem zr_X4_tell_10 (ls : zLs) (s : zAS) (k : Nat × Nat) : zev zk_X4_tell (10, ls, [], s, k) = some (.inl none, s) := zev_end rfl rfl
/-! X4_sort: PrimePlane$Figure.sort()I -/
abbrev zR_X4_sort : Room := ({ frames := 0, cells := 0, slots := 0, locals := 0 } : Room)
noncomputable def zl_X4_sort : List (Nat × zOp) := [(0, z_lda 0 1), (1, z_get zEC 4 1 4), (4, z_ic (10) 6), (6, z_cmp (fun x y => decide (y ≤ x)) 13 9), (9, z_ic (0) 10), (10, z_goto 27), (13, z_lda 0 14), (14, z_get zEC 4 1 17), (17, z_ic (20) 19), (19, z_cmp (fun x y => decide (y ≤ x)) 26 22), (22, z_ic (1) 23), (23, z_goto 27), (26, z_ic (2) 27), (27, z_reti false)]
noncomputable def zk_X4_sort (pc : Nat) : Option zOp := zlook zl_X4_sort pc
noncomputable def m_X4_sort : List zAV → zAS → Option zOut := zmeth zk_X4_sort 1
set_option maxRecDepth 100000 in
set_option maxHeartbeats 4000000 in
theorem zcs_X4_sort {R : Room} (hR : R = zR_X4_sort) : ∀ q ∈ zl_X4_sort, zS zEC yX4_sort.cls cX4_sort 1 wsX4_sort (some .int) R q.1 q.2 := by
  subst hR
  have hin4 : ∀ w ∈ wsX40, w ∈ wsX4_sort := fun w h => List.mem_cons_of_mem _ (List.mem_append_right _ h)
  refine List.forall_mem_cons.mpr ⟨zs_aload_n dX4_sort_0 rfl, ?_⟩
  refine List.forall_mem_cons.mpr ⟨zs_get (ci := 4) (j := 1) (N := 13) (C := RX4) (T := TX4) (index := 24) rfl (by decide) hin4 (List.mem_of_getElem? (i := 1) rfl) dX4_sort_1, ?_⟩
  refine List.forall_mem_cons.mpr ⟨zs_bipush dX4_sort_4 (by decide), ?_⟩
  refine List.forall_mem_cons.mpr ⟨zs_icge dX4_sort_6 (by decide), ?_⟩
  refine List.forall_mem_cons.mpr ⟨zs_iconst dX4_sort_9 (by decide), ?_⟩
  refine List.forall_mem_cons.mpr ⟨zs_goto dX4_sort_10 (by decide), ?_⟩
  refine List.forall_mem_cons.mpr ⟨zs_aload_n dX4_sort_13 rfl, ?_⟩
  refine List.forall_mem_cons.mpr ⟨zs_get (ci := 4) (j := 1) (N := 13) (C := RX4) (T := TX4) (index := 24) rfl (by decide) hin4 (List.mem_of_getElem? (i := 1) rfl) dX4_sort_14, ?_⟩
  refine List.forall_mem_cons.mpr ⟨zs_bipush dX4_sort_17 (by decide), ?_⟩
  refine List.forall_mem_cons.mpr ⟨zs_icge dX4_sort_19 (by decide), ?_⟩
  refine List.forall_mem_cons.mpr ⟨zs_iconst dX4_sort_22 (by decide), ?_⟩
  refine List.forall_mem_cons.mpr ⟨zs_goto dX4_sort_23 (by decide), ?_⟩
  refine List.forall_mem_cons.mpr ⟨zs_iconst dX4_sort_26 (by decide), ?_⟩
  refine List.forall_mem_cons.mpr ⟨zs_reti (ty := .int) rfl (fun x h => (zni x h).1) dX4_sort_27, ?_⟩
  exact fun _ h => absurd h List.not_mem_nil
theorem zM_X4_sort : zMeets zEC yX4_sort wsX4_sort zR_X4_sort m_X4_sort := zmeth_M zECok (zlook_all (zcs_X4_sort rfl)) (by decide +kernel) rfl
theorem zr_X4_sort_0 (st : List zAV) (s : zAS) (k : Nat × Nat) (o : Nat × Nat) : zev zk_X4_sort (0, [some (Sum.inr o)], st, s, k) = zev zk_X4_sort (1, [some (Sum.inr o)], Sum.inr o :: st, s, k) := zev_go rfl rfl
theorem zr_X4_sort_1 (ls : zLs) (st : List zAV) (s : zAS) (k : Nat × Nat) (o i : Nat) : zev zk_X4_sort (1, ls, Sum.inr (o, i) :: st, s, k) = zpush zk_X4_sort 4 ls st s k (zgv zEC 4 1 o i s.1) := zf_get rfl
theorem zr_X4_sort_4 (ls : zLs) (st : List zAV) (s : zAS) (k : Nat × Nat) : zev zk_X4_sort (4, ls, st, s, k) = zev zk_X4_sort (6, ls, Sum.inl (Value.int (10)) :: st, s, k) := zev_go rfl rfl
theorem zr_X4_sort_6 (ls : zLs) (st : List zAV) (s : zAS) (k : Nat × Nat) (x y : Int32) : zev zk_X4_sort (6, ls, Sum.inl (Value.int y) :: Sum.inl (Value.int x) :: st, s, k) = if decide (y ≤ x) = true then zev zk_X4_sort (13, ls, st, s, k) else zev zk_X4_sort (9, ls, st, s, k) := zf_cmp (f := fun x y => decide (y ≤ x)) rfl
theorem zr_X4_sort_9 (ls : zLs) (st : List zAV) (s : zAS) (k : Nat × Nat) : zev zk_X4_sort (9, ls, st, s, k) = zev zk_X4_sort (10, ls, Sum.inl (Value.int (0)) :: st, s, k) := zev_go rfl rfl
theorem zr_X4_sort_10 (ls : zLs) (st : List zAV) (s : zAS) (k : Nat × Nat) : zev zk_X4_sort (10, ls, st, s, k) = zev zk_X4_sort (27, ls, st, s, k) := zev_go rfl rfl
theorem zr_X4_sort_13 (st : List zAV) (s : zAS) (k : Nat × Nat) (o : Nat × Nat) : zev zk_X4_sort (13, [some (Sum.inr o)], st, s, k) = zev zk_X4_sort (14, [some (Sum.inr o)], Sum.inr o :: st, s, k) := zev_go rfl rfl
theorem zr_X4_sort_14 (ls : zLs) (st : List zAV) (s : zAS) (k : Nat × Nat) (o i : Nat) : zev zk_X4_sort (14, ls, Sum.inr (o, i) :: st, s, k) = zpush zk_X4_sort 17 ls st s k (zgv zEC 4 1 o i s.1) := zf_get rfl
theorem zr_X4_sort_17 (ls : zLs) (st : List zAV) (s : zAS) (k : Nat × Nat) : zev zk_X4_sort (17, ls, st, s, k) = zev zk_X4_sort (19, ls, Sum.inl (Value.int (20)) :: st, s, k) := zev_go rfl rfl
theorem zr_X4_sort_19 (ls : zLs) (st : List zAV) (s : zAS) (k : Nat × Nat) (x y : Int32) : zev zk_X4_sort (19, ls, Sum.inl (Value.int y) :: Sum.inl (Value.int x) :: st, s, k) = if decide (y ≤ x) = true then zev zk_X4_sort (26, ls, st, s, k) else zev zk_X4_sort (22, ls, st, s, k) := zf_cmp (f := fun x y => decide (y ≤ x)) rfl
theorem zr_X4_sort_22 (ls : zLs) (st : List zAV) (s : zAS) (k : Nat × Nat) : zev zk_X4_sort (22, ls, st, s, k) = zev zk_X4_sort (23, ls, Sum.inl (Value.int (1)) :: st, s, k) := zev_go rfl rfl
theorem zr_X4_sort_23 (ls : zLs) (st : List zAV) (s : zAS) (k : Nat × Nat) : zev zk_X4_sort (23, ls, st, s, k) = zev zk_X4_sort (27, ls, st, s, k) := zev_go rfl rfl
theorem zr_X4_sort_26 (ls : zLs) (st : List zAV) (s : zAS) (k : Nat × Nat) : zev zk_X4_sort (26, ls, st, s, k) = zev zk_X4_sort (27, ls, Sum.inl (Value.int (2)) :: st, s, k) := zev_go rfl rfl
theorem zr_X4_sort_27 (ls : zLs) (s : zAS) (k : Nat × Nat) (x : Int32) : zev zk_X4_sort (27, ls, [Sum.inl (Value.int x)], s, k) = some (.inl (some (Sum.inl (Value.int x))), s) := zf_reti rfl
/-! X4_isLike: PrimePlane$Figure.isLike(LPrimePlane$Figure;)Z -/
abbrev zR_X4_isLike : Room := ({ frames := 0, cells := 0, slots := 0, locals := 0 } : Room)
noncomputable def zl_X4_isLike : List (Nat × zOp) := [(0, z_lda 0 1), (1, z_get zEC 4 8 4), (4, z_lda 1 5), (5, z_get zEC 4 8 8), (8, z_cmp (fun x y => decide (¬ x = y)) 37 11), (11, z_lda 0 12), (12, z_get zEC 4 9 15), (15, z_lda 1 16), (16, z_get zEC 4 9 19), (19, z_cmp (fun x y => decide (¬ x = y)) 37 22), (22, z_lda 0 23), (23, z_get zEC 4 10 26), (26, z_lda 1 27), (27, z_get zEC 4 10 30), (30, z_cmp (fun x y => decide (¬ x = y)) 37 33), (33, z_ic (1) 34), (34, z_goto 38), (37, z_ic (0) 38), (38, z_reti true)]
noncomputable def zk_X4_isLike (pc : Nat) : Option zOp := zlook zl_X4_isLike pc
noncomputable def m_X4_isLike : List zAV → zAS → Option zOut := zmeth zk_X4_isLike 2
set_option maxRecDepth 100000 in
set_option maxHeartbeats 4000000 in
theorem zcs_X4_isLike {R : Room} (hR : R = zR_X4_isLike) : ∀ q ∈ zl_X4_isLike, zS zEC yX4_isLike.cls cX4_isLike 2 wsX4_isLike (some .boolean) R q.1 q.2 := by
  subst hR
  have hin4 : ∀ w ∈ wsX40, w ∈ wsX4_isLike := fun w h => List.mem_cons_of_mem _ (List.mem_append_right _ h)
  refine List.forall_mem_cons.mpr ⟨zs_aload_n dX4_isLike_0 rfl, ?_⟩
  refine List.forall_mem_cons.mpr ⟨zs_get (ci := 4) (j := 8) (N := 13) (C := RX4) (T := TX4) (index := 33) rfl (by decide) hin4 (List.mem_of_getElem? (i := 1) rfl) dX4_isLike_1, ?_⟩
  refine List.forall_mem_cons.mpr ⟨zs_aload_n dX4_isLike_4 rfl, ?_⟩
  refine List.forall_mem_cons.mpr ⟨zs_get (ci := 4) (j := 8) (N := 13) (C := RX4) (T := TX4) (index := 33) rfl (by decide) hin4 (List.mem_of_getElem? (i := 1) rfl) dX4_isLike_5, ?_⟩
  refine List.forall_mem_cons.mpr ⟨zs_icne dX4_isLike_8 (by decide), ?_⟩
  refine List.forall_mem_cons.mpr ⟨zs_aload_n dX4_isLike_11 rfl, ?_⟩
  refine List.forall_mem_cons.mpr ⟨zs_get (ci := 4) (j := 9) (N := 13) (C := RX4) (T := TX4) (index := 36) rfl (by decide) hin4 (List.mem_of_getElem? (i := 2) rfl) dX4_isLike_12, ?_⟩
  refine List.forall_mem_cons.mpr ⟨zs_aload_n dX4_isLike_15 rfl, ?_⟩
  refine List.forall_mem_cons.mpr ⟨zs_get (ci := 4) (j := 9) (N := 13) (C := RX4) (T := TX4) (index := 36) rfl (by decide) hin4 (List.mem_of_getElem? (i := 2) rfl) dX4_isLike_16, ?_⟩
  refine List.forall_mem_cons.mpr ⟨zs_icne dX4_isLike_19 (by decide), ?_⟩
  refine List.forall_mem_cons.mpr ⟨zs_aload_n dX4_isLike_22 rfl, ?_⟩
  refine List.forall_mem_cons.mpr ⟨zs_get (ci := 4) (j := 10) (N := 13) (C := RX4) (T := TX4) (index := 39) rfl (by decide) hin4 (List.mem_of_getElem? (i := 3) rfl) dX4_isLike_23, ?_⟩
  refine List.forall_mem_cons.mpr ⟨zs_aload_n dX4_isLike_26 rfl, ?_⟩
  refine List.forall_mem_cons.mpr ⟨zs_get (ci := 4) (j := 10) (N := 13) (C := RX4) (T := TX4) (index := 39) rfl (by decide) hin4 (List.mem_of_getElem? (i := 3) rfl) dX4_isLike_27, ?_⟩
  refine List.forall_mem_cons.mpr ⟨zs_icne dX4_isLike_30 (by decide), ?_⟩
  refine List.forall_mem_cons.mpr ⟨zs_iconst dX4_isLike_33 (by decide), ?_⟩
  refine List.forall_mem_cons.mpr ⟨zs_goto dX4_isLike_34 (by decide), ?_⟩
  refine List.forall_mem_cons.mpr ⟨zs_iconst dX4_isLike_37 (by decide), ?_⟩
  refine List.forall_mem_cons.mpr ⟨zs_reti (ty := .boolean) rfl (fun x h => (znz x h).1) dX4_isLike_38, ?_⟩
  exact fun _ h => absurd h List.not_mem_nil
theorem zM_X4_isLike : zMeets zEC yX4_isLike wsX4_isLike zR_X4_isLike m_X4_isLike := zmeth_M zECok (zlook_all (zcs_X4_isLike rfl)) (by decide +kernel) rfl
theorem zr_X4_isLike_0 (a1 : Option zAV) (st : List zAV) (s : zAS) (k : Nat × Nat) (o : Nat × Nat) : zev zk_X4_isLike (0, [some (Sum.inr o), a1], st, s, k) = zev zk_X4_isLike (1, [some (Sum.inr o), a1], Sum.inr o :: st, s, k) := zev_go rfl rfl
theorem zr_X4_isLike_1 (ls : zLs) (st : List zAV) (s : zAS) (k : Nat × Nat) (o i : Nat) : zev zk_X4_isLike (1, ls, Sum.inr (o, i) :: st, s, k) = zpush zk_X4_isLike 4 ls st s k (zgv zEC 4 8 o i s.1) := zf_get rfl
theorem zr_X4_isLike_4 (a0 : Option zAV) (st : List zAV) (s : zAS) (k : Nat × Nat) (o : Nat × Nat) : zev zk_X4_isLike (4, [a0, some (Sum.inr o)], st, s, k) = zev zk_X4_isLike (5, [a0, some (Sum.inr o)], Sum.inr o :: st, s, k) := zev_go rfl rfl
theorem zr_X4_isLike_5 (ls : zLs) (st : List zAV) (s : zAS) (k : Nat × Nat) (o i : Nat) : zev zk_X4_isLike (5, ls, Sum.inr (o, i) :: st, s, k) = zpush zk_X4_isLike 8 ls st s k (zgv zEC 4 8 o i s.1) := zf_get rfl
theorem zr_X4_isLike_8 (ls : zLs) (st : List zAV) (s : zAS) (k : Nat × Nat) (x y : Int32) : zev zk_X4_isLike (8, ls, Sum.inl (Value.int y) :: Sum.inl (Value.int x) :: st, s, k) = if decide (¬ x = y) = true then zev zk_X4_isLike (37, ls, st, s, k) else zev zk_X4_isLike (11, ls, st, s, k) := zf_cmp (f := fun x y => decide (¬ x = y)) rfl
theorem zr_X4_isLike_11 (a1 : Option zAV) (st : List zAV) (s : zAS) (k : Nat × Nat) (o : Nat × Nat) : zev zk_X4_isLike (11, [some (Sum.inr o), a1], st, s, k) = zev zk_X4_isLike (12, [some (Sum.inr o), a1], Sum.inr o :: st, s, k) := zev_go rfl rfl
theorem zr_X4_isLike_12 (ls : zLs) (st : List zAV) (s : zAS) (k : Nat × Nat) (o i : Nat) : zev zk_X4_isLike (12, ls, Sum.inr (o, i) :: st, s, k) = zpush zk_X4_isLike 15 ls st s k (zgv zEC 4 9 o i s.1) := zf_get rfl
theorem zr_X4_isLike_15 (a0 : Option zAV) (st : List zAV) (s : zAS) (k : Nat × Nat) (o : Nat × Nat) : zev zk_X4_isLike (15, [a0, some (Sum.inr o)], st, s, k) = zev zk_X4_isLike (16, [a0, some (Sum.inr o)], Sum.inr o :: st, s, k) := zev_go rfl rfl
theorem zr_X4_isLike_16 (ls : zLs) (st : List zAV) (s : zAS) (k : Nat × Nat) (o i : Nat) : zev zk_X4_isLike (16, ls, Sum.inr (o, i) :: st, s, k) = zpush zk_X4_isLike 19 ls st s k (zgv zEC 4 9 o i s.1) := zf_get rfl
theorem zr_X4_isLike_19 (ls : zLs) (st : List zAV) (s : zAS) (k : Nat × Nat) (x y : Int32) : zev zk_X4_isLike (19, ls, Sum.inl (Value.int y) :: Sum.inl (Value.int x) :: st, s, k) = if decide (¬ x = y) = true then zev zk_X4_isLike (37, ls, st, s, k) else zev zk_X4_isLike (22, ls, st, s, k) := zf_cmp (f := fun x y => decide (¬ x = y)) rfl
theorem zr_X4_isLike_22 (a1 : Option zAV) (st : List zAV) (s : zAS) (k : Nat × Nat) (o : Nat × Nat) : zev zk_X4_isLike (22, [some (Sum.inr o), a1], st, s, k) = zev zk_X4_isLike (23, [some (Sum.inr o), a1], Sum.inr o :: st, s, k) := zev_go rfl rfl
theorem zr_X4_isLike_23 (ls : zLs) (st : List zAV) (s : zAS) (k : Nat × Nat) (o i : Nat) : zev zk_X4_isLike (23, ls, Sum.inr (o, i) :: st, s, k) = zpush zk_X4_isLike 26 ls st s k (zgv zEC 4 10 o i s.1) := zf_get rfl
theorem zr_X4_isLike_26 (a0 : Option zAV) (st : List zAV) (s : zAS) (k : Nat × Nat) (o : Nat × Nat) : zev zk_X4_isLike (26, [a0, some (Sum.inr o)], st, s, k) = zev zk_X4_isLike (27, [a0, some (Sum.inr o)], Sum.inr o :: st, s, k) := zev_go rfl rfl
theorem zr_X4_isLike_27 (ls : zLs) (st : List zAV) (s : zAS) (k : Nat × Nat) (o i : Nat) : zev zk_X4_isLike (27, ls, Sum.inr (o, i) :: st, s, k) = zpush zk_X4_isLike 30 ls st s k (zgv zEC 4 10 o i s.1) := zf_get rfl
theorem zr_X4_isLike_30 (ls : zLs) (st : List zAV) (s : zAS) (k : Nat × Nat) (x y : Int32) : zev zk_X4_isLike (30, ls, Sum.inl (Value.int y) :: Sum.inl (Value.int x) :: st, s, k) = if decide (¬ x = y) = true then zev zk_X4_isLike (37, ls, st, s, k) else zev zk_X4_isLike (33, ls, st, s, k) := zf_cmp (f := fun x y => decide (¬ x = y)) rfl
theorem zr_X4_isLike_33 (ls : zLs) (st : List zAV) (s : zAS) (k : Nat × Nat) : zev zk_X4_isLike (33, ls, st, s, k) = zev zk_X4_isLike (34, ls, Sum.inl (Value.int (1)) :: st, s, k) := zev_go rfl rfl
theorem zr_X4_isLike_34 (ls : zLs) (st : List zAV) (s : zAS) (k : Nat × Nat) : zev zk_X4_isLike (34, ls, st, s, k) = zev zk_X4_isLike (38, ls, st, s, k) := zev_go rfl rfl
theorem zr_X4_isLike_37 (ls : zLs) (st : List zAV) (s : zAS) (k : Nat × Nat) : zev zk_X4_isLike (37, ls, st, s, k) = zev zk_X4_isLike (38, ls, Sum.inl (Value.int (0)) :: st, s, k) := zev_go rfl rfl
theorem zr_X4_isLike_38 (ls : zLs) (s : zAS) (k : Nat × Nat) (x : Int32) (hx : x = 0 ∨ x = 1) : zev zk_X4_isLike (38, ls, [Sum.inl (Value.int x)], s, k) = some (.inl (some (Sum.inl (Value.int x))), s) := zf_retz rfl hx
/-! X4_feature: PrimePlane$Figure.feature(I)I -/
abbrev zR_X4_feature : Room := ({ frames := 1, cells := 0, slots := 0, locals := 20 } : Room)
noncomputable def zl_X4_feature : List (Nat × zOp) := [(0, z_ldi 1 1), (1, z_tsw 0 4 [36, 41, 46, 51, 56] 61), (36, z_lda 0 37), (37, z_callV zEC 4 m_X4_sort 0 0 0 (zR_X4_feature).cells (zR_X4_feature).slots 40), (40, z_reti false), (41, z_lda 0 42), (42, z_get zEC 4 1 45), (45, z_reti false), (46, z_lda 0 47), (47, z_get zEC 4 2 50), (50, z_reti false), (51, z_lda 0 52), (52, z_get zEC 4 3 55), (55, z_reti false), (56, z_lda 0 57), (57, z_get zEC 4 4 60), (60, z_reti false), (61, z_lda 0 62), (62, z_get zEC 4 7 65), (65, z_if (fun x => decide (x = 0)) 72 68), (68, z_ic (1) 69), (69, z_goto 73), (72, z_ic (0) 73), (73, z_reti false)]
noncomputable def zk_X4_feature (pc : Nat) : Option zOp := zlook zl_X4_feature pc
noncomputable def m_X4_feature : List zAV → zAS → Option zOut := zmeth zk_X4_feature 2
set_option maxRecDepth 100000 in
set_option maxHeartbeats 4000000 in
theorem zcs_X4_feature {R : Room} (hR : R = zR_X4_feature) : ∀ q ∈ zl_X4_feature, zS zEC yX4_feature.cls cX4_feature 2 wsX4_feature (some .int) R q.1 q.2 := by
  subst hR
  have hin4 : ∀ w ∈ wsX40, w ∈ wsX4_feature := fun w h => List.mem_cons_of_mem _ (List.mem_append_right _ h)
  refine List.forall_mem_cons.mpr ⟨zs_iload_n dX4_feature_0 rfl, ?_⟩
  refine List.forall_mem_cons.mpr ⟨zs_tsw dX4_feature_1 (by decide) (by decide), ?_⟩
  refine List.forall_mem_cons.mpr ⟨zs_aload_n dX4_feature_36 rfl, ?_⟩
  refine List.forall_mem_cons.mpr ⟨zs_callV (ci := 4) (rm := zR_X4_sort) (n := 0) rfl zM_X4_sort gX4_feature_X4_sort rfl (by decide +kernel) ⟨by decide, by decide⟩ dX4_feature_37, ?_⟩
  refine List.forall_mem_cons.mpr ⟨zs_reti (ty := .int) rfl (fun x h => (zni x h).1) dX4_feature_40, ?_⟩
  refine List.forall_mem_cons.mpr ⟨zs_aload_n dX4_feature_41 rfl, ?_⟩
  refine List.forall_mem_cons.mpr ⟨zs_get (ci := 4) (j := 1) (N := 13) (C := RX4) (T := TX4) (index := 24) rfl (by decide) hin4 (List.mem_of_getElem? (i := 1) rfl) dX4_feature_42, ?_⟩
  refine List.forall_mem_cons.mpr ⟨zs_reti (ty := .int) rfl (fun x h => (zni x h).1) dX4_feature_45, ?_⟩
  refine List.forall_mem_cons.mpr ⟨zs_aload_n dX4_feature_46 rfl, ?_⟩
  refine List.forall_mem_cons.mpr ⟨zs_get (ci := 4) (j := 2) (N := 13) (C := RX4) (T := TX4) (index := 9) rfl (by decide) hin4 (List.mem_of_getElem? (i := 2) rfl) dX4_feature_47, ?_⟩
  refine List.forall_mem_cons.mpr ⟨zs_reti (ty := .int) rfl (fun x h => (zni x h).1) dX4_feature_50, ?_⟩
  refine List.forall_mem_cons.mpr ⟨zs_aload_n dX4_feature_51 rfl, ?_⟩
  refine List.forall_mem_cons.mpr ⟨zs_get (ci := 4) (j := 3) (N := 13) (C := RX4) (T := TX4) (index := 15) rfl (by decide) hin4 (List.mem_of_getElem? (i := 3) rfl) dX4_feature_52, ?_⟩
  refine List.forall_mem_cons.mpr ⟨zs_reti (ty := .int) rfl (fun x h => (zni x h).1) dX4_feature_55, ?_⟩
  refine List.forall_mem_cons.mpr ⟨zs_aload_n dX4_feature_56 rfl, ?_⟩
  refine List.forall_mem_cons.mpr ⟨zs_get (ci := 4) (j := 4) (N := 13) (C := RX4) (T := TX4) (index := 18) rfl (by decide) hin4 (List.mem_of_getElem? (i := 4) rfl) dX4_feature_57, ?_⟩
  refine List.forall_mem_cons.mpr ⟨zs_reti (ty := .int) rfl (fun x h => (zni x h).1) dX4_feature_60, ?_⟩
  refine List.forall_mem_cons.mpr ⟨zs_aload_n dX4_feature_61 rfl, ?_⟩
  refine List.forall_mem_cons.mpr ⟨zs_get (ci := 4) (j := 7) (N := 13) (C := RX4) (T := TX4) (index := 46) rfl (by decide) hin4 (List.mem_of_getElem? (i := 5) rfl) dX4_feature_62, ?_⟩
  refine List.forall_mem_cons.mpr ⟨zs_ifeq dX4_feature_65 (by decide), ?_⟩
  refine List.forall_mem_cons.mpr ⟨zs_iconst dX4_feature_68 (by decide), ?_⟩
  refine List.forall_mem_cons.mpr ⟨zs_goto dX4_feature_69 (by decide), ?_⟩
  refine List.forall_mem_cons.mpr ⟨zs_iconst dX4_feature_72 (by decide), ?_⟩
  refine List.forall_mem_cons.mpr ⟨zs_reti (ty := .int) rfl (fun x h => (zni x h).1) dX4_feature_73, ?_⟩
  exact fun _ h => absurd h List.not_mem_nil
theorem zM_X4_feature : zMeets zEC yX4_feature wsX4_feature zR_X4_feature m_X4_feature := zmeth_M zECok (zlook_all (zcs_X4_feature rfl)) (by decide +kernel) rfl
theorem zr_X4_feature_0 (a0 : Option zAV) (st : List zAV) (s : zAS) (k : Nat × Nat) (x : Int32) : zev zk_X4_feature (0, [a0, some (Sum.inl (Value.int x))], st, s, k) = zev zk_X4_feature (1, [a0, some (Sum.inl (Value.int x))], Sum.inl (Value.int x) :: st, s, k) := zev_go rfl rfl
theorem zr_X4_feature_1 (ls : zLs) (st : List zAV) (s : zAS) (k : Nat × Nat) (x : Int32) : zev zk_X4_feature (1, ls, Sum.inl (Value.int x) :: st, s, k) = if x.toInt < 0 ∨ 4 < x.toInt then zev zk_X4_feature (61, ls, st, s, k) else match ([36, 41, 46, 51, 56] : List Nat)[(x.toInt - 0).toNat]? with
    | some t => zev zk_X4_feature (t, ls, st, s, k)
    | none => none := zf_tsw rfl
theorem zr_X4_feature_36 (a1 : Option zAV) (st : List zAV) (s : zAS) (k : Nat × Nat) (o : Nat × Nat) : zev zk_X4_feature (36, [some (Sum.inr o), a1], st, s, k) = zev zk_X4_feature (37, [some (Sum.inr o), a1], Sum.inr o :: st, s, k) := zev_go rfl rfl
theorem zr_X4_feature_37 (ls : zLs) (st : List zAV) (s : zAS) (k : Nat × Nat) (r : zAV) (h : zcok zEC 4 0 0 (zR_X4_feature).cells (zR_X4_feature).slots r st k) : zev zk_X4_feature (37, ls, r :: st, s, k) = zret zk_X4_feature 40 ls st (k.1 + 0, k.2 + 0) (m_X4_sort [r] s) := zf_callV (as := []) 0 rfl rfl h
theorem zr_X4_feature_40 (ls : zLs) (s : zAS) (k : Nat × Nat) (x : Int32) : zev zk_X4_feature (40, ls, [Sum.inl (Value.int x)], s, k) = some (.inl (some (Sum.inl (Value.int x))), s) := zf_reti rfl
theorem zr_X4_feature_41 (a1 : Option zAV) (st : List zAV) (s : zAS) (k : Nat × Nat) (o : Nat × Nat) : zev zk_X4_feature (41, [some (Sum.inr o), a1], st, s, k) = zev zk_X4_feature (42, [some (Sum.inr o), a1], Sum.inr o :: st, s, k) := zev_go rfl rfl
theorem zr_X4_feature_42 (ls : zLs) (st : List zAV) (s : zAS) (k : Nat × Nat) (o i : Nat) : zev zk_X4_feature (42, ls, Sum.inr (o, i) :: st, s, k) = zpush zk_X4_feature 45 ls st s k (zgv zEC 4 1 o i s.1) := zf_get rfl
theorem zr_X4_feature_45 (ls : zLs) (s : zAS) (k : Nat × Nat) (x : Int32) : zev zk_X4_feature (45, ls, [Sum.inl (Value.int x)], s, k) = some (.inl (some (Sum.inl (Value.int x))), s) := zf_reti rfl
theorem zr_X4_feature_46 (a1 : Option zAV) (st : List zAV) (s : zAS) (k : Nat × Nat) (o : Nat × Nat) : zev zk_X4_feature (46, [some (Sum.inr o), a1], st, s, k) = zev zk_X4_feature (47, [some (Sum.inr o), a1], Sum.inr o :: st, s, k) := zev_go rfl rfl
theorem zr_X4_feature_47 (ls : zLs) (st : List zAV) (s : zAS) (k : Nat × Nat) (o i : Nat) : zev zk_X4_feature (47, ls, Sum.inr (o, i) :: st, s, k) = zpush zk_X4_feature 50 ls st s k (zgv zEC 4 2 o i s.1) := zf_get rfl
theorem zr_X4_feature_50 (ls : zLs) (s : zAS) (k : Nat × Nat) (x : Int32) : zev zk_X4_feature (50, ls, [Sum.inl (Value.int x)], s, k) = some (.inl (some (Sum.inl (Value.int x))), s) := zf_reti rfl
theorem zr_X4_feature_51 (a1 : Option zAV) (st : List zAV) (s : zAS) (k : Nat × Nat) (o : Nat × Nat) : zev zk_X4_feature (51, [some (Sum.inr o), a1], st, s, k) = zev zk_X4_feature (52, [some (Sum.inr o), a1], Sum.inr o :: st, s, k) := zev_go rfl rfl
theorem zr_X4_feature_52 (ls : zLs) (st : List zAV) (s : zAS) (k : Nat × Nat) (o i : Nat) : zev zk_X4_feature (52, ls, Sum.inr (o, i) :: st, s, k) = zpush zk_X4_feature 55 ls st s k (zgv zEC 4 3 o i s.1) := zf_get rfl
theorem zr_X4_feature_55 (ls : zLs) (s : zAS) (k : Nat × Nat) (x : Int32) : zev zk_X4_feature (55, ls, [Sum.inl (Value.int x)], s, k) = some (.inl (some (Sum.inl (Value.int x))), s) := zf_reti rfl
theorem zr_X4_feature_56 (a1 : Option zAV) (st : List zAV) (s : zAS) (k : Nat × Nat) (o : Nat × Nat) : zev zk_X4_feature (56, [some (Sum.inr o), a1], st, s, k) = zev zk_X4_feature (57, [some (Sum.inr o), a1], Sum.inr o :: st, s, k) := zev_go rfl rfl
theorem zr_X4_feature_57 (ls : zLs) (st : List zAV) (s : zAS) (k : Nat × Nat) (o i : Nat) : zev zk_X4_feature (57, ls, Sum.inr (o, i) :: st, s, k) = zpush zk_X4_feature 60 ls st s k (zgv zEC 4 4 o i s.1) := zf_get rfl
theorem zr_X4_feature_60 (ls : zLs) (s : zAS) (k : Nat × Nat) (x : Int32) : zev zk_X4_feature (60, ls, [Sum.inl (Value.int x)], s, k) = some (.inl (some (Sum.inl (Value.int x))), s) := zf_reti rfl
theorem zr_X4_feature_61 (a1 : Option zAV) (st : List zAV) (s : zAS) (k : Nat × Nat) (o : Nat × Nat) : zev zk_X4_feature (61, [some (Sum.inr o), a1], st, s, k) = zev zk_X4_feature (62, [some (Sum.inr o), a1], Sum.inr o :: st, s, k) := zev_go rfl rfl
theorem zr_X4_feature_62 (ls : zLs) (st : List zAV) (s : zAS) (k : Nat × Nat) (o i : Nat) : zev zk_X4_feature (62, ls, Sum.inr (o, i) :: st, s, k) = zpush zk_X4_feature 65 ls st s k (zgv zEC 4 7 o i s.1) := zf_get rfl
theorem zr_X4_feature_65 (ls : zLs) (st : List zAV) (s : zAS) (k : Nat × Nat) (x : Int32) : zev zk_X4_feature (65, ls, Sum.inl (Value.int x) :: st, s, k) = if decide (x = 0) = true then zev zk_X4_feature (72, ls, st, s, k) else zev zk_X4_feature (68, ls, st, s, k) := zf_if (f := fun x => decide (x = 0)) rfl
theorem zr_X4_feature_68 (ls : zLs) (st : List zAV) (s : zAS) (k : Nat × Nat) : zev zk_X4_feature (68, ls, st, s, k) = zev zk_X4_feature (69, ls, Sum.inl (Value.int (1)) :: st, s, k) := zev_go rfl rfl
theorem zr_X4_feature_69 (ls : zLs) (st : List zAV) (s : zAS) (k : Nat × Nat) : zev zk_X4_feature (69, ls, st, s, k) = zev zk_X4_feature (73, ls, st, s, k) := zev_go rfl rfl
theorem zr_X4_feature_72 (ls : zLs) (st : List zAV) (s : zAS) (k : Nat × Nat) : zev zk_X4_feature (72, ls, st, s, k) = zev zk_X4_feature (73, ls, Sum.inl (Value.int (0)) :: st, s, k) := zev_go rfl rfl
theorem zr_X4_feature_73 (ls : zLs) (s : zAS) (k : Nat × Nat) (x : Int32) : zev zk_X4_feature (73, ls, [Sum.inl (Value.int x)], s, k) = some (.inl (some (Sum.inl (Value.int x))), s) := zf_reti rfl
/-! X4_addTo: PrimePlane$Figure.addTo(J)J -/
abbrev zR_X4_addTo : Room := ({ frames := 2, cells := 0, slots := 0, locals := 41 } : Room)
noncomputable def zl_X4_addTo : List (Nat × zOp) := [(0, z_ldl 1 1), (1, z_st2 3 2), (2, z_ic (0) 3), (3, z_sti 5 5), (5, z_ldi 5 7), (7, z_ic (5) 8), (8, z_cmp (fun x y => decide (y < x)) 31 11), (11, z_ldl 3 12), (12, z_lc (31) 15), (15, z_lbin (fun x y => x * y) 16), (16, z_lda 0 17), (17, z_ldi 5 19), (19, z_callV zEC 4 m_X4_feature 1 0 0 (zR_X4_addTo).cells (zR_X4_addTo).slots 22), (22, z_i2l 23), (23, z_lbin (fun x y => x + y) 24), (24, z_st2 3 25), (25, z_iinc 5 (1) 28), (28, z_goto 5), (31, z_lda 0 32), (32, z_get zEC 4 7 35), (35, z_if (fun x => decide (x = 0)) 40 38), (38, z_ldl 3 39), (39, z_retl), (40, z_ldl 3 41), (41, z_lc (31) 44), (44, z_lbin (fun x y => x * y) 45), (45, z_lda 0 46), (46, z_get zEC 4 8 49), (49, z_i2l 50), (50, z_lbin (fun x y => x + y) 51), (51, z_st2 3 52), (52, z_ldl 3 53), (53, z_lc (31) 56), (56, z_lbin (fun x y => x * y) 57), (57, z_lda 0 58), (58, z_get zEC 4 9 61), (61, z_i2l 62), (62, z_lbin (fun x y => x + y) 63), (63, z_st2 3 64), (64, z_ldl 3 65), (65, z_lc (31) 68), (68, z_lbin (fun x y => x * y) 69), (69, z_lda 0 70), (70, z_get zEC 4 10 73), (73, z_i2l 74), (74, z_lbin (fun x y => x + y) 75), (75, z_retl)]
noncomputable def zk_X4_addTo (pc : Nat) : Option zOp := zlook zl_X4_addTo pc
noncomputable def m_X4_addTo : List zAV → zAS → Option zOut := zmeth zk_X4_addTo 6
set_option maxRecDepth 100000 in
set_option maxHeartbeats 4000000 in
theorem zcs_X4_addTo {R : Room} (hR : R = zR_X4_addTo) : ∀ q ∈ zl_X4_addTo, zS zEC yX4_addTo.cls cX4_addTo 6 wsX4_addTo (some .long) R q.1 q.2 := by
  subst hR
  have hin4 : ∀ w ∈ wsX40, w ∈ wsX4_addTo := fun w h => List.mem_cons_of_mem _ (List.mem_append_right _ h)
  refine List.forall_mem_cons.mpr ⟨zs_lload_n dX4_addTo_0 rfl, ?_⟩
  refine List.forall_mem_cons.mpr ⟨zs_lstore_n dX4_addTo_1 rfl, ?_⟩
  refine List.forall_mem_cons.mpr ⟨zs_iconst dX4_addTo_2 (by decide), ?_⟩
  refine List.forall_mem_cons.mpr ⟨zs_istore dX4_addTo_3, ?_⟩
  refine List.forall_mem_cons.mpr ⟨zs_iload dX4_addTo_5, ?_⟩
  refine List.forall_mem_cons.mpr ⟨zs_iconst dX4_addTo_7 (by decide), ?_⟩
  refine List.forall_mem_cons.mpr ⟨zs_icgt dX4_addTo_8 (by decide), ?_⟩
  refine List.forall_mem_cons.mpr ⟨zs_lload_n dX4_addTo_11 rfl, ?_⟩
  refine List.forall_mem_cons.mpr ⟨zs_ldc2 dX4_addTo_12 (List.mem_of_getElem? (i := 1) rfl), ?_⟩
  refine List.forall_mem_cons.mpr ⟨zs_lmul dX4_addTo_15, ?_⟩
  refine List.forall_mem_cons.mpr ⟨zs_aload_n dX4_addTo_16 rfl, ?_⟩
  refine List.forall_mem_cons.mpr ⟨zs_iload dX4_addTo_17, ?_⟩
  refine List.forall_mem_cons.mpr ⟨zs_callV (ci := 4) (rm := zR_X4_feature) (n := 1) rfl zM_X4_feature gX4_addTo_X4_feature rfl (by decide +kernel) ⟨by decide, by decide⟩ dX4_addTo_19, ?_⟩
  refine List.forall_mem_cons.mpr ⟨zs_i2l dX4_addTo_22, ?_⟩
  refine List.forall_mem_cons.mpr ⟨zs_ladd dX4_addTo_23, ?_⟩
  refine List.forall_mem_cons.mpr ⟨zs_lstore_n dX4_addTo_24 rfl, ?_⟩
  refine List.forall_mem_cons.mpr ⟨zs_iinc dX4_addTo_25 (by decide), ?_⟩
  refine List.forall_mem_cons.mpr ⟨zs_goto dX4_addTo_28 (by decide), ?_⟩
  refine List.forall_mem_cons.mpr ⟨zs_aload_n dX4_addTo_31 rfl, ?_⟩
  refine List.forall_mem_cons.mpr ⟨zs_get (ci := 4) (j := 7) (N := 13) (C := RX4) (T := TX4) (index := 46) rfl (by decide) hin4 (List.mem_of_getElem? (i := 2) rfl) dX4_addTo_32, ?_⟩
  refine List.forall_mem_cons.mpr ⟨zs_ifeq dX4_addTo_35 (by decide), ?_⟩
  refine List.forall_mem_cons.mpr ⟨zs_lload_n dX4_addTo_38 rfl, ?_⟩
  refine List.forall_mem_cons.mpr ⟨zs_retl rfl dX4_addTo_39, ?_⟩
  refine List.forall_mem_cons.mpr ⟨zs_lload_n dX4_addTo_40 rfl, ?_⟩
  refine List.forall_mem_cons.mpr ⟨zs_ldc2 dX4_addTo_41 (List.mem_of_getElem? (i := 1) rfl), ?_⟩
  refine List.forall_mem_cons.mpr ⟨zs_lmul dX4_addTo_44, ?_⟩
  refine List.forall_mem_cons.mpr ⟨zs_aload_n dX4_addTo_45 rfl, ?_⟩
  refine List.forall_mem_cons.mpr ⟨zs_get (ci := 4) (j := 8) (N := 13) (C := RX4) (T := TX4) (index := 33) rfl (by decide) hin4 (List.mem_of_getElem? (i := 3) rfl) dX4_addTo_46, ?_⟩
  refine List.forall_mem_cons.mpr ⟨zs_i2l dX4_addTo_49, ?_⟩
  refine List.forall_mem_cons.mpr ⟨zs_ladd dX4_addTo_50, ?_⟩
  refine List.forall_mem_cons.mpr ⟨zs_lstore_n dX4_addTo_51 rfl, ?_⟩
  refine List.forall_mem_cons.mpr ⟨zs_lload_n dX4_addTo_52 rfl, ?_⟩
  refine List.forall_mem_cons.mpr ⟨zs_ldc2 dX4_addTo_53 (List.mem_of_getElem? (i := 1) rfl), ?_⟩
  refine List.forall_mem_cons.mpr ⟨zs_lmul dX4_addTo_56, ?_⟩
  refine List.forall_mem_cons.mpr ⟨zs_aload_n dX4_addTo_57 rfl, ?_⟩
  refine List.forall_mem_cons.mpr ⟨zs_get (ci := 4) (j := 9) (N := 13) (C := RX4) (T := TX4) (index := 36) rfl (by decide) hin4 (List.mem_of_getElem? (i := 4) rfl) dX4_addTo_58, ?_⟩
  refine List.forall_mem_cons.mpr ⟨zs_i2l dX4_addTo_61, ?_⟩
  refine List.forall_mem_cons.mpr ⟨zs_ladd dX4_addTo_62, ?_⟩
  refine List.forall_mem_cons.mpr ⟨zs_lstore_n dX4_addTo_63 rfl, ?_⟩
  refine List.forall_mem_cons.mpr ⟨zs_lload_n dX4_addTo_64 rfl, ?_⟩
  refine List.forall_mem_cons.mpr ⟨zs_ldc2 dX4_addTo_65 (List.mem_of_getElem? (i := 1) rfl), ?_⟩
  refine List.forall_mem_cons.mpr ⟨zs_lmul dX4_addTo_68, ?_⟩
  refine List.forall_mem_cons.mpr ⟨zs_aload_n dX4_addTo_69 rfl, ?_⟩
  refine List.forall_mem_cons.mpr ⟨zs_get (ci := 4) (j := 10) (N := 13) (C := RX4) (T := TX4) (index := 39) rfl (by decide) hin4 (List.mem_of_getElem? (i := 5) rfl) dX4_addTo_70, ?_⟩
  refine List.forall_mem_cons.mpr ⟨zs_i2l dX4_addTo_73, ?_⟩
  refine List.forall_mem_cons.mpr ⟨zs_ladd dX4_addTo_74, ?_⟩
  refine List.forall_mem_cons.mpr ⟨zs_retl rfl dX4_addTo_75, ?_⟩
  exact fun _ h => absurd h List.not_mem_nil
theorem zM_X4_addTo : zMeets zEC yX4_addTo wsX4_addTo zR_X4_addTo m_X4_addTo := zmeth_M zECok (zlook_all (zcs_X4_addTo rfl)) (by decide +kernel) rfl
theorem zr_X4_addTo_0 (a0 a2 a3 a4 a5 : Option zAV) (st : List zAV) (s : zAS) (k : Nat × Nat) (x : Int64) : zev zk_X4_addTo (0, [a0, some (Sum.inl (Value.long x)), a2, a3, a4, a5], st, s, k) = zev zk_X4_addTo (1, [a0, some (Sum.inl (Value.long x)), a2, a3, a4, a5], Sum.inl (Value.long x) :: st, s, k) := zev_go rfl rfl
theorem zr_X4_addTo_1 (a0 a1 a2 a3 a4 a5 : Option zAV) (st : List zAV) (s : zAS) (k : Nat × Nat) (x : Int64) : zev zk_X4_addTo (1, [a0, a1, a2, a3, a4, a5], Sum.inl (Value.long x) :: st, s, k) = zev zk_X4_addTo (2, [a0, a1, zk1 a2, some (Sum.inl (Value.long x)), none, a5], st, s, k) := zev_go rfl rfl
theorem zr_X4_addTo_2 (ls : zLs) (st : List zAV) (s : zAS) (k : Nat × Nat) : zev zk_X4_addTo (2, ls, st, s, k) = zev zk_X4_addTo (3, ls, Sum.inl (Value.int (0)) :: st, s, k) := zev_go rfl rfl
theorem zr_X4_addTo_3 (a0 a1 a2 a3 a4 a5 : Option zAV) (st : List zAV) (s : zAS) (k : Nat × Nat) (x : Int32) : zev zk_X4_addTo (3, [a0, a1, a2, a3, a4, a5], Sum.inl (Value.int x) :: st, s, k) = zev zk_X4_addTo (5, [a0, a1, a2, a3, zk1 a4, some (Sum.inl (Value.int x))], st, s, k) := zev_go rfl rfl
theorem zr_X4_addTo_5 (a0 a1 a2 a3 a4 : Option zAV) (st : List zAV) (s : zAS) (k : Nat × Nat) (x : Int32) : zev zk_X4_addTo (5, [a0, a1, a2, a3, a4, some (Sum.inl (Value.int x))], st, s, k) = zev zk_X4_addTo (7, [a0, a1, a2, a3, a4, some (Sum.inl (Value.int x))], Sum.inl (Value.int x) :: st, s, k) := zev_go rfl rfl
theorem zr_X4_addTo_7 (ls : zLs) (st : List zAV) (s : zAS) (k : Nat × Nat) : zev zk_X4_addTo (7, ls, st, s, k) = zev zk_X4_addTo (8, ls, Sum.inl (Value.int (5)) :: st, s, k) := zev_go rfl rfl
theorem zr_X4_addTo_8 (ls : zLs) (st : List zAV) (s : zAS) (k : Nat × Nat) (x y : Int32) : zev zk_X4_addTo (8, ls, Sum.inl (Value.int y) :: Sum.inl (Value.int x) :: st, s, k) = if decide (y < x) = true then zev zk_X4_addTo (31, ls, st, s, k) else zev zk_X4_addTo (11, ls, st, s, k) := zf_cmp (f := fun x y => decide (y < x)) rfl
theorem zr_X4_addTo_11 (a0 a1 a2 a4 a5 : Option zAV) (st : List zAV) (s : zAS) (k : Nat × Nat) (x : Int64) : zev zk_X4_addTo (11, [a0, a1, a2, some (Sum.inl (Value.long x)), a4, a5], st, s, k) = zev zk_X4_addTo (12, [a0, a1, a2, some (Sum.inl (Value.long x)), a4, a5], Sum.inl (Value.long x) :: st, s, k) := zev_go rfl rfl
theorem zr_X4_addTo_12 (ls : zLs) (st : List zAV) (s : zAS) (k : Nat × Nat) : zev zk_X4_addTo (12, ls, st, s, k) = zev zk_X4_addTo (15, ls, Sum.inl (Value.long (31)) :: st, s, k) := zev_go rfl rfl
theorem zr_X4_addTo_15 (ls : zLs) (st : List zAV) (s : zAS) (k : Nat × Nat) (x y : Int64) : zev zk_X4_addTo (15, ls, Sum.inl (Value.long y) :: Sum.inl (Value.long x) :: st, s, k) = zev zk_X4_addTo (16, ls, Sum.inl (Value.long (x * y)) :: st, s, k) := zev_go rfl rfl
theorem zr_X4_addTo_16 (a1 a2 a3 a4 a5 : Option zAV) (st : List zAV) (s : zAS) (k : Nat × Nat) (o : Nat × Nat) : zev zk_X4_addTo (16, [some (Sum.inr o), a1, a2, a3, a4, a5], st, s, k) = zev zk_X4_addTo (17, [some (Sum.inr o), a1, a2, a3, a4, a5], Sum.inr o :: st, s, k) := zev_go rfl rfl
theorem zr_X4_addTo_17 (a0 a1 a2 a3 a4 : Option zAV) (st : List zAV) (s : zAS) (k : Nat × Nat) (x : Int32) : zev zk_X4_addTo (17, [a0, a1, a2, a3, a4, some (Sum.inl (Value.int x))], st, s, k) = zev zk_X4_addTo (19, [a0, a1, a2, a3, a4, some (Sum.inl (Value.int x))], Sum.inl (Value.int x) :: st, s, k) := zev_go rfl rfl
theorem zr_X4_addTo_19 (ls : zLs) (st : List zAV) (s : zAS) (k : Nat × Nat) (r v0 : zAV) (h : zcok zEC 4 0 0 (zR_X4_addTo).cells (zR_X4_addTo).slots r st k) : zev zk_X4_addTo (19, ls, v0 :: r :: st, s, k) = zret zk_X4_addTo 22 ls st (k.1 + 0, k.2 + 0) (m_X4_feature [r, v0] s) := zf_callV (as := [v0]) 1 rfl rfl h
theorem zr_X4_addTo_22 (ls : zLs) (st : List zAV) (s : zAS) (k : Nat × Nat) (x : Int32) : zev zk_X4_addTo (22, ls, Sum.inl (Value.int x) :: st, s, k) = zev zk_X4_addTo (23, ls, Sum.inl (Value.long x.toInt64) :: st, s, k) := zev_go rfl rfl
theorem zr_X4_addTo_23 (ls : zLs) (st : List zAV) (s : zAS) (k : Nat × Nat) (x y : Int64) : zev zk_X4_addTo (23, ls, Sum.inl (Value.long y) :: Sum.inl (Value.long x) :: st, s, k) = zev zk_X4_addTo (24, ls, Sum.inl (Value.long (x + y)) :: st, s, k) := zev_go rfl rfl
theorem zr_X4_addTo_24 (a0 a1 a2 a3 a4 a5 : Option zAV) (st : List zAV) (s : zAS) (k : Nat × Nat) (x : Int64) : zev zk_X4_addTo (24, [a0, a1, a2, a3, a4, a5], Sum.inl (Value.long x) :: st, s, k) = zev zk_X4_addTo (25, [a0, a1, zk1 a2, some (Sum.inl (Value.long x)), none, a5], st, s, k) := zev_go rfl rfl
theorem zr_X4_addTo_25 (a0 a1 a2 a3 a4 : Option zAV) (st : List zAV) (s : zAS) (k : Nat × Nat) (x : Int32) : zev zk_X4_addTo (25, [a0, a1, a2, a3, a4, some (Sum.inl (Value.int x))], st, s, k) = zev zk_X4_addTo (28, [a0, a1, a2, a3, zk1 a4, some (Sum.inl (Value.int (x + (1))))], st, s, k) := zev_go rfl rfl
theorem zr_X4_addTo_28 (ls : zLs) (st : List zAV) (s : zAS) (k : Nat × Nat) : zev zk_X4_addTo (28, ls, st, s, k) = zev zk_X4_addTo (5, ls, st, s, k) := zev_go rfl rfl
theorem zr_X4_addTo_31 (a1 a2 a3 a4 a5 : Option zAV) (st : List zAV) (s : zAS) (k : Nat × Nat) (o : Nat × Nat) : zev zk_X4_addTo (31, [some (Sum.inr o), a1, a2, a3, a4, a5], st, s, k) = zev zk_X4_addTo (32, [some (Sum.inr o), a1, a2, a3, a4, a5], Sum.inr o :: st, s, k) := zev_go rfl rfl
theorem zr_X4_addTo_32 (ls : zLs) (st : List zAV) (s : zAS) (k : Nat × Nat) (o i : Nat) : zev zk_X4_addTo (32, ls, Sum.inr (o, i) :: st, s, k) = zpush zk_X4_addTo 35 ls st s k (zgv zEC 4 7 o i s.1) := zf_get rfl
theorem zr_X4_addTo_35 (ls : zLs) (st : List zAV) (s : zAS) (k : Nat × Nat) (x : Int32) : zev zk_X4_addTo (35, ls, Sum.inl (Value.int x) :: st, s, k) = if decide (x = 0) = true then zev zk_X4_addTo (40, ls, st, s, k) else zev zk_X4_addTo (38, ls, st, s, k) := zf_if (f := fun x => decide (x = 0)) rfl
theorem zr_X4_addTo_38 (a0 a1 a2 a4 a5 : Option zAV) (st : List zAV) (s : zAS) (k : Nat × Nat) (x : Int64) : zev zk_X4_addTo (38, [a0, a1, a2, some (Sum.inl (Value.long x)), a4, a5], st, s, k) = zev zk_X4_addTo (39, [a0, a1, a2, some (Sum.inl (Value.long x)), a4, a5], Sum.inl (Value.long x) :: st, s, k) := zev_go rfl rfl
theorem zr_X4_addTo_39 (ls : zLs) (s : zAS) (k : Nat × Nat) (x : Int64) : zev zk_X4_addTo (39, ls, [Sum.inl (Value.long x)], s, k) = some (.inl (some (Sum.inl (Value.long x))), s) := zev_end rfl rfl
theorem zr_X4_addTo_40 (a0 a1 a2 a4 a5 : Option zAV) (st : List zAV) (s : zAS) (k : Nat × Nat) (x : Int64) : zev zk_X4_addTo (40, [a0, a1, a2, some (Sum.inl (Value.long x)), a4, a5], st, s, k) = zev zk_X4_addTo (41, [a0, a1, a2, some (Sum.inl (Value.long x)), a4, a5], Sum.inl (Value.long x) :: st, s, k) := zev_go rfl rfl
theorem zr_X4_addTo_41 (ls : zLs) (st : List zAV) (s : zAS) (k : Nat × Nat) : zev zk_X4_addTo (41, ls, st, s, k) = zev zk_X4_addTo (44, ls, Sum.inl (Value.long (31)) :: st, s, k) := zev_go rfl rfl
theorem zr_X4_addTo_44 (ls : zLs) (st : List zAV) (s : zAS) (k : Nat × Nat) (x y : Int64) : zev zk_X4_addTo (44, ls, Sum.inl (Value.long y) :: Sum.inl (Value.long x) :: st, s, k) = zev zk_X4_addTo (45, ls, Sum.inl (Value.long (x * y)) :: st, s, k) := zev_go rfl rfl
theorem zr_X4_addTo_45 (a1 a2 a3 a4 a5 : Option zAV) (st : List zAV) (s : zAS) (k : Nat × Nat) (o : Nat × Nat) : zev zk_X4_addTo (45, [some (Sum.inr o), a1, a2, a3, a4, a5], st, s, k) = zev zk_X4_addTo (46, [some (Sum.inr o), a1, a2, a3, a4, a5], Sum.inr o :: st, s, k) := zev_go rfl rfl
theorem zr_X4_addTo_46 (ls : zLs) (st : List zAV) (s : zAS) (k : Nat × Nat) (o i : Nat) : zev zk_X4_addTo (46, ls, Sum.inr (o, i) :: st, s, k) = zpush zk_X4_addTo 49 ls st s k (zgv zEC 4 8 o i s.1) := zf_get rfl
theorem zr_X4_addTo_49 (ls : zLs) (st : List zAV) (s : zAS) (k : Nat × Nat) (x : Int32) : zev zk_X4_addTo (49, ls, Sum.inl (Value.int x) :: st, s, k) = zev zk_X4_addTo (50, ls, Sum.inl (Value.long x.toInt64) :: st, s, k) := zev_go rfl rfl
theorem zr_X4_addTo_50 (ls : zLs) (st : List zAV) (s : zAS) (k : Nat × Nat) (x y : Int64) : zev zk_X4_addTo (50, ls, Sum.inl (Value.long y) :: Sum.inl (Value.long x) :: st, s, k) = zev zk_X4_addTo (51, ls, Sum.inl (Value.long (x + y)) :: st, s, k) := zev_go rfl rfl
theorem zr_X4_addTo_51 (a0 a1 a2 a3 a4 a5 : Option zAV) (st : List zAV) (s : zAS) (k : Nat × Nat) (x : Int64) : zev zk_X4_addTo (51, [a0, a1, a2, a3, a4, a5], Sum.inl (Value.long x) :: st, s, k) = zev zk_X4_addTo (52, [a0, a1, zk1 a2, some (Sum.inl (Value.long x)), none, a5], st, s, k) := zev_go rfl rfl
theorem zr_X4_addTo_52 (a0 a1 a2 a4 a5 : Option zAV) (st : List zAV) (s : zAS) (k : Nat × Nat) (x : Int64) : zev zk_X4_addTo (52, [a0, a1, a2, some (Sum.inl (Value.long x)), a4, a5], st, s, k) = zev zk_X4_addTo (53, [a0, a1, a2, some (Sum.inl (Value.long x)), a4, a5], Sum.inl (Value.long x) :: st, s, k) := zev_go rfl rfl
theorem zr_X4_addTo_53 (ls : zLs) (st : List zAV) (s : zAS) (k : Nat × Nat) : zev zk_X4_addTo (53, ls, st, s, k) = zev zk_X4_addTo (56, ls, Sum.inl (Value.long (31)) :: st, s, k) := zev_go rfl rfl
theorem zr_X4_addTo_56 (ls : zLs) (st : List zAV) (s : zAS) (k : Nat × Nat) (x y : Int64) : zev zk_X4_addTo (56, ls, Sum.inl (Value.long y) :: Sum.inl (Value.long x) :: st, s, k) = zev zk_X4_addTo (57, ls, Sum.inl (Value.long (x * y)) :: st, s, k) := zev_go rfl rfl
theorem zr_X4_addTo_57 (a1 a2 a3 a4 a5 : Option zAV) (st : List zAV) (s : zAS) (k : Nat × Nat) (o : Nat × Nat) : zev zk_X4_addTo (57, [some (Sum.inr o), a1, a2, a3, a4, a5], st, s, k) = zev zk_X4_addTo (58, [some (Sum.inr o), a1, a2, a3, a4, a5], Sum.inr o :: st, s, k) := zev_go rfl rfl
theorem zr_X4_addTo_58 (ls : zLs) (st : List zAV) (s : zAS) (k : Nat × Nat) (o i : Nat) : zev zk_X4_addTo (58, ls, Sum.inr (o, i) :: st, s, k) = zpush zk_X4_addTo 61 ls st s k (zgv zEC 4 9 o i s.1) := zf_get rfl
theorem zr_X4_addTo_61 (ls : zLs) (st : List zAV) (s : zAS) (k : Nat × Nat) (x : Int32) : zev zk_X4_addTo (61, ls, Sum.inl (Value.int x) :: st, s, k) = zev zk_X4_addTo (62, ls, Sum.inl (Value.long x.toInt64) :: st, s, k) := zev_go rfl rfl
theorem zr_X4_addTo_62 (ls : zLs) (st : List zAV) (s : zAS) (k : Nat × Nat) (x y : Int64) : zev zk_X4_addTo (62, ls, Sum.inl (Value.long y) :: Sum.inl (Value.long x) :: st, s, k) = zev zk_X4_addTo (63, ls, Sum.inl (Value.long (x + y)) :: st, s, k) := zev_go rfl rfl
theorem zr_X4_addTo_63 (a0 a1 a2 a3 a4 a5 : Option zAV) (st : List zAV) (s : zAS) (k : Nat × Nat) (x : Int64) : zev zk_X4_addTo (63, [a0, a1, a2, a3, a4, a5], Sum.inl (Value.long x) :: st, s, k) = zev zk_X4_addTo (64, [a0, a1, zk1 a2, some (Sum.inl (Value.long x)), none, a5], st, s, k) := zev_go rfl rfl
theorem zr_X4_addTo_64 (a0 a1 a2 a4 a5 : Option zAV) (st : List zAV) (s : zAS) (k : Nat × Nat) (x : Int64) : zev zk_X4_addTo (64, [a0, a1, a2, some (Sum.inl (Value.long x)), a4, a5], st, s, k) = zev zk_X4_addTo (65, [a0, a1, a2, some (Sum.inl (Value.long x)), a4, a5], Sum.inl (Value.long x) :: st, s, k) := zev_go rfl rfl
theorem zr_X4_addTo_65 (ls : zLs) (st : List zAV) (s : zAS) (k : Nat × Nat) : zev zk_X4_addTo (65, ls, st, s, k) = zev zk_X4_addTo (68, ls, Sum.inl (Value.long (31)) :: st, s, k) := zev_go rfl rfl
theorem zr_X4_addTo_68 (ls : zLs) (st : List zAV) (s : zAS) (k : Nat × Nat) (x y : Int64) : zev zk_X4_addTo (68, ls, Sum.inl (Value.long y) :: Sum.inl (Value.long x) :: st, s, k) = zev zk_X4_addTo (69, ls, Sum.inl (Value.long (x * y)) :: st, s, k) := zev_go rfl rfl
theorem zr_X4_addTo_69 (a1 a2 a3 a4 a5 : Option zAV) (st : List zAV) (s : zAS) (k : Nat × Nat) (o : Nat × Nat) : zev zk_X4_addTo (69, [some (Sum.inr o), a1, a2, a3, a4, a5], st, s, k) = zev zk_X4_addTo (70, [some (Sum.inr o), a1, a2, a3, a4, a5], Sum.inr o :: st, s, k) := zev_go rfl rfl
theorem zr_X4_addTo_70 (ls : zLs) (st : List zAV) (s : zAS) (k : Nat × Nat) (o i : Nat) : zev zk_X4_addTo (70, ls, Sum.inr (o, i) :: st, s, k) = zpush zk_X4_addTo 73 ls st s k (zgv zEC 4 10 o i s.1) := zf_get rfl
theorem zr_X4_addTo_73 (ls : zLs) (st : List zAV) (s : zAS) (k : Nat × Nat) (x : Int32) : zev zk_X4_addTo (73, ls, Sum.inl (Value.int x) :: st, s, k) = zev zk_X4_addTo (74, ls, Sum.inl (Value.long x.toInt64) :: st, s, k) := zev_go rfl rfl
theorem zr_X4_addTo_74 (ls : zLs) (st : List zAV) (s : zAS) (k : Nat × Nat) (x y : Int64) : zev zk_X4_addTo (74, ls, Sum.inl (Value.long y) :: Sum.inl (Value.long x) :: st, s, k) = zev zk_X4_addTo (75, ls, Sum.inl (Value.long (x + y)) :: st, s, k) := zev_go rfl rfl
theorem zr_X4_addTo_75 (ls : zLs) (s : zAS) (k : Nat × Nat) (x : Int64) : zev zk_X4_addTo (75, ls, [Sum.inl (Value.long x)], s, k) = some (.inl (some (Sum.inl (Value.long x))), s) := zev_end rfl rfl
