/-! X9_findAll: PrimePlaneModel.findAll()V -/
abbrev zR_X9_findAll : Room := ({ frames := 7, cells := 0, slots := 0, locals := 163 } : Room)
noncomputable def zl_X9_findAll : List (Nat × zOp) := [(0, z_ic (0) 1), (1, z_sti 1 2), (2, z_ldi 1 3), (3, z_lda 0 4), (4, z_get zEM 9 2 7), (7, z_cmp (fun x y => decide (y ≤ x)) 144 10), (10, z_ic (1) 11), (11, z_sti 2 12), (12, z_ic (0) 13), (13, z_sti 3 14), (14, z_ldi 3 15), (15, z_ic (3) 16), (16, z_cmp (fun x y => decide (y ≤ x)) 62 19), (19, z_ldi 2 20), (20, z_if (fun x => decide (x = 0)) 54 23), (23, z_lda 0 24), (24, z_ldi 1 25), (25, z_ic (2) 26), (26, z_ldi 3 27), (27, z_bin (fun x y => x + y) 28), (28, z_callV zEM 9 m_X9_get 2 0 0 (zR_X9_findAll).cells (zR_X9_findAll).slots 31), (31, z_ic (-1) 32), (32, z_cmp (fun x y => decide (x = y)) 50 35), (35, z_lda 0 36), (36, z_lda 0 37), (37, z_ldi 1 38), (38, z_ic (2) 39), (39, z_ldi 3 40), (40, z_bin (fun x y => x + y) 41), (41, z_callV zEM 9 m_X9_get 2 0 0 (zR_X9_findAll).cells (zR_X9_findAll).slots 44), (44, z_callV zEM 9 m_X9_lacks 1 0 0 (zR_X9_findAll).cells (zR_X9_findAll).slots 47), (47, z_if (fun x => decide (¬ x = 0)) 54 50), (50, z_ic (1) 51), (51, z_goto 55), (54, z_ic (0) 55), (55, z_sti 2 56), (56, z_iinc 3 (1) 59), (59, z_goto 14), (62, z_ldi 2 63), (63, z_if (fun x => decide (x = 0)) 78 66), (66, z_lda 0 67), (67, z_ldi 1 68), (68, z_callV zEM 9 m_X9_find 1 0 0 (zR_X9_findAll).cells (zR_X9_findAll).slots 71), (71, z_if (fun x => decide (x = 0)) 78 74), (74, z_ic (1) 75), (75, z_goto 79), (78, z_ic (0) 79), (79, z_sti 2 80), (80, z_lda 0 81), (81, z_get zEM 9 3 84), (84, z_ic (11) 86), (86, z_ldi 1 87), (87, z_bin (fun x y => x * y) 88), (88, z_ic (7) 90), (90, z_bin (fun x y => x + y) 91), (91, z_ldi 2 92), (92, z_if (fun x => decide (x = 0)) 99 95), (95, z_ic (0) 96), (96, z_goto 100), (99, z_ic (1) 100), (100, z_iast zEM 101), (101, z_ic (0) 102), (102, z_sti 3 103), (103, z_ldi 3 104), (104, z_ic (3) 105), (105, z_cmp (fun x y => decide (y ≤ x)) 138 108), (108, z_ldi 2 109), (109, z_if (fun x => decide (x = 0)) 138 112), (112, z_lda 0 113), (113, z_get zEM 9 3 116), (116, z_ic (11) 118), (118, z_ldi 1 119), (119, z_bin (fun x y => x * y) 120), (120, z_ic (8) 122), (122, z_bin (fun x y => x + y) 123), (123, z_ldi 3 124), (124, z_bin (fun x y => x + y) 125), (125, z_lda 0 126), (126, z_get zEM 9 6 129), (129, z_ldi 3 130), (130, z_iald zEM 131), (131, z_iast zEM 132), (132, z_iinc 3 (1) 135), (135, z_goto 103), (138, z_iinc 1 (1) 141), (141, z_goto 2), (144, z_retv)]
noncomputable def zk_X9_findAll (pc : Nat) : Option zOp := zlook zl_X9_findAll pc
noncomputable def m_X9_findAll : List zAV → zAS → Option zOut := zmeth zk_X9_findAll 4
set_option maxRecDepth 100000 in
set_option maxHeartbeats 4000000 in
theorem zcs_X9_findAll {R : Room} (hR : R = zR_X9_findAll) : ∀ q ∈ zl_X9_findAll, zS zEM yX9_findAll.cls cX9_findAll 4 wsX9_findAll none R q.1 q.2 := by
  subst hR
  have hin9 : ∀ w ∈ wsX90, w ∈ wsX9_findAll := fun w h => List.mem_cons_of_mem _ (List.mem_append_right _ h)
  refine List.forall_mem_cons.mpr ⟨zs_iconst dX9_findAll_0 (by decide), ?_⟩
  refine List.forall_mem_cons.mpr ⟨zs_istore_n dX9_findAll_1 rfl, ?_⟩
  refine List.forall_mem_cons.mpr ⟨zs_iload_n dX9_findAll_2 rfl, ?_⟩
  refine List.forall_mem_cons.mpr ⟨zs_aload_n dX9_findAll_3 rfl, ?_⟩
  refine List.forall_mem_cons.mpr ⟨zs_get (ci := 9) (j := 2) (N := 10) (C := RX9) (T := TX9) (index := 32) rfl (by decide) hin9 (List.mem_of_getElem? (i := 1) rfl) dX9_findAll_4, ?_⟩
  refine List.forall_mem_cons.mpr ⟨zs_icge dX9_findAll_7 (by decide), ?_⟩
  refine List.forall_mem_cons.mpr ⟨zs_iconst dX9_findAll_10 (by decide), ?_⟩
  refine List.forall_mem_cons.mpr ⟨zs_istore_n dX9_findAll_11 rfl, ?_⟩
  refine List.forall_mem_cons.mpr ⟨zs_iconst dX9_findAll_12 (by decide), ?_⟩
  refine List.forall_mem_cons.mpr ⟨zs_istore_n dX9_findAll_13 rfl, ?_⟩
  refine List.forall_mem_cons.mpr ⟨zs_iload_n dX9_findAll_14 rfl, ?_⟩
  refine List.forall_mem_cons.mpr ⟨zs_iconst dX9_findAll_15 (by decide), ?_⟩
  refine List.forall_mem_cons.mpr ⟨zs_icge dX9_findAll_16 (by decide), ?_⟩
  refine List.forall_mem_cons.mpr ⟨zs_iload_n dX9_findAll_19 rfl, ?_⟩
  refine List.forall_mem_cons.mpr ⟨zs_ifeq dX9_findAll_20 (by decide), ?_⟩
  refine List.forall_mem_cons.mpr ⟨zs_aload_n dX9_findAll_23 rfl, ?_⟩
  refine List.forall_mem_cons.mpr ⟨zs_iload_n dX9_findAll_24 rfl, ?_⟩
  refine List.forall_mem_cons.mpr ⟨zs_iconst dX9_findAll_25 (by decide), ?_⟩
  refine List.forall_mem_cons.mpr ⟨zs_iload_n dX9_findAll_26 rfl, ?_⟩
  refine List.forall_mem_cons.mpr ⟨zs_iadd dX9_findAll_27, ?_⟩
  refine List.forall_mem_cons.mpr ⟨zs_callV (ci := 9) (rm := zR_X9_get) (n := 2) rfl zM_X9_get gX9_findAll_X9_get rfl (by decide +kernel) ⟨by decide, by decide⟩ dX9_findAll_28, ?_⟩
  refine List.forall_mem_cons.mpr ⟨zs_iconst dX9_findAll_31 (by decide), ?_⟩
  refine List.forall_mem_cons.mpr ⟨zs_iceq dX9_findAll_32 (by decide), ?_⟩
  refine List.forall_mem_cons.mpr ⟨zs_aload_n dX9_findAll_35 rfl, ?_⟩
  refine List.forall_mem_cons.mpr ⟨zs_aload_n dX9_findAll_36 rfl, ?_⟩
  refine List.forall_mem_cons.mpr ⟨zs_iload_n dX9_findAll_37 rfl, ?_⟩
  refine List.forall_mem_cons.mpr ⟨zs_iconst dX9_findAll_38 (by decide), ?_⟩
  refine List.forall_mem_cons.mpr ⟨zs_iload_n dX9_findAll_39 rfl, ?_⟩
  refine List.forall_mem_cons.mpr ⟨zs_iadd dX9_findAll_40, ?_⟩
  refine List.forall_mem_cons.mpr ⟨zs_callV (ci := 9) (rm := zR_X9_get) (n := 2) rfl zM_X9_get gX9_findAll_X9_get rfl (by decide +kernel) ⟨by decide, by decide⟩ dX9_findAll_41, ?_⟩
  refine List.forall_mem_cons.mpr ⟨zs_callV (ci := 9) (rm := zR_X9_lacks) (n := 1) rfl zM_X9_lacks gX9_findAll_X9_lacks rfl (by decide +kernel) ⟨by decide, by decide⟩ dX9_findAll_44, ?_⟩
  refine List.forall_mem_cons.mpr ⟨zs_ifne dX9_findAll_47 (by decide), ?_⟩
  refine List.forall_mem_cons.mpr ⟨zs_iconst dX9_findAll_50 (by decide), ?_⟩
  refine List.forall_mem_cons.mpr ⟨zs_goto dX9_findAll_51 (by decide), ?_⟩
  refine List.forall_mem_cons.mpr ⟨zs_iconst dX9_findAll_54 (by decide), ?_⟩
  refine List.forall_mem_cons.mpr ⟨zs_istore_n dX9_findAll_55 rfl, ?_⟩
  refine List.forall_mem_cons.mpr ⟨zs_iinc dX9_findAll_56 (by decide), ?_⟩
  refine List.forall_mem_cons.mpr ⟨zs_goto dX9_findAll_59 (by decide), ?_⟩
  refine List.forall_mem_cons.mpr ⟨zs_iload_n dX9_findAll_62 rfl, ?_⟩
  refine List.forall_mem_cons.mpr ⟨zs_ifeq dX9_findAll_63 (by decide), ?_⟩
  refine List.forall_mem_cons.mpr ⟨zs_aload_n dX9_findAll_66 rfl, ?_⟩
  refine List.forall_mem_cons.mpr ⟨zs_iload_n dX9_findAll_67 rfl, ?_⟩
  refine List.forall_mem_cons.mpr ⟨zs_callV (ci := 9) (rm := zR_X9_find) (n := 1) rfl zM_X9_find gX9_findAll_X9_find rfl (by decide +kernel) ⟨by decide, by decide⟩ dX9_findAll_68, ?_⟩
  refine List.forall_mem_cons.mpr ⟨zs_ifeq dX9_findAll_71 (by decide), ?_⟩
  refine List.forall_mem_cons.mpr ⟨zs_iconst dX9_findAll_74 (by decide), ?_⟩
  refine List.forall_mem_cons.mpr ⟨zs_goto dX9_findAll_75 (by decide), ?_⟩
  refine List.forall_mem_cons.mpr ⟨zs_iconst dX9_findAll_78 (by decide), ?_⟩
  refine List.forall_mem_cons.mpr ⟨zs_istore_n dX9_findAll_79 rfl, ?_⟩
  refine List.forall_mem_cons.mpr ⟨zs_aload_n dX9_findAll_80 rfl, ?_⟩
  refine List.forall_mem_cons.mpr ⟨zs_get (ci := 9) (j := 3) (N := 10) (C := RX9) (T := TX9) (index := 13) rfl (by decide) hin9 (List.mem_of_getElem? (i := 2) rfl) dX9_findAll_81, ?_⟩
  refine List.forall_mem_cons.mpr ⟨zs_bipush dX9_findAll_84 (by decide), ?_⟩
  refine List.forall_mem_cons.mpr ⟨zs_iload_n dX9_findAll_86 rfl, ?_⟩
  refine List.forall_mem_cons.mpr ⟨zs_imul dX9_findAll_87, ?_⟩
  refine List.forall_mem_cons.mpr ⟨zs_bipush dX9_findAll_88 (by decide), ?_⟩
  refine List.forall_mem_cons.mpr ⟨zs_iadd dX9_findAll_90, ?_⟩
  refine List.forall_mem_cons.mpr ⟨zs_iload_n dX9_findAll_91 rfl, ?_⟩
  refine List.forall_mem_cons.mpr ⟨zs_ifeq dX9_findAll_92 (by decide), ?_⟩
  refine List.forall_mem_cons.mpr ⟨zs_iconst dX9_findAll_95 (by decide), ?_⟩
  refine List.forall_mem_cons.mpr ⟨zs_goto dX9_findAll_96 (by decide), ?_⟩
  refine List.forall_mem_cons.mpr ⟨zs_iconst dX9_findAll_99 (by decide), ?_⟩
  refine List.forall_mem_cons.mpr ⟨zs_iast dX9_findAll_100, ?_⟩
  refine List.forall_mem_cons.mpr ⟨zs_iconst dX9_findAll_101 (by decide), ?_⟩
  refine List.forall_mem_cons.mpr ⟨zs_istore_n dX9_findAll_102 rfl, ?_⟩
  refine List.forall_mem_cons.mpr ⟨zs_iload_n dX9_findAll_103 rfl, ?_⟩
  refine List.forall_mem_cons.mpr ⟨zs_iconst dX9_findAll_104 (by decide), ?_⟩
  refine List.forall_mem_cons.mpr ⟨zs_icge dX9_findAll_105 (by decide), ?_⟩
  refine List.forall_mem_cons.mpr ⟨zs_iload_n dX9_findAll_108 rfl, ?_⟩
  refine List.forall_mem_cons.mpr ⟨zs_ifeq dX9_findAll_109 (by decide), ?_⟩
  refine List.forall_mem_cons.mpr ⟨zs_aload_n dX9_findAll_112 rfl, ?_⟩
  refine List.forall_mem_cons.mpr ⟨zs_get (ci := 9) (j := 3) (N := 10) (C := RX9) (T := TX9) (index := 13) rfl (by decide) hin9 (List.mem_of_getElem? (i := 2) rfl) dX9_findAll_113, ?_⟩
  refine List.forall_mem_cons.mpr ⟨zs_bipush dX9_findAll_116 (by decide), ?_⟩
  refine List.forall_mem_cons.mpr ⟨zs_iload_n dX9_findAll_118 rfl, ?_⟩
  refine List.forall_mem_cons.mpr ⟨zs_imul dX9_findAll_119, ?_⟩
  refine List.forall_mem_cons.mpr ⟨zs_bipush dX9_findAll_120 (by decide), ?_⟩
  refine List.forall_mem_cons.mpr ⟨zs_iadd dX9_findAll_122, ?_⟩
  refine List.forall_mem_cons.mpr ⟨zs_iload_n dX9_findAll_123 rfl, ?_⟩
  refine List.forall_mem_cons.mpr ⟨zs_iadd dX9_findAll_124, ?_⟩
  refine List.forall_mem_cons.mpr ⟨zs_aload_n dX9_findAll_125 rfl, ?_⟩
  refine List.forall_mem_cons.mpr ⟨zs_get (ci := 9) (j := 6) (N := 10) (C := RX9) (T := TX9) (index := 20) rfl (by decide) hin9 (List.mem_of_getElem? (i := 3) rfl) dX9_findAll_126, ?_⟩
  refine List.forall_mem_cons.mpr ⟨zs_iload_n dX9_findAll_129 rfl, ?_⟩
  refine List.forall_mem_cons.mpr ⟨zs_iald dX9_findAll_130, ?_⟩
  refine List.forall_mem_cons.mpr ⟨zs_iast dX9_findAll_131, ?_⟩
  refine List.forall_mem_cons.mpr ⟨zs_iinc dX9_findAll_132 (by decide), ?_⟩
  refine List.forall_mem_cons.mpr ⟨zs_goto dX9_findAll_135 (by decide), ?_⟩
  refine List.forall_mem_cons.mpr ⟨zs_iinc dX9_findAll_138 (by decide), ?_⟩
  refine List.forall_mem_cons.mpr ⟨zs_goto dX9_findAll_141 (by decide), ?_⟩
  refine List.forall_mem_cons.mpr ⟨zs_retv rfl dX9_findAll_144, ?_⟩
  exact fun _ h => absurd h List.not_mem_nil
theorem zM_X9_findAll : zMeets zEM yX9_findAll wsX9_findAll zR_X9_findAll m_X9_findAll := zmeth_M zEMok (zlook_all (zcs_X9_findAll rfl)) (by decide +kernel) rfl
theorem zr_X9_findAll_0 (ls : zLs) (st : List zAV) (s : zAS) (k : Nat × Nat) : zev zk_X9_findAll (0, ls, st, s, k) = zev zk_X9_findAll (1, ls, Sum.inl (Value.int (0)) :: st, s, k) := zev_go rfl rfl
theorem zr_X9_findAll_1 (a0 a1 a2 a3 : Option zAV) (st : List zAV) (s : zAS) (k : Nat × Nat) (x : Int32) : zev zk_X9_findAll (1, [a0, a1, a2, a3], Sum.inl (Value.int x) :: st, s, k) = zev zk_X9_findAll (2, [zk1 a0, some (Sum.inl (Value.int x)), a2, a3], st, s, k) := zev_go rfl rfl
theorem zr_X9_findAll_2 (a0 a2 a3 : Option zAV) (st : List zAV) (s : zAS) (k : Nat × Nat) (x : Int32) : zev zk_X9_findAll (2, [a0, some (Sum.inl (Value.int x)), a2, a3], st, s, k) = zev zk_X9_findAll (3, [a0, some (Sum.inl (Value.int x)), a2, a3], Sum.inl (Value.int x) :: st, s, k) := zev_go rfl rfl
theorem zr_X9_findAll_3 (a1 a2 a3 : Option zAV) (st : List zAV) (s : zAS) (k : Nat × Nat) (o : Nat × Nat) : zev zk_X9_findAll (3, [some (Sum.inr o), a1, a2, a3], st, s, k) = zev zk_X9_findAll (4, [some (Sum.inr o), a1, a2, a3], Sum.inr o :: st, s, k) := zev_go rfl rfl
theorem zr_X9_findAll_4 (ls : zLs) (st : List zAV) (s : zAS) (k : Nat × Nat) (o i : Nat) : zev zk_X9_findAll (4, ls, Sum.inr (o, i) :: st, s, k) = zpush zk_X9_findAll 7 ls st s k (zgv zEM 9 2 o i s.1) := zf_get rfl
theorem zr_X9_findAll_7 (ls : zLs) (st : List zAV) (s : zAS) (k : Nat × Nat) (x y : Int32) : zev zk_X9_findAll (7, ls, Sum.inl (Value.int y) :: Sum.inl (Value.int x) :: st, s, k) = if decide (y ≤ x) = true then zev zk_X9_findAll (144, ls, st, s, k) else zev zk_X9_findAll (10, ls, st, s, k) := zf_cmp (f := fun x y => decide (y ≤ x)) rfl
theorem zr_X9_findAll_10 (ls : zLs) (st : List zAV) (s : zAS) (k : Nat × Nat) : zev zk_X9_findAll (10, ls, st, s, k) = zev zk_X9_findAll (11, ls, Sum.inl (Value.int (1)) :: st, s, k) := zev_go rfl rfl
theorem zr_X9_findAll_11 (a0 a1 a2 a3 : Option zAV) (st : List zAV) (s : zAS) (k : Nat × Nat) (x : Int32) : zev zk_X9_findAll (11, [a0, a1, a2, a3], Sum.inl (Value.int x) :: st, s, k) = zev zk_X9_findAll (12, [a0, zk1 a1, some (Sum.inl (Value.int x)), a3], st, s, k) := zev_go rfl rfl
theorem zr_X9_findAll_12 (ls : zLs) (st : List zAV) (s : zAS) (k : Nat × Nat) : zev zk_X9_findAll (12, ls, st, s, k) = zev zk_X9_findAll (13, ls, Sum.inl (Value.int (0)) :: st, s, k) := zev_go rfl rfl
theorem zr_X9_findAll_13 (a0 a1 a2 a3 : Option zAV) (st : List zAV) (s : zAS) (k : Nat × Nat) (x : Int32) : zev zk_X9_findAll (13, [a0, a1, a2, a3], Sum.inl (Value.int x) :: st, s, k) = zev zk_X9_findAll (14, [a0, a1, zk1 a2, some (Sum.inl (Value.int x))], st, s, k) := zev_go rfl rfl
theorem zr_X9_findAll_14 (a0 a1 a2 : Option zAV) (st : List zAV) (s : zAS) (k : Nat × Nat) (x : Int32) : zev zk_X9_findAll (14, [a0, a1, a2, some (Sum.inl (Value.int x))], st, s, k) = zev zk_X9_findAll (15, [a0, a1, a2, some (Sum.inl (Value.int x))], Sum.inl (Value.int x) :: st, s, k) := zev_go rfl rfl
theorem zr_X9_findAll_15 (ls : zLs) (st : List zAV) (s : zAS) (k : Nat × Nat) : zev zk_X9_findAll (15, ls, st, s, k) = zev zk_X9_findAll (16, ls, Sum.inl (Value.int (3)) :: st, s, k) := zev_go rfl rfl
theorem zr_X9_findAll_16 (ls : zLs) (st : List zAV) (s : zAS) (k : Nat × Nat) (x y : Int32) : zev zk_X9_findAll (16, ls, Sum.inl (Value.int y) :: Sum.inl (Value.int x) :: st, s, k) = if decide (y ≤ x) = true then zev zk_X9_findAll (62, ls, st, s, k) else zev zk_X9_findAll (19, ls, st, s, k) := zf_cmp (f := fun x y => decide (y ≤ x)) rfl
theorem zr_X9_findAll_19 (a0 a1 a3 : Option zAV) (st : List zAV) (s : zAS) (k : Nat × Nat) (x : Int32) : zev zk_X9_findAll (19, [a0, a1, some (Sum.inl (Value.int x)), a3], st, s, k) = zev zk_X9_findAll (20, [a0, a1, some (Sum.inl (Value.int x)), a3], Sum.inl (Value.int x) :: st, s, k) := zev_go rfl rfl
theorem zr_X9_findAll_20 (ls : zLs) (st : List zAV) (s : zAS) (k : Nat × Nat) (x : Int32) : zev zk_X9_findAll (20, ls, Sum.inl (Value.int x) :: st, s, k) = if decide (x = 0) = true then zev zk_X9_findAll (54, ls, st, s, k) else zev zk_X9_findAll (23, ls, st, s, k) := zf_if (f := fun x => decide (x = 0)) rfl
theorem zr_X9_findAll_23 (a1 a2 a3 : Option zAV) (st : List zAV) (s : zAS) (k : Nat × Nat) (o : Nat × Nat) : zev zk_X9_findAll (23, [some (Sum.inr o), a1, a2, a3], st, s, k) = zev zk_X9_findAll (24, [some (Sum.inr o), a1, a2, a3], Sum.inr o :: st, s, k) := zev_go rfl rfl
theorem zr_X9_findAll_24 (a0 a2 a3 : Option zAV) (st : List zAV) (s : zAS) (k : Nat × Nat) (x : Int32) : zev zk_X9_findAll (24, [a0, some (Sum.inl (Value.int x)), a2, a3], st, s, k) = zev zk_X9_findAll (25, [a0, some (Sum.inl (Value.int x)), a2, a3], Sum.inl (Value.int x) :: st, s, k) := zev_go rfl rfl
theorem zr_X9_findAll_25 (ls : zLs) (st : List zAV) (s : zAS) (k : Nat × Nat) : zev zk_X9_findAll (25, ls, st, s, k) = zev zk_X9_findAll (26, ls, Sum.inl (Value.int (2)) :: st, s, k) := zev_go rfl rfl
theorem zr_X9_findAll_26 (a0 a1 a2 : Option zAV) (st : List zAV) (s : zAS) (k : Nat × Nat) (x : Int32) : zev zk_X9_findAll (26, [a0, a1, a2, some (Sum.inl (Value.int x))], st, s, k) = zev zk_X9_findAll (27, [a0, a1, a2, some (Sum.inl (Value.int x))], Sum.inl (Value.int x) :: st, s, k) := zev_go rfl rfl
theorem zr_X9_findAll_27 (ls : zLs) (st : List zAV) (s : zAS) (k : Nat × Nat) (x y : Int32) : zev zk_X9_findAll (27, ls, Sum.inl (Value.int y) :: Sum.inl (Value.int x) :: st, s, k) = zev zk_X9_findAll (28, ls, Sum.inl (Value.int (x + y)) :: st, s, k) := zev_go rfl rfl
theorem zr_X9_findAll_28 (ls : zLs) (st : List zAV) (s : zAS) (k : Nat × Nat) (r v0 v1 : zAV) (h : zcok zEM 9 0 0 (zR_X9_findAll).cells (zR_X9_findAll).slots r st k) : zev zk_X9_findAll (28, ls, v1 :: v0 :: r :: st, s, k) = zret zk_X9_findAll 31 ls st (k.1 + 0, k.2 + 0) (m_X9_get [r, v0, v1] s) := zf_callV (as := [v1, v0]) 2 rfl rfl h
theorem zr_X9_findAll_31 (ls : zLs) (st : List zAV) (s : zAS) (k : Nat × Nat) : zev zk_X9_findAll (31, ls, st, s, k) = zev zk_X9_findAll (32, ls, Sum.inl (Value.int (-1)) :: st, s, k) := zev_go rfl rfl
theorem zr_X9_findAll_32 (ls : zLs) (st : List zAV) (s : zAS) (k : Nat × Nat) (x y : Int32) : zev zk_X9_findAll (32, ls, Sum.inl (Value.int y) :: Sum.inl (Value.int x) :: st, s, k) = if decide (x = y) = true then zev zk_X9_findAll (50, ls, st, s, k) else zev zk_X9_findAll (35, ls, st, s, k) := zf_cmp (f := fun x y => decide (x = y)) rfl
theorem zr_X9_findAll_35 (a1 a2 a3 : Option zAV) (st : List zAV) (s : zAS) (k : Nat × Nat) (o : Nat × Nat) : zev zk_X9_findAll (35, [some (Sum.inr o), a1, a2, a3], st, s, k) = zev zk_X9_findAll (36, [some (Sum.inr o), a1, a2, a3], Sum.inr o :: st, s, k) := zev_go rfl rfl
theorem zr_X9_findAll_36 (a1 a2 a3 : Option zAV) (st : List zAV) (s : zAS) (k : Nat × Nat) (o : Nat × Nat) : zev zk_X9_findAll (36, [some (Sum.inr o), a1, a2, a3], st, s, k) = zev zk_X9_findAll (37, [some (Sum.inr o), a1, a2, a3], Sum.inr o :: st, s, k) := zev_go rfl rfl
theorem zr_X9_findAll_37 (a0 a2 a3 : Option zAV) (st : List zAV) (s : zAS) (k : Nat × Nat) (x : Int32) : zev zk_X9_findAll (37, [a0, some (Sum.inl (Value.int x)), a2, a3], st, s, k) = zev zk_X9_findAll (38, [a0, some (Sum.inl (Value.int x)), a2, a3], Sum.inl (Value.int x) :: st, s, k) := zev_go rfl rfl
theorem zr_X9_findAll_38 (ls : zLs) (st : List zAV) (s : zAS) (k : Nat × Nat) : zev zk_X9_findAll (38, ls, st, s, k) = zev zk_X9_findAll (39, ls, Sum.inl (Value.int (2)) :: st, s, k) := zev_go rfl rfl
theorem zr_X9_findAll_39 (a0 a1 a2 : Option zAV) (st : List zAV) (s : zAS) (k : Nat × Nat) (x : Int32) : zev zk_X9_findAll (39, [a0, a1, a2, some (Sum.inl (Value.int x))], st, s, k) = zev zk_X9_findAll (40, [a0, a1, a2, some (Sum.inl (Value.int x))], Sum.inl (Value.int x) :: st, s, k) := zev_go rfl rfl
theorem zr_X9_findAll_40 (ls : zLs) (st : List zAV) (s : zAS) (k : Nat × Nat) (x y : Int32) : zev zk_X9_findAll (40, ls, Sum.inl (Value.int y) :: Sum.inl (Value.int x) :: st, s, k) = zev zk_X9_findAll (41, ls, Sum.inl (Value.int (x + y)) :: st, s, k) := zev_go rfl rfl
theorem zr_X9_findAll_41 (ls : zLs) (st : List zAV) (s : zAS) (k : Nat × Nat) (r v0 v1 : zAV) (h : zcok zEM 9 0 0 (zR_X9_findAll).cells (zR_X9_findAll).slots r st k) : zev zk_X9_findAll (41, ls, v1 :: v0 :: r :: st, s, k) = zret zk_X9_findAll 44 ls st (k.1 + 0, k.2 + 0) (m_X9_get [r, v0, v1] s) := zf_callV (as := [v1, v0]) 2 rfl rfl h
theorem zr_X9_findAll_44 (ls : zLs) (st : List zAV) (s : zAS) (k : Nat × Nat) (r v0 : zAV) (h : zcok zEM 9 0 0 (zR_X9_findAll).cells (zR_X9_findAll).slots r st k) : zev zk_X9_findAll (44, ls, v0 :: r :: st, s, k) = zret zk_X9_findAll 47 ls st (k.1 + 0, k.2 + 0) (m_X9_lacks [r, v0] s) := zf_callV (as := [v0]) 1 rfl rfl h
theorem zr_X9_findAll_47 (ls : zLs) (st : List zAV) (s : zAS) (k : Nat × Nat) (x : Int32) : zev zk_X9_findAll (47, ls, Sum.inl (Value.int x) :: st, s, k) = if decide (¬ x = 0) = true then zev zk_X9_findAll (54, ls, st, s, k) else zev zk_X9_findAll (50, ls, st, s, k) := zf_if (f := fun x => decide (¬ x = 0)) rfl
theorem zr_X9_findAll_50 (ls : zLs) (st : List zAV) (s : zAS) (k : Nat × Nat) : zev zk_X9_findAll (50, ls, st, s, k) = zev zk_X9_findAll (51, ls, Sum.inl (Value.int (1)) :: st, s, k) := zev_go rfl rfl
theorem zr_X9_findAll_51 (ls : zLs) (st : List zAV) (s : zAS) (k : Nat × Nat) : zev zk_X9_findAll (51, ls, st, s, k) = zev zk_X9_findAll (55, ls, st, s, k) := zev_go rfl rfl
theorem zr_X9_findAll_54 (ls : zLs) (st : List zAV) (s : zAS) (k : Nat × Nat) : zev zk_X9_findAll (54, ls, st, s, k) = zev zk_X9_findAll (55, ls, Sum.inl (Value.int (0)) :: st, s, k) := zev_go rfl rfl
theorem zr_X9_findAll_55 (a0 a1 a2 a3 : Option zAV) (st : List zAV) (s : zAS) (k : Nat × Nat) (x : Int32) : zev zk_X9_findAll (55, [a0, a1, a2, a3], Sum.inl (Value.int x) :: st, s, k) = zev zk_X9_findAll (56, [a0, zk1 a1, some (Sum.inl (Value.int x)), a3], st, s, k) := zev_go rfl rfl
theorem zr_X9_findAll_56 (a0 a1 a2 : Option zAV) (st : List zAV) (s : zAS) (k : Nat × Nat) (x : Int32) : zev zk_X9_findAll (56, [a0, a1, a2, some (Sum.inl (Value.int x))], st, s, k) = zev zk_X9_findAll (59, [a0, a1, zk1 a2, some (Sum.inl (Value.int (x + (1))))], st, s, k) := zev_go rfl rfl
theorem zr_X9_findAll_59 (ls : zLs) (st : List zAV) (s : zAS) (k : Nat × Nat) : zev zk_X9_findAll (59, ls, st, s, k) = zev zk_X9_findAll (14, ls, st, s, k) := zev_go rfl rfl
theorem zr_X9_findAll_62 (a0 a1 a3 : Option zAV) (st : List zAV) (s : zAS) (k : Nat × Nat) (x : Int32) : zev zk_X9_findAll (62, [a0, a1, some (Sum.inl (Value.int x)), a3], st, s, k) = zev zk_X9_findAll (63, [a0, a1, some (Sum.inl (Value.int x)), a3], Sum.inl (Value.int x) :: st, s, k) := zev_go rfl rfl
theorem zr_X9_findAll_63 (ls : zLs) (st : List zAV) (s : zAS) (k : Nat × Nat) (x : Int32) : zev zk_X9_findAll (63, ls, Sum.inl (Value.int x) :: st, s, k) = if decide (x = 0) = true then zev zk_X9_findAll (78, ls, st, s, k) else zev zk_X9_findAll (66, ls, st, s, k) := zf_if (f := fun x => decide (x = 0)) rfl
theorem zr_X9_findAll_66 (a1 a2 a3 : Option zAV) (st : List zAV) (s : zAS) (k : Nat × Nat) (o : Nat × Nat) : zev zk_X9_findAll (66, [some (Sum.inr o), a1, a2, a3], st, s, k) = zev zk_X9_findAll (67, [some (Sum.inr o), a1, a2, a3], Sum.inr o :: st, s, k) := zev_go rfl rfl
theorem zr_X9_findAll_67 (a0 a2 a3 : Option zAV) (st : List zAV) (s : zAS) (k : Nat × Nat) (x : Int32) : zev zk_X9_findAll (67, [a0, some (Sum.inl (Value.int x)), a2, a3], st, s, k) = zev zk_X9_findAll (68, [a0, some (Sum.inl (Value.int x)), a2, a3], Sum.inl (Value.int x) :: st, s, k) := zev_go rfl rfl
theorem zr_X9_findAll_68 (ls : zLs) (st : List zAV) (s : zAS) (k : Nat × Nat) (r v0 : zAV) (h : zcok zEM 9 0 0 (zR_X9_findAll).cells (zR_X9_findAll).slots r st k) : zev zk_X9_findAll (68, ls, v0 :: r :: st, s, k) = zret zk_X9_findAll 71 ls st (k.1 + 0, k.2 + 0) (m_X9_find [r, v0] s) := zf_callV (as := [v0]) 1 rfl rfl h
theorem zr_X9_findAll_71 (ls : zLs) (st : List zAV) (s : zAS) (k : Nat × Nat) (x : Int32) : zev zk_X9_findAll (71, ls, Sum.inl (Value.int x) :: st, s, k) = if decide (x = 0) = true then zev zk_X9_findAll (78, ls, st, s, k) else zev zk_X9_findAll (74, ls, st, s, k) := zf_if (f := fun x => decide (x = 0)) rfl
theorem zr_X9_findAll_74 (ls : zLs) (st : List zAV) (s : zAS) (k : Nat × Nat) : zev zk_X9_findAll (74, ls, st, s, k) = zev zk_X9_findAll (75, ls, Sum.inl (Value.int (1)) :: st, s, k) := zev_go rfl rfl
theorem zr_X9_findAll_75 (ls : zLs) (st : List zAV) (s : zAS) (k : Nat × Nat) : zev zk_X9_findAll (75, ls, st, s, k) = zev zk_X9_findAll (79, ls, st, s, k) := zev_go rfl rfl
theorem zr_X9_findAll_78 (ls : zLs) (st : List zAV) (s : zAS) (k : Nat × Nat) : zev zk_X9_findAll (78, ls, st, s, k) = zev zk_X9_findAll (79, ls, Sum.inl (Value.int (0)) :: st, s, k) := zev_go rfl rfl
theorem zr_X9_findAll_79 (a0 a1 a2 a3 : Option zAV) (st : List zAV) (s : zAS) (k : Nat × Nat) (x : Int32) : zev zk_X9_findAll (79, [a0, a1, a2, a3], Sum.inl (Value.int x) :: st, s, k) = zev zk_X9_findAll (80, [a0, zk1 a1, some (Sum.inl (Value.int x)), a3], st, s, k) := zev_go rfl rfl
theorem zr_X9_findAll_80 (a1 a2 a3 : Option zAV) (st : List zAV) (s : zAS) (k : Nat × Nat) (o : Nat × Nat) : zev zk_X9_findAll (80, [some (Sum.inr o), a1, a2, a3], st, s, k) = zev zk_X9_findAll (81, [some (Sum.inr o), a1, a2, a3], Sum.inr o :: st, s, k) := zev_go rfl rfl
theorem zr_X9_findAll_81 (ls : zLs) (st : List zAV) (s : zAS) (k : Nat × Nat) (o i : Nat) : zev zk_X9_findAll (81, ls, Sum.inr (o, i) :: st, s, k) = zpush zk_X9_findAll 84 ls st s k (zgv zEM 9 3 o i s.1) := zf_get rfl
theorem zr_X9_findAll_84 (ls : zLs) (st : List zAV) (s : zAS) (k : Nat × Nat) : zev zk_X9_findAll (84, ls, st, s, k) = zev zk_X9_findAll (86, ls, Sum.inl (Value.int (11)) :: st, s, k) := zev_go rfl rfl
theorem zr_X9_findAll_86 (a0 a2 a3 : Option zAV) (st : List zAV) (s : zAS) (k : Nat × Nat) (x : Int32) : zev zk_X9_findAll (86, [a0, some (Sum.inl (Value.int x)), a2, a3], st, s, k) = zev zk_X9_findAll (87, [a0, some (Sum.inl (Value.int x)), a2, a3], Sum.inl (Value.int x) :: st, s, k) := zev_go rfl rfl
theorem zr_X9_findAll_87 (ls : zLs) (st : List zAV) (s : zAS) (k : Nat × Nat) (x y : Int32) : zev zk_X9_findAll (87, ls, Sum.inl (Value.int y) :: Sum.inl (Value.int x) :: st, s, k) = zev zk_X9_findAll (88, ls, Sum.inl (Value.int (x * y)) :: st, s, k) := zev_go rfl rfl
theorem zr_X9_findAll_88 (ls : zLs) (st : List zAV) (s : zAS) (k : Nat × Nat) : zev zk_X9_findAll (88, ls, st, s, k) = zev zk_X9_findAll (90, ls, Sum.inl (Value.int (7)) :: st, s, k) := zev_go rfl rfl
theorem zr_X9_findAll_90 (ls : zLs) (st : List zAV) (s : zAS) (k : Nat × Nat) (x y : Int32) : zev zk_X9_findAll (90, ls, Sum.inl (Value.int y) :: Sum.inl (Value.int x) :: st, s, k) = zev zk_X9_findAll (91, ls, Sum.inl (Value.int (x + y)) :: st, s, k) := zev_go rfl rfl
theorem zr_X9_findAll_91 (a0 a1 a3 : Option zAV) (st : List zAV) (s : zAS) (k : Nat × Nat) (x : Int32) : zev zk_X9_findAll (91, [a0, a1, some (Sum.inl (Value.int x)), a3], st, s, k) = zev zk_X9_findAll (92, [a0, a1, some (Sum.inl (Value.int x)), a3], Sum.inl (Value.int x) :: st, s, k) := zev_go rfl rfl
theorem zr_X9_findAll_92 (ls : zLs) (st : List zAV) (s : zAS) (k : Nat × Nat) (x : Int32) : zev zk_X9_findAll (92, ls, Sum.inl (Value.int x) :: st, s, k) = if decide (x = 0) = true then zev zk_X9_findAll (99, ls, st, s, k) else zev zk_X9_findAll (95, ls, st, s, k) := zf_if (f := fun x => decide (x = 0)) rfl
theorem zr_X9_findAll_95 (ls : zLs) (st : List zAV) (s : zAS) (k : Nat × Nat) : zev zk_X9_findAll (95, ls, st, s, k) = zev zk_X9_findAll (96, ls, Sum.inl (Value.int (0)) :: st, s, k) := zev_go rfl rfl
theorem zr_X9_findAll_96 (ls : zLs) (st : List zAV) (s : zAS) (k : Nat × Nat) : zev zk_X9_findAll (96, ls, st, s, k) = zev zk_X9_findAll (100, ls, st, s, k) := zev_go rfl rfl
theorem zr_X9_findAll_99 (ls : zLs) (st : List zAV) (s : zAS) (k : Nat × Nat) : zev zk_X9_findAll (99, ls, st, s, k) = zev zk_X9_findAll (100, ls, Sum.inl (Value.int (1)) :: st, s, k) := zev_go rfl rfl
theorem zr_X9_findAll_100 (ls : zLs) (st : List zAV) (s : zAS) (k : Nat × Nat) (o i : Nat) (j x : Int32) : zev zk_X9_findAll (100, ls, Sum.inl (Value.int x) :: Sum.inl (Value.int j) :: Sum.inr (o, i) :: st, s, k) = zgo zk_X9_findAll 101 ls st k (zast zEM o i j x s) := zf_iast rfl
theorem zr_X9_findAll_101 (ls : zLs) (st : List zAV) (s : zAS) (k : Nat × Nat) : zev zk_X9_findAll (101, ls, st, s, k) = zev zk_X9_findAll (102, ls, Sum.inl (Value.int (0)) :: st, s, k) := zev_go rfl rfl
theorem zr_X9_findAll_102 (a0 a1 a2 a3 : Option zAV) (st : List zAV) (s : zAS) (k : Nat × Nat) (x : Int32) : zev zk_X9_findAll (102, [a0, a1, a2, a3], Sum.inl (Value.int x) :: st, s, k) = zev zk_X9_findAll (103, [a0, a1, zk1 a2, some (Sum.inl (Value.int x))], st, s, k) := zev_go rfl rfl
theorem zr_X9_findAll_103 (a0 a1 a2 : Option zAV) (st : List zAV) (s : zAS) (k : Nat × Nat) (x : Int32) : zev zk_X9_findAll (103, [a0, a1, a2, some (Sum.inl (Value.int x))], st, s, k) = zev zk_X9_findAll (104, [a0, a1, a2, some (Sum.inl (Value.int x))], Sum.inl (Value.int x) :: st, s, k) := zev_go rfl rfl
theorem zr_X9_findAll_104 (ls : zLs) (st : List zAV) (s : zAS) (k : Nat × Nat) : zev zk_X9_findAll (104, ls, st, s, k) = zev zk_X9_findAll (105, ls, Sum.inl (Value.int (3)) :: st, s, k) := zev_go rfl rfl
theorem zr_X9_findAll_105 (ls : zLs) (st : List zAV) (s : zAS) (k : Nat × Nat) (x y : Int32) : zev zk_X9_findAll (105, ls, Sum.inl (Value.int y) :: Sum.inl (Value.int x) :: st, s, k) = if decide (y ≤ x) = true then zev zk_X9_findAll (138, ls, st, s, k) else zev zk_X9_findAll (108, ls, st, s, k) := zf_cmp (f := fun x y => decide (y ≤ x)) rfl
theorem zr_X9_findAll_108 (a0 a1 a3 : Option zAV) (st : List zAV) (s : zAS) (k : Nat × Nat) (x : Int32) : zev zk_X9_findAll (108, [a0, a1, some (Sum.inl (Value.int x)), a3], st, s, k) = zev zk_X9_findAll (109, [a0, a1, some (Sum.inl (Value.int x)), a3], Sum.inl (Value.int x) :: st, s, k) := zev_go rfl rfl
theorem zr_X9_findAll_109 (ls : zLs) (st : List zAV) (s : zAS) (k : Nat × Nat) (x : Int32) : zev zk_X9_findAll (109, ls, Sum.inl (Value.int x) :: st, s, k) = if decide (x = 0) = true then zev zk_X9_findAll (138, ls, st, s, k) else zev zk_X9_findAll (112, ls, st, s, k) := zf_if (f := fun x => decide (x = 0)) rfl
theorem zr_X9_findAll_112 (a1 a2 a3 : Option zAV) (st : List zAV) (s : zAS) (k : Nat × Nat) (o : Nat × Nat) : zev zk_X9_findAll (112, [some (Sum.inr o), a1, a2, a3], st, s, k) = zev zk_X9_findAll (113, [some (Sum.inr o), a1, a2, a3], Sum.inr o :: st, s, k) := zev_go rfl rfl
theorem zr_X9_findAll_113 (ls : zLs) (st : List zAV) (s : zAS) (k : Nat × Nat) (o i : Nat) : zev zk_X9_findAll (113, ls, Sum.inr (o, i) :: st, s, k) = zpush zk_X9_findAll 116 ls st s k (zgv zEM 9 3 o i s.1) := zf_get rfl
theorem zr_X9_findAll_116 (ls : zLs) (st : List zAV) (s : zAS) (k : Nat × Nat) : zev zk_X9_findAll (116, ls, st, s, k) = zev zk_X9_findAll (118, ls, Sum.inl (Value.int (11)) :: st, s, k) := zev_go rfl rfl
theorem zr_X9_findAll_118 (a0 a2 a3 : Option zAV) (st : List zAV) (s : zAS) (k : Nat × Nat) (x : Int32) : zev zk_X9_findAll (118, [a0, some (Sum.inl (Value.int x)), a2, a3], st, s, k) = zev zk_X9_findAll (119, [a0, some (Sum.inl (Value.int x)), a2, a3], Sum.inl (Value.int x) :: st, s, k) := zev_go rfl rfl
theorem zr_X9_findAll_119 (ls : zLs) (st : List zAV) (s : zAS) (k : Nat × Nat) (x y : Int32) : zev zk_X9_findAll (119, ls, Sum.inl (Value.int y) :: Sum.inl (Value.int x) :: st, s, k) = zev zk_X9_findAll (120, ls, Sum.inl (Value.int (x * y)) :: st, s, k) := zev_go rfl rfl
theorem zr_X9_findAll_120 (ls : zLs) (st : List zAV) (s : zAS) (k : Nat × Nat) : zev zk_X9_findAll (120, ls, st, s, k) = zev zk_X9_findAll (122, ls, Sum.inl (Value.int (8)) :: st, s, k) := zev_go rfl rfl
theorem zr_X9_findAll_122 (ls : zLs) (st : List zAV) (s : zAS) (k : Nat × Nat) (x y : Int32) : zev zk_X9_findAll (122, ls, Sum.inl (Value.int y) :: Sum.inl (Value.int x) :: st, s, k) = zev zk_X9_findAll (123, ls, Sum.inl (Value.int (x + y)) :: st, s, k) := zev_go rfl rfl
theorem zr_X9_findAll_123 (a0 a1 a2 : Option zAV) (st : List zAV) (s : zAS) (k : Nat × Nat) (x : Int32) : zev zk_X9_findAll (123, [a0, a1, a2, some (Sum.inl (Value.int x))], st, s, k) = zev zk_X9_findAll (124, [a0, a1, a2, some (Sum.inl (Value.int x))], Sum.inl (Value.int x) :: st, s, k) := zev_go rfl rfl
theorem zr_X9_findAll_124 (ls : zLs) (st : List zAV) (s : zAS) (k : Nat × Nat) (x y : Int32) : zev zk_X9_findAll (124, ls, Sum.inl (Value.int y) :: Sum.inl (Value.int x) :: st, s, k) = zev zk_X9_findAll (125, ls, Sum.inl (Value.int (x + y)) :: st, s, k) := zev_go rfl rfl
theorem zr_X9_findAll_125 (a1 a2 a3 : Option zAV) (st : List zAV) (s : zAS) (k : Nat × Nat) (o : Nat × Nat) : zev zk_X9_findAll (125, [some (Sum.inr o), a1, a2, a3], st, s, k) = zev zk_X9_findAll (126, [some (Sum.inr o), a1, a2, a3], Sum.inr o :: st, s, k) := zev_go rfl rfl
theorem zr_X9_findAll_126 (ls : zLs) (st : List zAV) (s : zAS) (k : Nat × Nat) (o i : Nat) : zev zk_X9_findAll (126, ls, Sum.inr (o, i) :: st, s, k) = zpush zk_X9_findAll 129 ls st s k (zgv zEM 9 6 o i s.1) := zf_get rfl
theorem zr_X9_findAll_129 (a0 a1 a2 : Option zAV) (st : List zAV) (s : zAS) (k : Nat × Nat) (x : Int32) : zev zk_X9_findAll (129, [a0, a1, a2, some (Sum.inl (Value.int x))], st, s, k) = zev zk_X9_findAll (130, [a0, a1, a2, some (Sum.inl (Value.int x))], Sum.inl (Value.int x) :: st, s, k) := zev_go rfl rfl
theorem zr_X9_findAll_130 (ls : zLs) (st : List zAV) (s : zAS) (k : Nat × Nat) (o i : Nat) (j : Int32) : zev zk_X9_findAll (130, ls, Sum.inl (Value.int j) :: Sum.inr (o, i) :: st, s, k) = zpush zk_X9_findAll 131 ls st s k (zald zEM o i j s) := zf_iald rfl
theorem zr_X9_findAll_131 (ls : zLs) (st : List zAV) (s : zAS) (k : Nat × Nat) (o i : Nat) (j x : Int32) : zev zk_X9_findAll (131, ls, Sum.inl (Value.int x) :: Sum.inl (Value.int j) :: Sum.inr (o, i) :: st, s, k) = zgo zk_X9_findAll 132 ls st k (zast zEM o i j x s) := zf_iast rfl
theorem zr_X9_findAll_132 (a0 a1 a2 : Option zAV) (st : List zAV) (s : zAS) (k : Nat × Nat) (x : Int32) : zev zk_X9_findAll (132, [a0, a1, a2, some (Sum.inl (Value.int x))], st, s, k) = zev zk_X9_findAll (135, [a0, a1, zk1 a2, some (Sum.inl (Value.int (x + (1))))], st, s, k) := zev_go rfl rfl
theorem zr_X9_findAll_135 (ls : zLs) (st : List zAV) (s : zAS) (k : Nat × Nat) : zev zk_X9_findAll (135, ls, st, s, k) = zev zk_X9_findAll (103, ls, st, s, k) := zev_go rfl rfl
theorem zr_X9_findAll_138 (a0 a2 a3 : Option zAV) (st : List zAV) (s : zAS) (k : Nat × Nat) (x : Int32) : zev zk_X9_findAll (138, [a0, some (Sum.inl (Value.int x)), a2, a3], st, s, k) = zev zk_X9_findAll (141, [zk1 a0, some (Sum.inl (Value.int (x + (1)))), a2, a3], st, s, k) := zev_go rfl rfl
theorem zr_X9_findAll_141 (ls : zLs) (st : List zAV) (s : zAS) (k : Nat × Nat) : zev zk_X9_findAll (141, ls, st, s, k) = zev zk_X9_findAll (2, ls, st, s, k) := zev_go rfl rfl
theorem zr_X9_findAll_144 (ls : zLs) (s : zAS) (k : Nat × Nat) : zev zk_X9_findAll (144, ls, [], s, k) = some (.inl none, s) := zev_end rfl rfl
/-! X9_counted: PrimePlaneModel.counted(I)I -/
abbrev zR_X9_counted : Room := ({ frames := 1, cells := 0, slots := 0, locals := 22 } : Room)
noncomputable def zl_X9_counted : List (Nat × zOp) := [(0, z_ic (0) 1), (1, z_sti 2 2), (2, z_ldi 1 3), (3, z_ic (3) 4), (4, z_cmp (fun x y => decide (y ≤ x)) 35 7), (7, z_ldi 1 8), (8, z_if (fun x => decide (¬ x = 0)) 18 11), (11, z_lda 0 12), (12, z_get zEM 9 1 15), (15, z_goto 34), (18, z_ldi 1 19), (19, z_ic (1) 20), (20, z_cmp (fun x y => decide (¬ x = y)) 30 23), (23, z_lda 0 24), (24, z_get zEM 9 2 27), (27, z_goto 34), (30, z_lda 0 31), (31, z_get zEM 9 4 34), (34, z_reti false), (35, z_ic (0) 36), (36, z_sti 3 37), (37, z_ldi 3 38), (38, z_lda 0 39), (39, z_get zEM 9 2 42), (42, z_cmp (fun x y => decide (y ≤ x)) 83 45), (45, z_ldi 2 46), (46, z_ldi 1 47), (47, z_ic (3) 48), (48, z_cmp (fun x y => decide (¬ x = y)) 68 51), (51, z_lda 0 52), (52, z_ldi 3 53), (53, z_ic (1) 54), (54, z_callV zEM 9 m_X9_get 2 0 0 (zR_X9_counted).cells (zR_X9_counted).slots 57), (57, z_if (fun x => decide (¬ x = 0)) 64 60), (60, z_ic (1) 61), (61, z_goto 75), (64, z_ic (0) 65), (65, z_goto 75), (68, z_lda 0 69), (69, z_ldi 3 70), (70, z_ic (7) 72), (72, z_callV zEM 9 m_X9_get 2 0 0 (zR_X9_counted).cells (zR_X9_counted).slots 75), (75, z_bin (fun x y => x + y) 76), (76, z_sti 2 77), (77, z_iinc 3 (1) 80), (80, z_goto 37), (83, z_ldi 2 84), (84, z_reti false)]
noncomputable def zk_X9_counted (pc : Nat) : Option zOp := zlook zl_X9_counted pc
noncomputable def m_X9_counted : List zAV → zAS → Option zOut := zmeth zk_X9_counted 4
set_option maxRecDepth 100000 in
set_option maxHeartbeats 4000000 in
theorem zcs_X9_counted {R : Room} (hR : R = zR_X9_counted) : ∀ q ∈ zl_X9_counted, zS zEM yX9_counted.cls cX9_counted 4 wsX9_counted (some .int) R q.1 q.2 := by
  subst hR
  have hin9 : ∀ w ∈ wsX90, w ∈ wsX9_counted := fun w h => List.mem_cons_of_mem _ (List.mem_append_right _ h)
  refine List.forall_mem_cons.mpr ⟨zs_iconst dX9_counted_0 (by decide), ?_⟩
  refine List.forall_mem_cons.mpr ⟨zs_istore_n dX9_counted_1 rfl, ?_⟩
  refine List.forall_mem_cons.mpr ⟨zs_iload_n dX9_counted_2 rfl, ?_⟩
  refine List.forall_mem_cons.mpr ⟨zs_iconst dX9_counted_3 (by decide), ?_⟩
  refine List.forall_mem_cons.mpr ⟨zs_icge dX9_counted_4 (by decide), ?_⟩
  refine List.forall_mem_cons.mpr ⟨zs_iload_n dX9_counted_7 rfl, ?_⟩
  refine List.forall_mem_cons.mpr ⟨zs_ifne dX9_counted_8 (by decide), ?_⟩
  refine List.forall_mem_cons.mpr ⟨zs_aload_n dX9_counted_11 rfl, ?_⟩
  refine List.forall_mem_cons.mpr ⟨zs_get (ci := 9) (j := 1) (N := 10) (C := RX9) (T := TX9) (index := 7) rfl (by decide) hin9 (List.mem_of_getElem? (i := 1) rfl) dX9_counted_12, ?_⟩
  refine List.forall_mem_cons.mpr ⟨zs_goto dX9_counted_15 (by decide), ?_⟩
  refine List.forall_mem_cons.mpr ⟨zs_iload_n dX9_counted_18 rfl, ?_⟩
  refine List.forall_mem_cons.mpr ⟨zs_iconst dX9_counted_19 (by decide), ?_⟩
  refine List.forall_mem_cons.mpr ⟨zs_icne dX9_counted_20 (by decide), ?_⟩
  refine List.forall_mem_cons.mpr ⟨zs_aload_n dX9_counted_23 rfl, ?_⟩
  refine List.forall_mem_cons.mpr ⟨zs_get (ci := 9) (j := 2) (N := 10) (C := RX9) (T := TX9) (index := 32) rfl (by decide) hin9 (List.mem_of_getElem? (i := 2) rfl) dX9_counted_24, ?_⟩
  refine List.forall_mem_cons.mpr ⟨zs_goto dX9_counted_27 (by decide), ?_⟩
  refine List.forall_mem_cons.mpr ⟨zs_aload_n dX9_counted_30 rfl, ?_⟩
  refine List.forall_mem_cons.mpr ⟨zs_get (ci := 9) (j := 4) (N := 10) (C := RX9) (T := TX9) (index := 55) rfl (by decide) hin9 (List.mem_of_getElem? (i := 3) rfl) dX9_counted_31, ?_⟩
  refine List.forall_mem_cons.mpr ⟨zs_reti (ty := .int) rfl (fun x h => (zni x h).1) dX9_counted_34, ?_⟩
  refine List.forall_mem_cons.mpr ⟨zs_iconst dX9_counted_35 (by decide), ?_⟩
  refine List.forall_mem_cons.mpr ⟨zs_istore_n dX9_counted_36 rfl, ?_⟩
  refine List.forall_mem_cons.mpr ⟨zs_iload_n dX9_counted_37 rfl, ?_⟩
  refine List.forall_mem_cons.mpr ⟨zs_aload_n dX9_counted_38 rfl, ?_⟩
  refine List.forall_mem_cons.mpr ⟨zs_get (ci := 9) (j := 2) (N := 10) (C := RX9) (T := TX9) (index := 32) rfl (by decide) hin9 (List.mem_of_getElem? (i := 2) rfl) dX9_counted_39, ?_⟩
  refine List.forall_mem_cons.mpr ⟨zs_icge dX9_counted_42 (by decide), ?_⟩
  refine List.forall_mem_cons.mpr ⟨zs_iload_n dX9_counted_45 rfl, ?_⟩
  refine List.forall_mem_cons.mpr ⟨zs_iload_n dX9_counted_46 rfl, ?_⟩
  refine List.forall_mem_cons.mpr ⟨zs_iconst dX9_counted_47 (by decide), ?_⟩
  refine List.forall_mem_cons.mpr ⟨zs_icne dX9_counted_48 (by decide), ?_⟩
  refine List.forall_mem_cons.mpr ⟨zs_aload_n dX9_counted_51 rfl, ?_⟩
  refine List.forall_mem_cons.mpr ⟨zs_iload_n dX9_counted_52 rfl, ?_⟩
  refine List.forall_mem_cons.mpr ⟨zs_iconst dX9_counted_53 (by decide), ?_⟩
  refine List.forall_mem_cons.mpr ⟨zs_callV (ci := 9) (rm := zR_X9_get) (n := 2) rfl zM_X9_get gX9_counted_X9_get rfl (by decide +kernel) ⟨by decide, by decide⟩ dX9_counted_54, ?_⟩
  refine List.forall_mem_cons.mpr ⟨zs_ifne dX9_counted_57 (by decide), ?_⟩
  refine List.forall_mem_cons.mpr ⟨zs_iconst dX9_counted_60 (by decide), ?_⟩
  refine List.forall_mem_cons.mpr ⟨zs_goto dX9_counted_61 (by decide), ?_⟩
  refine List.forall_mem_cons.mpr ⟨zs_iconst dX9_counted_64 (by decide), ?_⟩
  refine List.forall_mem_cons.mpr ⟨zs_goto dX9_counted_65 (by decide), ?_⟩
  refine List.forall_mem_cons.mpr ⟨zs_aload_n dX9_counted_68 rfl, ?_⟩
  refine List.forall_mem_cons.mpr ⟨zs_iload_n dX9_counted_69 rfl, ?_⟩
  refine List.forall_mem_cons.mpr ⟨zs_bipush dX9_counted_70 (by decide), ?_⟩
  refine List.forall_mem_cons.mpr ⟨zs_callV (ci := 9) (rm := zR_X9_get) (n := 2) rfl zM_X9_get gX9_counted_X9_get rfl (by decide +kernel) ⟨by decide, by decide⟩ dX9_counted_72, ?_⟩
  refine List.forall_mem_cons.mpr ⟨zs_iadd dX9_counted_75, ?_⟩
  refine List.forall_mem_cons.mpr ⟨zs_istore_n dX9_counted_76 rfl, ?_⟩
  refine List.forall_mem_cons.mpr ⟨zs_iinc dX9_counted_77 (by decide), ?_⟩
  refine List.forall_mem_cons.mpr ⟨zs_goto dX9_counted_80 (by decide), ?_⟩
  refine List.forall_mem_cons.mpr ⟨zs_iload_n dX9_counted_83 rfl, ?_⟩
  refine List.forall_mem_cons.mpr ⟨zs_reti (ty := .int) rfl (fun x h => (zni x h).1) dX9_counted_84, ?_⟩
  exact fun _ h => absurd h List.not_mem_nil
theorem zM_X9_counted : zMeets zEM yX9_counted wsX9_counted zR_X9_counted m_X9_counted := zmeth_M zEMok (zlook_all (zcs_X9_counted rfl)) (by decide +kernel) rfl
theorem zr_X9_counted_0 (ls : zLs) (st : List zAV) (s : zAS) (k : Nat × Nat) : zev zk_X9_counted (0, ls, st, s, k) = zev zk_X9_counted (1, ls, Sum.inl (Value.int (0)) :: st, s, k) := zev_go rfl rfl
theorem zr_X9_counted_1 (a0 a1 a2 a3 : Option zAV) (st : List zAV) (s : zAS) (k : Nat × Nat) (x : Int32) : zev zk_X9_counted (1, [a0, a1, a2, a3], Sum.inl (Value.int x) :: st, s, k) = zev zk_X9_counted (2, [a0, zk1 a1, some (Sum.inl (Value.int x)), a3], st, s, k) := zev_go rfl rfl
theorem zr_X9_counted_2 (a0 a2 a3 : Option zAV) (st : List zAV) (s : zAS) (k : Nat × Nat) (x : Int32) : zev zk_X9_counted (2, [a0, some (Sum.inl (Value.int x)), a2, a3], st, s, k) = zev zk_X9_counted (3, [a0, some (Sum.inl (Value.int x)), a2, a3], Sum.inl (Value.int x) :: st, s, k) := zev_go rfl rfl
theorem zr_X9_counted_3 (ls : zLs) (st : List zAV) (s : zAS) (k : Nat × Nat) : zev zk_X9_counted (3, ls, st, s, k) = zev zk_X9_counted (4, ls, Sum.inl (Value.int (3)) :: st, s, k) := zev_go rfl rfl
theorem zr_X9_counted_4 (ls : zLs) (st : List zAV) (s : zAS) (k : Nat × Nat) (x y : Int32) : zev zk_X9_counted (4, ls, Sum.inl (Value.int y) :: Sum.inl (Value.int x) :: st, s, k) = if decide (y ≤ x) = true then zev zk_X9_counted (35, ls, st, s, k) else zev zk_X9_counted (7, ls, st, s, k) := zf_cmp (f := fun x y => decide (y ≤ x)) rfl
theorem zr_X9_counted_7 (a0 a2 a3 : Option zAV) (st : List zAV) (s : zAS) (k : Nat × Nat) (x : Int32) : zev zk_X9_counted (7, [a0, some (Sum.inl (Value.int x)), a2, a3], st, s, k) = zev zk_X9_counted (8, [a0, some (Sum.inl (Value.int x)), a2, a3], Sum.inl (Value.int x) :: st, s, k) := zev_go rfl rfl
theorem zr_X9_counted_8 (ls : zLs) (st : List zAV) (s : zAS) (k : Nat × Nat) (x : Int32) : zev zk_X9_counted (8, ls, Sum.inl (Value.int x) :: st, s, k) = if decide (¬ x = 0) = true then zev zk_X9_counted (18, ls, st, s, k) else zev zk_X9_counted (11, ls, st, s, k) := zf_if (f := fun x => decide (¬ x = 0)) rfl
theorem zr_X9_counted_11 (a1 a2 a3 : Option zAV) (st : List zAV) (s : zAS) (k : Nat × Nat) (o : Nat × Nat) : zev zk_X9_counted (11, [some (Sum.inr o), a1, a2, a3], st, s, k) = zev zk_X9_counted (12, [some (Sum.inr o), a1, a2, a3], Sum.inr o :: st, s, k) := zev_go rfl rfl
theorem zr_X9_counted_12 (ls : zLs) (st : List zAV) (s : zAS) (k : Nat × Nat) (o i : Nat) : zev zk_X9_counted (12, ls, Sum.inr (o, i) :: st, s, k) = zpush zk_X9_counted 15 ls st s k (zgv zEM 9 1 o i s.1) := zf_get rfl
theorem zr_X9_counted_15 (ls : zLs) (st : List zAV) (s : zAS) (k : Nat × Nat) : zev zk_X9_counted (15, ls, st, s, k) = zev zk_X9_counted (34, ls, st, s, k) := zev_go rfl rfl
theorem zr_X9_counted_18 (a0 a2 a3 : Option zAV) (st : List zAV) (s : zAS) (k : Nat × Nat) (x : Int32) : zev zk_X9_counted (18, [a0, some (Sum.inl (Value.int x)), a2, a3], st, s, k) = zev zk_X9_counted (19, [a0, some (Sum.inl (Value.int x)), a2, a3], Sum.inl (Value.int x) :: st, s, k) := zev_go rfl rfl
theorem zr_X9_counted_19 (ls : zLs) (st : List zAV) (s : zAS) (k : Nat × Nat) : zev zk_X9_counted (19, ls, st, s, k) = zev zk_X9_counted (20, ls, Sum.inl (Value.int (1)) :: st, s, k) := zev_go rfl rfl
theorem zr_X9_counted_20 (ls : zLs) (st : List zAV) (s : zAS) (k : Nat × Nat) (x y : Int32) : zev zk_X9_counted (20, ls, Sum.inl (Value.int y) :: Sum.inl (Value.int x) :: st, s, k) = if decide (¬ x = y) = true then zev zk_X9_counted (30, ls, st, s, k) else zev zk_X9_counted (23, ls, st, s, k) := zf_cmp (f := fun x y => decide (¬ x = y)) rfl
theorem zr_X9_counted_23 (a1 a2 a3 : Option zAV) (st : List zAV) (s : zAS) (k : Nat × Nat) (o : Nat × Nat) : zev zk_X9_counted (23, [some (Sum.inr o), a1, a2, a3], st, s, k) = zev zk_X9_counted (24, [some (Sum.inr o), a1, a2, a3], Sum.inr o :: st, s, k) := zev_go rfl rfl
theorem zr_X9_counted_24 (ls : zLs) (st : List zAV) (s : zAS) (k : Nat × Nat) (o i : Nat) : zev zk_X9_counted (24, ls, Sum.inr (o, i) :: st, s, k) = zpush zk_X9_counted 27 ls st s k (zgv zEM 9 2 o i s.1) := zf_get rfl
theorem zr_X9_counted_27 (ls : zLs) (st : List zAV) (s : zAS) (k : Nat × Nat) : zev zk_X9_counted (27, ls, st, s, k) = zev zk_X9_counted (34, ls, st, s, k) := zev_go rfl rfl
theorem zr_X9_counted_30 (a1 a2 a3 : Option zAV) (st : List zAV) (s : zAS) (k : Nat × Nat) (o : Nat × Nat) : zev zk_X9_counted (30, [some (Sum.inr o), a1, a2, a3], st, s, k) = zev zk_X9_counted (31, [some (Sum.inr o), a1, a2, a3], Sum.inr o :: st, s, k) := zev_go rfl rfl
theorem zr_X9_counted_31 (ls : zLs) (st : List zAV) (s : zAS) (k : Nat × Nat) (o i : Nat) : zev zk_X9_counted (31, ls, Sum.inr (o, i) :: st, s, k) = zpush zk_X9_counted 34 ls st s k (zgv zEM 9 4 o i s.1) := zf_get rfl
theorem zr_X9_counted_34 (ls : zLs) (s : zAS) (k : Nat × Nat) (x : Int32) : zev zk_X9_counted (34, ls, [Sum.inl (Value.int x)], s, k) = some (.inl (some (Sum.inl (Value.int x))), s) := zf_reti rfl
theorem zr_X9_counted_35 (ls : zLs) (st : List zAV) (s : zAS) (k : Nat × Nat) : zev zk_X9_counted (35, ls, st, s, k) = zev zk_X9_counted (36, ls, Sum.inl (Value.int (0)) :: st, s, k) := zev_go rfl rfl
theorem zr_X9_counted_36 (a0 a1 a2 a3 : Option zAV) (st : List zAV) (s : zAS) (k : Nat × Nat) (x : Int32) : zev zk_X9_counted (36, [a0, a1, a2, a3], Sum.inl (Value.int x) :: st, s, k) = zev zk_X9_counted (37, [a0, a1, zk1 a2, some (Sum.inl (Value.int x))], st, s, k) := zev_go rfl rfl
theorem zr_X9_counted_37 (a0 a1 a2 : Option zAV) (st : List zAV) (s : zAS) (k : Nat × Nat) (x : Int32) : zev zk_X9_counted (37, [a0, a1, a2, some (Sum.inl (Value.int x))], st, s, k) = zev zk_X9_counted (38, [a0, a1, a2, some (Sum.inl (Value.int x))], Sum.inl (Value.int x) :: st, s, k) := zev_go rfl rfl
theorem zr_X9_counted_38 (a1 a2 a3 : Option zAV) (st : List zAV) (s : zAS) (k : Nat × Nat) (o : Nat × Nat) : zev zk_X9_counted (38, [some (Sum.inr o), a1, a2, a3], st, s, k) = zev zk_X9_counted (39, [some (Sum.inr o), a1, a2, a3], Sum.inr o :: st, s, k) := zev_go rfl rfl
theorem zr_X9_counted_39 (ls : zLs) (st : List zAV) (s : zAS) (k : Nat × Nat) (o i : Nat) : zev zk_X9_counted (39, ls, Sum.inr (o, i) :: st, s, k) = zpush zk_X9_counted 42 ls st s k (zgv zEM 9 2 o i s.1) := zf_get rfl
theorem zr_X9_counted_42 (ls : zLs) (st : List zAV) (s : zAS) (k : Nat × Nat) (x y : Int32) : zev zk_X9_counted (42, ls, Sum.inl (Value.int y) :: Sum.inl (Value.int x) :: st, s, k) = if decide (y ≤ x) = true then zev zk_X9_counted (83, ls, st, s, k) else zev zk_X9_counted (45, ls, st, s, k) := zf_cmp (f := fun x y => decide (y ≤ x)) rfl
theorem zr_X9_counted_45 (a0 a1 a3 : Option zAV) (st : List zAV) (s : zAS) (k : Nat × Nat) (x : Int32) : zev zk_X9_counted (45, [a0, a1, some (Sum.inl (Value.int x)), a3], st, s, k) = zev zk_X9_counted (46, [a0, a1, some (Sum.inl (Value.int x)), a3], Sum.inl (Value.int x) :: st, s, k) := zev_go rfl rfl
theorem zr_X9_counted_46 (a0 a2 a3 : Option zAV) (st : List zAV) (s : zAS) (k : Nat × Nat) (x : Int32) : zev zk_X9_counted (46, [a0, some (Sum.inl (Value.int x)), a2, a3], st, s, k) = zev zk_X9_counted (47, [a0, some (Sum.inl (Value.int x)), a2, a3], Sum.inl (Value.int x) :: st, s, k) := zev_go rfl rfl
theorem zr_X9_counted_47 (ls : zLs) (st : List zAV) (s : zAS) (k : Nat × Nat) : zev zk_X9_counted (47, ls, st, s, k) = zev zk_X9_counted (48, ls, Sum.inl (Value.int (3)) :: st, s, k) := zev_go rfl rfl
theorem zr_X9_counted_48 (ls : zLs) (st : List zAV) (s : zAS) (k : Nat × Nat) (x y : Int32) : zev zk_X9_counted (48, ls, Sum.inl (Value.int y) :: Sum.inl (Value.int x) :: st, s, k) = if decide (¬ x = y) = true then zev zk_X9_counted (68, ls, st, s, k) else zev zk_X9_counted (51, ls, st, s, k) := zf_cmp (f := fun x y => decide (¬ x = y)) rfl
theorem zr_X9_counted_51 (a1 a2 a3 : Option zAV) (st : List zAV) (s : zAS) (k : Nat × Nat) (o : Nat × Nat) : zev zk_X9_counted (51, [some (Sum.inr o), a1, a2, a3], st, s, k) = zev zk_X9_counted (52, [some (Sum.inr o), a1, a2, a3], Sum.inr o :: st, s, k) := zev_go rfl rfl
theorem zr_X9_counted_52 (a0 a1 a2 : Option zAV) (st : List zAV) (s : zAS) (k : Nat × Nat) (x : Int32) : zev zk_X9_counted (52, [a0, a1, a2, some (Sum.inl (Value.int x))], st, s, k) = zev zk_X9_counted (53, [a0, a1, a2, some (Sum.inl (Value.int x))], Sum.inl (Value.int x) :: st, s, k) := zev_go rfl rfl
theorem zr_X9_counted_53 (ls : zLs) (st : List zAV) (s : zAS) (k : Nat × Nat) : zev zk_X9_counted (53, ls, st, s, k) = zev zk_X9_counted (54, ls, Sum.inl (Value.int (1)) :: st, s, k) := zev_go rfl rfl
theorem zr_X9_counted_54 (ls : zLs) (st : List zAV) (s : zAS) (k : Nat × Nat) (r v0 v1 : zAV) (h : zcok zEM 9 0 0 (zR_X9_counted).cells (zR_X9_counted).slots r st k) : zev zk_X9_counted (54, ls, v1 :: v0 :: r :: st, s, k) = zret zk_X9_counted 57 ls st (k.1 + 0, k.2 + 0) (m_X9_get [r, v0, v1] s) := zf_callV (as := [v1, v0]) 2 rfl rfl h
theorem zr_X9_counted_57 (ls : zLs) (st : List zAV) (s : zAS) (k : Nat × Nat) (x : Int32) : zev zk_X9_counted (57, ls, Sum.inl (Value.int x) :: st, s, k) = if decide (¬ x = 0) = true then zev zk_X9_counted (64, ls, st, s, k) else zev zk_X9_counted (60, ls, st, s, k) := zf_if (f := fun x => decide (¬ x = 0)) rfl
theorem zr_X9_counted_60 (ls : zLs) (st : List zAV) (s : zAS) (k : Nat × Nat) : zev zk_X9_counted (60, ls, st, s, k) = zev zk_X9_counted (61, ls, Sum.inl (Value.int (1)) :: st, s, k) := zev_go rfl rfl
theorem zr_X9_counted_61 (ls : zLs) (st : List zAV) (s : zAS) (k : Nat × Nat) : zev zk_X9_counted (61, ls, st, s, k) = zev zk_X9_counted (75, ls, st, s, k) := zev_go rfl rfl
theorem zr_X9_counted_64 (ls : zLs) (st : List zAV) (s : zAS) (k : Nat × Nat) : zev zk_X9_counted (64, ls, st, s, k) = zev zk_X9_counted (65, ls, Sum.inl (Value.int (0)) :: st, s, k) := zev_go rfl rfl
theorem zr_X9_counted_65 (ls : zLs) (st : List zAV) (s : zAS) (k : Nat × Nat) : zev zk_X9_counted (65, ls, st, s, k) = zev zk_X9_counted (75, ls, st, s, k) := zev_go rfl rfl
theorem zr_X9_counted_68 (a1 a2 a3 : Option zAV) (st : List zAV) (s : zAS) (k : Nat × Nat) (o : Nat × Nat) : zev zk_X9_counted (68, [some (Sum.inr o), a1, a2, a3], st, s, k) = zev zk_X9_counted (69, [some (Sum.inr o), a1, a2, a3], Sum.inr o :: st, s, k) := zev_go rfl rfl
theorem zr_X9_counted_69 (a0 a1 a2 : Option zAV) (st : List zAV) (s : zAS) (k : Nat × Nat) (x : Int32) : zev zk_X9_counted (69, [a0, a1, a2, some (Sum.inl (Value.int x))], st, s, k) = zev zk_X9_counted (70, [a0, a1, a2, some (Sum.inl (Value.int x))], Sum.inl (Value.int x) :: st, s, k) := zev_go rfl rfl
theorem zr_X9_counted_70 (ls : zLs) (st : List zAV) (s : zAS) (k : Nat × Nat) : zev zk_X9_counted (70, ls, st, s, k) = zev zk_X9_counted (72, ls, Sum.inl (Value.int (7)) :: st, s, k) := zev_go rfl rfl
theorem zr_X9_counted_72 (ls : zLs) (st : List zAV) (s : zAS) (k : Nat × Nat) (r v0 v1 : zAV) (h : zcok zEM 9 0 0 (zR_X9_counted).cells (zR_X9_counted).slots r st k) : zev zk_X9_counted (72, ls, v1 :: v0 :: r :: st, s, k) = zret zk_X9_counted 75 ls st (k.1 + 0, k.2 + 0) (m_X9_get [r, v0, v1] s) := zf_callV (as := [v1, v0]) 2 rfl rfl h
theorem zr_X9_counted_75 (ls : zLs) (st : List zAV) (s : zAS) (k : Nat × Nat) (x y : Int32) : zev zk_X9_counted (75, ls, Sum.inl (Value.int y) :: Sum.inl (Value.int x) :: st, s, k) = zev zk_X9_counted (76, ls, Sum.inl (Value.int (x + y)) :: st, s, k) := zev_go rfl rfl
theorem zr_X9_counted_76 (a0 a1 a2 a3 : Option zAV) (st : List zAV) (s : zAS) (k : Nat × Nat) (x : Int32) : zev zk_X9_counted (76, [a0, a1, a2, a3], Sum.inl (Value.int x) :: st, s, k) = zev zk_X9_counted (77, [a0, zk1 a1, some (Sum.inl (Value.int x)), a3], st, s, k) := zev_go rfl rfl
theorem zr_X9_counted_77 (a0 a1 a2 : Option zAV) (st : List zAV) (s : zAS) (k : Nat × Nat) (x : Int32) : zev zk_X9_counted (77, [a0, a1, a2, some (Sum.inl (Value.int x))], st, s, k) = zev zk_X9_counted (80, [a0, a1, zk1 a2, some (Sum.inl (Value.int (x + (1))))], st, s, k) := zev_go rfl rfl
theorem zr_X9_counted_80 (ls : zLs) (st : List zAV) (s : zAS) (k : Nat × Nat) : zev zk_X9_counted (80, ls, st, s, k) = zev zk_X9_counted (37, ls, st, s, k) := zev_go rfl rfl
theorem zr_X9_counted_83 (a0 a1 a3 : Option zAV) (st : List zAV) (s : zAS) (k : Nat × Nat) (x : Int32) : zev zk_X9_counted (83, [a0, a1, some (Sum.inl (Value.int x)), a3], st, s, k) = zev zk_X9_counted (84, [a0, a1, some (Sum.inl (Value.int x)), a3], Sum.inl (Value.int x) :: st, s, k) := zev_go rfl rfl
theorem zr_X9_counted_84 (ls : zLs) (s : zAS) (k : Nat × Nat) (x : Int32) : zev zk_X9_counted (84, ls, [Sum.inl (Value.int x)], s, k) = some (.inl (some (Sum.inl (Value.int x))), s) := zf_reti rfl
/-! X9_count: PrimePlaneModel.count(I)I -/
abbrev zR_X9_count : Room := ({ frames := 2, cells := 0, slots := 0, locals := 45 } : Room)
noncomputable def zl_X9_count : List (Nat × zOp) := [(0, z_lda 0 1), (1, z_ic (0) 2), (2, z_put zEM 9 0 false 5), (5, z_ldi 1 6), (6, z_ic (0) 7), (7, z_ic (4) 8), (8, z_callS m_X9_isIn 3 0 0 (zR_X9_count).cells (zR_X9_count).slots 11), (11, z_if (fun x => decide (x = 0)) 22 14), (14, z_lda 0 15), (15, z_ldi 1 16), (16, z_callV zEM 9 m_X9_counted 1 0 0 (zR_X9_count).cells (zR_X9_count).slots 19), (19, z_goto 27), (22, z_lda 0 23), (23, z_ic (1) 24), (24, z_callV zEM 9 m_X9_fail 1 0 0 (zR_X9_count).cells (zR_X9_count).slots 27), (27, z_reti false)]
noncomputable def zk_X9_count (pc : Nat) : Option zOp := zlook zl_X9_count pc
noncomputable def m_X9_count : List zAV → zAS → Option zOut := zmeth zk_X9_count 2
set_option maxRecDepth 100000 in
set_option maxHeartbeats 4000000 in
theorem zcs_X9_count {R : Room} (hR : R = zR_X9_count) : ∀ q ∈ zl_X9_count, zS zEM yX9_count.cls cX9_count 2 wsX9_count (some .int) R q.1 q.2 := by
  subst hR
  have hin9 : ∀ w ∈ wsX90, w ∈ wsX9_count := fun w h => List.mem_cons_of_mem _ (List.mem_append_right _ h)
  refine List.forall_mem_cons.mpr ⟨zs_aload_n dX9_count_0 rfl, ?_⟩
  refine List.forall_mem_cons.mpr ⟨zs_iconst dX9_count_1 (by decide), ?_⟩
  refine List.forall_mem_cons.mpr ⟨zs_put (ci := 9) (j := 0) (N := 10) (C := RX9) (T := TX9) (index := 29) (b := false) .int tyX9 rfl (by decide) hin9 tyX9_ok nmX9 (List.mem_of_getElem? (i := 1) rfl) rfl (by decide +kernel) zni dX9_count_2, ?_⟩
  refine List.forall_mem_cons.mpr ⟨zs_iload_n dX9_count_5 rfl, ?_⟩
  refine List.forall_mem_cons.mpr ⟨zs_iconst dX9_count_6 (by decide), ?_⟩
  refine List.forall_mem_cons.mpr ⟨zs_iconst dX9_count_7 (by decide), ?_⟩
  refine List.forall_mem_cons.mpr ⟨zs_callS (rm := zR_X9_isIn) (n := 3) zM_X9_isIn gX9_count_X9_isIn rfl (by decide +kernel) ⟨by decide, by decide⟩ dX9_count_8, ?_⟩
  refine List.forall_mem_cons.mpr ⟨zs_ifeq dX9_count_11 (by decide), ?_⟩
  refine List.forall_mem_cons.mpr ⟨zs_aload_n dX9_count_14 rfl, ?_⟩
  refine List.forall_mem_cons.mpr ⟨zs_iload_n dX9_count_15 rfl, ?_⟩
  refine List.forall_mem_cons.mpr ⟨zs_callV (ci := 9) (rm := zR_X9_counted) (n := 1) rfl zM_X9_counted gX9_count_X9_counted rfl (by decide +kernel) ⟨by decide, by decide⟩ dX9_count_16, ?_⟩
  refine List.forall_mem_cons.mpr ⟨zs_goto dX9_count_19 (by decide), ?_⟩
  refine List.forall_mem_cons.mpr ⟨zs_aload_n dX9_count_22 rfl, ?_⟩
  refine List.forall_mem_cons.mpr ⟨zs_iconst dX9_count_23 (by decide), ?_⟩
  refine List.forall_mem_cons.mpr ⟨zs_callV (ci := 9) (rm := zR_X9_fail) (n := 1) rfl zM_X9_fail gX9_count_X9_fail rfl (by decide +kernel) ⟨by decide, by decide⟩ dX9_count_24, ?_⟩
  refine List.forall_mem_cons.mpr ⟨zs_reti (ty := .int) rfl (fun x h => (zni x h).1) dX9_count_27, ?_⟩
  exact fun _ h => absurd h List.not_mem_nil
theorem zM_X9_count : zMeets zEM yX9_count wsX9_count zR_X9_count m_X9_count := zmeth_M zEMok (zlook_all (zcs_X9_count rfl)) (by decide +kernel) rfl
theorem zr_X9_count_0 (a1 : Option zAV) (st : List zAV) (s : zAS) (k : Nat × Nat) (o : Nat × Nat) : zev zk_X9_count (0, [some (Sum.inr o), a1], st, s, k) = zev zk_X9_count (1, [some (Sum.inr o), a1], Sum.inr o :: st, s, k) := zev_go rfl rfl
theorem zr_X9_count_1 (ls : zLs) (st : List zAV) (s : zAS) (k : Nat × Nat) : zev zk_X9_count (1, ls, st, s, k) = zev zk_X9_count (2, ls, Sum.inl (Value.int (0)) :: st, s, k) := zev_go rfl rfl
theorem zr_X9_count_2 (ls : zLs) (st : List zAV) (s : zAS) (k : Nat × Nat) (o i : Nat) (x : Int32) (h : zpok zEM 9 0 false o i x) : zev zk_X9_count (2, ls, Sum.inl (Value.int x) :: Sum.inr (o, i) :: st, s, k) = zev zk_X9_count (5, ls, st, (zup s.1 o i 0 x, s.2), k) := zf_put rfl h
theorem zr_X9_count_5 (a0 : Option zAV) (st : List zAV) (s : zAS) (k : Nat × Nat) (x : Int32) : zev zk_X9_count (5, [a0, some (Sum.inl (Value.int x))], st, s, k) = zev zk_X9_count (6, [a0, some (Sum.inl (Value.int x))], Sum.inl (Value.int x) :: st, s, k) := zev_go rfl rfl
theorem zr_X9_count_6 (ls : zLs) (st : List zAV) (s : zAS) (k : Nat × Nat) : zev zk_X9_count (6, ls, st, s, k) = zev zk_X9_count (7, ls, Sum.inl (Value.int (0)) :: st, s, k) := zev_go rfl rfl
theorem zr_X9_count_7 (ls : zLs) (st : List zAV) (s : zAS) (k : Nat × Nat) : zev zk_X9_count (7, ls, st, s, k) = zev zk_X9_count (8, ls, Sum.inl (Value.int (4)) :: st, s, k) := zev_go rfl rfl
theorem zr_X9_count_8 (ls : zLs) (st : List zAV) (s : zAS) (k : Nat × Nat) (v0 v1 v2 : zAV) (h : (st.map zcat).sum ≤ 8 ∧ k.1 + 0 ≤ (zR_X9_count).cells ∧ k.2 + 0 ≤ (zR_X9_count).slots) : zev zk_X9_count (8, ls, v2 :: v1 :: v0 :: st, s, k) = zret zk_X9_count 11 ls st (k.1 + 0, k.2 + 0) (m_X9_isIn [v0, v1, v2] s) := zf_callS (as := [v2, v1, v0]) 3 rfl rfl h
theorem zr_X9_count_11 (ls : zLs) (st : List zAV) (s : zAS) (k : Nat × Nat) (x : Int32) : zev zk_X9_count (11, ls, Sum.inl (Value.int x) :: st, s, k) = if decide (x = 0) = true then zev zk_X9_count (22, ls, st, s, k) else zev zk_X9_count (14, ls, st, s, k) := zf_if (f := fun x => decide (x = 0)) rfl
theorem zr_X9_count_14 (a1 : Option zAV) (st : List zAV) (s : zAS) (k : Nat × Nat) (o : Nat × Nat) : zev zk_X9_count (14, [some (Sum.inr o), a1], st, s, k) = zev zk_X9_count (15, [some (Sum.inr o), a1], Sum.inr o :: st, s, k) := zev_go rfl rfl
theorem zr_X9_count_15 (a0 : Option zAV) (st : List zAV) (s : zAS) (k : Nat × Nat) (x : Int32) : zev zk_X9_count (15, [a0, some (Sum.inl (Value.int x))], st, s, k) = zev zk_X9_count (16, [a0, some (Sum.inl (Value.int x))], Sum.inl (Value.int x) :: st, s, k) := zev_go rfl rfl
theorem zr_X9_count_16 (ls : zLs) (st : List zAV) (s : zAS) (k : Nat × Nat) (r v0 : zAV) (h : zcok zEM 9 0 0 (zR_X9_count).cells (zR_X9_count).slots r st k) : zev zk_X9_count (16, ls, v0 :: r :: st, s, k) = zret zk_X9_count 19 ls st (k.1 + 0, k.2 + 0) (m_X9_counted [r, v0] s) := zf_callV (as := [v0]) 1 rfl rfl h
theorem zr_X9_count_19 (ls : zLs) (st : List zAV) (s : zAS) (k : Nat × Nat) : zev zk_X9_count (19, ls, st, s, k) = zev zk_X9_count (27, ls, st, s, k) := zev_go rfl rfl
theorem zr_X9_count_22 (a1 : Option zAV) (st : List zAV) (s : zAS) (k : Nat × Nat) (o : Nat × Nat) : zev zk_X9_count (22, [some (Sum.inr o), a1], st, s, k) = zev zk_X9_count (23, [some (Sum.inr o), a1], Sum.inr o :: st, s, k) := zev_go rfl rfl
theorem zr_X9_count_23 (ls : zLs) (st : List zAV) (s : zAS) (k : Nat × Nat) : zev zk_X9_count (23, ls, st, s, k) = zev zk_X9_count (24, ls, Sum.inl (Value.int (1)) :: st, s, k) := zev_go rfl rfl
theorem zr_X9_count_24 (ls : zLs) (st : List zAV) (s : zAS) (k : Nat × Nat) (r v0 : zAV) (h : zcok zEM 9 0 0 (zR_X9_count).cells (zR_X9_count).slots r st k) : zev zk_X9_count (24, ls, v0 :: r :: st, s, k) = zret zk_X9_count 27 ls st (k.1 + 0, k.2 + 0) (m_X9_fail [r, v0] s) := zf_callV (as := [v0]) 1 rfl rfl h
theorem zr_X9_count_27 (ls : zLs) (s : zAS) (k : Nat × Nat) (x : Int32) : zev zk_X9_count (27, ls, [Sum.inl (Value.int x)], s, k) = some (.inl (some (Sum.inl (Value.int x))), s) := zf_reti rfl
/-! X9_add: PrimePlaneModel.add(IIIIIII)I -/
abbrev zR_X9_add : Room := ({ frames := 8, cells := 1, slots := 11, locals := 186 } : Room)
noncomputable def zl_X9_add : List (Nat × zOp) := [(0, z_ic (11) 2), (2, z_newa (zR_X9_add).cells (zR_X9_add).slots 4), (4, z_dup 5), (5, z_ic (0) 6), (6, z_ldi 1 7), (7, z_iast zEM 8), (8, z_dup 9), (9, z_ic (1) 10), (10, z_ldi 2 11), (11, z_iast zEM 12), (12, z_dup 13), (13, z_ic (2) 14), (14, z_ldi 3 15), (15, z_iast zEM 16), (16, z_dup 17), (17, z_ic (3) 18), (18, z_ldi 4 20), (20, z_iast zEM 21), (21, z_dup 22), (22, z_ic (4) 23), (23, z_ldi 5 25), (25, z_iast zEM 26), (26, z_dup 27), (27, z_ic (5) 28), (28, z_ldi 6 30), (30, z_iast zEM 31), (31, z_dup 32), (32, z_ic (6) 34), (34, z_ldi 7 36), (36, z_iast zEM 37), (37, z_dup 38), (38, z_ic (7) 40), (40, z_ic (0) 41), (41, z_iast zEM 42), (42, z_dup 43), (43, z_ic (8) 45), (45, z_ic (0) 46), (46, z_iast zEM 47), (47, z_dup 48), (48, z_ic (9) 50), (50, z_ic (0) 51), (51, z_iast zEM 52), (52, z_dup 53), (53, z_ic (10) 55), (55, z_ic (0) 56), (56, z_iast zEM 57), (57, z_sta 8 59), (59, z_lda 8 61), (61, z_ic (0) 62), (62, z_lda 0 63), (63, z_get zEM 9 3 66), (66, z_ic (11) 68), (68, z_lda 0 69), (69, z_get zEM 9 2 72), (72, z_bin (fun x y => x * y) 73), (73, z_ic (11) 75), (75, z_acopy zEM 78), (78, z_lda 0 79), (79, z_dup 80), (80, z_get zEM 9 2 83), (83, z_ic (1) 84), (84, z_bin (fun x y => x + y) 85), (85, z_put zEM 9 2 false 88), (88, z_lda 0 89), (89, z_callV zEM 9 m_X9_findAll 0 0 0 (zR_X9_add).cells (zR_X9_add).slots 92), (92, z_lda 0 93), (93, z_get zEM 9 2 96), (96, z_ic (1) 97), (97, z_bin (fun x y => x - y) 98), (98, z_reti false)]
noncomputable def zk_X9_add (pc : Nat) : Option zOp := zlook zl_X9_add pc
noncomputable def m_X9_add : List zAV → zAS → Option zOut := zmeth zk_X9_add 9
set_option maxRecDepth 100000 in
set_option maxHeartbeats 4000000 in
theorem zcs_X9_add {R : Room} (hR : R = zR_X9_add) : ∀ q ∈ zl_X9_add, zS zEM yX9_add.cls cX9_add 9 wsX9_add (some .int) R q.1 q.2 := by
  subst hR
  have hin9 : ∀ w ∈ wsX90, w ∈ wsX9_add := fun w h => List.mem_cons_of_mem _ (List.mem_append_right _ h)
  refine List.forall_mem_cons.mpr ⟨zs_bipush dX9_add_0 (by decide), ?_⟩
  refine List.forall_mem_cons.mpr ⟨zs_newa zEMok (List.mem_of_getElem? (i := 1) rfl) dX9_add_2, ?_⟩
  refine List.forall_mem_cons.mpr ⟨zs_dup dX9_add_4, ?_⟩
  refine List.forall_mem_cons.mpr ⟨zs_iconst dX9_add_5 (by decide), ?_⟩
  refine List.forall_mem_cons.mpr ⟨zs_iload_n dX9_add_6 rfl, ?_⟩
  refine List.forall_mem_cons.mpr ⟨zs_iast dX9_add_7, ?_⟩
  refine List.forall_mem_cons.mpr ⟨zs_dup dX9_add_8, ?_⟩
  refine List.forall_mem_cons.mpr ⟨zs_iconst dX9_add_9 (by decide), ?_⟩
  refine List.forall_mem_cons.mpr ⟨zs_iload_n dX9_add_10 rfl, ?_⟩
  refine List.forall_mem_cons.mpr ⟨zs_iast dX9_add_11, ?_⟩
  refine List.forall_mem_cons.mpr ⟨zs_dup dX9_add_12, ?_⟩
  refine List.forall_mem_cons.mpr ⟨zs_iconst dX9_add_13 (by decide), ?_⟩
  refine List.forall_mem_cons.mpr ⟨zs_iload_n dX9_add_14 rfl, ?_⟩
  refine List.forall_mem_cons.mpr ⟨zs_iast dX9_add_15, ?_⟩
  refine List.forall_mem_cons.mpr ⟨zs_dup dX9_add_16, ?_⟩
  refine List.forall_mem_cons.mpr ⟨zs_iconst dX9_add_17 (by decide), ?_⟩
  refine List.forall_mem_cons.mpr ⟨zs_iload dX9_add_18, ?_⟩
  refine List.forall_mem_cons.mpr ⟨zs_iast dX9_add_20, ?_⟩
  refine List.forall_mem_cons.mpr ⟨zs_dup dX9_add_21, ?_⟩
  refine List.forall_mem_cons.mpr ⟨zs_iconst dX9_add_22 (by decide), ?_⟩
  refine List.forall_mem_cons.mpr ⟨zs_iload dX9_add_23, ?_⟩
  refine List.forall_mem_cons.mpr ⟨zs_iast dX9_add_25, ?_⟩
  refine List.forall_mem_cons.mpr ⟨zs_dup dX9_add_26, ?_⟩
  refine List.forall_mem_cons.mpr ⟨zs_iconst dX9_add_27 (by decide), ?_⟩
  refine List.forall_mem_cons.mpr ⟨zs_iload dX9_add_28, ?_⟩
  refine List.forall_mem_cons.mpr ⟨zs_iast dX9_add_30, ?_⟩
  refine List.forall_mem_cons.mpr ⟨zs_dup dX9_add_31, ?_⟩
  refine List.forall_mem_cons.mpr ⟨zs_bipush dX9_add_32 (by decide), ?_⟩
  refine List.forall_mem_cons.mpr ⟨zs_iload dX9_add_34, ?_⟩
  refine List.forall_mem_cons.mpr ⟨zs_iast dX9_add_36, ?_⟩
  refine List.forall_mem_cons.mpr ⟨zs_dup dX9_add_37, ?_⟩
  refine List.forall_mem_cons.mpr ⟨zs_bipush dX9_add_38 (by decide), ?_⟩
  refine List.forall_mem_cons.mpr ⟨zs_iconst dX9_add_40 (by decide), ?_⟩
  refine List.forall_mem_cons.mpr ⟨zs_iast dX9_add_41, ?_⟩
  refine List.forall_mem_cons.mpr ⟨zs_dup dX9_add_42, ?_⟩
  refine List.forall_mem_cons.mpr ⟨zs_bipush dX9_add_43 (by decide), ?_⟩
  refine List.forall_mem_cons.mpr ⟨zs_iconst dX9_add_45 (by decide), ?_⟩
  refine List.forall_mem_cons.mpr ⟨zs_iast dX9_add_46, ?_⟩
  refine List.forall_mem_cons.mpr ⟨zs_dup dX9_add_47, ?_⟩
  refine List.forall_mem_cons.mpr ⟨zs_bipush dX9_add_48 (by decide), ?_⟩
  refine List.forall_mem_cons.mpr ⟨zs_iconst dX9_add_50 (by decide), ?_⟩
  refine List.forall_mem_cons.mpr ⟨zs_iast dX9_add_51, ?_⟩
  refine List.forall_mem_cons.mpr ⟨zs_dup dX9_add_52, ?_⟩
  refine List.forall_mem_cons.mpr ⟨zs_bipush dX9_add_53 (by decide), ?_⟩
  refine List.forall_mem_cons.mpr ⟨zs_iconst dX9_add_55 (by decide), ?_⟩
  refine List.forall_mem_cons.mpr ⟨zs_iast dX9_add_56, ?_⟩
  refine List.forall_mem_cons.mpr ⟨zs_astore dX9_add_57, ?_⟩
  refine List.forall_mem_cons.mpr ⟨zs_aload dX9_add_59, ?_⟩
  refine List.forall_mem_cons.mpr ⟨zs_iconst dX9_add_61 (by decide), ?_⟩
  refine List.forall_mem_cons.mpr ⟨zs_aload_n dX9_add_62 rfl, ?_⟩
  refine List.forall_mem_cons.mpr ⟨zs_get (ci := 9) (j := 3) (N := 10) (C := RX9) (T := TX9) (index := 13) rfl (by decide) hin9 (List.mem_of_getElem? (i := 2) rfl) dX9_add_63, ?_⟩
  refine List.forall_mem_cons.mpr ⟨zs_bipush dX9_add_66 (by decide), ?_⟩
  refine List.forall_mem_cons.mpr ⟨zs_aload_n dX9_add_68 rfl, ?_⟩
  refine List.forall_mem_cons.mpr ⟨zs_get (ci := 9) (j := 2) (N := 10) (C := RX9) (T := TX9) (index := 32) rfl (by decide) hin9 (List.mem_of_getElem? (i := 3) rfl) dX9_add_69, ?_⟩
  refine List.forall_mem_cons.mpr ⟨zs_imul dX9_add_72, ?_⟩
  refine List.forall_mem_cons.mpr ⟨zs_bipush dX9_add_73 (by decide), ?_⟩
  refine List.forall_mem_cons.mpr ⟨zs_acopy (index := 121) (List.mem_of_getElem? (i := 4) rfl) (List.mem_of_getElem? (i := 5) rfl) (List.mem_of_getElem? (i := 6) rfl) (List.mem_of_getElem? (i := 7) rfl) ⟨by decide, by decide⟩ dX9_add_75, ?_⟩
  refine List.forall_mem_cons.mpr ⟨zs_aload_n dX9_add_78 rfl, ?_⟩
  refine List.forall_mem_cons.mpr ⟨zs_dup dX9_add_79, ?_⟩
  refine List.forall_mem_cons.mpr ⟨zs_get (ci := 9) (j := 2) (N := 10) (C := RX9) (T := TX9) (index := 32) rfl (by decide) hin9 (List.mem_of_getElem? (i := 3) rfl) dX9_add_80, ?_⟩
  refine List.forall_mem_cons.mpr ⟨zs_iconst dX9_add_83 (by decide), ?_⟩
  refine List.forall_mem_cons.mpr ⟨zs_iadd dX9_add_84, ?_⟩
  refine List.forall_mem_cons.mpr ⟨zs_put (ci := 9) (j := 2) (N := 10) (C := RX9) (T := TX9) (index := 32) (b := false) .int tyX9 rfl (by decide) hin9 tyX9_ok nmX9 (List.mem_of_getElem? (i := 3) rfl) rfl (by decide +kernel) zni dX9_add_85, ?_⟩
  refine List.forall_mem_cons.mpr ⟨zs_aload_n dX9_add_88 rfl, ?_⟩
  refine List.forall_mem_cons.mpr ⟨zs_callV (ci := 9) (rm := zR_X9_findAll) (n := 0) rfl zM_X9_findAll gX9_add_X9_findAll rfl (by decide +kernel) ⟨by decide, by decide⟩ dX9_add_89, ?_⟩
  refine List.forall_mem_cons.mpr ⟨zs_aload_n dX9_add_92 rfl, ?_⟩
  refine List.forall_mem_cons.mpr ⟨zs_get (ci := 9) (j := 2) (N := 10) (C := RX9) (T := TX9) (index := 32) rfl (by decide) hin9 (List.mem_of_getElem? (i := 3) rfl) dX9_add_93, ?_⟩
  refine List.forall_mem_cons.mpr ⟨zs_iconst dX9_add_96 (by decide), ?_⟩
  refine List.forall_mem_cons.mpr ⟨zs_isub dX9_add_97, ?_⟩
  refine List.forall_mem_cons.mpr ⟨zs_reti (ty := .int) rfl (fun x h => (zni x h).1) dX9_add_98, ?_⟩
  exact fun _ h => absurd h List.not_mem_nil
theorem zM_X9_add : zMeets zEM yX9_add wsX9_add zR_X9_add m_X9_add := zmeth_M zEMok (zlook_all (zcs_X9_add rfl)) (by decide +kernel) rfl
theorem zr_X9_add_0 (ls : zLs) (st : List zAV) (s : zAS) (k : Nat × Nat) : zev zk_X9_add (0, ls, st, s, k) = zev zk_X9_add (2, ls, Sum.inl (Value.int (11)) :: st, s, k) := zev_go rfl rfl
theorem zr_X9_add_2 (ls : zLs) (st : List zAV) (s : zAS) (k : Nat × Nat) (x : Int32) (h : ¬ x < 0 ∧ x.toNatClampNeg ≤ 100 ∧ k.1 + 1 ≤ (zR_X9_add).cells ∧ k.2 + x.toNatClampNeg ≤ (zR_X9_add).slots ∧ st.all (zfr s.2.length) = true ∧ ls.all (zfr' s.2.length) = true) : zev zk_X9_add (2, ls, Sum.inl (Value.int x) :: st, s, k) = zev zk_X9_add (4, ls, Sum.inr (99, s.2.length) :: st, (s.1, s.2 ++ [(x.toNatClampNeg, fun _ => 0)]), (k.1 + 1, k.2 + x.toNatClampNeg)) := zf_newa rfl h
theorem zr_X9_add_4 (ls : zLs) (st : List zAV) (s : zAS) (k : Nat × Nat) (v : zAV) (hv : zc1 v = true) : zev zk_X9_add (4, ls, v :: st, s, k) = zev zk_X9_add (5, ls, v :: v :: st, s, k) := zf_dup rfl hv
theorem zr_X9_add_5 (ls : zLs) (st : List zAV) (s : zAS) (k : Nat × Nat) : zev zk_X9_add (5, ls, st, s, k) = zev zk_X9_add (6, ls, Sum.inl (Value.int (0)) :: st, s, k) := zev_go rfl rfl
theorem zr_X9_add_6 (a0 a2 a3 a4 a5 a6 a7 a8 : Option zAV) (st : List zAV) (s : zAS) (k : Nat × Nat) (x : Int32) : zev zk_X9_add (6, [a0, some (Sum.inl (Value.int x)), a2, a3, a4, a5, a6, a7, a8], st, s, k) = zev zk_X9_add (7, [a0, some (Sum.inl (Value.int x)), a2, a3, a4, a5, a6, a7, a8], Sum.inl (Value.int x) :: st, s, k) := zev_go rfl rfl
theorem zr_X9_add_7 (ls : zLs) (st : List zAV) (s : zAS) (k : Nat × Nat) (o i : Nat) (j x : Int32) : zev zk_X9_add (7, ls, Sum.inl (Value.int x) :: Sum.inl (Value.int j) :: Sum.inr (o, i) :: st, s, k) = zgo zk_X9_add 8 ls st k (zast zEM o i j x s) := zf_iast rfl
theorem zr_X9_add_8 (ls : zLs) (st : List zAV) (s : zAS) (k : Nat × Nat) (v : zAV) (hv : zc1 v = true) : zev zk_X9_add (8, ls, v :: st, s, k) = zev zk_X9_add (9, ls, v :: v :: st, s, k) := zf_dup rfl hv
theorem zr_X9_add_9 (ls : zLs) (st : List zAV) (s : zAS) (k : Nat × Nat) : zev zk_X9_add (9, ls, st, s, k) = zev zk_X9_add (10, ls, Sum.inl (Value.int (1)) :: st, s, k) := zev_go rfl rfl
theorem zr_X9_add_10 (a0 a1 a3 a4 a5 a6 a7 a8 : Option zAV) (st : List zAV) (s : zAS) (k : Nat × Nat) (x : Int32) : zev zk_X9_add (10, [a0, a1, some (Sum.inl (Value.int x)), a3, a4, a5, a6, a7, a8], st, s, k) = zev zk_X9_add (11, [a0, a1, some (Sum.inl (Value.int x)), a3, a4, a5, a6, a7, a8], Sum.inl (Value.int x) :: st, s, k) := zev_go rfl rfl
theorem zr_X9_add_11 (ls : zLs) (st : List zAV) (s : zAS) (k : Nat × Nat) (o i : Nat) (j x : Int32) : zev zk_X9_add (11, ls, Sum.inl (Value.int x) :: Sum.inl (Value.int j) :: Sum.inr (o, i) :: st, s, k) = zgo zk_X9_add 12 ls st k (zast zEM o i j x s) := zf_iast rfl
theorem zr_X9_add_12 (ls : zLs) (st : List zAV) (s : zAS) (k : Nat × Nat) (v : zAV) (hv : zc1 v = true) : zev zk_X9_add (12, ls, v :: st, s, k) = zev zk_X9_add (13, ls, v :: v :: st, s, k) := zf_dup rfl hv
theorem zr_X9_add_13 (ls : zLs) (st : List zAV) (s : zAS) (k : Nat × Nat) : zev zk_X9_add (13, ls, st, s, k) = zev zk_X9_add (14, ls, Sum.inl (Value.int (2)) :: st, s, k) := zev_go rfl rfl
theorem zr_X9_add_14 (a0 a1 a2 a4 a5 a6 a7 a8 : Option zAV) (st : List zAV) (s : zAS) (k : Nat × Nat) (x : Int32) : zev zk_X9_add (14, [a0, a1, a2, some (Sum.inl (Value.int x)), a4, a5, a6, a7, a8], st, s, k) = zev zk_X9_add (15, [a0, a1, a2, some (Sum.inl (Value.int x)), a4, a5, a6, a7, a8], Sum.inl (Value.int x) :: st, s, k) := zev_go rfl rfl
theorem zr_X9_add_15 (ls : zLs) (st : List zAV) (s : zAS) (k : Nat × Nat) (o i : Nat) (j x : Int32) : zev zk_X9_add (15, ls, Sum.inl (Value.int x) :: Sum.inl (Value.int j) :: Sum.inr (o, i) :: st, s, k) = zgo zk_X9_add 16 ls st k (zast zEM o i j x s) := zf_iast rfl
theorem zr_X9_add_16 (ls : zLs) (st : List zAV) (s : zAS) (k : Nat × Nat) (v : zAV) (hv : zc1 v = true) : zev zk_X9_add (16, ls, v :: st, s, k) = zev zk_X9_add (17, ls, v :: v :: st, s, k) := zf_dup rfl hv
theorem zr_X9_add_17 (ls : zLs) (st : List zAV) (s : zAS) (k : Nat × Nat) : zev zk_X9_add (17, ls, st, s, k) = zev zk_X9_add (18, ls, Sum.inl (Value.int (3)) :: st, s, k) := zev_go rfl rfl
theorem zr_X9_add_18 (a0 a1 a2 a3 a5 a6 a7 a8 : Option zAV) (st : List zAV) (s : zAS) (k : Nat × Nat) (x : Int32) : zev zk_X9_add (18, [a0, a1, a2, a3, some (Sum.inl (Value.int x)), a5, a6, a7, a8], st, s, k) = zev zk_X9_add (20, [a0, a1, a2, a3, some (Sum.inl (Value.int x)), a5, a6, a7, a8], Sum.inl (Value.int x) :: st, s, k) := zev_go rfl rfl
theorem zr_X9_add_20 (ls : zLs) (st : List zAV) (s : zAS) (k : Nat × Nat) (o i : Nat) (j x : Int32) : zev zk_X9_add (20, ls, Sum.inl (Value.int x) :: Sum.inl (Value.int j) :: Sum.inr (o, i) :: st, s, k) = zgo zk_X9_add 21 ls st k (zast zEM o i j x s) := zf_iast rfl
theorem zr_X9_add_21 (ls : zLs) (st : List zAV) (s : zAS) (k : Nat × Nat) (v : zAV) (hv : zc1 v = true) : zev zk_X9_add (21, ls, v :: st, s, k) = zev zk_X9_add (22, ls, v :: v :: st, s, k) := zf_dup rfl hv
theorem zr_X9_add_22 (ls : zLs) (st : List zAV) (s : zAS) (k : Nat × Nat) : zev zk_X9_add (22, ls, st, s, k) = zev zk_X9_add (23, ls, Sum.inl (Value.int (4)) :: st, s, k) := zev_go rfl rfl
theorem zr_X9_add_23 (a0 a1 a2 a3 a4 a6 a7 a8 : Option zAV) (st : List zAV) (s : zAS) (k : Nat × Nat) (x : Int32) : zev zk_X9_add (23, [a0, a1, a2, a3, a4, some (Sum.inl (Value.int x)), a6, a7, a8], st, s, k) = zev zk_X9_add (25, [a0, a1, a2, a3, a4, some (Sum.inl (Value.int x)), a6, a7, a8], Sum.inl (Value.int x) :: st, s, k) := zev_go rfl rfl
theorem zr_X9_add_25 (ls : zLs) (st : List zAV) (s : zAS) (k : Nat × Nat) (o i : Nat) (j x : Int32) : zev zk_X9_add (25, ls, Sum.inl (Value.int x) :: Sum.inl (Value.int j) :: Sum.inr (o, i) :: st, s, k) = zgo zk_X9_add 26 ls st k (zast zEM o i j x s) := zf_iast rfl
theorem zr_X9_add_26 (ls : zLs) (st : List zAV) (s : zAS) (k : Nat × Nat) (v : zAV) (hv : zc1 v = true) : zev zk_X9_add (26, ls, v :: st, s, k) = zev zk_X9_add (27, ls, v :: v :: st, s, k) := zf_dup rfl hv
theorem zr_X9_add_27 (ls : zLs) (st : List zAV) (s : zAS) (k : Nat × Nat) : zev zk_X9_add (27, ls, st, s, k) = zev zk_X9_add (28, ls, Sum.inl (Value.int (5)) :: st, s, k) := zev_go rfl rfl
theorem zr_X9_add_28 (a0 a1 a2 a3 a4 a5 a7 a8 : Option zAV) (st : List zAV) (s : zAS) (k : Nat × Nat) (x : Int32) : zev zk_X9_add (28, [a0, a1, a2, a3, a4, a5, some (Sum.inl (Value.int x)), a7, a8], st, s, k) = zev zk_X9_add (30, [a0, a1, a2, a3, a4, a5, some (Sum.inl (Value.int x)), a7, a8], Sum.inl (Value.int x) :: st, s, k) := zev_go rfl rfl
theorem zr_X9_add_30 (ls : zLs) (st : List zAV) (s : zAS) (k : Nat × Nat) (o i : Nat) (j x : Int32) : zev zk_X9_add (30, ls, Sum.inl (Value.int x) :: Sum.inl (Value.int j) :: Sum.inr (o, i) :: st, s, k) = zgo zk_X9_add 31 ls st k (zast zEM o i j x s) := zf_iast rfl
theorem zr_X9_add_31 (ls : zLs) (st : List zAV) (s : zAS) (k : Nat × Nat) (v : zAV) (hv : zc1 v = true) : zev zk_X9_add (31, ls, v :: st, s, k) = zev zk_X9_add (32, ls, v :: v :: st, s, k) := zf_dup rfl hv
theorem zr_X9_add_32 (ls : zLs) (st : List zAV) (s : zAS) (k : Nat × Nat) : zev zk_X9_add (32, ls, st, s, k) = zev zk_X9_add (34, ls, Sum.inl (Value.int (6)) :: st, s, k) := zev_go rfl rfl
theorem zr_X9_add_34 (a0 a1 a2 a3 a4 a5 a6 a8 : Option zAV) (st : List zAV) (s : zAS) (k : Nat × Nat) (x : Int32) : zev zk_X9_add (34, [a0, a1, a2, a3, a4, a5, a6, some (Sum.inl (Value.int x)), a8], st, s, k) = zev zk_X9_add (36, [a0, a1, a2, a3, a4, a5, a6, some (Sum.inl (Value.int x)), a8], Sum.inl (Value.int x) :: st, s, k) := zev_go rfl rfl
theorem zr_X9_add_36 (ls : zLs) (st : List zAV) (s : zAS) (k : Nat × Nat) (o i : Nat) (j x : Int32) : zev zk_X9_add (36, ls, Sum.inl (Value.int x) :: Sum.inl (Value.int j) :: Sum.inr (o, i) :: st, s, k) = zgo zk_X9_add 37 ls st k (zast zEM o i j x s) := zf_iast rfl
theorem zr_X9_add_37 (ls : zLs) (st : List zAV) (s : zAS) (k : Nat × Nat) (v : zAV) (hv : zc1 v = true) : zev zk_X9_add (37, ls, v :: st, s, k) = zev zk_X9_add (38, ls, v :: v :: st, s, k) := zf_dup rfl hv
theorem zr_X9_add_38 (ls : zLs) (st : List zAV) (s : zAS) (k : Nat × Nat) : zev zk_X9_add (38, ls, st, s, k) = zev zk_X9_add (40, ls, Sum.inl (Value.int (7)) :: st, s, k) := zev_go rfl rfl
theorem zr_X9_add_40 (ls : zLs) (st : List zAV) (s : zAS) (k : Nat × Nat) : zev zk_X9_add (40, ls, st, s, k) = zev zk_X9_add (41, ls, Sum.inl (Value.int (0)) :: st, s, k) := zev_go rfl rfl
theorem zr_X9_add_41 (ls : zLs) (st : List zAV) (s : zAS) (k : Nat × Nat) (o i : Nat) (j x : Int32) : zev zk_X9_add (41, ls, Sum.inl (Value.int x) :: Sum.inl (Value.int j) :: Sum.inr (o, i) :: st, s, k) = zgo zk_X9_add 42 ls st k (zast zEM o i j x s) := zf_iast rfl
theorem zr_X9_add_42 (ls : zLs) (st : List zAV) (s : zAS) (k : Nat × Nat) (v : zAV) (hv : zc1 v = true) : zev zk_X9_add (42, ls, v :: st, s, k) = zev zk_X9_add (43, ls, v :: v :: st, s, k) := zf_dup rfl hv
theorem zr_X9_add_43 (ls : zLs) (st : List zAV) (s : zAS) (k : Nat × Nat) : zev zk_X9_add (43, ls, st, s, k) = zev zk_X9_add (45, ls, Sum.inl (Value.int (8)) :: st, s, k) := zev_go rfl rfl
theorem zr_X9_add_45 (ls : zLs) (st : List zAV) (s : zAS) (k : Nat × Nat) : zev zk_X9_add (45, ls, st, s, k) = zev zk_X9_add (46, ls, Sum.inl (Value.int (0)) :: st, s, k) := zev_go rfl rfl
theorem zr_X9_add_46 (ls : zLs) (st : List zAV) (s : zAS) (k : Nat × Nat) (o i : Nat) (j x : Int32) : zev zk_X9_add (46, ls, Sum.inl (Value.int x) :: Sum.inl (Value.int j) :: Sum.inr (o, i) :: st, s, k) = zgo zk_X9_add 47 ls st k (zast zEM o i j x s) := zf_iast rfl
theorem zr_X9_add_47 (ls : zLs) (st : List zAV) (s : zAS) (k : Nat × Nat) (v : zAV) (hv : zc1 v = true) : zev zk_X9_add (47, ls, v :: st, s, k) = zev zk_X9_add (48, ls, v :: v :: st, s, k) := zf_dup rfl hv
theorem zr_X9_add_48 (ls : zLs) (st : List zAV) (s : zAS) (k : Nat × Nat) : zev zk_X9_add (48, ls, st, s, k) = zev zk_X9_add (50, ls, Sum.inl (Value.int (9)) :: st, s, k) := zev_go rfl rfl
theorem zr_X9_add_50 (ls : zLs) (st : List zAV) (s : zAS) (k : Nat × Nat) : zev zk_X9_add (50, ls, st, s, k) = zev zk_X9_add (51, ls, Sum.inl (Value.int (0)) :: st, s, k) := zev_go rfl rfl
theorem zr_X9_add_51 (ls : zLs) (st : List zAV) (s : zAS) (k : Nat × Nat) (o i : Nat) (j x : Int32) : zev zk_X9_add (51, ls, Sum.inl (Value.int x) :: Sum.inl (Value.int j) :: Sum.inr (o, i) :: st, s, k) = zgo zk_X9_add 52 ls st k (zast zEM o i j x s) := zf_iast rfl
theorem zr_X9_add_52 (ls : zLs) (st : List zAV) (s : zAS) (k : Nat × Nat) (v : zAV) (hv : zc1 v = true) : zev zk_X9_add (52, ls, v :: st, s, k) = zev zk_X9_add (53, ls, v :: v :: st, s, k) := zf_dup rfl hv
theorem zr_X9_add_53 (ls : zLs) (st : List zAV) (s : zAS) (k : Nat × Nat) : zev zk_X9_add (53, ls, st, s, k) = zev zk_X9_add (55, ls, Sum.inl (Value.int (10)) :: st, s, k) := zev_go rfl rfl
theorem zr_X9_add_55 (ls : zLs) (st : List zAV) (s : zAS) (k : Nat × Nat) : zev zk_X9_add (55, ls, st, s, k) = zev zk_X9_add (56, ls, Sum.inl (Value.int (0)) :: st, s, k) := zev_go rfl rfl
theorem zr_X9_add_56 (ls : zLs) (st : List zAV) (s : zAS) (k : Nat × Nat) (o i : Nat) (j x : Int32) : zev zk_X9_add (56, ls, Sum.inl (Value.int x) :: Sum.inl (Value.int j) :: Sum.inr (o, i) :: st, s, k) = zgo zk_X9_add 57 ls st k (zast zEM o i j x s) := zf_iast rfl
theorem zr_X9_add_57 (a0 a1 a2 a3 a4 a5 a6 a7 a8 : Option zAV) (st : List zAV) (s : zAS) (k : Nat × Nat) (o : Nat × Nat) : zev zk_X9_add (57, [a0, a1, a2, a3, a4, a5, a6, a7, a8], Sum.inr o :: st, s, k) = zev zk_X9_add (59, [a0, a1, a2, a3, a4, a5, a6, zk1 a7, some (Sum.inr o)], st, s, k) := zev_go rfl rfl
theorem zr_X9_add_59 (a0 a1 a2 a3 a4 a5 a6 a7 : Option zAV) (st : List zAV) (s : zAS) (k : Nat × Nat) (o : Nat × Nat) : zev zk_X9_add (59, [a0, a1, a2, a3, a4, a5, a6, a7, some (Sum.inr o)], st, s, k) = zev zk_X9_add (61, [a0, a1, a2, a3, a4, a5, a6, a7, some (Sum.inr o)], Sum.inr o :: st, s, k) := zev_go rfl rfl
theorem zr_X9_add_61 (ls : zLs) (st : List zAV) (s : zAS) (k : Nat × Nat) : zev zk_X9_add (61, ls, st, s, k) = zev zk_X9_add (62, ls, Sum.inl (Value.int (0)) :: st, s, k) := zev_go rfl rfl
theorem zr_X9_add_62 (a1 a2 a3 a4 a5 a6 a7 a8 : Option zAV) (st : List zAV) (s : zAS) (k : Nat × Nat) (o : Nat × Nat) : zev zk_X9_add (62, [some (Sum.inr o), a1, a2, a3, a4, a5, a6, a7, a8], st, s, k) = zev zk_X9_add (63, [some (Sum.inr o), a1, a2, a3, a4, a5, a6, a7, a8], Sum.inr o :: st, s, k) := zev_go rfl rfl
theorem zr_X9_add_63 (ls : zLs) (st : List zAV) (s : zAS) (k : Nat × Nat) (o i : Nat) : zev zk_X9_add (63, ls, Sum.inr (o, i) :: st, s, k) = zpush zk_X9_add 66 ls st s k (zgv zEM 9 3 o i s.1) := zf_get rfl
theorem zr_X9_add_66 (ls : zLs) (st : List zAV) (s : zAS) (k : Nat × Nat) : zev zk_X9_add (66, ls, st, s, k) = zev zk_X9_add (68, ls, Sum.inl (Value.int (11)) :: st, s, k) := zev_go rfl rfl
theorem zr_X9_add_68 (a1 a2 a3 a4 a5 a6 a7 a8 : Option zAV) (st : List zAV) (s : zAS) (k : Nat × Nat) (o : Nat × Nat) : zev zk_X9_add (68, [some (Sum.inr o), a1, a2, a3, a4, a5, a6, a7, a8], st, s, k) = zev zk_X9_add (69, [some (Sum.inr o), a1, a2, a3, a4, a5, a6, a7, a8], Sum.inr o :: st, s, k) := zev_go rfl rfl
theorem zr_X9_add_69 (ls : zLs) (st : List zAV) (s : zAS) (k : Nat × Nat) (o i : Nat) : zev zk_X9_add (69, ls, Sum.inr (o, i) :: st, s, k) = zpush zk_X9_add 72 ls st s k (zgv zEM 9 2 o i s.1) := zf_get rfl
theorem zr_X9_add_72 (ls : zLs) (st : List zAV) (s : zAS) (k : Nat × Nat) (x y : Int32) : zev zk_X9_add (72, ls, Sum.inl (Value.int y) :: Sum.inl (Value.int x) :: st, s, k) = zev zk_X9_add (73, ls, Sum.inl (Value.int (x * y)) :: st, s, k) := zev_go rfl rfl
theorem zr_X9_add_73 (ls : zLs) (st : List zAV) (s : zAS) (k : Nat × Nat) : zev zk_X9_add (73, ls, st, s, k) = zev zk_X9_add (75, ls, Sum.inl (Value.int (11)) :: st, s, k) := zev_go rfl rfl
theorem zr_X9_add_75 (ls : zLs) (st : List zAV) (s : zAS) (k : Nat × Nat) : zev zk_X9_add (75, ls, st, s, k) = zcont zk_X9_add (z_acopy zEM 78 ls st s k) := zev_step rfl _ _ _ _
theorem zr_X9_add_78 (a1 a2 a3 a4 a5 a6 a7 a8 : Option zAV) (st : List zAV) (s : zAS) (k : Nat × Nat) (o : Nat × Nat) : zev zk_X9_add (78, [some (Sum.inr o), a1, a2, a3, a4, a5, a6, a7, a8], st, s, k) = zev zk_X9_add (79, [some (Sum.inr o), a1, a2, a3, a4, a5, a6, a7, a8], Sum.inr o :: st, s, k) := zev_go rfl rfl
theorem zr_X9_add_79 (ls : zLs) (st : List zAV) (s : zAS) (k : Nat × Nat) (v : zAV) (hv : zc1 v = true) : zev zk_X9_add (79, ls, v :: st, s, k) = zev zk_X9_add (80, ls, v :: v :: st, s, k) := zf_dup rfl hv
theorem zr_X9_add_80 (ls : zLs) (st : List zAV) (s : zAS) (k : Nat × Nat) (o i : Nat) : zev zk_X9_add (80, ls, Sum.inr (o, i) :: st, s, k) = zpush zk_X9_add 83 ls st s k (zgv zEM 9 2 o i s.1) := zf_get rfl
theorem zr_X9_add_83 (ls : zLs) (st : List zAV) (s : zAS) (k : Nat × Nat) : zev zk_X9_add (83, ls, st, s, k) = zev zk_X9_add (84, ls, Sum.inl (Value.int (1)) :: st, s, k) := zev_go rfl rfl
theorem zr_X9_add_84 (ls : zLs) (st : List zAV) (s : zAS) (k : Nat × Nat) (x y : Int32) : zev zk_X9_add (84, ls, Sum.inl (Value.int y) :: Sum.inl (Value.int x) :: st, s, k) = zev zk_X9_add (85, ls, Sum.inl (Value.int (x + y)) :: st, s, k) := zev_go rfl rfl
theorem zr_X9_add_85 (ls : zLs) (st : List zAV) (s : zAS) (k : Nat × Nat) (o i : Nat) (x : Int32) (h : zpok zEM 9 2 false o i x) : zev zk_X9_add (85, ls, Sum.inl (Value.int x) :: Sum.inr (o, i) :: st, s, k) = zev zk_X9_add (88, ls, st, (zup s.1 o i 2 x, s.2), k) := zf_put rfl h
theorem zr_X9_add_88 (a1 a2 a3 a4 a5 a6 a7 a8 : Option zAV) (st : List zAV) (s : zAS) (k : Nat × Nat) (o : Nat × Nat) : zev zk_X9_add (88, [some (Sum.inr o), a1, a2, a3, a4, a5, a6, a7, a8], st, s, k) = zev zk_X9_add (89, [some (Sum.inr o), a1, a2, a3, a4, a5, a6, a7, a8], Sum.inr o :: st, s, k) := zev_go rfl rfl
theorem zr_X9_add_89 (ls : zLs) (st : List zAV) (s : zAS) (k : Nat × Nat) (r : zAV) (h : zcok zEM 9 0 0 (zR_X9_add).cells (zR_X9_add).slots r st k) : zev zk_X9_add (89, ls, r :: st, s, k) = zret zk_X9_add 92 ls st (k.1 + 0, k.2 + 0) (m_X9_findAll [r] s) := zf_callV (as := []) 0 rfl rfl h
theorem zr_X9_add_92 (a1 a2 a3 a4 a5 a6 a7 a8 : Option zAV) (st : List zAV) (s : zAS) (k : Nat × Nat) (o : Nat × Nat) : zev zk_X9_add (92, [some (Sum.inr o), a1, a2, a3, a4, a5, a6, a7, a8], st, s, k) = zev zk_X9_add (93, [some (Sum.inr o), a1, a2, a3, a4, a5, a6, a7, a8], Sum.inr o :: st, s, k) := zev_go rfl rfl
theorem zr_X9_add_93 (ls : zLs) (st : List zAV) (s : zAS) (k : Nat × Nat) (o i : Nat) : zev zk_X9_add (93, ls, Sum.inr (o, i) :: st, s, k) = zpush zk_X9_add 96 ls st s k (zgv zEM 9 2 o i s.1) := zf_get rfl
theorem zr_X9_add_96 (ls : zLs) (st : List zAV) (s : zAS) (k : Nat × Nat) : zev zk_X9_add (96, ls, st, s, k) = zev zk_X9_add (97, ls, Sum.inl (Value.int (1)) :: st, s, k) := zev_go rfl rfl
theorem zr_X9_add_97 (ls : zLs) (st : List zAV) (s : zAS) (k : Nat × Nat) (x y : Int32) : zev zk_X9_add (97, ls, Sum.inl (Value.int y) :: Sum.inl (Value.int x) :: st, s, k) = zev zk_X9_add (98, ls, Sum.inl (Value.int (x - y)) :: st, s, k) := zev_go rfl rfl
theorem zr_X9_add_98 (ls : zLs) (s : zAS) (k : Nat × Nat) (x : Int32) : zev zk_X9_add (98, ls, [Sum.inl (Value.int x)], s, k) = some (.inl (some (Sum.inl (Value.int x))), s) := zf_reti rfl
/-! X9_isPlace: PrimePlaneModel.isPlace(ZII)Z -/
abbrev zR_X9_isPlace : Room := ({ frames := 1, cells := 0, slots := 0, locals := 22 } : Room)
noncomputable def zl_X9_isPlace : List (Nat × zOp) := [(0, z_ldi 2 1), (1, z_ic (0) 2), (2, z_lda 0 3), (3, z_get zEM 9 1 6), (6, z_ic (1) 7), (7, z_bin (fun x y => x - y) 8), (8, z_callS m_X9_isIn 3 0 0 (zR_X9_isPlace).cells (zR_X9_isPlace).slots 11), (11, z_if (fun x => decide (x = 0)) 36 14), (14, z_ldi 1 15), (15, z_if (fun x => decide (x = 0)) 32 18), (18, z_ldi 3 19), (19, z_ic (0) 20), (20, z_lda 0 21), (21, z_get zEM 9 1 24), (24, z_ic (1) 25), (25, z_bin (fun x y => x - y) 26), (26, z_callS m_X9_isIn 3 0 0 (zR_X9_isPlace).cells (zR_X9_isPlace).slots 29), (29, z_if (fun x => decide (x = 0)) 36 32), (32, z_ic (1) 33), (33, z_goto 37), (36, z_ic (0) 37), (37, z_reti true)]
noncomputable def zk_X9_isPlace (pc : Nat) : Option zOp := zlook zl_X9_isPlace pc
noncomputable def m_X9_isPlace : List zAV → zAS → Option zOut := zmeth zk_X9_isPlace 4
set_option maxRecDepth 100000 in
set_option maxHeartbeats 4000000 in
theorem zcs_X9_isPlace {R : Room} (hR : R = zR_X9_isPlace) : ∀ q ∈ zl_X9_isPlace, zS zEM yX9_isPlace.cls cX9_isPlace 4 wsX9_isPlace (some .boolean) R q.1 q.2 := by
  subst hR
  have hin9 : ∀ w ∈ wsX90, w ∈ wsX9_isPlace := fun w h => List.mem_cons_of_mem _ (List.mem_append_right _ h)
  refine List.forall_mem_cons.mpr ⟨zs_iload_n dX9_isPlace_0 rfl, ?_⟩
  refine List.forall_mem_cons.mpr ⟨zs_iconst dX9_isPlace_1 (by decide), ?_⟩
  refine List.forall_mem_cons.mpr ⟨zs_aload_n dX9_isPlace_2 rfl, ?_⟩
  refine List.forall_mem_cons.mpr ⟨zs_get (ci := 9) (j := 1) (N := 10) (C := RX9) (T := TX9) (index := 7) rfl (by decide) hin9 (List.mem_of_getElem? (i := 1) rfl) dX9_isPlace_3, ?_⟩
  refine List.forall_mem_cons.mpr ⟨zs_iconst dX9_isPlace_6 (by decide), ?_⟩
  refine List.forall_mem_cons.mpr ⟨zs_isub dX9_isPlace_7, ?_⟩
  refine List.forall_mem_cons.mpr ⟨zs_callS (rm := zR_X9_isIn) (n := 3) zM_X9_isIn gX9_isPlace_X9_isIn rfl (by decide +kernel) ⟨by decide, by decide⟩ dX9_isPlace_8, ?_⟩
  refine List.forall_mem_cons.mpr ⟨zs_ifeq dX9_isPlace_11 (by decide), ?_⟩
  refine List.forall_mem_cons.mpr ⟨zs_iload_n dX9_isPlace_14 rfl, ?_⟩
  refine List.forall_mem_cons.mpr ⟨zs_ifeq dX9_isPlace_15 (by decide), ?_⟩
  refine List.forall_mem_cons.mpr ⟨zs_iload_n dX9_isPlace_18 rfl, ?_⟩
  refine List.forall_mem_cons.mpr ⟨zs_iconst dX9_isPlace_19 (by decide), ?_⟩
  refine List.forall_mem_cons.mpr ⟨zs_aload_n dX9_isPlace_20 rfl, ?_⟩
  refine List.forall_mem_cons.mpr ⟨zs_get (ci := 9) (j := 1) (N := 10) (C := RX9) (T := TX9) (index := 7) rfl (by decide) hin9 (List.mem_of_getElem? (i := 1) rfl) dX9_isPlace_21, ?_⟩
  refine List.forall_mem_cons.mpr ⟨zs_iconst dX9_isPlace_24 (by decide), ?_⟩
  refine List.forall_mem_cons.mpr ⟨zs_isub dX9_isPlace_25, ?_⟩
  refine List.forall_mem_cons.mpr ⟨zs_callS (rm := zR_X9_isIn) (n := 3) zM_X9_isIn gX9_isPlace_X9_isIn rfl (by decide +kernel) ⟨by decide, by decide⟩ dX9_isPlace_26, ?_⟩
  refine List.forall_mem_cons.mpr ⟨zs_ifeq dX9_isPlace_29 (by decide), ?_⟩
  refine List.forall_mem_cons.mpr ⟨zs_iconst dX9_isPlace_32 (by decide), ?_⟩
  refine List.forall_mem_cons.mpr ⟨zs_goto dX9_isPlace_33 (by decide), ?_⟩
  refine List.forall_mem_cons.mpr ⟨zs_iconst dX9_isPlace_36 (by decide), ?_⟩
  refine List.forall_mem_cons.mpr ⟨zs_reti (ty := .boolean) rfl (fun x h => (znz x h).1) dX9_isPlace_37, ?_⟩
  exact fun _ h => absurd h List.not_mem_nil
theorem zM_X9_isPlace : zMeets zEM yX9_isPlace wsX9_isPlace zR_X9_isPlace m_X9_isPlace := zmeth_M zEMok (zlook_all (zcs_X9_isPlace rfl)) (by decide +kernel) rfl
theorem zr_X9_isPlace_0 (a0 a1 a3 : Option zAV) (st : List zAV) (s : zAS) (k : Nat × Nat) (x : Int32) : zev zk_X9_isPlace (0, [a0, a1, some (Sum.inl (Value.int x)), a3], st, s, k) = zev zk_X9_isPlace (1, [a0, a1, some (Sum.inl (Value.int x)), a3], Sum.inl (Value.int x) :: st, s, k) := zev_go rfl rfl
theorem zr_X9_isPlace_1 (ls : zLs) (st : List zAV) (s : zAS) (k : Nat × Nat) : zev zk_X9_isPlace (1, ls, st, s, k) = zev zk_X9_isPlace (2, ls, Sum.inl (Value.int (0)) :: st, s, k) := zev_go rfl rfl
theorem zr_X9_isPlace_2 (a1 a2 a3 : Option zAV) (st : List zAV) (s : zAS) (k : Nat × Nat) (o : Nat × Nat) : zev zk_X9_isPlace (2, [some (Sum.inr o), a1, a2, a3], st, s, k) = zev zk_X9_isPlace (3, [some (Sum.inr o), a1, a2, a3], Sum.inr o :: st, s, k) := zev_go rfl rfl
theorem zr_X9_isPlace_3 (ls : zLs) (st : List zAV) (s : zAS) (k : Nat × Nat) (o i : Nat) : zev zk_X9_isPlace (3, ls, Sum.inr (o, i) :: st, s, k) = zpush zk_X9_isPlace 6 ls st s k (zgv zEM 9 1 o i s.1) := zf_get rfl
theorem zr_X9_isPlace_6 (ls : zLs) (st : List zAV) (s : zAS) (k : Nat × Nat) : zev zk_X9_isPlace (6, ls, st, s, k) = zev zk_X9_isPlace (7, ls, Sum.inl (Value.int (1)) :: st, s, k) := zev_go rfl rfl
theorem zr_X9_isPlace_7 (ls : zLs) (st : List zAV) (s : zAS) (k : Nat × Nat) (x y : Int32) : zev zk_X9_isPlace (7, ls, Sum.inl (Value.int y) :: Sum.inl (Value.int x) :: st, s, k) = zev zk_X9_isPlace (8, ls, Sum.inl (Value.int (x - y)) :: st, s, k) := zev_go rfl rfl
theorem zr_X9_isPlace_8 (ls : zLs) (st : List zAV) (s : zAS) (k : Nat × Nat) (v0 v1 v2 : zAV) (h : (st.map zcat).sum ≤ 8 ∧ k.1 + 0 ≤ (zR_X9_isPlace).cells ∧ k.2 + 0 ≤ (zR_X9_isPlace).slots) : zev zk_X9_isPlace (8, ls, v2 :: v1 :: v0 :: st, s, k) = zret zk_X9_isPlace 11 ls st (k.1 + 0, k.2 + 0) (m_X9_isIn [v0, v1, v2] s) := zf_callS (as := [v2, v1, v0]) 3 rfl rfl h
theorem zr_X9_isPlace_11 (ls : zLs) (st : List zAV) (s : zAS) (k : Nat × Nat) (x : Int32) : zev zk_X9_isPlace (11, ls, Sum.inl (Value.int x) :: st, s, k) = if decide (x = 0) = true then zev zk_X9_isPlace (36, ls, st, s, k) else zev zk_X9_isPlace (14, ls, st, s, k) := zf_if (f := fun x => decide (x = 0)) rfl
theorem zr_X9_isPlace_14 (a0 a2 a3 : Option zAV) (st : List zAV) (s : zAS) (k : Nat × Nat) (x : Int32) : zev zk_X9_isPlace (14, [a0, some (Sum.inl (Value.int x)), a2, a3], st, s, k) = zev zk_X9_isPlace (15, [a0, some (Sum.inl (Value.int x)), a2, a3], Sum.inl (Value.int x) :: st, s, k) := zev_go rfl rfl
theorem zr_X9_isPlace_15 (ls : zLs) (st : List zAV) (s : zAS) (k : Nat × Nat) (x : Int32) : zev zk_X9_isPlace (15, ls, Sum.inl (Value.int x) :: st, s, k) = if decide (x = 0) = true then zev zk_X9_isPlace (32, ls, st, s, k) else zev zk_X9_isPlace (18, ls, st, s, k) := zf_if (f := fun x => decide (x = 0)) rfl
theorem zr_X9_isPlace_18 (a0 a1 a2 : Option zAV) (st : List zAV) (s : zAS) (k : Nat × Nat) (x : Int32) : zev zk_X9_isPlace (18, [a0, a1, a2, some (Sum.inl (Value.int x))], st, s, k) = zev zk_X9_isPlace (19, [a0, a1, a2, some (Sum.inl (Value.int x))], Sum.inl (Value.int x) :: st, s, k) := zev_go rfl rfl
theorem zr_X9_isPlace_19 (ls : zLs) (st : List zAV) (s : zAS) (k : Nat × Nat) : zev zk_X9_isPlace (19, ls, st, s, k) = zev zk_X9_isPlace (20, ls, Sum.inl (Value.int (0)) :: st, s, k) := zev_go rfl rfl
theorem zr_X9_isPlace_20 (a1 a2 a3 : Option zAV) (st : List zAV) (s : zAS) (k : Nat × Nat) (o : Nat × Nat) : zev zk_X9_isPlace (20, [some (Sum.inr o), a1, a2, a3], st, s, k) = zev zk_X9_isPlace (21, [some (Sum.inr o), a1, a2, a3], Sum.inr o :: st, s, k) := zev_go rfl rfl
theorem zr_X9_isPlace_21 (ls : zLs) (st : List zAV) (s : zAS) (k : Nat × Nat) (o i : Nat) : zev zk_X9_isPlace (21, ls, Sum.inr (o, i) :: st, s, k) = zpush zk_X9_isPlace 24 ls st s k (zgv zEM 9 1 o i s.1) := zf_get rfl
theorem zr_X9_isPlace_24 (ls : zLs) (st : List zAV) (s : zAS) (k : Nat × Nat) : zev zk_X9_isPlace (24, ls, st, s, k) = zev zk_X9_isPlace (25, ls, Sum.inl (Value.int (1)) :: st, s, k) := zev_go rfl rfl
theorem zr_X9_isPlace_25 (ls : zLs) (st : List zAV) (s : zAS) (k : Nat × Nat) (x y : Int32) : zev zk_X9_isPlace (25, ls, Sum.inl (Value.int y) :: Sum.inl (Value.int x) :: st, s, k) = zev zk_X9_isPlace (26, ls, Sum.inl (Value.int (x - y)) :: st, s, k) := zev_go rfl rfl
theorem zr_X9_isPlace_26 (ls : zLs) (st : List zAV) (s : zAS) (k : Nat × Nat) (v0 v1 v2 : zAV) (h : (st.map zcat).sum ≤ 8 ∧ k.1 + 0 ≤ (zR_X9_isPlace).cells ∧ k.2 + 0 ≤ (zR_X9_isPlace).slots) : zev zk_X9_isPlace (26, ls, v2 :: v1 :: v0 :: st, s, k) = zret zk_X9_isPlace 29 ls st (k.1 + 0, k.2 + 0) (m_X9_isIn [v0, v1, v2] s) := zf_callS (as := [v2, v1, v0]) 3 rfl rfl h
theorem zr_X9_isPlace_29 (ls : zLs) (st : List zAV) (s : zAS) (k : Nat × Nat) (x : Int32) : zev zk_X9_isPlace (29, ls, Sum.inl (Value.int x) :: st, s, k) = if decide (x = 0) = true then zev zk_X9_isPlace (36, ls, st, s, k) else zev zk_X9_isPlace (32, ls, st, s, k) := zf_if (f := fun x => decide (x = 0)) rfl
theorem zr_X9_isPlace_32 (ls : zLs) (st : List zAV) (s : zAS) (k : Nat × Nat) : zev zk_X9_isPlace (32, ls, st, s, k) = zev zk_X9_isPlace (33, ls, Sum.inl (Value.int (1)) :: st, s, k) := zev_go rfl rfl
theorem zr_X9_isPlace_33 (ls : zLs) (st : List zAV) (s : zAS) (k : Nat × Nat) : zev zk_X9_isPlace (33, ls, st, s, k) = zev zk_X9_isPlace (37, ls, st, s, k) := zev_go rfl rfl
theorem zr_X9_isPlace_36 (ls : zLs) (st : List zAV) (s : zAS) (k : Nat × Nat) : zev zk_X9_isPlace (36, ls, st, s, k) = zev zk_X9_isPlace (37, ls, Sum.inl (Value.int (0)) :: st, s, k) := zev_go rfl rfl
theorem zr_X9_isPlace_37 (ls : zLs) (s : zAS) (k : Nat × Nat) (x : Int32) (hx : x = 0 ∨ x = 1) : zev zk_X9_isPlace (37, ls, [Sum.inl (Value.int x)], s, k) = some (.inl (some (Sum.inl (Value.int x))), s) := zf_retz rfl hx
/-! X9_point: PrimePlaneModel.point(III)I -/
abbrev zR_X9_point : Room := ({ frames := 9, cells := 1, slots := 11, locals := 214 } : Room)
noncomputable def zl_X9_point : List (Nat × zOp) := [(0, z_lda 0 1), (1, z_ic (0) 2), (2, z_put zEM 9 0 false 5), (5, z_ldi 1 6), (6, z_ic (-1) 7), (7, z_cmp (fun x y => decide (x = y)) 24 10), (10, z_lda 0 11), (11, z_ldi 1 12), (12, z_callV zEM 9 m_X9_isObject 1 0 0 (zR_X9_point).cells (zR_X9_point).slots 15), (15, z_if (fun x => decide (¬ x = 0)) 24 18), (18, z_lda 0 19), (19, z_ic (1) 20), (20, z_callV zEM 9 m_X9_fail 1 0 0 (zR_X9_point).cells (zR_X9_point).slots 23), (23, z_reti false), (24, z_ldi 1 25), (25, z_ic (-1) 26), (26, z_cmp (fun x y => decide (x = y)) 38 29), (29, z_lda 0 30), (30, z_ldi 1 31), (31, z_callV zEM 9 m_X9_sort 1 0 0 (zR_X9_point).cells (zR_X9_point).slots 34), (34, z_ic (1) 35), (35, z_cmp (fun x y => decide (¬ x = y)) 57 38), (38, z_lda 0 39), (39, z_ldi 1 40), (40, z_ic (-1) 41), (41, z_cmp (fun x y => decide (¬ x = y)) 48 44), (44, z_ic (1) 45), (45, z_goto 49), (48, z_ic (0) 49), (49, z_ldi 2 50), (50, z_ldi 3 51), (51, z_callV zEM 9 m_X9_isPlace 3 0 0 (zR_X9_point).cells (zR_X9_point).slots 54), (54, z_if (fun x => decide (¬ x = 0)) 63 57), (57, z_lda 0 58), (58, z_ic (2) 59), (59, z_callV zEM 9 m_X9_fail 1 0 0 (zR_X9_point).cells (zR_X9_point).slots 62), (62, z_reti false), (63, z_lda 0 64), (64, z_get zEM 9 2 67), (67, z_ic (40) 69), (69, z_cmp (fun x y => decide (¬ x = y)) 78 72), (72, z_lda 0 73), (73, z_ic (3) 74), (74, z_callV zEM 9 m_X9_fail 1 0 0 (zR_X9_point).cells (zR_X9_point).slots 77), (77, z_reti false), (78, z_lda 0 79), (79, z_ic (0) 80), (80, z_ldi 1 81), (81, z_ic (-1) 82), (82, z_cmp (fun x y => decide (¬ x = y)) 89 85), (85, z_ic (0) 86), (86, z_goto 90), (89, z_ic (1) 90), (90, z_ldi 1 91), (91, z_ic (-1) 92), (92, z_ic (-1) 93), (93, z_ldi 2 94), (94, z_ldi 3 95), (95, z_callV zEM 9 m_X9_add 7 1 11 (zR_X9_point).cells (zR_X9_point).slots 98), (98, z_reti false)]
noncomputable def zk_X9_point (pc : Nat) : Option zOp := zlook zl_X9_point pc
noncomputable def m_X9_point : List zAV → zAS → Option zOut := zmeth zk_X9_point 4
set_option maxRecDepth 100000 in
set_option maxHeartbeats 4000000 in
theorem zcs_X9_point {R : Room} (hR : R = zR_X9_point) : ∀ q ∈ zl_X9_point, zS zEM yX9_point.cls cX9_point 4 wsX9_point (some .int) R q.1 q.2 := by
  subst hR
  have hin9 : ∀ w ∈ wsX90, w ∈ wsX9_point := fun w h => List.mem_cons_of_mem _ (List.mem_append_right _ h)
  refine List.forall_mem_cons.mpr ⟨zs_aload_n dX9_point_0 rfl, ?_⟩
  refine List.forall_mem_cons.mpr ⟨zs_iconst dX9_point_1 (by decide), ?_⟩
  refine List.forall_mem_cons.mpr ⟨zs_put (ci := 9) (j := 0) (N := 10) (C := RX9) (T := TX9) (index := 29) (b := false) .int tyX9 rfl (by decide) hin9 tyX9_ok nmX9 (List.mem_of_getElem? (i := 1) rfl) rfl (by decide +kernel) zni dX9_point_2, ?_⟩
  refine List.forall_mem_cons.mpr ⟨zs_iload_n dX9_point_5 rfl, ?_⟩
  refine List.forall_mem_cons.mpr ⟨zs_iconst dX9_point_6 (by decide), ?_⟩
  refine List.forall_mem_cons.mpr ⟨zs_iceq dX9_point_7 (by decide), ?_⟩
  refine List.forall_mem_cons.mpr ⟨zs_aload_n dX9_point_10 rfl, ?_⟩
  refine List.forall_mem_cons.mpr ⟨zs_iload_n dX9_point_11 rfl, ?_⟩
  refine List.forall_mem_cons.mpr ⟨zs_callV (ci := 9) (rm := zR_X9_isObject) (n := 1) rfl zM_X9_isObject gX9_point_X9_isObject rfl (by decide +kernel) ⟨by decide, by decide⟩ dX9_point_12, ?_⟩
  refine List.forall_mem_cons.mpr ⟨zs_ifne dX9_point_15 (by decide), ?_⟩
  refine List.forall_mem_cons.mpr ⟨zs_aload_n dX9_point_18 rfl, ?_⟩
  refine List.forall_mem_cons.mpr ⟨zs_iconst dX9_point_19 (by decide), ?_⟩
  refine List.forall_mem_cons.mpr ⟨zs_callV (ci := 9) (rm := zR_X9_fail) (n := 1) rfl zM_X9_fail gX9_point_X9_fail rfl (by decide +kernel) ⟨by decide, by decide⟩ dX9_point_20, ?_⟩
  refine List.forall_mem_cons.mpr ⟨zs_reti (ty := .int) rfl (fun x h => (zni x h).1) dX9_point_23, ?_⟩
  refine List.forall_mem_cons.mpr ⟨zs_iload_n dX9_point_24 rfl, ?_⟩
  refine List.forall_mem_cons.mpr ⟨zs_iconst dX9_point_25 (by decide), ?_⟩
  refine List.forall_mem_cons.mpr ⟨zs_iceq dX9_point_26 (by decide), ?_⟩
  refine List.forall_mem_cons.mpr ⟨zs_aload_n dX9_point_29 rfl, ?_⟩
  refine List.forall_mem_cons.mpr ⟨zs_iload_n dX9_point_30 rfl, ?_⟩
  refine List.forall_mem_cons.mpr ⟨zs_callV (ci := 9) (rm := zR_X9_sort) (n := 1) rfl zM_X9_sort gX9_point_X9_sort rfl (by decide +kernel) ⟨by decide, by decide⟩ dX9_point_31, ?_⟩
  refine List.forall_mem_cons.mpr ⟨zs_iconst dX9_point_34 (by decide), ?_⟩
  refine List.forall_mem_cons.mpr ⟨zs_icne dX9_point_35 (by decide), ?_⟩
  refine List.forall_mem_cons.mpr ⟨zs_aload_n dX9_point_38 rfl, ?_⟩
  refine List.forall_mem_cons.mpr ⟨zs_iload_n dX9_point_39 rfl, ?_⟩
  refine List.forall_mem_cons.mpr ⟨zs_iconst dX9_point_40 (by decide), ?_⟩
  refine List.forall_mem_cons.mpr ⟨zs_icne dX9_point_41 (by decide), ?_⟩
  refine List.forall_mem_cons.mpr ⟨zs_iconst dX9_point_44 (by decide), ?_⟩
  refine List.forall_mem_cons.mpr ⟨zs_goto dX9_point_45 (by decide), ?_⟩
  refine List.forall_mem_cons.mpr ⟨zs_iconst dX9_point_48 (by decide), ?_⟩
  refine List.forall_mem_cons.mpr ⟨zs_iload_n dX9_point_49 rfl, ?_⟩
  refine List.forall_mem_cons.mpr ⟨zs_iload_n dX9_point_50 rfl, ?_⟩
  refine List.forall_mem_cons.mpr ⟨zs_callV (ci := 9) (rm := zR_X9_isPlace) (n := 3) rfl zM_X9_isPlace gX9_point_X9_isPlace rfl (by decide +kernel) ⟨by decide, by decide⟩ dX9_point_51, ?_⟩
  refine List.forall_mem_cons.mpr ⟨zs_ifne dX9_point_54 (by decide), ?_⟩
  refine List.forall_mem_cons.mpr ⟨zs_aload_n dX9_point_57 rfl, ?_⟩
  refine List.forall_mem_cons.mpr ⟨zs_iconst dX9_point_58 (by decide), ?_⟩
  refine List.forall_mem_cons.mpr ⟨zs_callV (ci := 9) (rm := zR_X9_fail) (n := 1) rfl zM_X9_fail gX9_point_X9_fail rfl (by decide +kernel) ⟨by decide, by decide⟩ dX9_point_59, ?_⟩
  refine List.forall_mem_cons.mpr ⟨zs_reti (ty := .int) rfl (fun x h => (zni x h).1) dX9_point_62, ?_⟩
  refine List.forall_mem_cons.mpr ⟨zs_aload_n dX9_point_63 rfl, ?_⟩
  refine List.forall_mem_cons.mpr ⟨zs_get (ci := 9) (j := 2) (N := 10) (C := RX9) (T := TX9) (index := 32) rfl (by decide) hin9 (List.mem_of_getElem? (i := 2) rfl) dX9_point_64, ?_⟩
  refine List.forall_mem_cons.mpr ⟨zs_bipush dX9_point_67 (by decide), ?_⟩
  refine List.forall_mem_cons.mpr ⟨zs_icne dX9_point_69 (by decide), ?_⟩
  refine List.forall_mem_cons.mpr ⟨zs_aload_n dX9_point_72 rfl, ?_⟩
  refine List.forall_mem_cons.mpr ⟨zs_iconst dX9_point_73 (by decide), ?_⟩
  refine List.forall_mem_cons.mpr ⟨zs_callV (ci := 9) (rm := zR_X9_fail) (n := 1) rfl zM_X9_fail gX9_point_X9_fail rfl (by decide +kernel) ⟨by decide, by decide⟩ dX9_point_74, ?_⟩
  refine List.forall_mem_cons.mpr ⟨zs_reti (ty := .int) rfl (fun x h => (zni x h).1) dX9_point_77, ?_⟩
  refine List.forall_mem_cons.mpr ⟨zs_aload_n dX9_point_78 rfl, ?_⟩
  refine List.forall_mem_cons.mpr ⟨zs_iconst dX9_point_79 (by decide), ?_⟩
  refine List.forall_mem_cons.mpr ⟨zs_iload_n dX9_point_80 rfl, ?_⟩
  refine List.forall_mem_cons.mpr ⟨zs_iconst dX9_point_81 (by decide), ?_⟩
  refine List.forall_mem_cons.mpr ⟨zs_icne dX9_point_82 (by decide), ?_⟩
  refine List.forall_mem_cons.mpr ⟨zs_iconst dX9_point_85 (by decide), ?_⟩
  refine List.forall_mem_cons.mpr ⟨zs_goto dX9_point_86 (by decide), ?_⟩
  refine List.forall_mem_cons.mpr ⟨zs_iconst dX9_point_89 (by decide), ?_⟩
  refine List.forall_mem_cons.mpr ⟨zs_iload_n dX9_point_90 rfl, ?_⟩
  refine List.forall_mem_cons.mpr ⟨zs_iconst dX9_point_91 (by decide), ?_⟩
  refine List.forall_mem_cons.mpr ⟨zs_iconst dX9_point_92 (by decide), ?_⟩
  refine List.forall_mem_cons.mpr ⟨zs_iload_n dX9_point_93 rfl, ?_⟩
  refine List.forall_mem_cons.mpr ⟨zs_iload_n dX9_point_94 rfl, ?_⟩
  refine List.forall_mem_cons.mpr ⟨zs_callV (ci := 9) (rm := zR_X9_add) (n := 7) rfl zM_X9_add gX9_point_X9_add rfl (by decide +kernel) ⟨by decide, by decide⟩ dX9_point_95, ?_⟩
  refine List.forall_mem_cons.mpr ⟨zs_reti (ty := .int) rfl (fun x h => (zni x h).1) dX9_point_98, ?_⟩
  exact fun _ h => absurd h List.not_mem_nil
theorem zM_X9_point : zMeets zEM yX9_point wsX9_point zR_X9_point m_X9_point := zmeth_M zEMok (zlook_all (zcs_X9_point rfl)) (by decide +kernel) rfl
theorem zr_X9_point_0 (a1 a2 a3 : Option zAV) (st : List zAV) (s : zAS) (k : Nat × Nat) (o : Nat × Nat) : zev zk_X9_point (0, [some (Sum.inr o), a1, a2, a3], st, s, k) = zev zk_X9_point (1, [some (Sum.inr o), a1, a2, a3], Sum.inr o :: st, s, k) := zev_go rfl rfl
theorem zr_X9_point_1 (ls : zLs) (st : List zAV) (s : zAS) (k : Nat × Nat) : zev zk_X9_point (1, ls, st, s, k) = zev zk_X9_point (2, ls, Sum.inl (Value.int (0)) :: st, s, k) := zev_go rfl rfl
theorem zr_X9_point_2 (ls : zLs) (st : List zAV) (s : zAS) (k : Nat × Nat) (o i : Nat) (x : Int32) (h : zpok zEM 9 0 false o i x) : zev zk_X9_point (2, ls, Sum.inl (Value.int x) :: Sum.inr (o, i) :: st, s, k) = zev zk_X9_point (5, ls, st, (zup s.1 o i 0 x, s.2), k) := zf_put rfl h
theorem zr_X9_point_5 (a0 a2 a3 : Option zAV) (st : List zAV) (s : zAS) (k : Nat × Nat) (x : Int32) : zev zk_X9_point (5, [a0, some (Sum.inl (Value.int x)), a2, a3], st, s, k) = zev zk_X9_point (6, [a0, some (Sum.inl (Value.int x)), a2, a3], Sum.inl (Value.int x) :: st, s, k) := zev_go rfl rfl
theorem zr_X9_point_6 (ls : zLs) (st : List zAV) (s : zAS) (k : Nat × Nat) : zev zk_X9_point (6, ls, st, s, k) = zev zk_X9_point (7, ls, Sum.inl (Value.int (-1)) :: st, s, k) := zev_go rfl rfl
theorem zr_X9_point_7 (ls : zLs) (st : List zAV) (s : zAS) (k : Nat × Nat) (x y : Int32) : zev zk_X9_point (7, ls, Sum.inl (Value.int y) :: Sum.inl (Value.int x) :: st, s, k) = if decide (x = y) = true then zev zk_X9_point (24, ls, st, s, k) else zev zk_X9_point (10, ls, st, s, k) := zf_cmp (f := fun x y => decide (x = y)) rfl
theorem zr_X9_point_10 (a1 a2 a3 : Option zAV) (st : List zAV) (s : zAS) (k : Nat × Nat) (o : Nat × Nat) : zev zk_X9_point (10, [some (Sum.inr o), a1, a2, a3], st, s, k) = zev zk_X9_point (11, [some (Sum.inr o), a1, a2, a3], Sum.inr o :: st, s, k) := zev_go rfl rfl
theorem zr_X9_point_11 (a0 a2 a3 : Option zAV) (st : List zAV) (s : zAS) (k : Nat × Nat) (x : Int32) : zev zk_X9_point (11, [a0, some (Sum.inl (Value.int x)), a2, a3], st, s, k) = zev zk_X9_point (12, [a0, some (Sum.inl (Value.int x)), a2, a3], Sum.inl (Value.int x) :: st, s, k) := zev_go rfl rfl
theorem zr_X9_point_12 (ls : zLs) (st : List zAV) (s : zAS) (k : Nat × Nat) (r v0 : zAV) (h : zcok zEM 9 0 0 (zR_X9_point).cells (zR_X9_point).slots r st k) : zev zk_X9_point (12, ls, v0 :: r :: st, s, k) = zret zk_X9_point 15 ls st (k.1 + 0, k.2 + 0) (m_X9_isObject [r, v0] s) := zf_callV (as := [v0]) 1 rfl rfl h
theorem zr_X9_point_15 (ls : zLs) (st : List zAV) (s : zAS) (k : Nat × Nat) (x : Int32) : zev zk_X9_point (15, ls, Sum.inl (Value.int x) :: st, s, k) = if decide (¬ x = 0) = true then zev zk_X9_point (24, ls, st, s, k) else zev zk_X9_point (18, ls, st, s, k) := zf_if (f := fun x => decide (¬ x = 0)) rfl
theorem zr_X9_point_18 (a1 a2 a3 : Option zAV) (st : List zAV) (s : zAS) (k : Nat × Nat) (o : Nat × Nat) : zev zk_X9_point (18, [some (Sum.inr o), a1, a2, a3], st, s, k) = zev zk_X9_point (19, [some (Sum.inr o), a1, a2, a3], Sum.inr o :: st, s, k) := zev_go rfl rfl
theorem zr_X9_point_19 (ls : zLs) (st : List zAV) (s : zAS) (k : Nat × Nat) : zev zk_X9_point (19, ls, st, s, k) = zev zk_X9_point (20, ls, Sum.inl (Value.int (1)) :: st, s, k) := zev_go rfl rfl
theorem zr_X9_point_20 (ls : zLs) (st : List zAV) (s : zAS) (k : Nat × Nat) (r v0 : zAV) (h : zcok zEM 9 0 0 (zR_X9_point).cells (zR_X9_point).slots r st k) : zev zk_X9_point (20, ls, v0 :: r :: st, s, k) = zret zk_X9_point 23 ls st (k.1 + 0, k.2 + 0) (m_X9_fail [r, v0] s) := zf_callV (as := [v0]) 1 rfl rfl h
theorem zr_X9_point_23 (ls : zLs) (s : zAS) (k : Nat × Nat) (x : Int32) : zev zk_X9_point (23, ls, [Sum.inl (Value.int x)], s, k) = some (.inl (some (Sum.inl (Value.int x))), s) := zf_reti rfl
theorem zr_X9_point_24 (a0 a2 a3 : Option zAV) (st : List zAV) (s : zAS) (k : Nat × Nat) (x : Int32) : zev zk_X9_point (24, [a0, some (Sum.inl (Value.int x)), a2, a3], st, s, k) = zev zk_X9_point (25, [a0, some (Sum.inl (Value.int x)), a2, a3], Sum.inl (Value.int x) :: st, s, k) := zev_go rfl rfl
theorem zr_X9_point_25 (ls : zLs) (st : List zAV) (s : zAS) (k : Nat × Nat) : zev zk_X9_point (25, ls, st, s, k) = zev zk_X9_point (26, ls, Sum.inl (Value.int (-1)) :: st, s, k) := zev_go rfl rfl
theorem zr_X9_point_26 (ls : zLs) (st : List zAV) (s : zAS) (k : Nat × Nat) (x y : Int32) : zev zk_X9_point (26, ls, Sum.inl (Value.int y) :: Sum.inl (Value.int x) :: st, s, k) = if decide (x = y) = true then zev zk_X9_point (38, ls, st, s, k) else zev zk_X9_point (29, ls, st, s, k) := zf_cmp (f := fun x y => decide (x = y)) rfl
theorem zr_X9_point_29 (a1 a2 a3 : Option zAV) (st : List zAV) (s : zAS) (k : Nat × Nat) (o : Nat × Nat) : zev zk_X9_point (29, [some (Sum.inr o), a1, a2, a3], st, s, k) = zev zk_X9_point (30, [some (Sum.inr o), a1, a2, a3], Sum.inr o :: st, s, k) := zev_go rfl rfl
theorem zr_X9_point_30 (a0 a2 a3 : Option zAV) (st : List zAV) (s : zAS) (k : Nat × Nat) (x : Int32) : zev zk_X9_point (30, [a0, some (Sum.inl (Value.int x)), a2, a3], st, s, k) = zev zk_X9_point (31, [a0, some (Sum.inl (Value.int x)), a2, a3], Sum.inl (Value.int x) :: st, s, k) := zev_go rfl rfl
theorem zr_X9_point_31 (ls : zLs) (st : List zAV) (s : zAS) (k : Nat × Nat) (r v0 : zAV) (h : zcok zEM 9 0 0 (zR_X9_point).cells (zR_X9_point).slots r st k) : zev zk_X9_point (31, ls, v0 :: r :: st, s, k) = zret zk_X9_point 34 ls st (k.1 + 0, k.2 + 0) (m_X9_sort [r, v0] s) := zf_callV (as := [v0]) 1 rfl rfl h
theorem zr_X9_point_34 (ls : zLs) (st : List zAV) (s : zAS) (k : Nat × Nat) : zev zk_X9_point (34, ls, st, s, k) = zev zk_X9_point (35, ls, Sum.inl (Value.int (1)) :: st, s, k) := zev_go rfl rfl
theorem zr_X9_point_35 (ls : zLs) (st : List zAV) (s : zAS) (k : Nat × Nat) (x y : Int32) : zev zk_X9_point (35, ls, Sum.inl (Value.int y) :: Sum.inl (Value.int x) :: st, s, k) = if decide (¬ x = y) = true then zev zk_X9_point (57, ls, st, s, k) else zev zk_X9_point (38, ls, st, s, k) := zf_cmp (f := fun x y => decide (¬ x = y)) rfl
theorem zr_X9_point_38 (a1 a2 a3 : Option zAV) (st : List zAV) (s : zAS) (k : Nat × Nat) (o : Nat × Nat) : zev zk_X9_point (38, [some (Sum.inr o), a1, a2, a3], st, s, k) = zev zk_X9_point (39, [some (Sum.inr o), a1, a2, a3], Sum.inr o :: st, s, k) := zev_go rfl rfl
theorem zr_X9_point_39 (a0 a2 a3 : Option zAV) (st : List zAV) (s : zAS) (k : Nat × Nat) (x : Int32) : zev zk_X9_point (39, [a0, some (Sum.inl (Value.int x)), a2, a3], st, s, k) = zev zk_X9_point (40, [a0, some (Sum.inl (Value.int x)), a2, a3], Sum.inl (Value.int x) :: st, s, k) := zev_go rfl rfl
theorem zr_X9_point_40 (ls : zLs) (st : List zAV) (s : zAS) (k : Nat × Nat) : zev zk_X9_point (40, ls, st, s, k) = zev zk_X9_point (41, ls, Sum.inl (Value.int (-1)) :: st, s, k) := zev_go rfl rfl
theorem zr_X9_point_41 (ls : zLs) (st : List zAV) (s : zAS) (k : Nat × Nat) (x y : Int32) : zev zk_X9_point (41, ls, Sum.inl (Value.int y) :: Sum.inl (Value.int x) :: st, s, k) = if decide (¬ x = y) = true then zev zk_X9_point (48, ls, st, s, k) else zev zk_X9_point (44, ls, st, s, k) := zf_cmp (f := fun x y => decide (¬ x = y)) rfl
theorem zr_X9_point_44 (ls : zLs) (st : List zAV) (s : zAS) (k : Nat × Nat) : zev zk_X9_point (44, ls, st, s, k) = zev zk_X9_point (45, ls, Sum.inl (Value.int (1)) :: st, s, k) := zev_go rfl rfl
theorem zr_X9_point_45 (ls : zLs) (st : List zAV) (s : zAS) (k : Nat × Nat) : zev zk_X9_point (45, ls, st, s, k) = zev zk_X9_point (49, ls, st, s, k) := zev_go rfl rfl
theorem zr_X9_point_48 (ls : zLs) (st : List zAV) (s : zAS) (k : Nat × Nat) : zev zk_X9_point (48, ls, st, s, k) = zev zk_X9_point (49, ls, Sum.inl (Value.int (0)) :: st, s, k) := zev_go rfl rfl
theorem zr_X9_point_49 (a0 a1 a3 : Option zAV) (st : List zAV) (s : zAS) (k : Nat × Nat) (x : Int32) : zev zk_X9_point (49, [a0, a1, some (Sum.inl (Value.int x)), a3], st, s, k) = zev zk_X9_point (50, [a0, a1, some (Sum.inl (Value.int x)), a3], Sum.inl (Value.int x) :: st, s, k) := zev_go rfl rfl
theorem zr_X9_point_50 (a0 a1 a2 : Option zAV) (st : List zAV) (s : zAS) (k : Nat × Nat) (x : Int32) : zev zk_X9_point (50, [a0, a1, a2, some (Sum.inl (Value.int x))], st, s, k) = zev zk_X9_point (51, [a0, a1, a2, some (Sum.inl (Value.int x))], Sum.inl (Value.int x) :: st, s, k) := zev_go rfl rfl
theorem zr_X9_point_51 (ls : zLs) (st : List zAV) (s : zAS) (k : Nat × Nat) (r v0 v1 v2 : zAV) (h : zcok zEM 9 0 0 (zR_X9_point).cells (zR_X9_point).slots r st k) : zev zk_X9_point (51, ls, v2 :: v1 :: v0 :: r :: st, s, k) = zret zk_X9_point 54 ls st (k.1 + 0, k.2 + 0) (m_X9_isPlace [r, v0, v1, v2] s) := zf_callV (as := [v2, v1, v0]) 3 rfl rfl h
theorem zr_X9_point_54 (ls : zLs) (st : List zAV) (s : zAS) (k : Nat × Nat) (x : Int32) : zev zk_X9_point (54, ls, Sum.inl (Value.int x) :: st, s, k) = if decide (¬ x = 0) = true then zev zk_X9_point (63, ls, st, s, k) else zev zk_X9_point (57, ls, st, s, k) := zf_if (f := fun x => decide (¬ x = 0)) rfl
theorem zr_X9_point_57 (a1 a2 a3 : Option zAV) (st : List zAV) (s : zAS) (k : Nat × Nat) (o : Nat × Nat) : zev zk_X9_point (57, [some (Sum.inr o), a1, a2, a3], st, s, k) = zev zk_X9_point (58, [some (Sum.inr o), a1, a2, a3], Sum.inr o :: st, s, k) := zev_go rfl rfl
theorem zr_X9_point_58 (ls : zLs) (st : List zAV) (s : zAS) (k : Nat × Nat) : zev zk_X9_point (58, ls, st, s, k) = zev zk_X9_point (59, ls, Sum.inl (Value.int (2)) :: st, s, k) := zev_go rfl rfl
theorem zr_X9_point_59 (ls : zLs) (st : List zAV) (s : zAS) (k : Nat × Nat) (r v0 : zAV) (h : zcok zEM 9 0 0 (zR_X9_point).cells (zR_X9_point).slots r st k) : zev zk_X9_point (59, ls, v0 :: r :: st, s, k) = zret zk_X9_point 62 ls st (k.1 + 0, k.2 + 0) (m_X9_fail [r, v0] s) := zf_callV (as := [v0]) 1 rfl rfl h
theorem zr_X9_point_62 (ls : zLs) (s : zAS) (k : Nat × Nat) (x : Int32) : zev zk_X9_point (62, ls, [Sum.inl (Value.int x)], s, k) = some (.inl (some (Sum.inl (Value.int x))), s) := zf_reti rfl
theorem zr_X9_point_63 (a1 a2 a3 : Option zAV) (st : List zAV) (s : zAS) (k : Nat × Nat) (o : Nat × Nat) : zev zk_X9_point (63, [some (Sum.inr o), a1, a2, a3], st, s, k) = zev zk_X9_point (64, [some (Sum.inr o), a1, a2, a3], Sum.inr o :: st, s, k) := zev_go rfl rfl
theorem zr_X9_point_64 (ls : zLs) (st : List zAV) (s : zAS) (k : Nat × Nat) (o i : Nat) : zev zk_X9_point (64, ls, Sum.inr (o, i) :: st, s, k) = zpush zk_X9_point 67 ls st s k (zgv zEM 9 2 o i s.1) := zf_get rfl
theorem zr_X9_point_67 (ls : zLs) (st : List zAV) (s : zAS) (k : Nat × Nat) : zev zk_X9_point (67, ls, st, s, k) = zev zk_X9_point (69, ls, Sum.inl (Value.int (40)) :: st, s, k) := zev_go rfl rfl
theorem zr_X9_point_69 (ls : zLs) (st : List zAV) (s : zAS) (k : Nat × Nat) (x y : Int32) : zev zk_X9_point (69, ls, Sum.inl (Value.int y) :: Sum.inl (Value.int x) :: st, s, k) = if decide (¬ x = y) = true then zev zk_X9_point (78, ls, st, s, k) else zev zk_X9_point (72, ls, st, s, k) := zf_cmp (f := fun x y => decide (¬ x = y)) rfl
theorem zr_X9_point_72 (a1 a2 a3 : Option zAV) (st : List zAV) (s : zAS) (k : Nat × Nat) (o : Nat × Nat) : zev zk_X9_point (72, [some (Sum.inr o), a1, a2, a3], st, s, k) = zev zk_X9_point (73, [some (Sum.inr o), a1, a2, a3], Sum.inr o :: st, s, k) := zev_go rfl rfl
theorem zr_X9_point_73 (ls : zLs) (st : List zAV) (s : zAS) (k : Nat × Nat) : zev zk_X9_point (73, ls, st, s, k) = zev zk_X9_point (74, ls, Sum.inl (Value.int (3)) :: st, s, k) := zev_go rfl rfl
theorem zr_X9_point_74 (ls : zLs) (st : List zAV) (s : zAS) (k : Nat × Nat) (r v0 : zAV) (h : zcok zEM 9 0 0 (zR_X9_point).cells (zR_X9_point).slots r st k) : zev zk_X9_point (74, ls, v0 :: r :: st, s, k) = zret zk_X9_point 77 ls st (k.1 + 0, k.2 + 0) (m_X9_fail [r, v0] s) := zf_callV (as := [v0]) 1 rfl rfl h
theorem zr_X9_point_77 (ls : zLs) (s : zAS) (k : Nat × Nat) (x : Int32) : zev zk_X9_point (77, ls, [Sum.inl (Value.int x)], s, k) = some (.inl (some (Sum.inl (Value.int x))), s) := zf_reti rfl
theorem zr_X9_point_78 (a1 a2 a3 : Option zAV) (st : List zAV) (s : zAS) (k : Nat × Nat) (o : Nat × Nat) : zev zk_X9_point (78, [some (Sum.inr o), a1, a2, a3], st, s, k) = zev zk_X9_point (79, [some (Sum.inr o), a1, a2, a3], Sum.inr o :: st, s, k) := zev_go rfl rfl
theorem zr_X9_point_79 (ls : zLs) (st : List zAV) (s : zAS) (k : Nat × Nat) : zev zk_X9_point (79, ls, st, s, k) = zev zk_X9_point (80, ls, Sum.inl (Value.int (0)) :: st, s, k) := zev_go rfl rfl
theorem zr_X9_point_80 (a0 a2 a3 : Option zAV) (st : List zAV) (s : zAS) (k : Nat × Nat) (x : Int32) : zev zk_X9_point (80, [a0, some (Sum.inl (Value.int x)), a2, a3], st, s, k) = zev zk_X9_point (81, [a0, some (Sum.inl (Value.int x)), a2, a3], Sum.inl (Value.int x) :: st, s, k) := zev_go rfl rfl
theorem zr_X9_point_81 (ls : zLs) (st : List zAV) (s : zAS) (k : Nat × Nat) : zev zk_X9_point (81, ls, st, s, k) = zev zk_X9_point (82, ls, Sum.inl (Value.int (-1)) :: st, s, k) := zev_go rfl rfl
theorem zr_X9_point_82 (ls : zLs) (st : List zAV) (s : zAS) (k : Nat × Nat) (x y : Int32) : zev zk_X9_point (82, ls, Sum.inl (Value.int y) :: Sum.inl (Value.int x) :: st, s, k) = if decide (¬ x = y) = true then zev zk_X9_point (89, ls, st, s, k) else zev zk_X9_point (85, ls, st, s, k) := zf_cmp (f := fun x y => decide (¬ x = y)) rfl
theorem zr_X9_point_85 (ls : zLs) (st : List zAV) (s : zAS) (k : Nat × Nat) : zev zk_X9_point (85, ls, st, s, k) = zev zk_X9_point (86, ls, Sum.inl (Value.int (0)) :: st, s, k) := zev_go rfl rfl
theorem zr_X9_point_86 (ls : zLs) (st : List zAV) (s : zAS) (k : Nat × Nat) : zev zk_X9_point (86, ls, st, s, k) = zev zk_X9_point (90, ls, st, s, k) := zev_go rfl rfl
theorem zr_X9_point_89 (ls : zLs) (st : List zAV) (s : zAS) (k : Nat × Nat) : zev zk_X9_point (89, ls, st, s, k) = zev zk_X9_point (90, ls, Sum.inl (Value.int (1)) :: st, s, k) := zev_go rfl rfl
theorem zr_X9_point_90 (a0 a2 a3 : Option zAV) (st : List zAV) (s : zAS) (k : Nat × Nat) (x : Int32) : zev zk_X9_point (90, [a0, some (Sum.inl (Value.int x)), a2, a3], st, s, k) = zev zk_X9_point (91, [a0, some (Sum.inl (Value.int x)), a2, a3], Sum.inl (Value.int x) :: st, s, k) := zev_go rfl rfl
theorem zr_X9_point_91 (ls : zLs) (st : List zAV) (s : zAS) (k : Nat × Nat) : zev zk_X9_point (91, ls, st, s, k) = zev zk_X9_point (92, ls, Sum.inl (Value.int (-1)) :: st, s, k) := zev_go rfl rfl
theorem zr_X9_point_92 (ls : zLs) (st : List zAV) (s : zAS) (k : Nat × Nat) : zev zk_X9_point (92, ls, st, s, k) = zev zk_X9_point (93, ls, Sum.inl (Value.int (-1)) :: st, s, k) := zev_go rfl rfl
theorem zr_X9_point_93 (a0 a1 a3 : Option zAV) (st : List zAV) (s : zAS) (k : Nat × Nat) (x : Int32) : zev zk_X9_point (93, [a0, a1, some (Sum.inl (Value.int x)), a3], st, s, k) = zev zk_X9_point (94, [a0, a1, some (Sum.inl (Value.int x)), a3], Sum.inl (Value.int x) :: st, s, k) := zev_go rfl rfl
theorem zr_X9_point_94 (a0 a1 a2 : Option zAV) (st : List zAV) (s : zAS) (k : Nat × Nat) (x : Int32) : zev zk_X9_point (94, [a0, a1, a2, some (Sum.inl (Value.int x))], st, s, k) = zev zk_X9_point (95, [a0, a1, a2, some (Sum.inl (Value.int x))], Sum.inl (Value.int x) :: st, s, k) := zev_go rfl rfl
theorem zr_X9_point_95 (ls : zLs) (st : List zAV) (s : zAS) (k : Nat × Nat) (r v0 v1 v2 v3 v4 v5 v6 : zAV) (h : zcok zEM 9 1 11 (zR_X9_point).cells (zR_X9_point).slots r st k) : zev zk_X9_point (95, ls, v6 :: v5 :: v4 :: v3 :: v2 :: v1 :: v0 :: r :: st, s, k) = zret zk_X9_point 98 ls st (k.1 + 1, k.2 + 11) (m_X9_add [r, v0, v1, v2, v3, v4, v5, v6] s) := zf_callV (as := [v6, v5, v4, v3, v2, v1, v0]) 7 rfl rfl h
theorem zr_X9_point_98 (ls : zLs) (s : zAS) (k : Nat × Nat) (x : Int32) : zev zk_X9_point (98, ls, [Sum.inl (Value.int x)], s, k) = some (.inl (some (Sum.inl (Value.int x))), s) := zf_reti rfl
/-! X9_areOf: PrimePlaneModel.areOf(II[I)Z -/
abbrev zR_X9_areOf : Room := ({ frames := 2, cells := 0, slots := 0, locals := 43 } : Room)
noncomputable def zl_X9_areOf : List (Nat × zOp) := [(0, z_ldi 2 1), (1, z_sti 4 3), (3, z_ic (1) 4), (4, z_sti 5 6), (6, z_ic (0) 7), (7, z_sti 6 9), (9, z_ldi 6 11), (11, z_lda 3 12), (12, z_alen zEM 13), (13, z_cmp (fun x y => decide (y ≤ x)) 80 16), (16, z_ldi 1 17), (17, z_ldi 4 19), (19, z_div 20), (20, z_ic (10) 22), (22, z_rem 23), (23, z_sti 7 25), (25, z_ldi 5 27), (27, z_if (fun x => decide (x = 0)) 64 30), (30, z_ldi 7 32), (32, z_if (fun x => decide (¬ x = 0)) 45 35), (35, z_lda 3 36), (36, z_ldi 6 38), (38, z_iald zEM 39), (39, z_if (fun x => decide (¬ x = 0)) 64 42), (42, z_goto 60), (45, z_lda 0 46), (46, z_lda 3 47), (47, z_ldi 6 49), (49, z_iald zEM 50), (50, z_callV zEM 9 m_X9_sort 1 0 0 (zR_X9_areOf).cells (zR_X9_areOf).slots 53), (53, z_ldi 7 55), (55, z_ic (1) 56), (56, z_bin (fun x y => x - y) 57), (57, z_cmp (fun x y => decide (¬ x = y)) 64 60), (60, z_ic (1) 61), (61, z_goto 65), (64, z_ic (0) 65), (65, z_sti 5 67), (67, z_ldi 4 69), (69, z_ic (10) 71), (71, z_div 72), (72, z_sti 4 74), (74, z_iinc 6 (1) 77), (77, z_goto 9), (80, z_ldi 5 82), (82, z_reti true)]
noncomputable def zk_X9_areOf (pc : Nat) : Option zOp := zlook zl_X9_areOf pc
noncomputable def m_X9_areOf : List zAV → zAS → Option zOut := zmeth zk_X9_areOf 8
set_option maxRecDepth 100000 in
set_option maxHeartbeats 4000000 in
theorem zcs_X9_areOf {R : Room} (hR : R = zR_X9_areOf) : ∀ q ∈ zl_X9_areOf, zS zEM yX9_areOf.cls cX9_areOf 8 wsX9_areOf (some .boolean) R q.1 q.2 := by
  subst hR
  refine List.forall_mem_cons.mpr ⟨zs_iload_n dX9_areOf_0 rfl, ?_⟩
  refine List.forall_mem_cons.mpr ⟨zs_istore dX9_areOf_1, ?_⟩
  refine List.forall_mem_cons.mpr ⟨zs_iconst dX9_areOf_3 (by decide), ?_⟩
  refine List.forall_mem_cons.mpr ⟨zs_istore dX9_areOf_4, ?_⟩
  refine List.forall_mem_cons.mpr ⟨zs_iconst dX9_areOf_6 (by decide), ?_⟩
  refine List.forall_mem_cons.mpr ⟨zs_istore dX9_areOf_7, ?_⟩
  refine List.forall_mem_cons.mpr ⟨zs_iload dX9_areOf_9, ?_⟩
  refine List.forall_mem_cons.mpr ⟨zs_aload_n dX9_areOf_11 rfl, ?_⟩
  refine List.forall_mem_cons.mpr ⟨zs_alen dX9_areOf_12, ?_⟩
  refine List.forall_mem_cons.mpr ⟨zs_icge dX9_areOf_13 (by decide), ?_⟩
  refine List.forall_mem_cons.mpr ⟨zs_iload_n dX9_areOf_16 rfl, ?_⟩
  refine List.forall_mem_cons.mpr ⟨zs_iload dX9_areOf_17, ?_⟩
  refine List.forall_mem_cons.mpr ⟨zs_idiv dX9_areOf_19, ?_⟩
  refine List.forall_mem_cons.mpr ⟨zs_bipush dX9_areOf_20 (by decide), ?_⟩
  refine List.forall_mem_cons.mpr ⟨zs_irem dX9_areOf_22, ?_⟩
  refine List.forall_mem_cons.mpr ⟨zs_istore dX9_areOf_23, ?_⟩
  refine List.forall_mem_cons.mpr ⟨zs_iload dX9_areOf_25, ?_⟩
  refine List.forall_mem_cons.mpr ⟨zs_ifeq dX9_areOf_27 (by decide), ?_⟩
  refine List.forall_mem_cons.mpr ⟨zs_iload dX9_areOf_30, ?_⟩
  refine List.forall_mem_cons.mpr ⟨zs_ifne dX9_areOf_32 (by decide), ?_⟩
  refine List.forall_mem_cons.mpr ⟨zs_aload_n dX9_areOf_35 rfl, ?_⟩
  refine List.forall_mem_cons.mpr ⟨zs_iload dX9_areOf_36, ?_⟩
  refine List.forall_mem_cons.mpr ⟨zs_iald dX9_areOf_38, ?_⟩
  refine List.forall_mem_cons.mpr ⟨zs_ifne dX9_areOf_39 (by decide), ?_⟩
  refine List.forall_mem_cons.mpr ⟨zs_goto dX9_areOf_42 (by decide), ?_⟩
  refine List.forall_mem_cons.mpr ⟨zs_aload_n dX9_areOf_45 rfl, ?_⟩
  refine List.forall_mem_cons.mpr ⟨zs_aload_n dX9_areOf_46 rfl, ?_⟩
  refine List.forall_mem_cons.mpr ⟨zs_iload dX9_areOf_47, ?_⟩
  refine List.forall_mem_cons.mpr ⟨zs_iald dX9_areOf_49, ?_⟩
  refine List.forall_mem_cons.mpr ⟨zs_callV (ci := 9) (rm := zR_X9_sort) (n := 1) rfl zM_X9_sort gX9_areOf_X9_sort rfl (by decide +kernel) ⟨by decide, by decide⟩ dX9_areOf_50, ?_⟩
  refine List.forall_mem_cons.mpr ⟨zs_iload dX9_areOf_53, ?_⟩
  refine List.forall_mem_cons.mpr ⟨zs_iconst dX9_areOf_55 (by decide), ?_⟩
  refine List.forall_mem_cons.mpr ⟨zs_isub dX9_areOf_56, ?_⟩
  refine List.forall_mem_cons.mpr ⟨zs_icne dX9_areOf_57 (by decide), ?_⟩
  refine List.forall_mem_cons.mpr ⟨zs_iconst dX9_areOf_60 (by decide), ?_⟩
  refine List.forall_mem_cons.mpr ⟨zs_goto dX9_areOf_61 (by decide), ?_⟩
  refine List.forall_mem_cons.mpr ⟨zs_iconst dX9_areOf_64 (by decide), ?_⟩
  refine List.forall_mem_cons.mpr ⟨zs_istore dX9_areOf_65, ?_⟩
  refine List.forall_mem_cons.mpr ⟨zs_iload dX9_areOf_67, ?_⟩
  refine List.forall_mem_cons.mpr ⟨zs_bipush dX9_areOf_69 (by decide), ?_⟩
  refine List.forall_mem_cons.mpr ⟨zs_idiv dX9_areOf_71, ?_⟩
  refine List.forall_mem_cons.mpr ⟨zs_istore dX9_areOf_72, ?_⟩
  refine List.forall_mem_cons.mpr ⟨zs_iinc dX9_areOf_74 (by decide), ?_⟩
  refine List.forall_mem_cons.mpr ⟨zs_goto dX9_areOf_77 (by decide), ?_⟩
  refine List.forall_mem_cons.mpr ⟨zs_iload dX9_areOf_80, ?_⟩
  refine List.forall_mem_cons.mpr ⟨zs_reti (ty := .boolean) rfl (fun x h => (znz x h).1) dX9_areOf_82, ?_⟩
  exact fun _ h => absurd h List.not_mem_nil
theorem zM_X9_areOf : zMeets zEM yX9_areOf wsX9_areOf zR_X9_areOf m_X9_areOf := zmeth_M zEMok (zlook_all (zcs_X9_areOf rfl)) (by decide +kernel) rfl
theorem zr_X9_areOf_0 (a0 a1 a3 a4 a5 a6 a7 : Option zAV) (st : List zAV) (s : zAS) (k : Nat × Nat) (x : Int32) : zev zk_X9_areOf (0, [a0, a1, some (Sum.inl (Value.int x)), a3, a4, a5, a6, a7], st, s, k) = zev zk_X9_areOf (1, [a0, a1, some (Sum.inl (Value.int x)), a3, a4, a5, a6, a7], Sum.inl (Value.int x) :: st, s, k) := zev_go rfl rfl
theorem zr_X9_areOf_1 (a0 a1 a2 a3 a4 a5 a6 a7 : Option zAV) (st : List zAV) (s : zAS) (k : Nat × Nat) (x : Int32) : zev zk_X9_areOf (1, [a0, a1, a2, a3, a4, a5, a6, a7], Sum.inl (Value.int x) :: st, s, k) = zev zk_X9_areOf (3, [a0, a1, a2, zk1 a3, some (Sum.inl (Value.int x)), a5, a6, a7], st, s, k) := zev_go rfl rfl
theorem zr_X9_areOf_3 (ls : zLs) (st : List zAV) (s : zAS) (k : Nat × Nat) : zev zk_X9_areOf (3, ls, st, s, k) = zev zk_X9_areOf (4, ls, Sum.inl (Value.int (1)) :: st, s, k) := zev_go rfl rfl
theorem zr_X9_areOf_4 (a0 a1 a2 a3 a4 a5 a6 a7 : Option zAV) (st : List zAV) (s : zAS) (k : Nat × Nat) (x : Int32) : zev zk_X9_areOf (4, [a0, a1, a2, a3, a4, a5, a6, a7], Sum.inl (Value.int x) :: st, s, k) = zev zk_X9_areOf (6, [a0, a1, a2, a3, zk1 a4, some (Sum.inl (Value.int x)), a6, a7], st, s, k) := zev_go rfl rfl
theorem zr_X9_areOf_6 (ls : zLs) (st : List zAV) (s : zAS) (k : Nat × Nat) : zev zk_X9_areOf (6, ls, st, s, k) = zev zk_X9_areOf (7, ls, Sum.inl (Value.int (0)) :: st, s, k) := zev_go rfl rfl
theorem zr_X9_areOf_7 (a0 a1 a2 a3 a4 a5 a6 a7 : Option zAV) (st : List zAV) (s : zAS) (k : Nat × Nat) (x : Int32) : zev zk_X9_areOf (7, [a0, a1, a2, a3, a4, a5, a6, a7], Sum.inl (Value.int x) :: st, s, k) = zev zk_X9_areOf (9, [a0, a1, a2, a3, a4, zk1 a5, some (Sum.inl (Value.int x)), a7], st, s, k) := zev_go rfl rfl
theorem zr_X9_areOf_9 (a0 a1 a2 a3 a4 a5 a7 : Option zAV) (st : List zAV) (s : zAS) (k : Nat × Nat) (x : Int32) : zev zk_X9_areOf (9, [a0, a1, a2, a3, a4, a5, some (Sum.inl (Value.int x)), a7], st, s, k) = zev zk_X9_areOf (11, [a0, a1, a2, a3, a4, a5, some (Sum.inl (Value.int x)), a7], Sum.inl (Value.int x) :: st, s, k) := zev_go rfl rfl
theorem zr_X9_areOf_11 (a0 a1 a2 a4 a5 a6 a7 : Option zAV) (st : List zAV) (s : zAS) (k : Nat × Nat) (o : Nat × Nat) : zev zk_X9_areOf (11, [a0, a1, a2, some (Sum.inr o), a4, a5, a6, a7], st, s, k) = zev zk_X9_areOf (12, [a0, a1, a2, some (Sum.inr o), a4, a5, a6, a7], Sum.inr o :: st, s, k) := zev_go rfl rfl
theorem zr_X9_areOf_12 (ls : zLs) (st : List zAV) (s : zAS) (k : Nat × Nat) (o i : Nat) : zev zk_X9_areOf (12, ls, Sum.inr (o, i) :: st, s, k) = zpush zk_X9_areOf 13 ls st s k (zalen zEM o i s.2) := zf_alen rfl
theorem zr_X9_areOf_13 (ls : zLs) (st : List zAV) (s : zAS) (k : Nat × Nat) (x y : Int32) : zev zk_X9_areOf (13, ls, Sum.inl (Value.int y) :: Sum.inl (Value.int x) :: st, s, k) = if decide (y ≤ x) = true then zev zk_X9_areOf (80, ls, st, s, k) else zev zk_X9_areOf (16, ls, st, s, k) := zf_cmp (f := fun x y => decide (y ≤ x)) rfl
theorem zr_X9_areOf_16 (a0 a2 a3 a4 a5 a6 a7 : Option zAV) (st : List zAV) (s : zAS) (k : Nat × Nat) (x : Int32) : zev zk_X9_areOf (16, [a0, some (Sum.inl (Value.int x)), a2, a3, a4, a5, a6, a7], st, s, k) = zev zk_X9_areOf (17, [a0, some (Sum.inl (Value.int x)), a2, a3, a4, a5, a6, a7], Sum.inl (Value.int x) :: st, s, k) := zev_go rfl rfl
theorem zr_X9_areOf_17 (a0 a1 a2 a3 a5 a6 a7 : Option zAV) (st : List zAV) (s : zAS) (k : Nat × Nat) (x : Int32) : zev zk_X9_areOf (17, [a0, a1, a2, a3, some (Sum.inl (Value.int x)), a5, a6, a7], st, s, k) = zev zk_X9_areOf (19, [a0, a1, a2, a3, some (Sum.inl (Value.int x)), a5, a6, a7], Sum.inl (Value.int x) :: st, s, k) := zev_go rfl rfl
theorem zr_X9_areOf_19 (ls : zLs) (st : List zAV) (s : zAS) (k : Nat × Nat) (x y : Int32) : zev zk_X9_areOf (19, ls, Sum.inl (Value.int y) :: Sum.inl (Value.int x) :: st, s, k) = if y = 0 then none else zev zk_X9_areOf (20, ls, Sum.inl (Value.int (x / y)) :: st, s, k) := zf_div rfl
theorem zr_X9_areOf_20 (ls : zLs) (st : List zAV) (s : zAS) (k : Nat × Nat) : zev zk_X9_areOf (20, ls, st, s, k) = zev zk_X9_areOf (22, ls, Sum.inl (Value.int (10)) :: st, s, k) := zev_go rfl rfl
theorem zr_X9_areOf_22 (ls : zLs) (st : List zAV) (s : zAS) (k : Nat × Nat) (x y : Int32) : zev zk_X9_areOf (22, ls, Sum.inl (Value.int y) :: Sum.inl (Value.int x) :: st, s, k) = if y = 0 then none else zev zk_X9_areOf (23, ls, Sum.inl (Value.int (x - x / y * y)) :: st, s, k) := zf_rem rfl
theorem zr_X9_areOf_23 (a0 a1 a2 a3 a4 a5 a6 a7 : Option zAV) (st : List zAV) (s : zAS) (k : Nat × Nat) (x : Int32) : zev zk_X9_areOf (23, [a0, a1, a2, a3, a4, a5, a6, a7], Sum.inl (Value.int x) :: st, s, k) = zev zk_X9_areOf (25, [a0, a1, a2, a3, a4, a5, zk1 a6, some (Sum.inl (Value.int x))], st, s, k) := zev_go rfl rfl
theorem zr_X9_areOf_25 (a0 a1 a2 a3 a4 a6 a7 : Option zAV) (st : List zAV) (s : zAS) (k : Nat × Nat) (x : Int32) : zev zk_X9_areOf (25, [a0, a1, a2, a3, a4, some (Sum.inl (Value.int x)), a6, a7], st, s, k) = zev zk_X9_areOf (27, [a0, a1, a2, a3, a4, some (Sum.inl (Value.int x)), a6, a7], Sum.inl (Value.int x) :: st, s, k) := zev_go rfl rfl
theorem zr_X9_areOf_27 (ls : zLs) (st : List zAV) (s : zAS) (k : Nat × Nat) (x : Int32) : zev zk_X9_areOf (27, ls, Sum.inl (Value.int x) :: st, s, k) = if decide (x = 0) = true then zev zk_X9_areOf (64, ls, st, s, k) else zev zk_X9_areOf (30, ls, st, s, k) := zf_if (f := fun x => decide (x = 0)) rfl
theorem zr_X9_areOf_30 (a0 a1 a2 a3 a4 a5 a6 : Option zAV) (st : List zAV) (s : zAS) (k : Nat × Nat) (x : Int32) : zev zk_X9_areOf (30, [a0, a1, a2, a3, a4, a5, a6, some (Sum.inl (Value.int x))], st, s, k) = zev zk_X9_areOf (32, [a0, a1, a2, a3, a4, a5, a6, some (Sum.inl (Value.int x))], Sum.inl (Value.int x) :: st, s, k) := zev_go rfl rfl
theorem zr_X9_areOf_32 (ls : zLs) (st : List zAV) (s : zAS) (k : Nat × Nat) (x : Int32) : zev zk_X9_areOf (32, ls, Sum.inl (Value.int x) :: st, s, k) = if decide (¬ x = 0) = true then zev zk_X9_areOf (45, ls, st, s, k) else zev zk_X9_areOf (35, ls, st, s, k) := zf_if (f := fun x => decide (¬ x = 0)) rfl
theorem zr_X9_areOf_35 (a0 a1 a2 a4 a5 a6 a7 : Option zAV) (st : List zAV) (s : zAS) (k : Nat × Nat) (o : Nat × Nat) : zev zk_X9_areOf (35, [a0, a1, a2, some (Sum.inr o), a4, a5, a6, a7], st, s, k) = zev zk_X9_areOf (36, [a0, a1, a2, some (Sum.inr o), a4, a5, a6, a7], Sum.inr o :: st, s, k) := zev_go rfl rfl
theorem zr_X9_areOf_36 (a0 a1 a2 a3 a4 a5 a7 : Option zAV) (st : List zAV) (s : zAS) (k : Nat × Nat) (x : Int32) : zev zk_X9_areOf (36, [a0, a1, a2, a3, a4, a5, some (Sum.inl (Value.int x)), a7], st, s, k) = zev zk_X9_areOf (38, [a0, a1, a2, a3, a4, a5, some (Sum.inl (Value.int x)), a7], Sum.inl (Value.int x) :: st, s, k) := zev_go rfl rfl
theorem zr_X9_areOf_38 (ls : zLs) (st : List zAV) (s : zAS) (k : Nat × Nat) (o i : Nat) (j : Int32) : zev zk_X9_areOf (38, ls, Sum.inl (Value.int j) :: Sum.inr (o, i) :: st, s, k) = zpush zk_X9_areOf 39 ls st s k (zald zEM o i j s) := zf_iald rfl
theorem zr_X9_areOf_39 (ls : zLs) (st : List zAV) (s : zAS) (k : Nat × Nat) (x : Int32) : zev zk_X9_areOf (39, ls, Sum.inl (Value.int x) :: st, s, k) = if decide (¬ x = 0) = true then zev zk_X9_areOf (64, ls, st, s, k) else zev zk_X9_areOf (42, ls, st, s, k) := zf_if (f := fun x => decide (¬ x = 0)) rfl
theorem zr_X9_areOf_42 (ls : zLs) (st : List zAV) (s : zAS) (k : Nat × Nat) : zev zk_X9_areOf (42, ls, st, s, k) = zev zk_X9_areOf (60, ls, st, s, k) := zev_go rfl rfl
theorem zr_X9_areOf_45 (a1 a2 a3 a4 a5 a6 a7 : Option zAV) (st : List zAV) (s : zAS) (k : Nat × Nat) (o : Nat × Nat) : zev zk_X9_areOf (45, [some (Sum.inr o), a1, a2, a3, a4, a5, a6, a7], st, s, k) = zev zk_X9_areOf (46, [some (Sum.inr o), a1, a2, a3, a4, a5, a6, a7], Sum.inr o :: st, s, k) := zev_go rfl rfl
theorem zr_X9_areOf_46 (a0 a1 a2 a4 a5 a6 a7 : Option zAV) (st : List zAV) (s : zAS) (k : Nat × Nat) (o : Nat × Nat) : zev zk_X9_areOf (46, [a0, a1, a2, some (Sum.inr o), a4, a5, a6, a7], st, s, k) = zev zk_X9_areOf (47, [a0, a1, a2, some (Sum.inr o), a4, a5, a6, a7], Sum.inr o :: st, s, k) := zev_go rfl rfl
theorem zr_X9_areOf_47 (a0 a1 a2 a3 a4 a5 a7 : Option zAV) (st : List zAV) (s : zAS) (k : Nat × Nat) (x : Int32) : zev zk_X9_areOf (47, [a0, a1, a2, a3, a4, a5, some (Sum.inl (Value.int x)), a7], st, s, k) = zev zk_X9_areOf (49, [a0, a1, a2, a3, a4, a5, some (Sum.inl (Value.int x)), a7], Sum.inl (Value.int x) :: st, s, k) := zev_go rfl rfl
theorem zr_X9_areOf_49 (ls : zLs) (st : List zAV) (s : zAS) (k : Nat × Nat) (o i : Nat) (j : Int32) : zev zk_X9_areOf (49, ls, Sum.inl (Value.int j) :: Sum.inr (o, i) :: st, s, k) = zpush zk_X9_areOf 50 ls st s k (zald zEM o i j s) := zf_iald rfl
theorem zr_X9_areOf_50 (ls : zLs) (st : List zAV) (s : zAS) (k : Nat × Nat) (r v0 : zAV) (h : zcok zEM 9 0 0 (zR_X9_areOf).cells (zR_X9_areOf).slots r st k) : zev zk_X9_areOf (50, ls, v0 :: r :: st, s, k) = zret zk_X9_areOf 53 ls st (k.1 + 0, k.2 + 0) (m_X9_sort [r, v0] s) := zf_callV (as := [v0]) 1 rfl rfl h
theorem zr_X9_areOf_53 (a0 a1 a2 a3 a4 a5 a6 : Option zAV) (st : List zAV) (s : zAS) (k : Nat × Nat) (x : Int32) : zev zk_X9_areOf (53, [a0, a1, a2, a3, a4, a5, a6, some (Sum.inl (Value.int x))], st, s, k) = zev zk_X9_areOf (55, [a0, a1, a2, a3, a4, a5, a6, some (Sum.inl (Value.int x))], Sum.inl (Value.int x) :: st, s, k) := zev_go rfl rfl
theorem zr_X9_areOf_55 (ls : zLs) (st : List zAV) (s : zAS) (k : Nat × Nat) : zev zk_X9_areOf (55, ls, st, s, k) = zev zk_X9_areOf (56, ls, Sum.inl (Value.int (1)) :: st, s, k) := zev_go rfl rfl
theorem zr_X9_areOf_56 (ls : zLs) (st : List zAV) (s : zAS) (k : Nat × Nat) (x y : Int32) : zev zk_X9_areOf (56, ls, Sum.inl (Value.int y) :: Sum.inl (Value.int x) :: st, s, k) = zev zk_X9_areOf (57, ls, Sum.inl (Value.int (x - y)) :: st, s, k) := zev_go rfl rfl
theorem zr_X9_areOf_57 (ls : zLs) (st : List zAV) (s : zAS) (k : Nat × Nat) (x y : Int32) : zev zk_X9_areOf (57, ls, Sum.inl (Value.int y) :: Sum.inl (Value.int x) :: st, s, k) = if decide (¬ x = y) = true then zev zk_X9_areOf (64, ls, st, s, k) else zev zk_X9_areOf (60, ls, st, s, k) := zf_cmp (f := fun x y => decide (¬ x = y)) rfl
theorem zr_X9_areOf_60 (ls : zLs) (st : List zAV) (s : zAS) (k : Nat × Nat) : zev zk_X9_areOf (60, ls, st, s, k) = zev zk_X9_areOf (61, ls, Sum.inl (Value.int (1)) :: st, s, k) := zev_go rfl rfl
theorem zr_X9_areOf_61 (ls : zLs) (st : List zAV) (s : zAS) (k : Nat × Nat) : zev zk_X9_areOf (61, ls, st, s, k) = zev zk_X9_areOf (65, ls, st, s, k) := zev_go rfl rfl
theorem zr_X9_areOf_64 (ls : zLs) (st : List zAV) (s : zAS) (k : Nat × Nat) : zev zk_X9_areOf (64, ls, st, s, k) = zev zk_X9_areOf (65, ls, Sum.inl (Value.int (0)) :: st, s, k) := zev_go rfl rfl
theorem zr_X9_areOf_65 (a0 a1 a2 a3 a4 a5 a6 a7 : Option zAV) (st : List zAV) (s : zAS) (k : Nat × Nat) (x : Int32) : zev zk_X9_areOf (65, [a0, a1, a2, a3, a4, a5, a6, a7], Sum.inl (Value.int x) :: st, s, k) = zev zk_X9_areOf (67, [a0, a1, a2, a3, zk1 a4, some (Sum.inl (Value.int x)), a6, a7], st, s, k) := zev_go rfl rfl
theorem zr_X9_areOf_67 (a0 a1 a2 a3 a5 a6 a7 : Option zAV) (st : List zAV) (s : zAS) (k : Nat × Nat) (x : Int32) : zev zk_X9_areOf (67, [a0, a1, a2, a3, some (Sum.inl (Value.int x)), a5, a6, a7], st, s, k) = zev zk_X9_areOf (69, [a0, a1, a2, a3, some (Sum.inl (Value.int x)), a5, a6, a7], Sum.inl (Value.int x) :: st, s, k) := zev_go rfl rfl
theorem zr_X9_areOf_69 (ls : zLs) (st : List zAV) (s : zAS) (k : Nat × Nat) : zev zk_X9_areOf (69, ls, st, s, k) = zev zk_X9_areOf (71, ls, Sum.inl (Value.int (10)) :: st, s, k) := zev_go rfl rfl
theorem zr_X9_areOf_71 (ls : zLs) (st : List zAV) (s : zAS) (k : Nat × Nat) (x y : Int32) : zev zk_X9_areOf (71, ls, Sum.inl (Value.int y) :: Sum.inl (Value.int x) :: st, s, k) = if y = 0 then none else zev zk_X9_areOf (72, ls, Sum.inl (Value.int (x / y)) :: st, s, k) := zf_div rfl
theorem zr_X9_areOf_72 (a0 a1 a2 a3 a4 a5 a6 a7 : Option zAV) (st : List zAV) (s : zAS) (k : Nat × Nat) (x : Int32) : zev zk_X9_areOf (72, [a0, a1, a2, a3, a4, a5, a6, a7], Sum.inl (Value.int x) :: st, s, k) = zev zk_X9_areOf (74, [a0, a1, a2, zk1 a3, some (Sum.inl (Value.int x)), a5, a6, a7], st, s, k) := zev_go rfl rfl
theorem zr_X9_areOf_74 (a0 a1 a2 a3 a4 a5 a7 : Option zAV) (st : List zAV) (s : zAS) (k : Nat × Nat) (x : Int32) : zev zk_X9_areOf (74, [a0, a1, a2, a3, a4, a5, some (Sum.inl (Value.int x)), a7], st, s, k) = zev zk_X9_areOf (77, [a0, a1, a2, a3, a4, zk1 a5, some (Sum.inl (Value.int (x + (1)))), a7], st, s, k) := zev_go rfl rfl
theorem zr_X9_areOf_77 (ls : zLs) (st : List zAV) (s : zAS) (k : Nat × Nat) : zev zk_X9_areOf (77, ls, st, s, k) = zev zk_X9_areOf (9, ls, st, s, k) := zev_go rfl rfl
theorem zr_X9_areOf_80 (a0 a1 a2 a3 a4 a6 a7 : Option zAV) (st : List zAV) (s : zAS) (k : Nat × Nat) (x : Int32) : zev zk_X9_areOf (80, [a0, a1, a2, a3, a4, some (Sum.inl (Value.int x)), a6, a7], st, s, k) = zev zk_X9_areOf (82, [a0, a1, a2, a3, a4, some (Sum.inl (Value.int x)), a6, a7], Sum.inl (Value.int x) :: st, s, k) := zev_go rfl rfl
theorem zr_X9_areOf_82 (ls : zLs) (s : zAS) (k : Nat × Nat) (x : Int32) (hx : x = 0 ∨ x = 1) : zev zk_X9_areOf (82, ls, [Sum.inl (Value.int x)], s, k) = some (.inl (some (Sum.inl (Value.int x))), s) := zf_retz rfl hx
/-! X9_make: PrimePlaneModel.make(IIII)I -/
abbrev zR_X9_make : Room := ({ frames := 9, cells := 2, slots := 22, locals := 214 } : Room)
noncomputable def zl_X9_make : List (Nat × zOp) := [(0, z_lda 0 1), (1, z_ic (0) 2), (2, z_put zEM 9 0 false 5), (5, z_ldi 1 6), (6, z_ic (2) 7), (7, z_ic (22) 9), (9, z_callS m_X9_isIn 3 0 0 (zR_X9_make).cells (zR_X9_make).slots 12), (12, z_if (fun x => decide (x = 0)) 23 15), (15, z_sget 2 18), (18, z_ldi 1 19), (19, z_iald zEM 20), (20, z_if (fun x => decide (0 ≤ x)) 29 23), (23, z_lda 0 24), (24, z_ic (1) 25), (25, z_callV zEM 9 m_X9_fail 1 0 0 (zR_X9_make).cells (zR_X9_make).slots 28), (28, z_reti false), (29, z_sget 2 32), (32, z_ldi 1 33), (33, z_iald zEM 34), (34, z_ic (10) 36), (36, z_rem 37), (37, z_if (fun x => decide (x = 0)) 44 40), (40, z_ic (1) 41), (41, z_goto 45), (44, z_ic (0) 45), (45, z_sti 5 47), (47, z_lda 0 48), (48, z_ldi 2 49), (49, z_callV zEM 9 m_X9_isObject 1 0 0 (zR_X9_make).cells (zR_X9_make).slots 52), (52, z_if (fun x => decide (x = 0)) 77 55), (55, z_lda 0 56), (56, z_ldi 3 57), (57, z_callV zEM 9 m_X9_isObject 1 0 0 (zR_X9_make).cells (zR_X9_make).slots 60), (60, z_if (fun x => decide (x = 0)) 77 63), (63, z_ldi 5 65), (65, z_if (fun x => decide (x = 0)) 83 68), (68, z_lda 0 69), (69, z_ldi 4 71), (71, z_callV zEM 9 m_X9_isObject 1 0 0 (zR_X9_make).cells (zR_X9_make).slots 74), (74, z_if (fun x => decide (¬ x = 0)) 83 77), (77, z_lda 0 78), (78, z_ic (2) 79), (79, z_callV zEM 9 m_X9_fail 1 0 0 (zR_X9_make).cells (zR_X9_make).slots 82), (82, z_reti false), (83, z_lda 0 84), (84, z_sget 2 87), (87, z_ldi 1 88), (88, z_iald zEM 89), (89, z_ic (100) 91), (91, z_ic (3) 92), (92, z_newa (zR_X9_make).cells (zR_X9_make).slots 94), (94, z_dup 95), (95, z_ic (0) 96), (96, z_ldi 2 97), (97, z_iast zEM 98), (98, z_dup 99), (99, z_ic (1) 100), (100, z_ldi 3 101), (101, z_iast zEM 102), (102, z_dup 103), (103, z_ic (2) 104), (104, z_ldi 4 106), (106, z_iast zEM 107), (107, z_callV zEM 9 m_X9_areOf 3 0 0 (zR_X9_make).cells (zR_X9_make).slots 110), (110, z_if (fun x => decide (x = 0)) 122 113), (113, z_lda 0 114), (114, z_get zEM 9 2 117), (117, z_ic (40) 119), (119, z_cmp (fun x y => decide (¬ x = y)) 128 122), (122, z_lda 0 123), (123, z_ic (3) 124), (124, z_callV zEM 9 m_X9_fail 1 0 0 (zR_X9_make).cells (zR_X9_make).slots 127), (127, z_reti false), (128, z_lda 0 129), (129, z_ldi 1 130), (130, z_ic (10) 132), (132, z_cmp (fun x y => decide (y ≤ x)) 139 135), (135, z_ic (0) 136), (136, z_goto 150), (139, z_ldi 1 140), (140, z_ic (20) 142), (142, z_cmp (fun x y => decide (y ≤ x)) 149 145), (145, z_ic (1) 146), (146, z_goto 150), (149, z_ic (2) 150), (150, z_ldi 1 151), (151, z_ldi 2 152), (152, z_ldi 3 153), (153, z_ldi 5 155), (155, z_if (fun x => decide (x = 0)) 163 158), (158, z_ldi 4 160), (160, z_goto 164), (163, z_ic (-1) 164), (164, z_ic (0) 165), (165, z_ic (0) 166), (166, z_callV zEM 9 m_X9_add 7 1 11 (zR_X9_make).cells (zR_X9_make).slots 169), (169, z_reti false)]
noncomputable def zk_X9_make (pc : Nat) : Option zOp := zlook zl_X9_make pc
noncomputable def m_X9_make : List zAV → zAS → Option zOut := zmeth zk_X9_make 6
set_option maxRecDepth 100000 in
set_option maxHeartbeats 4000000 in
theorem zcs_X9_make {R : Room} (hR : R = zR_X9_make) : ∀ q ∈ zl_X9_make, zS zEM yX9_make.cls cX9_make 6 wsX9_make (some .int) R q.1 q.2 := by
  subst hR
  have hin9 : ∀ w ∈ wsX90, w ∈ wsX9_make := fun w h => List.mem_cons_of_mem _ (List.mem_append_right _ h)
  refine List.forall_mem_cons.mpr ⟨zs_aload_n dX9_make_0 rfl, ?_⟩
  refine List.forall_mem_cons.mpr ⟨zs_iconst dX9_make_1 (by decide), ?_⟩
  refine List.forall_mem_cons.mpr ⟨zs_put (ci := 9) (j := 0) (N := 10) (C := RX9) (T := TX9) (index := 29) (b := false) .int tyX9 rfl (by decide) hin9 tyX9_ok nmX9 (List.mem_of_getElem? (i := 1) rfl) rfl (by decide +kernel) zni dX9_make_2, ?_⟩
  refine List.forall_mem_cons.mpr ⟨zs_iload_n dX9_make_5 rfl, ?_⟩
  refine List.forall_mem_cons.mpr ⟨zs_iconst dX9_make_6 (by decide), ?_⟩
  refine List.forall_mem_cons.mpr ⟨zs_bipush dX9_make_7 (by decide), ?_⟩
  refine List.forall_mem_cons.mpr ⟨zs_callS (rm := zR_X9_isIn) (n := 3) zM_X9_isIn gX9_make_X9_isIn rfl (by decide +kernel) ⟨by decide, by decide⟩ dX9_make_9, ?_⟩
  refine List.forall_mem_cons.mpr ⟨zs_ifeq dX9_make_12 (by decide), ?_⟩
  refine List.forall_mem_cons.mpr ⟨zs_sget (index := 144) (t := 2) (C := "PrimePlaneModel") (n := "NEEDS") (by decide) (List.mem_of_getElem? (i := 2) rfl) dX9_make_15, ?_⟩
  refine List.forall_mem_cons.mpr ⟨zs_iload_n dX9_make_18 rfl, ?_⟩
  refine List.forall_mem_cons.mpr ⟨zs_iald dX9_make_19, ?_⟩
  refine List.forall_mem_cons.mpr ⟨zs_ifge dX9_make_20 (by decide), ?_⟩
  refine List.forall_mem_cons.mpr ⟨zs_aload_n dX9_make_23 rfl, ?_⟩
  refine List.forall_mem_cons.mpr ⟨zs_iconst dX9_make_24 (by decide), ?_⟩
  refine List.forall_mem_cons.mpr ⟨zs_callV (ci := 9) (rm := zR_X9_fail) (n := 1) rfl zM_X9_fail gX9_make_X9_fail rfl (by decide +kernel) ⟨by decide, by decide⟩ dX9_make_25, ?_⟩
  refine List.forall_mem_cons.mpr ⟨zs_reti (ty := .int) rfl (fun x h => (zni x h).1) dX9_make_28, ?_⟩
  refine List.forall_mem_cons.mpr ⟨zs_sget (index := 144) (t := 2) (C := "PrimePlaneModel") (n := "NEEDS") (by decide) (List.mem_of_getElem? (i := 2) rfl) dX9_make_29, ?_⟩
  refine List.forall_mem_cons.mpr ⟨zs_iload_n dX9_make_32 rfl, ?_⟩
  refine List.forall_mem_cons.mpr ⟨zs_iald dX9_make_33, ?_⟩
  refine List.forall_mem_cons.mpr ⟨zs_bipush dX9_make_34 (by decide), ?_⟩
  refine List.forall_mem_cons.mpr ⟨zs_irem dX9_make_36, ?_⟩
  refine List.forall_mem_cons.mpr ⟨zs_ifeq dX9_make_37 (by decide), ?_⟩
  refine List.forall_mem_cons.mpr ⟨zs_iconst dX9_make_40 (by decide), ?_⟩
  refine List.forall_mem_cons.mpr ⟨zs_goto dX9_make_41 (by decide), ?_⟩
  refine List.forall_mem_cons.mpr ⟨zs_iconst dX9_make_44 (by decide), ?_⟩
  refine List.forall_mem_cons.mpr ⟨zs_istore dX9_make_45, ?_⟩
  refine List.forall_mem_cons.mpr ⟨zs_aload_n dX9_make_47 rfl, ?_⟩
  refine List.forall_mem_cons.mpr ⟨zs_iload_n dX9_make_48 rfl, ?_⟩
  refine List.forall_mem_cons.mpr ⟨zs_callV (ci := 9) (rm := zR_X9_isObject) (n := 1) rfl zM_X9_isObject gX9_make_X9_isObject rfl (by decide +kernel) ⟨by decide, by decide⟩ dX9_make_49, ?_⟩
  refine List.forall_mem_cons.mpr ⟨zs_ifeq dX9_make_52 (by decide), ?_⟩
  refine List.forall_mem_cons.mpr ⟨zs_aload_n dX9_make_55 rfl, ?_⟩
  refine List.forall_mem_cons.mpr ⟨zs_iload_n dX9_make_56 rfl, ?_⟩
  refine List.forall_mem_cons.mpr ⟨zs_callV (ci := 9) (rm := zR_X9_isObject) (n := 1) rfl zM_X9_isObject gX9_make_X9_isObject rfl (by decide +kernel) ⟨by decide, by decide⟩ dX9_make_57, ?_⟩
  refine List.forall_mem_cons.mpr ⟨zs_ifeq dX9_make_60 (by decide), ?_⟩
  refine List.forall_mem_cons.mpr ⟨zs_iload dX9_make_63, ?_⟩
  refine List.forall_mem_cons.mpr ⟨zs_ifeq dX9_make_65 (by decide), ?_⟩
  refine List.forall_mem_cons.mpr ⟨zs_aload_n dX9_make_68 rfl, ?_⟩
  refine List.forall_mem_cons.mpr ⟨zs_iload dX9_make_69, ?_⟩
  refine List.forall_mem_cons.mpr ⟨zs_callV (ci := 9) (rm := zR_X9_isObject) (n := 1) rfl zM_X9_isObject gX9_make_X9_isObject rfl (by decide +kernel) ⟨by decide, by decide⟩ dX9_make_71, ?_⟩
  refine List.forall_mem_cons.mpr ⟨zs_ifne dX9_make_74 (by decide), ?_⟩
  refine List.forall_mem_cons.mpr ⟨zs_aload_n dX9_make_77 rfl, ?_⟩
  refine List.forall_mem_cons.mpr ⟨zs_iconst dX9_make_78 (by decide), ?_⟩
  refine List.forall_mem_cons.mpr ⟨zs_callV (ci := 9) (rm := zR_X9_fail) (n := 1) rfl zM_X9_fail gX9_make_X9_fail rfl (by decide +kernel) ⟨by decide, by decide⟩ dX9_make_79, ?_⟩
  refine List.forall_mem_cons.mpr ⟨zs_reti (ty := .int) rfl (fun x h => (zni x h).1) dX9_make_82, ?_⟩
  refine List.forall_mem_cons.mpr ⟨zs_aload_n dX9_make_83 rfl, ?_⟩
  refine List.forall_mem_cons.mpr ⟨zs_sget (index := 144) (t := 2) (C := "PrimePlaneModel") (n := "NEEDS") (by decide) (List.mem_of_getElem? (i := 2) rfl) dX9_make_84, ?_⟩
  refine List.forall_mem_cons.mpr ⟨zs_iload_n dX9_make_87 rfl, ?_⟩
  refine List.forall_mem_cons.mpr ⟨zs_iald dX9_make_88, ?_⟩
  refine List.forall_mem_cons.mpr ⟨zs_bipush dX9_make_89 (by decide), ?_⟩
  refine List.forall_mem_cons.mpr ⟨zs_iconst dX9_make_91 (by decide), ?_⟩
  refine List.forall_mem_cons.mpr ⟨zs_newa zEMok (List.mem_of_getElem? (i := 3) rfl) dX9_make_92, ?_⟩
  refine List.forall_mem_cons.mpr ⟨zs_dup dX9_make_94, ?_⟩
  refine List.forall_mem_cons.mpr ⟨zs_iconst dX9_make_95 (by decide), ?_⟩
  refine List.forall_mem_cons.mpr ⟨zs_iload_n dX9_make_96 rfl, ?_⟩
  refine List.forall_mem_cons.mpr ⟨zs_iast dX9_make_97, ?_⟩
  refine List.forall_mem_cons.mpr ⟨zs_dup dX9_make_98, ?_⟩
  refine List.forall_mem_cons.mpr ⟨zs_iconst dX9_make_99 (by decide), ?_⟩
  refine List.forall_mem_cons.mpr ⟨zs_iload_n dX9_make_100 rfl, ?_⟩
  refine List.forall_mem_cons.mpr ⟨zs_iast dX9_make_101, ?_⟩
  refine List.forall_mem_cons.mpr ⟨zs_dup dX9_make_102, ?_⟩
  refine List.forall_mem_cons.mpr ⟨zs_iconst dX9_make_103 (by decide), ?_⟩
  refine List.forall_mem_cons.mpr ⟨zs_iload dX9_make_104, ?_⟩
  refine List.forall_mem_cons.mpr ⟨zs_iast dX9_make_106, ?_⟩
  refine List.forall_mem_cons.mpr ⟨zs_callV (ci := 9) (rm := zR_X9_areOf) (n := 3) rfl zM_X9_areOf gX9_make_X9_areOf rfl (by decide +kernel) ⟨by decide, by decide⟩ dX9_make_107, ?_⟩
  refine List.forall_mem_cons.mpr ⟨zs_ifeq dX9_make_110 (by decide), ?_⟩
  refine List.forall_mem_cons.mpr ⟨zs_aload_n dX9_make_113 rfl, ?_⟩
  refine List.forall_mem_cons.mpr ⟨zs_get (ci := 9) (j := 2) (N := 10) (C := RX9) (T := TX9) (index := 32) rfl (by decide) hin9 (List.mem_of_getElem? (i := 4) rfl) dX9_make_114, ?_⟩
  refine List.forall_mem_cons.mpr ⟨zs_bipush dX9_make_117 (by decide), ?_⟩
  refine List.forall_mem_cons.mpr ⟨zs_icne dX9_make_119 (by decide), ?_⟩
  refine List.forall_mem_cons.mpr ⟨zs_aload_n dX9_make_122 rfl, ?_⟩
  refine List.forall_mem_cons.mpr ⟨zs_iconst dX9_make_123 (by decide), ?_⟩
  refine List.forall_mem_cons.mpr ⟨zs_callV (ci := 9) (rm := zR_X9_fail) (n := 1) rfl zM_X9_fail gX9_make_X9_fail rfl (by decide +kernel) ⟨by decide, by decide⟩ dX9_make_124, ?_⟩
  refine List.forall_mem_cons.mpr ⟨zs_reti (ty := .int) rfl (fun x h => (zni x h).1) dX9_make_127, ?_⟩
  refine List.forall_mem_cons.mpr ⟨zs_aload_n dX9_make_128 rfl, ?_⟩
  refine List.forall_mem_cons.mpr ⟨zs_iload_n dX9_make_129 rfl, ?_⟩
  refine List.forall_mem_cons.mpr ⟨zs_bipush dX9_make_130 (by decide), ?_⟩
  refine List.forall_mem_cons.mpr ⟨zs_icge dX9_make_132 (by decide), ?_⟩
  refine List.forall_mem_cons.mpr ⟨zs_iconst dX9_make_135 (by decide), ?_⟩
  refine List.forall_mem_cons.mpr ⟨zs_goto dX9_make_136 (by decide), ?_⟩
  refine List.forall_mem_cons.mpr ⟨zs_iload_n dX9_make_139 rfl, ?_⟩
  refine List.forall_mem_cons.mpr ⟨zs_bipush dX9_make_140 (by decide), ?_⟩
  refine List.forall_mem_cons.mpr ⟨zs_icge dX9_make_142 (by decide), ?_⟩
  refine List.forall_mem_cons.mpr ⟨zs_iconst dX9_make_145 (by decide), ?_⟩
  refine List.forall_mem_cons.mpr ⟨zs_goto dX9_make_146 (by decide), ?_⟩
  refine List.forall_mem_cons.mpr ⟨zs_iconst dX9_make_149 (by decide), ?_⟩
  refine List.forall_mem_cons.mpr ⟨zs_iload_n dX9_make_150 rfl, ?_⟩
  refine List.forall_mem_cons.mpr ⟨zs_iload_n dX9_make_151 rfl, ?_⟩
  refine List.forall_mem_cons.mpr ⟨zs_iload_n dX9_make_152 rfl, ?_⟩
  refine List.forall_mem_cons.mpr ⟨zs_iload dX9_make_153, ?_⟩
  refine List.forall_mem_cons.mpr ⟨zs_ifeq dX9_make_155 (by decide), ?_⟩
  refine List.forall_mem_cons.mpr ⟨zs_iload dX9_make_158, ?_⟩
  refine List.forall_mem_cons.mpr ⟨zs_goto dX9_make_160 (by decide), ?_⟩
  refine List.forall_mem_cons.mpr ⟨zs_iconst dX9_make_163 (by decide), ?_⟩
  refine List.forall_mem_cons.mpr ⟨zs_iconst dX9_make_164 (by decide), ?_⟩
  refine List.forall_mem_cons.mpr ⟨zs_iconst dX9_make_165 (by decide), ?_⟩
  refine List.forall_mem_cons.mpr ⟨zs_callV (ci := 9) (rm := zR_X9_add) (n := 7) rfl zM_X9_add gX9_make_X9_add rfl (by decide +kernel) ⟨by decide, by decide⟩ dX9_make_166, ?_⟩
  refine List.forall_mem_cons.mpr ⟨zs_reti (ty := .int) rfl (fun x h => (zni x h).1) dX9_make_169, ?_⟩
  exact fun _ h => absurd h List.not_mem_nil
theorem zM_X9_make : zMeets zEM yX9_make wsX9_make zR_X9_make m_X9_make := zmeth_M zEMok (zlook_all (zcs_X9_make rfl)) (by decide +kernel) rfl
theorem zr_X9_make_0 (a1 a2 a3 a4 a5 : Option zAV) (st : List zAV) (s : zAS) (k : Nat × Nat) (o : Nat × Nat) : zev zk_X9_make (0, [some (Sum.inr o), a1, a2, a3, a4, a5], st, s, k) = zev zk_X9_make (1, [some (Sum.inr o), a1, a2, a3, a4, a5], Sum.inr o :: st, s, k) := zev_go rfl rfl
theorem zr_X9_make_1 (ls : zLs) (st : List zAV) (s : zAS) (k : Nat × Nat) : zev zk_X9_make (1, ls, st, s, k) = zev zk_X9_make (2, ls, Sum.inl (Value.int (0)) :: st, s, k) := zev_go rfl rfl
theorem zr_X9_make_2 (ls : zLs) (st : List zAV) (s : zAS) (k : Nat × Nat) (o i : Nat) (x : Int32) (h : zpok zEM 9 0 false o i x) : zev zk_X9_make (2, ls, Sum.inl (Value.int x) :: Sum.inr (o, i) :: st, s, k) = zev zk_X9_make (5, ls, st, (zup s.1 o i 0 x, s.2), k) := zf_put rfl h
theorem zr_X9_make_5 (a0 a2 a3 a4 a5 : Option zAV) (st : List zAV) (s : zAS) (k : Nat × Nat) (x : Int32) : zev zk_X9_make (5, [a0, some (Sum.inl (Value.int x)), a2, a3, a4, a5], st, s, k) = zev zk_X9_make (6, [a0, some (Sum.inl (Value.int x)), a2, a3, a4, a5], Sum.inl (Value.int x) :: st, s, k) := zev_go rfl rfl
theorem zr_X9_make_6 (ls : zLs) (st : List zAV) (s : zAS) (k : Nat × Nat) : zev zk_X9_make (6, ls, st, s, k) = zev zk_X9_make (7, ls, Sum.inl (Value.int (2)) :: st, s, k) := zev_go rfl rfl
theorem zr_X9_make_7 (ls : zLs) (st : List zAV) (s : zAS) (k : Nat × Nat) : zev zk_X9_make (7, ls, st, s, k) = zev zk_X9_make (9, ls, Sum.inl (Value.int (22)) :: st, s, k) := zev_go rfl rfl
theorem zr_X9_make_9 (ls : zLs) (st : List zAV) (s : zAS) (k : Nat × Nat) (v0 v1 v2 : zAV) (h : (st.map zcat).sum ≤ 8 ∧ k.1 + 0 ≤ (zR_X9_make).cells ∧ k.2 + 0 ≤ (zR_X9_make).slots) : zev zk_X9_make (9, ls, v2 :: v1 :: v0 :: st, s, k) = zret zk_X9_make 12 ls st (k.1 + 0, k.2 + 0) (m_X9_isIn [v0, v1, v2] s) := zf_callS (as := [v2, v1, v0]) 3 rfl rfl h
theorem zr_X9_make_12 (ls : zLs) (st : List zAV) (s : zAS) (k : Nat × Nat) (x : Int32) : zev zk_X9_make (12, ls, Sum.inl (Value.int x) :: st, s, k) = if decide (x = 0) = true then zev zk_X9_make (23, ls, st, s, k) else zev zk_X9_make (15, ls, st, s, k) := zf_if (f := fun x => decide (x = 0)) rfl
theorem zr_X9_make_15 (ls : zLs) (st : List zAV) (s : zAS) (k : Nat × Nat) : zev zk_X9_make (15, ls, st, s, k) = zev zk_X9_make (18, ls, Sum.inr (98, 2) :: st, s, k) := zev_go rfl rfl
theorem zr_X9_make_18 (a0 a2 a3 a4 a5 : Option zAV) (st : List zAV) (s : zAS) (k : Nat × Nat) (x : Int32) : zev zk_X9_make (18, [a0, some (Sum.inl (Value.int x)), a2, a3, a4, a5], st, s, k) = zev zk_X9_make (19, [a0, some (Sum.inl (Value.int x)), a2, a3, a4, a5], Sum.inl (Value.int x) :: st, s, k) := zev_go rfl rfl
theorem zr_X9_make_19 (ls : zLs) (st : List zAV) (s : zAS) (k : Nat × Nat) (o i : Nat) (j : Int32) : zev zk_X9_make (19, ls, Sum.inl (Value.int j) :: Sum.inr (o, i) :: st, s, k) = zpush zk_X9_make 20 ls st s k (zald zEM o i j s) := zf_iald rfl
theorem zr_X9_make_20 (ls : zLs) (st : List zAV) (s : zAS) (k : Nat × Nat) (x : Int32) : zev zk_X9_make (20, ls, Sum.inl (Value.int x) :: st, s, k) = if decide (0 ≤ x) = true then zev zk_X9_make (29, ls, st, s, k) else zev zk_X9_make (23, ls, st, s, k) := zf_if (f := fun x => decide (0 ≤ x)) rfl
theorem zr_X9_make_23 (a1 a2 a3 a4 a5 : Option zAV) (st : List zAV) (s : zAS) (k : Nat × Nat) (o : Nat × Nat) : zev zk_X9_make (23, [some (Sum.inr o), a1, a2, a3, a4, a5], st, s, k) = zev zk_X9_make (24, [some (Sum.inr o), a1, a2, a3, a4, a5], Sum.inr o :: st, s, k) := zev_go rfl rfl
theorem zr_X9_make_24 (ls : zLs) (st : List zAV) (s : zAS) (k : Nat × Nat) : zev zk_X9_make (24, ls, st, s, k) = zev zk_X9_make (25, ls, Sum.inl (Value.int (1)) :: st, s, k) := zev_go rfl rfl
theorem zr_X9_make_25 (ls : zLs) (st : List zAV) (s : zAS) (k : Nat × Nat) (r v0 : zAV) (h : zcok zEM 9 0 0 (zR_X9_make).cells (zR_X9_make).slots r st k) : zev zk_X9_make (25, ls, v0 :: r :: st, s, k) = zret zk_X9_make 28 ls st (k.1 + 0, k.2 + 0) (m_X9_fail [r, v0] s) := zf_callV (as := [v0]) 1 rfl rfl h
theorem zr_X9_make_28 (ls : zLs) (s : zAS) (k : Nat × Nat) (x : Int32) : zev zk_X9_make (28, ls, [Sum.inl (Value.int x)], s, k) = some (.inl (some (Sum.inl (Value.int x))), s) := zf_reti rfl
theorem zr_X9_make_29 (ls : zLs) (st : List zAV) (s : zAS) (k : Nat × Nat) : zev zk_X9_make (29, ls, st, s, k) = zev zk_X9_make (32, ls, Sum.inr (98, 2) :: st, s, k) := zev_go rfl rfl
theorem zr_X9_make_32 (a0 a2 a3 a4 a5 : Option zAV) (st : List zAV) (s : zAS) (k : Nat × Nat) (x : Int32) : zev zk_X9_make (32, [a0, some (Sum.inl (Value.int x)), a2, a3, a4, a5], st, s, k) = zev zk_X9_make (33, [a0, some (Sum.inl (Value.int x)), a2, a3, a4, a5], Sum.inl (Value.int x) :: st, s, k) := zev_go rfl rfl
theorem zr_X9_make_33 (ls : zLs) (st : List zAV) (s : zAS) (k : Nat × Nat) (o i : Nat) (j : Int32) : zev zk_X9_make (33, ls, Sum.inl (Value.int j) :: Sum.inr (o, i) :: st, s, k) = zpush zk_X9_make 34 ls st s k (zald zEM o i j s) := zf_iald rfl
theorem zr_X9_make_34 (ls : zLs) (st : List zAV) (s : zAS) (k : Nat × Nat) : zev zk_X9_make (34, ls, st, s, k) = zev zk_X9_make (36, ls, Sum.inl (Value.int (10)) :: st, s, k) := zev_go rfl rfl
theorem zr_X9_make_36 (ls : zLs) (st : List zAV) (s : zAS) (k : Nat × Nat) (x y : Int32) : zev zk_X9_make (36, ls, Sum.inl (Value.int y) :: Sum.inl (Value.int x) :: st, s, k) = if y = 0 then none else zev zk_X9_make (37, ls, Sum.inl (Value.int (x - x / y * y)) :: st, s, k) := zf_rem rfl
theorem zr_X9_make_37 (ls : zLs) (st : List zAV) (s : zAS) (k : Nat × Nat) (x : Int32) : zev zk_X9_make (37, ls, Sum.inl (Value.int x) :: st, s, k) = if decide (x = 0) = true then zev zk_X9_make (44, ls, st, s, k) else zev zk_X9_make (40, ls, st, s, k) := zf_if (f := fun x => decide (x = 0)) rfl
theorem zr_X9_make_40 (ls : zLs) (st : List zAV) (s : zAS) (k : Nat × Nat) : zev zk_X9_make (40, ls, st, s, k) = zev zk_X9_make (41, ls, Sum.inl (Value.int (1)) :: st, s, k) := zev_go rfl rfl
theorem zr_X9_make_41 (ls : zLs) (st : List zAV) (s : zAS) (k : Nat × Nat) : zev zk_X9_make (41, ls, st, s, k) = zev zk_X9_make (45, ls, st, s, k) := zev_go rfl rfl
theorem zr_X9_make_44 (ls : zLs) (st : List zAV) (s : zAS) (k : Nat × Nat) : zev zk_X9_make (44, ls, st, s, k) = zev zk_X9_make (45, ls, Sum.inl (Value.int (0)) :: st, s, k) := zev_go rfl rfl
theorem zr_X9_make_45 (a0 a1 a2 a3 a4 a5 : Option zAV) (st : List zAV) (s : zAS) (k : Nat × Nat) (x : Int32) : zev zk_X9_make (45, [a0, a1, a2, a3, a4, a5], Sum.inl (Value.int x) :: st, s, k) = zev zk_X9_make (47, [a0, a1, a2, a3, zk1 a4, some (Sum.inl (Value.int x))], st, s, k) := zev_go rfl rfl
theorem zr_X9_make_47 (a1 a2 a3 a4 a5 : Option zAV) (st : List zAV) (s : zAS) (k : Nat × Nat) (o : Nat × Nat) : zev zk_X9_make (47, [some (Sum.inr o), a1, a2, a3, a4, a5], st, s, k) = zev zk_X9_make (48, [some (Sum.inr o), a1, a2, a3, a4, a5], Sum.inr o :: st, s, k) := zev_go rfl rfl
theorem zr_X9_make_48 (a0 a1 a3 a4 a5 : Option zAV) (st : List zAV) (s : zAS) (k : Nat × Nat) (x : Int32) : zev zk_X9_make (48, [a0, a1, some (Sum.inl (Value.int x)), a3, a4, a5], st, s, k) = zev zk_X9_make (49, [a0, a1, some (Sum.inl (Value.int x)), a3, a4, a5], Sum.inl (Value.int x) :: st, s, k) := zev_go rfl rfl
theorem zr_X9_make_49 (ls : zLs) (st : List zAV) (s : zAS) (k : Nat × Nat) (r v0 : zAV) (h : zcok zEM 9 0 0 (zR_X9_make).cells (zR_X9_make).slots r st k) : zev zk_X9_make (49, ls, v0 :: r :: st, s, k) = zret zk_X9_make 52 ls st (k.1 + 0, k.2 + 0) (m_X9_isObject [r, v0] s) := zf_callV (as := [v0]) 1 rfl rfl h
theorem zr_X9_make_52 (ls : zLs) (st : List zAV) (s : zAS) (k : Nat × Nat) (x : Int32) : zev zk_X9_make (52, ls, Sum.inl (Value.int x) :: st, s, k) = if decide (x = 0) = true then zev zk_X9_make (77, ls, st, s, k) else zev zk_X9_make (55, ls, st, s, k) := zf_if (f := fun x => decide (x = 0)) rfl
theorem zr_X9_make_55 (a1 a2 a3 a4 a5 : Option zAV) (st : List zAV) (s : zAS) (k : Nat × Nat) (o : Nat × Nat) : zev zk_X9_make (55, [some (Sum.inr o), a1, a2, a3, a4, a5], st, s, k) = zev zk_X9_make (56, [some (Sum.inr o), a1, a2, a3, a4, a5], Sum.inr o :: st, s, k) := zev_go rfl rfl
theorem zr_X9_make_56 (a0 a1 a2 a4 a5 : Option zAV) (st : List zAV) (s : zAS) (k : Nat × Nat) (x : Int32) : zev zk_X9_make (56, [a0, a1, a2, some (Sum.inl (Value.int x)), a4, a5], st, s, k) = zev zk_X9_make (57, [a0, a1, a2, some (Sum.inl (Value.int x)), a4, a5], Sum.inl (Value.int x) :: st, s, k) := zev_go rfl rfl
theorem zr_X9_make_57 (ls : zLs) (st : List zAV) (s : zAS) (k : Nat × Nat) (r v0 : zAV) (h : zcok zEM 9 0 0 (zR_X9_make).cells (zR_X9_make).slots r st k) : zev zk_X9_make (57, ls, v0 :: r :: st, s, k) = zret zk_X9_make 60 ls st (k.1 + 0, k.2 + 0) (m_X9_isObject [r, v0] s) := zf_callV (as := [v0]) 1 rfl rfl h
theorem zr_X9_make_60 (ls : zLs) (st : List zAV) (s : zAS) (k : Nat × Nat) (x : Int32) : zev zk_X9_make (60, ls, Sum.inl (Value.int x) :: st, s, k) = if decide (x = 0) = true then zev zk_X9_make (77, ls, st, s, k) else zev zk_X9_make (63, ls, st, s, k) := zf_if (f := fun x => decide (x = 0)) rfl
theorem zr_X9_make_63 (a0 a1 a2 a3 a4 : Option zAV) (st : List zAV) (s : zAS) (k : Nat × Nat) (x : Int32) : zev zk_X9_make (63, [a0, a1, a2, a3, a4, some (Sum.inl (Value.int x))], st, s, k) = zev zk_X9_make (65, [a0, a1, a2, a3, a4, some (Sum.inl (Value.int x))], Sum.inl (Value.int x) :: st, s, k) := zev_go rfl rfl
theorem zr_X9_make_65 (ls : zLs) (st : List zAV) (s : zAS) (k : Nat × Nat) (x : Int32) : zev zk_X9_make (65, ls, Sum.inl (Value.int x) :: st, s, k) = if decide (x = 0) = true then zev zk_X9_make (83, ls, st, s, k) else zev zk_X9_make (68, ls, st, s, k) := zf_if (f := fun x => decide (x = 0)) rfl
theorem zr_X9_make_68 (a1 a2 a3 a4 a5 : Option zAV) (st : List zAV) (s : zAS) (k : Nat × Nat) (o : Nat × Nat) : zev zk_X9_make (68, [some (Sum.inr o), a1, a2, a3, a4, a5], st, s, k) = zev zk_X9_make (69, [some (Sum.inr o), a1, a2, a3, a4, a5], Sum.inr o :: st, s, k) := zev_go rfl rfl
theorem zr_X9_make_69 (a0 a1 a2 a3 a5 : Option zAV) (st : List zAV) (s : zAS) (k : Nat × Nat) (x : Int32) : zev zk_X9_make (69, [a0, a1, a2, a3, some (Sum.inl (Value.int x)), a5], st, s, k) = zev zk_X9_make (71, [a0, a1, a2, a3, some (Sum.inl (Value.int x)), a5], Sum.inl (Value.int x) :: st, s, k) := zev_go rfl rfl
theorem zr_X9_make_71 (ls : zLs) (st : List zAV) (s : zAS) (k : Nat × Nat) (r v0 : zAV) (h : zcok zEM 9 0 0 (zR_X9_make).cells (zR_X9_make).slots r st k) : zev zk_X9_make (71, ls, v0 :: r :: st, s, k) = zret zk_X9_make 74 ls st (k.1 + 0, k.2 + 0) (m_X9_isObject [r, v0] s) := zf_callV (as := [v0]) 1 rfl rfl h
theorem zr_X9_make_74 (ls : zLs) (st : List zAV) (s : zAS) (k : Nat × Nat) (x : Int32) : zev zk_X9_make (74, ls, Sum.inl (Value.int x) :: st, s, k) = if decide (¬ x = 0) = true then zev zk_X9_make (83, ls, st, s, k) else zev zk_X9_make (77, ls, st, s, k) := zf_if (f := fun x => decide (¬ x = 0)) rfl
theorem zr_X9_make_77 (a1 a2 a3 a4 a5 : Option zAV) (st : List zAV) (s : zAS) (k : Nat × Nat) (o : Nat × Nat) : zev zk_X9_make (77, [some (Sum.inr o), a1, a2, a3, a4, a5], st, s, k) = zev zk_X9_make (78, [some (Sum.inr o), a1, a2, a3, a4, a5], Sum.inr o :: st, s, k) := zev_go rfl rfl
theorem zr_X9_make_78 (ls : zLs) (st : List zAV) (s : zAS) (k : Nat × Nat) : zev zk_X9_make (78, ls, st, s, k) = zev zk_X9_make (79, ls, Sum.inl (Value.int (2)) :: st, s, k) := zev_go rfl rfl
theorem zr_X9_make_79 (ls : zLs) (st : List zAV) (s : zAS) (k : Nat × Nat) (r v0 : zAV) (h : zcok zEM 9 0 0 (zR_X9_make).cells (zR_X9_make).slots r st k) : zev zk_X9_make (79, ls, v0 :: r :: st, s, k) = zret zk_X9_make 82 ls st (k.1 + 0, k.2 + 0) (m_X9_fail [r, v0] s) := zf_callV (as := [v0]) 1 rfl rfl h
theorem zr_X9_make_82 (ls : zLs) (s : zAS) (k : Nat × Nat) (x : Int32) : zev zk_X9_make (82, ls, [Sum.inl (Value.int x)], s, k) = some (.inl (some (Sum.inl (Value.int x))), s) := zf_reti rfl
theorem zr_X9_make_83 (a1 a2 a3 a4 a5 : Option zAV) (st : List zAV) (s : zAS) (k : Nat × Nat) (o : Nat × Nat) : zev zk_X9_make (83, [some (Sum.inr o), a1, a2, a3, a4, a5], st, s, k) = zev zk_X9_make (84, [some (Sum.inr o), a1, a2, a3, a4, a5], Sum.inr o :: st, s, k) := zev_go rfl rfl
theorem zr_X9_make_84 (ls : zLs) (st : List zAV) (s : zAS) (k : Nat × Nat) : zev zk_X9_make (84, ls, st, s, k) = zev zk_X9_make (87, ls, Sum.inr (98, 2) :: st, s, k) := zev_go rfl rfl
theorem zr_X9_make_87 (a0 a2 a3 a4 a5 : Option zAV) (st : List zAV) (s : zAS) (k : Nat × Nat) (x : Int32) : zev zk_X9_make (87, [a0, some (Sum.inl (Value.int x)), a2, a3, a4, a5], st, s, k) = zev zk_X9_make (88, [a0, some (Sum.inl (Value.int x)), a2, a3, a4, a5], Sum.inl (Value.int x) :: st, s, k) := zev_go rfl rfl
theorem zr_X9_make_88 (ls : zLs) (st : List zAV) (s : zAS) (k : Nat × Nat) (o i : Nat) (j : Int32) : zev zk_X9_make (88, ls, Sum.inl (Value.int j) :: Sum.inr (o, i) :: st, s, k) = zpush zk_X9_make 89 ls st s k (zald zEM o i j s) := zf_iald rfl
theorem zr_X9_make_89 (ls : zLs) (st : List zAV) (s : zAS) (k : Nat × Nat) : zev zk_X9_make (89, ls, st, s, k) = zev zk_X9_make (91, ls, Sum.inl (Value.int (100)) :: st, s, k) := zev_go rfl rfl
theorem zr_X9_make_91 (ls : zLs) (st : List zAV) (s : zAS) (k : Nat × Nat) : zev zk_X9_make (91, ls, st, s, k) = zev zk_X9_make (92, ls, Sum.inl (Value.int (3)) :: st, s, k) := zev_go rfl rfl
theorem zr_X9_make_92 (ls : zLs) (st : List zAV) (s : zAS) (k : Nat × Nat) (x : Int32) (h : ¬ x < 0 ∧ x.toNatClampNeg ≤ 100 ∧ k.1 + 1 ≤ (zR_X9_make).cells ∧ k.2 + x.toNatClampNeg ≤ (zR_X9_make).slots ∧ st.all (zfr s.2.length) = true ∧ ls.all (zfr' s.2.length) = true) : zev zk_X9_make (92, ls, Sum.inl (Value.int x) :: st, s, k) = zev zk_X9_make (94, ls, Sum.inr (99, s.2.length) :: st, (s.1, s.2 ++ [(x.toNatClampNeg, fun _ => 0)]), (k.1 + 1, k.2 + x.toNatClampNeg)) := zf_newa rfl h
theorem zr_X9_make_94 (ls : zLs) (st : List zAV) (s : zAS) (k : Nat × Nat) (v : zAV) (hv : zc1 v = true) : zev zk_X9_make (94, ls, v :: st, s, k) = zev zk_X9_make (95, ls, v :: v :: st, s, k) := zf_dup rfl hv
theorem zr_X9_make_95 (ls : zLs) (st : List zAV) (s : zAS) (k : Nat × Nat) : zev zk_X9_make (95, ls, st, s, k) = zev zk_X9_make (96, ls, Sum.inl (Value.int (0)) :: st, s, k) := zev_go rfl rfl
theorem zr_X9_make_96 (a0 a1 a3 a4 a5 : Option zAV) (st : List zAV) (s : zAS) (k : Nat × Nat) (x : Int32) : zev zk_X9_make (96, [a0, a1, some (Sum.inl (Value.int x)), a3, a4, a5], st, s, k) = zev zk_X9_make (97, [a0, a1, some (Sum.inl (Value.int x)), a3, a4, a5], Sum.inl (Value.int x) :: st, s, k) := zev_go rfl rfl
theorem zr_X9_make_97 (ls : zLs) (st : List zAV) (s : zAS) (k : Nat × Nat) (o i : Nat) (j x : Int32) : zev zk_X9_make (97, ls, Sum.inl (Value.int x) :: Sum.inl (Value.int j) :: Sum.inr (o, i) :: st, s, k) = zgo zk_X9_make 98 ls st k (zast zEM o i j x s) := zf_iast rfl
theorem zr_X9_make_98 (ls : zLs) (st : List zAV) (s : zAS) (k : Nat × Nat) (v : zAV) (hv : zc1 v = true) : zev zk_X9_make (98, ls, v :: st, s, k) = zev zk_X9_make (99, ls, v :: v :: st, s, k) := zf_dup rfl hv
theorem zr_X9_make_99 (ls : zLs) (st : List zAV) (s : zAS) (k : Nat × Nat) : zev zk_X9_make (99, ls, st, s, k) = zev zk_X9_make (100, ls, Sum.inl (Value.int (1)) :: st, s, k) := zev_go rfl rfl
theorem zr_X9_make_100 (a0 a1 a2 a4 a5 : Option zAV) (st : List zAV) (s : zAS) (k : Nat × Nat) (x : Int32) : zev zk_X9_make (100, [a0, a1, a2, some (Sum.inl (Value.int x)), a4, a5], st, s, k) = zev zk_X9_make (101, [a0, a1, a2, some (Sum.inl (Value.int x)), a4, a5], Sum.inl (Value.int x) :: st, s, k) := zev_go rfl rfl
theorem zr_X9_make_101 (ls : zLs) (st : List zAV) (s : zAS) (k : Nat × Nat) (o i : Nat) (j x : Int32) : zev zk_X9_make (101, ls, Sum.inl (Value.int x) :: Sum.inl (Value.int j) :: Sum.inr (o, i) :: st, s, k) = zgo zk_X9_make 102 ls st k (zast zEM o i j x s) := zf_iast rfl
theorem zr_X9_make_102 (ls : zLs) (st : List zAV) (s : zAS) (k : Nat × Nat) (v : zAV) (hv : zc1 v = true) : zev zk_X9_make (102, ls, v :: st, s, k) = zev zk_X9_make (103, ls, v :: v :: st, s, k) := zf_dup rfl hv
theorem zr_X9_make_103 (ls : zLs) (st : List zAV) (s : zAS) (k : Nat × Nat) : zev zk_X9_make (103, ls, st, s, k) = zev zk_X9_make (104, ls, Sum.inl (Value.int (2)) :: st, s, k) := zev_go rfl rfl
theorem zr_X9_make_104 (a0 a1 a2 a3 a5 : Option zAV) (st : List zAV) (s : zAS) (k : Nat × Nat) (x : Int32) : zev zk_X9_make (104, [a0, a1, a2, a3, some (Sum.inl (Value.int x)), a5], st, s, k) = zev zk_X9_make (106, [a0, a1, a2, a3, some (Sum.inl (Value.int x)), a5], Sum.inl (Value.int x) :: st, s, k) := zev_go rfl rfl
theorem zr_X9_make_106 (ls : zLs) (st : List zAV) (s : zAS) (k : Nat × Nat) (o i : Nat) (j x : Int32) : zev zk_X9_make (106, ls, Sum.inl (Value.int x) :: Sum.inl (Value.int j) :: Sum.inr (o, i) :: st, s, k) = zgo zk_X9_make 107 ls st k (zast zEM o i j x s) := zf_iast rfl
theorem zr_X9_make_107 (ls : zLs) (st : List zAV) (s : zAS) (k : Nat × Nat) (r v0 v1 v2 : zAV) (h : zcok zEM 9 0 0 (zR_X9_make).cells (zR_X9_make).slots r st k) : zev zk_X9_make (107, ls, v2 :: v1 :: v0 :: r :: st, s, k) = zret zk_X9_make 110 ls st (k.1 + 0, k.2 + 0) (m_X9_areOf [r, v0, v1, v2] s) := zf_callV (as := [v2, v1, v0]) 3 rfl rfl h
theorem zr_X9_make_110 (ls : zLs) (st : List zAV) (s : zAS) (k : Nat × Nat) (x : Int32) : zev zk_X9_make (110, ls, Sum.inl (Value.int x) :: st, s, k) = if decide (x = 0) = true then zev zk_X9_make (122, ls, st, s, k) else zev zk_X9_make (113, ls, st, s, k) := zf_if (f := fun x => decide (x = 0)) rfl
theorem zr_X9_make_113 (a1 a2 a3 a4 a5 : Option zAV) (st : List zAV) (s : zAS) (k : Nat × Nat) (o : Nat × Nat) : zev zk_X9_make (113, [some (Sum.inr o), a1, a2, a3, a4, a5], st, s, k) = zev zk_X9_make (114, [some (Sum.inr o), a1, a2, a3, a4, a5], Sum.inr o :: st, s, k) := zev_go rfl rfl
theorem zr_X9_make_114 (ls : zLs) (st : List zAV) (s : zAS) (k : Nat × Nat) (o i : Nat) : zev zk_X9_make (114, ls, Sum.inr (o, i) :: st, s, k) = zpush zk_X9_make 117 ls st s k (zgv zEM 9 2 o i s.1) := zf_get rfl
theorem zr_X9_make_117 (ls : zLs) (st : List zAV) (s : zAS) (k : Nat × Nat) : zev zk_X9_make (117, ls, st, s, k) = zev zk_X9_make (119, ls, Sum.inl (Value.int (40)) :: st, s, k) := zev_go rfl rfl
theorem zr_X9_make_119 (ls : zLs) (st : List zAV) (s : zAS) (k : Nat × Nat) (x y : Int32) : zev zk_X9_make (119, ls, Sum.inl (Value.int y) :: Sum.inl (Value.int x) :: st, s, k) = if decide (¬ x = y) = true then zev zk_X9_make (128, ls, st, s, k) else zev zk_X9_make (122, ls, st, s, k) := zf_cmp (f := fun x y => decide (¬ x = y)) rfl
theorem zr_X9_make_122 (a1 a2 a3 a4 a5 : Option zAV) (st : List zAV) (s : zAS) (k : Nat × Nat) (o : Nat × Nat) : zev zk_X9_make (122, [some (Sum.inr o), a1, a2, a3, a4, a5], st, s, k) = zev zk_X9_make (123, [some (Sum.inr o), a1, a2, a3, a4, a5], Sum.inr o :: st, s, k) := zev_go rfl rfl
theorem zr_X9_make_123 (ls : zLs) (st : List zAV) (s : zAS) (k : Nat × Nat) : zev zk_X9_make (123, ls, st, s, k) = zev zk_X9_make (124, ls, Sum.inl (Value.int (3)) :: st, s, k) := zev_go rfl rfl
theorem zr_X9_make_124 (ls : zLs) (st : List zAV) (s : zAS) (k : Nat × Nat) (r v0 : zAV) (h : zcok zEM 9 0 0 (zR_X9_make).cells (zR_X9_make).slots r st k) : zev zk_X9_make (124, ls, v0 :: r :: st, s, k) = zret zk_X9_make 127 ls st (k.1 + 0, k.2 + 0) (m_X9_fail [r, v0] s) := zf_callV (as := [v0]) 1 rfl rfl h
theorem zr_X9_make_127 (ls : zLs) (s : zAS) (k : Nat × Nat) (x : Int32) : zev zk_X9_make (127, ls, [Sum.inl (Value.int x)], s, k) = some (.inl (some (Sum.inl (Value.int x))), s) := zf_reti rfl
theorem zr_X9_make_128 (a1 a2 a3 a4 a5 : Option zAV) (st : List zAV) (s : zAS) (k : Nat × Nat) (o : Nat × Nat) : zev zk_X9_make (128, [some (Sum.inr o), a1, a2, a3, a4, a5], st, s, k) = zev zk_X9_make (129, [some (Sum.inr o), a1, a2, a3, a4, a5], Sum.inr o :: st, s, k) := zev_go rfl rfl
theorem zr_X9_make_129 (a0 a2 a3 a4 a5 : Option zAV) (st : List zAV) (s : zAS) (k : Nat × Nat) (x : Int32) : zev zk_X9_make (129, [a0, some (Sum.inl (Value.int x)), a2, a3, a4, a5], st, s, k) = zev zk_X9_make (130, [a0, some (Sum.inl (Value.int x)), a2, a3, a4, a5], Sum.inl (Value.int x) :: st, s, k) := zev_go rfl rfl
theorem zr_X9_make_130 (ls : zLs) (st : List zAV) (s : zAS) (k : Nat × Nat) : zev zk_X9_make (130, ls, st, s, k) = zev zk_X9_make (132, ls, Sum.inl (Value.int (10)) :: st, s, k) := zev_go rfl rfl
theorem zr_X9_make_132 (ls : zLs) (st : List zAV) (s : zAS) (k : Nat × Nat) (x y : Int32) : zev zk_X9_make (132, ls, Sum.inl (Value.int y) :: Sum.inl (Value.int x) :: st, s, k) = if decide (y ≤ x) = true then zev zk_X9_make (139, ls, st, s, k) else zev zk_X9_make (135, ls, st, s, k) := zf_cmp (f := fun x y => decide (y ≤ x)) rfl
theorem zr_X9_make_135 (ls : zLs) (st : List zAV) (s : zAS) (k : Nat × Nat) : zev zk_X9_make (135, ls, st, s, k) = zev zk_X9_make (136, ls, Sum.inl (Value.int (0)) :: st, s, k) := zev_go rfl rfl
theorem zr_X9_make_136 (ls : zLs) (st : List zAV) (s : zAS) (k : Nat × Nat) : zev zk_X9_make (136, ls, st, s, k) = zev zk_X9_make (150, ls, st, s, k) := zev_go rfl rfl
theorem zr_X9_make_139 (a0 a2 a3 a4 a5 : Option zAV) (st : List zAV) (s : zAS) (k : Nat × Nat) (x : Int32) : zev zk_X9_make (139, [a0, some (Sum.inl (Value.int x)), a2, a3, a4, a5], st, s, k) = zev zk_X9_make (140, [a0, some (Sum.inl (Value.int x)), a2, a3, a4, a5], Sum.inl (Value.int x) :: st, s, k) := zev_go rfl rfl
theorem zr_X9_make_140 (ls : zLs) (st : List zAV) (s : zAS) (k : Nat × Nat) : zev zk_X9_make (140, ls, st, s, k) = zev zk_X9_make (142, ls, Sum.inl (Value.int (20)) :: st, s, k) := zev_go rfl rfl
theorem zr_X9_make_142 (ls : zLs) (st : List zAV) (s : zAS) (k : Nat × Nat) (x y : Int32) : zev zk_X9_make (142, ls, Sum.inl (Value.int y) :: Sum.inl (Value.int x) :: st, s, k) = if decide (y ≤ x) = true then zev zk_X9_make (149, ls, st, s, k) else zev zk_X9_make (145, ls, st, s, k) := zf_cmp (f := fun x y => decide (y ≤ x)) rfl
theorem zr_X9_make_145 (ls : zLs) (st : List zAV) (s : zAS) (k : Nat × Nat) : zev zk_X9_make (145, ls, st, s, k) = zev zk_X9_make (146, ls, Sum.inl (Value.int (1)) :: st, s, k) := zev_go rfl rfl
theorem zr_X9_make_146 (ls : zLs) (st : List zAV) (s : zAS) (k : Nat × Nat) : zev zk_X9_make (146, ls, st, s, k) = zev zk_X9_make (150, ls, st, s, k) := zev_go rfl rfl
theorem zr_X9_make_149 (ls : zLs) (st : List zAV) (s : zAS) (k : Nat × Nat) : zev zk_X9_make (149, ls, st, s, k) = zev zk_X9_make (150, ls, Sum.inl (Value.int (2)) :: st, s, k) := zev_go rfl rfl
theorem zr_X9_make_150 (a0 a2 a3 a4 a5 : Option zAV) (st : List zAV) (s : zAS) (k : Nat × Nat) (x : Int32) : zev zk_X9_make (150, [a0, some (Sum.inl (Value.int x)), a2, a3, a4, a5], st, s, k) = zev zk_X9_make (151, [a0, some (Sum.inl (Value.int x)), a2, a3, a4, a5], Sum.inl (Value.int x) :: st, s, k) := zev_go rfl rfl
theorem zr_X9_make_151 (a0 a1 a3 a4 a5 : Option zAV) (st : List zAV) (s : zAS) (k : Nat × Nat) (x : Int32) : zev zk_X9_make (151, [a0, a1, some (Sum.inl (Value.int x)), a3, a4, a5], st, s, k) = zev zk_X9_make (152, [a0, a1, some (Sum.inl (Value.int x)), a3, a4, a5], Sum.inl (Value.int x) :: st, s, k) := zev_go rfl rfl
theorem zr_X9_make_152 (a0 a1 a2 a4 a5 : Option zAV) (st : List zAV) (s : zAS) (k : Nat × Nat) (x : Int32) : zev zk_X9_make (152, [a0, a1, a2, some (Sum.inl (Value.int x)), a4, a5], st, s, k) = zev zk_X9_make (153, [a0, a1, a2, some (Sum.inl (Value.int x)), a4, a5], Sum.inl (Value.int x) :: st, s, k) := zev_go rfl rfl
theorem zr_X9_make_153 (a0 a1 a2 a3 a4 : Option zAV) (st : List zAV) (s : zAS) (k : Nat × Nat) (x : Int32) : zev zk_X9_make (153, [a0, a1, a2, a3, a4, some (Sum.inl (Value.int x))], st, s, k) = zev zk_X9_make (155, [a0, a1, a2, a3, a4, some (Sum.inl (Value.int x))], Sum.inl (Value.int x) :: st, s, k) := zev_go rfl rfl
theorem zr_X9_make_155 (ls : zLs) (st : List zAV) (s : zAS) (k : Nat × Nat) (x : Int32) : zev zk_X9_make (155, ls, Sum.inl (Value.int x) :: st, s, k) = if decide (x = 0) = true then zev zk_X9_make (163, ls, st, s, k) else zev zk_X9_make (158, ls, st, s, k) := zf_if (f := fun x => decide (x = 0)) rfl
theorem zr_X9_make_158 (a0 a1 a2 a3 a5 : Option zAV) (st : List zAV) (s : zAS) (k : Nat × Nat) (x : Int32) : zev zk_X9_make (158, [a0, a1, a2, a3, some (Sum.inl (Value.int x)), a5], st, s, k) = zev zk_X9_make (160, [a0, a1, a2, a3, some (Sum.inl (Value.int x)), a5], Sum.inl (Value.int x) :: st, s, k) := zev_go rfl rfl
theorem zr_X9_make_160 (ls : zLs) (st : List zAV) (s : zAS) (k : Nat × Nat) : zev zk_X9_make (160, ls, st, s, k) = zev zk_X9_make (164, ls, st, s, k) := zev_go rfl rfl
theorem zr_X9_make_163 (ls : zLs) (st : List zAV) (s : zAS) (k : Nat × Nat) : zev zk_X9_make (163, ls, st, s, k) = zev zk_X9_make (164, ls, Sum.inl (Value.int (-1)) :: st, s, k) := zev_go rfl rfl
theorem zr_X9_make_164 (ls : zLs) (st : List zAV) (s : zAS) (k : Nat × Nat) : zev zk_X9_make (164, ls, st, s, k) = zev zk_X9_make (165, ls, Sum.inl (Value.int (0)) :: st, s, k) := zev_go rfl rfl
theorem zr_X9_make_165 (ls : zLs) (st : List zAV) (s : zAS) (k : Nat × Nat) : zev zk_X9_make (165, ls, st, s, k) = zev zk_X9_make (166, ls, Sum.inl (Value.int (0)) :: st, s, k) := zev_go rfl rfl
theorem zr_X9_make_166 (ls : zLs) (st : List zAV) (s : zAS) (k : Nat × Nat) (r v0 v1 v2 v3 v4 v5 v6 : zAV) (h : zcok zEM 9 1 11 (zR_X9_make).cells (zR_X9_make).slots r st k) : zev zk_X9_make (166, ls, v6 :: v5 :: v4 :: v3 :: v2 :: v1 :: v0 :: r :: st, s, k) = zret zk_X9_make 169 ls st (k.1 + 1, k.2 + 11) (m_X9_add [r, v0, v1, v2, v3, v4, v5, v6] s) := zf_callV (as := [v6, v5, v4, v3, v2, v1, v0]) 7 rfl rfl h
theorem zr_X9_make_169 (ls : zLs) (s : zAS) (k : Nat × Nat) (x : Int32) : zev zk_X9_make (169, ls, [Sum.inl (Value.int x)], s, k) = some (.inl (some (Sum.inl (Value.int x))), s) := zf_reti rfl
/-! X9_place: PrimePlaneModel.place(III)V -/
abbrev zR_X9_place : Room := ({ frames := 8, cells := 0, slots := 0, locals := 186 } : Room)
noncomputable def zl_X9_place : List (Nat × zOp) := [(0, z_lda 0 1), (1, z_get zEM 9 3 4), (4, z_ic (11) 6), (6, z_ldi 1 7), (7, z_bin (fun x y => x * y) 8), (8, z_ic (5) 9), (9, z_bin (fun x y => x + y) 10), (10, z_ldi 2 11), (11, z_iast zEM 12), (12, z_lda 0 13), (13, z_get zEM 9 3 16), (16, z_ic (11) 18), (18, z_ldi 1 19), (19, z_bin (fun x y => x * y) 20), (20, z_ic (5) 21), (21, z_bin (fun x y => x + y) 22), (22, z_ic (1) 23), (23, z_bin (fun x y => x + y) 24), (24, z_ldi 3 25), (25, z_iast zEM 26), (26, z_lda 0 27), (27, z_callV zEM 9 m_X9_findAll 0 0 0 (zR_X9_place).cells (zR_X9_place).slots 30), (30, z_retv)]
noncomputable def zk_X9_place (pc : Nat) : Option zOp := zlook zl_X9_place pc
noncomputable def m_X9_place : List zAV → zAS → Option zOut := zmeth zk_X9_place 4
set_option maxRecDepth 100000 in
set_option maxHeartbeats 4000000 in
theorem zcs_X9_place {R : Room} (hR : R = zR_X9_place) : ∀ q ∈ zl_X9_place, zS zEM yX9_place.cls cX9_place 4 wsX9_place none R q.1 q.2 := by
  subst hR
  have hin9 : ∀ w ∈ wsX90, w ∈ wsX9_place := fun w h => List.mem_cons_of_mem _ (List.mem_append_right _ h)
  refine List.forall_mem_cons.mpr ⟨zs_aload_n dX9_place_0 rfl, ?_⟩
  refine List.forall_mem_cons.mpr ⟨zs_get (ci := 9) (j := 3) (N := 10) (C := RX9) (T := TX9) (index := 13) rfl (by decide) hin9 (List.mem_of_getElem? (i := 1) rfl) dX9_place_1, ?_⟩
  refine List.forall_mem_cons.mpr ⟨zs_bipush dX9_place_4 (by decide), ?_⟩
  refine List.forall_mem_cons.mpr ⟨zs_iload_n dX9_place_6 rfl, ?_⟩
  refine List.forall_mem_cons.mpr ⟨zs_imul dX9_place_7, ?_⟩
  refine List.forall_mem_cons.mpr ⟨zs_iconst dX9_place_8 (by decide), ?_⟩
  refine List.forall_mem_cons.mpr ⟨zs_iadd dX9_place_9, ?_⟩
  refine List.forall_mem_cons.mpr ⟨zs_iload_n dX9_place_10 rfl, ?_⟩
  refine List.forall_mem_cons.mpr ⟨zs_iast dX9_place_11, ?_⟩
  refine List.forall_mem_cons.mpr ⟨zs_aload_n dX9_place_12 rfl, ?_⟩
  refine List.forall_mem_cons.mpr ⟨zs_get (ci := 9) (j := 3) (N := 10) (C := RX9) (T := TX9) (index := 13) rfl (by decide) hin9 (List.mem_of_getElem? (i := 1) rfl) dX9_place_13, ?_⟩
  refine List.forall_mem_cons.mpr ⟨zs_bipush dX9_place_16 (by decide), ?_⟩
  refine List.forall_mem_cons.mpr ⟨zs_iload_n dX9_place_18 rfl, ?_⟩
  refine List.forall_mem_cons.mpr ⟨zs_imul dX9_place_19, ?_⟩
  refine List.forall_mem_cons.mpr ⟨zs_iconst dX9_place_20 (by decide), ?_⟩
  refine List.forall_mem_cons.mpr ⟨zs_iadd dX9_place_21, ?_⟩
  refine List.forall_mem_cons.mpr ⟨zs_iconst dX9_place_22 (by decide), ?_⟩
  refine List.forall_mem_cons.mpr ⟨zs_iadd dX9_place_23, ?_⟩
  refine List.forall_mem_cons.mpr ⟨zs_iload_n dX9_place_24 rfl, ?_⟩
  refine List.forall_mem_cons.mpr ⟨zs_iast dX9_place_25, ?_⟩
  refine List.forall_mem_cons.mpr ⟨zs_aload_n dX9_place_26 rfl, ?_⟩
  refine List.forall_mem_cons.mpr ⟨zs_callV (ci := 9) (rm := zR_X9_findAll) (n := 0) rfl zM_X9_findAll gX9_place_X9_findAll rfl (by decide +kernel) ⟨by decide, by decide⟩ dX9_place_27, ?_⟩
  refine List.forall_mem_cons.mpr ⟨zs_retv rfl dX9_place_30, ?_⟩
  exact fun _ h => absurd h List.not_mem_nil
theorem zM_X9_place : zMeets zEM yX9_place wsX9_place zR_X9_place m_X9_place := zmeth_M zEMok (zlook_all (zcs_X9_place rfl)) (by decide +kernel) rfl
theorem zr_X9_place_0 (a1 a2 a3 : Option zAV) (st : List zAV) (s : zAS) (k : Nat × Nat) (o : Nat × Nat) : zev zk_X9_place (0, [some (Sum.inr o), a1, a2, a3], st, s, k) = zev zk_X9_place (1, [some (Sum.inr o), a1, a2, a3], Sum.inr o :: st, s, k) := zev_go rfl rfl
theorem zr_X9_place_1 (ls : zLs) (st : List zAV) (s : zAS) (k : Nat × Nat) (o i : Nat) : zev zk_X9_place (1, ls, Sum.inr (o, i) :: st, s, k) = zpush zk_X9_place 4 ls st s k (zgv zEM 9 3 o i s.1) := zf_get rfl
theorem zr_X9_place_4 (ls : zLs) (st : List zAV) (s : zAS) (k : Nat × Nat) : zev zk_X9_place (4, ls, st, s, k) = zev zk_X9_place (6, ls, Sum.inl (Value.int (11)) :: st, s, k) := zev_go rfl rfl
theorem zr_X9_place_6 (a0 a2 a3 : Option zAV) (st : List zAV) (s : zAS) (k : Nat × Nat) (x : Int32) : zev zk_X9_place (6, [a0, some (Sum.inl (Value.int x)), a2, a3], st, s, k) = zev zk_X9_place (7, [a0, some (Sum.inl (Value.int x)), a2, a3], Sum.inl (Value.int x) :: st, s, k) := zev_go rfl rfl
theorem zr_X9_place_7 (ls : zLs) (st : List zAV) (s : zAS) (k : Nat × Nat) (x y : Int32) : zev zk_X9_place (7, ls, Sum.inl (Value.int y) :: Sum.inl (Value.int x) :: st, s, k) = zev zk_X9_place (8, ls, Sum.inl (Value.int (x * y)) :: st, s, k) := zev_go rfl rfl
theorem zr_X9_place_8 (ls : zLs) (st : List zAV) (s : zAS) (k : Nat × Nat) : zev zk_X9_place (8, ls, st, s, k) = zev zk_X9_place (9, ls, Sum.inl (Value.int (5)) :: st, s, k) := zev_go rfl rfl
theorem zr_X9_place_9 (ls : zLs) (st : List zAV) (s : zAS) (k : Nat × Nat) (x y : Int32) : zev zk_X9_place (9, ls, Sum.inl (Value.int y) :: Sum.inl (Value.int x) :: st, s, k) = zev zk_X9_place (10, ls, Sum.inl (Value.int (x + y)) :: st, s, k) := zev_go rfl rfl
theorem zr_X9_place_10 (a0 a1 a3 : Option zAV) (st : List zAV) (s : zAS) (k : Nat × Nat) (x : Int32) : zev zk_X9_place (10, [a0, a1, some (Sum.inl (Value.int x)), a3], st, s, k) = zev zk_X9_place (11, [a0, a1, some (Sum.inl (Value.int x)), a3], Sum.inl (Value.int x) :: st, s, k) := zev_go rfl rfl
theorem zr_X9_place_11 (ls : zLs) (st : List zAV) (s : zAS) (k : Nat × Nat) (o i : Nat) (j x : Int32) : zev zk_X9_place (11, ls, Sum.inl (Value.int x) :: Sum.inl (Value.int j) :: Sum.inr (o, i) :: st, s, k) = zgo zk_X9_place 12 ls st k (zast zEM o i j x s) := zf_iast rfl
theorem zr_X9_place_12 (a1 a2 a3 : Option zAV) (st : List zAV) (s : zAS) (k : Nat × Nat) (o : Nat × Nat) : zev zk_X9_place (12, [some (Sum.inr o), a1, a2, a3], st, s, k) = zev zk_X9_place (13, [some (Sum.inr o), a1, a2, a3], Sum.inr o :: st, s, k) := zev_go rfl rfl
theorem zr_X9_place_13 (ls : zLs) (st : List zAV) (s : zAS) (k : Nat × Nat) (o i : Nat) : zev zk_X9_place (13, ls, Sum.inr (o, i) :: st, s, k) = zpush zk_X9_place 16 ls st s k (zgv zEM 9 3 o i s.1) := zf_get rfl
theorem zr_X9_place_16 (ls : zLs) (st : List zAV) (s : zAS) (k : Nat × Nat) : zev zk_X9_place (16, ls, st, s, k) = zev zk_X9_place (18, ls, Sum.inl (Value.int (11)) :: st, s, k) := zev_go rfl rfl
theorem zr_X9_place_18 (a0 a2 a3 : Option zAV) (st : List zAV) (s : zAS) (k : Nat × Nat) (x : Int32) : zev zk_X9_place (18, [a0, some (Sum.inl (Value.int x)), a2, a3], st, s, k) = zev zk_X9_place (19, [a0, some (Sum.inl (Value.int x)), a2, a3], Sum.inl (Value.int x) :: st, s, k) := zev_go rfl rfl
theorem zr_X9_place_19 (ls : zLs) (st : List zAV) (s : zAS) (k : Nat × Nat) (x y : Int32) : zev zk_X9_place (19, ls, Sum.inl (Value.int y) :: Sum.inl (Value.int x) :: st, s, k) = zev zk_X9_place (20, ls, Sum.inl (Value.int (x * y)) :: st, s, k) := zev_go rfl rfl
theorem zr_X9_place_20 (ls : zLs) (st : List zAV) (s : zAS) (k : Nat × Nat) : zev zk_X9_place (20, ls, st, s, k) = zev zk_X9_place (21, ls, Sum.inl (Value.int (5)) :: st, s, k) := zev_go rfl rfl
theorem zr_X9_place_21 (ls : zLs) (st : List zAV) (s : zAS) (k : Nat × Nat) (x y : Int32) : zev zk_X9_place (21, ls, Sum.inl (Value.int y) :: Sum.inl (Value.int x) :: st, s, k) = zev zk_X9_place (22, ls, Sum.inl (Value.int (x + y)) :: st, s, k) := zev_go rfl rfl
theorem zr_X9_place_22 (ls : zLs) (st : List zAV) (s : zAS) (k : Nat × Nat) : zev zk_X9_place (22, ls, st, s, k) = zev zk_X9_place (23, ls, Sum.inl (Value.int (1)) :: st, s, k) := zev_go rfl rfl
theorem zr_X9_place_23 (ls : zLs) (st : List zAV) (s : zAS) (k : Nat × Nat) (x y : Int32) : zev zk_X9_place (23, ls, Sum.inl (Value.int y) :: Sum.inl (Value.int x) :: st, s, k) = zev zk_X9_place (24, ls, Sum.inl (Value.int (x + y)) :: st, s, k) := zev_go rfl rfl
theorem zr_X9_place_24 (a0 a1 a2 : Option zAV) (st : List zAV) (s : zAS) (k : Nat × Nat) (x : Int32) : zev zk_X9_place (24, [a0, a1, a2, some (Sum.inl (Value.int x))], st, s, k) = zev zk_X9_place (25, [a0, a1, a2, some (Sum.inl (Value.int x))], Sum.inl (Value.int x) :: st, s, k) := zev_go rfl rfl
theorem zr_X9_place_25 (ls : zLs) (st : List zAV) (s : zAS) (k : Nat × Nat) (o i : Nat) (j x : Int32) : zev zk_X9_place (25, ls, Sum.inl (Value.int x) :: Sum.inl (Value.int j) :: Sum.inr (o, i) :: st, s, k) = zgo zk_X9_place 26 ls st k (zast zEM o i j x s) := zf_iast rfl
theorem zr_X9_place_26 (a1 a2 a3 : Option zAV) (st : List zAV) (s : zAS) (k : Nat × Nat) (o : Nat × Nat) : zev zk_X9_place (26, [some (Sum.inr o), a1, a2, a3], st, s, k) = zev zk_X9_place (27, [some (Sum.inr o), a1, a2, a3], Sum.inr o :: st, s, k) := zev_go rfl rfl
theorem zr_X9_place_27 (ls : zLs) (st : List zAV) (s : zAS) (k : Nat × Nat) (r : zAV) (h : zcok zEM 9 0 0 (zR_X9_place).cells (zR_X9_place).slots r st k) : zev zk_X9_place (27, ls, r :: st, s, k) = zret zk_X9_place 30 ls st (k.1 + 0, k.2 + 0) (m_X9_findAll [r] s) := zf_callV (as := []) 0 rfl rfl h
theorem zr_X9_place_30 (ls : zLs) (s : zAS) (k : Nat × Nat) : zev zk_X9_place (30, ls, [], s, k) = some (.inl none, s) := zev_end rfl rfl
