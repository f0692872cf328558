/-! X9_verdict: PrimePlaneModel.verdict(I)I -/
abbrev zR_X9_verdict : Room := ({ frames := 6, cells := 0, slots := 0, locals := 141 } : Room)
noncomputable def zl_X9_verdict : List (Nat × zOp) := [(0, z_ic (5) 1), (1, z_ldi 1 2), (2, z_bin (fun x y => x * y) 3), (3, z_sti 2 4), (4, z_lda 0 5), (5, z_get zEM 9 5 8), (8, z_ldi 2 9), (9, z_iald zEM 10), (10, z_sti 3 11), (11, z_ldi 3 12), (12, z_ic (6) 14), (14, z_cmp (fun x y => decide (¬ x = y)) 23 17), (17, z_ic (1100) 20), (20, z_goto 28), (23, z_sget 3 26), (26, z_ldi 3 27), (27, z_iald zEM 28), (28, z_sti 4 30), (30, z_ic (1000) 33), (33, z_sti 5 35), (35, z_ic (1) 36), (36, z_sti 6 38), (38, z_ldi 6 40), (40, z_ic (5) 41), (41, z_cmp (fun x y => decide (y ≤ x)) 86 44), (44, z_ldi 4 46), (46, z_ldi 5 48), (48, z_div 49), (49, z_ic (10) 51), (51, z_rem 52), (52, z_if (fun x => decide (x = 0)) 73 55), (55, z_lda 0 56), (56, z_lda 0 57), (57, z_get zEM 9 5 60), (60, z_ldi 2 61), (61, z_ldi 6 63), (63, z_bin (fun x y => x + y) 64), (64, z_iald zEM 65), (65, z_callV zEM 9 m_X9_lacks 1 0 0 (zR_X9_verdict).cells (zR_X9_verdict).slots 68), (68, z_if (fun x => decide (x = 0)) 73 71), (71, z_ic (-1) 72), (72, z_reti false), (73, z_ldi 5 75), (75, z_ic (10) 77), (77, z_div 78), (78, z_sti 5 80), (80, z_iinc 6 (1) 83), (83, z_goto 38), (86, z_lda 0 87), (87, z_ldi 3 88), (88, z_lda 0 89), (89, z_get zEM 9 5 92), (92, z_ldi 2 93), (93, z_ic (1) 94), (94, z_bin (fun x y => x + y) 95), (95, z_iald zEM 96), (96, z_lda 0 97), (97, z_get zEM 9 5 100), (100, z_ldi 2 101), (101, z_ic (2) 102), (102, z_bin (fun x y => x + y) 103), (103, z_iald zEM 104), (104, z_lda 0 105), (105, z_get zEM 9 5 108), (108, z_ldi 2 109), (109, z_ic (3) 110), (110, z_bin (fun x y => x + y) 111), (111, z_iald zEM 112), (112, z_lda 0 113), (113, z_get zEM 9 5 116), (116, z_ldi 2 117), (117, z_ic (4) 118), (118, z_bin (fun x y => x + y) 119), (119, z_iald zEM 120), (120, z_callV zEM 9 m_X9_isTrue 5 0 0 (zR_X9_verdict).cells (zR_X9_verdict).slots 123), (123, z_if (fun x => decide (x = 0)) 130 126), (126, z_ic (1) 127), (127, z_goto 131), (130, z_ic (0) 131), (131, z_reti false)]
noncomputable def zk_X9_verdict (pc : Nat) : Option zOp := zlook zl_X9_verdict pc
noncomputable def m_X9_verdict : List zAV → zAS → Option zOut := zmeth zk_X9_verdict 7
set_option maxRecDepth 100000 in
set_option maxHeartbeats 4000000 in
theorem zcs_X9_verdict {R : Room} (hR : R = zR_X9_verdict) : ∀ q ∈ zl_X9_verdict, zS zEM yX9_verdict.cls cX9_verdict 7 wsX9_verdict (some .int) R q.1 q.2 := by
  subst hR
  have hin9 : ∀ w ∈ wsX90, w ∈ wsX9_verdict := fun w h => List.mem_cons_of_mem _ (List.mem_append_right _ h)
  refine List.forall_mem_cons.mpr ⟨zs_iconst dX9_verdict_0 (by decide), ?_⟩
  refine List.forall_mem_cons.mpr ⟨zs_iload_n dX9_verdict_1 rfl, ?_⟩
  refine List.forall_mem_cons.mpr ⟨zs_imul dX9_verdict_2, ?_⟩
  refine List.forall_mem_cons.mpr ⟨zs_istore_n dX9_verdict_3 rfl, ?_⟩
  refine List.forall_mem_cons.mpr ⟨zs_aload_n dX9_verdict_4 rfl, ?_⟩
  refine List.forall_mem_cons.mpr ⟨zs_get (ci := 9) (j := 5) (N := 10) (C := RX9) (T := TX9) (index := 17) rfl (by decide) hin9 (List.mem_of_getElem? (i := 1) rfl) dX9_verdict_5, ?_⟩
  refine List.forall_mem_cons.mpr ⟨zs_iload_n dX9_verdict_8 rfl, ?_⟩
  refine List.forall_mem_cons.mpr ⟨zs_iald dX9_verdict_9, ?_⟩
  refine List.forall_mem_cons.mpr ⟨zs_istore_n dX9_verdict_10 rfl, ?_⟩
  refine List.forall_mem_cons.mpr ⟨zs_iload_n dX9_verdict_11 rfl, ?_⟩
  refine List.forall_mem_cons.mpr ⟨zs_bipush dX9_verdict_12 (by decide), ?_⟩
  refine List.forall_mem_cons.mpr ⟨zs_icne dX9_verdict_14 (by decide), ?_⟩
  refine List.forall_mem_cons.mpr ⟨zs_sipush dX9_verdict_17 (by decide), ?_⟩
  refine List.forall_mem_cons.mpr ⟨zs_goto dX9_verdict_20 (by decide), ?_⟩
  refine List.forall_mem_cons.mpr ⟨zs_sget (index := 158) (t := 3) (C := "PrimePlaneModel") (n := "CLAIM_NEEDS") (by decide) (List.mem_of_getElem? (i := 2) rfl) dX9_verdict_23, ?_⟩
  refine List.forall_mem_cons.mpr ⟨zs_iload_n dX9_verdict_26 rfl, ?_⟩
  refine List.forall_mem_cons.mpr ⟨zs_iald dX9_verdict_27, ?_⟩
  refine List.forall_mem_cons.mpr ⟨zs_istore dX9_verdict_28, ?_⟩
  refine List.forall_mem_cons.mpr ⟨zs_sipush dX9_verdict_30 (by decide), ?_⟩
  refine List.forall_mem_cons.mpr ⟨zs_istore dX9_verdict_33, ?_⟩
  refine List.forall_mem_cons.mpr ⟨zs_iconst dX9_verdict_35 (by decide), ?_⟩
  refine List.forall_mem_cons.mpr ⟨zs_istore dX9_verdict_36, ?_⟩
  refine List.forall_mem_cons.mpr ⟨zs_iload dX9_verdict_38, ?_⟩
  refine List.forall_mem_cons.mpr ⟨zs_iconst dX9_verdict_40 (by decide), ?_⟩
  refine List.forall_mem_cons.mpr ⟨zs_icge dX9_verdict_41 (by decide), ?_⟩
  refine List.forall_mem_cons.mpr ⟨zs_iload dX9_verdict_44, ?_⟩
  refine List.forall_mem_cons.mpr ⟨zs_iload dX9_verdict_46, ?_⟩
  refine List.forall_mem_cons.mpr ⟨zs_idiv dX9_verdict_48, ?_⟩
  refine List.forall_mem_cons.mpr ⟨zs_bipush dX9_verdict_49 (by decide), ?_⟩
  refine List.forall_mem_cons.mpr ⟨zs_irem dX9_verdict_51, ?_⟩
  refine List.forall_mem_cons.mpr ⟨zs_ifeq dX9_verdict_52 (by decide), ?_⟩
  refine List.forall_mem_cons.mpr ⟨zs_aload_n dX9_verdict_55 rfl, ?_⟩
  refine List.forall_mem_cons.mpr ⟨zs_aload_n dX9_verdict_56 rfl, ?_⟩
  refine List.forall_mem_cons.mpr ⟨zs_get (ci := 9) (j := 5) (N := 10) (C := RX9) (T := TX9) (index := 17) rfl (by decide) hin9 (List.mem_of_getElem? (i := 1) rfl) dX9_verdict_57, ?_⟩
  refine List.forall_mem_cons.mpr ⟨zs_iload_n dX9_verdict_60 rfl, ?_⟩
  refine List.forall_mem_cons.mpr ⟨zs_iload dX9_verdict_61, ?_⟩
  refine List.forall_mem_cons.mpr ⟨zs_iadd dX9_verdict_63, ?_⟩
  refine List.forall_mem_cons.mpr ⟨zs_iald dX9_verdict_64, ?_⟩
  refine List.forall_mem_cons.mpr ⟨zs_callV (ci := 9) (rm := zR_X9_lacks) (n := 1) rfl zM_X9_lacks gX9_verdict_X9_lacks rfl (by decide +kernel) ⟨by decide, by decide⟩ dX9_verdict_65, ?_⟩
  refine List.forall_mem_cons.mpr ⟨zs_ifeq dX9_verdict_68 (by decide), ?_⟩
  refine List.forall_mem_cons.mpr ⟨zs_iconst dX9_verdict_71 (by decide), ?_⟩
  refine List.forall_mem_cons.mpr ⟨zs_reti (ty := .int) rfl (fun x h => (zni x h).1) dX9_verdict_72, ?_⟩
  refine List.forall_mem_cons.mpr ⟨zs_iload dX9_verdict_73, ?_⟩
  refine List.forall_mem_cons.mpr ⟨zs_bipush dX9_verdict_75 (by decide), ?_⟩
  refine List.forall_mem_cons.mpr ⟨zs_idiv dX9_verdict_77, ?_⟩
  refine List.forall_mem_cons.mpr ⟨zs_istore dX9_verdict_78, ?_⟩
  refine List.forall_mem_cons.mpr ⟨zs_iinc dX9_verdict_80 (by decide), ?_⟩
  refine List.forall_mem_cons.mpr ⟨zs_goto dX9_verdict_83 (by decide), ?_⟩
  refine List.forall_mem_cons.mpr ⟨zs_aload_n dX9_verdict_86 rfl, ?_⟩
  refine List.forall_mem_cons.mpr ⟨zs_iload_n dX9_verdict_87 rfl, ?_⟩
  refine List.forall_mem_cons.mpr ⟨zs_aload_n dX9_verdict_88 rfl, ?_⟩
  refine List.forall_mem_cons.mpr ⟨zs_get (ci := 9) (j := 5) (N := 10) (C := RX9) (T := TX9) (index := 17) rfl (by decide) hin9 (List.mem_of_getElem? (i := 1) rfl) dX9_verdict_89, ?_⟩
  refine List.forall_mem_cons.mpr ⟨zs_iload_n dX9_verdict_92 rfl, ?_⟩
  refine List.forall_mem_cons.mpr ⟨zs_iconst dX9_verdict_93 (by decide), ?_⟩
  refine List.forall_mem_cons.mpr ⟨zs_iadd dX9_verdict_94, ?_⟩
  refine List.forall_mem_cons.mpr ⟨zs_iald dX9_verdict_95, ?_⟩
  refine List.forall_mem_cons.mpr ⟨zs_aload_n dX9_verdict_96 rfl, ?_⟩
  refine List.forall_mem_cons.mpr ⟨zs_get (ci := 9) (j := 5) (N := 10) (C := RX9) (T := TX9) (index := 17) rfl (by decide) hin9 (List.mem_of_getElem? (i := 1) rfl) dX9_verdict_97, ?_⟩
  refine List.forall_mem_cons.mpr ⟨zs_iload_n dX9_verdict_100 rfl, ?_⟩
  refine List.forall_mem_cons.mpr ⟨zs_iconst dX9_verdict_101 (by decide), ?_⟩
  refine List.forall_mem_cons.mpr ⟨zs_iadd dX9_verdict_102, ?_⟩
  refine List.forall_mem_cons.mpr ⟨zs_iald dX9_verdict_103, ?_⟩
  refine List.forall_mem_cons.mpr ⟨zs_aload_n dX9_verdict_104 rfl, ?_⟩
  refine List.forall_mem_cons.mpr ⟨zs_get (ci := 9) (j := 5) (N := 10) (C := RX9) (T := TX9) (index := 17) rfl (by decide) hin9 (List.mem_of_getElem? (i := 1) rfl) dX9_verdict_105, ?_⟩
  refine List.forall_mem_cons.mpr ⟨zs_iload_n dX9_verdict_108 rfl, ?_⟩
  refine List.forall_mem_cons.mpr ⟨zs_iconst dX9_verdict_109 (by decide), ?_⟩
  refine List.forall_mem_cons.mpr ⟨zs_iadd dX9_verdict_110, ?_⟩
  refine List.forall_mem_cons.mpr ⟨zs_iald dX9_verdict_111, ?_⟩
  refine List.forall_mem_cons.mpr ⟨zs_aload_n dX9_verdict_112 rfl, ?_⟩
  refine List.forall_mem_cons.mpr ⟨zs_get (ci := 9) (j := 5) (N := 10) (C := RX9) (T := TX9) (index := 17) rfl (by decide) hin9 (List.mem_of_getElem? (i := 1) rfl) dX9_verdict_113, ?_⟩
  refine List.forall_mem_cons.mpr ⟨zs_iload_n dX9_verdict_116 rfl, ?_⟩
  refine List.forall_mem_cons.mpr ⟨zs_iconst dX9_verdict_117 (by decide), ?_⟩
  refine List.forall_mem_cons.mpr ⟨zs_iadd dX9_verdict_118, ?_⟩
  refine List.forall_mem_cons.mpr ⟨zs_iald dX9_verdict_119, ?_⟩
  refine List.forall_mem_cons.mpr ⟨zs_callV (ci := 9) (rm := zR_X9_isTrue) (n := 5) rfl zM_X9_isTrue gX9_verdict_X9_isTrue rfl (by decide +kernel) ⟨by decide, by decide⟩ dX9_verdict_120, ?_⟩
  refine List.forall_mem_cons.mpr ⟨zs_ifeq dX9_verdict_123 (by decide), ?_⟩
  refine List.forall_mem_cons.mpr ⟨zs_iconst dX9_verdict_126 (by decide), ?_⟩
  refine List.forall_mem_cons.mpr ⟨zs_goto dX9_verdict_127 (by decide), ?_⟩
  refine List.forall_mem_cons.mpr ⟨zs_iconst dX9_verdict_130 (by decide), ?_⟩
  refine List.forall_mem_cons.mpr ⟨zs_reti (ty := .int) rfl (fun x h => (zni x h).1) dX9_verdict_131, ?_⟩
  exact fun _ h => absurd h List.not_mem_nil
theorem zM_X9_verdict : zMeets zEM yX9_verdict wsX9_verdict zR_X9_verdict m_X9_verdict := zmeth_M zEMok (zlook_all (zcs_X9_verdict rfl)) (by decide +kernel) rfl
theorem zr_X9_verdict_0 (ls : zLs) (st : List zAV) (s : zAS) (k : Nat × Nat) : zev zk_X9_verdict (0, ls, st, s, k) = zev zk_X9_verdict (1, ls, Sum.inl (Value.int (5)) :: st, s, k) := zev_go rfl rfl
theorem zr_X9_verdict_1 (a0 a2 a3 a4 a5 a6 : Option zAV) (st : List zAV) (s : zAS) (k : Nat × Nat) (x : Int32) : zev zk_X9_verdict (1, [a0, some (Sum.inl (Value.int x)), a2, a3, a4, a5, a6], st, s, k) = zev zk_X9_verdict (2, [a0, some (Sum.inl (Value.int x)), a2, a3, a4, a5, a6], Sum.inl (Value.int x) :: st, s, k) := zev_go rfl rfl
theorem zr_X9_verdict_2 (ls : zLs) (st : List zAV) (s : zAS) (k : Nat × Nat) (x y : Int32) : zev zk_X9_verdict (2, ls, Sum.inl (Value.int y) :: Sum.inl (Value.int x) :: st, s, k) = zev zk_X9_verdict (3, ls, Sum.inl (Value.int (x * y)) :: st, s, k) := zev_go rfl rfl
theorem zr_X9_verdict_3 (a0 a1 a2 a3 a4 a5 a6 : Option zAV) (st : List zAV) (s : zAS) (k : Nat × Nat) (x : Int32) : zev zk_X9_verdict (3, [a0, a1, a2, a3, a4, a5, a6], Sum.inl (Value.int x) :: st, s, k) = zev zk_X9_verdict (4, [a0, zk1 a1, some (Sum.inl (Value.int x)), a3, a4, a5, a6], st, s, k) := zev_go rfl rfl
theorem zr_X9_verdict_4 (a1 a2 a3 a4 a5 a6 : Option zAV) (st : List zAV) (s : zAS) (k : Nat × Nat) (o : Nat × Nat) : zev zk_X9_verdict (4, [some (Sum.inr o), a1, a2, a3, a4, a5, a6], st, s, k) = zev zk_X9_verdict (5, [some (Sum.inr o), a1, a2, a3, a4, a5, a6], Sum.inr o :: st, s, k) := zev_go rfl rfl
theorem zr_X9_verdict_5 (ls : zLs) (st : List zAV) (s : zAS) (k : Nat × Nat) (o i : Nat) : zev zk_X9_verdict (5, ls, Sum.inr (o, i) :: st, s, k) = zpush zk_X9_verdict 8 ls st s k (zgv zEM 9 5 o i s.1) := zf_get rfl
theorem zr_X9_verdict_8 (a0 a1 a3 a4 a5 a6 : Option zAV) (st : List zAV) (s : zAS) (k : Nat × Nat) (x : Int32) : zev zk_X9_verdict (8, [a0, a1, some (Sum.inl (Value.int x)), a3, a4, a5, a6], st, s, k) = zev zk_X9_verdict (9, [a0, a1, some (Sum.inl (Value.int x)), a3, a4, a5, a6], Sum.inl (Value.int x) :: st, s, k) := zev_go rfl rfl
theorem zr_X9_verdict_9 (ls : zLs) (st : List zAV) (s : zAS) (k : Nat × Nat) (o i : Nat) (j : Int32) : zev zk_X9_verdict (9, ls, Sum.inl (Value.int j) :: Sum.inr (o, i) :: st, s, k) = zpush zk_X9_verdict 10 ls st s k (zald zEM o i j s) := zf_iald rfl
theorem zr_X9_verdict_10 (a0 a1 a2 a3 a4 a5 a6 : Option zAV) (st : List zAV) (s : zAS) (k : Nat × Nat) (x : Int32) : zev zk_X9_verdict (10, [a0, a1, a2, a3, a4, a5, a6], Sum.inl (Value.int x) :: st, s, k) = zev zk_X9_verdict (11, [a0, a1, zk1 a2, some (Sum.inl (Value.int x)), a4, a5, a6], st, s, k) := zev_go rfl rfl
theorem zr_X9_verdict_11 (a0 a1 a2 a4 a5 a6 : Option zAV) (st : List zAV) (s : zAS) (k : Nat × Nat) (x : Int32) : zev zk_X9_verdict (11, [a0, a1, a2, some (Sum.inl (Value.int x)), a4, a5, a6], st, s, k) = zev zk_X9_verdict (12, [a0, a1, a2, some (Sum.inl (Value.int x)), a4, a5, a6], Sum.inl (Value.int x) :: st, s, k) := zev_go rfl rfl
theorem zr_X9_verdict_12 (ls : zLs) (st : List zAV) (s : zAS) (k : Nat × Nat) : zev zk_X9_verdict (12, ls, st, s, k) = zev zk_X9_verdict (14, ls, Sum.inl (Value.int (6)) :: st, s, k) := zev_go rfl rfl
theorem zr_X9_verdict_14 (ls : zLs) (st : List zAV) (s : zAS) (k : Nat × Nat) (x y : Int32) : zev zk_X9_verdict (14, ls, Sum.inl (Value.int y) :: Sum.inl (Value.int x) :: st, s, k) = if decide (¬ x = y) = true then zev zk_X9_verdict (23, ls, st, s, k) else zev zk_X9_verdict (17, ls, st, s, k) := zf_cmp (f := fun x y => decide (¬ x = y)) rfl
theorem zr_X9_verdict_17 (ls : zLs) (st : List zAV) (s : zAS) (k : Nat × Nat) : zev zk_X9_verdict (17, ls, st, s, k) = zev zk_X9_verdict (20, ls, Sum.inl (Value.int (1100)) :: st, s, k) := zev_go rfl rfl
theorem zr_X9_verdict_20 (ls : zLs) (st : List zAV) (s : zAS) (k : Nat × Nat) : zev zk_X9_verdict (20, ls, st, s, k) = zev zk_X9_verdict (28, ls, st, s, k) := zev_go rfl rfl
theorem zr_X9_verdict_23 (ls : zLs) (st : List zAV) (s : zAS) (k : Nat × Nat) : zev zk_X9_verdict (23, ls, st, s, k) = zev zk_X9_verdict (26, ls, Sum.inr (98, 3) :: st, s, k) := zev_go rfl rfl
theorem zr_X9_verdict_26 (a0 a1 a2 a4 a5 a6 : Option zAV) (st : List zAV) (s : zAS) (k : Nat × Nat) (x : Int32) : zev zk_X9_verdict (26, [a0, a1, a2, some (Sum.inl (Value.int x)), a4, a5, a6], st, s, k) = zev zk_X9_verdict (27, [a0, a1, a2, some (Sum.inl (Value.int x)), a4, a5, a6], Sum.inl (Value.int x) :: st, s, k) := zev_go rfl rfl
theorem zr_X9_verdict_27 (ls : zLs) (st : List zAV) (s : zAS) (k : Nat × Nat) (o i : Nat) (j : Int32) : zev zk_X9_verdict (27, ls, Sum.inl (Value.int j) :: Sum.inr (o, i) :: st, s, k) = zpush zk_X9_verdict 28 ls st s k (zald zEM o i j s) := zf_iald rfl
theorem zr_X9_verdict_28 (a0 a1 a2 a3 a4 a5 a6 : Option zAV) (st : List zAV) (s : zAS) (k : Nat × Nat) (x : Int32) : zev zk_X9_verdict (28, [a0, a1, a2, a3, a4, a5, a6], Sum.inl (Value.int x) :: st, s, k) = zev zk_X9_verdict (30, [a0, a1, a2, zk1 a3, some (Sum.inl (Value.int x)), a5, a6], st, s, k) := zev_go rfl rfl
theorem zr_X9_verdict_30 (ls : zLs) (st : List zAV) (s : zAS) (k : Nat × Nat) : zev zk_X9_verdict (30, ls, st, s, k) = zev zk_X9_verdict (33, ls, Sum.inl (Value.int (1000)) :: st, s, k) := zev_go rfl rfl
theorem zr_X9_verdict_33 (a0 a1 a2 a3 a4 a5 a6 : Option zAV) (st : List zAV) (s : zAS) (k : Nat × Nat) (x : Int32) : zev zk_X9_verdict (33, [a0, a1, a2, a3, a4, a5, a6], Sum.inl (Value.int x) :: st, s, k) = zev zk_X9_verdict (35, [a0, a1, a2, a3, zk1 a4, some (Sum.inl (Value.int x)), a6], st, s, k) := zev_go rfl rfl
theorem zr_X9_verdict_35 (ls : zLs) (st : List zAV) (s : zAS) (k : Nat × Nat) : zev zk_X9_verdict (35, ls, st, s, k) = zev zk_X9_verdict (36, ls, Sum.inl (Value.int (1)) :: st, s, k) := zev_go rfl rfl
theorem zr_X9_verdict_36 (a0 a1 a2 a3 a4 a5 a6 : Option zAV) (st : List zAV) (s : zAS) (k : Nat × Nat) (x : Int32) : zev zk_X9_verdict (36, [a0, a1, a2, a3, a4, a5, a6], Sum.inl (Value.int x) :: st, s, k) = zev zk_X9_verdict (38, [a0, a1, a2, a3, a4, zk1 a5, some (Sum.inl (Value.int x))], st, s, k) := zev_go rfl rfl
theorem zr_X9_verdict_38 (a0 a1 a2 a3 a4 a5 : Option zAV) (st : List zAV) (s : zAS) (k : Nat × Nat) (x : Int32) : zev zk_X9_verdict (38, [a0, a1, a2, a3, a4, a5, some (Sum.inl (Value.int x))], st, s, k) = zev zk_X9_verdict (40, [a0, a1, a2, a3, a4, a5, some (Sum.inl (Value.int x))], Sum.inl (Value.int x) :: st, s, k) := zev_go rfl rfl
theorem zr_X9_verdict_40 (ls : zLs) (st : List zAV) (s : zAS) (k : Nat × Nat) : zev zk_X9_verdict (40, ls, st, s, k) = zev zk_X9_verdict (41, ls, Sum.inl (Value.int (5)) :: st, s, k) := zev_go rfl rfl
theorem zr_X9_verdict_41 (ls : zLs) (st : List zAV) (s : zAS) (k : Nat × Nat) (x y : Int32) : zev zk_X9_verdict (41, ls, Sum.inl (Value.int y) :: Sum.inl (Value.int x) :: st, s, k) = if decide (y ≤ x) = true then zev zk_X9_verdict (86, ls, st, s, k) else zev zk_X9_verdict (44, ls, st, s, k) := zf_cmp (f := fun x y => decide (y ≤ x)) rfl
theorem zr_X9_verdict_44 (a0 a1 a2 a3 a5 a6 : Option zAV) (st : List zAV) (s : zAS) (k : Nat × Nat) (x : Int32) : zev zk_X9_verdict (44, [a0, a1, a2, a3, some (Sum.inl (Value.int x)), a5, a6], st, s, k) = zev zk_X9_verdict (46, [a0, a1, a2, a3, some (Sum.inl (Value.int x)), a5, a6], Sum.inl (Value.int x) :: st, s, k) := zev_go rfl rfl
theorem zr_X9_verdict_46 (a0 a1 a2 a3 a4 a6 : Option zAV) (st : List zAV) (s : zAS) (k : Nat × Nat) (x : Int32) : zev zk_X9_verdict (46, [a0, a1, a2, a3, a4, some (Sum.inl (Value.int x)), a6], st, s, k) = zev zk_X9_verdict (48, [a0, a1, a2, a3, a4, some (Sum.inl (Value.int x)), a6], Sum.inl (Value.int x) :: st, s, k) := zev_go rfl rfl
theorem zr_X9_verdict_48 (ls : zLs) (st : List zAV) (s : zAS) (k : Nat × Nat) (x y : Int32) : zev zk_X9_verdict (48, ls, Sum.inl (Value.int y) :: Sum.inl (Value.int x) :: st, s, k) = if y = 0 then none else zev zk_X9_verdict (49, ls, Sum.inl (Value.int (x / y)) :: st, s, k) := zf_div rfl
theorem zr_X9_verdict_49 (ls : zLs) (st : List zAV) (s : zAS) (k : Nat × Nat) : zev zk_X9_verdict (49, ls, st, s, k) = zev zk_X9_verdict (51, ls, Sum.inl (Value.int (10)) :: st, s, k) := zev_go rfl rfl
theorem zr_X9_verdict_51 (ls : zLs) (st : List zAV) (s : zAS) (k : Nat × Nat) (x y : Int32) : zev zk_X9_verdict (51, ls, Sum.inl (Value.int y) :: Sum.inl (Value.int x) :: st, s, k) = if y = 0 then none else zev zk_X9_verdict (52, ls, Sum.inl (Value.int (x - x / y * y)) :: st, s, k) := zf_rem rfl
theorem zr_X9_verdict_52 (ls : zLs) (st : List zAV) (s : zAS) (k : Nat × Nat) (x : Int32) : zev zk_X9_verdict (52, ls, Sum.inl (Value.int x) :: st, s, k) = if decide (x = 0) = true then zev zk_X9_verdict (73, ls, st, s, k) else zev zk_X9_verdict (55, ls, st, s, k) := zf_if (f := fun x => decide (x = 0)) rfl
theorem zr_X9_verdict_55 (a1 a2 a3 a4 a5 a6 : Option zAV) (st : List zAV) (s : zAS) (k : Nat × Nat) (o : Nat × Nat) : zev zk_X9_verdict (55, [some (Sum.inr o), a1, a2, a3, a4, a5, a6], st, s, k) = zev zk_X9_verdict (56, [some (Sum.inr o), a1, a2, a3, a4, a5, a6], Sum.inr o :: st, s, k) := zev_go rfl rfl
theorem zr_X9_verdict_56 (a1 a2 a3 a4 a5 a6 : Option zAV) (st : List zAV) (s : zAS) (k : Nat × Nat) (o : Nat × Nat) : zev zk_X9_verdict (56, [some (Sum.inr o), a1, a2, a3, a4, a5, a6], st, s, k) = zev zk_X9_verdict (57, [some (Sum.inr o), a1, a2, a3, a4, a5, a6], Sum.inr o :: st, s, k) := zev_go rfl rfl
theorem zr_X9_verdict_57 (ls : zLs) (st : List zAV) (s : zAS) (k : Nat × Nat) (o i : Nat) : zev zk_X9_verdict (57, ls, Sum.inr (o, i) :: st, s, k) = zpush zk_X9_verdict 60 ls st s k (zgv zEM 9 5 o i s.1) := zf_get rfl
theorem zr_X9_verdict_60 (a0 a1 a3 a4 a5 a6 : Option zAV) (st : List zAV) (s : zAS) (k : Nat × Nat) (x : Int32) : zev zk_X9_verdict (60, [a0, a1, some (Sum.inl (Value.int x)), a3, a4, a5, a6], st, s, k) = zev zk_X9_verdict (61, [a0, a1, some (Sum.inl (Value.int x)), a3, a4, a5, a6], Sum.inl (Value.int x) :: st, s, k) := zev_go rfl rfl
theorem zr_X9_verdict_61 (a0 a1 a2 a3 a4 a5 : Option zAV) (st : List zAV) (s : zAS) (k : Nat × Nat) (x : Int32) : zev zk_X9_verdict (61, [a0, a1, a2, a3, a4, a5, some (Sum.inl (Value.int x))], st, s, k) = zev zk_X9_verdict (63, [a0, a1, a2, a3, a4, a5, some (Sum.inl (Value.int x))], Sum.inl (Value.int x) :: st, s, k) := zev_go rfl rfl
theorem zr_X9_verdict_63 (ls : zLs) (st : List zAV) (s : zAS) (k : Nat × Nat) (x y : Int32) : zev zk_X9_verdict (63, ls, Sum.inl (Value.int y) :: Sum.inl (Value.int x) :: st, s, k) = zev zk_X9_verdict (64, ls, Sum.inl (Value.int (x + y)) :: st, s, k) := zev_go rfl rfl
theorem zr_X9_verdict_64 (ls : zLs) (st : List zAV) (s : zAS) (k : Nat × Nat) (o i : Nat) (j : Int32) : zev zk_X9_verdict (64, ls, Sum.inl (Value.int j) :: Sum.inr (o, i) :: st, s, k) = zpush zk_X9_verdict 65 ls st s k (zald zEM o i j s) := zf_iald rfl
theorem zr_X9_verdict_65 (ls : zLs) (st : List zAV) (s : zAS) (k : Nat × Nat) (r v0 : zAV) (h : zcok zEM 9 0 0 (zR_X9_verdict).cells (zR_X9_verdict).slots r st k) : zev zk_X9_verdict (65, ls, v0 :: r :: st, s, k) = zret zk_X9_verdict 68 ls st (k.1 + 0, k.2 + 0) (m_X9_lacks [r, v0] s) := zf_callV (as := [v0]) 1 rfl rfl h
theorem zr_X9_verdict_68 (ls : zLs) (st : List zAV) (s : zAS) (k : Nat × Nat) (x : Int32) : zev zk_X9_verdict (68, ls, Sum.inl (Value.int x) :: st, s, k) = if decide (x = 0) = true then zev zk_X9_verdict (73, ls, st, s, k) else zev zk_X9_verdict (71, ls, st, s, k) := zf_if (f := fun x => decide (x = 0)) rfl
theorem zr_X9_verdict_71 (ls : zLs) (st : List zAV) (s : zAS) (k : Nat × Nat) : zev zk_X9_verdict (71, ls, st, s, k) = zev zk_X9_verdict (72, ls, Sum.inl (Value.int (-1)) :: st, s, k) := zev_go rfl rfl
theorem zr_X9_verdict_72 (ls : zLs) (s : zAS) (k : Nat × Nat) (x : Int32) : zev zk_X9_verdict (72, ls, [Sum.inl (Value.int x)], s, k) = some (.inl (some (Sum.inl (Value.int x))), s) := zf_reti rfl
theorem zr_X9_verdict_73 (a0 a1 a2 a3 a4 a6 : Option zAV) (st : List zAV) (s : zAS) (k : Nat × Nat) (x : Int32) : zev zk_X9_verdict (73, [a0, a1, a2, a3, a4, some (Sum.inl (Value.int x)), a6], st, s, k) = zev zk_X9_verdict (75, [a0, a1, a2, a3, a4, some (Sum.inl (Value.int x)), a6], Sum.inl (Value.int x) :: st, s, k) := zev_go rfl rfl
theorem zr_X9_verdict_75 (ls : zLs) (st : List zAV) (s : zAS) (k : Nat × Nat) : zev zk_X9_verdict (75, ls, st, s, k) = zev zk_X9_verdict (77, ls, Sum.inl (Value.int (10)) :: st, s, k) := zev_go rfl rfl
theorem zr_X9_verdict_77 (ls : zLs) (st : List zAV) (s : zAS) (k : Nat × Nat) (x y : Int32) : zev zk_X9_verdict (77, ls, Sum.inl (Value.int y) :: Sum.inl (Value.int x) :: st, s, k) = if y = 0 then none else zev zk_X9_verdict (78, ls, Sum.inl (Value.int (x / y)) :: st, s, k) := zf_div rfl
theorem zr_X9_verdict_78 (a0 a1 a2 a3 a4 a5 a6 : Option zAV) (st : List zAV) (s : zAS) (k : Nat × Nat) (x : Int32) : zev zk_X9_verdict (78, [a0, a1, a2, a3, a4, a5, a6], Sum.inl (Value.int x) :: st, s, k) = zev zk_X9_verdict (80, [a0, a1, a2, a3, zk1 a4, some (Sum.inl (Value.int x)), a6], st, s, k) := zev_go rfl rfl
theorem zr_X9_verdict_80 (a0 a1 a2 a3 a4 a5 : Option zAV) (st : List zAV) (s : zAS) (k : Nat × Nat) (x : Int32) : zev zk_X9_verdict (80, [a0, a1, a2, a3, a4, a5, some (Sum.inl (Value.int x))], st, s, k) = zev zk_X9_verdict (83, [a0, a1, a2, a3, a4, zk1 a5, some (Sum.inl (Value.int (x + (1))))], st, s, k) := zev_go rfl rfl
theorem zr_X9_verdict_83 (ls : zLs) (st : List zAV) (s : zAS) (k : Nat × Nat) : zev zk_X9_verdict (83, ls, st, s, k) = zev zk_X9_verdict (38, ls, st, s, k) := zev_go rfl rfl
theorem zr_X9_verdict_86 (a1 a2 a3 a4 a5 a6 : Option zAV) (st : List zAV) (s : zAS) (k : Nat × Nat) (o : Nat × Nat) : zev zk_X9_verdict (86, [some (Sum.inr o), a1, a2, a3, a4, a5, a6], st, s, k) = zev zk_X9_verdict (87, [some (Sum.inr o), a1, a2, a3, a4, a5, a6], Sum.inr o :: st, s, k) := zev_go rfl rfl
theorem zr_X9_verdict_87 (a0 a1 a2 a4 a5 a6 : Option zAV) (st : List zAV) (s : zAS) (k : Nat × Nat) (x : Int32) : zev zk_X9_verdict (87, [a0, a1, a2, some (Sum.inl (Value.int x)), a4, a5, a6], st, s, k) = zev zk_X9_verdict (88, [a0, a1, a2, some (Sum.inl (Value.int x)), a4, a5, a6], Sum.inl (Value.int x) :: st, s, k) := zev_go rfl rfl
theorem zr_X9_verdict_88 (a1 a2 a3 a4 a5 a6 : Option zAV) (st : List zAV) (s : zAS) (k : Nat × Nat) (o : Nat × Nat) : zev zk_X9_verdict (88, [some (Sum.inr o), a1, a2, a3, a4, a5, a6], st, s, k) = zev zk_X9_verdict (89, [some (Sum.inr o), a1, a2, a3, a4, a5, a6], Sum.inr o :: st, s, k) := zev_go rfl rfl
theorem zr_X9_verdict_89 (ls : zLs) (st : List zAV) (s : zAS) (k : Nat × Nat) (o i : Nat) : zev zk_X9_verdict (89, ls, Sum.inr (o, i) :: st, s, k) = zpush zk_X9_verdict 92 ls st s k (zgv zEM 9 5 o i s.1) := zf_get rfl
theorem zr_X9_verdict_92 (a0 a1 a3 a4 a5 a6 : Option zAV) (st : List zAV) (s : zAS) (k : Nat × Nat) (x : Int32) : zev zk_X9_verdict (92, [a0, a1, some (Sum.inl (Value.int x)), a3, a4, a5, a6], st, s, k) = zev zk_X9_verdict (93, [a0, a1, some (Sum.inl (Value.int x)), a3, a4, a5, a6], Sum.inl (Value.int x) :: st, s, k) := zev_go rfl rfl
theorem zr_X9_verdict_93 (ls : zLs) (st : List zAV) (s : zAS) (k : Nat × Nat) : zev zk_X9_verdict (93, ls, st, s, k) = zev zk_X9_verdict (94, ls, Sum.inl (Value.int (1)) :: st, s, k) := zev_go rfl rfl
theorem zr_X9_verdict_94 (ls : zLs) (st : List zAV) (s : zAS) (k : Nat × Nat) (x y : Int32) : zev zk_X9_verdict (94, ls, Sum.inl (Value.int y) :: Sum.inl (Value.int x) :: st, s, k) = zev zk_X9_verdict (95, ls, Sum.inl (Value.int (x + y)) :: st, s, k) := zev_go rfl rfl
theorem zr_X9_verdict_95 (ls : zLs) (st : List zAV) (s : zAS) (k : Nat × Nat) (o i : Nat) (j : Int32) : zev zk_X9_verdict (95, ls, Sum.inl (Value.int j) :: Sum.inr (o, i) :: st, s, k) = zpush zk_X9_verdict 96 ls st s k (zald zEM o i j s) := zf_iald rfl
theorem zr_X9_verdict_96 (a1 a2 a3 a4 a5 a6 : Option zAV) (st : List zAV) (s : zAS) (k : Nat × Nat) (o : Nat × Nat) : zev zk_X9_verdict (96, [some (Sum.inr o), a1, a2, a3, a4, a5, a6], st, s, k) = zev zk_X9_verdict (97, [some (Sum.inr o), a1, a2, a3, a4, a5, a6], Sum.inr o :: st, s, k) := zev_go rfl rfl
theorem zr_X9_verdict_97 (ls : zLs) (st : List zAV) (s : zAS) (k : Nat × Nat) (o i : Nat) : zev zk_X9_verdict (97, ls, Sum.inr (o, i) :: st, s, k) = zpush zk_X9_verdict 100 ls st s k (zgv zEM 9 5 o i s.1) := zf_get rfl
theorem zr_X9_verdict_100 (a0 a1 a3 a4 a5 a6 : Option zAV) (st : List zAV) (s : zAS) (k : Nat × Nat) (x : Int32) : zev zk_X9_verdict (100, [a0, a1, some (Sum.inl (Value.int x)), a3, a4, a5, a6], st, s, k) = zev zk_X9_verdict (101, [a0, a1, some (Sum.inl (Value.int x)), a3, a4, a5, a6], Sum.inl (Value.int x) :: st, s, k) := zev_go rfl rfl
theorem zr_X9_verdict_101 (ls : zLs) (st : List zAV) (s : zAS) (k : Nat × Nat) : zev zk_X9_verdict (101, ls, st, s, k) = zev zk_X9_verdict (102, ls, Sum.inl (Value.int (2)) :: st, s, k) := zev_go rfl rfl
theorem zr_X9_verdict_102 (ls : zLs) (st : List zAV) (s : zAS) (k : Nat × Nat) (x y : Int32) : zev zk_X9_verdict (102, ls, Sum.inl (Value.int y) :: Sum.inl (Value.int x) :: st, s, k) = zev zk_X9_verdict (103, ls, Sum.inl (Value.int (x + y)) :: st, s, k) := zev_go rfl rfl
theorem zr_X9_verdict_103 (ls : zLs) (st : List zAV) (s : zAS) (k : Nat × Nat) (o i : Nat) (j : Int32) : zev zk_X9_verdict (103, ls, Sum.inl (Value.int j) :: Sum.inr (o, i) :: st, s, k) = zpush zk_X9_verdict 104 ls st s k (zald zEM o i j s) := zf_iald rfl
theorem zr_X9_verdict_104 (a1 a2 a3 a4 a5 a6 : Option zAV) (st : List zAV) (s : zAS) (k : Nat × Nat) (o : Nat × Nat) : zev zk_X9_verdict (104, [some (Sum.inr o), a1, a2, a3, a4, a5, a6], st, s, k) = zev zk_X9_verdict (105, [some (Sum.inr o), a1, a2, a3, a4, a5, a6], Sum.inr o :: st, s, k) := zev_go rfl rfl
theorem zr_X9_verdict_105 (ls : zLs) (st : List zAV) (s : zAS) (k : Nat × Nat) (o i : Nat) : zev zk_X9_verdict (105, ls, Sum.inr (o, i) :: st, s, k) = zpush zk_X9_verdict 108 ls st s k (zgv zEM 9 5 o i s.1) := zf_get rfl
theorem zr_X9_verdict_108 (a0 a1 a3 a4 a5 a6 : Option zAV) (st : List zAV) (s : zAS) (k : Nat × Nat) (x : Int32) : zev zk_X9_verdict (108, [a0, a1, some (Sum.inl (Value.int x)), a3, a4, a5, a6], st, s, k) = zev zk_X9_verdict (109, [a0, a1, some (Sum.inl (Value.int x)), a3, a4, a5, a6], Sum.inl (Value.int x) :: st, s, k) := zev_go rfl rfl
theorem zr_X9_verdict_109 (ls : zLs) (st : List zAV) (s : zAS) (k : Nat × Nat) : zev zk_X9_verdict (109, ls, st, s, k) = zev zk_X9_verdict (110, ls, Sum.inl (Value.int (3)) :: st, s, k) := zev_go rfl rfl
theorem zr_X9_verdict_110 (ls : zLs) (st : List zAV) (s : zAS) (k : Nat × Nat) (x y : Int32) : zev zk_X9_verdict (110, ls, Sum.inl (Value.int y) :: Sum.inl (Value.int x) :: st, s, k) = zev zk_X9_verdict (111, ls, Sum.inl (Value.int (x + y)) :: st, s, k) := zev_go rfl rfl
theorem zr_X9_verdict_111 (ls : zLs) (st : List zAV) (s : zAS) (k : Nat × Nat) (o i : Nat) (j : Int32) : zev zk_X9_verdict (111, ls, Sum.inl (Value.int j) :: Sum.inr (o, i) :: st, s, k) = zpush zk_X9_verdict 112 ls st s k (zald zEM o i j s) := zf_iald rfl
theorem zr_X9_verdict_112 (a1 a2 a3 a4 a5 a6 : Option zAV) (st : List zAV) (s : zAS) (k : Nat × Nat) (o : Nat × Nat) : zev zk_X9_verdict (112, [some (Sum.inr o), a1, a2, a3, a4, a5, a6], st, s, k) = zev zk_X9_verdict (113, [some (Sum.inr o), a1, a2, a3, a4, a5, a6], Sum.inr o :: st, s, k) := zev_go rfl rfl
theorem zr_X9_verdict_113 (ls : zLs) (st : List zAV) (s : zAS) (k : Nat × Nat) (o i : Nat) : zev zk_X9_verdict (113, ls, Sum.inr (o, i) :: st, s, k) = zpush zk_X9_verdict 116 ls st s k (zgv zEM 9 5 o i s.1) := zf_get rfl
theorem zr_X9_verdict_116 (a0 a1 a3 a4 a5 a6 : Option zAV) (st : List zAV) (s : zAS) (k : Nat × Nat) (x : Int32) : zev zk_X9_verdict (116, [a0, a1, some (Sum.inl (Value.int x)), a3, a4, a5, a6], st, s, k) = zev zk_X9_verdict (117, [a0, a1, some (Sum.inl (Value.int x)), a3, a4, a5, a6], Sum.inl (Value.int x) :: st, s, k) := zev_go rfl rfl
theorem zr_X9_verdict_117 (ls : zLs) (st : List zAV) (s : zAS) (k : Nat × Nat) : zev zk_X9_verdict (117, ls, st, s, k) = zev zk_X9_verdict (118, ls, Sum.inl (Value.int (4)) :: st, s, k) := zev_go rfl rfl
theorem zr_X9_verdict_118 (ls : zLs) (st : List zAV) (s : zAS) (k : Nat × Nat) (x y : Int32) : zev zk_X9_verdict (118, ls, Sum.inl (Value.int y) :: Sum.inl (Value.int x) :: st, s, k) = zev zk_X9_verdict (119, ls, Sum.inl (Value.int (x + y)) :: st, s, k) := zev_go rfl rfl
theorem zr_X9_verdict_119 (ls : zLs) (st : List zAV) (s : zAS) (k : Nat × Nat) (o i : Nat) (j : Int32) : zev zk_X9_verdict (119, ls, Sum.inl (Value.int j) :: Sum.inr (o, i) :: st, s, k) = zpush zk_X9_verdict 120 ls st s k (zald zEM o i j s) := zf_iald rfl
theorem zr_X9_verdict_120 (ls : zLs) (st : List zAV) (s : zAS) (k : Nat × Nat) (r v0 v1 v2 v3 v4 : zAV) (h : zcok zEM 9 0 0 (zR_X9_verdict).cells (zR_X9_verdict).slots r st k) : zev zk_X9_verdict (120, ls, v4 :: v3 :: v2 :: v1 :: v0 :: r :: st, s, k) = zret zk_X9_verdict 123 ls st (k.1 + 0, k.2 + 0) (m_X9_isTrue [r, v0, v1, v2, v3, v4] s) := zf_callV (as := [v4, v3, v2, v1, v0]) 5 rfl rfl h
theorem zr_X9_verdict_123 (ls : zLs) (st : List zAV) (s : zAS) (k : Nat × Nat) (x : Int32) : zev zk_X9_verdict (123, ls, Sum.inl (Value.int x) :: st, s, k) = if decide (x = 0) = true then zev zk_X9_verdict (130, ls, st, s, k) else zev zk_X9_verdict (126, ls, st, s, k) := zf_if (f := fun x => decide (x = 0)) rfl
theorem zr_X9_verdict_126 (ls : zLs) (st : List zAV) (s : zAS) (k : Nat × Nat) : zev zk_X9_verdict (126, ls, st, s, k) = zev zk_X9_verdict (127, ls, Sum.inl (Value.int (1)) :: st, s, k) := zev_go rfl rfl
theorem zr_X9_verdict_127 (ls : zLs) (st : List zAV) (s : zAS) (k : Nat × Nat) : zev zk_X9_verdict (127, ls, st, s, k) = zev zk_X9_verdict (131, ls, st, s, k) := zev_go rfl rfl
theorem zr_X9_verdict_130 (ls : zLs) (st : List zAV) (s : zAS) (k : Nat × Nat) : zev zk_X9_verdict (130, ls, st, s, k) = zev zk_X9_verdict (131, ls, Sum.inl (Value.int (0)) :: st, s, k) := zev_go rfl rfl
theorem zr_X9_verdict_131 (ls : zLs) (s : zAS) (k : Nat × Nat) (x : Int32) : zev zk_X9_verdict (131, ls, [Sum.inl (Value.int x)], s, k) = some (.inl (some (Sum.inl (Value.int x))), s) := zf_reti rfl
/-! X9_isClaim: PrimePlaneModel.isClaim(I)Z -/
abbrev zR_X9_isClaim : Room := ({ frames := 1, cells := 0, slots := 0, locals := 22 } : Room)
noncomputable def zl_X9_isClaim : List (Nat × zOp) := [(0, z_ldi 1 1), (1, z_ic (0) 2), (2, z_lda 0 3), (3, z_get zEM 9 4 6), (6, z_ic (1) 7), (7, z_bin (fun x y => x - y) 8), (8, z_callS m_X9_isIn 3 0 0 (zR_X9_isClaim).cells (zR_X9_isClaim).slots 11), (11, z_reti true)]
noncomputable def zk_X9_isClaim (pc : Nat) : Option zOp := zlook zl_X9_isClaim pc
noncomputable def m_X9_isClaim : List zAV → zAS → Option zOut := zmeth zk_X9_isClaim 2
set_option maxRecDepth 100000 in
set_option maxHeartbeats 4000000 in
theorem zcs_X9_isClaim {R : Room} (hR : R = zR_X9_isClaim) : ∀ q ∈ zl_X9_isClaim, zS zEM yX9_isClaim.cls cX9_isClaim 2 wsX9_isClaim (some .boolean) R q.1 q.2 := by
  subst hR
  have hin9 : ∀ w ∈ wsX90, w ∈ wsX9_isClaim := fun w h => List.mem_cons_of_mem _ (List.mem_append_right _ h)
  refine List.forall_mem_cons.mpr ⟨zs_iload_n dX9_isClaim_0 rfl, ?_⟩
  refine List.forall_mem_cons.mpr ⟨zs_iconst dX9_isClaim_1 (by decide), ?_⟩
  refine List.forall_mem_cons.mpr ⟨zs_aload_n dX9_isClaim_2 rfl, ?_⟩
  refine List.forall_mem_cons.mpr ⟨zs_get (ci := 9) (j := 4) (N := 10) (C := RX9) (T := TX9) (index := 55) rfl (by decide) hin9 (List.mem_of_getElem? (i := 1) rfl) dX9_isClaim_3, ?_⟩
  refine List.forall_mem_cons.mpr ⟨zs_iconst dX9_isClaim_6 (by decide), ?_⟩
  refine List.forall_mem_cons.mpr ⟨zs_isub dX9_isClaim_7, ?_⟩
  refine List.forall_mem_cons.mpr ⟨zs_callS (rm := zR_X9_isIn) (n := 3) zM_X9_isIn gX9_isClaim_X9_isIn rfl (by decide +kernel) ⟨by decide, by decide⟩ dX9_isClaim_8, ?_⟩
  refine List.forall_mem_cons.mpr ⟨zs_reti (ty := .boolean) rfl (fun x h => (znz x h).1) dX9_isClaim_11, ?_⟩
  exact fun _ h => absurd h List.not_mem_nil
theorem zM_X9_isClaim : zMeets zEM yX9_isClaim wsX9_isClaim zR_X9_isClaim m_X9_isClaim := zmeth_M zEMok (zlook_all (zcs_X9_isClaim rfl)) (by decide +kernel) rfl
theorem zr_X9_isClaim_0 (a0 : Option zAV) (st : List zAV) (s : zAS) (k : Nat × Nat) (x : Int32) : zev zk_X9_isClaim (0, [a0, some (Sum.inl (Value.int x))], st, s, k) = zev zk_X9_isClaim (1, [a0, some (Sum.inl (Value.int x))], Sum.inl (Value.int x) :: st, s, k) := zev_go rfl rfl
theorem zr_X9_isClaim_1 (ls : zLs) (st : List zAV) (s : zAS) (k : Nat × Nat) : zev zk_X9_isClaim (1, ls, st, s, k) = zev zk_X9_isClaim (2, ls, Sum.inl (Value.int (0)) :: st, s, k) := zev_go rfl rfl
theorem zr_X9_isClaim_2 (a1 : Option zAV) (st : List zAV) (s : zAS) (k : Nat × Nat) (o : Nat × Nat) : zev zk_X9_isClaim (2, [some (Sum.inr o), a1], st, s, k) = zev zk_X9_isClaim (3, [some (Sum.inr o), a1], Sum.inr o :: st, s, k) := zev_go rfl rfl
theorem zr_X9_isClaim_3 (ls : zLs) (st : List zAV) (s : zAS) (k : Nat × Nat) (o i : Nat) : zev zk_X9_isClaim (3, ls, Sum.inr (o, i) :: st, s, k) = zpush zk_X9_isClaim 6 ls st s k (zgv zEM 9 4 o i s.1) := zf_get rfl
theorem zr_X9_isClaim_6 (ls : zLs) (st : List zAV) (s : zAS) (k : Nat × Nat) : zev zk_X9_isClaim (6, ls, st, s, k) = zev zk_X9_isClaim (7, ls, Sum.inl (Value.int (1)) :: st, s, k) := zev_go rfl rfl
theorem zr_X9_isClaim_7 (ls : zLs) (st : List zAV) (s : zAS) (k : Nat × Nat) (x y : Int32) : zev zk_X9_isClaim (7, ls, Sum.inl (Value.int y) :: Sum.inl (Value.int x) :: st, s, k) = zev zk_X9_isClaim (8, ls, Sum.inl (Value.int (x - y)) :: st, s, k) := zev_go rfl rfl
theorem zr_X9_isClaim_8 (ls : zLs) (st : List zAV) (s : zAS) (k : Nat × Nat) (v0 v1 v2 : zAV) (h : (st.map zcat).sum ≤ 8 ∧ k.1 + 0 ≤ (zR_X9_isClaim).cells ∧ k.2 + 0 ≤ (zR_X9_isClaim).slots) : zev zk_X9_isClaim (8, ls, v2 :: v1 :: v0 :: st, s, k) = zret zk_X9_isClaim 11 ls st (k.1 + 0, k.2 + 0) (m_X9_isIn [v0, v1, v2] s) := zf_callS (as := [v2, v1, v0]) 3 rfl rfl h
theorem zr_X9_isClaim_11 (ls : zLs) (s : zAS) (k : Nat × Nat) (x : Int32) (hx : x = 0 ∨ x = 1) : zev zk_X9_isClaim (11, ls, [Sum.inl (Value.int x)], s, k) = some (.inl (some (Sum.inl (Value.int x))), s) := zf_retz rfl hx
/-! X9_holds: PrimePlaneModel.holds(I)I -/
abbrev zR_X9_holds : Room := ({ frames := 7, cells := 0, slots := 0, locals := 167 } : Room)
noncomputable def zl_X9_holds : List (Nat × zOp) := [(0, z_lda 0 1), (1, z_ic (0) 2), (2, z_put zEM 9 0 false 5), (5, z_lda 0 6), (6, z_ldi 1 7), (7, z_callV zEM 9 m_X9_isClaim 1 0 0 (zR_X9_holds).cells (zR_X9_holds).slots 10), (10, z_if (fun x => decide (x = 0)) 21 13), (13, z_lda 0 14), (14, z_ldi 1 15), (15, z_callV zEM 9 m_X9_verdict 1 0 0 (zR_X9_holds).cells (zR_X9_holds).slots 18), (18, z_goto 26), (21, z_lda 0 22), (22, z_ic (1) 23), (23, z_callV zEM 9 m_X9_fail 1 0 0 (zR_X9_holds).cells (zR_X9_holds).slots 26), (26, z_reti false)]
noncomputable def zk_X9_holds (pc : Nat) : Option zOp := zlook zl_X9_holds pc
noncomputable def m_X9_holds : List zAV → zAS → Option zOut := zmeth zk_X9_holds 2
set_option maxRecDepth 100000 in
set_option maxHeartbeats 4000000 in
theorem zcs_X9_holds {R : Room} (hR : R = zR_X9_holds) : ∀ q ∈ zl_X9_holds, zS zEM yX9_holds.cls cX9_holds 2 wsX9_holds (some .int) R q.1 q.2 := by
  subst hR
  have hin9 : ∀ w ∈ wsX90, w ∈ wsX9_holds := fun w h => List.mem_cons_of_mem _ (List.mem_append_right _ h)
  refine List.forall_mem_cons.mpr ⟨zs_aload_n dX9_holds_0 rfl, ?_⟩
  refine List.forall_mem_cons.mpr ⟨zs_iconst dX9_holds_1 (by decide), ?_⟩
  refine List.forall_mem_cons.mpr ⟨zs_put (ci := 9) (j := 0) (N := 10) (C := RX9) (T := TX9) (index := 29) (b := false) .int tyX9 rfl (by decide) hin9 tyX9_ok nmX9 (List.mem_of_getElem? (i := 1) rfl) rfl (by decide +kernel) zni dX9_holds_2, ?_⟩
  refine List.forall_mem_cons.mpr ⟨zs_aload_n dX9_holds_5 rfl, ?_⟩
  refine List.forall_mem_cons.mpr ⟨zs_iload_n dX9_holds_6 rfl, ?_⟩
  refine List.forall_mem_cons.mpr ⟨zs_callV (ci := 9) (rm := zR_X9_isClaim) (n := 1) rfl zM_X9_isClaim gX9_holds_X9_isClaim rfl (by decide +kernel) ⟨by decide, by decide⟩ dX9_holds_7, ?_⟩
  refine List.forall_mem_cons.mpr ⟨zs_ifeq dX9_holds_10 (by decide), ?_⟩
  refine List.forall_mem_cons.mpr ⟨zs_aload_n dX9_holds_13 rfl, ?_⟩
  refine List.forall_mem_cons.mpr ⟨zs_iload_n dX9_holds_14 rfl, ?_⟩
  refine List.forall_mem_cons.mpr ⟨zs_callV (ci := 9) (rm := zR_X9_verdict) (n := 1) rfl zM_X9_verdict gX9_holds_X9_verdict rfl (by decide +kernel) ⟨by decide, by decide⟩ dX9_holds_15, ?_⟩
  refine List.forall_mem_cons.mpr ⟨zs_goto dX9_holds_18 (by decide), ?_⟩
  refine List.forall_mem_cons.mpr ⟨zs_aload_n dX9_holds_21 rfl, ?_⟩
  refine List.forall_mem_cons.mpr ⟨zs_iconst dX9_holds_22 (by decide), ?_⟩
  refine List.forall_mem_cons.mpr ⟨zs_callV (ci := 9) (rm := zR_X9_fail) (n := 1) rfl zM_X9_fail gX9_holds_X9_fail rfl (by decide +kernel) ⟨by decide, by decide⟩ dX9_holds_23, ?_⟩
  refine List.forall_mem_cons.mpr ⟨zs_reti (ty := .int) rfl (fun x h => (zni x h).1) dX9_holds_26, ?_⟩
  exact fun _ h => absurd h List.not_mem_nil
theorem zM_X9_holds : zMeets zEM yX9_holds wsX9_holds zR_X9_holds m_X9_holds := zmeth_M zEMok (zlook_all (zcs_X9_holds rfl)) (by decide +kernel) rfl
theorem zr_X9_holds_0 (a1 : Option zAV) (st : List zAV) (s : zAS) (k : Nat × Nat) (o : Nat × Nat) : zev zk_X9_holds (0, [some (Sum.inr o), a1], st, s, k) = zev zk_X9_holds (1, [some (Sum.inr o), a1], Sum.inr o :: st, s, k) := zev_go rfl rfl
theorem zr_X9_holds_1 (ls : zLs) (st : List zAV) (s : zAS) (k : Nat × Nat) : zev zk_X9_holds (1, ls, st, s, k) = zev zk_X9_holds (2, ls, Sum.inl (Value.int (0)) :: st, s, k) := zev_go rfl rfl
theorem zr_X9_holds_2 (ls : zLs) (st : List zAV) (s : zAS) (k : Nat × Nat) (o i : Nat) (x : Int32) (h : zpok zEM 9 0 false o i x) : zev zk_X9_holds (2, ls, Sum.inl (Value.int x) :: Sum.inr (o, i) :: st, s, k) = zev zk_X9_holds (5, ls, st, (zup s.1 o i 0 x, s.2), k) := zf_put rfl h
theorem zr_X9_holds_5 (a1 : Option zAV) (st : List zAV) (s : zAS) (k : Nat × Nat) (o : Nat × Nat) : zev zk_X9_holds (5, [some (Sum.inr o), a1], st, s, k) = zev zk_X9_holds (6, [some (Sum.inr o), a1], Sum.inr o :: st, s, k) := zev_go rfl rfl
theorem zr_X9_holds_6 (a0 : Option zAV) (st : List zAV) (s : zAS) (k : Nat × Nat) (x : Int32) : zev zk_X9_holds (6, [a0, some (Sum.inl (Value.int x))], st, s, k) = zev zk_X9_holds (7, [a0, some (Sum.inl (Value.int x))], Sum.inl (Value.int x) :: st, s, k) := zev_go rfl rfl
theorem zr_X9_holds_7 (ls : zLs) (st : List zAV) (s : zAS) (k : Nat × Nat) (r v0 : zAV) (h : zcok zEM 9 0 0 (zR_X9_holds).cells (zR_X9_holds).slots r st k) : zev zk_X9_holds (7, ls, v0 :: r :: st, s, k) = zret zk_X9_holds 10 ls st (k.1 + 0, k.2 + 0) (m_X9_isClaim [r, v0] s) := zf_callV (as := [v0]) 1 rfl rfl h
theorem zr_X9_holds_10 (ls : zLs) (st : List zAV) (s : zAS) (k : Nat × Nat) (x : Int32) : zev zk_X9_holds (10, ls, Sum.inl (Value.int x) :: st, s, k) = if decide (x = 0) = true then zev zk_X9_holds (21, ls, st, s, k) else zev zk_X9_holds (13, ls, st, s, k) := zf_if (f := fun x => decide (x = 0)) rfl
theorem zr_X9_holds_13 (a1 : Option zAV) (st : List zAV) (s : zAS) (k : Nat × Nat) (o : Nat × Nat) : zev zk_X9_holds (13, [some (Sum.inr o), a1], st, s, k) = zev zk_X9_holds (14, [some (Sum.inr o), a1], Sum.inr o :: st, s, k) := zev_go rfl rfl
theorem zr_X9_holds_14 (a0 : Option zAV) (st : List zAV) (s : zAS) (k : Nat × Nat) (x : Int32) : zev zk_X9_holds (14, [a0, some (Sum.inl (Value.int x))], st, s, k) = zev zk_X9_holds (15, [a0, some (Sum.inl (Value.int x))], Sum.inl (Value.int x) :: st, s, k) := zev_go rfl rfl
theorem zr_X9_holds_15 (ls : zLs) (st : List zAV) (s : zAS) (k : Nat × Nat) (r v0 : zAV) (h : zcok zEM 9 0 0 (zR_X9_holds).cells (zR_X9_holds).slots r st k) : zev zk_X9_holds (15, ls, v0 :: r :: st, s, k) = zret zk_X9_holds 18 ls st (k.1 + 0, k.2 + 0) (m_X9_verdict [r, v0] s) := zf_callV (as := [v0]) 1 rfl rfl h
theorem zr_X9_holds_18 (ls : zLs) (st : List zAV) (s : zAS) (k : Nat × Nat) : zev zk_X9_holds (18, ls, st, s, k) = zev zk_X9_holds (26, ls, st, s, k) := zev_go rfl rfl
theorem zr_X9_holds_21 (a1 : Option zAV) (st : List zAV) (s : zAS) (k : Nat × Nat) (o : Nat × Nat) : zev zk_X9_holds (21, [some (Sum.inr o), a1], st, s, k) = zev zk_X9_holds (22, [some (Sum.inr o), a1], Sum.inr o :: st, s, k) := zev_go rfl rfl
theorem zr_X9_holds_22 (ls : zLs) (st : List zAV) (s : zAS) (k : Nat × Nat) : zev zk_X9_holds (22, ls, st, s, k) = zev zk_X9_holds (23, ls, Sum.inl (Value.int (1)) :: st, s, k) := zev_go rfl rfl
theorem zr_X9_holds_23 (ls : zLs) (st : List zAV) (s : zAS) (k : Nat × Nat) (r v0 : zAV) (h : zcok zEM 9 0 0 (zR_X9_holds).cells (zR_X9_holds).slots r st k) : zev zk_X9_holds (23, ls, v0 :: r :: st, s, k) = zret zk_X9_holds 26 ls st (k.1 + 0, k.2 + 0) (m_X9_fail [r, v0] s) := zf_callV (as := [v0]) 1 rfl rfl h
theorem zr_X9_holds_26 (ls : zLs) (s : zAS) (k : Nat × Nat) (x : Int32) : zev zk_X9_holds (26, ls, [Sum.inl (Value.int x)], s, k) = some (.inl (some (Sum.inl (Value.int x))), s) := zf_reti rfl
/-! X9_everywhere: PrimePlaneModel.everywhere(III)I -/
abbrev zR_X9_everywhere : Room := ({ frames := 9, cells := 1, slots := 11, locals := 209 } : Room)
noncomputable def zl_X9_everywhere : List (Nat × zOp) := [(0, z_lda 0 1), (1, z_ic (0) 2), (2, z_put zEM 9 0 false 5), (5, z_lda 0 6), (6, z_ldi 1 7), (7, z_callV zEM 9 m_X9_isClaim 1 0 0 (zR_X9_everywhere).cells (zR_X9_everywhere).slots 10), (10, z_if (fun x => decide (x = 0)) 30 13), (13, z_lda 0 14), (14, z_ldi 2 15), (15, z_callV zEM 9 m_X9_isObject 1 0 0 (zR_X9_everywhere).cells (zR_X9_everywhere).slots 18), (18, z_if (fun x => decide (x = 0)) 30 21), (21, z_ldi 3 22), (22, z_ic (0) 23), (23, z_ic (2) 24), (24, z_callS m_X9_isIn 3 0 0 (zR_X9_everywhere).cells (zR_X9_everywhere).slots 27), (27, z_if (fun x => decide (¬ x = 0)) 36 30), (30, z_lda 0 31), (31, z_ic (1) 32), (32, z_callV zEM 9 m_X9_fail 1 0 0 (zR_X9_everywhere).cells (zR_X9_everywhere).slots 35), (35, z_reti false), (36, z_lda 0 37), (37, z_ldi 2 38), (38, z_ic (1) 39), (39, z_callV zEM 9 m_X9_get 2 0 0 (zR_X9_everywhere).cells (zR_X9_everywhere).slots 42), (42, z_if (fun x => decide (x = 0)) 51 45), (45, z_lda 0 46), (46, z_ic (2) 47), (47, z_callV zEM 9 m_X9_fail 1 0 0 (zR_X9_everywhere).cells (zR_X9_everywhere).slots 50), (50, z_reti false), (51, z_lda 0 52), (52, z_ldi 2 53), (53, z_ic (5) 54), (54, z_callV zEM 9 m_X9_get 2 0 0 (zR_X9_everywhere).cells (zR_X9_everywhere).slots 57), (57, z_sti 4 59), (59, z_lda 0 60), (60, z_ldi 2 61), (61, z_ic (6) 63), (63, z_callV zEM 9 m_X9_get 2 0 0 (zR_X9_everywhere).cells (zR_X9_everywhere).slots 66), (66, z_sti 5 68), (68, z_ic (3) 69), (69, z_newa (zR_X9_everywhere).cells (zR_X9_everywhere).slots 71), (71, z_dup 72), (72, z_ic (0) 73), (73, z_ic (0) 74), (74, z_iast zEM 75), (75, z_dup 76), (76, z_ic (1) 77), (77, z_ic (0) 78), (78, z_iast zEM 79), (79, z_dup 80), (80, z_ic (2) 81), (81, z_ic (-1) 82), (82, z_iast zEM 83), (83, z_sta 6 85), (85, z_ic (0) 86), (86, z_sti 7 88), (88, z_ldi 7 90), (90, z_lda 0 91), (91, z_get zEM 9 1 94), (94, z_cmp (fun x y => decide (y ≤ x)) 189 97), (97, z_ic (0) 98), (98, z_sti 8 100), (100, z_ldi 8 102), (102, z_lda 0 103), (103, z_get zEM 9 1 106), (106, z_cmp (fun x y => decide (y ≤ x)) 183 109), (109, z_lda 0 110), (110, z_ldi 2 111), (111, z_ldi 7 113), (113, z_ldi 8 115), (115, z_callV zEM 9 m_X9_place 3 0 0 (zR_X9_everywhere).cells (zR_X9_everywhere).slots 118), (118, z_lda 0 119), (119, z_ldi 1 120), (120, z_callV zEM 9 m_X9_verdict 1 0 0 (zR_X9_everywhere).cells (zR_X9_everywhere).slots 123), (123, z_sti 9 125), (125, z_ldi 9 127), (127, z_ic (1) 128), (128, z_cmp (fun x y => decide (¬ x = y)) 139 131), (131, z_lda 6 133), (133, z_ic (0) 134), (134, z_dup2 135), (135, z_iald zEM 136), (136, z_ic (1) 137), (137, z_bin (fun x y => x + y) 138), (138, z_iast zEM 139), (139, z_ldi 9 141), (141, z_if (fun x => decide (x = 0)) 147 144), (144, z_goto 177), (147, z_lda 6 149), (149, z_ic (1) 150), (150, z_dup2 151), (151, z_iald zEM 152), (152, z_ic (1) 153), (153, z_bin (fun x y => x + y) 154), (154, z_iast zEM 155), (155, z_lda 6 157), (157, z_ic (2) 158), (158, z_iald zEM 159), (159, z_ic (-1) 160), (160, z_cmp (fun x y => decide (¬ x = y)) 177 163), (163, z_lda 6 165), (165, z_ic (2) 166), (166, z_lda 0 167), (167, z_get zEM 9 1 170), (170, z_ldi 7 172), (172, z_bin (fun x y => x * y) 173), (173, z_ldi 8 175), (175, z_bin (fun x y => x + y) 176), (176, z_iast zEM 177), (177, z_iinc 8 (1) 180), (180, z_goto 100), (183, z_iinc 7 (1) 186), (186, z_goto 88), (189, z_lda 0 190), (190, z_ldi 2 191), (191, z_ldi 4 193), (193, z_ldi 5 195), (195, z_callV zEM 9 m_X9_place 3 0 0 (zR_X9_everywhere).cells (zR_X9_everywhere).slots 198), (198, z_lda 6 200), (200, z_ldi 3 201), (201, z_iald zEM 202), (202, z_reti false)]
noncomputable def zk_X9_everywhere (pc : Nat) : Option zOp := zlook zl_X9_everywhere pc
noncomputable def m_X9_everywhere : List zAV → zAS → Option zOut := zmeth zk_X9_everywhere 10
set_option maxRecDepth 100000 in
set_option maxHeartbeats 4000000 in
theorem zcs_X9_everywhere {R : Room} (hR : R = zR_X9_everywhere) : ∀ q ∈ zl_X9_everywhere, zS zEM yX9_everywhere.cls cX9_everywhere 10 wsX9_everywhere (some .int) R q.1 q.2 := by
  subst hR
  have hin9 : ∀ w ∈ wsX90, w ∈ wsX9_everywhere := fun w h => List.mem_cons_of_mem _ (List.mem_append_right _ h)
  refine List.forall_mem_cons.mpr ⟨zs_aload_n dX9_everywhere_0 rfl, ?_⟩
  refine List.forall_mem_cons.mpr ⟨zs_iconst dX9_everywhere_1 (by decide), ?_⟩
  refine List.forall_mem_cons.mpr ⟨zs_put (ci := 9) (j := 0) (N := 10) (C := RX9) (T := TX9) (index := 29) (b := false) .int tyX9 rfl (by decide) hin9 tyX9_ok nmX9 (List.mem_of_getElem? (i := 1) rfl) rfl (by decide +kernel) zni dX9_everywhere_2, ?_⟩
  refine List.forall_mem_cons.mpr ⟨zs_aload_n dX9_everywhere_5 rfl, ?_⟩
  refine List.forall_mem_cons.mpr ⟨zs_iload_n dX9_everywhere_6 rfl, ?_⟩
  refine List.forall_mem_cons.mpr ⟨zs_callV (ci := 9) (rm := zR_X9_isClaim) (n := 1) rfl zM_X9_isClaim gX9_everywhere_X9_isClaim rfl (by decide +kernel) ⟨by decide, by decide⟩ dX9_everywhere_7, ?_⟩
  refine List.forall_mem_cons.mpr ⟨zs_ifeq dX9_everywhere_10 (by decide), ?_⟩
  refine List.forall_mem_cons.mpr ⟨zs_aload_n dX9_everywhere_13 rfl, ?_⟩
  refine List.forall_mem_cons.mpr ⟨zs_iload_n dX9_everywhere_14 rfl, ?_⟩
  refine List.forall_mem_cons.mpr ⟨zs_callV (ci := 9) (rm := zR_X9_isObject) (n := 1) rfl zM_X9_isObject gX9_everywhere_X9_isObject rfl (by decide +kernel) ⟨by decide, by decide⟩ dX9_everywhere_15, ?_⟩
  refine List.forall_mem_cons.mpr ⟨zs_ifeq dX9_everywhere_18 (by decide), ?_⟩
  refine List.forall_mem_cons.mpr ⟨zs_iload_n dX9_everywhere_21 rfl, ?_⟩
  refine List.forall_mem_cons.mpr ⟨zs_iconst dX9_everywhere_22 (by decide), ?_⟩
  refine List.forall_mem_cons.mpr ⟨zs_iconst dX9_everywhere_23 (by decide), ?_⟩
  refine List.forall_mem_cons.mpr ⟨zs_callS (rm := zR_X9_isIn) (n := 3) zM_X9_isIn gX9_everywhere_X9_isIn rfl (by decide +kernel) ⟨by decide, by decide⟩ dX9_everywhere_24, ?_⟩
  refine List.forall_mem_cons.mpr ⟨zs_ifne dX9_everywhere_27 (by decide), ?_⟩
  refine List.forall_mem_cons.mpr ⟨zs_aload_n dX9_everywhere_30 rfl, ?_⟩
  refine List.forall_mem_cons.mpr ⟨zs_iconst dX9_everywhere_31 (by decide), ?_⟩
  refine List.forall_mem_cons.mpr ⟨zs_callV (ci := 9) (rm := zR_X9_fail) (n := 1) rfl zM_X9_fail gX9_everywhere_X9_fail rfl (by decide +kernel) ⟨by decide, by decide⟩ dX9_everywhere_32, ?_⟩
  refine List.forall_mem_cons.mpr ⟨zs_reti (ty := .int) rfl (fun x h => (zni x h).1) dX9_everywhere_35, ?_⟩
  refine List.forall_mem_cons.mpr ⟨zs_aload_n dX9_everywhere_36 rfl, ?_⟩
  refine List.forall_mem_cons.mpr ⟨zs_iload_n dX9_everywhere_37 rfl, ?_⟩
  refine List.forall_mem_cons.mpr ⟨zs_iconst dX9_everywhere_38 (by decide), ?_⟩
  refine List.forall_mem_cons.mpr ⟨zs_callV (ci := 9) (rm := zR_X9_get) (n := 2) rfl zM_X9_get gX9_everywhere_X9_get rfl (by decide +kernel) ⟨by decide, by decide⟩ dX9_everywhere_39, ?_⟩
  refine List.forall_mem_cons.mpr ⟨zs_ifeq dX9_everywhere_42 (by decide), ?_⟩
  refine List.forall_mem_cons.mpr ⟨zs_aload_n dX9_everywhere_45 rfl, ?_⟩
  refine List.forall_mem_cons.mpr ⟨zs_iconst dX9_everywhere_46 (by decide), ?_⟩
  refine List.forall_mem_cons.mpr ⟨zs_callV (ci := 9) (rm := zR_X9_fail) (n := 1) rfl zM_X9_fail gX9_everywhere_X9_fail rfl (by decide +kernel) ⟨by decide, by decide⟩ dX9_everywhere_47, ?_⟩
  refine List.forall_mem_cons.mpr ⟨zs_reti (ty := .int) rfl (fun x h => (zni x h).1) dX9_everywhere_50, ?_⟩
  refine List.forall_mem_cons.mpr ⟨zs_aload_n dX9_everywhere_51 rfl, ?_⟩
  refine List.forall_mem_cons.mpr ⟨zs_iload_n dX9_everywhere_52 rfl, ?_⟩
  refine List.forall_mem_cons.mpr ⟨zs_iconst dX9_everywhere_53 (by decide), ?_⟩
  refine List.forall_mem_cons.mpr ⟨zs_callV (ci := 9) (rm := zR_X9_get) (n := 2) rfl zM_X9_get gX9_everywhere_X9_get rfl (by decide +kernel) ⟨by decide, by decide⟩ dX9_everywhere_54, ?_⟩
  refine List.forall_mem_cons.mpr ⟨zs_istore dX9_everywhere_57, ?_⟩
  refine List.forall_mem_cons.mpr ⟨zs_aload_n dX9_everywhere_59 rfl, ?_⟩
  refine List.forall_mem_cons.mpr ⟨zs_iload_n dX9_everywhere_60 rfl, ?_⟩
  refine List.forall_mem_cons.mpr ⟨zs_bipush dX9_everywhere_61 (by decide), ?_⟩
  refine List.forall_mem_cons.mpr ⟨zs_callV (ci := 9) (rm := zR_X9_get) (n := 2) rfl zM_X9_get gX9_everywhere_X9_get rfl (by decide +kernel) ⟨by decide, by decide⟩ dX9_everywhere_63, ?_⟩
  refine List.forall_mem_cons.mpr ⟨zs_istore dX9_everywhere_66, ?_⟩
  refine List.forall_mem_cons.mpr ⟨zs_iconst dX9_everywhere_68 (by decide), ?_⟩
  refine List.forall_mem_cons.mpr ⟨zs_newa zEMok (List.mem_of_getElem? (i := 2) rfl) dX9_everywhere_69, ?_⟩
  refine List.forall_mem_cons.mpr ⟨zs_dup dX9_everywhere_71, ?_⟩
  refine List.forall_mem_cons.mpr ⟨zs_iconst dX9_everywhere_72 (by decide), ?_⟩
  refine List.forall_mem_cons.mpr ⟨zs_iconst dX9_everywhere_73 (by decide), ?_⟩
  refine List.forall_mem_cons.mpr ⟨zs_iast dX9_everywhere_74, ?_⟩
  refine List.forall_mem_cons.mpr ⟨zs_dup dX9_everywhere_75, ?_⟩
  refine List.forall_mem_cons.mpr ⟨zs_iconst dX9_everywhere_76 (by decide), ?_⟩
  refine List.forall_mem_cons.mpr ⟨zs_iconst dX9_everywhere_77 (by decide), ?_⟩
  refine List.forall_mem_cons.mpr ⟨zs_iast dX9_everywhere_78, ?_⟩
  refine List.forall_mem_cons.mpr ⟨zs_dup dX9_everywhere_79, ?_⟩
  refine List.forall_mem_cons.mpr ⟨zs_iconst dX9_everywhere_80 (by decide), ?_⟩
  refine List.forall_mem_cons.mpr ⟨zs_iconst dX9_everywhere_81 (by decide), ?_⟩
  refine List.forall_mem_cons.mpr ⟨zs_iast dX9_everywhere_82, ?_⟩
  refine List.forall_mem_cons.mpr ⟨zs_astore dX9_everywhere_83, ?_⟩
  refine List.forall_mem_cons.mpr ⟨zs_iconst dX9_everywhere_85 (by decide), ?_⟩
  refine List.forall_mem_cons.mpr ⟨zs_istore dX9_everywhere_86, ?_⟩
  refine List.forall_mem_cons.mpr ⟨zs_iload dX9_everywhere_88, ?_⟩
  refine List.forall_mem_cons.mpr ⟨zs_aload_n dX9_everywhere_90 rfl, ?_⟩
  refine List.forall_mem_cons.mpr ⟨zs_get (ci := 9) (j := 1) (N := 10) (C := RX9) (T := TX9) (index := 7) rfl (by decide) hin9 (List.mem_of_getElem? (i := 3) rfl) dX9_everywhere_91, ?_⟩
  refine List.forall_mem_cons.mpr ⟨zs_icge dX9_everywhere_94 (by decide), ?_⟩
  refine List.forall_mem_cons.mpr ⟨zs_iconst dX9_everywhere_97 (by decide), ?_⟩
  refine List.forall_mem_cons.mpr ⟨zs_istore dX9_everywhere_98, ?_⟩
  refine List.forall_mem_cons.mpr ⟨zs_iload dX9_everywhere_100, ?_⟩
  refine List.forall_mem_cons.mpr ⟨zs_aload_n dX9_everywhere_102 rfl, ?_⟩
  refine List.forall_mem_cons.mpr ⟨zs_get (ci := 9) (j := 1) (N := 10) (C := RX9) (T := TX9) (index := 7) rfl (by decide) hin9 (List.mem_of_getElem? (i := 3) rfl) dX9_everywhere_103, ?_⟩
  refine List.forall_mem_cons.mpr ⟨zs_icge dX9_everywhere_106 (by decide), ?_⟩
  refine List.forall_mem_cons.mpr ⟨zs_aload_n dX9_everywhere_109 rfl, ?_⟩
  refine List.forall_mem_cons.mpr ⟨zs_iload_n dX9_everywhere_110 rfl, ?_⟩
  refine List.forall_mem_cons.mpr ⟨zs_iload dX9_everywhere_111, ?_⟩
  refine List.forall_mem_cons.mpr ⟨zs_iload dX9_everywhere_113, ?_⟩
  refine List.forall_mem_cons.mpr ⟨zs_callV (ci := 9) (rm := zR_X9_place) (n := 3) rfl zM_X9_place gX9_everywhere_X9_place rfl (by decide +kernel) ⟨by decide, by decide⟩ dX9_everywhere_115, ?_⟩
  refine List.forall_mem_cons.mpr ⟨zs_aload_n dX9_everywhere_118 rfl, ?_⟩
  refine List.forall_mem_cons.mpr ⟨zs_iload_n dX9_everywhere_119 rfl, ?_⟩
  refine List.forall_mem_cons.mpr ⟨zs_callV (ci := 9) (rm := zR_X9_verdict) (n := 1) rfl zM_X9_verdict gX9_everywhere_X9_verdict rfl (by decide +kernel) ⟨by decide, by decide⟩ dX9_everywhere_120, ?_⟩
  refine List.forall_mem_cons.mpr ⟨zs_istore dX9_everywhere_123, ?_⟩
  refine List.forall_mem_cons.mpr ⟨zs_iload dX9_everywhere_125, ?_⟩
  refine List.forall_mem_cons.mpr ⟨zs_iconst dX9_everywhere_127 (by decide), ?_⟩
  refine List.forall_mem_cons.mpr ⟨zs_icne dX9_everywhere_128 (by decide), ?_⟩
  refine List.forall_mem_cons.mpr ⟨zs_aload dX9_everywhere_131, ?_⟩
  refine List.forall_mem_cons.mpr ⟨zs_iconst dX9_everywhere_133 (by decide), ?_⟩
  refine List.forall_mem_cons.mpr ⟨zs_dup2 dX9_everywhere_134, ?_⟩
  refine List.forall_mem_cons.mpr ⟨zs_iald dX9_everywhere_135, ?_⟩
  refine List.forall_mem_cons.mpr ⟨zs_iconst dX9_everywhere_136 (by decide), ?_⟩
  refine List.forall_mem_cons.mpr ⟨zs_iadd dX9_everywhere_137, ?_⟩
  refine List.forall_mem_cons.mpr ⟨zs_iast dX9_everywhere_138, ?_⟩
  refine List.forall_mem_cons.mpr ⟨zs_iload dX9_everywhere_139, ?_⟩
  refine List.forall_mem_cons.mpr ⟨zs_ifeq dX9_everywhere_141 (by decide), ?_⟩
  refine List.forall_mem_cons.mpr ⟨zs_goto dX9_everywhere_144 (by decide), ?_⟩
  refine List.forall_mem_cons.mpr ⟨zs_aload dX9_everywhere_147, ?_⟩
  refine List.forall_mem_cons.mpr ⟨zs_iconst dX9_everywhere_149 (by decide), ?_⟩
  refine List.forall_mem_cons.mpr ⟨zs_dup2 dX9_everywhere_150, ?_⟩
  refine List.forall_mem_cons.mpr ⟨zs_iald dX9_everywhere_151, ?_⟩
  refine List.forall_mem_cons.mpr ⟨zs_iconst dX9_everywhere_152 (by decide), ?_⟩
  refine List.forall_mem_cons.mpr ⟨zs_iadd dX9_everywhere_153, ?_⟩
  refine List.forall_mem_cons.mpr ⟨zs_iast dX9_everywhere_154, ?_⟩
  refine List.forall_mem_cons.mpr ⟨zs_aload dX9_everywhere_155, ?_⟩
  refine List.forall_mem_cons.mpr ⟨zs_iconst dX9_everywhere_157 (by decide), ?_⟩
  refine List.forall_mem_cons.mpr ⟨zs_iald dX9_everywhere_158, ?_⟩
  refine List.forall_mem_cons.mpr ⟨zs_iconst dX9_everywhere_159 (by decide), ?_⟩
  refine List.forall_mem_cons.mpr ⟨zs_icne dX9_everywhere_160 (by decide), ?_⟩
  refine List.forall_mem_cons.mpr ⟨zs_aload dX9_everywhere_163, ?_⟩
  refine List.forall_mem_cons.mpr ⟨zs_iconst dX9_everywhere_165 (by decide), ?_⟩
  refine List.forall_mem_cons.mpr ⟨zs_aload_n dX9_everywhere_166 rfl, ?_⟩
  refine List.forall_mem_cons.mpr ⟨zs_get (ci := 9) (j := 1) (N := 10) (C := RX9) (T := TX9) (index := 7) rfl (by decide) hin9 (List.mem_of_getElem? (i := 3) rfl) dX9_everywhere_167, ?_⟩
  refine List.forall_mem_cons.mpr ⟨zs_iload dX9_everywhere_170, ?_⟩
  refine List.forall_mem_cons.mpr ⟨zs_imul dX9_everywhere_172, ?_⟩
  refine List.forall_mem_cons.mpr ⟨zs_iload dX9_everywhere_173, ?_⟩
  refine List.forall_mem_cons.mpr ⟨zs_iadd dX9_everywhere_175, ?_⟩
  refine List.forall_mem_cons.mpr ⟨zs_iast dX9_everywhere_176, ?_⟩
  refine List.forall_mem_cons.mpr ⟨zs_iinc dX9_everywhere_177 (by decide), ?_⟩
  refine List.forall_mem_cons.mpr ⟨zs_goto dX9_everywhere_180 (by decide), ?_⟩
  refine List.forall_mem_cons.mpr ⟨zs_iinc dX9_everywhere_183 (by decide), ?_⟩
  refine List.forall_mem_cons.mpr ⟨zs_goto dX9_everywhere_186 (by decide), ?_⟩
  refine List.forall_mem_cons.mpr ⟨zs_aload_n dX9_everywhere_189 rfl, ?_⟩
  refine List.forall_mem_cons.mpr ⟨zs_iload_n dX9_everywhere_190 rfl, ?_⟩
  refine List.forall_mem_cons.mpr ⟨zs_iload dX9_everywhere_191, ?_⟩
  refine List.forall_mem_cons.mpr ⟨zs_iload dX9_everywhere_193, ?_⟩
  refine List.forall_mem_cons.mpr ⟨zs_callV (ci := 9) (rm := zR_X9_place) (n := 3) rfl zM_X9_place gX9_everywhere_X9_place rfl (by decide +kernel) ⟨by decide, by decide⟩ dX9_everywhere_195, ?_⟩
  refine List.forall_mem_cons.mpr ⟨zs_aload dX9_everywhere_198, ?_⟩
  refine List.forall_mem_cons.mpr ⟨zs_iload_n dX9_everywhere_200 rfl, ?_⟩
  refine List.forall_mem_cons.mpr ⟨zs_iald dX9_everywhere_201, ?_⟩
  refine List.forall_mem_cons.mpr ⟨zs_reti (ty := .int) rfl (fun x h => (zni x h).1) dX9_everywhere_202, ?_⟩
  exact fun _ h => absurd h List.not_mem_nil
theorem zM_X9_everywhere : zMeets zEM yX9_everywhere wsX9_everywhere zR_X9_everywhere m_X9_everywhere := zmeth_M zEMok (zlook_all (zcs_X9_everywhere rfl)) (by decide +kernel) rfl
theorem zr_X9_everywhere_0 (a1 a2 a3 a4 a5 a6 a7 a8 a9 : Option zAV) (st : List zAV) (s : zAS) (k : Nat × Nat) (o : Nat × Nat) : zev zk_X9_everywhere (0, [some (Sum.inr o), a1, a2, a3, a4, a5, a6, a7, a8, a9], st, s, k) = zev zk_X9_everywhere (1, [some (Sum.inr o), a1, a2, a3, a4, a5, a6, a7, a8, a9], Sum.inr o :: st, s, k) := zev_go rfl rfl
theorem zr_X9_everywhere_1 (ls : zLs) (st : List zAV) (s : zAS) (k : Nat × Nat) : zev zk_X9_everywhere (1, ls, st, s, k) = zev zk_X9_everywhere (2, ls, Sum.inl (Value.int (0)) :: st, s, k) := zev_go rfl rfl
theorem zr_X9_everywhere_2 (ls : zLs) (st : List zAV) (s : zAS) (k : Nat × Nat) (o i : Nat) (x : Int32) (h : zpok zEM 9 0 false o i x) : zev zk_X9_everywhere (2, ls, Sum.inl (Value.int x) :: Sum.inr (o, i) :: st, s, k) = zev zk_X9_everywhere (5, ls, st, (zup s.1 o i 0 x, s.2), k) := zf_put rfl h
theorem zr_X9_everywhere_5 (a1 a2 a3 a4 a5 a6 a7 a8 a9 : Option zAV) (st : List zAV) (s : zAS) (k : Nat × Nat) (o : Nat × Nat) : zev zk_X9_everywhere (5, [some (Sum.inr o), a1, a2, a3, a4, a5, a6, a7, a8, a9], st, s, k) = zev zk_X9_everywhere (6, [some (Sum.inr o), a1, a2, a3, a4, a5, a6, a7, a8, a9], Sum.inr o :: st, s, k) := zev_go rfl rfl
theorem zr_X9_everywhere_6 (a0 a2 a3 a4 a5 a6 a7 a8 a9 : Option zAV) (st : List zAV) (s : zAS) (k : Nat × Nat) (x : Int32) : zev zk_X9_everywhere (6, [a0, some (Sum.inl (Value.int x)), a2, a3, a4, a5, a6, a7, a8, a9], st, s, k) = zev zk_X9_everywhere (7, [a0, some (Sum.inl (Value.int x)), a2, a3, a4, a5, a6, a7, a8, a9], Sum.inl (Value.int x) :: st, s, k) := zev_go rfl rfl
theorem zr_X9_everywhere_7 (ls : zLs) (st : List zAV) (s : zAS) (k : Nat × Nat) (r v0 : zAV) (h : zcok zEM 9 0 0 (zR_X9_everywhere).cells (zR_X9_everywhere).slots r st k) : zev zk_X9_everywhere (7, ls, v0 :: r :: st, s, k) = zret zk_X9_everywhere 10 ls st (k.1 + 0, k.2 + 0) (m_X9_isClaim [r, v0] s) := zf_callV (as := [v0]) 1 rfl rfl h
theorem zr_X9_everywhere_10 (ls : zLs) (st : List zAV) (s : zAS) (k : Nat × Nat) (x : Int32) : zev zk_X9_everywhere (10, ls, Sum.inl (Value.int x) :: st, s, k) = if decide (x = 0) = true then zev zk_X9_everywhere (30, ls, st, s, k) else zev zk_X9_everywhere (13, ls, st, s, k) := zf_if (f := fun x => decide (x = 0)) rfl
theorem zr_X9_everywhere_13 (a1 a2 a3 a4 a5 a6 a7 a8 a9 : Option zAV) (st : List zAV) (s : zAS) (k : Nat × Nat) (o : Nat × Nat) : zev zk_X9_everywhere (13, [some (Sum.inr o), a1, a2, a3, a4, a5, a6, a7, a8, a9], st, s, k) = zev zk_X9_everywhere (14, [some (Sum.inr o), a1, a2, a3, a4, a5, a6, a7, a8, a9], Sum.inr o :: st, s, k) := zev_go rfl rfl
theorem zr_X9_everywhere_14 (a0 a1 a3 a4 a5 a6 a7 a8 a9 : Option zAV) (st : List zAV) (s : zAS) (k : Nat × Nat) (x : Int32) : zev zk_X9_everywhere (14, [a0, a1, some (Sum.inl (Value.int x)), a3, a4, a5, a6, a7, a8, a9], st, s, k) = zev zk_X9_everywhere (15, [a0, a1, some (Sum.inl (Value.int x)), a3, a4, a5, a6, a7, a8, a9], Sum.inl (Value.int x) :: st, s, k) := zev_go rfl rfl
theorem zr_X9_everywhere_15 (ls : zLs) (st : List zAV) (s : zAS) (k : Nat × Nat) (r v0 : zAV) (h : zcok zEM 9 0 0 (zR_X9_everywhere).cells (zR_X9_everywhere).slots r st k) : zev zk_X9_everywhere (15, ls, v0 :: r :: st, s, k) = zret zk_X9_everywhere 18 ls st (k.1 + 0, k.2 + 0) (m_X9_isObject [r, v0] s) := zf_callV (as := [v0]) 1 rfl rfl h
theorem zr_X9_everywhere_18 (ls : zLs) (st : List zAV) (s : zAS) (k : Nat × Nat) (x : Int32) : zev zk_X9_everywhere (18, ls, Sum.inl (Value.int x) :: st, s, k) = if decide (x = 0) = true then zev zk_X9_everywhere (30, ls, st, s, k) else zev zk_X9_everywhere (21, ls, st, s, k) := zf_if (f := fun x => decide (x = 0)) rfl
theorem zr_X9_everywhere_21 (a0 a1 a2 a4 a5 a6 a7 a8 a9 : Option zAV) (st : List zAV) (s : zAS) (k : Nat × Nat) (x : Int32) : zev zk_X9_everywhere (21, [a0, a1, a2, some (Sum.inl (Value.int x)), a4, a5, a6, a7, a8, a9], st, s, k) = zev zk_X9_everywhere (22, [a0, a1, a2, some (Sum.inl (Value.int x)), a4, a5, a6, a7, a8, a9], Sum.inl (Value.int x) :: st, s, k) := zev_go rfl rfl
theorem zr_X9_everywhere_22 (ls : zLs) (st : List zAV) (s : zAS) (k : Nat × Nat) : zev zk_X9_everywhere (22, ls, st, s, k) = zev zk_X9_everywhere (23, ls, Sum.inl (Value.int (0)) :: st, s, k) := zev_go rfl rfl
theorem zr_X9_everywhere_23 (ls : zLs) (st : List zAV) (s : zAS) (k : Nat × Nat) : zev zk_X9_everywhere (23, ls, st, s, k) = zev zk_X9_everywhere (24, ls, Sum.inl (Value.int (2)) :: st, s, k) := zev_go rfl rfl
theorem zr_X9_everywhere_24 (ls : zLs) (st : List zAV) (s : zAS) (k : Nat × Nat) (v0 v1 v2 : zAV) (h : (st.map zcat).sum ≤ 8 ∧ k.1 + 0 ≤ (zR_X9_everywhere).cells ∧ k.2 + 0 ≤ (zR_X9_everywhere).slots) : zev zk_X9_everywhere (24, ls, v2 :: v1 :: v0 :: st, s, k) = zret zk_X9_everywhere 27 ls st (k.1 + 0, k.2 + 0) (m_X9_isIn [v0, v1, v2] s) := zf_callS (as := [v2, v1, v0]) 3 rfl rfl h
theorem zr_X9_everywhere_27 (ls : zLs) (st : List zAV) (s : zAS) (k : Nat × Nat) (x : Int32) : zev zk_X9_everywhere (27, ls, Sum.inl (Value.int x) :: st, s, k) = if decide (¬ x = 0) = true then zev zk_X9_everywhere (36, ls, st, s, k) else zev zk_X9_everywhere (30, ls, st, s, k) := zf_if (f := fun x => decide (¬ x = 0)) rfl
theorem zr_X9_everywhere_30 (a1 a2 a3 a4 a5 a6 a7 a8 a9 : Option zAV) (st : List zAV) (s : zAS) (k : Nat × Nat) (o : Nat × Nat) : zev zk_X9_everywhere (30, [some (Sum.inr o), a1, a2, a3, a4, a5, a6, a7, a8, a9], st, s, k) = zev zk_X9_everywhere (31, [some (Sum.inr o), a1, a2, a3, a4, a5, a6, a7, a8, a9], Sum.inr o :: st, s, k) := zev_go rfl rfl
theorem zr_X9_everywhere_31 (ls : zLs) (st : List zAV) (s : zAS) (k : Nat × Nat) : zev zk_X9_everywhere (31, ls, st, s, k) = zev zk_X9_everywhere (32, ls, Sum.inl (Value.int (1)) :: st, s, k) := zev_go rfl rfl
theorem zr_X9_everywhere_32 (ls : zLs) (st : List zAV) (s : zAS) (k : Nat × Nat) (r v0 : zAV) (h : zcok zEM 9 0 0 (zR_X9_everywhere).cells (zR_X9_everywhere).slots r st k) : zev zk_X9_everywhere (32, ls, v0 :: r :: st, s, k) = zret zk_X9_everywhere 35 ls st (k.1 + 0, k.2 + 0) (m_X9_fail [r, v0] s) := zf_callV (as := [v0]) 1 rfl rfl h
theorem zr_X9_everywhere_35 (ls : zLs) (s : zAS) (k : Nat × Nat) (x : Int32) : zev zk_X9_everywhere (35, ls, [Sum.inl (Value.int x)], s, k) = some (.inl (some (Sum.inl (Value.int x))), s) := zf_reti rfl
theorem zr_X9_everywhere_36 (a1 a2 a3 a4 a5 a6 a7 a8 a9 : Option zAV) (st : List zAV) (s : zAS) (k : Nat × Nat) (o : Nat × Nat) : zev zk_X9_everywhere (36, [some (Sum.inr o), a1, a2, a3, a4, a5, a6, a7, a8, a9], st, s, k) = zev zk_X9_everywhere (37, [some (Sum.inr o), a1, a2, a3, a4, a5, a6, a7, a8, a9], Sum.inr o :: st, s, k) := zev_go rfl rfl
theorem zr_X9_everywhere_37 (a0 a1 a3 a4 a5 a6 a7 a8 a9 : Option zAV) (st : List zAV) (s : zAS) (k : Nat × Nat) (x : Int32) : zev zk_X9_everywhere (37, [a0, a1, some (Sum.inl (Value.int x)), a3, a4, a5, a6, a7, a8, a9], st, s, k) = zev zk_X9_everywhere (38, [a0, a1, some (Sum.inl (Value.int x)), a3, a4, a5, a6, a7, a8, a9], Sum.inl (Value.int x) :: st, s, k) := zev_go rfl rfl
theorem zr_X9_everywhere_38 (ls : zLs) (st : List zAV) (s : zAS) (k : Nat × Nat) : zev zk_X9_everywhere (38, ls, st, s, k) = zev zk_X9_everywhere (39, ls, Sum.inl (Value.int (1)) :: st, s, k) := zev_go rfl rfl
theorem zr_X9_everywhere_39 (ls : zLs) (st : List zAV) (s : zAS) (k : Nat × Nat) (r v0 v1 : zAV) (h : zcok zEM 9 0 0 (zR_X9_everywhere).cells (zR_X9_everywhere).slots r st k) : zev zk_X9_everywhere (39, ls, v1 :: v0 :: r :: st, s, k) = zret zk_X9_everywhere 42 ls st (k.1 + 0, k.2 + 0) (m_X9_get [r, v0, v1] s) := zf_callV (as := [v1, v0]) 2 rfl rfl h
theorem zr_X9_everywhere_42 (ls : zLs) (st : List zAV) (s : zAS) (k : Nat × Nat) (x : Int32) : zev zk_X9_everywhere (42, ls, Sum.inl (Value.int x) :: st, s, k) = if decide (x = 0) = true then zev zk_X9_everywhere (51, ls, st, s, k) else zev zk_X9_everywhere (45, ls, st, s, k) := zf_if (f := fun x => decide (x = 0)) rfl
theorem zr_X9_everywhere_45 (a1 a2 a3 a4 a5 a6 a7 a8 a9 : Option zAV) (st : List zAV) (s : zAS) (k : Nat × Nat) (o : Nat × Nat) : zev zk_X9_everywhere (45, [some (Sum.inr o), a1, a2, a3, a4, a5, a6, a7, a8, a9], st, s, k) = zev zk_X9_everywhere (46, [some (Sum.inr o), a1, a2, a3, a4, a5, a6, a7, a8, a9], Sum.inr o :: st, s, k) := zev_go rfl rfl
theorem zr_X9_everywhere_46 (ls : zLs) (st : List zAV) (s : zAS) (k : Nat × Nat) : zev zk_X9_everywhere (46, ls, st, s, k) = zev zk_X9_everywhere (47, ls, Sum.inl (Value.int (2)) :: st, s, k) := zev_go rfl rfl
theorem zr_X9_everywhere_47 (ls : zLs) (st : List zAV) (s : zAS) (k : Nat × Nat) (r v0 : zAV) (h : zcok zEM 9 0 0 (zR_X9_everywhere).cells (zR_X9_everywhere).slots r st k) : zev zk_X9_everywhere (47, ls, v0 :: r :: st, s, k) = zret zk_X9_everywhere 50 ls st (k.1 + 0, k.2 + 0) (m_X9_fail [r, v0] s) := zf_callV (as := [v0]) 1 rfl rfl h
theorem zr_X9_everywhere_50 (ls : zLs) (s : zAS) (k : Nat × Nat) (x : Int32) : zev zk_X9_everywhere (50, ls, [Sum.inl (Value.int x)], s, k) = some (.inl (some (Sum.inl (Value.int x))), s) := zf_reti rfl
theorem zr_X9_everywhere_51 (a1 a2 a3 a4 a5 a6 a7 a8 a9 : Option zAV) (st : List zAV) (s : zAS) (k : Nat × Nat) (o : Nat × Nat) : zev zk_X9_everywhere (51, [some (Sum.inr o), a1, a2, a3, a4, a5, a6, a7, a8, a9], st, s, k) = zev zk_X9_everywhere (52, [some (Sum.inr o), a1, a2, a3, a4, a5, a6, a7, a8, a9], Sum.inr o :: st, s, k) := zev_go rfl rfl
theorem zr_X9_everywhere_52 (a0 a1 a3 a4 a5 a6 a7 a8 a9 : Option zAV) (st : List zAV) (s : zAS) (k : Nat × Nat) (x : Int32) : zev zk_X9_everywhere (52, [a0, a1, some (Sum.inl (Value.int x)), a3, a4, a5, a6, a7, a8, a9], st, s, k) = zev zk_X9_everywhere (53, [a0, a1, some (Sum.inl (Value.int x)), a3, a4, a5, a6, a7, a8, a9], Sum.inl (Value.int x) :: st, s, k) := zev_go rfl rfl
theorem zr_X9_everywhere_53 (ls : zLs) (st : List zAV) (s : zAS) (k : Nat × Nat) : zev zk_X9_everywhere (53, ls, st, s, k) = zev zk_X9_everywhere (54, ls, Sum.inl (Value.int (5)) :: st, s, k) := zev_go rfl rfl
theorem zr_X9_everywhere_54 (ls : zLs) (st : List zAV) (s : zAS) (k : Nat × Nat) (r v0 v1 : zAV) (h : zcok zEM 9 0 0 (zR_X9_everywhere).cells (zR_X9_everywhere).slots r st k) : zev zk_X9_everywhere (54, ls, v1 :: v0 :: r :: st, s, k) = zret zk_X9_everywhere 57 ls st (k.1 + 0, k.2 + 0) (m_X9_get [r, v0, v1] s) := zf_callV (as := [v1, v0]) 2 rfl rfl h
theorem zr_X9_everywhere_57 (a0 a1 a2 a3 a4 a5 a6 a7 a8 a9 : Option zAV) (st : List zAV) (s : zAS) (k : Nat × Nat) (x : Int32) : zev zk_X9_everywhere (57, [a0, a1, a2, a3, a4, a5, a6, a7, a8, a9], Sum.inl (Value.int x) :: st, s, k) = zev zk_X9_everywhere (59, [a0, a1, a2, zk1 a3, some (Sum.inl (Value.int x)), a5, a6, a7, a8, a9], st, s, k) := zev_go rfl rfl
theorem zr_X9_everywhere_59 (a1 a2 a3 a4 a5 a6 a7 a8 a9 : Option zAV) (st : List zAV) (s : zAS) (k : Nat × Nat) (o : Nat × Nat) : zev zk_X9_everywhere (59, [some (Sum.inr o), a1, a2, a3, a4, a5, a6, a7, a8, a9], st, s, k) = zev zk_X9_everywhere (60, [some (Sum.inr o), a1, a2, a3, a4, a5, a6, a7, a8, a9], Sum.inr o :: st, s, k) := zev_go rfl rfl
theorem zr_X9_everywhere_60 (a0 a1 a3 a4 a5 a6 a7 a8 a9 : Option zAV) (st : List zAV) (s : zAS) (k : Nat × Nat) (x : Int32) : zev zk_X9_everywhere (60, [a0, a1, some (Sum.inl (Value.int x)), a3, a4, a5, a6, a7, a8, a9], st, s, k) = zev zk_X9_everywhere (61, [a0, a1, some (Sum.inl (Value.int x)), a3, a4, a5, a6, a7, a8, a9], Sum.inl (Value.int x) :: st, s, k) := zev_go rfl rfl
theorem zr_X9_everywhere_61 (ls : zLs) (st : List zAV) (s : zAS) (k : Nat × Nat) : zev zk_X9_everywhere (61, ls, st, s, k) = zev zk_X9_everywhere (63, ls, Sum.inl (Value.int (6)) :: st, s, k) := zev_go rfl rfl
theorem zr_X9_everywhere_63 (ls : zLs) (st : List zAV) (s : zAS) (k : Nat × Nat) (r v0 v1 : zAV) (h : zcok zEM 9 0 0 (zR_X9_everywhere).cells (zR_X9_everywhere).slots r st k) : zev zk_X9_everywhere (63, ls, v1 :: v0 :: r :: st, s, k) = zret zk_X9_everywhere 66 ls st (k.1 + 0, k.2 + 0) (m_X9_get [r, v0, v1] s) := zf_callV (as := [v1, v0]) 2 rfl rfl h
theorem zr_X9_everywhere_66 (a0 a1 a2 a3 a4 a5 a6 a7 a8 a9 : Option zAV) (st : List zAV) (s : zAS) (k : Nat × Nat) (x : Int32) : zev zk_X9_everywhere (66, [a0, a1, a2, a3, a4, a5, a6, a7, a8, a9], Sum.inl (Value.int x) :: st, s, k) = zev zk_X9_everywhere (68, [a0, a1, a2, a3, zk1 a4, some (Sum.inl (Value.int x)), a6, a7, a8, a9], st, s, k) := zev_go rfl rfl
theorem zr_X9_everywhere_68 (ls : zLs) (st : List zAV) (s : zAS) (k : Nat × Nat) : zev zk_X9_everywhere (68, ls, st, s, k) = zev zk_X9_everywhere (69, ls, Sum.inl (Value.int (3)) :: st, s, k) := zev_go rfl rfl
theorem zr_X9_everywhere_69 (ls : zLs) (st : List zAV) (s : zAS) (k : Nat × Nat) (x : Int32) (h : ¬ x < 0 ∧ x.toNatClampNeg ≤ 100 ∧ k.1 + 1 ≤ (zR_X9_everywhere).cells ∧ k.2 + x.toNatClampNeg ≤ (zR_X9_everywhere).slots ∧ st.all (zfr s.2.length) = true ∧ ls.all (zfr' s.2.length) = true) : zev zk_X9_everywhere (69, ls, Sum.inl (Value.int x) :: st, s, k) = zev zk_X9_everywhere (71, ls, Sum.inr (99, s.2.length) :: st, (s.1, s.2 ++ [(x.toNatClampNeg, fun _ => 0)]), (k.1 + 1, k.2 + x.toNatClampNeg)) := zf_newa rfl h
theorem zr_X9_everywhere_71 (ls : zLs) (st : List zAV) (s : zAS) (k : Nat × Nat) (v : zAV) (hv : zc1 v = true) : zev zk_X9_everywhere (71, ls, v :: st, s, k) = zev zk_X9_everywhere (72, ls, v :: v :: st, s, k) := zf_dup rfl hv
theorem zr_X9_everywhere_72 (ls : zLs) (st : List zAV) (s : zAS) (k : Nat × Nat) : zev zk_X9_everywhere (72, ls, st, s, k) = zev zk_X9_everywhere (73, ls, Sum.inl (Value.int (0)) :: st, s, k) := zev_go rfl rfl
theorem zr_X9_everywhere_73 (ls : zLs) (st : List zAV) (s : zAS) (k : Nat × Nat) : zev zk_X9_everywhere (73, ls, st, s, k) = zev zk_X9_everywhere (74, ls, Sum.inl (Value.int (0)) :: st, s, k) := zev_go rfl rfl
theorem zr_X9_everywhere_74 (ls : zLs) (st : List zAV) (s : zAS) (k : Nat × Nat) (o i : Nat) (j x : Int32) : zev zk_X9_everywhere (74, ls, Sum.inl (Value.int x) :: Sum.inl (Value.int j) :: Sum.inr (o, i) :: st, s, k) = zgo zk_X9_everywhere 75 ls st k (zast zEM o i j x s) := zf_iast rfl
theorem zr_X9_everywhere_75 (ls : zLs) (st : List zAV) (s : zAS) (k : Nat × Nat) (v : zAV) (hv : zc1 v = true) : zev zk_X9_everywhere (75, ls, v :: st, s, k) = zev zk_X9_everywhere (76, ls, v :: v :: st, s, k) := zf_dup rfl hv
theorem zr_X9_everywhere_76 (ls : zLs) (st : List zAV) (s : zAS) (k : Nat × Nat) : zev zk_X9_everywhere (76, ls, st, s, k) = zev zk_X9_everywhere (77, ls, Sum.inl (Value.int (1)) :: st, s, k) := zev_go rfl rfl
theorem zr_X9_everywhere_77 (ls : zLs) (st : List zAV) (s : zAS) (k : Nat × Nat) : zev zk_X9_everywhere (77, ls, st, s, k) = zev zk_X9_everywhere (78, ls, Sum.inl (Value.int (0)) :: st, s, k) := zev_go rfl rfl
theorem zr_X9_everywhere_78 (ls : zLs) (st : List zAV) (s : zAS) (k : Nat × Nat) (o i : Nat) (j x : Int32) : zev zk_X9_everywhere (78, ls, Sum.inl (Value.int x) :: Sum.inl (Value.int j) :: Sum.inr (o, i) :: st, s, k) = zgo zk_X9_everywhere 79 ls st k (zast zEM o i j x s) := zf_iast rfl
theorem zr_X9_everywhere_79 (ls : zLs) (st : List zAV) (s : zAS) (k : Nat × Nat) (v : zAV) (hv : zc1 v = true) : zev zk_X9_everywhere (79, ls, v :: st, s, k) = zev zk_X9_everywhere (80, ls, v :: v :: st, s, k) := zf_dup rfl hv
theorem zr_X9_everywhere_80 (ls : zLs) (st : List zAV) (s : zAS) (k : Nat × Nat) : zev zk_X9_everywhere (80, ls, st, s, k) = zev zk_X9_everywhere (81, ls, Sum.inl (Value.int (2)) :: st, s, k) := zev_go rfl rfl
theorem zr_X9_everywhere_81 (ls : zLs) (st : List zAV) (s : zAS) (k : Nat × Nat) : zev zk_X9_everywhere (81, ls, st, s, k) = zev zk_X9_everywhere (82, ls, Sum.inl (Value.int (-1)) :: st, s, k) := zev_go rfl rfl
theorem zr_X9_everywhere_82 (ls : zLs) (st : List zAV) (s : zAS) (k : Nat × Nat) (o i : Nat) (j x : Int32) : zev zk_X9_everywhere (82, ls, Sum.inl (Value.int x) :: Sum.inl (Value.int j) :: Sum.inr (o, i) :: st, s, k) = zgo zk_X9_everywhere 83 ls st k (zast zEM o i j x s) := zf_iast rfl
theorem zr_X9_everywhere_83 (a0 a1 a2 a3 a4 a5 a6 a7 a8 a9 : Option zAV) (st : List zAV) (s : zAS) (k : Nat × Nat) (o : Nat × Nat) : zev zk_X9_everywhere (83, [a0, a1, a2, a3, a4, a5, a6, a7, a8, a9], Sum.inr o :: st, s, k) = zev zk_X9_everywhere (85, [a0, a1, a2, a3, a4, zk1 a5, some (Sum.inr o), a7, a8, a9], st, s, k) := zev_go rfl rfl
theorem zr_X9_everywhere_85 (ls : zLs) (st : List zAV) (s : zAS) (k : Nat × Nat) : zev zk_X9_everywhere (85, ls, st, s, k) = zev zk_X9_everywhere (86, ls, Sum.inl (Value.int (0)) :: st, s, k) := zev_go rfl rfl
theorem zr_X9_everywhere_86 (a0 a1 a2 a3 a4 a5 a6 a7 a8 a9 : Option zAV) (st : List zAV) (s : zAS) (k : Nat × Nat) (x : Int32) : zev zk_X9_everywhere (86, [a0, a1, a2, a3, a4, a5, a6, a7, a8, a9], Sum.inl (Value.int x) :: st, s, k) = zev zk_X9_everywhere (88, [a0, a1, a2, a3, a4, a5, zk1 a6, some (Sum.inl (Value.int x)), a8, a9], st, s, k) := zev_go rfl rfl
theorem zr_X9_everywhere_88 (a0 a1 a2 a3 a4 a5 a6 a8 a9 : Option zAV) (st : List zAV) (s : zAS) (k : Nat × Nat) (x : Int32) : zev zk_X9_everywhere (88, [a0, a1, a2, a3, a4, a5, a6, some (Sum.inl (Value.int x)), a8, a9], st, s, k) = zev zk_X9_everywhere (90, [a0, a1, a2, a3, a4, a5, a6, some (Sum.inl (Value.int x)), a8, a9], Sum.inl (Value.int x) :: st, s, k) := zev_go rfl rfl
theorem zr_X9_everywhere_90 (a1 a2 a3 a4 a5 a6 a7 a8 a9 : Option zAV) (st : List zAV) (s : zAS) (k : Nat × Nat) (o : Nat × Nat) : zev zk_X9_everywhere (90, [some (Sum.inr o), a1, a2, a3, a4, a5, a6, a7, a8, a9], st, s, k) = zev zk_X9_everywhere (91, [some (Sum.inr o), a1, a2, a3, a4, a5, a6, a7, a8, a9], Sum.inr o :: st, s, k) := zev_go rfl rfl
theorem zr_X9_everywhere_91 (ls : zLs) (st : List zAV) (s : zAS) (k : Nat × Nat) (o i : Nat) : zev zk_X9_everywhere (91, ls, Sum.inr (o, i) :: st, s, k) = zpush zk_X9_everywhere 94 ls st s k (zgv zEM 9 1 o i s.1) := zf_get rfl
theorem zr_X9_everywhere_94 (ls : zLs) (st : List zAV) (s : zAS) (k : Nat × Nat) (x y : Int32) : zev zk_X9_everywhere (94, ls, Sum.inl (Value.int y) :: Sum.inl (Value.int x) :: st, s, k) = if decide (y ≤ x) = true then zev zk_X9_everywhere (189, ls, st, s, k) else zev zk_X9_everywhere (97, ls, st, s, k) := zf_cmp (f := fun x y => decide (y ≤ x)) rfl
theorem zr_X9_everywhere_97 (ls : zLs) (st : List zAV) (s : zAS) (k : Nat × Nat) : zev zk_X9_everywhere (97, ls, st, s, k) = zev zk_X9_everywhere (98, ls, Sum.inl (Value.int (0)) :: st, s, k) := zev_go rfl rfl
theorem zr_X9_everywhere_98 (a0 a1 a2 a3 a4 a5 a6 a7 a8 a9 : Option zAV) (st : List zAV) (s : zAS) (k : Nat × Nat) (x : Int32) : zev zk_X9_everywhere (98, [a0, a1, a2, a3, a4, a5, a6, a7, a8, a9], Sum.inl (Value.int x) :: st, s, k) = zev zk_X9_everywhere (100, [a0, a1, a2, a3, a4, a5, a6, zk1 a7, some (Sum.inl (Value.int x)), a9], st, s, k) := zev_go rfl rfl
theorem zr_X9_everywhere_100 (a0 a1 a2 a3 a4 a5 a6 a7 a9 : Option zAV) (st : List zAV) (s : zAS) (k : Nat × Nat) (x : Int32) : zev zk_X9_everywhere (100, [a0, a1, a2, a3, a4, a5, a6, a7, some (Sum.inl (Value.int x)), a9], st, s, k) = zev zk_X9_everywhere (102, [a0, a1, a2, a3, a4, a5, a6, a7, some (Sum.inl (Value.int x)), a9], Sum.inl (Value.int x) :: st, s, k) := zev_go rfl rfl
theorem zr_X9_everywhere_102 (a1 a2 a3 a4 a5 a6 a7 a8 a9 : Option zAV) (st : List zAV) (s : zAS) (k : Nat × Nat) (o : Nat × Nat) : zev zk_X9_everywhere (102, [some (Sum.inr o), a1, a2, a3, a4, a5, a6, a7, a8, a9], st, s, k) = zev zk_X9_everywhere (103, [some (Sum.inr o), a1, a2, a3, a4, a5, a6, a7, a8, a9], Sum.inr o :: st, s, k) := zev_go rfl rfl
theorem zr_X9_everywhere_103 (ls : zLs) (st : List zAV) (s : zAS) (k : Nat × Nat) (o i : Nat) : zev zk_X9_everywhere (103, ls, Sum.inr (o, i) :: st, s, k) = zpush zk_X9_everywhere 106 ls st s k (zgv zEM 9 1 o i s.1) := zf_get rfl
theorem zr_X9_everywhere_106 (ls : zLs) (st : List zAV) (s : zAS) (k : Nat × Nat) (x y : Int32) : zev zk_X9_everywhere (106, ls, Sum.inl (Value.int y) :: Sum.inl (Value.int x) :: st, s, k) = if decide (y ≤ x) = true then zev zk_X9_everywhere (183, ls, st, s, k) else zev zk_X9_everywhere (109, ls, st, s, k) := zf_cmp (f := fun x y => decide (y ≤ x)) rfl
theorem zr_X9_everywhere_109 (a1 a2 a3 a4 a5 a6 a7 a8 a9 : Option zAV) (st : List zAV) (s : zAS) (k : Nat × Nat) (o : Nat × Nat) : zev zk_X9_everywhere (109, [some (Sum.inr o), a1, a2, a3, a4, a5, a6, a7, a8, a9], st, s, k) = zev zk_X9_everywhere (110, [some (Sum.inr o), a1, a2, a3, a4, a5, a6, a7, a8, a9], Sum.inr o :: st, s, k) := zev_go rfl rfl
theorem zr_X9_everywhere_110 (a0 a1 a3 a4 a5 a6 a7 a8 a9 : Option zAV) (st : List zAV) (s : zAS) (k : Nat × Nat) (x : Int32) : zev zk_X9_everywhere (110, [a0, a1, some (Sum.inl (Value.int x)), a3, a4, a5, a6, a7, a8, a9], st, s, k) = zev zk_X9_everywhere (111, [a0, a1, some (Sum.inl (Value.int x)), a3, a4, a5, a6, a7, a8, a9], Sum.inl (Value.int x) :: st, s, k) := zev_go rfl rfl
theorem zr_X9_everywhere_111 (a0 a1 a2 a3 a4 a5 a6 a8 a9 : Option zAV) (st : List zAV) (s : zAS) (k : Nat × Nat) (x : Int32) : zev zk_X9_everywhere (111, [a0, a1, a2, a3, a4, a5, a6, some (Sum.inl (Value.int x)), a8, a9], st, s, k) = zev zk_X9_everywhere (113, [a0, a1, a2, a3, a4, a5, a6, some (Sum.inl (Value.int x)), a8, a9], Sum.inl (Value.int x) :: st, s, k) := zev_go rfl rfl
theorem zr_X9_everywhere_113 (a0 a1 a2 a3 a4 a5 a6 a7 a9 : Option zAV) (st : List zAV) (s : zAS) (k : Nat × Nat) (x : Int32) : zev zk_X9_everywhere (113, [a0, a1, a2, a3, a4, a5, a6, a7, some (Sum.inl (Value.int x)), a9], st, s, k) = zev zk_X9_everywhere (115, [a0, a1, a2, a3, a4, a5, a6, a7, some (Sum.inl (Value.int x)), a9], Sum.inl (Value.int x) :: st, s, k) := zev_go rfl rfl
theorem zr_X9_everywhere_115 (ls : zLs) (st : List zAV) (s : zAS) (k : Nat × Nat) (r v0 v1 v2 : zAV) (h : zcok zEM 9 0 0 (zR_X9_everywhere).cells (zR_X9_everywhere).slots r st k) : zev zk_X9_everywhere (115, ls, v2 :: v1 :: v0 :: r :: st, s, k) = zret zk_X9_everywhere 118 ls st (k.1 + 0, k.2 + 0) (m_X9_place [r, v0, v1, v2] s) := zf_callV (as := [v2, v1, v0]) 3 rfl rfl h
theorem zr_X9_everywhere_118 (a1 a2 a3 a4 a5 a6 a7 a8 a9 : Option zAV) (st : List zAV) (s : zAS) (k : Nat × Nat) (o : Nat × Nat) : zev zk_X9_everywhere (118, [some (Sum.inr o), a1, a2, a3, a4, a5, a6, a7, a8, a9], st, s, k) = zev zk_X9_everywhere (119, [some (Sum.inr o), a1, a2, a3, a4, a5, a6, a7, a8, a9], Sum.inr o :: st, s, k) := zev_go rfl rfl
theorem zr_X9_everywhere_119 (a0 a2 a3 a4 a5 a6 a7 a8 a9 : Option zAV) (st : List zAV) (s : zAS) (k : Nat × Nat) (x : Int32) : zev zk_X9_everywhere (119, [a0, some (Sum.inl (Value.int x)), a2, a3, a4, a5, a6, a7, a8, a9], st, s, k) = zev zk_X9_everywhere (120, [a0, some (Sum.inl (Value.int x)), a2, a3, a4, a5, a6, a7, a8, a9], Sum.inl (Value.int x) :: st, s, k) := zev_go rfl rfl
theorem zr_X9_everywhere_120 (ls : zLs) (st : List zAV) (s : zAS) (k : Nat × Nat) (r v0 : zAV) (h : zcok zEM 9 0 0 (zR_X9_everywhere).cells (zR_X9_everywhere).slots r st k) : zev zk_X9_everywhere (120, ls, v0 :: r :: st, s, k) = zret zk_X9_everywhere 123 ls st (k.1 + 0, k.2 + 0) (m_X9_verdict [r, v0] s) := zf_callV (as := [v0]) 1 rfl rfl h
theorem zr_X9_everywhere_123 (a0 a1 a2 a3 a4 a5 a6 a7 a8 a9 : Option zAV) (st : List zAV) (s : zAS) (k : Nat × Nat) (x : Int32) : zev zk_X9_everywhere (123, [a0, a1, a2, a3, a4, a5, a6, a7, a8, a9], Sum.inl (Value.int x) :: st, s, k) = zev zk_X9_everywhere (125, [a0, a1, a2, a3, a4, a5, a6, a7, zk1 a8, some (Sum.inl (Value.int x))], st, s, k) := zev_go rfl rfl
theorem zr_X9_everywhere_125 (a0 a1 a2 a3 a4 a5 a6 a7 a8 : Option zAV) (st : List zAV) (s : zAS) (k : Nat × Nat) (x : Int32) : zev zk_X9_everywhere (125, [a0, a1, a2, a3, a4, a5, a6, a7, a8, some (Sum.inl (Value.int x))], st, s, k) = zev zk_X9_everywhere (127, [a0, a1, a2, a3, a4, a5, a6, a7, a8, some (Sum.inl (Value.int x))], Sum.inl (Value.int x) :: st, s, k) := zev_go rfl rfl
theorem zr_X9_everywhere_127 (ls : zLs) (st : List zAV) (s : zAS) (k : Nat × Nat) : zev zk_X9_everywhere (127, ls, st, s, k) = zev zk_X9_everywhere (128, ls, Sum.inl (Value.int (1)) :: st, s, k) := zev_go rfl rfl
theorem zr_X9_everywhere_128 (ls : zLs) (st : List zAV) (s : zAS) (k : Nat × Nat) (x y : Int32) : zev zk_X9_everywhere (128, ls, Sum.inl (Value.int y) :: Sum.inl (Value.int x) :: st, s, k) = if decide (¬ x = y) = true then zev zk_X9_everywhere (139, ls, st, s, k) else zev zk_X9_everywhere (131, ls, st, s, k) := zf_cmp (f := fun x y => decide (¬ x = y)) rfl
theorem zr_X9_everywhere_131 (a0 a1 a2 a3 a4 a5 a7 a8 a9 : Option zAV) (st : List zAV) (s : zAS) (k : Nat × Nat) (o : Nat × Nat) : zev zk_X9_everywhere (131, [a0, a1, a2, a3, a4, a5, some (Sum.inr o), a7, a8, a9], st, s, k) = zev zk_X9_everywhere (133, [a0, a1, a2, a3, a4, a5, some (Sum.inr o), a7, a8, a9], Sum.inr o :: st, s, k) := zev_go rfl rfl
theorem zr_X9_everywhere_133 (ls : zLs) (st : List zAV) (s : zAS) (k : Nat × Nat) : zev zk_X9_everywhere (133, ls, st, s, k) = zev zk_X9_everywhere (134, ls, Sum.inl (Value.int (0)) :: st, s, k) := zev_go rfl rfl
theorem zr_X9_everywhere_134 (ls : zLs) (st : List zAV) (s : zAS) (k : Nat × Nat) (v w : zAV) (hv : zc1 v = true) (hw : zc1 w = true) : zev zk_X9_everywhere (134, ls, v :: w :: st, s, k) = zev zk_X9_everywhere (135, ls, v :: w :: v :: w :: st, s, k) := zf_dup2 rfl hv hw
theorem zr_X9_everywhere_135 (ls : zLs) (st : List zAV) (s : zAS) (k : Nat × Nat) (o i : Nat) (j : Int32) : zev zk_X9_everywhere (135, ls, Sum.inl (Value.int j) :: Sum.inr (o, i) :: st, s, k) = zpush zk_X9_everywhere 136 ls st s k (zald zEM o i j s) := zf_iald rfl
theorem zr_X9_everywhere_136 (ls : zLs) (st : List zAV) (s : zAS) (k : Nat × Nat) : zev zk_X9_everywhere (136, ls, st, s, k) = zev zk_X9_everywhere (137, ls, Sum.inl (Value.int (1)) :: st, s, k) := zev_go rfl rfl
theorem zr_X9_everywhere_137 (ls : zLs) (st : List zAV) (s : zAS) (k : Nat × Nat) (x y : Int32) : zev zk_X9_everywhere (137, ls, Sum.inl (Value.int y) :: Sum.inl (Value.int x) :: st, s, k) = zev zk_X9_everywhere (138, ls, Sum.inl (Value.int (x + y)) :: st, s, k) := zev_go rfl rfl
theorem zr_X9_everywhere_138 (ls : zLs) (st : List zAV) (s : zAS) (k : Nat × Nat) (o i : Nat) (j x : Int32) : zev zk_X9_everywhere (138, ls, Sum.inl (Value.int x) :: Sum.inl (Value.int j) :: Sum.inr (o, i) :: st, s, k) = zgo zk_X9_everywhere 139 ls st k (zast zEM o i j x s) := zf_iast rfl
theorem zr_X9_everywhere_139 (a0 a1 a2 a3 a4 a5 a6 a7 a8 : Option zAV) (st : List zAV) (s : zAS) (k : Nat × Nat) (x : Int32) : zev zk_X9_everywhere (139, [a0, a1, a2, a3, a4, a5, a6, a7, a8, some (Sum.inl (Value.int x))], st, s, k) = zev zk_X9_everywhere (141, [a0, a1, a2, a3, a4, a5, a6, a7, a8, some (Sum.inl (Value.int x))], Sum.inl (Value.int x) :: st, s, k) := zev_go rfl rfl
theorem zr_X9_everywhere_141 (ls : zLs) (st : List zAV) (s : zAS) (k : Nat × Nat) (x : Int32) : zev zk_X9_everywhere (141, ls, Sum.inl (Value.int x) :: st, s, k) = if decide (x = 0) = true then zev zk_X9_everywhere (147, ls, st, s, k) else zev zk_X9_everywhere (144, ls, st, s, k) := zf_if (f := fun x => decide (x = 0)) rfl
theorem zr_X9_everywhere_144 (ls : zLs) (st : List zAV) (s : zAS) (k : Nat × Nat) : zev zk_X9_everywhere (144, ls, st, s, k) = zev zk_X9_everywhere (177, ls, st, s, k) := zev_go rfl rfl
theorem zr_X9_everywhere_147 (a0 a1 a2 a3 a4 a5 a7 a8 a9 : Option zAV) (st : List zAV) (s : zAS) (k : Nat × Nat) (o : Nat × Nat) : zev zk_X9_everywhere (147, [a0, a1, a2, a3, a4, a5, some (Sum.inr o), a7, a8, a9], st, s, k) = zev zk_X9_everywhere (149, [a0, a1, a2, a3, a4, a5, some (Sum.inr o), a7, a8, a9], Sum.inr o :: st, s, k) := zev_go rfl rfl
theorem zr_X9_everywhere_149 (ls : zLs) (st : List zAV) (s : zAS) (k : Nat × Nat) : zev zk_X9_everywhere (149, ls, st, s, k) = zev zk_X9_everywhere (150, ls, Sum.inl (Value.int (1)) :: st, s, k) := zev_go rfl rfl
theorem zr_X9_everywhere_150 (ls : zLs) (st : List zAV) (s : zAS) (k : Nat × Nat) (v w : zAV) (hv : zc1 v = true) (hw : zc1 w = true) : zev zk_X9_everywhere (150, ls, v :: w :: st, s, k) = zev zk_X9_everywhere (151, ls, v :: w :: v :: w :: st, s, k) := zf_dup2 rfl hv hw
theorem zr_X9_everywhere_151 (ls : zLs) (st : List zAV) (s : zAS) (k : Nat × Nat) (o i : Nat) (j : Int32) : zev zk_X9_everywhere (151, ls, Sum.inl (Value.int j) :: Sum.inr (o, i) :: st, s, k) = zpush zk_X9_everywhere 152 ls st s k (zald zEM o i j s) := zf_iald rfl
theorem zr_X9_everywhere_152 (ls : zLs) (st : List zAV) (s : zAS) (k : Nat × Nat) : zev zk_X9_everywhere (152, ls, st, s, k) = zev zk_X9_everywhere (153, ls, Sum.inl (Value.int (1)) :: st, s, k) := zev_go rfl rfl
theorem zr_X9_everywhere_153 (ls : zLs) (st : List zAV) (s : zAS) (k : Nat × Nat) (x y : Int32) : zev zk_X9_everywhere (153, ls, Sum.inl (Value.int y) :: Sum.inl (Value.int x) :: st, s, k) = zev zk_X9_everywhere (154, ls, Sum.inl (Value.int (x + y)) :: st, s, k) := zev_go rfl rfl
theorem zr_X9_everywhere_154 (ls : zLs) (st : List zAV) (s : zAS) (k : Nat × Nat) (o i : Nat) (j x : Int32) : zev zk_X9_everywhere (154, ls, Sum.inl (Value.int x) :: Sum.inl (Value.int j) :: Sum.inr (o, i) :: st, s, k) = zgo zk_X9_everywhere 155 ls st k (zast zEM o i j x s) := zf_iast rfl
theorem zr_X9_everywhere_155 (a0 a1 a2 a3 a4 a5 a7 a8 a9 : Option zAV) (st : List zAV) (s : zAS) (k : Nat × Nat) (o : Nat × Nat) : zev zk_X9_everywhere (155, [a0, a1, a2, a3, a4, a5, some (Sum.inr o), a7, a8, a9], st, s, k) = zev zk_X9_everywhere (157, [a0, a1, a2, a3, a4, a5, some (Sum.inr o), a7, a8, a9], Sum.inr o :: st, s, k) := zev_go rfl rfl
theorem zr_X9_everywhere_157 (ls : zLs) (st : List zAV) (s : zAS) (k : Nat × Nat) : zev zk_X9_everywhere (157, ls, st, s, k) = zev zk_X9_everywhere (158, ls, Sum.inl (Value.int (2)) :: st, s, k) := zev_go rfl rfl
theorem zr_X9_everywhere_158 (ls : zLs) (st : List zAV) (s : zAS) (k : Nat × Nat) (o i : Nat) (j : Int32) : zev zk_X9_everywhere (158, ls, Sum.inl (Value.int j) :: Sum.inr (o, i) :: st, s, k) = zpush zk_X9_everywhere 159 ls st s k (zald zEM o i j s) := zf_iald rfl
theorem zr_X9_everywhere_159 (ls : zLs) (st : List zAV) (s : zAS) (k : Nat × Nat) : zev zk_X9_everywhere (159, ls, st, s, k) = zev zk_X9_everywhere (160, ls, Sum.inl (Value.int (-1)) :: st, s, k) := zev_go rfl rfl
theorem zr_X9_everywhere_160 (ls : zLs) (st : List zAV) (s : zAS) (k : Nat × Nat) (x y : Int32) : zev zk_X9_everywhere (160, ls, Sum.inl (Value.int y) :: Sum.inl (Value.int x) :: st, s, k) = if decide (¬ x = y) = true then zev zk_X9_everywhere (177, ls, st, s, k) else zev zk_X9_everywhere (163, ls, st, s, k) := zf_cmp (f := fun x y => decide (¬ x = y)) rfl
theorem zr_X9_everywhere_163 (a0 a1 a2 a3 a4 a5 a7 a8 a9 : Option zAV) (st : List zAV) (s : zAS) (k : Nat × Nat) (o : Nat × Nat) : zev zk_X9_everywhere (163, [a0, a1, a2, a3, a4, a5, some (Sum.inr o), a7, a8, a9], st, s, k) = zev zk_X9_everywhere (165, [a0, a1, a2, a3, a4, a5, some (Sum.inr o), a7, a8, a9], Sum.inr o :: st, s, k) := zev_go rfl rfl
theorem zr_X9_everywhere_165 (ls : zLs) (st : List zAV) (s : zAS) (k : Nat × Nat) : zev zk_X9_everywhere (165, ls, st, s, k) = zev zk_X9_everywhere (166, ls, Sum.inl (Value.int (2)) :: st, s, k) := zev_go rfl rfl
theorem zr_X9_everywhere_166 (a1 a2 a3 a4 a5 a6 a7 a8 a9 : Option zAV) (st : List zAV) (s : zAS) (k : Nat × Nat) (o : Nat × Nat) : zev zk_X9_everywhere (166, [some (Sum.inr o), a1, a2, a3, a4, a5, a6, a7, a8, a9], st, s, k) = zev zk_X9_everywhere (167, [some (Sum.inr o), a1, a2, a3, a4, a5, a6, a7, a8, a9], Sum.inr o :: st, s, k) := zev_go rfl rfl
theorem zr_X9_everywhere_167 (ls : zLs) (st : List zAV) (s : zAS) (k : Nat × Nat) (o i : Nat) : zev zk_X9_everywhere (167, ls, Sum.inr (o, i) :: st, s, k) = zpush zk_X9_everywhere 170 ls st s k (zgv zEM 9 1 o i s.1) := zf_get rfl
theorem zr_X9_everywhere_170 (a0 a1 a2 a3 a4 a5 a6 a8 a9 : Option zAV) (st : List zAV) (s : zAS) (k : Nat × Nat) (x : Int32) : zev zk_X9_everywhere (170, [a0, a1, a2, a3, a4, a5, a6, some (Sum.inl (Value.int x)), a8, a9], st, s, k) = zev zk_X9_everywhere (172, [a0, a1, a2, a3, a4, a5, a6, some (Sum.inl (Value.int x)), a8, a9], Sum.inl (Value.int x) :: st, s, k) := zev_go rfl rfl
theorem zr_X9_everywhere_172 (ls : zLs) (st : List zAV) (s : zAS) (k : Nat × Nat) (x y : Int32) : zev zk_X9_everywhere (172, ls, Sum.inl (Value.int y) :: Sum.inl (Value.int x) :: st, s, k) = zev zk_X9_everywhere (173, ls, Sum.inl (Value.int (x * y)) :: st, s, k) := zev_go rfl rfl
theorem zr_X9_everywhere_173 (a0 a1 a2 a3 a4 a5 a6 a7 a9 : Option zAV) (st : List zAV) (s : zAS) (k : Nat × Nat) (x : Int32) : zev zk_X9_everywhere (173, [a0, a1, a2, a3, a4, a5, a6, a7, some (Sum.inl (Value.int x)), a9], st, s, k) = zev zk_X9_everywhere (175, [a0, a1, a2, a3, a4, a5, a6, a7, some (Sum.inl (Value.int x)), a9], Sum.inl (Value.int x) :: st, s, k) := zev_go rfl rfl
theorem zr_X9_everywhere_175 (ls : zLs) (st : List zAV) (s : zAS) (k : Nat × Nat) (x y : Int32) : zev zk_X9_everywhere (175, ls, Sum.inl (Value.int y) :: Sum.inl (Value.int x) :: st, s, k) = zev zk_X9_everywhere (176, ls, Sum.inl (Value.int (x + y)) :: st, s, k) := zev_go rfl rfl
theorem zr_X9_everywhere_176 (ls : zLs) (st : List zAV) (s : zAS) (k : Nat × Nat) (o i : Nat) (j x : Int32) : zev zk_X9_everywhere (176, ls, Sum.inl (Value.int x) :: Sum.inl (Value.int j) :: Sum.inr (o, i) :: st, s, k) = zgo zk_X9_everywhere 177 ls st k (zast zEM o i j x s) := zf_iast rfl
theorem zr_X9_everywhere_177 (a0 a1 a2 a3 a4 a5 a6 a7 a9 : Option zAV) (st : List zAV) (s : zAS) (k : Nat × Nat) (x : Int32) : zev zk_X9_everywhere (177, [a0, a1, a2, a3, a4, a5, a6, a7, some (Sum.inl (Value.int x)), a9], st, s, k) = zev zk_X9_everywhere (180, [a0, a1, a2, a3, a4, a5, a6, zk1 a7, some (Sum.inl (Value.int (x + (1)))), a9], st, s, k) := zev_go rfl rfl
theorem zr_X9_everywhere_180 (ls : zLs) (st : List zAV) (s : zAS) (k : Nat × Nat) : zev zk_X9_everywhere (180, ls, st, s, k) = zev zk_X9_everywhere (100, ls, st, s, k) := zev_go rfl rfl
theorem zr_X9_everywhere_183 (a0 a1 a2 a3 a4 a5 a6 a8 a9 : Option zAV) (st : List zAV) (s : zAS) (k : Nat × Nat) (x : Int32) : zev zk_X9_everywhere (183, [a0, a1, a2, a3, a4, a5, a6, some (Sum.inl (Value.int x)), a8, a9], st, s, k) = zev zk_X9_everywhere (186, [a0, a1, a2, a3, a4, a5, zk1 a6, some (Sum.inl (Value.int (x + (1)))), a8, a9], st, s, k) := zev_go rfl rfl
theorem zr_X9_everywhere_186 (ls : zLs) (st : List zAV) (s : zAS) (k : Nat × Nat) : zev zk_X9_everywhere (186, ls, st, s, k) = zev zk_X9_everywhere (88, ls, st, s, k) := zev_go rfl rfl
theorem zr_X9_everywhere_189 (a1 a2 a3 a4 a5 a6 a7 a8 a9 : Option zAV) (st : List zAV) (s : zAS) (k : Nat × Nat) (o : Nat × Nat) : zev zk_X9_everywhere (189, [some (Sum.inr o), a1, a2, a3, a4, a5, a6, a7, a8, a9], st, s, k) = zev zk_X9_everywhere (190, [some (Sum.inr o), a1, a2, a3, a4, a5, a6, a7, a8, a9], Sum.inr o :: st, s, k) := zev_go rfl rfl
theorem zr_X9_everywhere_190 (a0 a1 a3 a4 a5 a6 a7 a8 a9 : Option zAV) (st : List zAV) (s : zAS) (k : Nat × Nat) (x : Int32) : zev zk_X9_everywhere (190, [a0, a1, some (Sum.inl (Value.int x)), a3, a4, a5, a6, a7, a8, a9], st, s, k) = zev zk_X9_everywhere (191, [a0, a1, some (Sum.inl (Value.int x)), a3, a4, a5, a6, a7, a8, a9], Sum.inl (Value.int x) :: st, s, k) := zev_go rfl rfl
theorem zr_X9_everywhere_191 (a0 a1 a2 a3 a5 a6 a7 a8 a9 : Option zAV) (st : List zAV) (s : zAS) (k : Nat × Nat) (x : Int32) : zev zk_X9_everywhere (191, [a0, a1, a2, a3, some (Sum.inl (Value.int x)), a5, a6, a7, a8, a9], st, s, k) = zev zk_X9_everywhere (193, [a0, a1, a2, a3, some (Sum.inl (Value.int x)), a5, a6, a7, a8, a9], Sum.inl (Value.int x) :: st, s, k) := zev_go rfl rfl
theorem zr_X9_everywhere_193 (a0 a1 a2 a3 a4 a6 a7 a8 a9 : Option zAV) (st : List zAV) (s : zAS) (k : Nat × Nat) (x : Int32) : zev zk_X9_everywhere (193, [a0, a1, a2, a3, a4, some (Sum.inl (Value.int x)), a6, a7, a8, a9], st, s, k) = zev zk_X9_everywhere (195, [a0, a1, a2, a3, a4, some (Sum.inl (Value.int x)), a6, a7, a8, a9], Sum.inl (Value.int x) :: st, s, k) := zev_go rfl rfl
theorem zr_X9_everywhere_195 (ls : zLs) (st : List zAV) (s : zAS) (k : Nat × Nat) (r v0 v1 v2 : zAV) (h : zcok zEM 9 0 0 (zR_X9_everywhere).cells (zR_X9_everywhere).slots r st k) : zev zk_X9_everywhere (195, ls, v2 :: v1 :: v0 :: r :: st, s, k) = zret zk_X9_everywhere 198 ls st (k.1 + 0, k.2 + 0) (m_X9_place [r, v0, v1, v2] s) := zf_callV (as := [v2, v1, v0]) 3 rfl rfl h
theorem zr_X9_everywhere_198 (a0 a1 a2 a3 a4 a5 a7 a8 a9 : Option zAV) (st : List zAV) (s : zAS) (k : Nat × Nat) (o : Nat × Nat) : zev zk_X9_everywhere (198, [a0, a1, a2, a3, a4, a5, some (Sum.inr o), a7, a8, a9], st, s, k) = zev zk_X9_everywhere (200, [a0, a1, a2, a3, a4, a5, some (Sum.inr o), a7, a8, a9], Sum.inr o :: st, s, k) := zev_go rfl rfl
theorem zr_X9_everywhere_200 (a0 a1 a2 a4 a5 a6 a7 a8 a9 : Option zAV) (st : List zAV) (s : zAS) (k : Nat × Nat) (x : Int32) : zev zk_X9_everywhere (200, [a0, a1, a2, some (Sum.inl (Value.int x)), a4, a5, a6, a7, a8, a9], st, s, k) = zev zk_X9_everywhere (201, [a0, a1, a2, some (Sum.inl (Value.int x)), a4, a5, a6, a7, a8, a9], Sum.inl (Value.int x) :: st, s, k) := zev_go rfl rfl
theorem zr_X9_everywhere_201 (ls : zLs) (st : List zAV) (s : zAS) (k : Nat × Nat) (o i : Nat) (j : Int32) : zev zk_X9_everywhere (201, ls, Sum.inl (Value.int j) :: Sum.inr (o, i) :: st, s, k) = zpush zk_X9_everywhere 202 ls st s k (zald zEM o i j s) := zf_iald rfl
theorem zr_X9_everywhere_202 (ls : zLs) (s : zAS) (k : Nat × Nat) (x : Int32) : zev zk_X9_everywhere (202, ls, [Sum.inl (Value.int x)], s, k) = some (.inl (some (Sum.inl (Value.int x))), s) := zf_reti rfl
/-! X9_meet: PrimePlaneModel.meet(II)V -/
abbrev zR_X9_meet : Room := ({ frames := 0, cells := 0, slots := 0, locals := 0 } : Room)
noncomputable def zl_X9_meet : List (Nat × zOp) := [(0, z_ic (0) 1), (1, z_sti 3 2), (2, z_ldi 3 3), (3, z_lda 0 4), (4, z_get zEM 9 7 7), (7, z_cmp (fun x y => decide (y ≤ x)) 37 10), (10, z_lda 0 11), (11, z_get zEM 9 8 14), (14, z_ldi 3 15), (15, z_iald zEM 16), (16, z_ldi 1 17), (17, z_cmp (fun x y => decide (¬ x = y)) 31 20), (20, z_lda 0 21), (21, z_get zEM 9 9 24), (24, z_ldi 3 25), (25, z_iald zEM 26), (26, z_ldi 2 27), (27, z_cmp (fun x y => decide (¬ x = y)) 31 30), (30, z_retv), (31, z_iinc 3 (1) 34), (34, z_goto 2), (37, z_lda 0 38), (38, z_get zEM 9 8 41), (41, z_lda 0 42), (42, z_get zEM 9 7 45), (45, z_ldi 1 46), (46, z_iast zEM 47), (47, z_lda 0 48), (48, z_get zEM 9 9 51), (51, z_lda 0 52), (52, z_get zEM 9 7 55), (55, z_ldi 2 56), (56, z_iast zEM 57), (57, z_lda 0 58), (58, z_dup 59), (59, z_get zEM 9 7 62), (62, z_ic (1) 63), (63, z_bin (fun x y => x + y) 64), (64, z_put zEM 9 7 false 67), (67, z_retv)]
noncomputable def zk_X9_meet (pc : Nat) : Option zOp := zlook zl_X9_meet pc
noncomputable def m_X9_meet : List zAV → zAS → Option zOut := zmeth zk_X9_meet 4
set_option maxRecDepth 100000 in
set_option maxHeartbeats 4000000 in
theorem zcs_X9_meet {R : Room} (hR : R = zR_X9_meet) : ∀ q ∈ zl_X9_meet, zS zEM yX9_meet.cls cX9_meet 4 wsX9_meet none R q.1 q.2 := by
  subst hR
  have hin9 : ∀ w ∈ wsX90, w ∈ wsX9_meet := fun w h => List.mem_cons_of_mem _ (List.mem_append_right _ h)
  refine List.forall_mem_cons.mpr ⟨zs_iconst dX9_meet_0 (by decide), ?_⟩
  refine List.forall_mem_cons.mpr ⟨zs_istore_n dX9_meet_1 rfl, ?_⟩
  refine List.forall_mem_cons.mpr ⟨zs_iload_n dX9_meet_2 rfl, ?_⟩
  refine List.forall_mem_cons.mpr ⟨zs_aload_n dX9_meet_3 rfl, ?_⟩
  refine List.forall_mem_cons.mpr ⟨zs_get (ci := 9) (j := 7) (N := 10) (C := RX9) (T := TX9) (index := 180) rfl (by decide) hin9 (List.mem_of_getElem? (i := 1) rfl) dX9_meet_4, ?_⟩
  refine List.forall_mem_cons.mpr ⟨zs_icge dX9_meet_7 (by decide), ?_⟩
  refine List.forall_mem_cons.mpr ⟨zs_aload_n dX9_meet_10 rfl, ?_⟩
  refine List.forall_mem_cons.mpr ⟨zs_get (ci := 9) (j := 8) (N := 10) (C := RX9) (T := TX9) (index := 23) rfl (by decide) hin9 (List.mem_of_getElem? (i := 2) rfl) dX9_meet_11, ?_⟩
  refine List.forall_mem_cons.mpr ⟨zs_iload_n dX9_meet_14 rfl, ?_⟩
  refine List.forall_mem_cons.mpr ⟨zs_iald dX9_meet_15, ?_⟩
  refine List.forall_mem_cons.mpr ⟨zs_iload_n dX9_meet_16 rfl, ?_⟩
  refine List.forall_mem_cons.mpr ⟨zs_icne dX9_meet_17 (by decide), ?_⟩
  refine List.forall_mem_cons.mpr ⟨zs_aload_n dX9_meet_20 rfl, ?_⟩
  refine List.forall_mem_cons.mpr ⟨zs_get (ci := 9) (j := 9) (N := 10) (C := RX9) (T := TX9) (index := 26) rfl (by decide) hin9 (List.mem_of_getElem? (i := 3) rfl) dX9_meet_21, ?_⟩
  refine List.forall_mem_cons.mpr ⟨zs_iload_n dX9_meet_24 rfl, ?_⟩
  refine List.forall_mem_cons.mpr ⟨zs_iald dX9_meet_25, ?_⟩
  refine List.forall_mem_cons.mpr ⟨zs_iload_n dX9_meet_26 rfl, ?_⟩
  refine List.forall_mem_cons.mpr ⟨zs_icne dX9_meet_27 (by decide), ?_⟩
  refine List.forall_mem_cons.mpr ⟨zs_retv rfl dX9_meet_30, ?_⟩
  refine List.forall_mem_cons.mpr ⟨zs_iinc dX9_meet_31 (by decide), ?_⟩
  refine List.forall_mem_cons.mpr ⟨zs_goto dX9_meet_34 (by decide), ?_⟩
  refine List.forall_mem_cons.mpr ⟨zs_aload_n dX9_meet_37 rfl, ?_⟩
  refine List.forall_mem_cons.mpr ⟨zs_get (ci := 9) (j := 8) (N := 10) (C := RX9) (T := TX9) (index := 23) rfl (by decide) hin9 (List.mem_of_getElem? (i := 2) rfl) dX9_meet_38, ?_⟩
  refine List.forall_mem_cons.mpr ⟨zs_aload_n dX9_meet_41 rfl, ?_⟩
  refine List.forall_mem_cons.mpr ⟨zs_get (ci := 9) (j := 7) (N := 10) (C := RX9) (T := TX9) (index := 180) rfl (by decide) hin9 (List.mem_of_getElem? (i := 1) rfl) dX9_meet_42, ?_⟩
  refine List.forall_mem_cons.mpr ⟨zs_iload_n dX9_meet_45 rfl, ?_⟩
  refine List.forall_mem_cons.mpr ⟨zs_iast dX9_meet_46, ?_⟩
  refine List.forall_mem_cons.mpr ⟨zs_aload_n dX9_meet_47 rfl, ?_⟩
  refine List.forall_mem_cons.mpr ⟨zs_get (ci := 9) (j := 9) (N := 10) (C := RX9) (T := TX9) (index := 26) rfl (by decide) hin9 (List.mem_of_getElem? (i := 3) rfl) dX9_meet_48, ?_⟩
  refine List.forall_mem_cons.mpr ⟨zs_aload_n dX9_meet_51 rfl, ?_⟩
  refine List.forall_mem_cons.mpr ⟨zs_get (ci := 9) (j := 7) (N := 10) (C := RX9) (T := TX9) (index := 180) rfl (by decide) hin9 (List.mem_of_getElem? (i := 1) rfl) dX9_meet_52, ?_⟩
  refine List.forall_mem_cons.mpr ⟨zs_iload_n dX9_meet_55 rfl, ?_⟩
  refine List.forall_mem_cons.mpr ⟨zs_iast dX9_meet_56, ?_⟩
  refine List.forall_mem_cons.mpr ⟨zs_aload_n dX9_meet_57 rfl, ?_⟩
  refine List.forall_mem_cons.mpr ⟨zs_dup dX9_meet_58, ?_⟩
  refine List.forall_mem_cons.mpr ⟨zs_get (ci := 9) (j := 7) (N := 10) (C := RX9) (T := TX9) (index := 180) rfl (by decide) hin9 (List.mem_of_getElem? (i := 1) rfl) dX9_meet_59, ?_⟩
  refine List.forall_mem_cons.mpr ⟨zs_iconst dX9_meet_62 (by decide), ?_⟩
  refine List.forall_mem_cons.mpr ⟨zs_iadd dX9_meet_63, ?_⟩
  refine List.forall_mem_cons.mpr ⟨zs_put (ci := 9) (j := 7) (N := 10) (C := RX9) (T := TX9) (index := 180) (b := false) .int tyX9 rfl (by decide) hin9 tyX9_ok nmX9 (List.mem_of_getElem? (i := 1) rfl) rfl (by decide +kernel) zni dX9_meet_64, ?_⟩
  refine List.forall_mem_cons.mpr ⟨zs_retv rfl dX9_meet_67, ?_⟩
  exact fun _ h => absurd h List.not_mem_nil
theorem zM_X9_meet : zMeets zEM yX9_meet wsX9_meet zR_X9_meet m_X9_meet := zmeth_M zEMok (zlook_all (zcs_X9_meet rfl)) (by decide +kernel) rfl
theorem zr_X9_meet_0 (ls : zLs) (st : List zAV) (s : zAS) (k : Nat × Nat) : zev zk_X9_meet (0, ls, st, s, k) = zev zk_X9_meet (1, ls, Sum.inl (Value.int (0)) :: st, s, k) := zev_go rfl rfl
theorem zr_X9_meet_1 (a0 a1 a2 a3 : Option zAV) (st : List zAV) (s : zAS) (k : Nat × Nat) (x : Int32) : zev zk_X9_meet (1, [a0, a1, a2, a3], Sum.inl (Value.int x) :: st, s, k) = zev zk_X9_meet (2, [a0, a1, zk1 a2, some (Sum.inl (Value.int x))], st, s, k) := zev_go rfl rfl
theorem zr_X9_meet_2 (a0 a1 a2 : Option zAV) (st : List zAV) (s : zAS) (k : Nat × Nat) (x : Int32) : zev zk_X9_meet (2, [a0, a1, a2, some (Sum.inl (Value.int x))], st, s, k) = zev zk_X9_meet (3, [a0, a1, a2, some (Sum.inl (Value.int x))], Sum.inl (Value.int x) :: st, s, k) := zev_go rfl rfl
theorem zr_X9_meet_3 (a1 a2 a3 : Option zAV) (st : List zAV) (s : zAS) (k : Nat × Nat) (o : Nat × Nat) : zev zk_X9_meet (3, [some (Sum.inr o), a1, a2, a3], st, s, k) = zev zk_X9_meet (4, [some (Sum.inr o), a1, a2, a3], Sum.inr o :: st, s, k) := zev_go rfl rfl
theorem zr_X9_meet_4 (ls : zLs) (st : List zAV) (s : zAS) (k : Nat × Nat) (o i : Nat) : zev zk_X9_meet (4, ls, Sum.inr (o, i) :: st, s, k) = zpush zk_X9_meet 7 ls st s k (zgv zEM 9 7 o i s.1) := zf_get rfl
theorem zr_X9_meet_7 (ls : zLs) (st : List zAV) (s : zAS) (k : Nat × Nat) (x y : Int32) : zev zk_X9_meet (7, ls, Sum.inl (Value.int y) :: Sum.inl (Value.int x) :: st, s, k) = if decide (y ≤ x) = true then zev zk_X9_meet (37, ls, st, s, k) else zev zk_X9_meet (10, ls, st, s, k) := zf_cmp (f := fun x y => decide (y ≤ x)) rfl
theorem zr_X9_meet_10 (a1 a2 a3 : Option zAV) (st : List zAV) (s : zAS) (k : Nat × Nat) (o : Nat × Nat) : zev zk_X9_meet (10, [some (Sum.inr o), a1, a2, a3], st, s, k) = zev zk_X9_meet (11, [some (Sum.inr o), a1, a2, a3], Sum.inr o :: st, s, k) := zev_go rfl rfl
theorem zr_X9_meet_11 (ls : zLs) (st : List zAV) (s : zAS) (k : Nat × Nat) (o i : Nat) : zev zk_X9_meet (11, ls, Sum.inr (o, i) :: st, s, k) = zpush zk_X9_meet 14 ls st s k (zgv zEM 9 8 o i s.1) := zf_get rfl
theorem zr_X9_meet_14 (a0 a1 a2 : Option zAV) (st : List zAV) (s : zAS) (k : Nat × Nat) (x : Int32) : zev zk_X9_meet (14, [a0, a1, a2, some (Sum.inl (Value.int x))], st, s, k) = zev zk_X9_meet (15, [a0, a1, a2, some (Sum.inl (Value.int x))], Sum.inl (Value.int x) :: st, s, k) := zev_go rfl rfl
theorem zr_X9_meet_15 (ls : zLs) (st : List zAV) (s : zAS) (k : Nat × Nat) (o i : Nat) (j : Int32) : zev zk_X9_meet (15, ls, Sum.inl (Value.int j) :: Sum.inr (o, i) :: st, s, k) = zpush zk_X9_meet 16 ls st s k (zald zEM o i j s) := zf_iald rfl
theorem zr_X9_meet_16 (a0 a2 a3 : Option zAV) (st : List zAV) (s : zAS) (k : Nat × Nat) (x : Int32) : zev zk_X9_meet (16, [a0, some (Sum.inl (Value.int x)), a2, a3], st, s, k) = zev zk_X9_meet (17, [a0, some (Sum.inl (Value.int x)), a2, a3], Sum.inl (Value.int x) :: st, s, k) := zev_go rfl rfl
theorem zr_X9_meet_17 (ls : zLs) (st : List zAV) (s : zAS) (k : Nat × Nat) (x y : Int32) : zev zk_X9_meet (17, ls, Sum.inl (Value.int y) :: Sum.inl (Value.int x) :: st, s, k) = if decide (¬ x = y) = true then zev zk_X9_meet (31, ls, st, s, k) else zev zk_X9_meet (20, ls, st, s, k) := zf_cmp (f := fun x y => decide (¬ x = y)) rfl
theorem zr_X9_meet_20 (a1 a2 a3 : Option zAV) (st : List zAV) (s : zAS) (k : Nat × Nat) (o : Nat × Nat) : zev zk_X9_meet (20, [some (Sum.inr o), a1, a2, a3], st, s, k) = zev zk_X9_meet (21, [some (Sum.inr o), a1, a2, a3], Sum.inr o :: st, s, k) := zev_go rfl rfl
theorem zr_X9_meet_21 (ls : zLs) (st : List zAV) (s : zAS) (k : Nat × Nat) (o i : Nat) : zev zk_X9_meet (21, ls, Sum.inr (o, i) :: st, s, k) = zpush zk_X9_meet 24 ls st s k (zgv zEM 9 9 o i s.1) := zf_get rfl
theorem zr_X9_meet_24 (a0 a1 a2 : Option zAV) (st : List zAV) (s : zAS) (k : Nat × Nat) (x : Int32) : zev zk_X9_meet (24, [a0, a1, a2, some (Sum.inl (Value.int x))], st, s, k) = zev zk_X9_meet (25, [a0, a1, a2, some (Sum.inl (Value.int x))], Sum.inl (Value.int x) :: st, s, k) := zev_go rfl rfl
theorem zr_X9_meet_25 (ls : zLs) (st : List zAV) (s : zAS) (k : Nat × Nat) (o i : Nat) (j : Int32) : zev zk_X9_meet (25, ls, Sum.inl (Value.int j) :: Sum.inr (o, i) :: st, s, k) = zpush zk_X9_meet 26 ls st s k (zald zEM o i j s) := zf_iald rfl
theorem zr_X9_meet_26 (a0 a1 a3 : Option zAV) (st : List zAV) (s : zAS) (k : Nat × Nat) (x : Int32) : zev zk_X9_meet (26, [a0, a1, some (Sum.inl (Value.int x)), a3], st, s, k) = zev zk_X9_meet (27, [a0, a1, some (Sum.inl (Value.int x)), a3], Sum.inl (Value.int x) :: st, s, k) := zev_go rfl rfl
theorem zr_X9_meet_27 (ls : zLs) (st : List zAV) (s : zAS) (k : Nat × Nat) (x y : Int32) : zev zk_X9_meet (27, ls, Sum.inl (Value.int y) :: Sum.inl (Value.int x) :: st, s, k) = if decide (¬ x = y) = true then zev zk_X9_meet (31, ls, st, s, k) else zev zk_X9_meet (30, ls, st, s, k) := zf_cmp (f := fun x y => decide (¬ x = y)) rfl
theorem zr_X9_meet_30 (ls : zLs) (s : zAS) (k : Nat × Nat) : zev zk_X9_meet (30, ls, [], s, k) = some (.inl none, s) := zev_end rfl rfl
theorem zr_X9_meet_31 (a0 a1 a2 : Option zAV) (st : List zAV) (s : zAS) (k : Nat × Nat) (x : Int32) : zev zk_X9_meet (31, [a0, a1, a2, some (Sum.inl (Value.int x))], st, s, k) = zev zk_X9_meet (34, [a0, a1, zk1 a2, some (Sum.inl (Value.int (x + (1))))], st, s, k) := zev_go rfl rfl
theorem zr_X9_meet_34 (ls : zLs) (st : List zAV) (s : zAS) (k : Nat × Nat) : zev zk_X9_meet (34, ls, st, s, k) = zev zk_X9_meet (2, ls, st, s, k) := zev_go rfl rfl
theorem zr_X9_meet_37 (a1 a2 a3 : Option zAV) (st : List zAV) (s : zAS) (k : Nat × Nat) (o : Nat × Nat) : zev zk_X9_meet (37, [some (Sum.inr o), a1, a2, a3], st, s, k) = zev zk_X9_meet (38, [some (Sum.inr o), a1, a2, a3], Sum.inr o :: st, s, k) := zev_go rfl rfl
theorem zr_X9_meet_38 (ls : zLs) (st : List zAV) (s : zAS) (k : Nat × Nat) (o i : Nat) : zev zk_X9_meet (38, ls, Sum.inr (o, i) :: st, s, k) = zpush zk_X9_meet 41 ls st s k (zgv zEM 9 8 o i s.1) := zf_get rfl
theorem zr_X9_meet_41 (a1 a2 a3 : Option zAV) (st : List zAV) (s : zAS) (k : Nat × Nat) (o : Nat × Nat) : zev zk_X9_meet (41, [some (Sum.inr o), a1, a2, a3], st, s, k) = zev zk_X9_meet (42, [some (Sum.inr o), a1, a2, a3], Sum.inr o :: st, s, k) := zev_go rfl rfl
theorem zr_X9_meet_42 (ls : zLs) (st : List zAV) (s : zAS) (k : Nat × Nat) (o i : Nat) : zev zk_X9_meet (42, ls, Sum.inr (o, i) :: st, s, k) = zpush zk_X9_meet 45 ls st s k (zgv zEM 9 7 o i s.1) := zf_get rfl
theorem zr_X9_meet_45 (a0 a2 a3 : Option zAV) (st : List zAV) (s : zAS) (k : Nat × Nat) (x : Int32) : zev zk_X9_meet (45, [a0, some (Sum.inl (Value.int x)), a2, a3], st, s, k) = zev zk_X9_meet (46, [a0, some (Sum.inl (Value.int x)), a2, a3], Sum.inl (Value.int x) :: st, s, k) := zev_go rfl rfl
theorem zr_X9_meet_46 (ls : zLs) (st : List zAV) (s : zAS) (k : Nat × Nat) (o i : Nat) (j x : Int32) : zev zk_X9_meet (46, ls, Sum.inl (Value.int x) :: Sum.inl (Value.int j) :: Sum.inr (o, i) :: st, s, k) = zgo zk_X9_meet 47 ls st k (zast zEM o i j x s) := zf_iast rfl
theorem zr_X9_meet_47 (a1 a2 a3 : Option zAV) (st : List zAV) (s : zAS) (k : Nat × Nat) (o : Nat × Nat) : zev zk_X9_meet (47, [some (Sum.inr o), a1, a2, a3], st, s, k) = zev zk_X9_meet (48, [some (Sum.inr o), a1, a2, a3], Sum.inr o :: st, s, k) := zev_go rfl rfl
theorem zr_X9_meet_48 (ls : zLs) (st : List zAV) (s : zAS) (k : Nat × Nat) (o i : Nat) : zev zk_X9_meet (48, ls, Sum.inr (o, i) :: st, s, k) = zpush zk_X9_meet 51 ls st s k (zgv zEM 9 9 o i s.1) := zf_get rfl
theorem zr_X9_meet_51 (a1 a2 a3 : Option zAV) (st : List zAV) (s : zAS) (k : Nat × Nat) (o : Nat × Nat) : zev zk_X9_meet (51, [some (Sum.inr o), a1, a2, a3], st, s, k) = zev zk_X9_meet (52, [some (Sum.inr o), a1, a2, a3], Sum.inr o :: st, s, k) := zev_go rfl rfl
theorem zr_X9_meet_52 (ls : zLs) (st : List zAV) (s : zAS) (k : Nat × Nat) (o i : Nat) : zev zk_X9_meet (52, ls, Sum.inr (o, i) :: st, s, k) = zpush zk_X9_meet 55 ls st s k (zgv zEM 9 7 o i s.1) := zf_get rfl
theorem zr_X9_meet_55 (a0 a1 a3 : Option zAV) (st : List zAV) (s : zAS) (k : Nat × Nat) (x : Int32) : zev zk_X9_meet (55, [a0, a1, some (Sum.inl (Value.int x)), a3], st, s, k) = zev zk_X9_meet (56, [a0, a1, some (Sum.inl (Value.int x)), a3], Sum.inl (Value.int x) :: st, s, k) := zev_go rfl rfl
theorem zr_X9_meet_56 (ls : zLs) (st : List zAV) (s : zAS) (k : Nat × Nat) (o i : Nat) (j x : Int32) : zev zk_X9_meet (56, ls, Sum.inl (Value.int x) :: Sum.inl (Value.int j) :: Sum.inr (o, i) :: st, s, k) = zgo zk_X9_meet 57 ls st k (zast zEM o i j x s) := zf_iast rfl
theorem zr_X9_meet_57 (a1 a2 a3 : Option zAV) (st : List zAV) (s : zAS) (k : Nat × Nat) (o : Nat × Nat) : zev zk_X9_meet (57, [some (Sum.inr o), a1, a2, a3], st, s, k) = zev zk_X9_meet (58, [some (Sum.inr o), a1, a2, a3], Sum.inr o :: st, s, k) := zev_go rfl rfl
theorem zr_X9_meet_58 (ls : zLs) (st : List zAV) (s : zAS) (k : Nat × Nat) (v : zAV) (hv : zc1 v = true) : zev zk_X9_meet (58, ls, v :: st, s, k) = zev zk_X9_meet (59, ls, v :: v :: st, s, k) := zf_dup rfl hv
theorem zr_X9_meet_59 (ls : zLs) (st : List zAV) (s : zAS) (k : Nat × Nat) (o i : Nat) : zev zk_X9_meet (59, ls, Sum.inr (o, i) :: st, s, k) = zpush zk_X9_meet 62 ls st s k (zgv zEM 9 7 o i s.1) := zf_get rfl
theorem zr_X9_meet_62 (ls : zLs) (st : List zAV) (s : zAS) (k : Nat × Nat) : zev zk_X9_meet (62, ls, st, s, k) = zev zk_X9_meet (63, ls, Sum.inl (Value.int (1)) :: st, s, k) := zev_go rfl rfl
theorem zr_X9_meet_63 (ls : zLs) (st : List zAV) (s : zAS) (k : Nat × Nat) (x y : Int32) : zev zk_X9_meet (63, ls, Sum.inl (Value.int y) :: Sum.inl (Value.int x) :: st, s, k) = zev zk_X9_meet (64, ls, Sum.inl (Value.int (x + y)) :: st, s, k) := zev_go rfl rfl
theorem zr_X9_meet_64 (ls : zLs) (st : List zAV) (s : zAS) (k : Nat × Nat) (o i : Nat) (x : Int32) (h : zpok zEM 9 7 false o i x) : zev zk_X9_meet (64, ls, Sum.inl (Value.int x) :: Sum.inr (o, i) :: st, s, k) = zev zk_X9_meet (67, ls, st, (zup s.1 o i 7 x, s.2), k) := zf_put rfl h
theorem zr_X9_meet_67 (ls : zLs) (s : zAS) (k : Nat × Nat) : zev zk_X9_meet (67, ls, [], s, k) = some (.inl none, s) := zev_end rfl rfl
/-! X9_cross: PrimePlaneModel.cross(I)I -/
abbrev zR_X9_cross : Room := ({ frames := 2, cells := 0, slots := 0, locals := 43 } : Room)
noncomputable def zl_X9_cross : List (Nat × zOp) := [(0, z_lda 0 1), (1, z_lda 0 2), (2, z_get zEM 9 8 5), (5, z_ic (1) 6), (6, z_iald zEM 7), (7, z_lda 0 8), (8, z_get zEM 9 8 11), (11, z_ic (0) 12), (12, z_iald zEM 13), (13, z_bin (fun x y => x - y) 14), (14, z_lda 0 15), (15, z_get zEM 9 9 18), (18, z_ldi 1 19), (19, z_iald zEM 20), (20, z_lda 0 21), (21, z_get zEM 9 9 24), (24, z_ic (0) 25), (25, z_iald zEM 26), (26, z_bin (fun x y => x - y) 27), (27, z_bin (fun x y => x * y) 28), (28, z_lda 0 29), (29, z_get zEM 9 8 32), (32, z_ldi 1 33), (33, z_iald zEM 34), (34, z_lda 0 35), (35, z_get zEM 9 8 38), (38, z_ic (0) 39), (39, z_iald zEM 40), (40, z_bin (fun x y => x - y) 41), (41, z_lda 0 42), (42, z_get zEM 9 9 45), (45, z_ic (1) 46), (46, z_iald zEM 47), (47, z_lda 0 48), (48, z_get zEM 9 9 51), (51, z_ic (0) 52), (52, z_iald zEM 53), (53, z_bin (fun x y => x - y) 54), (54, z_bin (fun x y => x * y) 55), (55, z_bin (fun x y => x - y) 56), (56, z_callV zEM 9 m_X9_mod 1 0 0 (zR_X9_cross).cells (zR_X9_cross).slots 59), (59, z_reti false)]
noncomputable def zk_X9_cross (pc : Nat) : Option zOp := zlook zl_X9_cross pc
noncomputable def m_X9_cross : List zAV → zAS → Option zOut := zmeth zk_X9_cross 2
set_option maxRecDepth 100000 in
set_option maxHeartbeats 4000000 in
theorem zcs_X9_cross {R : Room} (hR : R = zR_X9_cross) : ∀ q ∈ zl_X9_cross, zS zEM yX9_cross.cls cX9_cross 2 wsX9_cross (some .int) R q.1 q.2 := by
  subst hR
  have hin9 : ∀ w ∈ wsX90, w ∈ wsX9_cross := fun w h => List.mem_cons_of_mem _ (List.mem_append_right _ h)
  refine List.forall_mem_cons.mpr ⟨zs_aload_n dX9_cross_0 rfl, ?_⟩
  refine List.forall_mem_cons.mpr ⟨zs_aload_n dX9_cross_1 rfl, ?_⟩
  refine List.forall_mem_cons.mpr ⟨zs_get (ci := 9) (j := 8) (N := 10) (C := RX9) (T := TX9) (index := 23) rfl (by decide) hin9 (List.mem_of_getElem? (i := 1) rfl) dX9_cross_2, ?_⟩
  refine List.forall_mem_cons.mpr ⟨zs_iconst dX9_cross_5 (by decide), ?_⟩
  refine List.forall_mem_cons.mpr ⟨zs_iald dX9_cross_6, ?_⟩
  refine List.forall_mem_cons.mpr ⟨zs_aload_n dX9_cross_7 rfl, ?_⟩
  refine List.forall_mem_cons.mpr ⟨zs_get (ci := 9) (j := 8) (N := 10) (C := RX9) (T := TX9) (index := 23) rfl (by decide) hin9 (List.mem_of_getElem? (i := 1) rfl) dX9_cross_8, ?_⟩
  refine List.forall_mem_cons.mpr ⟨zs_iconst dX9_cross_11 (by decide), ?_⟩
  refine List.forall_mem_cons.mpr ⟨zs_iald dX9_cross_12, ?_⟩
  refine List.forall_mem_cons.mpr ⟨zs_isub dX9_cross_13, ?_⟩
  refine List.forall_mem_cons.mpr ⟨zs_aload_n dX9_cross_14 rfl, ?_⟩
  refine List.forall_mem_cons.mpr ⟨zs_get (ci := 9) (j := 9) (N := 10) (C := RX9) (T := TX9) (index := 26) rfl (by decide) hin9 (List.mem_of_getElem? (i := 2) rfl) dX9_cross_15, ?_⟩
  refine List.forall_mem_cons.mpr ⟨zs_iload_n dX9_cross_18 rfl, ?_⟩
  refine List.forall_mem_cons.mpr ⟨zs_iald dX9_cross_19, ?_⟩
  refine List.forall_mem_cons.mpr ⟨zs_aload_n dX9_cross_20 rfl, ?_⟩
  refine List.forall_mem_cons.mpr ⟨zs_get (ci := 9) (j := 9) (N := 10) (C := RX9) (T := TX9) (index := 26) rfl (by decide) hin9 (List.mem_of_getElem? (i := 2) rfl) dX9_cross_21, ?_⟩
  refine List.forall_mem_cons.mpr ⟨zs_iconst dX9_cross_24 (by decide), ?_⟩
  refine List.forall_mem_cons.mpr ⟨zs_iald dX9_cross_25, ?_⟩
  refine List.forall_mem_cons.mpr ⟨zs_isub dX9_cross_26, ?_⟩
  refine List.forall_mem_cons.mpr ⟨zs_imul dX9_cross_27, ?_⟩
  refine List.forall_mem_cons.mpr ⟨zs_aload_n dX9_cross_28 rfl, ?_⟩
  refine List.forall_mem_cons.mpr ⟨zs_get (ci := 9) (j := 8) (N := 10) (C := RX9) (T := TX9) (index := 23) rfl (by decide) hin9 (List.mem_of_getElem? (i := 1) rfl) dX9_cross_29, ?_⟩
  refine List.forall_mem_cons.mpr ⟨zs_iload_n dX9_cross_32 rfl, ?_⟩
  refine List.forall_mem_cons.mpr ⟨zs_iald dX9_cross_33, ?_⟩
  refine List.forall_mem_cons.mpr ⟨zs_aload_n dX9_cross_34 rfl, ?_⟩
  refine List.forall_mem_cons.mpr ⟨zs_get (ci := 9) (j := 8) (N := 10) (C := RX9) (T := TX9) (index := 23) rfl (by decide) hin9 (List.mem_of_getElem? (i := 1) rfl) dX9_cross_35, ?_⟩
  refine List.forall_mem_cons.mpr ⟨zs_iconst dX9_cross_38 (by decide), ?_⟩
  refine List.forall_mem_cons.mpr ⟨zs_iald dX9_cross_39, ?_⟩
  refine List.forall_mem_cons.mpr ⟨zs_isub dX9_cross_40, ?_⟩
  refine List.forall_mem_cons.mpr ⟨zs_aload_n dX9_cross_41 rfl, ?_⟩
  refine List.forall_mem_cons.mpr ⟨zs_get (ci := 9) (j := 9) (N := 10) (C := RX9) (T := TX9) (index := 26) rfl (by decide) hin9 (List.mem_of_getElem? (i := 2) rfl) dX9_cross_42, ?_⟩
  refine List.forall_mem_cons.mpr ⟨zs_iconst dX9_cross_45 (by decide), ?_⟩
  refine List.forall_mem_cons.mpr ⟨zs_iald dX9_cross_46, ?_⟩
  refine List.forall_mem_cons.mpr ⟨zs_aload_n dX9_cross_47 rfl, ?_⟩
  refine List.forall_mem_cons.mpr ⟨zs_get (ci := 9) (j := 9) (N := 10) (C := RX9) (T := TX9) (index := 26) rfl (by decide) hin9 (List.mem_of_getElem? (i := 2) rfl) dX9_cross_48, ?_⟩
  refine List.forall_mem_cons.mpr ⟨zs_iconst dX9_cross_51 (by decide), ?_⟩
  refine List.forall_mem_cons.mpr ⟨zs_iald dX9_cross_52, ?_⟩
  refine List.forall_mem_cons.mpr ⟨zs_isub dX9_cross_53, ?_⟩
  refine List.forall_mem_cons.mpr ⟨zs_imul dX9_cross_54, ?_⟩
  refine List.forall_mem_cons.mpr ⟨zs_isub dX9_cross_55, ?_⟩
  refine List.forall_mem_cons.mpr ⟨zs_callV (ci := 9) (rm := zR_X9_mod) (n := 1) rfl zM_X9_mod gX9_cross_X9_mod rfl (by decide +kernel) ⟨by decide, by decide⟩ dX9_cross_56, ?_⟩
  refine List.forall_mem_cons.mpr ⟨zs_reti (ty := .int) rfl (fun x h => (zni x h).1) dX9_cross_59, ?_⟩
  exact fun _ h => absurd h List.not_mem_nil
theorem zM_X9_cross : zMeets zEM yX9_cross wsX9_cross zR_X9_cross m_X9_cross := zmeth_M zEMok (zlook_all (zcs_X9_cross rfl)) (by decide +kernel) rfl
theorem zr_X9_cross_0 (a1 : Option zAV) (st : List zAV) (s : zAS) (k : Nat × Nat) (o : Nat × Nat) : zev zk_X9_cross (0, [some (Sum.inr o), a1], st, s, k) = zev zk_X9_cross (1, [some (Sum.inr o), a1], Sum.inr o :: st, s, k) := zev_go rfl rfl
theorem zr_X9_cross_1 (a1 : Option zAV) (st : List zAV) (s : zAS) (k : Nat × Nat) (o : Nat × Nat) : zev zk_X9_cross (1, [some (Sum.inr o), a1], st, s, k) = zev zk_X9_cross (2, [some (Sum.inr o), a1], Sum.inr o :: st, s, k) := zev_go rfl rfl
theorem zr_X9_cross_2 (ls : zLs) (st : List zAV) (s : zAS) (k : Nat × Nat) (o i : Nat) : zev zk_X9_cross (2, ls, Sum.inr (o, i) :: st, s, k) = zpush zk_X9_cross 5 ls st s k (zgv zEM 9 8 o i s.1) := zf_get rfl
theorem zr_X9_cross_5 (ls : zLs) (st : List zAV) (s : zAS) (k : Nat × Nat) : zev zk_X9_cross (5, ls, st, s, k) = zev zk_X9_cross (6, ls, Sum.inl (Value.int (1)) :: st, s, k) := zev_go rfl rfl
theorem zr_X9_cross_6 (ls : zLs) (st : List zAV) (s : zAS) (k : Nat × Nat) (o i : Nat) (j : Int32) : zev zk_X9_cross (6, ls, Sum.inl (Value.int j) :: Sum.inr (o, i) :: st, s, k) = zpush zk_X9_cross 7 ls st s k (zald zEM o i j s) := zf_iald rfl
theorem zr_X9_cross_7 (a1 : Option zAV) (st : List zAV) (s : zAS) (k : Nat × Nat) (o : Nat × Nat) : zev zk_X9_cross (7, [some (Sum.inr o), a1], st, s, k) = zev zk_X9_cross (8, [some (Sum.inr o), a1], Sum.inr o :: st, s, k) := zev_go rfl rfl
theorem zr_X9_cross_8 (ls : zLs) (st : List zAV) (s : zAS) (k : Nat × Nat) (o i : Nat) : zev zk_X9_cross (8, ls, Sum.inr (o, i) :: st, s, k) = zpush zk_X9_cross 11 ls st s k (zgv zEM 9 8 o i s.1) := zf_get rfl
theorem zr_X9_cross_11 (ls : zLs) (st : List zAV) (s : zAS) (k : Nat × Nat) : zev zk_X9_cross (11, ls, st, s, k) = zev zk_X9_cross (12, ls, Sum.inl (Value.int (0)) :: st, s, k) := zev_go rfl rfl
theorem zr_X9_cross_12 (ls : zLs) (st : List zAV) (s : zAS) (k : Nat × Nat) (o i : Nat) (j : Int32) : zev zk_X9_cross (12, ls, Sum.inl (Value.int j) :: Sum.inr (o, i) :: st, s, k) = zpush zk_X9_cross 13 ls st s k (zald zEM o i j s) := zf_iald rfl
theorem zr_X9_cross_13 (ls : zLs) (st : List zAV) (s : zAS) (k : Nat × Nat) (x y : Int32) : zev zk_X9_cross (13, ls, Sum.inl (Value.int y) :: Sum.inl (Value.int x) :: st, s, k) = zev zk_X9_cross (14, ls, Sum.inl (Value.int (x - y)) :: st, s, k) := zev_go rfl rfl
theorem zr_X9_cross_14 (a1 : Option zAV) (st : List zAV) (s : zAS) (k : Nat × Nat) (o : Nat × Nat) : zev zk_X9_cross (14, [some (Sum.inr o), a1], st, s, k) = zev zk_X9_cross (15, [some (Sum.inr o), a1], Sum.inr o :: st, s, k) := zev_go rfl rfl
theorem zr_X9_cross_15 (ls : zLs) (st : List zAV) (s : zAS) (k : Nat × Nat) (o i : Nat) : zev zk_X9_cross (15, ls, Sum.inr (o, i) :: st, s, k) = zpush zk_X9_cross 18 ls st s k (zgv zEM 9 9 o i s.1) := zf_get rfl
theorem zr_X9_cross_18 (a0 : Option zAV) (st : List zAV) (s : zAS) (k : Nat × Nat) (x : Int32) : zev zk_X9_cross (18, [a0, some (Sum.inl (Value.int x))], st, s, k) = zev zk_X9_cross (19, [a0, some (Sum.inl (Value.int x))], Sum.inl (Value.int x) :: st, s, k) := zev_go rfl rfl
theorem zr_X9_cross_19 (ls : zLs) (st : List zAV) (s : zAS) (k : Nat × Nat) (o i : Nat) (j : Int32) : zev zk_X9_cross (19, ls, Sum.inl (Value.int j) :: Sum.inr (o, i) :: st, s, k) = zpush zk_X9_cross 20 ls st s k (zald zEM o i j s) := zf_iald rfl
theorem zr_X9_cross_20 (a1 : Option zAV) (st : List zAV) (s : zAS) (k : Nat × Nat) (o : Nat × Nat) : zev zk_X9_cross (20, [some (Sum.inr o), a1], st, s, k) = zev zk_X9_cross (21, [some (Sum.inr o), a1], Sum.inr o :: st, s, k) := zev_go rfl rfl
theorem zr_X9_cross_21 (ls : zLs) (st : List zAV) (s : zAS) (k : Nat × Nat) (o i : Nat) : zev zk_X9_cross (21, ls, Sum.inr (o, i) :: st, s, k) = zpush zk_X9_cross 24 ls st s k (zgv zEM 9 9 o i s.1) := zf_get rfl
theorem zr_X9_cross_24 (ls : zLs) (st : List zAV) (s : zAS) (k : Nat × Nat) : zev zk_X9_cross (24, ls, st, s, k) = zev zk_X9_cross (25, ls, Sum.inl (Value.int (0)) :: st, s, k) := zev_go rfl rfl
theorem zr_X9_cross_25 (ls : zLs) (st : List zAV) (s : zAS) (k : Nat × Nat) (o i : Nat) (j : Int32) : zev zk_X9_cross (25, ls, Sum.inl (Value.int j) :: Sum.inr (o, i) :: st, s, k) = zpush zk_X9_cross 26 ls st s k (zald zEM o i j s) := zf_iald rfl
theorem zr_X9_cross_26 (ls : zLs) (st : List zAV) (s : zAS) (k : Nat × Nat) (x y : Int32) : zev zk_X9_cross (26, ls, Sum.inl (Value.int y) :: Sum.inl (Value.int x) :: st, s, k) = zev zk_X9_cross (27, ls, Sum.inl (Value.int (x - y)) :: st, s, k) := zev_go rfl rfl
theorem zr_X9_cross_27 (ls : zLs) (st : List zAV) (s : zAS) (k : Nat × Nat) (x y : Int32) : zev zk_X9_cross (27, ls, Sum.inl (Value.int y) :: Sum.inl (Value.int x) :: st, s, k) = zev zk_X9_cross (28, ls, Sum.inl (Value.int (x * y)) :: st, s, k) := zev_go rfl rfl
theorem zr_X9_cross_28 (a1 : Option zAV) (st : List zAV) (s : zAS) (k : Nat × Nat) (o : Nat × Nat) : zev zk_X9_cross (28, [some (Sum.inr o), a1], st, s, k) = zev zk_X9_cross (29, [some (Sum.inr o), a1], Sum.inr o :: st, s, k) := zev_go rfl rfl
theorem zr_X9_cross_29 (ls : zLs) (st : List zAV) (s : zAS) (k : Nat × Nat) (o i : Nat) : zev zk_X9_cross (29, ls, Sum.inr (o, i) :: st, s, k) = zpush zk_X9_cross 32 ls st s k (zgv zEM 9 8 o i s.1) := zf_get rfl
theorem zr_X9_cross_32 (a0 : Option zAV) (st : List zAV) (s : zAS) (k : Nat × Nat) (x : Int32) : zev zk_X9_cross (32, [a0, some (Sum.inl (Value.int x))], st, s, k) = zev zk_X9_cross (33, [a0, some (Sum.inl (Value.int x))], Sum.inl (Value.int x) :: st, s, k) := zev_go rfl rfl
theorem zr_X9_cross_33 (ls : zLs) (st : List zAV) (s : zAS) (k : Nat × Nat) (o i : Nat) (j : Int32) : zev zk_X9_cross (33, ls, Sum.inl (Value.int j) :: Sum.inr (o, i) :: st, s, k) = zpush zk_X9_cross 34 ls st s k (zald zEM o i j s) := zf_iald rfl
theorem zr_X9_cross_34 (a1 : Option zAV) (st : List zAV) (s : zAS) (k : Nat × Nat) (o : Nat × Nat) : zev zk_X9_cross (34, [some (Sum.inr o), a1], st, s, k) = zev zk_X9_cross (35, [some (Sum.inr o), a1], Sum.inr o :: st, s, k) := zev_go rfl rfl
theorem zr_X9_cross_35 (ls : zLs) (st : List zAV) (s : zAS) (k : Nat × Nat) (o i : Nat) : zev zk_X9_cross (35, ls, Sum.inr (o, i) :: st, s, k) = zpush zk_X9_cross 38 ls st s k (zgv zEM 9 8 o i s.1) := zf_get rfl
theorem zr_X9_cross_38 (ls : zLs) (st : List zAV) (s : zAS) (k : Nat × Nat) : zev zk_X9_cross (38, ls, st, s, k) = zev zk_X9_cross (39, ls, Sum.inl (Value.int (0)) :: st, s, k) := zev_go rfl rfl
theorem zr_X9_cross_39 (ls : zLs) (st : List zAV) (s : zAS) (k : Nat × Nat) (o i : Nat) (j : Int32) : zev zk_X9_cross (39, ls, Sum.inl (Value.int j) :: Sum.inr (o, i) :: st, s, k) = zpush zk_X9_cross 40 ls st s k (zald zEM o i j s) := zf_iald rfl
theorem zr_X9_cross_40 (ls : zLs) (st : List zAV) (s : zAS) (k : Nat × Nat) (x y : Int32) : zev zk_X9_cross (40, ls, Sum.inl (Value.int y) :: Sum.inl (Value.int x) :: st, s, k) = zev zk_X9_cross (41, ls, Sum.inl (Value.int (x - y)) :: st, s, k) := zev_go rfl rfl
theorem zr_X9_cross_41 (a1 : Option zAV) (st : List zAV) (s : zAS) (k : Nat × Nat) (o : Nat × Nat) : zev zk_X9_cross (41, [some (Sum.inr o), a1], st, s, k) = zev zk_X9_cross (42, [some (Sum.inr o), a1], Sum.inr o :: st, s, k) := zev_go rfl rfl
theorem zr_X9_cross_42 (ls : zLs) (st : List zAV) (s : zAS) (k : Nat × Nat) (o i : Nat) : zev zk_X9_cross (42, ls, Sum.inr (o, i) :: st, s, k) = zpush zk_X9_cross 45 ls st s k (zgv zEM 9 9 o i s.1) := zf_get rfl
theorem zr_X9_cross_45 (ls : zLs) (st : List zAV) (s : zAS) (k : Nat × Nat) : zev zk_X9_cross (45, ls, st, s, k) = zev zk_X9_cross (46, ls, Sum.inl (Value.int (1)) :: st, s, k) := zev_go rfl rfl
theorem zr_X9_cross_46 (ls : zLs) (st : List zAV) (s : zAS) (k : Nat × Nat) (o i : Nat) (j : Int32) : zev zk_X9_cross (46, ls, Sum.inl (Value.int j) :: Sum.inr (o, i) :: st, s, k) = zpush zk_X9_cross 47 ls st s k (zald zEM o i j s) := zf_iald rfl
theorem zr_X9_cross_47 (a1 : Option zAV) (st : List zAV) (s : zAS) (k : Nat × Nat) (o : Nat × Nat) : zev zk_X9_cross (47, [some (Sum.inr o), a1], st, s, k) = zev zk_X9_cross (48, [some (Sum.inr o), a1], Sum.inr o :: st, s, k) := zev_go rfl rfl
theorem zr_X9_cross_48 (ls : zLs) (st : List zAV) (s : zAS) (k : Nat × Nat) (o i : Nat) : zev zk_X9_cross (48, ls, Sum.inr (o, i) :: st, s, k) = zpush zk_X9_cross 51 ls st s k (zgv zEM 9 9 o i s.1) := zf_get rfl
theorem zr_X9_cross_51 (ls : zLs) (st : List zAV) (s : zAS) (k : Nat × Nat) : zev zk_X9_cross (51, ls, st, s, k) = zev zk_X9_cross (52, ls, Sum.inl (Value.int (0)) :: st, s, k) := zev_go rfl rfl
theorem zr_X9_cross_52 (ls : zLs) (st : List zAV) (s : zAS) (k : Nat × Nat) (o i : Nat) (j : Int32) : zev zk_X9_cross (52, ls, Sum.inl (Value.int j) :: Sum.inr (o, i) :: st, s, k) = zpush zk_X9_cross 53 ls st s k (zald zEM o i j s) := zf_iald rfl
theorem zr_X9_cross_53 (ls : zLs) (st : List zAV) (s : zAS) (k : Nat × Nat) (x y : Int32) : zev zk_X9_cross (53, ls, Sum.inl (Value.int y) :: Sum.inl (Value.int x) :: st, s, k) = zev zk_X9_cross (54, ls, Sum.inl (Value.int (x - y)) :: st, s, k) := zev_go rfl rfl
theorem zr_X9_cross_54 (ls : zLs) (st : List zAV) (s : zAS) (k : Nat × Nat) (x y : Int32) : zev zk_X9_cross (54, ls, Sum.inl (Value.int y) :: Sum.inl (Value.int x) :: st, s, k) = zev zk_X9_cross (55, ls, Sum.inl (Value.int (x * y)) :: st, s, k) := zev_go rfl rfl
theorem zr_X9_cross_55 (ls : zLs) (st : List zAV) (s : zAS) (k : Nat × Nat) (x y : Int32) : zev zk_X9_cross (55, ls, Sum.inl (Value.int y) :: Sum.inl (Value.int x) :: st, s, k) = zev zk_X9_cross (56, ls, Sum.inl (Value.int (x - y)) :: st, s, k) := zev_go rfl rfl
theorem zr_X9_cross_56 (ls : zLs) (st : List zAV) (s : zAS) (k : Nat × Nat) (r v0 : zAV) (h : zcok zEM 9 0 0 (zR_X9_cross).cells (zR_X9_cross).slots r st k) : zev zk_X9_cross (56, ls, v0 :: r :: st, s, k) = zret zk_X9_cross 59 ls st (k.1 + 0, k.2 + 0) (m_X9_mod [r, v0] s) := zf_callV (as := [v0]) 1 rfl rfl h
theorem zr_X9_cross_59 (ls : zLs) (s : zAS) (k : Nat × Nat) (x : Int32) : zev zk_X9_cross (59, ls, [Sum.inl (Value.int x)], s, k) = some (.inl (some (Sum.inl (Value.int x))), s) := zf_reti rfl
/-! X9_figure: PrimePlaneModel.figure()I -/
abbrev zR_X9_figure : Room := ({ frames := 4, cells := 0, slots := 0, locals := 94 } : Room)
noncomputable def zl_X9_figure : List (Nat × zOp) := [(0, z_lda 0 1), (1, z_get zEM 9 7 4), (4, z_ic (3) 5), (5, z_cmp (fun x y => decide (y ≤ x)) 10 8), (8, z_ic (0) 9), (9, z_reti false), (10, z_ic (1) 11), (11, z_sti 1 12), (12, z_ic (2) 13), (13, z_sti 2 14), (14, z_ldi 2 15), (15, z_lda 0 16), (16, z_get zEM 9 7 19), (19, z_cmp (fun x y => decide (y ≤ x)) 46 22), (22, z_ldi 1 23), (23, z_if (fun x => decide (x = 0)) 38 26), (26, z_lda 0 27), (27, z_ldi 2 28), (28, z_callV zEM 9 m_X9_cross 1 0 0 (zR_X9_figure).cells (zR_X9_figure).slots 31), (31, z_if (fun x => decide (¬ x = 0)) 38 34), (34, z_ic (1) 35), (35, z_goto 39), (38, z_ic (0) 39), (39, z_sti 1 40), (40, z_iinc 2 (1) 43), (43, z_goto 14), (46, z_ldi 1 47), (47, z_if (fun x => decide (x = 0)) 52 50), (50, z_ic (1) 51), (51, z_reti false), (52, z_lda 0 53), (53, z_ic (2) 54), (54, z_callV zEM 9 m_X9_cross 1 0 0 (zR_X9_figure).cells (zR_X9_figure).slots 57), (57, z_if (fun x => decide (¬ x = 0)) 62 60), (60, z_ic (3) 61), (61, z_reti false), (62, z_lda 0 63), (63, z_ic (2) 64), (64, z_lda 0 65), (65, z_get zEM 9 8 68), (68, z_ic (1) 69), (69, z_iald zEM 70), (70, z_lda 0 71), (71, z_get zEM 9 8 74), (74, z_ic (0) 75), (75, z_iald zEM 76), (76, z_bin (fun x y => x - y) 77), (77, z_bin (fun x y => x * y) 78), (78, z_ic (2) 79), (79, z_lda 0 80), (80, z_get zEM 9 9 83), (83, z_ic (1) 84), (84, z_iald zEM 85), (85, z_lda 0 86), (86, z_get zEM 9 9 89), (89, z_ic (0) 90), (90, z_iald zEM 91), (91, z_bin (fun x y => x - y) 92), (92, z_bin (fun x y => x * y) 93), (93, z_lda 0 94), (94, z_get zEM 9 8 97), (97, z_ic (0) 98), (98, z_iald zEM 99), (99, z_lda 0 100), (100, z_get zEM 9 8 103), (103, z_ic (0) 104), (104, z_iald zEM 105), (105, z_bin (fun x y => x * y) 106), (106, z_lda 0 107), (107, z_get zEM 9 9 110), (110, z_ic (0) 111), (111, z_iald zEM 112), (112, z_lda 0 113), (113, z_get zEM 9 9 116), (116, z_ic (0) 117), (117, z_iald zEM 118), (118, z_bin (fun x y => x * y) 119), (119, z_bin (fun x y => x + y) 120), (120, z_lda 0 121), (121, z_get zEM 9 8 124), (124, z_ic (1) 125), (125, z_iald zEM 126), (126, z_lda 0 127), (127, z_get zEM 9 8 130), (130, z_ic (1) 131), (131, z_iald zEM 132), (132, z_bin (fun x y => x * y) 133), (133, z_bin (fun x y => x - y) 134), (134, z_lda 0 135), (135, z_get zEM 9 9 138), (138, z_ic (1) 139), (139, z_iald zEM 140), (140, z_lda 0 141), (141, z_get zEM 9 9 144), (144, z_ic (1) 145), (145, z_iald zEM 146), (146, z_bin (fun x y => x * y) 147), (147, z_bin (fun x y => x - y) 148), (148, z_callV zEM 9 m_X9_layLine 3 0 0 (zR_X9_figure).cells (zR_X9_figure).slots 151), (151, z_pop 152), (152, z_lda 0 153), (153, z_get zEM 9 6 156), (156, z_ic (0) 157), (157, z_iald zEM 158), (158, z_sti 2 159), (159, z_lda 0 160), (160, z_get zEM 9 6 163), (163, z_ic (1) 164), (164, z_iald zEM 165), (165, z_sti 3 166), (166, z_lda 0 167), (167, z_get zEM 9 6 170), (170, z_ic (2) 171), (171, z_iald zEM 172), (172, z_sti 4 174), (174, z_lda 0 175), (175, z_ic (2) 176), (176, z_lda 0 177), (177, z_get zEM 9 8 180), (180, z_ic (2) 181), (181, z_iald zEM 182), (182, z_lda 0 183), (183, z_get zEM 9 8 186), (186, z_ic (0) 187), (187, z_iald zEM 188), (188, z_bin (fun x y => x - y) 189), (189, z_bin (fun x y => x * y) 190), (190, z_ic (2) 191), (191, z_lda 0 192), (192, z_get zEM 9 9 195), (195, z_ic (2) 196), (196, z_iald zEM 197), (197, z_lda 0 198), (198, z_get zEM 9 9 201), (201, z_ic (0) 202), (202, z_iald zEM 203), (203, z_bin (fun x y => x - y) 204), (204, z_bin (fun x y => x * y) 205), (205, z_lda 0 206), (206, z_get zEM 9 8 209), (209, z_ic (0) 210), (210, z_iald zEM 211), (211, z_lda 0 212), (212, z_get zEM 9 8 215), (215, z_ic (0) 216), (216, z_iald zEM 217), (217, z_bin (fun x y => x * y) 218), (218, z_lda 0 219), (219, z_get zEM 9 9 222), (222, z_ic (0) 223), (223, z_iald zEM 224), (224, z_lda 0 225), (225, z_get zEM 9 9 228), (228, z_ic (0) 229), (229, z_iald zEM 230), (230, z_bin (fun x y => x * y) 231), (231, z_bin (fun x y => x + y) 232), (232, z_lda 0 233), (233, z_get zEM 9 8 236), (236, z_ic (2) 237), (237, z_iald zEM 238), (238, z_lda 0 239), (239, z_get zEM 9 8 242), (242, z_ic (2) 243), (243, z_iald zEM 244), (244, z_bin (fun x y => x * y) 245), (245, z_bin (fun x y => x - y) 246), (246, z_lda 0 247), (247, z_get zEM 9 9 250), (250, z_ic (2) 251), (251, z_iald zEM 252), (252, z_lda 0 253), (253, z_get zEM 9 9 256), (256, z_ic (2) 257), (257, z_iald zEM 258), (258, z_bin (fun x y => x * y) 259), (259, z_bin (fun x y => x - y) 260), (260, z_callV zEM 9 m_X9_layLine 3 0 0 (zR_X9_figure).cells (zR_X9_figure).slots 263), (263, z_pop 264), (264, z_lda 0 265), (265, z_ldi 2 266), (266, z_ldi 3 267), (267, z_ldi 4 269), (269, z_lda 0 270), (270, z_get zEM 9 6 273), (273, z_ic (0) 274), (274, z_iald zEM 275), (275, z_lda 0 276), (276, z_get zEM 9 6 279), (279, z_ic (1) 280), (280, z_iald zEM 281), (281, z_lda 0 282), (282, z_get zEM 9 6 285), (285, z_ic (2) 286), (286, z_iald zEM 287), (287, z_callV zEM 9 m_X9_intersect 6 0 0 (zR_X9_figure).cells (zR_X9_figure).slots 290), (290, z_pop 291), (291, z_lda 0 292), (292, z_lda 0 293), (293, z_get zEM 9 6 296), (296, z_ic (0) 297), (297, z_iald zEM 298), (298, z_lda 0 299), (299, z_get zEM 9 6 302), (302, z_ic (1) 303), (303, z_iald zEM 304), (304, z_lda 0 305), (305, z_get zEM 9 8 308), (308, z_ic (0) 309), (309, z_iald zEM 310), (310, z_lda 0 311), (311, z_get zEM 9 9 314), (314, z_ic (0) 315), (315, z_iald zEM 316), (316, z_callV zEM 9 m_X9_squareOf 4 0 0 (zR_X9_figure).cells (zR_X9_figure).slots 319), (319, z_sti 5 321), (321, z_ic (1) 322), (322, z_sti 6 324), (324, z_ic (1) 325), (325, z_sti 7 327), (327, z_ldi 7 329), (329, z_lda 0 330), (330, z_get zEM 9 7 333), (333, z_cmp (fun x y => decide (y ≤ x)) 389 336), (336, z_ldi 6 338), (338, z_if (fun x => decide (x = 0)) 380 341), (341, z_lda 0 342), (342, z_lda 0 343), (343, z_get zEM 9 6 346), (346, z_ic (0) 347), (347, z_iald zEM 348), (348, z_lda 0 349), (349, z_get zEM 9 6 352), (352, z_ic (1) 353), (353, z_iald zEM 354), (354, z_lda 0 355), (355, z_get zEM 9 8 358), (358, z_ldi 7 360), (360, z_iald zEM 361), (361, z_lda 0 362), (362, z_get zEM 9 9 365), (365, z_ldi 7 367), (367, z_iald zEM 368), (368, z_callV zEM 9 m_X9_squareOf 4 0 0 (zR_X9_figure).cells (zR_X9_figure).slots 371), (371, z_ldi 5 373), (373, z_cmp (fun x y => decide (¬ x = y)) 380 376), (376, z_ic (1) 377), (377, z_goto 381), (380, z_ic (0) 381), (381, z_sti 6 383), (383, z_iinc 7 (1) 386), (386, z_goto 327), (389, z_ldi 6 391), (391, z_if (fun x => decide (x = 0)) 398 394), (394, z_ic (2) 395), (395, z_goto 399), (398, z_ic (3) 399), (399, z_reti false)]
noncomputable def zk_X9_figure (pc : Nat) : Option zOp := zlook zl_X9_figure pc
noncomputable def m_X9_figure : List zAV → zAS → Option zOut := zmeth zk_X9_figure 8
set_option maxRecDepth 100000 in
set_option maxHeartbeats 4000000 in
theorem zcs_X9_figure {R : Room} (hR : R = zR_X9_figure) : ∀ q ∈ zl_X9_figure, zS zEM yX9_figure.cls cX9_figure 8 wsX9_figure (some .int) R q.1 q.2 := by
  subst hR
  have hin9 : ∀ w ∈ wsX90, w ∈ wsX9_figure := fun w h => List.mem_cons_of_mem _ (List.mem_append_right _ h)
  refine List.forall_mem_cons.mpr ⟨zs_aload_n dX9_figure_0 rfl, ?_⟩
  refine List.forall_mem_cons.mpr ⟨zs_get (ci := 9) (j := 7) (N := 10) (C := RX9) (T := TX9) (index := 180) rfl (by decide) hin9 (List.mem_of_getElem? (i := 1) rfl) dX9_figure_1, ?_⟩
  refine List.forall_mem_cons.mpr ⟨zs_iconst dX9_figure_4 (by decide), ?_⟩
  refine List.forall_mem_cons.mpr ⟨zs_icge dX9_figure_5 (by decide), ?_⟩
  refine List.forall_mem_cons.mpr ⟨zs_iconst dX9_figure_8 (by decide), ?_⟩
  refine List.forall_mem_cons.mpr ⟨zs_reti (ty := .int) rfl (fun x h => (zni x h).1) dX9_figure_9, ?_⟩
  refine List.forall_mem_cons.mpr ⟨zs_iconst dX9_figure_10 (by decide), ?_⟩
  refine List.forall_mem_cons.mpr ⟨zs_istore_n dX9_figure_11 rfl, ?_⟩
  refine List.forall_mem_cons.mpr ⟨zs_iconst dX9_figure_12 (by decide), ?_⟩
  refine List.forall_mem_cons.mpr ⟨zs_istore_n dX9_figure_13 rfl, ?_⟩
  refine List.forall_mem_cons.mpr ⟨zs_iload_n dX9_figure_14 rfl, ?_⟩
  refine List.forall_mem_cons.mpr ⟨zs_aload_n dX9_figure_15 rfl, ?_⟩
  refine List.forall_mem_cons.mpr ⟨zs_get (ci := 9) (j := 7) (N := 10) (C := RX9) (T := TX9) (index := 180) rfl (by decide) hin9 (List.mem_of_getElem? (i := 1) rfl) dX9_figure_16, ?_⟩
  refine List.forall_mem_cons.mpr ⟨zs_icge dX9_figure_19 (by decide), ?_⟩
  refine List.forall_mem_cons.mpr ⟨zs_iload_n dX9_figure_22 rfl, ?_⟩
  refine List.forall_mem_cons.mpr ⟨zs_ifeq dX9_figure_23 (by decide), ?_⟩
  refine List.forall_mem_cons.mpr ⟨zs_aload_n dX9_figure_26 rfl, ?_⟩
  refine List.forall_mem_cons.mpr ⟨zs_iload_n dX9_figure_27 rfl, ?_⟩
  refine List.forall_mem_cons.mpr ⟨zs_callV (ci := 9) (rm := zR_X9_cross) (n := 1) rfl zM_X9_cross gX9_figure_X9_cross rfl (by decide +kernel) ⟨by decide, by decide⟩ dX9_figure_28, ?_⟩
  refine List.forall_mem_cons.mpr ⟨zs_ifne dX9_figure_31 (by decide), ?_⟩
  refine List.forall_mem_cons.mpr ⟨zs_iconst dX9_figure_34 (by decide), ?_⟩
  refine List.forall_mem_cons.mpr ⟨zs_goto dX9_figure_35 (by decide), ?_⟩
  refine List.forall_mem_cons.mpr ⟨zs_iconst dX9_figure_38 (by decide), ?_⟩
  refine List.forall_mem_cons.mpr ⟨zs_istore_n dX9_figure_39 rfl, ?_⟩
  refine List.forall_mem_cons.mpr ⟨zs_iinc dX9_figure_40 (by decide), ?_⟩
  refine List.forall_mem_cons.mpr ⟨zs_goto dX9_figure_43 (by decide), ?_⟩
  refine List.forall_mem_cons.mpr ⟨zs_iload_n dX9_figure_46 rfl, ?_⟩
  refine List.forall_mem_cons.mpr ⟨zs_ifeq dX9_figure_47 (by decide), ?_⟩
  refine List.forall_mem_cons.mpr ⟨zs_iconst dX9_figure_50 (by decide), ?_⟩
  refine List.forall_mem_cons.mpr ⟨zs_reti (ty := .int) rfl (fun x h => (zni x h).1) dX9_figure_51, ?_⟩
  refine List.forall_mem_cons.mpr ⟨zs_aload_n dX9_figure_52 rfl, ?_⟩
  refine List.forall_mem_cons.mpr ⟨zs_iconst dX9_figure_53 (by decide), ?_⟩
  refine List.forall_mem_cons.mpr ⟨zs_callV (ci := 9) (rm := zR_X9_cross) (n := 1) rfl zM_X9_cross gX9_figure_X9_cross rfl (by decide +kernel) ⟨by decide, by decide⟩ dX9_figure_54, ?_⟩
  refine List.forall_mem_cons.mpr ⟨zs_ifne dX9_figure_57 (by decide), ?_⟩
  refine List.forall_mem_cons.mpr ⟨zs_iconst dX9_figure_60 (by decide), ?_⟩
  refine List.forall_mem_cons.mpr ⟨zs_reti (ty := .int) rfl (fun x h => (zni x h).1) dX9_figure_61, ?_⟩
  refine List.forall_mem_cons.mpr ⟨zs_aload_n dX9_figure_62 rfl, ?_⟩
  refine List.forall_mem_cons.mpr ⟨zs_iconst dX9_figure_63 (by decide), ?_⟩
  refine List.forall_mem_cons.mpr ⟨zs_aload_n dX9_figure_64 rfl, ?_⟩
  refine List.forall_mem_cons.mpr ⟨zs_get (ci := 9) (j := 8) (N := 10) (C := RX9) (T := TX9) (index := 23) rfl (by decide) hin9 (List.mem_of_getElem? (i := 2) rfl) dX9_figure_65, ?_⟩
  refine List.forall_mem_cons.mpr ⟨zs_iconst dX9_figure_68 (by decide), ?_⟩
  refine List.forall_mem_cons.mpr ⟨zs_iald dX9_figure_69, ?_⟩
  refine List.forall_mem_cons.mpr ⟨zs_aload_n dX9_figure_70 rfl, ?_⟩
  refine List.forall_mem_cons.mpr ⟨zs_get (ci := 9) (j := 8) (N := 10) (C := RX9) (T := TX9) (index := 23) rfl (by decide) hin9 (List.mem_of_getElem? (i := 2) rfl) dX9_figure_71, ?_⟩
  refine List.forall_mem_cons.mpr ⟨zs_iconst dX9_figure_74 (by decide), ?_⟩
  refine List.forall_mem_cons.mpr ⟨zs_iald dX9_figure_75, ?_⟩
  refine List.forall_mem_cons.mpr ⟨zs_isub dX9_figure_76, ?_⟩
  refine List.forall_mem_cons.mpr ⟨zs_imul dX9_figure_77, ?_⟩
  refine List.forall_mem_cons.mpr ⟨zs_iconst dX9_figure_78 (by decide), ?_⟩
  refine List.forall_mem_cons.mpr ⟨zs_aload_n dX9_figure_79 rfl, ?_⟩
  refine List.forall_mem_cons.mpr ⟨zs_get (ci := 9) (j := 9) (N := 10) (C := RX9) (T := TX9) (index := 26) rfl (by decide) hin9 (List.mem_of_getElem? (i := 3) rfl) dX9_figure_80, ?_⟩
  refine List.forall_mem_cons.mpr ⟨zs_iconst dX9_figure_83 (by decide), ?_⟩
  refine List.forall_mem_cons.mpr ⟨zs_iald dX9_figure_84, ?_⟩
  refine List.forall_mem_cons.mpr ⟨zs_aload_n dX9_figure_85 rfl, ?_⟩
  refine List.forall_mem_cons.mpr ⟨zs_get (ci := 9) (j := 9) (N := 10) (C := RX9) (T := TX9) (index := 26) rfl (by decide) hin9 (List.mem_of_getElem? (i := 3) rfl) dX9_figure_86, ?_⟩
  refine List.forall_mem_cons.mpr ⟨zs_iconst dX9_figure_89 (by decide), ?_⟩
  refine List.forall_mem_cons.mpr ⟨zs_iald dX9_figure_90, ?_⟩
  refine List.forall_mem_cons.mpr ⟨zs_isub dX9_figure_91, ?_⟩
  refine List.forall_mem_cons.mpr ⟨zs_imul dX9_figure_92, ?_⟩
  refine List.forall_mem_cons.mpr ⟨zs_aload_n dX9_figure_93 rfl, ?_⟩
  refine List.forall_mem_cons.mpr ⟨zs_get (ci := 9) (j := 8) (N := 10) (C := RX9) (T := TX9) (index := 23) rfl (by decide) hin9 (List.mem_of_getElem? (i := 2) rfl) dX9_figure_94, ?_⟩
  refine List.forall_mem_cons.mpr ⟨zs_iconst dX9_figure_97 (by decide), ?_⟩
  refine List.forall_mem_cons.mpr ⟨zs_iald dX9_figure_98, ?_⟩
  refine List.forall_mem_cons.mpr ⟨zs_aload_n dX9_figure_99 rfl, ?_⟩
  refine List.forall_mem_cons.mpr ⟨zs_get (ci := 9) (j := 8) (N := 10) (C := RX9) (T := TX9) (index := 23) rfl (by decide) hin9 (List.mem_of_getElem? (i := 2) rfl) dX9_figure_100, ?_⟩
  refine List.forall_mem_cons.mpr ⟨zs_iconst dX9_figure_103 (by decide), ?_⟩
  refine List.forall_mem_cons.mpr ⟨zs_iald dX9_figure_104, ?_⟩
  refine List.forall_mem_cons.mpr ⟨zs_imul dX9_figure_105, ?_⟩
  refine List.forall_mem_cons.mpr ⟨zs_aload_n dX9_figure_106 rfl, ?_⟩
  refine List.forall_mem_cons.mpr ⟨zs_get (ci := 9) (j := 9) (N := 10) (C := RX9) (T := TX9) (index := 26) rfl (by decide) hin9 (List.mem_of_getElem? (i := 3) rfl) dX9_figure_107, ?_⟩
  refine List.forall_mem_cons.mpr ⟨zs_iconst dX9_figure_110 (by decide), ?_⟩
  refine List.forall_mem_cons.mpr ⟨zs_iald dX9_figure_111, ?_⟩
  refine List.forall_mem_cons.mpr ⟨zs_aload_n dX9_figure_112 rfl, ?_⟩
  refine List.forall_mem_cons.mpr ⟨zs_get (ci := 9) (j := 9) (N := 10) (C := RX9) (T := TX9) (index := 26) rfl (by decide) hin9 (List.mem_of_getElem? (i := 3) rfl) dX9_figure_113, ?_⟩
  refine List.forall_mem_cons.mpr ⟨zs_iconst dX9_figure_116 (by decide), ?_⟩
  refine List.forall_mem_cons.mpr ⟨zs_iald dX9_figure_117, ?_⟩
  refine List.forall_mem_cons.mpr ⟨zs_imul dX9_figure_118, ?_⟩
  refine List.forall_mem_cons.mpr ⟨zs_iadd dX9_figure_119, ?_⟩
  refine List.forall_mem_cons.mpr ⟨zs_aload_n dX9_figure_120 rfl, ?_⟩
  refine List.forall_mem_cons.mpr ⟨zs_get (ci := 9) (j := 8) (N := 10) (C := RX9) (T := TX9) (index := 23) rfl (by decide) hin9 (List.mem_of_getElem? (i := 2) rfl) dX9_figure_121, ?_⟩
  refine List.forall_mem_cons.mpr ⟨zs_iconst dX9_figure_124 (by decide), ?_⟩
  refine List.forall_mem_cons.mpr ⟨zs_iald dX9_figure_125, ?_⟩
  refine List.forall_mem_cons.mpr ⟨zs_aload_n dX9_figure_126 rfl, ?_⟩
  refine List.forall_mem_cons.mpr ⟨zs_get (ci := 9) (j := 8) (N := 10) (C := RX9) (T := TX9) (index := 23) rfl (by decide) hin9 (List.mem_of_getElem? (i := 2) rfl) dX9_figure_127, ?_⟩
  refine List.forall_mem_cons.mpr ⟨zs_iconst dX9_figure_130 (by decide), ?_⟩
  refine List.forall_mem_cons.mpr ⟨zs_iald dX9_figure_131, ?_⟩
  refine List.forall_mem_cons.mpr ⟨zs_imul dX9_figure_132, ?_⟩
  refine List.forall_mem_cons.mpr ⟨zs_isub dX9_figure_133, ?_⟩
  refine List.forall_mem_cons.mpr ⟨zs_aload_n dX9_figure_134 rfl, ?_⟩
  refine List.forall_mem_cons.mpr ⟨zs_get (ci := 9) (j := 9) (N := 10) (C := RX9) (T := TX9) (index := 26) rfl (by decide) hin9 (List.mem_of_getElem? (i := 3) rfl) dX9_figure_135, ?_⟩
  refine List.forall_mem_cons.mpr ⟨zs_iconst dX9_figure_138 (by decide), ?_⟩
  refine List.forall_mem_cons.mpr ⟨zs_iald dX9_figure_139, ?_⟩
  refine List.forall_mem_cons.mpr ⟨zs_aload_n dX9_figure_140 rfl, ?_⟩
  refine List.forall_mem_cons.mpr ⟨zs_get (ci := 9) (j := 9) (N := 10) (C := RX9) (T := TX9) (index := 26) rfl (by decide) hin9 (List.mem_of_getElem? (i := 3) rfl) dX9_figure_141, ?_⟩
  refine List.forall_mem_cons.mpr ⟨zs_iconst dX9_figure_144 (by decide), ?_⟩
  refine List.forall_mem_cons.mpr ⟨zs_iald dX9_figure_145, ?_⟩
  refine List.forall_mem_cons.mpr ⟨zs_imul dX9_figure_146, ?_⟩
  refine List.forall_mem_cons.mpr ⟨zs_isub dX9_figure_147, ?_⟩
  refine List.forall_mem_cons.mpr ⟨zs_callV (ci := 9) (rm := zR_X9_layLine) (n := 3) rfl zM_X9_layLine gX9_figure_X9_layLine rfl (by decide +kernel) ⟨by decide, by decide⟩ dX9_figure_148, ?_⟩
  refine List.forall_mem_cons.mpr ⟨zs_pop dX9_figure_151, ?_⟩
  refine List.forall_mem_cons.mpr ⟨zs_aload_n dX9_figure_152 rfl, ?_⟩
  refine List.forall_mem_cons.mpr ⟨zs_get (ci := 9) (j := 6) (N := 10) (C := RX9) (T := TX9) (index := 20) rfl (by decide) hin9 (List.mem_of_getElem? (i := 4) rfl) dX9_figure_153, ?_⟩
  refine List.forall_mem_cons.mpr ⟨zs_iconst dX9_figure_156 (by decide), ?_⟩
  refine List.forall_mem_cons.mpr ⟨zs_iald dX9_figure_157, ?_⟩
  refine List.forall_mem_cons.mpr ⟨zs_istore_n dX9_figure_158 rfl, ?_⟩
  refine List.forall_mem_cons.mpr ⟨zs_aload_n dX9_figure_159 rfl, ?_⟩
  refine List.forall_mem_cons.mpr ⟨zs_get (ci := 9) (j := 6) (N := 10) (C := RX9) (T := TX9) (index := 20) rfl (by decide) hin9 (List.mem_of_getElem? (i := 4) rfl) dX9_figure_160, ?_⟩
  refine List.forall_mem_cons.mpr ⟨zs_iconst dX9_figure_163 (by decide), ?_⟩
  refine List.forall_mem_cons.mpr ⟨zs_iald dX9_figure_164, ?_⟩
  refine List.forall_mem_cons.mpr ⟨zs_istore_n dX9_figure_165 rfl, ?_⟩
  refine List.forall_mem_cons.mpr ⟨zs_aload_n dX9_figure_166 rfl, ?_⟩
  refine List.forall_mem_cons.mpr ⟨zs_get (ci := 9) (j := 6) (N := 10) (C := RX9) (T := TX9) (index := 20) rfl (by decide) hin9 (List.mem_of_getElem? (i := 4) rfl) dX9_figure_167, ?_⟩
  refine List.forall_mem_cons.mpr ⟨zs_iconst dX9_figure_170 (by decide), ?_⟩
  refine List.forall_mem_cons.mpr ⟨zs_iald dX9_figure_171, ?_⟩
  refine List.forall_mem_cons.mpr ⟨zs_istore dX9_figure_172, ?_⟩
  refine List.forall_mem_cons.mpr ⟨zs_aload_n dX9_figure_174 rfl, ?_⟩
  refine List.forall_mem_cons.mpr ⟨zs_iconst dX9_figure_175 (by decide), ?_⟩
  refine List.forall_mem_cons.mpr ⟨zs_aload_n dX9_figure_176 rfl, ?_⟩
  refine List.forall_mem_cons.mpr ⟨zs_get (ci := 9) (j := 8) (N := 10) (C := RX9) (T := TX9) (index := 23) rfl (by decide) hin9 (List.mem_of_getElem? (i := 2) rfl) dX9_figure_177, ?_⟩
  refine List.forall_mem_cons.mpr ⟨zs_iconst dX9_figure_180 (by decide), ?_⟩
  refine List.forall_mem_cons.mpr ⟨zs_iald dX9_figure_181, ?_⟩
  refine List.forall_mem_cons.mpr ⟨zs_aload_n dX9_figure_182 rfl, ?_⟩
  refine List.forall_mem_cons.mpr ⟨zs_get (ci := 9) (j := 8) (N := 10) (C := RX9) (T := TX9) (index := 23) rfl (by decide) hin9 (List.mem_of_getElem? (i := 2) rfl) dX9_figure_183, ?_⟩
  refine List.forall_mem_cons.mpr ⟨zs_iconst dX9_figure_186 (by decide), ?_⟩
  refine List.forall_mem_cons.mpr ⟨zs_iald dX9_figure_187, ?_⟩
  refine List.forall_mem_cons.mpr ⟨zs_isub dX9_figure_188, ?_⟩
  refine List.forall_mem_cons.mpr ⟨zs_imul dX9_figure_189, ?_⟩
  refine List.forall_mem_cons.mpr ⟨zs_iconst dX9_figure_190 (by decide), ?_⟩
  refine List.forall_mem_cons.mpr ⟨zs_aload_n dX9_figure_191 rfl, ?_⟩
  refine List.forall_mem_cons.mpr ⟨zs_get (ci := 9) (j := 9) (N := 10) (C := RX9) (T := TX9) (index := 26) rfl (by decide) hin9 (List.mem_of_getElem? (i := 3) rfl) dX9_figure_192, ?_⟩
  refine List.forall_mem_cons.mpr ⟨zs_iconst dX9_figure_195 (by decide), ?_⟩
  refine List.forall_mem_cons.mpr ⟨zs_iald dX9_figure_196, ?_⟩
  refine List.forall_mem_cons.mpr ⟨zs_aload_n dX9_figure_197 rfl, ?_⟩
  refine List.forall_mem_cons.mpr ⟨zs_get (ci := 9) (j := 9) (N := 10) (C := RX9) (T := TX9) (index := 26) rfl (by decide) hin9 (List.mem_of_getElem? (i := 3) rfl) dX9_figure_198, ?_⟩
  refine List.forall_mem_cons.mpr ⟨zs_iconst dX9_figure_201 (by decide), ?_⟩
  refine List.forall_mem_cons.mpr ⟨zs_iald dX9_figure_202, ?_⟩
  refine List.forall_mem_cons.mpr ⟨zs_isub dX9_figure_203, ?_⟩
  refine List.forall_mem_cons.mpr ⟨zs_imul dX9_figure_204, ?_⟩
  refine List.forall_mem_cons.mpr ⟨zs_aload_n dX9_figure_205 rfl, ?_⟩
  refine List.forall_mem_cons.mpr ⟨zs_get (ci := 9) (j := 8) (N := 10) (C := RX9) (T := TX9) (index := 23) rfl (by decide) hin9 (List.mem_of_getElem? (i := 2) rfl) dX9_figure_206, ?_⟩
  refine List.forall_mem_cons.mpr ⟨zs_iconst dX9_figure_209 (by decide), ?_⟩
  refine List.forall_mem_cons.mpr ⟨zs_iald dX9_figure_210, ?_⟩
  refine List.forall_mem_cons.mpr ⟨zs_aload_n dX9_figure_211 rfl, ?_⟩
  refine List.forall_mem_cons.mpr ⟨zs_get (ci := 9) (j := 8) (N := 10) (C := RX9) (T := TX9) (index := 23) rfl (by decide) hin9 (List.mem_of_getElem? (i := 2) rfl) dX9_figure_212, ?_⟩
  refine List.forall_mem_cons.mpr ⟨zs_iconst dX9_figure_215 (by decide), ?_⟩
  refine List.forall_mem_cons.mpr ⟨zs_iald dX9_figure_216, ?_⟩
  refine List.forall_mem_cons.mpr ⟨zs_imul dX9_figure_217, ?_⟩
  refine List.forall_mem_cons.mpr ⟨zs_aload_n dX9_figure_218 rfl, ?_⟩
  refine List.forall_mem_cons.mpr ⟨zs_get (ci := 9) (j := 9) (N := 10) (C := RX9) (T := TX9) (index := 26) rfl (by decide) hin9 (List.mem_of_getElem? (i := 3) rfl) dX9_figure_219, ?_⟩
  refine List.forall_mem_cons.mpr ⟨zs_iconst dX9_figure_222 (by decide), ?_⟩
  refine List.forall_mem_cons.mpr ⟨zs_iald dX9_figure_223, ?_⟩
  refine List.forall_mem_cons.mpr ⟨zs_aload_n dX9_figure_224 rfl, ?_⟩
  refine List.forall_mem_cons.mpr ⟨zs_get (ci := 9) (j := 9) (N := 10) (C := RX9) (T := TX9) (index := 26) rfl (by decide) hin9 (List.mem_of_getElem? (i := 3) rfl) dX9_figure_225, ?_⟩
  refine List.forall_mem_cons.mpr ⟨zs_iconst dX9_figure_228 (by decide), ?_⟩
  refine List.forall_mem_cons.mpr ⟨zs_iald dX9_figure_229, ?_⟩
  refine List.forall_mem_cons.mpr ⟨zs_imul dX9_figure_230, ?_⟩
  refine List.forall_mem_cons.mpr ⟨zs_iadd dX9_figure_231, ?_⟩
  refine List.forall_mem_cons.mpr ⟨zs_aload_n dX9_figure_232 rfl, ?_⟩
  refine List.forall_mem_cons.mpr ⟨zs_get (ci := 9) (j := 8) (N := 10) (C := RX9) (T := TX9) (index := 23) rfl (by decide) hin9 (List.mem_of_getElem? (i := 2) rfl) dX9_figure_233, ?_⟩
  refine List.forall_mem_cons.mpr ⟨zs_iconst dX9_figure_236 (by decide), ?_⟩
  refine List.forall_mem_cons.mpr ⟨zs_iald dX9_figure_237, ?_⟩
  refine List.forall_mem_cons.mpr ⟨zs_aload_n dX9_figure_238 rfl, ?_⟩
  refine List.forall_mem_cons.mpr ⟨zs_get (ci := 9) (j := 8) (N := 10) (C := RX9) (T := TX9) (index := 23) rfl (by decide) hin9 (List.mem_of_getElem? (i := 2) rfl) dX9_figure_239, ?_⟩
  refine List.forall_mem_cons.mpr ⟨zs_iconst dX9_figure_242 (by decide), ?_⟩
  refine List.forall_mem_cons.mpr ⟨zs_iald dX9_figure_243, ?_⟩
  refine List.forall_mem_cons.mpr ⟨zs_imul dX9_figure_244, ?_⟩
  refine List.forall_mem_cons.mpr ⟨zs_isub dX9_figure_245, ?_⟩
  refine List.forall_mem_cons.mpr ⟨zs_aload_n dX9_figure_246 rfl, ?_⟩
  refine List.forall_mem_cons.mpr ⟨zs_get (ci := 9) (j := 9) (N := 10) (C := RX9) (T := TX9) (index := 26) rfl (by decide) hin9 (List.mem_of_getElem? (i := 3) rfl) dX9_figure_247, ?_⟩
  refine List.forall_mem_cons.mpr ⟨zs_iconst dX9_figure_250 (by decide), ?_⟩
  refine List.forall_mem_cons.mpr ⟨zs_iald dX9_figure_251, ?_⟩
  refine List.forall_mem_cons.mpr ⟨zs_aload_n dX9_figure_252 rfl, ?_⟩
  refine List.forall_mem_cons.mpr ⟨zs_get (ci := 9) (j := 9) (N := 10) (C := RX9) (T := TX9) (index := 26) rfl (by decide) hin9 (List.mem_of_getElem? (i := 3) rfl) dX9_figure_253, ?_⟩
  refine List.forall_mem_cons.mpr ⟨zs_iconst dX9_figure_256 (by decide), ?_⟩
  refine List.forall_mem_cons.mpr ⟨zs_iald dX9_figure_257, ?_⟩
  refine List.forall_mem_cons.mpr ⟨zs_imul dX9_figure_258, ?_⟩
  refine List.forall_mem_cons.mpr ⟨zs_isub dX9_figure_259, ?_⟩
  refine List.forall_mem_cons.mpr ⟨zs_callV (ci := 9) (rm := zR_X9_layLine) (n := 3) rfl zM_X9_layLine gX9_figure_X9_layLine rfl (by decide +kernel) ⟨by decide, by decide⟩ dX9_figure_260, ?_⟩
  refine List.forall_mem_cons.mpr ⟨zs_pop dX9_figure_263, ?_⟩
  refine List.forall_mem_cons.mpr ⟨zs_aload_n dX9_figure_264 rfl, ?_⟩
  refine List.forall_mem_cons.mpr ⟨zs_iload_n dX9_figure_265 rfl, ?_⟩
  refine List.forall_mem_cons.mpr ⟨zs_iload_n dX9_figure_266 rfl, ?_⟩
  refine List.forall_mem_cons.mpr ⟨zs_iload dX9_figure_267, ?_⟩
  refine List.forall_mem_cons.mpr ⟨zs_aload_n dX9_figure_269 rfl, ?_⟩
  refine List.forall_mem_cons.mpr ⟨zs_get (ci := 9) (j := 6) (N := 10) (C := RX9) (T := TX9) (index := 20) rfl (by decide) hin9 (List.mem_of_getElem? (i := 4) rfl) dX9_figure_270, ?_⟩
  refine List.forall_mem_cons.mpr ⟨zs_iconst dX9_figure_273 (by decide), ?_⟩
  refine List.forall_mem_cons.mpr ⟨zs_iald dX9_figure_274, ?_⟩
  refine List.forall_mem_cons.mpr ⟨zs_aload_n dX9_figure_275 rfl, ?_⟩
  refine List.forall_mem_cons.mpr ⟨zs_get (ci := 9) (j := 6) (N := 10) (C := RX9) (T := TX9) (index := 20) rfl (by decide) hin9 (List.mem_of_getElem? (i := 4) rfl) dX9_figure_276, ?_⟩
  refine List.forall_mem_cons.mpr ⟨zs_iconst dX9_figure_279 (by decide), ?_⟩
  refine List.forall_mem_cons.mpr ⟨zs_iald dX9_figure_280, ?_⟩
  refine List.forall_mem_cons.mpr ⟨zs_aload_n dX9_figure_281 rfl, ?_⟩
  refine List.forall_mem_cons.mpr ⟨zs_get (ci := 9) (j := 6) (N := 10) (C := RX9) (T := TX9) (index := 20) rfl (by decide) hin9 (List.mem_of_getElem? (i := 4) rfl) dX9_figure_282, ?_⟩
  refine List.forall_mem_cons.mpr ⟨zs_iconst dX9_figure_285 (by decide), ?_⟩
  refine List.forall_mem_cons.mpr ⟨zs_iald dX9_figure_286, ?_⟩
  refine List.forall_mem_cons.mpr ⟨zs_callV (ci := 9) (rm := zR_X9_intersect) (n := 6) rfl zM_X9_intersect gX9_figure_X9_intersect rfl (by decide +kernel) ⟨by decide, by decide⟩ dX9_figure_287, ?_⟩
  refine List.forall_mem_cons.mpr ⟨zs_pop dX9_figure_290, ?_⟩
  refine List.forall_mem_cons.mpr ⟨zs_aload_n dX9_figure_291 rfl, ?_⟩
  refine List.forall_mem_cons.mpr ⟨zs_aload_n dX9_figure_292 rfl, ?_⟩
  refine List.forall_mem_cons.mpr ⟨zs_get (ci := 9) (j := 6) (N := 10) (C := RX9) (T := TX9) (index := 20) rfl (by decide) hin9 (List.mem_of_getElem? (i := 4) rfl) dX9_figure_293, ?_⟩
  refine List.forall_mem_cons.mpr ⟨zs_iconst dX9_figure_296 (by decide), ?_⟩
  refine List.forall_mem_cons.mpr ⟨zs_iald dX9_figure_297, ?_⟩
  refine List.forall_mem_cons.mpr ⟨zs_aload_n dX9_figure_298 rfl, ?_⟩
  refine List.forall_mem_cons.mpr ⟨zs_get (ci := 9) (j := 6) (N := 10) (C := RX9) (T := TX9) (index := 20) rfl (by decide) hin9 (List.mem_of_getElem? (i := 4) rfl) dX9_figure_299, ?_⟩
  refine List.forall_mem_cons.mpr ⟨zs_iconst dX9_figure_302 (by decide), ?_⟩
  refine List.forall_mem_cons.mpr ⟨zs_iald dX9_figure_303, ?_⟩
  refine List.forall_mem_cons.mpr ⟨zs_aload_n dX9_figure_304 rfl, ?_⟩
  refine List.forall_mem_cons.mpr ⟨zs_get (ci := 9) (j := 8) (N := 10) (C := RX9) (T := TX9) (index := 23) rfl (by decide) hin9 (List.mem_of_getElem? (i := 2) rfl) dX9_figure_305, ?_⟩
  refine List.forall_mem_cons.mpr ⟨zs_iconst dX9_figure_308 (by decide), ?_⟩
  refine List.forall_mem_cons.mpr ⟨zs_iald dX9_figure_309, ?_⟩
  refine List.forall_mem_cons.mpr ⟨zs_aload_n dX9_figure_310 rfl, ?_⟩
  refine List.forall_mem_cons.mpr ⟨zs_get (ci := 9) (j := 9) (N := 10) (C := RX9) (T := TX9) (index := 26) rfl (by decide) hin9 (List.mem_of_getElem? (i := 3) rfl) dX9_figure_311, ?_⟩
  refine List.forall_mem_cons.mpr ⟨zs_iconst dX9_figure_314 (by decide), ?_⟩
  refine List.forall_mem_cons.mpr ⟨zs_iald dX9_figure_315, ?_⟩
  refine List.forall_mem_cons.mpr ⟨zs_callV (ci := 9) (rm := zR_X9_squareOf) (n := 4) rfl zM_X9_squareOf gX9_figure_X9_squareOf rfl (by decide +kernel) ⟨by decide, by decide⟩ dX9_figure_316, ?_⟩
  refine List.forall_mem_cons.mpr ⟨zs_istore dX9_figure_319, ?_⟩
  refine List.forall_mem_cons.mpr ⟨zs_iconst dX9_figure_321 (by decide), ?_⟩
  refine List.forall_mem_cons.mpr ⟨zs_istore dX9_figure_322, ?_⟩
  refine List.forall_mem_cons.mpr ⟨zs_iconst dX9_figure_324 (by decide), ?_⟩
  refine List.forall_mem_cons.mpr ⟨zs_istore dX9_figure_325, ?_⟩
  refine List.forall_mem_cons.mpr ⟨zs_iload dX9_figure_327, ?_⟩
  refine List.forall_mem_cons.mpr ⟨zs_aload_n dX9_figure_329 rfl, ?_⟩
  refine List.forall_mem_cons.mpr ⟨zs_get (ci := 9) (j := 7) (N := 10) (C := RX9) (T := TX9) (index := 180) rfl (by decide) hin9 (List.mem_of_getElem? (i := 1) rfl) dX9_figure_330, ?_⟩
  refine List.forall_mem_cons.mpr ⟨zs_icge dX9_figure_333 (by decide), ?_⟩
  refine List.forall_mem_cons.mpr ⟨zs_iload dX9_figure_336, ?_⟩
  refine List.forall_mem_cons.mpr ⟨zs_ifeq dX9_figure_338 (by decide), ?_⟩
  refine List.forall_mem_cons.mpr ⟨zs_aload_n dX9_figure_341 rfl, ?_⟩
  refine List.forall_mem_cons.mpr ⟨zs_aload_n dX9_figure_342 rfl, ?_⟩
  refine List.forall_mem_cons.mpr ⟨zs_get (ci := 9) (j := 6) (N := 10) (C := RX9) (T := TX9) (index := 20) rfl (by decide) hin9 (List.mem_of_getElem? (i := 4) rfl) dX9_figure_343, ?_⟩
  refine List.forall_mem_cons.mpr ⟨zs_iconst dX9_figure_346 (by decide), ?_⟩
  refine List.forall_mem_cons.mpr ⟨zs_iald dX9_figure_347, ?_⟩
  refine List.forall_mem_cons.mpr ⟨zs_aload_n dX9_figure_348 rfl, ?_⟩
  refine List.forall_mem_cons.mpr ⟨zs_get (ci := 9) (j := 6) (N := 10) (C := RX9) (T := TX9) (index := 20) rfl (by decide) hin9 (List.mem_of_getElem? (i := 4) rfl) dX9_figure_349, ?_⟩
  refine List.forall_mem_cons.mpr ⟨zs_iconst dX9_figure_352 (by decide), ?_⟩
  refine List.forall_mem_cons.mpr ⟨zs_iald dX9_figure_353, ?_⟩
  refine List.forall_mem_cons.mpr ⟨zs_aload_n dX9_figure_354 rfl, ?_⟩
  refine List.forall_mem_cons.mpr ⟨zs_get (ci := 9) (j := 8) (N := 10) (C := RX9) (T := TX9) (index := 23) rfl (by decide) hin9 (List.mem_of_getElem? (i := 2) rfl) dX9_figure_355, ?_⟩
  refine List.forall_mem_cons.mpr ⟨zs_iload dX9_figure_358, ?_⟩
  refine List.forall_mem_cons.mpr ⟨zs_iald dX9_figure_360, ?_⟩
  refine List.forall_mem_cons.mpr ⟨zs_aload_n dX9_figure_361 rfl, ?_⟩
  refine List.forall_mem_cons.mpr ⟨zs_get (ci := 9) (j := 9) (N := 10) (C := RX9) (T := TX9) (index := 26) rfl (by decide) hin9 (List.mem_of_getElem? (i := 3) rfl) dX9_figure_362, ?_⟩
  refine List.forall_mem_cons.mpr ⟨zs_iload dX9_figure_365, ?_⟩
  refine List.forall_mem_cons.mpr ⟨zs_iald dX9_figure_367, ?_⟩
  refine List.forall_mem_cons.mpr ⟨zs_callV (ci := 9) (rm := zR_X9_squareOf) (n := 4) rfl zM_X9_squareOf gX9_figure_X9_squareOf rfl (by decide +kernel) ⟨by decide, by decide⟩ dX9_figure_368, ?_⟩
  refine List.forall_mem_cons.mpr ⟨zs_iload dX9_figure_371, ?_⟩
  refine List.forall_mem_cons.mpr ⟨zs_icne dX9_figure_373 (by decide), ?_⟩
  refine List.forall_mem_cons.mpr ⟨zs_iconst dX9_figure_376 (by decide), ?_⟩
  refine List.forall_mem_cons.mpr ⟨zs_goto dX9_figure_377 (by decide), ?_⟩
  refine List.forall_mem_cons.mpr ⟨zs_iconst dX9_figure_380 (by decide), ?_⟩
  refine List.forall_mem_cons.mpr ⟨zs_istore dX9_figure_381, ?_⟩
  refine List.forall_mem_cons.mpr ⟨zs_iinc dX9_figure_383 (by decide), ?_⟩
  refine List.forall_mem_cons.mpr ⟨zs_goto dX9_figure_386 (by decide), ?_⟩
  refine List.forall_mem_cons.mpr ⟨zs_iload dX9_figure_389, ?_⟩
  refine List.forall_mem_cons.mpr ⟨zs_ifeq dX9_figure_391 (by decide), ?_⟩
  refine List.forall_mem_cons.mpr ⟨zs_iconst dX9_figure_394 (by decide), ?_⟩
  refine List.forall_mem_cons.mpr ⟨zs_goto dX9_figure_395 (by decide), ?_⟩
  refine List.forall_mem_cons.mpr ⟨zs_iconst dX9_figure_398 (by decide), ?_⟩
  refine List.forall_mem_cons.mpr ⟨zs_reti (ty := .int) rfl (fun x h => (zni x h).1) dX9_figure_399, ?_⟩
  exact fun _ h => absurd h List.not_mem_nil
theorem zM_X9_figure : zMeets zEM yX9_figure wsX9_figure zR_X9_figure m_X9_figure := zmeth_M zEMok (zlook_all (zcs_X9_figure rfl)) (by decide +kernel) rfl
set_option maxRecDepth 8000 in
theorem zr_X9_figure_0 (a1 a2 a3 a4 a5 a6 a7 : Option zAV) (st : List zAV) (s : zAS) (k : Nat × Nat) (o : Nat × Nat) : zev zk_X9_figure (0, [some (Sum.inr o), a1, a2, a3, a4, a5, a6, a7], st, s, k) = zev zk_X9_figure (1, [some (Sum.inr o), a1, a2, a3, a4, a5, a6, a7], Sum.inr o :: st, s, k) := zev_go rfl rfl
set_option maxRecDepth 8000 in
theorem zr_X9_figure_1 (ls : zLs) (st : List zAV) (s : zAS) (k : Nat × Nat) (o i : Nat) : zev zk_X9_figure (1, ls, Sum.inr (o, i) :: st, s, k) = zpush zk_X9_figure 4 ls st s k (zgv zEM 9 7 o i s.1) := zf_get rfl
set_option maxRecDepth 8000 in
theorem zr_X9_figure_4 (ls : zLs) (st : List zAV) (s : zAS) (k : Nat × Nat) : zev zk_X9_figure (4, ls, st, s, k) = zev zk_X9_figure (5, ls, Sum.inl (Value.int (3)) :: st, s, k) := zev_go rfl rfl
set_option maxRecDepth 8000 in
theorem zr_X9_figure_5 (ls : zLs) (st : List zAV) (s : zAS) (k : Nat × Nat) (x y : Int32) : zev zk_X9_figure (5, ls, Sum.inl (Value.int y) :: Sum.inl (Value.int x) :: st, s, k) = if decide (y ≤ x) = true then zev zk_X9_figure (10, ls, st, s, k) else zev zk_X9_figure (8, ls, st, s, k) := zf_cmp (f := fun x y => decide (y ≤ x)) rfl
set_option maxRecDepth 8000 in
theorem zr_X9_figure_8 (ls : zLs) (st : List zAV) (s : zAS) (k : Nat × Nat) : zev zk_X9_figure (8, ls, st, s, k) = zev zk_X9_figure (9, ls, Sum.inl (Value.int (0)) :: st, s, k) := zev_go rfl rfl
set_option maxRecDepth 8000 in
theorem zr_X9_figure_9 (ls : zLs) (s : zAS) (k : Nat × Nat) (x : Int32) : zev zk_X9_figure (9, ls, [Sum.inl (Value.int x)], s, k) = some (.inl (some (Sum.inl (Value.int x))), s) := zf_reti rfl
set_option maxRecDepth 8000 in
theorem zr_X9_figure_10 (ls : zLs) (st : List zAV) (s : zAS) (k : Nat × Nat) : zev zk_X9_figure (10, ls, st, s, k) = zev zk_X9_figure (11, ls, Sum.inl (Value.int (1)) :: st, s, k) := zev_go rfl rfl
set_option maxRecDepth 8000 in
theorem zr_X9_figure_11 (a0 a1 a2 a3 a4 a5 a6 a7 : Option zAV) (st : List zAV) (s : zAS) (k : Nat × Nat) (x : Int32) : zev zk_X9_figure (11, [a0, a1, a2, a3, a4, a5, a6, a7], Sum.inl (Value.int x) :: st, s, k) = zev zk_X9_figure (12, [zk1 a0, some (Sum.inl (Value.int x)), a2, a3, a4, a5, a6, a7], st, s, k) := zev_go rfl rfl
set_option maxRecDepth 8000 in
theorem zr_X9_figure_12 (ls : zLs) (st : List zAV) (s : zAS) (k : Nat × Nat) : zev zk_X9_figure (12, ls, st, s, k) = zev zk_X9_figure (13, ls, Sum.inl (Value.int (2)) :: st, s, k) := zev_go rfl rfl
set_option maxRecDepth 8000 in
theorem zr_X9_figure_13 (a0 a1 a2 a3 a4 a5 a6 a7 : Option zAV) (st : List zAV) (s : zAS) (k : Nat × Nat) (x : Int32) : zev zk_X9_figure (13, [a0, a1, a2, a3, a4, a5, a6, a7], Sum.inl (Value.int x) :: st, s, k) = zev zk_X9_figure (14, [a0, zk1 a1, some (Sum.inl (Value.int x)), a3, a4, a5, a6, a7], st, s, k) := zev_go rfl rfl
set_option maxRecDepth 8000 in
theorem zr_X9_figure_14 (a0 a1 a3 a4 a5 a6 a7 : Option zAV) (st : List zAV) (s : zAS) (k : Nat × Nat) (x : Int32) : zev zk_X9_figure (14, [a0, a1, some (Sum.inl (Value.int x)), a3, a4, a5, a6, a7], st, s, k) = zev zk_X9_figure (15, [a0, a1, some (Sum.inl (Value.int x)), a3, a4, a5, a6, a7], Sum.inl (Value.int x) :: st, s, k) := zev_go rfl rfl
set_option maxRecDepth 8000 in
theorem zr_X9_figure_15 (a1 a2 a3 a4 a5 a6 a7 : Option zAV) (st : List zAV) (s : zAS) (k : Nat × Nat) (o : Nat × Nat) : zev zk_X9_figure (15, [some (Sum.inr o), a1, a2, a3, a4, a5, a6, a7], st, s, k) = zev zk_X9_figure (16, [some (Sum.inr o), a1, a2, a3, a4, a5, a6, a7], Sum.inr o :: st, s, k) := zev_go rfl rfl
set_option maxRecDepth 8000 in
theorem zr_X9_figure_16 (ls : zLs) (st : List zAV) (s : zAS) (k : Nat × Nat) (o i : Nat) : zev zk_X9_figure (16, ls, Sum.inr (o, i) :: st, s, k) = zpush zk_X9_figure 19 ls st s k (zgv zEM 9 7 o i s.1) := zf_get rfl
set_option maxRecDepth 8000 in
theorem zr_X9_figure_19 (ls : zLs) (st : List zAV) (s : zAS) (k : Nat × Nat) (x y : Int32) : zev zk_X9_figure (19, ls, Sum.inl (Value.int y) :: Sum.inl (Value.int x) :: st, s, k) = if decide (y ≤ x) = true then zev zk_X9_figure (46, ls, st, s, k) else zev zk_X9_figure (22, ls, st, s, k) := zf_cmp (f := fun x y => decide (y ≤ x)) rfl
set_option maxRecDepth 8000 in
theorem zr_X9_figure_22 (a0 a2 a3 a4 a5 a6 a7 : Option zAV) (st : List zAV) (s : zAS) (k : Nat × Nat) (x : Int32) : zev zk_X9_figure (22, [a0, some (Sum.inl (Value.int x)), a2, a3, a4, a5, a6, a7], st, s, k) = zev zk_X9_figure (23, [a0, some (Sum.inl (Value.int x)), a2, a3, a4, a5, a6, a7], Sum.inl (Value.int x) :: st, s, k) := zev_go rfl rfl
set_option maxRecDepth 8000 in
theorem zr_X9_figure_23 (ls : zLs) (st : List zAV) (s : zAS) (k : Nat × Nat) (x : Int32) : zev zk_X9_figure (23, ls, Sum.inl (Value.int x) :: st, s, k) = if decide (x = 0) = true then zev zk_X9_figure (38, ls, st, s, k) else zev zk_X9_figure (26, ls, st, s, k) := zf_if (f := fun x => decide (x = 0)) rfl
set_option maxRecDepth 8000 in
theorem zr_X9_figure_26 (a1 a2 a3 a4 a5 a6 a7 : Option zAV) (st : List zAV) (s : zAS) (k : Nat × Nat) (o : Nat × Nat) : zev zk_X9_figure (26, [some (Sum.inr o), a1, a2, a3, a4, a5, a6, a7], st, s, k) = zev zk_X9_figure (27, [some (Sum.inr o), a1, a2, a3, a4, a5, a6, a7], Sum.inr o :: st, s, k) := zev_go rfl rfl
set_option maxRecDepth 8000 in
theorem zr_X9_figure_27 (a0 a1 a3 a4 a5 a6 a7 : Option zAV) (st : List zAV) (s : zAS) (k : Nat × Nat) (x : Int32) : zev zk_X9_figure (27, [a0, a1, some (Sum.inl (Value.int x)), a3, a4, a5, a6, a7], st, s, k) = zev zk_X9_figure (28, [a0, a1, some (Sum.inl (Value.int x)), a3, a4, a5, a6, a7], Sum.inl (Value.int x) :: st, s, k) := zev_go rfl rfl
set_option maxRecDepth 8000 in
theorem zr_X9_figure_28 (ls : zLs) (st : List zAV) (s : zAS) (k : Nat × Nat) (r v0 : zAV) (h : zcok zEM 9 0 0 (zR_X9_figure).cells (zR_X9_figure).slots r st k) : zev zk_X9_figure (28, ls, v0 :: r :: st, s, k) = zret zk_X9_figure 31 ls st (k.1 + 0, k.2 + 0) (m_X9_cross [r, v0] s) := zf_callV (as := [v0]) 1 rfl rfl h
set_option maxRecDepth 8000 in
theorem zr_X9_figure_31 (ls : zLs) (st : List zAV) (s : zAS) (k : Nat × Nat) (x : Int32) : zev zk_X9_figure (31, ls, Sum.inl (Value.int x) :: st, s, k) = if decide (¬ x = 0) = true then zev zk_X9_figure (38, ls, st, s, k) else zev zk_X9_figure (34, ls, st, s, k) := zf_if (f := fun x => decide (¬ x = 0)) rfl
set_option maxRecDepth 8000 in
theorem zr_X9_figure_34 (ls : zLs) (st : List zAV) (s : zAS) (k : Nat × Nat) : zev zk_X9_figure (34, ls, st, s, k) = zev zk_X9_figure (35, ls, Sum.inl (Value.int (1)) :: st, s, k) := zev_go rfl rfl
set_option maxRecDepth 8000 in
theorem zr_X9_figure_35 (ls : zLs) (st : List zAV) (s : zAS) (k : Nat × Nat) : zev zk_X9_figure (35, ls, st, s, k) = zev zk_X9_figure (39, ls, st, s, k) := zev_go rfl rfl
set_option maxRecDepth 8000 in
theorem zr_X9_figure_38 (ls : zLs) (st : List zAV) (s : zAS) (k : Nat × Nat) : zev zk_X9_figure (38, ls, st, s, k) = zev zk_X9_figure (39, ls, Sum.inl (Value.int (0)) :: st, s, k) := zev_go rfl rfl
set_option maxRecDepth 8000 in
theorem zr_X9_figure_39 (a0 a1 a2 a3 a4 a5 a6 a7 : Option zAV) (st : List zAV) (s : zAS) (k : Nat × Nat) (x : Int32) : zev zk_X9_figure (39, [a0, a1, a2, a3, a4, a5, a6, a7], Sum.inl (Value.int x) :: st, s, k) = zev zk_X9_figure (40, [zk1 a0, some (Sum.inl (Value.int x)), a2, a3, a4, a5, a6, a7], st, s, k) := zev_go rfl rfl
set_option maxRecDepth 8000 in
theorem zr_X9_figure_40 (a0 a1 a3 a4 a5 a6 a7 : Option zAV) (st : List zAV) (s : zAS) (k : Nat × Nat) (x : Int32) : zev zk_X9_figure (40, [a0, a1, some (Sum.inl (Value.int x)), a3, a4, a5, a6, a7], st, s, k) = zev zk_X9_figure (43, [a0, zk1 a1, some (Sum.inl (Value.int (x + (1)))), a3, a4, a5, a6, a7], st, s, k) := zev_go rfl rfl
set_option maxRecDepth 8000 in
theorem zr_X9_figure_43 (ls : zLs) (st : List zAV) (s : zAS) (k : Nat × Nat) : zev zk_X9_figure (43, ls, st, s, k) = zev zk_X9_figure (14, ls, st, s, k) := zev_go rfl rfl
set_option maxRecDepth 8000 in
theorem zr_X9_figure_46 (a0 a2 a3 a4 a5 a6 a7 : Option zAV) (st : List zAV) (s : zAS) (k : Nat × Nat) (x : Int32) : zev zk_X9_figure (46, [a0, some (Sum.inl (Value.int x)), a2, a3, a4, a5, a6, a7], st, s, k) = zev zk_X9_figure (47, [a0, some (Sum.inl (Value.int x)), a2, a3, a4, a5, a6, a7], Sum.inl (Value.int x) :: st, s, k) := zev_go rfl rfl
set_option maxRecDepth 8000 in
theorem zr_X9_figure_47 (ls : zLs) (st : List zAV) (s : zAS) (k : Nat × Nat) (x : Int32) : zev zk_X9_figure (47, ls, Sum.inl (Value.int x) :: st, s, k) = if decide (x = 0) = true then zev zk_X9_figure (52, ls, st, s, k) else zev zk_X9_figure (50, ls, st, s, k) := zf_if (f := fun x => decide (x = 0)) rfl
set_option maxRecDepth 8000 in
theorem zr_X9_figure_50 (ls : zLs) (st : List zAV) (s : zAS) (k : Nat × Nat) : zev zk_X9_figure (50, ls, st, s, k) = zev zk_X9_figure (51, ls, Sum.inl (Value.int (1)) :: st, s, k) := zev_go rfl rfl
set_option maxRecDepth 8000 in
theorem zr_X9_figure_51 (ls : zLs) (s : zAS) (k : Nat × Nat) (x : Int32) : zev zk_X9_figure (51, ls, [Sum.inl (Value.int x)], s, k) = some (.inl (some (Sum.inl (Value.int x))), s) := zf_reti rfl
set_option maxRecDepth 8000 in
theorem zr_X9_figure_52 (a1 a2 a3 a4 a5 a6 a7 : Option zAV) (st : List zAV) (s : zAS) (k : Nat × Nat) (o : Nat × Nat) : zev zk_X9_figure (52, [some (Sum.inr o), a1, a2, a3, a4, a5, a6, a7], st, s, k) = zev zk_X9_figure (53, [some (Sum.inr o), a1, a2, a3, a4, a5, a6, a7], Sum.inr o :: st, s, k) := zev_go rfl rfl
set_option maxRecDepth 8000 in
theorem zr_X9_figure_53 (ls : zLs) (st : List zAV) (s : zAS) (k : Nat × Nat) : zev zk_X9_figure (53, ls, st, s, k) = zev zk_X9_figure (54, ls, Sum.inl (Value.int (2)) :: st, s, k) := zev_go rfl rfl
set_option maxRecDepth 8000 in
theorem zr_X9_figure_54 (ls : zLs) (st : List zAV) (s : zAS) (k : Nat × Nat) (r v0 : zAV) (h : zcok zEM 9 0 0 (zR_X9_figure).cells (zR_X9_figure).slots r st k) : zev zk_X9_figure (54, ls, v0 :: r :: st, s, k) = zret zk_X9_figure 57 ls st (k.1 + 0, k.2 + 0) (m_X9_cross [r, v0] s) := zf_callV (as := [v0]) 1 rfl rfl h
set_option maxRecDepth 8000 in
theorem zr_X9_figure_57 (ls : zLs) (st : List zAV) (s : zAS) (k : Nat × Nat) (x : Int32) : zev zk_X9_figure (57, ls, Sum.inl (Value.int x) :: st, s, k) = if decide (¬ x = 0) = true then zev zk_X9_figure (62, ls, st, s, k) else zev zk_X9_figure (60, ls, st, s, k) := zf_if (f := fun x => decide (¬ x = 0)) rfl
set_option maxRecDepth 8000 in
theorem zr_X9_figure_60 (ls : zLs) (st : List zAV) (s : zAS) (k : Nat × Nat) : zev zk_X9_figure (60, ls, st, s, k) = zev zk_X9_figure (61, ls, Sum.inl (Value.int (3)) :: st, s, k) := zev_go rfl rfl
set_option maxRecDepth 8000 in
theorem zr_X9_figure_61 (ls : zLs) (s : zAS) (k : Nat × Nat) (x : Int32) : zev zk_X9_figure (61, ls, [Sum.inl (Value.int x)], s, k) = some (.inl (some (Sum.inl (Value.int x))), s) := zf_reti rfl
set_option maxRecDepth 8000 in
theorem zr_X9_figure_62 (a1 a2 a3 a4 a5 a6 a7 : Option zAV) (st : List zAV) (s : zAS) (k : Nat × Nat) (o : Nat × Nat) : zev zk_X9_figure (62, [some (Sum.inr o), a1, a2, a3, a4, a5, a6, a7], st, s, k) = zev zk_X9_figure (63, [some (Sum.inr o), a1, a2, a3, a4, a5, a6, a7], Sum.inr o :: st, s, k) := zev_go rfl rfl
set_option maxRecDepth 8000 in
theorem zr_X9_figure_63 (ls : zLs) (st : List zAV) (s : zAS) (k : Nat × Nat) : zev zk_X9_figure (63, ls, st, s, k) = zev zk_X9_figure (64, ls, Sum.inl (Value.int (2)) :: st, s, k) := zev_go rfl rfl
set_option maxRecDepth 8000 in
theorem zr_X9_figure_64 (a1 a2 a3 a4 a5 a6 a7 : Option zAV) (st : List zAV) (s : zAS) (k : Nat × Nat) (o : Nat × Nat) : zev zk_X9_figure (64, [some (Sum.inr o), a1, a2, a3, a4, a5, a6, a7], st, s, k) = zev zk_X9_figure (65, [some (Sum.inr o), a1, a2, a3, a4, a5, a6, a7], Sum.inr o :: st, s, k) := zev_go rfl rfl
set_option maxRecDepth 8000 in
theorem zr_X9_figure_65 (ls : zLs) (st : List zAV) (s : zAS) (k : Nat × Nat) (o i : Nat) : zev zk_X9_figure (65, ls, Sum.inr (o, i) :: st, s, k) = zpush zk_X9_figure 68 ls st s k (zgv zEM 9 8 o i s.1) := zf_get rfl
set_option maxRecDepth 8000 in
theorem zr_X9_figure_68 (ls : zLs) (st : List zAV) (s : zAS) (k : Nat × Nat) : zev zk_X9_figure (68, ls, st, s, k) = zev zk_X9_figure (69, ls, Sum.inl (Value.int (1)) :: st, s, k) := zev_go rfl rfl
set_option maxRecDepth 8000 in
theorem zr_X9_figure_69 (ls : zLs) (st : List zAV) (s : zAS) (k : Nat × Nat) (o i : Nat) (j : Int32) : zev zk_X9_figure (69, ls, Sum.inl (Value.int j) :: Sum.inr (o, i) :: st, s, k) = zpush zk_X9_figure 70 ls st s k (zald zEM o i j s) := zf_iald rfl
set_option maxRecDepth 8000 in
theorem zr_X9_figure_70 (a1 a2 a3 a4 a5 a6 a7 : Option zAV) (st : List zAV) (s : zAS) (k : Nat × Nat) (o : Nat × Nat) : zev zk_X9_figure (70, [some (Sum.inr o), a1, a2, a3, a4, a5, a6, a7], st, s, k) = zev zk_X9_figure (71, [some (Sum.inr o), a1, a2, a3, a4, a5, a6, a7], Sum.inr o :: st, s, k) := zev_go rfl rfl
set_option maxRecDepth 8000 in
theorem zr_X9_figure_71 (ls : zLs) (st : List zAV) (s : zAS) (k : Nat × Nat) (o i : Nat) : zev zk_X9_figure (71, ls, Sum.inr (o, i) :: st, s, k) = zpush zk_X9_figure 74 ls st s k (zgv zEM 9 8 o i s.1) := zf_get rfl
set_option maxRecDepth 8000 in
theorem zr_X9_figure_74 (ls : zLs) (st : List zAV) (s : zAS) (k : Nat × Nat) : zev zk_X9_figure (74, ls, st, s, k) = zev zk_X9_figure (75, ls, Sum.inl (Value.int (0)) :: st, s, k) := zev_go rfl rfl
set_option maxRecDepth 8000 in
theorem zr_X9_figure_75 (ls : zLs) (st : List zAV) (s : zAS) (k : Nat × Nat) (o i : Nat) (j : Int32) : zev zk_X9_figure (75, ls, Sum.inl (Value.int j) :: Sum.inr (o, i) :: st, s, k) = zpush zk_X9_figure 76 ls st s k (zald zEM o i j s) := zf_iald rfl
set_option maxRecDepth 8000 in
theorem zr_X9_figure_76 (ls : zLs) (st : List zAV) (s : zAS) (k : Nat × Nat) (x y : Int32) : zev zk_X9_figure (76, ls, Sum.inl (Value.int y) :: Sum.inl (Value.int x) :: st, s, k) = zev zk_X9_figure (77, ls, Sum.inl (Value.int (x - y)) :: st, s, k) := zev_go rfl rfl
set_option maxRecDepth 8000 in
theorem zr_X9_figure_77 (ls : zLs) (st : List zAV) (s : zAS) (k : Nat × Nat) (x y : Int32) : zev zk_X9_figure (77, ls, Sum.inl (Value.int y) :: Sum.inl (Value.int x) :: st, s, k) = zev zk_X9_figure (78, ls, Sum.inl (Value.int (x * y)) :: st, s, k) := zev_go rfl rfl
set_option maxRecDepth 8000 in
theorem zr_X9_figure_78 (ls : zLs) (st : List zAV) (s : zAS) (k : Nat × Nat) : zev zk_X9_figure (78, ls, st, s, k) = zev zk_X9_figure (79, ls, Sum.inl (Value.int (2)) :: st, s, k) := zev_go rfl rfl
set_option maxRecDepth 8000 in
theorem zr_X9_figure_79 (a1 a2 a3 a4 a5 a6 a7 : Option zAV) (st : List zAV) (s : zAS) (k : Nat × Nat) (o : Nat × Nat) : zev zk_X9_figure (79, [some (Sum.inr o), a1, a2, a3, a4, a5, a6, a7], st, s, k) = zev zk_X9_figure (80, [some (Sum.inr o), a1, a2, a3, a4, a5, a6, a7], Sum.inr o :: st, s, k) := zev_go rfl rfl
set_option maxRecDepth 8000 in
theorem zr_X9_figure_80 (ls : zLs) (st : List zAV) (s : zAS) (k : Nat × Nat) (o i : Nat) : zev zk_X9_figure (80, ls, Sum.inr (o, i) :: st, s, k) = zpush zk_X9_figure 83 ls st s k (zgv zEM 9 9 o i s.1) := zf_get rfl
set_option maxRecDepth 8000 in
theorem zr_X9_figure_83 (ls : zLs) (st : List zAV) (s : zAS) (k : Nat × Nat) : zev zk_X9_figure (83, ls, st, s, k) = zev zk_X9_figure (84, ls, Sum.inl (Value.int (1)) :: st, s, k) := zev_go rfl rfl
set_option maxRecDepth 8000 in
theorem zr_X9_figure_84 (ls : zLs) (st : List zAV) (s : zAS) (k : Nat × Nat) (o i : Nat) (j : Int32) : zev zk_X9_figure (84, ls, Sum.inl (Value.int j) :: Sum.inr (o, i) :: st, s, k) = zpush zk_X9_figure 85 ls st s k (zald zEM o i j s) := zf_iald rfl
set_option maxRecDepth 8000 in
theorem zr_X9_figure_85 (a1 a2 a3 a4 a5 a6 a7 : Option zAV) (st : List zAV) (s : zAS) (k : Nat × Nat) (o : Nat × Nat) : zev zk_X9_figure (85, [some (Sum.inr o), a1, a2, a3, a4, a5, a6, a7], st, s, k) = zev zk_X9_figure (86, [some (Sum.inr o), a1, a2, a3, a4, a5, a6, a7], Sum.inr o :: st, s, k) := zev_go rfl rfl
set_option maxRecDepth 8000 in
theorem zr_X9_figure_86 (ls : zLs) (st : List zAV) (s : zAS) (k : Nat × Nat) (o i : Nat) : zev zk_X9_figure (86, ls, Sum.inr (o, i) :: st, s, k) = zpush zk_X9_figure 89 ls st s k (zgv zEM 9 9 o i s.1) := zf_get rfl
set_option maxRecDepth 8000 in
theorem zr_X9_figure_89 (ls : zLs) (st : List zAV) (s : zAS) (k : Nat × Nat) : zev zk_X9_figure (89, ls, st, s, k) = zev zk_X9_figure (90, ls, Sum.inl (Value.int (0)) :: st, s, k) := zev_go rfl rfl
set_option maxRecDepth 8000 in
theorem zr_X9_figure_90 (ls : zLs) (st : List zAV) (s : zAS) (k : Nat × Nat) (o i : Nat) (j : Int32) : zev zk_X9_figure (90, ls, Sum.inl (Value.int j) :: Sum.inr (o, i) :: st, s, k) = zpush zk_X9_figure 91 ls st s k (zald zEM o i j s) := zf_iald rfl
set_option maxRecDepth 8000 in
theorem zr_X9_figure_91 (ls : zLs) (st : List zAV) (s : zAS) (k : Nat × Nat) (x y : Int32) : zev zk_X9_figure (91, ls, Sum.inl (Value.int y) :: Sum.inl (Value.int x) :: st, s, k) = zev zk_X9_figure (92, ls, Sum.inl (Value.int (x - y)) :: st, s, k) := zev_go rfl rfl
set_option maxRecDepth 8000 in
theorem zr_X9_figure_92 (ls : zLs) (st : List zAV) (s : zAS) (k : Nat × Nat) (x y : Int32) : zev zk_X9_figure (92, ls, Sum.inl (Value.int y) :: Sum.inl (Value.int x) :: st, s, k) = zev zk_X9_figure (93, ls, Sum.inl (Value.int (x * y)) :: st, s, k) := zev_go rfl rfl
set_option maxRecDepth 8000 in
theorem zr_X9_figure_93 (a1 a2 a3 a4 a5 a6 a7 : Option zAV) (st : List zAV) (s : zAS) (k : Nat × Nat) (o : Nat × Nat) : zev zk_X9_figure (93, [some (Sum.inr o), a1, a2, a3, a4, a5, a6, a7], st, s, k) = zev zk_X9_figure (94, [some (Sum.inr o), a1, a2, a3, a4, a5, a6, a7], Sum.inr o :: st, s, k) := zev_go rfl rfl
set_option maxRecDepth 8000 in
theorem zr_X9_figure_94 (ls : zLs) (st : List zAV) (s : zAS) (k : Nat × Nat) (o i : Nat) : zev zk_X9_figure (94, ls, Sum.inr (o, i) :: st, s, k) = zpush zk_X9_figure 97 ls st s k (zgv zEM 9 8 o i s.1) := zf_get rfl
set_option maxRecDepth 8000 in
theorem zr_X9_figure_97 (ls : zLs) (st : List zAV) (s : zAS) (k : Nat × Nat) : zev zk_X9_figure (97, ls, st, s, k) = zev zk_X9_figure (98, ls, Sum.inl (Value.int (0)) :: st, s, k) := zev_go rfl rfl
set_option maxRecDepth 8000 in
theorem zr_X9_figure_98 (ls : zLs) (st : List zAV) (s : zAS) (k : Nat × Nat) (o i : Nat) (j : Int32) : zev zk_X9_figure (98, ls, Sum.inl (Value.int j) :: Sum.inr (o, i) :: st, s, k) = zpush zk_X9_figure 99 ls st s k (zald zEM o i j s) := zf_iald rfl
set_option maxRecDepth 8000 in
theorem zr_X9_figure_99 (a1 a2 a3 a4 a5 a6 a7 : Option zAV) (st : List zAV) (s : zAS) (k : Nat × Nat) (o : Nat × Nat) : zev zk_X9_figure (99, [some (Sum.inr o), a1, a2, a3, a4, a5, a6, a7], st, s, k) = zev zk_X9_figure (100, [some (Sum.inr o), a1, a2, a3, a4, a5, a6, a7], Sum.inr o :: st, s, k) := zev_go rfl rfl
set_option maxRecDepth 8000 in
theorem zr_X9_figure_100 (ls : zLs) (st : List zAV) (s : zAS) (k : Nat × Nat) (o i : Nat) : zev zk_X9_figure (100, ls, Sum.inr (o, i) :: st, s, k) = zpush zk_X9_figure 103 ls st s k (zgv zEM 9 8 o i s.1) := zf_get rfl
set_option maxRecDepth 8000 in
theorem zr_X9_figure_103 (ls : zLs) (st : List zAV) (s : zAS) (k : Nat × Nat) : zev zk_X9_figure (103, ls, st, s, k) = zev zk_X9_figure (104, ls, Sum.inl (Value.int (0)) :: st, s, k) := zev_go rfl rfl
set_option maxRecDepth 8000 in
theorem zr_X9_figure_104 (ls : zLs) (st : List zAV) (s : zAS) (k : Nat × Nat) (o i : Nat) (j : Int32) : zev zk_X9_figure (104, ls, Sum.inl (Value.int j) :: Sum.inr (o, i) :: st, s, k) = zpush zk_X9_figure 105 ls st s k (zald zEM o i j s) := zf_iald rfl
set_option maxRecDepth 8000 in
theorem zr_X9_figure_105 (ls : zLs) (st : List zAV) (s : zAS) (k : Nat × Nat) (x y : Int32) : zev zk_X9_figure (105, ls, Sum.inl (Value.int y) :: Sum.inl (Value.int x) :: st, s, k) = zev zk_X9_figure (106, ls, Sum.inl (Value.int (x * y)) :: st, s, k) := zev_go rfl rfl
set_option maxRecDepth 8000 in
theorem zr_X9_figure_106 (a1 a2 a3 a4 a5 a6 a7 : Option zAV) (st : List zAV) (s : zAS) (k : Nat × Nat) (o : Nat × Nat) : zev zk_X9_figure (106, [some (Sum.inr o), a1, a2, a3, a4, a5, a6, a7], st, s, k) = zev zk_X9_figure (107, [some (Sum.inr o), a1, a2, a3, a4, a5, a6, a7], Sum.inr o :: st, s, k) := zev_go rfl rfl
set_option maxRecDepth 8000 in
theorem zr_X9_figure_107 (ls : zLs) (st : List zAV) (s : zAS) (k : Nat × Nat) (o i : Nat) : zev zk_X9_figure (107, ls, Sum.inr (o, i) :: st, s, k) = zpush zk_X9_figure 110 ls st s k (zgv zEM 9 9 o i s.1) := zf_get rfl
set_option maxRecDepth 8000 in
theorem zr_X9_figure_110 (ls : zLs) (st : List zAV) (s : zAS) (k : Nat × Nat) : zev zk_X9_figure (110, ls, st, s, k) = zev zk_X9_figure (111, ls, Sum.inl (Value.int (0)) :: st, s, k) := zev_go rfl rfl
set_option maxRecDepth 8000 in
theorem zr_X9_figure_111 (ls : zLs) (st : List zAV) (s : zAS) (k : Nat × Nat) (o i : Nat) (j : Int32) : zev zk_X9_figure (111, ls, Sum.inl (Value.int j) :: Sum.inr (o, i) :: st, s, k) = zpush zk_X9_figure 112 ls st s k (zald zEM o i j s) := zf_iald rfl
set_option maxRecDepth 8000 in
theorem zr_X9_figure_112 (a1 a2 a3 a4 a5 a6 a7 : Option zAV) (st : List zAV) (s : zAS) (k : Nat × Nat) (o : Nat × Nat) : zev zk_X9_figure (112, [some (Sum.inr o), a1, a2, a3, a4, a5, a6, a7], st, s, k) = zev zk_X9_figure (113, [some (Sum.inr o), a1, a2, a3, a4, a5, a6, a7], Sum.inr o :: st, s, k) := zev_go rfl rfl
set_option maxRecDepth 8000 in
theorem zr_X9_figure_113 (ls : zLs) (st : List zAV) (s : zAS) (k : Nat × Nat) (o i : Nat) : zev zk_X9_figure (113, ls, Sum.inr (o, i) :: st, s, k) = zpush zk_X9_figure 116 ls st s k (zgv zEM 9 9 o i s.1) := zf_get rfl
set_option maxRecDepth 8000 in
theorem zr_X9_figure_116 (ls : zLs) (st : List zAV) (s : zAS) (k : Nat × Nat) : zev zk_X9_figure (116, ls, st, s, k) = zev zk_X9_figure (117, ls, Sum.inl (Value.int (0)) :: st, s, k) := zev_go rfl rfl
set_option maxRecDepth 8000 in
theorem zr_X9_figure_117 (ls : zLs) (st : List zAV) (s : zAS) (k : Nat × Nat) (o i : Nat) (j : Int32) : zev zk_X9_figure (117, ls, Sum.inl (Value.int j) :: Sum.inr (o, i) :: st, s, k) = zpush zk_X9_figure 118 ls st s k (zald zEM o i j s) := zf_iald rfl
set_option maxRecDepth 8000 in
theorem zr_X9_figure_118 (ls : zLs) (st : List zAV) (s : zAS) (k : Nat × Nat) (x y : Int32) : zev zk_X9_figure (118, ls, Sum.inl (Value.int y) :: Sum.inl (Value.int x) :: st, s, k) = zev zk_X9_figure (119, ls, Sum.inl (Value.int (x * y)) :: st, s, k) := zev_go rfl rfl
set_option maxRecDepth 8000 in
theorem zr_X9_figure_119 (ls : zLs) (st : List zAV) (s : zAS) (k : Nat × Nat) (x y : Int32) : zev zk_X9_figure (119, ls, Sum.inl (Value.int y) :: Sum.inl (Value.int x) :: st, s, k) = zev zk_X9_figure (120, ls, Sum.inl (Value.int (x + y)) :: st, s, k) := zev_go rfl rfl
set_option maxRecDepth 8000 in
theorem zr_X9_figure_120 (a1 a2 a3 a4 a5 a6 a7 : Option zAV) (st : List zAV) (s : zAS) (k : Nat × Nat) (o : Nat × Nat) : zev zk_X9_figure (120, [some (Sum.inr o), a1, a2, a3, a4, a5, a6, a7], st, s, k) = zev zk_X9_figure (121, [some (Sum.inr o), a1, a2, a3, a4, a5, a6, a7], Sum.inr o :: st, s, k) := zev_go rfl rfl
set_option maxRecDepth 8000 in
theorem zr_X9_figure_121 (ls : zLs) (st : List zAV) (s : zAS) (k : Nat × Nat) (o i : Nat) : zev zk_X9_figure (121, ls, Sum.inr (o, i) :: st, s, k) = zpush zk_X9_figure 124 ls st s k (zgv zEM 9 8 o i s.1) := zf_get rfl
set_option maxRecDepth 8000 in
theorem zr_X9_figure_124 (ls : zLs) (st : List zAV) (s : zAS) (k : Nat × Nat) : zev zk_X9_figure (124, ls, st, s, k) = zev zk_X9_figure (125, ls, Sum.inl (Value.int (1)) :: st, s, k) := zev_go rfl rfl
set_option maxRecDepth 8000 in
theorem zr_X9_figure_125 (ls : zLs) (st : List zAV) (s : zAS) (k : Nat × Nat) (o i : Nat) (j : Int32) : zev zk_X9_figure (125, ls, Sum.inl (Value.int j) :: Sum.inr (o, i) :: st, s, k) = zpush zk_X9_figure 126 ls st s k (zald zEM o i j s) := zf_iald rfl
set_option maxRecDepth 8000 in
theorem zr_X9_figure_126 (a1 a2 a3 a4 a5 a6 a7 : Option zAV) (st : List zAV) (s : zAS) (k : Nat × Nat) (o : Nat × Nat) : zev zk_X9_figure (126, [some (Sum.inr o), a1, a2, a3, a4, a5, a6, a7], st, s, k) = zev zk_X9_figure (127, [some (Sum.inr o), a1, a2, a3, a4, a5, a6, a7], Sum.inr o :: st, s, k) := zev_go rfl rfl
set_option maxRecDepth 8000 in
theorem zr_X9_figure_127 (ls : zLs) (st : List zAV) (s : zAS) (k : Nat × Nat) (o i : Nat) : zev zk_X9_figure (127, ls, Sum.inr (o, i) :: st, s, k) = zpush zk_X9_figure 130 ls st s k (zgv zEM 9 8 o i s.1) := zf_get rfl
set_option maxRecDepth 8000 in
theorem zr_X9_figure_130 (ls : zLs) (st : List zAV) (s : zAS) (k : Nat × Nat) : zev zk_X9_figure (130, ls, st, s, k) = zev zk_X9_figure (131, ls, Sum.inl (Value.int (1)) :: st, s, k) := zev_go rfl rfl
set_option maxRecDepth 8000 in
theorem zr_X9_figure_131 (ls : zLs) (st : List zAV) (s : zAS) (k : Nat × Nat) (o i : Nat) (j : Int32) : zev zk_X9_figure (131, ls, Sum.inl (Value.int j) :: Sum.inr (o, i) :: st, s, k) = zpush zk_X9_figure 132 ls st s k (zald zEM o i j s) := zf_iald rfl
set_option maxRecDepth 8000 in
theorem zr_X9_figure_132 (ls : zLs) (st : List zAV) (s : zAS) (k : Nat × Nat) (x y : Int32) : zev zk_X9_figure (132, ls, Sum.inl (Value.int y) :: Sum.inl (Value.int x) :: st, s, k) = zev zk_X9_figure (133, ls, Sum.inl (Value.int (x * y)) :: st, s, k) := zev_go rfl rfl
set_option maxRecDepth 8000 in
theorem zr_X9_figure_133 (ls : zLs) (st : List zAV) (s : zAS) (k : Nat × Nat) (x y : Int32) : zev zk_X9_figure (133, ls, Sum.inl (Value.int y) :: Sum.inl (Value.int x) :: st, s, k) = zev zk_X9_figure (134, ls, Sum.inl (Value.int (x - y)) :: st, s, k) := zev_go rfl rfl
set_option maxRecDepth 8000 in
theorem zr_X9_figure_134 (a1 a2 a3 a4 a5 a6 a7 : Option zAV) (st : List zAV) (s : zAS) (k : Nat × Nat) (o : Nat × Nat) : zev zk_X9_figure (134, [some (Sum.inr o), a1, a2, a3, a4, a5, a6, a7], st, s, k) = zev zk_X9_figure (135, [some (Sum.inr o), a1, a2, a3, a4, a5, a6, a7], Sum.inr o :: st, s, k) := zev_go rfl rfl
set_option maxRecDepth 8000 in
theorem zr_X9_figure_135 (ls : zLs) (st : List zAV) (s : zAS) (k : Nat × Nat) (o i : Nat) : zev zk_X9_figure (135, ls, Sum.inr (o, i) :: st, s, k) = zpush zk_X9_figure 138 ls st s k (zgv zEM 9 9 o i s.1) := zf_get rfl
set_option maxRecDepth 8000 in
theorem zr_X9_figure_138 (ls : zLs) (st : List zAV) (s : zAS) (k : Nat × Nat) : zev zk_X9_figure (138, ls, st, s, k) = zev zk_X9_figure (139, ls, Sum.inl (Value.int (1)) :: st, s, k) := zev_go rfl rfl
set_option maxRecDepth 8000 in
theorem zr_X9_figure_139 (ls : zLs) (st : List zAV) (s : zAS) (k : Nat × Nat) (o i : Nat) (j : Int32) : zev zk_X9_figure (139, ls, Sum.inl (Value.int j) :: Sum.inr (o, i) :: st, s, k) = zpush zk_X9_figure 140 ls st s k (zald zEM o i j s) := zf_iald rfl
set_option maxRecDepth 8000 in
theorem zr_X9_figure_140 (a1 a2 a3 a4 a5 a6 a7 : Option zAV) (st : List zAV) (s : zAS) (k : Nat × Nat) (o : Nat × Nat) : zev zk_X9_figure (140, [some (Sum.inr o), a1, a2, a3, a4, a5, a6, a7], st, s, k) = zev zk_X9_figure (141, [some (Sum.inr o), a1, a2, a3, a4, a5, a6, a7], Sum.inr o :: st, s, k) := zev_go rfl rfl
set_option maxRecDepth 8000 in
theorem zr_X9_figure_141 (ls : zLs) (st : List zAV) (s : zAS) (k : Nat × Nat) (o i : Nat) : zev zk_X9_figure (141, ls, Sum.inr (o, i) :: st, s, k) = zpush zk_X9_figure 144 ls st s k (zgv zEM 9 9 o i s.1) := zf_get rfl
set_option maxRecDepth 8000 in
theorem zr_X9_figure_144 (ls : zLs) (st : List zAV) (s : zAS) (k : Nat × Nat) : zev zk_X9_figure (144, ls, st, s, k) = zev zk_X9_figure (145, ls, Sum.inl (Value.int (1)) :: st, s, k) := zev_go rfl rfl
set_option maxRecDepth 8000 in
theorem zr_X9_figure_145 (ls : zLs) (st : List zAV) (s : zAS) (k : Nat × Nat) (o i : Nat) (j : Int32) : zev zk_X9_figure (145, ls, Sum.inl (Value.int j) :: Sum.inr (o, i) :: st, s, k) = zpush zk_X9_figure 146 ls st s k (zald zEM o i j s) := zf_iald rfl
set_option maxRecDepth 8000 in
theorem zr_X9_figure_146 (ls : zLs) (st : List zAV) (s : zAS) (k : Nat × Nat) (x y : Int32) : zev zk_X9_figure (146, ls, Sum.inl (Value.int y) :: Sum.inl (Value.int x) :: st, s, k) = zev zk_X9_figure (147, ls, Sum.inl (Value.int (x * y)) :: st, s, k) := zev_go rfl rfl
set_option maxRecDepth 8000 in
theorem zr_X9_figure_147 (ls : zLs) (st : List zAV) (s : zAS) (k : Nat × Nat) (x y : Int32) : zev zk_X9_figure (147, ls, Sum.inl (Value.int y) :: Sum.inl (Value.int x) :: st, s, k) = zev zk_X9_figure (148, ls, Sum.inl (Value.int (x - y)) :: st, s, k) := zev_go rfl rfl
set_option maxRecDepth 8000 in
theorem zr_X9_figure_148 (ls : zLs) (st : List zAV) (s : zAS) (k : Nat × Nat) (r v0 v1 v2 : zAV) (h : zcok zEM 9 0 0 (zR_X9_figure).cells (zR_X9_figure).slots r st k) : zev zk_X9_figure (148, ls, v2 :: v1 :: v0 :: r :: st, s, k) = zret zk_X9_figure 151 ls st (k.1 + 0, k.2 + 0) (m_X9_layLine [r, v0, v1, v2] s) := zf_callV (as := [v2, v1, v0]) 3 rfl rfl h
set_option maxRecDepth 8000 in
theorem zr_X9_figure_151 (ls : zLs) (st : List zAV) (s : zAS) (k : Nat × Nat) (v : zAV) (hv : zc1 v = true) : zev zk_X9_figure (151, ls, v :: st, s, k) = zev zk_X9_figure (152, ls, st, s, k) := zf_pop rfl hv
set_option maxRecDepth 8000 in
theorem zr_X9_figure_152 (a1 a2 a3 a4 a5 a6 a7 : Option zAV) (st : List zAV) (s : zAS) (k : Nat × Nat) (o : Nat × Nat) : zev zk_X9_figure (152, [some (Sum.inr o), a1, a2, a3, a4, a5, a6, a7], st, s, k) = zev zk_X9_figure (153, [some (Sum.inr o), a1, a2, a3, a4, a5, a6, a7], Sum.inr o :: st, s, k) := zev_go rfl rfl
set_option maxRecDepth 8000 in
theorem zr_X9_figure_153 (ls : zLs) (st : List zAV) (s : zAS) (k : Nat × Nat) (o i : Nat) : zev zk_X9_figure (153, ls, Sum.inr (o, i) :: st, s, k) = zpush zk_X9_figure 156 ls st s k (zgv zEM 9 6 o i s.1) := zf_get rfl
set_option maxRecDepth 8000 in
theorem zr_X9_figure_156 (ls : zLs) (st : List zAV) (s : zAS) (k : Nat × Nat) : zev zk_X9_figure (156, ls, st, s, k) = zev zk_X9_figure (157, ls, Sum.inl (Value.int (0)) :: st, s, k) := zev_go rfl rfl
set_option maxRecDepth 8000 in
theorem zr_X9_figure_157 (ls : zLs) (st : List zAV) (s : zAS) (k : Nat × Nat) (o i : Nat) (j : Int32) : zev zk_X9_figure (157, ls, Sum.inl (Value.int j) :: Sum.inr (o, i) :: st, s, k) = zpush zk_X9_figure 158 ls st s k (zald zEM o i j s) := zf_iald rfl
set_option maxRecDepth 8000 in
theorem zr_X9_figure_158 (a0 a1 a2 a3 a4 a5 a6 a7 : Option zAV) (st : List zAV) (s : zAS) (k : Nat × Nat) (x : Int32) : zev zk_X9_figure (158, [a0, a1, a2, a3, a4, a5, a6, a7], Sum.inl (Value.int x) :: st, s, k) = zev zk_X9_figure (159, [a0, zk1 a1, some (Sum.inl (Value.int x)), a3, a4, a5, a6, a7], st, s, k) := zev_go rfl rfl
set_option maxRecDepth 8000 in
theorem zr_X9_figure_159 (a1 a2 a3 a4 a5 a6 a7 : Option zAV) (st : List zAV) (s : zAS) (k : Nat × Nat) (o : Nat × Nat) : zev zk_X9_figure (159, [some (Sum.inr o), a1, a2, a3, a4, a5, a6, a7], st, s, k) = zev zk_X9_figure (160, [some (Sum.inr o), a1, a2, a3, a4, a5, a6, a7], Sum.inr o :: st, s, k) := zev_go rfl rfl
set_option maxRecDepth 8000 in
theorem zr_X9_figure_160 (ls : zLs) (st : List zAV) (s : zAS) (k : Nat × Nat) (o i : Nat) : zev zk_X9_figure (160, ls, Sum.inr (o, i) :: st, s, k) = zpush zk_X9_figure 163 ls st s k (zgv zEM 9 6 o i s.1) := zf_get rfl
set_option maxRecDepth 8000 in
theorem zr_X9_figure_163 (ls : zLs) (st : List zAV) (s : zAS) (k : Nat × Nat) : zev zk_X9_figure (163, ls, st, s, k) = zev zk_X9_figure (164, ls, Sum.inl (Value.int (1)) :: st, s, k) := zev_go rfl rfl
set_option maxRecDepth 8000 in
theorem zr_X9_figure_164 (ls : zLs) (st : List zAV) (s : zAS) (k : Nat × Nat) (o i : Nat) (j : Int32) : zev zk_X9_figure (164, ls, Sum.inl (Value.int j) :: Sum.inr (o, i) :: st, s, k) = zpush zk_X9_figure 165 ls st s k (zald zEM o i j s) := zf_iald rfl
set_option maxRecDepth 8000 in
theorem zr_X9_figure_165 (a0 a1 a2 a3 a4 a5 a6 a7 : Option zAV) (st : List zAV) (s : zAS) (k : Nat × Nat) (x : Int32) : zev zk_X9_figure (165, [a0, a1, a2, a3, a4, a5, a6, a7], Sum.inl (Value.int x) :: st, s, k) = zev zk_X9_figure (166, [a0, a1, zk1 a2, some (Sum.inl (Value.int x)), a4, a5, a6, a7], st, s, k) := zev_go rfl rfl
set_option maxRecDepth 8000 in
theorem zr_X9_figure_166 (a1 a2 a3 a4 a5 a6 a7 : Option zAV) (st : List zAV) (s : zAS) (k : Nat × Nat) (o : Nat × Nat) : zev zk_X9_figure (166, [some (Sum.inr o), a1, a2, a3, a4, a5, a6, a7], st, s, k) = zev zk_X9_figure (167, [some (Sum.inr o), a1, a2, a3, a4, a5, a6, a7], Sum.inr o :: st, s, k) := zev_go rfl rfl
set_option maxRecDepth 8000 in
theorem zr_X9_figure_167 (ls : zLs) (st : List zAV) (s : zAS) (k : Nat × Nat) (o i : Nat) : zev zk_X9_figure (167, ls, Sum.inr (o, i) :: st, s, k) = zpush zk_X9_figure 170 ls st s k (zgv zEM 9 6 o i s.1) := zf_get rfl
set_option maxRecDepth 8000 in
theorem zr_X9_figure_170 (ls : zLs) (st : List zAV) (s : zAS) (k : Nat × Nat) : zev zk_X9_figure (170, ls, st, s, k) = zev zk_X9_figure (171, ls, Sum.inl (Value.int (2)) :: st, s, k) := zev_go rfl rfl
set_option maxRecDepth 8000 in
theorem zr_X9_figure_171 (ls : zLs) (st : List zAV) (s : zAS) (k : Nat × Nat) (o i : Nat) (j : Int32) : zev zk_X9_figure (171, ls, Sum.inl (Value.int j) :: Sum.inr (o, i) :: st, s, k) = zpush zk_X9_figure 172 ls st s k (zald zEM o i j s) := zf_iald rfl
set_option maxRecDepth 8000 in
theorem zr_X9_figure_172 (a0 a1 a2 a3 a4 a5 a6 a7 : Option zAV) (st : List zAV) (s : zAS) (k : Nat × Nat) (x : Int32) : zev zk_X9_figure (172, [a0, a1, a2, a3, a4, a5, a6, a7], Sum.inl (Value.int x) :: st, s, k) = zev zk_X9_figure (174, [a0, a1, a2, zk1 a3, some (Sum.inl (Value.int x)), a5, a6, a7], st, s, k) := zev_go rfl rfl
set_option maxRecDepth 8000 in
theorem zr_X9_figure_174 (a1 a2 a3 a4 a5 a6 a7 : Option zAV) (st : List zAV) (s : zAS) (k : Nat × Nat) (o : Nat × Nat) : zev zk_X9_figure (174, [some (Sum.inr o), a1, a2, a3, a4, a5, a6, a7], st, s, k) = zev zk_X9_figure (175, [some (Sum.inr o), a1, a2, a3, a4, a5, a6, a7], Sum.inr o :: st, s, k) := zev_go rfl rfl
set_option maxRecDepth 8000 in
theorem zr_X9_figure_175 (ls : zLs) (st : List zAV) (s : zAS) (k : Nat × Nat) : zev zk_X9_figure (175, ls, st, s, k) = zev zk_X9_figure (176, ls, Sum.inl (Value.int (2)) :: st, s, k) := zev_go rfl rfl
set_option maxRecDepth 8000 in
theorem zr_X9_figure_176 (a1 a2 a3 a4 a5 a6 a7 : Option zAV) (st : List zAV) (s : zAS) (k : Nat × Nat) (o : Nat × Nat) : zev zk_X9_figure (176, [some (Sum.inr o), a1, a2, a3, a4, a5, a6, a7], st, s, k) = zev zk_X9_figure (177, [some (Sum.inr o), a1, a2, a3, a4, a5, a6, a7], Sum.inr o :: st, s, k) := zev_go rfl rfl
set_option maxRecDepth 8000 in
theorem zr_X9_figure_177 (ls : zLs) (st : List zAV) (s : zAS) (k : Nat × Nat) (o i : Nat) : zev zk_X9_figure (177, ls, Sum.inr (o, i) :: st, s, k) = zpush zk_X9_figure 180 ls st s k (zgv zEM 9 8 o i s.1) := zf_get rfl
set_option maxRecDepth 8000 in
theorem zr_X9_figure_180 (ls : zLs) (st : List zAV) (s : zAS) (k : Nat × Nat) : zev zk_X9_figure (180, ls, st, s, k) = zev zk_X9_figure (181, ls, Sum.inl (Value.int (2)) :: st, s, k) := zev_go rfl rfl
set_option maxRecDepth 8000 in
theorem zr_X9_figure_181 (ls : zLs) (st : List zAV) (s : zAS) (k : Nat × Nat) (o i : Nat) (j : Int32) : zev zk_X9_figure (181, ls, Sum.inl (Value.int j) :: Sum.inr (o, i) :: st, s, k) = zpush zk_X9_figure 182 ls st s k (zald zEM o i j s) := zf_iald rfl
set_option maxRecDepth 8000 in
theorem zr_X9_figure_182 (a1 a2 a3 a4 a5 a6 a7 : Option zAV) (st : List zAV) (s : zAS) (k : Nat × Nat) (o : Nat × Nat) : zev zk_X9_figure (182, [some (Sum.inr o), a1, a2, a3, a4, a5, a6, a7], st, s, k) = zev zk_X9_figure (183, [some (Sum.inr o), a1, a2, a3, a4, a5, a6, a7], Sum.inr o :: st, s, k) := zev_go rfl rfl
set_option maxRecDepth 8000 in
theorem zr_X9_figure_183 (ls : zLs) (st : List zAV) (s : zAS) (k : Nat × Nat) (o i : Nat) : zev zk_X9_figure (183, ls, Sum.inr (o, i) :: st, s, k) = zpush zk_X9_figure 186 ls st s k (zgv zEM 9 8 o i s.1) := zf_get rfl
set_option maxRecDepth 8000 in
theorem zr_X9_figure_186 (ls : zLs) (st : List zAV) (s : zAS) (k : Nat × Nat) : zev zk_X9_figure (186, ls, st, s, k) = zev zk_X9_figure (187, ls, Sum.inl (Value.int (0)) :: st, s, k) := zev_go rfl rfl
set_option maxRecDepth 8000 in
theorem zr_X9_figure_187 (ls : zLs) (st : List zAV) (s : zAS) (k : Nat × Nat) (o i : Nat) (j : Int32) : zev zk_X9_figure (187, ls, Sum.inl (Value.int j) :: Sum.inr (o, i) :: st, s, k) = zpush zk_X9_figure 188 ls st s k (zald zEM o i j s) := zf_iald rfl
set_option maxRecDepth 8000 in
theorem zr_X9_figure_188 (ls : zLs) (st : List zAV) (s : zAS) (k : Nat × Nat) (x y : Int32) : zev zk_X9_figure (188, ls, Sum.inl (Value.int y) :: Sum.inl (Value.int x) :: st, s, k) = zev zk_X9_figure (189, ls, Sum.inl (Value.int (x - y)) :: st, s, k) := zev_go rfl rfl
set_option maxRecDepth 8000 in
theorem zr_X9_figure_189 (ls : zLs) (st : List zAV) (s : zAS) (k : Nat × Nat) (x y : Int32) : zev zk_X9_figure (189, ls, Sum.inl (Value.int y) :: Sum.inl (Value.int x) :: st, s, k) = zev zk_X9_figure (190, ls, Sum.inl (Value.int (x * y)) :: st, s, k) := zev_go rfl rfl
set_option maxRecDepth 8000 in
theorem zr_X9_figure_190 (ls : zLs) (st : List zAV) (s : zAS) (k : Nat × Nat) : zev zk_X9_figure (190, ls, st, s, k) = zev zk_X9_figure (191, ls, Sum.inl (Value.int (2)) :: st, s, k) := zev_go rfl rfl
set_option maxRecDepth 8000 in
theorem zr_X9_figure_191 (a1 a2 a3 a4 a5 a6 a7 : Option zAV) (st : List zAV) (s : zAS) (k : Nat × Nat) (o : Nat × Nat) : zev zk_X9_figure (191, [some (Sum.inr o), a1, a2, a3, a4, a5, a6, a7], st, s, k) = zev zk_X9_figure (192, [some (Sum.inr o), a1, a2, a3, a4, a5, a6, a7], Sum.inr o :: st, s, k) := zev_go rfl rfl
set_option maxRecDepth 8000 in
theorem zr_X9_figure_192 (ls : zLs) (st : List zAV) (s : zAS) (k : Nat × Nat) (o i : Nat) : zev zk_X9_figure (192, ls, Sum.inr (o, i) :: st, s, k) = zpush zk_X9_figure 195 ls st s k (zgv zEM 9 9 o i s.1) := zf_get rfl
set_option maxRecDepth 8000 in
theorem zr_X9_figure_195 (ls : zLs) (st : List zAV) (s : zAS) (k : Nat × Nat) : zev zk_X9_figure (195, ls, st, s, k) = zev zk_X9_figure (196, ls, Sum.inl (Value.int (2)) :: st, s, k) := zev_go rfl rfl
set_option maxRecDepth 8000 in
theorem zr_X9_figure_196 (ls : zLs) (st : List zAV) (s : zAS) (k : Nat × Nat) (o i : Nat) (j : Int32) : zev zk_X9_figure (196, ls, Sum.inl (Value.int j) :: Sum.inr (o, i) :: st, s, k) = zpush zk_X9_figure 197 ls st s k (zald zEM o i j s) := zf_iald rfl
set_option maxRecDepth 8000 in
theorem zr_X9_figure_197 (a1 a2 a3 a4 a5 a6 a7 : Option zAV) (st : List zAV) (s : zAS) (k : Nat × Nat) (o : Nat × Nat) : zev zk_X9_figure (197, [some (Sum.inr o), a1, a2, a3, a4, a5, a6, a7], st, s, k) = zev zk_X9_figure (198, [some (Sum.inr o), a1, a2, a3, a4, a5, a6, a7], Sum.inr o :: st, s, k) := zev_go rfl rfl
set_option maxRecDepth 8000 in
theorem zr_X9_figure_198 (ls : zLs) (st : List zAV) (s : zAS) (k : Nat × Nat) (o i : Nat) : zev zk_X9_figure (198, ls, Sum.inr (o, i) :: st, s, k) = zpush zk_X9_figure 201 ls st s k (zgv zEM 9 9 o i s.1) := zf_get rfl
set_option maxRecDepth 8000 in
theorem zr_X9_figure_201 (ls : zLs) (st : List zAV) (s : zAS) (k : Nat × Nat) : zev zk_X9_figure (201, ls, st, s, k) = zev zk_X9_figure (202, ls, Sum.inl (Value.int (0)) :: st, s, k) := zev_go rfl rfl
set_option maxRecDepth 8000 in
theorem zr_X9_figure_202 (ls : zLs) (st : List zAV) (s : zAS) (k : Nat × Nat) (o i : Nat) (j : Int32) : zev zk_X9_figure (202, ls, Sum.inl (Value.int j) :: Sum.inr (o, i) :: st, s, k) = zpush zk_X9_figure 203 ls st s k (zald zEM o i j s) := zf_iald rfl
set_option maxRecDepth 8000 in
theorem zr_X9_figure_203 (ls : zLs) (st : List zAV) (s : zAS) (k : Nat × Nat) (x y : Int32) : zev zk_X9_figure (203, ls, Sum.inl (Value.int y) :: Sum.inl (Value.int x) :: st, s, k) = zev zk_X9_figure (204, ls, Sum.inl (Value.int (x - y)) :: st, s, k) := zev_go rfl rfl
set_option maxRecDepth 8000 in
theorem zr_X9_figure_204 (ls : zLs) (st : List zAV) (s : zAS) (k : Nat × Nat) (x y : Int32) : zev zk_X9_figure (204, ls, Sum.inl (Value.int y) :: Sum.inl (Value.int x) :: st, s, k) = zev zk_X9_figure (205, ls, Sum.inl (Value.int (x * y)) :: st, s, k) := zev_go rfl rfl
set_option maxRecDepth 8000 in
theorem zr_X9_figure_205 (a1 a2 a3 a4 a5 a6 a7 : Option zAV) (st : List zAV) (s : zAS) (k : Nat × Nat) (o : Nat × Nat) : zev zk_X9_figure (205, [some (Sum.inr o), a1, a2, a3, a4, a5, a6, a7], st, s, k) = zev zk_X9_figure (206, [some (Sum.inr o), a1, a2, a3, a4, a5, a6, a7], Sum.inr o :: st, s, k) := zev_go rfl rfl
set_option maxRecDepth 8000 in
theorem zr_X9_figure_206 (ls : zLs) (st : List zAV) (s : zAS) (k : Nat × Nat) (o i : Nat) : zev zk_X9_figure (206, ls, Sum.inr (o, i) :: st, s, k) = zpush zk_X9_figure 209 ls st s k (zgv zEM 9 8 o i s.1) := zf_get rfl
set_option maxRecDepth 8000 in
theorem zr_X9_figure_209 (ls : zLs) (st : List zAV) (s : zAS) (k : Nat × Nat) : zev zk_X9_figure (209, ls, st, s, k) = zev zk_X9_figure (210, ls, Sum.inl (Value.int (0)) :: st, s, k) := zev_go rfl rfl
set_option maxRecDepth 8000 in
theorem zr_X9_figure_210 (ls : zLs) (st : List zAV) (s : zAS) (k : Nat × Nat) (o i : Nat) (j : Int32) : zev zk_X9_figure (210, ls, Sum.inl (Value.int j) :: Sum.inr (o, i) :: st, s, k) = zpush zk_X9_figure 211 ls st s k (zald zEM o i j s) := zf_iald rfl
set_option maxRecDepth 8000 in
theorem zr_X9_figure_211 (a1 a2 a3 a4 a5 a6 a7 : Option zAV) (st : List zAV) (s : zAS) (k : Nat × Nat) (o : Nat × Nat) : zev zk_X9_figure (211, [some (Sum.inr o), a1, a2, a3, a4, a5, a6, a7], st, s, k) = zev zk_X9_figure (212, [some (Sum.inr o), a1, a2, a3, a4, a5, a6, a7], Sum.inr o :: st, s, k) := zev_go rfl rfl
set_option maxRecDepth 8000 in
theorem zr_X9_figure_212 (ls : zLs) (st : List zAV) (s : zAS) (k : Nat × Nat) (o i : Nat) : zev zk_X9_figure (212, ls, Sum.inr (o, i) :: st, s, k) = zpush zk_X9_figure 215 ls st s k (zgv zEM 9 8 o i s.1) := zf_get rfl
set_option maxRecDepth 8000 in
theorem zr_X9_figure_215 (ls : zLs) (st : List zAV) (s : zAS) (k : Nat × Nat) : zev zk_X9_figure (215, ls, st, s, k) = zev zk_X9_figure (216, ls, Sum.inl (Value.int (0)) :: st, s, k) := zev_go rfl rfl
set_option maxRecDepth 8000 in
theorem zr_X9_figure_216 (ls : zLs) (st : List zAV) (s : zAS) (k : Nat × Nat) (o i : Nat) (j : Int32) : zev zk_X9_figure (216, ls, Sum.inl (Value.int j) :: Sum.inr (o, i) :: st, s, k) = zpush zk_X9_figure 217 ls st s k (zald zEM o i j s) := zf_iald rfl
set_option maxRecDepth 8000 in
theorem zr_X9_figure_217 (ls : zLs) (st : List zAV) (s : zAS) (k : Nat × Nat) (x y : Int32) : zev zk_X9_figure (217, ls, Sum.inl (Value.int y) :: Sum.inl (Value.int x) :: st, s, k) = zev zk_X9_figure (218, ls, Sum.inl (Value.int (x * y)) :: st, s, k) := zev_go rfl rfl
set_option maxRecDepth 8000 in
theorem zr_X9_figure_218 (a1 a2 a3 a4 a5 a6 a7 : Option zAV) (st : List zAV) (s : zAS) (k : Nat × Nat) (o : Nat × Nat) : zev zk_X9_figure (218, [some (Sum.inr o), a1, a2, a3, a4, a5, a6, a7], st, s, k) = zev zk_X9_figure (219, [some (Sum.inr o), a1, a2, a3, a4, a5, a6, a7], Sum.inr o :: st, s, k) := zev_go rfl rfl
set_option maxRecDepth 8000 in
theorem zr_X9_figure_219 (ls : zLs) (st : List zAV) (s : zAS) (k : Nat × Nat) (o i : Nat) : zev zk_X9_figure (219, ls, Sum.inr (o, i) :: st, s, k) = zpush zk_X9_figure 222 ls st s k (zgv zEM 9 9 o i s.1) := zf_get rfl
set_option maxRecDepth 8000 in
theorem zr_X9_figure_222 (ls : zLs) (st : List zAV) (s : zAS) (k : Nat × Nat) : zev zk_X9_figure (222, ls, st, s, k) = zev zk_X9_figure (223, ls, Sum.inl (Value.int (0)) :: st, s, k) := zev_go rfl rfl
set_option maxRecDepth 8000 in
theorem zr_X9_figure_223 (ls : zLs) (st : List zAV) (s : zAS) (k : Nat × Nat) (o i : Nat) (j : Int32) : zev zk_X9_figure (223, ls, Sum.inl (Value.int j) :: Sum.inr (o, i) :: st, s, k) = zpush zk_X9_figure 224 ls st s k (zald zEM o i j s) := zf_iald rfl
set_option maxRecDepth 8000 in
theorem zr_X9_figure_224 (a1 a2 a3 a4 a5 a6 a7 : Option zAV) (st : List zAV) (s : zAS) (k : Nat × Nat) (o : Nat × Nat) : zev zk_X9_figure (224, [some (Sum.inr o), a1, a2, a3, a4, a5, a6, a7], st, s, k) = zev zk_X9_figure (225, [some (Sum.inr o), a1, a2, a3, a4, a5, a6, a7], Sum.inr o :: st, s, k) := zev_go rfl rfl
set_option maxRecDepth 8000 in
theorem zr_X9_figure_225 (ls : zLs) (st : List zAV) (s : zAS) (k : Nat × Nat) (o i : Nat) : zev zk_X9_figure (225, ls, Sum.inr (o, i) :: st, s, k) = zpush zk_X9_figure 228 ls st s k (zgv zEM 9 9 o i s.1) := zf_get rfl
set_option maxRecDepth 8000 in
theorem zr_X9_figure_228 (ls : zLs) (st : List zAV) (s : zAS) (k : Nat × Nat) : zev zk_X9_figure (228, ls, st, s, k) = zev zk_X9_figure (229, ls, Sum.inl (Value.int (0)) :: st, s, k) := zev_go rfl rfl
set_option maxRecDepth 8000 in
theorem zr_X9_figure_229 (ls : zLs) (st : List zAV) (s : zAS) (k : Nat × Nat) (o i : Nat) (j : Int32) : zev zk_X9_figure (229, ls, Sum.inl (Value.int j) :: Sum.inr (o, i) :: st, s, k) = zpush zk_X9_figure 230 ls st s k (zald zEM o i j s) := zf_iald rfl
set_option maxRecDepth 8000 in
theorem zr_X9_figure_230 (ls : zLs) (st : List zAV) (s : zAS) (k : Nat × Nat) (x y : Int32) : zev zk_X9_figure (230, ls, Sum.inl (Value.int y) :: Sum.inl (Value.int x) :: st, s, k) = zev zk_X9_figure (231, ls, Sum.inl (Value.int (x * y)) :: st, s, k) := zev_go rfl rfl
set_option maxRecDepth 8000 in
theorem zr_X9_figure_231 (ls : zLs) (st : List zAV) (s : zAS) (k : Nat × Nat) (x y : Int32) : zev zk_X9_figure (231, ls, Sum.inl (Value.int y) :: Sum.inl (Value.int x) :: st, s, k) = zev zk_X9_figure (232, ls, Sum.inl (Value.int (x + y)) :: st, s, k) := zev_go rfl rfl
set_option maxRecDepth 8000 in
theorem zr_X9_figure_232 (a1 a2 a3 a4 a5 a6 a7 : Option zAV) (st : List zAV) (s : zAS) (k : Nat × Nat) (o : Nat × Nat) : zev zk_X9_figure (232, [some (Sum.inr o), a1, a2, a3, a4, a5, a6, a7], st, s, k) = zev zk_X9_figure (233, [some (Sum.inr o), a1, a2, a3, a4, a5, a6, a7], Sum.inr o :: st, s, k) := zev_go rfl rfl
set_option maxRecDepth 8000 in
theorem zr_X9_figure_233 (ls : zLs) (st : List zAV) (s : zAS) (k : Nat × Nat) (o i : Nat) : zev zk_X9_figure (233, ls, Sum.inr (o, i) :: st, s, k) = zpush zk_X9_figure 236 ls st s k (zgv zEM 9 8 o i s.1) := zf_get rfl
set_option maxRecDepth 8000 in
theorem zr_X9_figure_236 (ls : zLs) (st : List zAV) (s : zAS) (k : Nat × Nat) : zev zk_X9_figure (236, ls, st, s, k) = zev zk_X9_figure (237, ls, Sum.inl (Value.int (2)) :: st, s, k) := zev_go rfl rfl
set_option maxRecDepth 8000 in
theorem zr_X9_figure_237 (ls : zLs) (st : List zAV) (s : zAS) (k : Nat × Nat) (o i : Nat) (j : Int32) : zev zk_X9_figure (237, ls, Sum.inl (Value.int j) :: Sum.inr (o, i) :: st, s, k) = zpush zk_X9_figure 238 ls st s k (zald zEM o i j s) := zf_iald rfl
set_option maxRecDepth 8000 in
theorem zr_X9_figure_238 (a1 a2 a3 a4 a5 a6 a7 : Option zAV) (st : List zAV) (s : zAS) (k : Nat × Nat) (o : Nat × Nat) : zev zk_X9_figure (238, [some (Sum.inr o), a1, a2, a3, a4, a5, a6, a7], st, s, k) = zev zk_X9_figure (239, [some (Sum.inr o), a1, a2, a3, a4, a5, a6, a7], Sum.inr o :: st, s, k) := zev_go rfl rfl
set_option maxRecDepth 8000 in
theorem zr_X9_figure_239 (ls : zLs) (st : List zAV) (s : zAS) (k : Nat × Nat) (o i : Nat) : zev zk_X9_figure (239, ls, Sum.inr (o, i) :: st, s, k) = zpush zk_X9_figure 242 ls st s k (zgv zEM 9 8 o i s.1) := zf_get rfl
set_option maxRecDepth 8000 in
theorem zr_X9_figure_242 (ls : zLs) (st : List zAV) (s : zAS) (k : Nat × Nat) : zev zk_X9_figure (242, ls, st, s, k) = zev zk_X9_figure (243, ls, Sum.inl (Value.int (2)) :: st, s, k) := zev_go rfl rfl
set_option maxRecDepth 8000 in
theorem zr_X9_figure_243 (ls : zLs) (st : List zAV) (s : zAS) (k : Nat × Nat) (o i : Nat) (j : Int32) : zev zk_X9_figure (243, ls, Sum.inl (Value.int j) :: Sum.inr (o, i) :: st, s, k) = zpush zk_X9_figure 244 ls st s k (zald zEM o i j s) := zf_iald rfl
set_option maxRecDepth 8000 in
theorem zr_X9_figure_244 (ls : zLs) (st : List zAV) (s : zAS) (k : Nat × Nat) (x y : Int32) : zev zk_X9_figure (244, ls, Sum.inl (Value.int y) :: Sum.inl (Value.int x) :: st, s, k) = zev zk_X9_figure (245, ls, Sum.inl (Value.int (x * y)) :: st, s, k) := zev_go rfl rfl
set_option maxRecDepth 8000 in
theorem zr_X9_figure_245 (ls : zLs) (st : List zAV) (s : zAS) (k : Nat × Nat) (x y : Int32) : zev zk_X9_figure (245, ls, Sum.inl (Value.int y) :: Sum.inl (Value.int x) :: st, s, k) = zev zk_X9_figure (246, ls, Sum.inl (Value.int (x - y)) :: st, s, k) := zev_go rfl rfl
set_option maxRecDepth 8000 in
theorem zr_X9_figure_246 (a1 a2 a3 a4 a5 a6 a7 : Option zAV) (st : List zAV) (s : zAS) (k : Nat × Nat) (o : Nat × Nat) : zev zk_X9_figure (246, [some (Sum.inr o), a1, a2, a3, a4, a5, a6, a7], st, s, k) = zev zk_X9_figure (247, [some (Sum.inr o), a1, a2, a3, a4, a5, a6, a7], Sum.inr o :: st, s, k) := zev_go rfl rfl
set_option maxRecDepth 8000 in
theorem zr_X9_figure_247 (ls : zLs) (st : List zAV) (s : zAS) (k : Nat × Nat) (o i : Nat) : zev zk_X9_figure (247, ls, Sum.inr (o, i) :: st, s, k) = zpush zk_X9_figure 250 ls st s k (zgv zEM 9 9 o i s.1) := zf_get rfl
set_option maxRecDepth 8000 in
theorem zr_X9_figure_250 (ls : zLs) (st : List zAV) (s : zAS) (k : Nat × Nat) : zev zk_X9_figure (250, ls, st, s, k) = zev zk_X9_figure (251, ls, Sum.inl (Value.int (2)) :: st, s, k) := zev_go rfl rfl
set_option maxRecDepth 8000 in
theorem zr_X9_figure_251 (ls : zLs) (st : List zAV) (s : zAS) (k : Nat × Nat) (o i : Nat) (j : Int32) : zev zk_X9_figure (251, ls, Sum.inl (Value.int j) :: Sum.inr (o, i) :: st, s, k) = zpush zk_X9_figure 252 ls st s k (zald zEM o i j s) := zf_iald rfl
set_option maxRecDepth 8000 in
theorem zr_X9_figure_252 (a1 a2 a3 a4 a5 a6 a7 : Option zAV) (st : List zAV) (s : zAS) (k : Nat × Nat) (o : Nat × Nat) : zev zk_X9_figure (252, [some (Sum.inr o), a1, a2, a3, a4, a5, a6, a7], st, s, k) = zev zk_X9_figure (253, [some (Sum.inr o), a1, a2, a3, a4, a5, a6, a7], Sum.inr o :: st, s, k) := zev_go rfl rfl
set_option maxRecDepth 8000 in
theorem zr_X9_figure_253 (ls : zLs) (st : List zAV) (s : zAS) (k : Nat × Nat) (o i : Nat) : zev zk_X9_figure (253, ls, Sum.inr (o, i) :: st, s, k) = zpush zk_X9_figure 256 ls st s k (zgv zEM 9 9 o i s.1) := zf_get rfl
set_option maxRecDepth 8000 in
theorem zr_X9_figure_256 (ls : zLs) (st : List zAV) (s : zAS) (k : Nat × Nat) : zev zk_X9_figure (256, ls, st, s, k) = zev zk_X9_figure (257, ls, Sum.inl (Value.int (2)) :: st, s, k) := zev_go rfl rfl
set_option maxRecDepth 8000 in
theorem zr_X9_figure_257 (ls : zLs) (st : List zAV) (s : zAS) (k : Nat × Nat) (o i : Nat) (j : Int32) : zev zk_X9_figure (257, ls, Sum.inl (Value.int j) :: Sum.inr (o, i) :: st, s, k) = zpush zk_X9_figure 258 ls st s k (zald zEM o i j s) := zf_iald rfl
set_option maxRecDepth 8000 in
theorem zr_X9_figure_258 (ls : zLs) (st : List zAV) (s : zAS) (k : Nat × Nat) (x y : Int32) : zev zk_X9_figure (258, ls, Sum.inl (Value.int y) :: Sum.inl (Value.int x) :: st, s, k) = zev zk_X9_figure (259, ls, Sum.inl (Value.int (x * y)) :: st, s, k) := zev_go rfl rfl
set_option maxRecDepth 8000 in
theorem zr_X9_figure_259 (ls : zLs) (st : List zAV) (s : zAS) (k : Nat × Nat) (x y : Int32) : zev zk_X9_figure (259, ls, Sum.inl (Value.int y) :: Sum.inl (Value.int x) :: st, s, k) = zev zk_X9_figure (260, ls, Sum.inl (Value.int (x - y)) :: st, s, k) := zev_go rfl rfl
set_option maxRecDepth 8000 in
theorem zr_X9_figure_260 (ls : zLs) (st : List zAV) (s : zAS) (k : Nat × Nat) (r v0 v1 v2 : zAV) (h : zcok zEM 9 0 0 (zR_X9_figure).cells (zR_X9_figure).slots r st k) : zev zk_X9_figure (260, ls, v2 :: v1 :: v0 :: r :: st, s, k) = zret zk_X9_figure 263 ls st (k.1 + 0, k.2 + 0) (m_X9_layLine [r, v0, v1, v2] s) := zf_callV (as := [v2, v1, v0]) 3 rfl rfl h
set_option maxRecDepth 8000 in
theorem zr_X9_figure_263 (ls : zLs) (st : List zAV) (s : zAS) (k : Nat × Nat) (v : zAV) (hv : zc1 v = true) : zev zk_X9_figure (263, ls, v :: st, s, k) = zev zk_X9_figure (264, ls, st, s, k) := zf_pop rfl hv
set_option maxRecDepth 8000 in
theorem zr_X9_figure_264 (a1 a2 a3 a4 a5 a6 a7 : Option zAV) (st : List zAV) (s : zAS) (k : Nat × Nat) (o : Nat × Nat) : zev zk_X9_figure (264, [some (Sum.inr o), a1, a2, a3, a4, a5, a6, a7], st, s, k) = zev zk_X9_figure (265, [some (Sum.inr o), a1, a2, a3, a4, a5, a6, a7], Sum.inr o :: st, s, k) := zev_go rfl rfl
set_option maxRecDepth 8000 in
theorem zr_X9_figure_265 (a0 a1 a3 a4 a5 a6 a7 : Option zAV) (st : List zAV) (s : zAS) (k : Nat × Nat) (x : Int32) : zev zk_X9_figure (265, [a0, a1, some (Sum.inl (Value.int x)), a3, a4, a5, a6, a7], st, s, k) = zev zk_X9_figure (266, [a0, a1, some (Sum.inl (Value.int x)), a3, a4, a5, a6, a7], Sum.inl (Value.int x) :: st, s, k) := zev_go rfl rfl
set_option maxRecDepth 8000 in
theorem zr_X9_figure_266 (a0 a1 a2 a4 a5 a6 a7 : Option zAV) (st : List zAV) (s : zAS) (k : Nat × Nat) (x : Int32) : zev zk_X9_figure (266, [a0, a1, a2, some (Sum.inl (Value.int x)), a4, a5, a6, a7], st, s, k) = zev zk_X9_figure (267, [a0, a1, a2, some (Sum.inl (Value.int x)), a4, a5, a6, a7], Sum.inl (Value.int x) :: st, s, k) := zev_go rfl rfl
set_option maxRecDepth 8000 in
theorem zr_X9_figure_267 (a0 a1 a2 a3 a5 a6 a7 : Option zAV) (st : List zAV) (s : zAS) (k : Nat × Nat) (x : Int32) : zev zk_X9_figure (267, [a0, a1, a2, a3, some (Sum.inl (Value.int x)), a5, a6, a7], st, s, k) = zev zk_X9_figure (269, [a0, a1, a2, a3, some (Sum.inl (Value.int x)), a5, a6, a7], Sum.inl (Value.int x) :: st, s, k) := zev_go rfl rfl
set_option maxRecDepth 8000 in
theorem zr_X9_figure_269 (a1 a2 a3 a4 a5 a6 a7 : Option zAV) (st : List zAV) (s : zAS) (k : Nat × Nat) (o : Nat × Nat) : zev zk_X9_figure (269, [some (Sum.inr o), a1, a2, a3, a4, a5, a6, a7], st, s, k) = zev zk_X9_figure (270, [some (Sum.inr o), a1, a2, a3, a4, a5, a6, a7], Sum.inr o :: st, s, k) := zev_go rfl rfl
set_option maxRecDepth 8000 in
theorem zr_X9_figure_270 (ls : zLs) (st : List zAV) (s : zAS) (k : Nat × Nat) (o i : Nat) : zev zk_X9_figure (270, ls, Sum.inr (o, i) :: st, s, k) = zpush zk_X9_figure 273 ls st s k (zgv zEM 9 6 o i s.1) := zf_get rfl
set_option maxRecDepth 8000 in
theorem zr_X9_figure_273 (ls : zLs) (st : List zAV) (s : zAS) (k : Nat × Nat) : zev zk_X9_figure (273, ls, st, s, k) = zev zk_X9_figure (274, ls, Sum.inl (Value.int (0)) :: st, s, k) := zev_go rfl rfl
set_option maxRecDepth 8000 in
theorem zr_X9_figure_274 (ls : zLs) (st : List zAV) (s : zAS) (k : Nat × Nat) (o i : Nat) (j : Int32) : zev zk_X9_figure (274, ls, Sum.inl (Value.int j) :: Sum.inr (o, i) :: st, s, k) = zpush zk_X9_figure 275 ls st s k (zald zEM o i j s) := zf_iald rfl
set_option maxRecDepth 8000 in
theorem zr_X9_figure_275 (a1 a2 a3 a4 a5 a6 a7 : Option zAV) (st : List zAV) (s : zAS) (k : Nat × Nat) (o : Nat × Nat) : zev zk_X9_figure (275, [some (Sum.inr o), a1, a2, a3, a4, a5, a6, a7], st, s, k) = zev zk_X9_figure (276, [some (Sum.inr o), a1, a2, a3, a4, a5, a6, a7], Sum.inr o :: st, s, k) := zev_go rfl rfl
set_option maxRecDepth 8000 in
theorem zr_X9_figure_276 (ls : zLs) (st : List zAV) (s : zAS) (k : Nat × Nat) (o i : Nat) : zev zk_X9_figure (276, ls, Sum.inr (o, i) :: st, s, k) = zpush zk_X9_figure 279 ls st s k (zgv zEM 9 6 o i s.1) := zf_get rfl
set_option maxRecDepth 8000 in
theorem zr_X9_figure_279 (ls : zLs) (st : List zAV) (s : zAS) (k : Nat × Nat) : zev zk_X9_figure (279, ls, st, s, k) = zev zk_X9_figure (280, ls, Sum.inl (Value.int (1)) :: st, s, k) := zev_go rfl rfl
set_option maxRecDepth 8000 in
theorem zr_X9_figure_280 (ls : zLs) (st : List zAV) (s : zAS) (k : Nat × Nat) (o i : Nat) (j : Int32) : zev zk_X9_figure (280, ls, Sum.inl (Value.int j) :: Sum.inr (o, i) :: st, s, k) = zpush zk_X9_figure 281 ls st s k (zald zEM o i j s) := zf_iald rfl
set_option maxRecDepth 8000 in
theorem zr_X9_figure_281 (a1 a2 a3 a4 a5 a6 a7 : Option zAV) (st : List zAV) (s : zAS) (k : Nat × Nat) (o : Nat × Nat) : zev zk_X9_figure (281, [some (Sum.inr o), a1, a2, a3, a4, a5, a6, a7], st, s, k) = zev zk_X9_figure (282, [some (Sum.inr o), a1, a2, a3, a4, a5, a6, a7], Sum.inr o :: st, s, k) := zev_go rfl rfl
set_option maxRecDepth 8000 in
theorem zr_X9_figure_282 (ls : zLs) (st : List zAV) (s : zAS) (k : Nat × Nat) (o i : Nat) : zev zk_X9_figure (282, ls, Sum.inr (o, i) :: st, s, k) = zpush zk_X9_figure 285 ls st s k (zgv zEM 9 6 o i s.1) := zf_get rfl
set_option maxRecDepth 8000 in
theorem zr_X9_figure_285 (ls : zLs) (st : List zAV) (s : zAS) (k : Nat × Nat) : zev zk_X9_figure (285, ls, st, s, k) = zev zk_X9_figure (286, ls, Sum.inl (Value.int (2)) :: st, s, k) := zev_go rfl rfl
set_option maxRecDepth 8000 in
theorem zr_X9_figure_286 (ls : zLs) (st : List zAV) (s : zAS) (k : Nat × Nat) (o i : Nat) (j : Int32) : zev zk_X9_figure (286, ls, Sum.inl (Value.int j) :: Sum.inr (o, i) :: st, s, k) = zpush zk_X9_figure 287 ls st s k (zald zEM o i j s) := zf_iald rfl
set_option maxRecDepth 8000 in
theorem zr_X9_figure_287 (ls : zLs) (st : List zAV) (s : zAS) (k : Nat × Nat) (r v0 v1 v2 v3 v4 v5 : zAV) (h : zcok zEM 9 0 0 (zR_X9_figure).cells (zR_X9_figure).slots r st k) : zev zk_X9_figure (287, ls, v5 :: v4 :: v3 :: v2 :: v1 :: v0 :: r :: st, s, k) = zret zk_X9_figure 290 ls st (k.1 + 0, k.2 + 0) (m_X9_intersect [r, v0, v1, v2, v3, v4, v5] s) := zf_callV (as := [v5, v4, v3, v2, v1, v0]) 6 rfl rfl h
set_option maxRecDepth 8000 in
theorem zr_X9_figure_290 (ls : zLs) (st : List zAV) (s : zAS) (k : Nat × Nat) (v : zAV) (hv : zc1 v = true) : zev zk_X9_figure (290, ls, v :: st, s, k) = zev zk_X9_figure (291, ls, st, s, k) := zf_pop rfl hv
set_option maxRecDepth 8000 in
theorem zr_X9_figure_291 (a1 a2 a3 a4 a5 a6 a7 : Option zAV) (st : List zAV) (s : zAS) (k : Nat × Nat) (o : Nat × Nat) : zev zk_X9_figure (291, [some (Sum.inr o), a1, a2, a3, a4, a5, a6, a7], st, s, k) = zev zk_X9_figure (292, [some (Sum.inr o), a1, a2, a3, a4, a5, a6, a7], Sum.inr o :: st, s, k) := zev_go rfl rfl
set_option maxRecDepth 8000 in
theorem zr_X9_figure_292 (a1 a2 a3 a4 a5 a6 a7 : Option zAV) (st : List zAV) (s : zAS) (k : Nat × Nat) (o : Nat × Nat) : zev zk_X9_figure (292, [some (Sum.inr o), a1, a2, a3, a4, a5, a6, a7], st, s, k) = zev zk_X9_figure (293, [some (Sum.inr o), a1, a2, a3, a4, a5, a6, a7], Sum.inr o :: st, s, k) := zev_go rfl rfl
set_option maxRecDepth 8000 in
theorem zr_X9_figure_293 (ls : zLs) (st : List zAV) (s : zAS) (k : Nat × Nat) (o i : Nat) : zev zk_X9_figure (293, ls, Sum.inr (o, i) :: st, s, k) = zpush zk_X9_figure 296 ls st s k (zgv zEM 9 6 o i s.1) := zf_get rfl
set_option maxRecDepth 8000 in
theorem zr_X9_figure_296 (ls : zLs) (st : List zAV) (s : zAS) (k : Nat × Nat) : zev zk_X9_figure (296, ls, st, s, k) = zev zk_X9_figure (297, ls, Sum.inl (Value.int (0)) :: st, s, k) := zev_go rfl rfl
set_option maxRecDepth 8000 in
theorem zr_X9_figure_297 (ls : zLs) (st : List zAV) (s : zAS) (k : Nat × Nat) (o i : Nat) (j : Int32) : zev zk_X9_figure (297, ls, Sum.inl (Value.int j) :: Sum.inr (o, i) :: st, s, k) = zpush zk_X9_figure 298 ls st s k (zald zEM o i j s) := zf_iald rfl
set_option maxRecDepth 8000 in
theorem zr_X9_figure_298 (a1 a2 a3 a4 a5 a6 a7 : Option zAV) (st : List zAV) (s : zAS) (k : Nat × Nat) (o : Nat × Nat) : zev zk_X9_figure (298, [some (Sum.inr o), a1, a2, a3, a4, a5, a6, a7], st, s, k) = zev zk_X9_figure (299, [some (Sum.inr o), a1, a2, a3, a4, a5, a6, a7], Sum.inr o :: st, s, k) := zev_go rfl rfl
set_option maxRecDepth 8000 in
theorem zr_X9_figure_299 (ls : zLs) (st : List zAV) (s : zAS) (k : Nat × Nat) (o i : Nat) : zev zk_X9_figure (299, ls, Sum.inr (o, i) :: st, s, k) = zpush zk_X9_figure 302 ls st s k (zgv zEM 9 6 o i s.1) := zf_get rfl
set_option maxRecDepth 8000 in
theorem zr_X9_figure_302 (ls : zLs) (st : List zAV) (s : zAS) (k : Nat × Nat) : zev zk_X9_figure (302, ls, st, s, k) = zev zk_X9_figure (303, ls, Sum.inl (Value.int (1)) :: st, s, k) := zev_go rfl rfl
set_option maxRecDepth 8000 in
theorem zr_X9_figure_303 (ls : zLs) (st : List zAV) (s : zAS) (k : Nat × Nat) (o i : Nat) (j : Int32) : zev zk_X9_figure (303, ls, Sum.inl (Value.int j) :: Sum.inr (o, i) :: st, s, k) = zpush zk_X9_figure 304 ls st s k (zald zEM o i j s) := zf_iald rfl
set_option maxRecDepth 8000 in
theorem zr_X9_figure_304 (a1 a2 a3 a4 a5 a6 a7 : Option zAV) (st : List zAV) (s : zAS) (k : Nat × Nat) (o : Nat × Nat) : zev zk_X9_figure (304, [some (Sum.inr o), a1, a2, a3, a4, a5, a6, a7], st, s, k) = zev zk_X9_figure (305, [some (Sum.inr o), a1, a2, a3, a4, a5, a6, a7], Sum.inr o :: st, s, k) := zev_go rfl rfl
set_option maxRecDepth 8000 in
theorem zr_X9_figure_305 (ls : zLs) (st : List zAV) (s : zAS) (k : Nat × Nat) (o i : Nat) : zev zk_X9_figure (305, ls, Sum.inr (o, i) :: st, s, k) = zpush zk_X9_figure 308 ls st s k (zgv zEM 9 8 o i s.1) := zf_get rfl
set_option maxRecDepth 8000 in
theorem zr_X9_figure_308 (ls : zLs) (st : List zAV) (s : zAS) (k : Nat × Nat) : zev zk_X9_figure (308, ls, st, s, k) = zev zk_X9_figure (309, ls, Sum.inl (Value.int (0)) :: st, s, k) := zev_go rfl rfl
set_option maxRecDepth 8000 in
theorem zr_X9_figure_309 (ls : zLs) (st : List zAV) (s : zAS) (k : Nat × Nat) (o i : Nat) (j : Int32) : zev zk_X9_figure (309, ls, Sum.inl (Value.int j) :: Sum.inr (o, i) :: st, s, k) = zpush zk_X9_figure 310 ls st s k (zald zEM o i j s) := zf_iald rfl
set_option maxRecDepth 8000 in
theorem zr_X9_figure_310 (a1 a2 a3 a4 a5 a6 a7 : Option zAV) (st : List zAV) (s : zAS) (k : Nat × Nat) (o : Nat × Nat) : zev zk_X9_figure (310, [some (Sum.inr o), a1, a2, a3, a4, a5, a6, a7], st, s, k) = zev zk_X9_figure (311, [some (Sum.inr o), a1, a2, a3, a4, a5, a6, a7], Sum.inr o :: st, s, k) := zev_go rfl rfl
set_option maxRecDepth 8000 in
theorem zr_X9_figure_311 (ls : zLs) (st : List zAV) (s : zAS) (k : Nat × Nat) (o i : Nat) : zev zk_X9_figure (311, ls, Sum.inr (o, i) :: st, s, k) = zpush zk_X9_figure 314 ls st s k (zgv zEM 9 9 o i s.1) := zf_get rfl
set_option maxRecDepth 8000 in
theorem zr_X9_figure_314 (ls : zLs) (st : List zAV) (s : zAS) (k : Nat × Nat) : zev zk_X9_figure (314, ls, st, s, k) = zev zk_X9_figure (315, ls, Sum.inl (Value.int (0)) :: st, s, k) := zev_go rfl rfl
set_option maxRecDepth 8000 in
theorem zr_X9_figure_315 (ls : zLs) (st : List zAV) (s : zAS) (k : Nat × Nat) (o i : Nat) (j : Int32) : zev zk_X9_figure (315, ls, Sum.inl (Value.int j) :: Sum.inr (o, i) :: st, s, k) = zpush zk_X9_figure 316 ls st s k (zald zEM o i j s) := zf_iald rfl
set_option maxRecDepth 8000 in
theorem zr_X9_figure_316 (ls : zLs) (st : List zAV) (s : zAS) (k : Nat × Nat) (r v0 v1 v2 v3 : zAV) (h : zcok zEM 9 0 0 (zR_X9_figure).cells (zR_X9_figure).slots r st k) : zev zk_X9_figure (316, ls, v3 :: v2 :: v1 :: v0 :: r :: st, s, k) = zret zk_X9_figure 319 ls st (k.1 + 0, k.2 + 0) (m_X9_squareOf [r, v0, v1, v2, v3] s) := zf_callV (as := [v3, v2, v1, v0]) 4 rfl rfl h
set_option maxRecDepth 8000 in
theorem zr_X9_figure_319 (a0 a1 a2 a3 a4 a5 a6 a7 : Option zAV) (st : List zAV) (s : zAS) (k : Nat × Nat) (x : Int32) : zev zk_X9_figure (319, [a0, a1, a2, a3, a4, a5, a6, a7], Sum.inl (Value.int x) :: st, s, k) = zev zk_X9_figure (321, [a0, a1, a2, a3, zk1 a4, some (Sum.inl (Value.int x)), a6, a7], st, s, k) := zev_go rfl rfl
set_option maxRecDepth 8000 in
theorem zr_X9_figure_321 (ls : zLs) (st : List zAV) (s : zAS) (k : Nat × Nat) : zev zk_X9_figure (321, ls, st, s, k) = zev zk_X9_figure (322, ls, Sum.inl (Value.int (1)) :: st, s, k) := zev_go rfl rfl
set_option maxRecDepth 8000 in
theorem zr_X9_figure_322 (a0 a1 a2 a3 a4 a5 a6 a7 : Option zAV) (st : List zAV) (s : zAS) (k : Nat × Nat) (x : Int32) : zev zk_X9_figure (322, [a0, a1, a2, a3, a4, a5, a6, a7], Sum.inl (Value.int x) :: st, s, k) = zev zk_X9_figure (324, [a0, a1, a2, a3, a4, zk1 a5, some (Sum.inl (Value.int x)), a7], st, s, k) := zev_go rfl rfl
set_option maxRecDepth 8000 in
theorem zr_X9_figure_324 (ls : zLs) (st : List zAV) (s : zAS) (k : Nat × Nat) : zev zk_X9_figure (324, ls, st, s, k) = zev zk_X9_figure (325, ls, Sum.inl (Value.int (1)) :: st, s, k) := zev_go rfl rfl
set_option maxRecDepth 8000 in
theorem zr_X9_figure_325 (a0 a1 a2 a3 a4 a5 a6 a7 : Option zAV) (st : List zAV) (s : zAS) (k : Nat × Nat) (x : Int32) : zev zk_X9_figure (325, [a0, a1, a2, a3, a4, a5, a6, a7], Sum.inl (Value.int x) :: st, s, k) = zev zk_X9_figure (327, [a0, a1, a2, a3, a4, a5, zk1 a6, some (Sum.inl (Value.int x))], st, s, k) := zev_go rfl rfl
set_option maxRecDepth 8000 in
theorem zr_X9_figure_327 (a0 a1 a2 a3 a4 a5 a6 : Option zAV) (st : List zAV) (s : zAS) (k : Nat × Nat) (x : Int32) : zev zk_X9_figure (327, [a0, a1, a2, a3, a4, a5, a6, some (Sum.inl (Value.int x))], st, s, k) = zev zk_X9_figure (329, [a0, a1, a2, a3, a4, a5, a6, some (Sum.inl (Value.int x))], Sum.inl (Value.int x) :: st, s, k) := zev_go rfl rfl
set_option maxRecDepth 8000 in
theorem zr_X9_figure_329 (a1 a2 a3 a4 a5 a6 a7 : Option zAV) (st : List zAV) (s : zAS) (k : Nat × Nat) (o : Nat × Nat) : zev zk_X9_figure (329, [some (Sum.inr o), a1, a2, a3, a4, a5, a6, a7], st, s, k) = zev zk_X9_figure (330, [some (Sum.inr o), a1, a2, a3, a4, a5, a6, a7], Sum.inr o :: st, s, k) := zev_go rfl rfl
set_option maxRecDepth 8000 in
theorem zr_X9_figure_330 (ls : zLs) (st : List zAV) (s : zAS) (k : Nat × Nat) (o i : Nat) : zev zk_X9_figure (330, ls, Sum.inr (o, i) :: st, s, k) = zpush zk_X9_figure 333 ls st s k (zgv zEM 9 7 o i s.1) := zf_get rfl
set_option maxRecDepth 8000 in
theorem zr_X9_figure_333 (ls : zLs) (st : List zAV) (s : zAS) (k : Nat × Nat) (x y : Int32) : zev zk_X9_figure (333, ls, Sum.inl (Value.int y) :: Sum.inl (Value.int x) :: st, s, k) = if decide (y ≤ x) = true then zev zk_X9_figure (389, ls, st, s, k) else zev zk_X9_figure (336, ls, st, s, k) := zf_cmp (f := fun x y => decide (y ≤ x)) rfl
set_option maxRecDepth 8000 in
theorem zr_X9_figure_336 (a0 a1 a2 a3 a4 a5 a7 : Option zAV) (st : List zAV) (s : zAS) (k : Nat × Nat) (x : Int32) : zev zk_X9_figure (336, [a0, a1, a2, a3, a4, a5, some (Sum.inl (Value.int x)), a7], st, s, k) = zev zk_X9_figure (338, [a0, a1, a2, a3, a4, a5, some (Sum.inl (Value.int x)), a7], Sum.inl (Value.int x) :: st, s, k) := zev_go rfl rfl
set_option maxRecDepth 8000 in
theorem zr_X9_figure_338 (ls : zLs) (st : List zAV) (s : zAS) (k : Nat × Nat) (x : Int32) : zev zk_X9_figure (338, ls, Sum.inl (Value.int x) :: st, s, k) = if decide (x = 0) = true then zev zk_X9_figure (380, ls, st, s, k) else zev zk_X9_figure (341, ls, st, s, k) := zf_if (f := fun x => decide (x = 0)) rfl
set_option maxRecDepth 8000 in
theorem zr_X9_figure_341 (a1 a2 a3 a4 a5 a6 a7 : Option zAV) (st : List zAV) (s : zAS) (k : Nat × Nat) (o : Nat × Nat) : zev zk_X9_figure (341, [some (Sum.inr o), a1, a2, a3, a4, a5, a6, a7], st, s, k) = zev zk_X9_figure (342, [some (Sum.inr o), a1, a2, a3, a4, a5, a6, a7], Sum.inr o :: st, s, k) := zev_go rfl rfl
set_option maxRecDepth 8000 in
theorem zr_X9_figure_342 (a1 a2 a3 a4 a5 a6 a7 : Option zAV) (st : List zAV) (s : zAS) (k : Nat × Nat) (o : Nat × Nat) : zev zk_X9_figure (342, [some (Sum.inr o), a1, a2, a3, a4, a5, a6, a7], st, s, k) = zev zk_X9_figure (343, [some (Sum.inr o), a1, a2, a3, a4, a5, a6, a7], Sum.inr o :: st, s, k) := zev_go rfl rfl
set_option maxRecDepth 8000 in
theorem zr_X9_figure_343 (ls : zLs) (st : List zAV) (s : zAS) (k : Nat × Nat) (o i : Nat) : zev zk_X9_figure (343, ls, Sum.inr (o, i) :: st, s, k) = zpush zk_X9_figure 346 ls st s k (zgv zEM 9 6 o i s.1) := zf_get rfl
set_option maxRecDepth 8000 in
theorem zr_X9_figure_346 (ls : zLs) (st : List zAV) (s : zAS) (k : Nat × Nat) : zev zk_X9_figure (346, ls, st, s, k) = zev zk_X9_figure (347, ls, Sum.inl (Value.int (0)) :: st, s, k) := zev_go rfl rfl
set_option maxRecDepth 8000 in
theorem zr_X9_figure_347 (ls : zLs) (st : List zAV) (s : zAS) (k : Nat × Nat) (o i : Nat) (j : Int32) : zev zk_X9_figure (347, ls, Sum.inl (Value.int j) :: Sum.inr (o, i) :: st, s, k) = zpush zk_X9_figure 348 ls st s k (zald zEM o i j s) := zf_iald rfl
set_option maxRecDepth 8000 in
theorem zr_X9_figure_348 (a1 a2 a3 a4 a5 a6 a7 : Option zAV) (st : List zAV) (s : zAS) (k : Nat × Nat) (o : Nat × Nat) : zev zk_X9_figure (348, [some (Sum.inr o), a1, a2, a3, a4, a5, a6, a7], st, s, k) = zev zk_X9_figure (349, [some (Sum.inr o), a1, a2, a3, a4, a5, a6, a7], Sum.inr o :: st, s, k) := zev_go rfl rfl
set_option maxRecDepth 8000 in
theorem zr_X9_figure_349 (ls : zLs) (st : List zAV) (s : zAS) (k : Nat × Nat) (o i : Nat) : zev zk_X9_figure (349, ls, Sum.inr (o, i) :: st, s, k) = zpush zk_X9_figure 352 ls st s k (zgv zEM 9 6 o i s.1) := zf_get rfl
set_option maxRecDepth 8000 in
theorem zr_X9_figure_352 (ls : zLs) (st : List zAV) (s : zAS) (k : Nat × Nat) : zev zk_X9_figure (352, ls, st, s, k) = zev zk_X9_figure (353, ls, Sum.inl (Value.int (1)) :: st, s, k) := zev_go rfl rfl
set_option maxRecDepth 8000 in
theorem zr_X9_figure_353 (ls : zLs) (st : List zAV) (s : zAS) (k : Nat × Nat) (o i : Nat) (j : Int32) : zev zk_X9_figure (353, ls, Sum.inl (Value.int j) :: Sum.inr (o, i) :: st, s, k) = zpush zk_X9_figure 354 ls st s k (zald zEM o i j s) := zf_iald rfl
set_option maxRecDepth 8000 in
theorem zr_X9_figure_354 (a1 a2 a3 a4 a5 a6 a7 : Option zAV) (st : List zAV) (s : zAS) (k : Nat × Nat) (o : Nat × Nat) : zev zk_X9_figure (354, [some (Sum.inr o), a1, a2, a3, a4, a5, a6, a7], st, s, k) = zev zk_X9_figure (355, [some (Sum.inr o), a1, a2, a3, a4, a5, a6, a7], Sum.inr o :: st, s, k) := zev_go rfl rfl
set_option maxRecDepth 8000 in
theorem zr_X9_figure_355 (ls : zLs) (st : List zAV) (s : zAS) (k : Nat × Nat) (o i : Nat) : zev zk_X9_figure (355, ls, Sum.inr (o, i) :: st, s, k) = zpush zk_X9_figure 358 ls st s k (zgv zEM 9 8 o i s.1) := zf_get rfl
set_option maxRecDepth 8000 in
theorem zr_X9_figure_358 (a0 a1 a2 a3 a4 a5 a6 : Option zAV) (st : List zAV) (s : zAS) (k : Nat × Nat) (x : Int32) : zev zk_X9_figure (358, [a0, a1, a2, a3, a4, a5, a6, some (Sum.inl (Value.int x))], st, s, k) = zev zk_X9_figure (360, [a0, a1, a2, a3, a4, a5, a6, some (Sum.inl (Value.int x))], Sum.inl (Value.int x) :: st, s, k) := zev_go rfl rfl
set_option maxRecDepth 8000 in
theorem zr_X9_figure_360 (ls : zLs) (st : List zAV) (s : zAS) (k : Nat × Nat) (o i : Nat) (j : Int32) : zev zk_X9_figure (360, ls, Sum.inl (Value.int j) :: Sum.inr (o, i) :: st, s, k) = zpush zk_X9_figure 361 ls st s k (zald zEM o i j s) := zf_iald rfl
set_option maxRecDepth 8000 in
theorem zr_X9_figure_361 (a1 a2 a3 a4 a5 a6 a7 : Option zAV) (st : List zAV) (s : zAS) (k : Nat × Nat) (o : Nat × Nat) : zev zk_X9_figure (361, [some (Sum.inr o), a1, a2, a3, a4, a5, a6, a7], st, s, k) = zev zk_X9_figure (362, [some (Sum.inr o), a1, a2, a3, a4, a5, a6, a7], Sum.inr o :: st, s, k) := zev_go rfl rfl
set_option maxRecDepth 8000 in
theorem zr_X9_figure_362 (ls : zLs) (st : List zAV) (s : zAS) (k : Nat × Nat) (o i : Nat) : zev zk_X9_figure (362, ls, Sum.inr (o, i) :: st, s, k) = zpush zk_X9_figure 365 ls st s k (zgv zEM 9 9 o i s.1) := zf_get rfl
set_option maxRecDepth 8000 in
theorem zr_X9_figure_365 (a0 a1 a2 a3 a4 a5 a6 : Option zAV) (st : List zAV) (s : zAS) (k : Nat × Nat) (x : Int32) : zev zk_X9_figure (365, [a0, a1, a2, a3, a4, a5, a6, some (Sum.inl (Value.int x))], st, s, k) = zev zk_X9_figure (367, [a0, a1, a2, a3, a4, a5, a6, some (Sum.inl (Value.int x))], Sum.inl (Value.int x) :: st, s, k) := zev_go rfl rfl
set_option maxRecDepth 8000 in
theorem zr_X9_figure_367 (ls : zLs) (st : List zAV) (s : zAS) (k : Nat × Nat) (o i : Nat) (j : Int32) : zev zk_X9_figure (367, ls, Sum.inl (Value.int j) :: Sum.inr (o, i) :: st, s, k) = zpush zk_X9_figure 368 ls st s k (zald zEM o i j s) := zf_iald rfl
set_option maxRecDepth 8000 in
theorem zr_X9_figure_368 (ls : zLs) (st : List zAV) (s : zAS) (k : Nat × Nat) (r v0 v1 v2 v3 : zAV) (h : zcok zEM 9 0 0 (zR_X9_figure).cells (zR_X9_figure).slots r st k) : zev zk_X9_figure (368, ls, v3 :: v2 :: v1 :: v0 :: r :: st, s, k) = zret zk_X9_figure 371 ls st (k.1 + 0, k.2 + 0) (m_X9_squareOf [r, v0, v1, v2, v3] s) := zf_callV (as := [v3, v2, v1, v0]) 4 rfl rfl h
set_option maxRecDepth 8000 in
theorem zr_X9_figure_371 (a0 a1 a2 a3 a4 a6 a7 : Option zAV) (st : List zAV) (s : zAS) (k : Nat × Nat) (x : Int32) : zev zk_X9_figure (371, [a0, a1, a2, a3, a4, some (Sum.inl (Value.int x)), a6, a7], st, s, k) = zev zk_X9_figure (373, [a0, a1, a2, a3, a4, some (Sum.inl (Value.int x)), a6, a7], Sum.inl (Value.int x) :: st, s, k) := zev_go rfl rfl
set_option maxRecDepth 8000 in
theorem zr_X9_figure_373 (ls : zLs) (st : List zAV) (s : zAS) (k : Nat × Nat) (x y : Int32) : zev zk_X9_figure (373, ls, Sum.inl (Value.int y) :: Sum.inl (Value.int x) :: st, s, k) = if decide (¬ x = y) = true then zev zk_X9_figure (380, ls, st, s, k) else zev zk_X9_figure (376, ls, st, s, k) := zf_cmp (f := fun x y => decide (¬ x = y)) rfl
set_option maxRecDepth 8000 in
theorem zr_X9_figure_376 (ls : zLs) (st : List zAV) (s : zAS) (k : Nat × Nat) : zev zk_X9_figure (376, ls, st, s, k) = zev zk_X9_figure (377, ls, Sum.inl (Value.int (1)) :: st, s, k) := zev_go rfl rfl
set_option maxRecDepth 8000 in
theorem zr_X9_figure_377 (ls : zLs) (st : List zAV) (s : zAS) (k : Nat × Nat) : zev zk_X9_figure (377, ls, st, s, k) = zev zk_X9_figure (381, ls, st, s, k) := zev_go rfl rfl
set_option maxRecDepth 8000 in
theorem zr_X9_figure_380 (ls : zLs) (st : List zAV) (s : zAS) (k : Nat × Nat) : zev zk_X9_figure (380, ls, st, s, k) = zev zk_X9_figure (381, ls, Sum.inl (Value.int (0)) :: st, s, k) := zev_go rfl rfl
set_option maxRecDepth 8000 in
theorem zr_X9_figure_381 (a0 a1 a2 a3 a4 a5 a6 a7 : Option zAV) (st : List zAV) (s : zAS) (k : Nat × Nat) (x : Int32) : zev zk_X9_figure (381, [a0, a1, a2, a3, a4, a5, a6, a7], Sum.inl (Value.int x) :: st, s, k) = zev zk_X9_figure (383, [a0, a1, a2, a3, a4, zk1 a5, some (Sum.inl (Value.int x)), a7], st, s, k) := zev_go rfl rfl
set_option maxRecDepth 8000 in
theorem zr_X9_figure_383 (a0 a1 a2 a3 a4 a5 a6 : Option zAV) (st : List zAV) (s : zAS) (k : Nat × Nat) (x : Int32) : zev zk_X9_figure (383, [a0, a1, a2, a3, a4, a5, a6, some (Sum.inl (Value.int x))], st, s, k) = zev zk_X9_figure (386, [a0, a1, a2, a3, a4, a5, zk1 a6, some (Sum.inl (Value.int (x + (1))))], st, s, k) := zev_go rfl rfl
set_option maxRecDepth 8000 in
theorem zr_X9_figure_386 (ls : zLs) (st : List zAV) (s : zAS) (k : Nat × Nat) : zev zk_X9_figure (386, ls, st, s, k) = zev zk_X9_figure (327, ls, st, s, k) := zev_go rfl rfl
set_option maxRecDepth 8000 in
theorem zr_X9_figure_389 (a0 a1 a2 a3 a4 a5 a7 : Option zAV) (st : List zAV) (s : zAS) (k : Nat × Nat) (x : Int32) : zev zk_X9_figure (389, [a0, a1, a2, a3, a4, a5, some (Sum.inl (Value.int x)), a7], st, s, k) = zev zk_X9_figure (391, [a0, a1, a2, a3, a4, a5, some (Sum.inl (Value.int x)), a7], Sum.inl (Value.int x) :: st, s, k) := zev_go rfl rfl
set_option maxRecDepth 8000 in
theorem zr_X9_figure_391 (ls : zLs) (st : List zAV) (s : zAS) (k : Nat × Nat) (x : Int32) : zev zk_X9_figure (391, ls, Sum.inl (Value.int x) :: st, s, k) = if decide (x = 0) = true then zev zk_X9_figure (398, ls, st, s, k) else zev zk_X9_figure (394, ls, st, s, k) := zf_if (f := fun x => decide (x = 0)) rfl
set_option maxRecDepth 8000 in
theorem zr_X9_figure_394 (ls : zLs) (st : List zAV) (s : zAS) (k : Nat × Nat) : zev zk_X9_figure (394, ls, st, s, k) = zev zk_X9_figure (395, ls, Sum.inl (Value.int (2)) :: st, s, k) := zev_go rfl rfl
set_option maxRecDepth 8000 in
theorem zr_X9_figure_395 (ls : zLs) (st : List zAV) (s : zAS) (k : Nat × Nat) : zev zk_X9_figure (395, ls, st, s, k) = zev zk_X9_figure (399, ls, st, s, k) := zev_go rfl rfl
set_option maxRecDepth 8000 in
theorem zr_X9_figure_398 (ls : zLs) (st : List zAV) (s : zAS) (k : Nat × Nat) : zev zk_X9_figure (398, ls, st, s, k) = zev zk_X9_figure (399, ls, Sum.inl (Value.int (3)) :: st, s, k) := zev_go rfl rfl
set_option maxRecDepth 8000 in
theorem zr_X9_figure_399 (ls : zLs) (s : zAS) (k : Nat × Nat) (x : Int32) : zev zk_X9_figure (399, ls, [Sum.inl (Value.int x)], s, k) = some (.inl (some (Sum.inl (Value.int x))), s) := zf_reti rfl
