/-! X9_locus: PrimePlaneModel.locus(III)I -/
abbrev zR_X9_locus : Room := ({ frames := 9, cells := 0, slots := 0, locals := 209 } : Room)
noncomputable def zl_X9_locus : List (Nat × zOp) := [(0, z_lda 0 1), (1, z_ic (0) 2), (2, z_put zEM 9 0 false 5), (5, z_lda 0 6), (6, z_ldi 1 7), (7, z_callV zEM 9 m_X9_isObject 1 0 0 (zR_X9_locus).cells (zR_X9_locus).slots 10), (10, z_if (fun x => decide (x = 0)) 30 13), (13, z_lda 0 14), (14, z_ldi 2 15), (15, z_callV zEM 9 m_X9_isObject 1 0 0 (zR_X9_locus).cells (zR_X9_locus).slots 18), (18, z_if (fun x => decide (x = 0)) 30 21), (21, z_ldi 3 22), (22, z_ic (0) 23), (23, z_ic (3) 24), (24, z_callS m_X9_isIn 3 0 0 (zR_X9_locus).cells (zR_X9_locus).slots 27), (27, z_if (fun x => decide (¬ x = 0)) 36 30), (30, z_lda 0 31), (31, z_ic (1) 32), (32, z_callV zEM 9 m_X9_fail 1 0 0 (zR_X9_locus).cells (zR_X9_locus).slots 35), (35, z_reti false), (36, z_lda 0 37), (37, z_ldi 1 38), (38, z_callV zEM 9 m_X9_sort 1 0 0 (zR_X9_locus).cells (zR_X9_locus).slots 41), (41, z_if (fun x => decide (¬ x = 0)) 54 44), (44, z_lda 0 45), (45, z_ldi 2 46), (46, z_ic (1) 47), (47, z_callV zEM 9 m_X9_get 2 0 0 (zR_X9_locus).cells (zR_X9_locus).slots 50), (50, z_ic (1) 51), (51, z_cmp (fun x y => decide (x = y)) 60 54), (54, z_lda 0 55), (55, z_ic (2) 56), (56, z_callV zEM 9 m_X9_fail 1 0 0 (zR_X9_locus).cells (zR_X9_locus).slots 59), (59, z_reti false), (60, z_lda 0 61), (61, z_ldi 2 62), (62, z_ic (5) 63), (63, z_callV zEM 9 m_X9_get 2 0 0 (zR_X9_locus).cells (zR_X9_locus).slots 66), (66, z_sti 4 68), (68, z_lda 0 69), (69, z_ldi 2 70), (70, z_ic (6) 72), (72, z_callV zEM 9 m_X9_get 2 0 0 (zR_X9_locus).cells (zR_X9_locus).slots 75), (75, z_sti 5 77), (77, z_ic (0) 78), (78, z_sti 6 80), (80, z_lda 0 81), (81, z_ic (0) 82), (82, z_put zEM 9 7 false 85), (85, z_ic (0) 86), (86, z_sti 7 88), (88, z_ldi 7 90), (90, z_lda 0 91), (91, z_get zEM 9 1 94), (94, z_cmp (fun x y => decide (y ≤ x)) 140 97), (97, z_lda 0 98), (98, z_ldi 2 99), (99, z_ldi 7 101), (101, z_ldi 5 103), (103, z_callV zEM 9 m_X9_place 3 0 0 (zR_X9_locus).cells (zR_X9_locus).slots 106), (106, z_lda 0 107), (107, z_ldi 1 108), (108, z_callV zEM 9 m_X9_lacks 1 0 0 (zR_X9_locus).cells (zR_X9_locus).slots 111), (111, z_if (fun x => decide (x = 0)) 120 114), (114, z_iinc 6 (1) 117), (117, z_goto 134), (120, z_lda 0 121), (121, z_lda 0 122), (122, z_ldi 1 123), (123, z_callV zEM 9 m_X9_x 1 0 0 (zR_X9_locus).cells (zR_X9_locus).slots 126), (126, z_lda 0 127), (127, z_ldi 1 128), (128, z_callV zEM 9 m_X9_y 1 0 0 (zR_X9_locus).cells (zR_X9_locus).slots 131), (131, z_callV zEM 9 m_X9_meet 2 0 0 (zR_X9_locus).cells (zR_X9_locus).slots 134), (134, z_iinc 7 (1) 137), (137, z_goto 88), (140, z_lda 0 141), (141, z_ldi 2 142), (142, z_ldi 4 144), (144, z_ldi 5 146), (146, z_callV zEM 9 m_X9_place 3 0 0 (zR_X9_locus).cells (zR_X9_locus).slots 149), (149, z_ic (0) 150), (150, z_sti 7 152), (152, z_ic (0) 153), (153, z_sti 8 155), (155, z_ldi 8 157), (157, z_lda 0 158), (158, z_get zEM 9 7 161), (161, z_cmp (fun x y => decide (y ≤ x)) 195 164), (164, z_ldi 7 166), (166, z_lda 0 167), (167, z_get zEM 9 1 170), (170, z_lda 0 171), (171, z_get zEM 9 8 174), (174, z_ldi 8 176), (176, z_iald zEM 177), (177, z_bin (fun x y => x * y) 178), (178, z_lda 0 179), (179, z_get zEM 9 9 182), (182, z_ldi 8 184), (184, z_iald zEM 185), (185, z_bin (fun x y => x + y) 186), (186, z_bin (fun x y => x + y) 187), (187, z_sti 7 189), (189, z_iinc 8 (1) 192), (192, z_goto 155), (195, z_ldi 3 196), (196, z_if (fun x => decide (¬ x = 0)) 206 199), (199, z_lda 0 200), (200, z_get zEM 9 7 203), (203, z_goto 230), (206, z_ldi 3 207), (207, z_ic (1) 208), (208, z_cmp (fun x y => decide (¬ x = y)) 218 211), (211, z_lda 0 212), (212, z_callV zEM 9 m_X9_figure 0 0 0 (zR_X9_locus).cells (zR_X9_locus).slots 215), (215, z_goto 230), (218, z_ldi 3 219), (219, z_ic (2) 220), (220, z_cmp (fun x y => decide (¬ x = y)) 228 223), (223, z_ldi 6 225), (225, z_goto 230), (228, z_ldi 7 230), (230, z_reti false)]
noncomputable def zk_X9_locus (pc : Nat) : Option zOp := zlook zl_X9_locus pc
noncomputable def m_X9_locus : List zAV → zAS → Option zOut := zmeth zk_X9_locus 9
set_option maxRecDepth 100000 in
set_option maxHeartbeats 4000000 in
theorem zcs_X9_locus {R : Room} (hR : R = zR_X9_locus) : ∀ q ∈ zl_X9_locus, zS zEM yX9_locus.cls cX9_locus 9 wsX9_locus (some .int) R q.1 q.2 := by
  subst hR
  have hin9 : ∀ w ∈ wsX90, w ∈ wsX9_locus := fun w h => List.mem_cons_of_mem _ (List.mem_append_right _ h)
  refine List.forall_mem_cons.mpr ⟨zs_aload_n dX9_locus_0 rfl, ?_⟩
  refine List.forall_mem_cons.mpr ⟨zs_iconst dX9_locus_1 (by decide), ?_⟩
  refine List.forall_mem_cons.mpr ⟨zs_put (ci := 9) (j := 0) (N := 10) (C := RX9) (T := TX9) (index := 29) (b := false) .int tyX9 rfl (by decide) hin9 tyX9_ok nmX9 (List.mem_of_getElem? (i := 1) rfl) rfl (by decide +kernel) zni dX9_locus_2, ?_⟩
  refine List.forall_mem_cons.mpr ⟨zs_aload_n dX9_locus_5 rfl, ?_⟩
  refine List.forall_mem_cons.mpr ⟨zs_iload_n dX9_locus_6 rfl, ?_⟩
  refine List.forall_mem_cons.mpr ⟨zs_callV (ci := 9) (rm := zR_X9_isObject) (n := 1) rfl zM_X9_isObject gX9_locus_X9_isObject rfl (by decide +kernel) ⟨by decide, by decide⟩ dX9_locus_7, ?_⟩
  refine List.forall_mem_cons.mpr ⟨zs_ifeq dX9_locus_10 (by decide), ?_⟩
  refine List.forall_mem_cons.mpr ⟨zs_aload_n dX9_locus_13 rfl, ?_⟩
  refine List.forall_mem_cons.mpr ⟨zs_iload_n dX9_locus_14 rfl, ?_⟩
  refine List.forall_mem_cons.mpr ⟨zs_callV (ci := 9) (rm := zR_X9_isObject) (n := 1) rfl zM_X9_isObject gX9_locus_X9_isObject rfl (by decide +kernel) ⟨by decide, by decide⟩ dX9_locus_15, ?_⟩
  refine List.forall_mem_cons.mpr ⟨zs_ifeq dX9_locus_18 (by decide), ?_⟩
  refine List.forall_mem_cons.mpr ⟨zs_iload_n dX9_locus_21 rfl, ?_⟩
  refine List.forall_mem_cons.mpr ⟨zs_iconst dX9_locus_22 (by decide), ?_⟩
  refine List.forall_mem_cons.mpr ⟨zs_iconst dX9_locus_23 (by decide), ?_⟩
  refine List.forall_mem_cons.mpr ⟨zs_callS (rm := zR_X9_isIn) (n := 3) zM_X9_isIn gX9_locus_X9_isIn rfl (by decide +kernel) ⟨by decide, by decide⟩ dX9_locus_24, ?_⟩
  refine List.forall_mem_cons.mpr ⟨zs_ifne dX9_locus_27 (by decide), ?_⟩
  refine List.forall_mem_cons.mpr ⟨zs_aload_n dX9_locus_30 rfl, ?_⟩
  refine List.forall_mem_cons.mpr ⟨zs_iconst dX9_locus_31 (by decide), ?_⟩
  refine List.forall_mem_cons.mpr ⟨zs_callV (ci := 9) (rm := zR_X9_fail) (n := 1) rfl zM_X9_fail gX9_locus_X9_fail rfl (by decide +kernel) ⟨by decide, by decide⟩ dX9_locus_32, ?_⟩
  refine List.forall_mem_cons.mpr ⟨zs_reti (ty := .int) rfl (fun x h => (zni x h).1) dX9_locus_35, ?_⟩
  refine List.forall_mem_cons.mpr ⟨zs_aload_n dX9_locus_36 rfl, ?_⟩
  refine List.forall_mem_cons.mpr ⟨zs_iload_n dX9_locus_37 rfl, ?_⟩
  refine List.forall_mem_cons.mpr ⟨zs_callV (ci := 9) (rm := zR_X9_sort) (n := 1) rfl zM_X9_sort gX9_locus_X9_sort rfl (by decide +kernel) ⟨by decide, by decide⟩ dX9_locus_38, ?_⟩
  refine List.forall_mem_cons.mpr ⟨zs_ifne dX9_locus_41 (by decide), ?_⟩
  refine List.forall_mem_cons.mpr ⟨zs_aload_n dX9_locus_44 rfl, ?_⟩
  refine List.forall_mem_cons.mpr ⟨zs_iload_n dX9_locus_45 rfl, ?_⟩
  refine List.forall_mem_cons.mpr ⟨zs_iconst dX9_locus_46 (by decide), ?_⟩
  refine List.forall_mem_cons.mpr ⟨zs_callV (ci := 9) (rm := zR_X9_get) (n := 2) rfl zM_X9_get gX9_locus_X9_get rfl (by decide +kernel) ⟨by decide, by decide⟩ dX9_locus_47, ?_⟩
  refine List.forall_mem_cons.mpr ⟨zs_iconst dX9_locus_50 (by decide), ?_⟩
  refine List.forall_mem_cons.mpr ⟨zs_iceq dX9_locus_51 (by decide), ?_⟩
  refine List.forall_mem_cons.mpr ⟨zs_aload_n dX9_locus_54 rfl, ?_⟩
  refine List.forall_mem_cons.mpr ⟨zs_iconst dX9_locus_55 (by decide), ?_⟩
  refine List.forall_mem_cons.mpr ⟨zs_callV (ci := 9) (rm := zR_X9_fail) (n := 1) rfl zM_X9_fail gX9_locus_X9_fail rfl (by decide +kernel) ⟨by decide, by decide⟩ dX9_locus_56, ?_⟩
  refine List.forall_mem_cons.mpr ⟨zs_reti (ty := .int) rfl (fun x h => (zni x h).1) dX9_locus_59, ?_⟩
  refine List.forall_mem_cons.mpr ⟨zs_aload_n dX9_locus_60 rfl, ?_⟩
  refine List.forall_mem_cons.mpr ⟨zs_iload_n dX9_locus_61 rfl, ?_⟩
  refine List.forall_mem_cons.mpr ⟨zs_iconst dX9_locus_62 (by decide), ?_⟩
  refine List.forall_mem_cons.mpr ⟨zs_callV (ci := 9) (rm := zR_X9_get) (n := 2) rfl zM_X9_get gX9_locus_X9_get rfl (by decide +kernel) ⟨by decide, by decide⟩ dX9_locus_63, ?_⟩
  refine List.forall_mem_cons.mpr ⟨zs_istore dX9_locus_66, ?_⟩
  refine List.forall_mem_cons.mpr ⟨zs_aload_n dX9_locus_68 rfl, ?_⟩
  refine List.forall_mem_cons.mpr ⟨zs_iload_n dX9_locus_69 rfl, ?_⟩
  refine List.forall_mem_cons.mpr ⟨zs_bipush dX9_locus_70 (by decide), ?_⟩
  refine List.forall_mem_cons.mpr ⟨zs_callV (ci := 9) (rm := zR_X9_get) (n := 2) rfl zM_X9_get gX9_locus_X9_get rfl (by decide +kernel) ⟨by decide, by decide⟩ dX9_locus_72, ?_⟩
  refine List.forall_mem_cons.mpr ⟨zs_istore dX9_locus_75, ?_⟩
  refine List.forall_mem_cons.mpr ⟨zs_iconst dX9_locus_77 (by decide), ?_⟩
  refine List.forall_mem_cons.mpr ⟨zs_istore dX9_locus_78, ?_⟩
  refine List.forall_mem_cons.mpr ⟨zs_aload_n dX9_locus_80 rfl, ?_⟩
  refine List.forall_mem_cons.mpr ⟨zs_iconst dX9_locus_81 (by decide), ?_⟩
  refine List.forall_mem_cons.mpr ⟨zs_put (ci := 9) (j := 7) (N := 10) (C := RX9) (T := TX9) (index := 180) (b := false) .int tyX9 rfl (by decide) hin9 tyX9_ok nmX9 (List.mem_of_getElem? (i := 2) rfl) rfl (by decide +kernel) zni dX9_locus_82, ?_⟩
  refine List.forall_mem_cons.mpr ⟨zs_iconst dX9_locus_85 (by decide), ?_⟩
  refine List.forall_mem_cons.mpr ⟨zs_istore dX9_locus_86, ?_⟩
  refine List.forall_mem_cons.mpr ⟨zs_iload dX9_locus_88, ?_⟩
  refine List.forall_mem_cons.mpr ⟨zs_aload_n dX9_locus_90 rfl, ?_⟩
  refine List.forall_mem_cons.mpr ⟨zs_get (ci := 9) (j := 1) (N := 10) (C := RX9) (T := TX9) (index := 7) rfl (by decide) hin9 (List.mem_of_getElem? (i := 3) rfl) dX9_locus_91, ?_⟩
  refine List.forall_mem_cons.mpr ⟨zs_icge dX9_locus_94 (by decide), ?_⟩
  refine List.forall_mem_cons.mpr ⟨zs_aload_n dX9_locus_97 rfl, ?_⟩
  refine List.forall_mem_cons.mpr ⟨zs_iload_n dX9_locus_98 rfl, ?_⟩
  refine List.forall_mem_cons.mpr ⟨zs_iload dX9_locus_99, ?_⟩
  refine List.forall_mem_cons.mpr ⟨zs_iload dX9_locus_101, ?_⟩
  refine List.forall_mem_cons.mpr ⟨zs_callV (ci := 9) (rm := zR_X9_place) (n := 3) rfl zM_X9_place gX9_locus_X9_place rfl (by decide +kernel) ⟨by decide, by decide⟩ dX9_locus_103, ?_⟩
  refine List.forall_mem_cons.mpr ⟨zs_aload_n dX9_locus_106 rfl, ?_⟩
  refine List.forall_mem_cons.mpr ⟨zs_iload_n dX9_locus_107 rfl, ?_⟩
  refine List.forall_mem_cons.mpr ⟨zs_callV (ci := 9) (rm := zR_X9_lacks) (n := 1) rfl zM_X9_lacks gX9_locus_X9_lacks rfl (by decide +kernel) ⟨by decide, by decide⟩ dX9_locus_108, ?_⟩
  refine List.forall_mem_cons.mpr ⟨zs_ifeq dX9_locus_111 (by decide), ?_⟩
  refine List.forall_mem_cons.mpr ⟨zs_iinc dX9_locus_114 (by decide), ?_⟩
  refine List.forall_mem_cons.mpr ⟨zs_goto dX9_locus_117 (by decide), ?_⟩
  refine List.forall_mem_cons.mpr ⟨zs_aload_n dX9_locus_120 rfl, ?_⟩
  refine List.forall_mem_cons.mpr ⟨zs_aload_n dX9_locus_121 rfl, ?_⟩
  refine List.forall_mem_cons.mpr ⟨zs_iload_n dX9_locus_122 rfl, ?_⟩
  refine List.forall_mem_cons.mpr ⟨zs_callV (ci := 9) (rm := zR_X9_x) (n := 1) rfl zM_X9_x gX9_locus_X9_x rfl (by decide +kernel) ⟨by decide, by decide⟩ dX9_locus_123, ?_⟩
  refine List.forall_mem_cons.mpr ⟨zs_aload_n dX9_locus_126 rfl, ?_⟩
  refine List.forall_mem_cons.mpr ⟨zs_iload_n dX9_locus_127 rfl, ?_⟩
  refine List.forall_mem_cons.mpr ⟨zs_callV (ci := 9) (rm := zR_X9_y) (n := 1) rfl zM_X9_y gX9_locus_X9_y rfl (by decide +kernel) ⟨by decide, by decide⟩ dX9_locus_128, ?_⟩
  refine List.forall_mem_cons.mpr ⟨zs_callV (ci := 9) (rm := zR_X9_meet) (n := 2) rfl zM_X9_meet gX9_locus_X9_meet rfl (by decide +kernel) ⟨by decide, by decide⟩ dX9_locus_131, ?_⟩
  refine List.forall_mem_cons.mpr ⟨zs_iinc dX9_locus_134 (by decide), ?_⟩
  refine List.forall_mem_cons.mpr ⟨zs_goto dX9_locus_137 (by decide), ?_⟩
  refine List.forall_mem_cons.mpr ⟨zs_aload_n dX9_locus_140 rfl, ?_⟩
  refine List.forall_mem_cons.mpr ⟨zs_iload_n dX9_locus_141 rfl, ?_⟩
  refine List.forall_mem_cons.mpr ⟨zs_iload dX9_locus_142, ?_⟩
  refine List.forall_mem_cons.mpr ⟨zs_iload dX9_locus_144, ?_⟩
  refine List.forall_mem_cons.mpr ⟨zs_callV (ci := 9) (rm := zR_X9_place) (n := 3) rfl zM_X9_place gX9_locus_X9_place rfl (by decide +kernel) ⟨by decide, by decide⟩ dX9_locus_146, ?_⟩
  refine List.forall_mem_cons.mpr ⟨zs_iconst dX9_locus_149 (by decide), ?_⟩
  refine List.forall_mem_cons.mpr ⟨zs_istore dX9_locus_150, ?_⟩
  refine List.forall_mem_cons.mpr ⟨zs_iconst dX9_locus_152 (by decide), ?_⟩
  refine List.forall_mem_cons.mpr ⟨zs_istore dX9_locus_153, ?_⟩
  refine List.forall_mem_cons.mpr ⟨zs_iload dX9_locus_155, ?_⟩
  refine List.forall_mem_cons.mpr ⟨zs_aload_n dX9_locus_157 rfl, ?_⟩
  refine List.forall_mem_cons.mpr ⟨zs_get (ci := 9) (j := 7) (N := 10) (C := RX9) (T := TX9) (index := 180) rfl (by decide) hin9 (List.mem_of_getElem? (i := 2) rfl) dX9_locus_158, ?_⟩
  refine List.forall_mem_cons.mpr ⟨zs_icge dX9_locus_161 (by decide), ?_⟩
  refine List.forall_mem_cons.mpr ⟨zs_iload dX9_locus_164, ?_⟩
  refine List.forall_mem_cons.mpr ⟨zs_aload_n dX9_locus_166 rfl, ?_⟩
  refine List.forall_mem_cons.mpr ⟨zs_get (ci := 9) (j := 1) (N := 10) (C := RX9) (T := TX9) (index := 7) rfl (by decide) hin9 (List.mem_of_getElem? (i := 3) rfl) dX9_locus_167, ?_⟩
  refine List.forall_mem_cons.mpr ⟨zs_aload_n dX9_locus_170 rfl, ?_⟩
  refine List.forall_mem_cons.mpr ⟨zs_get (ci := 9) (j := 8) (N := 10) (C := RX9) (T := TX9) (index := 23) rfl (by decide) hin9 (List.mem_of_getElem? (i := 4) rfl) dX9_locus_171, ?_⟩
  refine List.forall_mem_cons.mpr ⟨zs_iload dX9_locus_174, ?_⟩
  refine List.forall_mem_cons.mpr ⟨zs_iald dX9_locus_176, ?_⟩
  refine List.forall_mem_cons.mpr ⟨zs_imul dX9_locus_177, ?_⟩
  refine List.forall_mem_cons.mpr ⟨zs_aload_n dX9_locus_178 rfl, ?_⟩
  refine List.forall_mem_cons.mpr ⟨zs_get (ci := 9) (j := 9) (N := 10) (C := RX9) (T := TX9) (index := 26) rfl (by decide) hin9 (List.mem_of_getElem? (i := 5) rfl) dX9_locus_179, ?_⟩
  refine List.forall_mem_cons.mpr ⟨zs_iload dX9_locus_182, ?_⟩
  refine List.forall_mem_cons.mpr ⟨zs_iald dX9_locus_184, ?_⟩
  refine List.forall_mem_cons.mpr ⟨zs_iadd dX9_locus_185, ?_⟩
  refine List.forall_mem_cons.mpr ⟨zs_iadd dX9_locus_186, ?_⟩
  refine List.forall_mem_cons.mpr ⟨zs_istore dX9_locus_187, ?_⟩
  refine List.forall_mem_cons.mpr ⟨zs_iinc dX9_locus_189 (by decide), ?_⟩
  refine List.forall_mem_cons.mpr ⟨zs_goto dX9_locus_192 (by decide), ?_⟩
  refine List.forall_mem_cons.mpr ⟨zs_iload_n dX9_locus_195 rfl, ?_⟩
  refine List.forall_mem_cons.mpr ⟨zs_ifne dX9_locus_196 (by decide), ?_⟩
  refine List.forall_mem_cons.mpr ⟨zs_aload_n dX9_locus_199 rfl, ?_⟩
  refine List.forall_mem_cons.mpr ⟨zs_get (ci := 9) (j := 7) (N := 10) (C := RX9) (T := TX9) (index := 180) rfl (by decide) hin9 (List.mem_of_getElem? (i := 2) rfl) dX9_locus_200, ?_⟩
  refine List.forall_mem_cons.mpr ⟨zs_goto dX9_locus_203 (by decide), ?_⟩
  refine List.forall_mem_cons.mpr ⟨zs_iload_n dX9_locus_206 rfl, ?_⟩
  refine List.forall_mem_cons.mpr ⟨zs_iconst dX9_locus_207 (by decide), ?_⟩
  refine List.forall_mem_cons.mpr ⟨zs_icne dX9_locus_208 (by decide), ?_⟩
  refine List.forall_mem_cons.mpr ⟨zs_aload_n dX9_locus_211 rfl, ?_⟩
  refine List.forall_mem_cons.mpr ⟨zs_callV (ci := 9) (rm := zR_X9_figure) (n := 0) rfl zM_X9_figure gX9_locus_X9_figure rfl (by decide +kernel) ⟨by decide, by decide⟩ dX9_locus_212, ?_⟩
  refine List.forall_mem_cons.mpr ⟨zs_goto dX9_locus_215 (by decide), ?_⟩
  refine List.forall_mem_cons.mpr ⟨zs_iload_n dX9_locus_218 rfl, ?_⟩
  refine List.forall_mem_cons.mpr ⟨zs_iconst dX9_locus_219 (by decide), ?_⟩
  refine List.forall_mem_cons.mpr ⟨zs_icne dX9_locus_220 (by decide), ?_⟩
  refine List.forall_mem_cons.mpr ⟨zs_iload dX9_locus_223, ?_⟩
  refine List.forall_mem_cons.mpr ⟨zs_goto dX9_locus_225 (by decide), ?_⟩
  refine List.forall_mem_cons.mpr ⟨zs_iload dX9_locus_228, ?_⟩
  refine List.forall_mem_cons.mpr ⟨zs_reti (ty := .int) rfl (fun x h => (zni x h).1) dX9_locus_230, ?_⟩
  exact fun _ h => absurd h List.not_mem_nil
theorem zM_X9_locus : zMeets zEM yX9_locus wsX9_locus zR_X9_locus m_X9_locus := zmeth_M zEMok (zlook_all (zcs_X9_locus rfl)) (by decide +kernel) rfl
theorem zr_X9_locus_0 (a1 a2 a3 a4 a5 a6 a7 a8 : Option zAV) (st : List zAV) (s : zAS) (k : Nat × Nat) (o : Nat × Nat) : zev zk_X9_locus (0, [some (Sum.inr o), a1, a2, a3, a4, a5, a6, a7, a8], st, s, k) = zev zk_X9_locus (1, [some (Sum.inr o), a1, a2, a3, a4, a5, a6, a7, a8], Sum.inr o :: st, s, k) := zev_go rfl rfl
theorem zr_X9_locus_1 (ls : zLs) (st : List zAV) (s : zAS) (k : Nat × Nat) : zev zk_X9_locus (1, ls, st, s, k) = zev zk_X9_locus (2, ls, Sum.inl (Value.int (0)) :: st, s, k) := zev_go rfl rfl
theorem zr_X9_locus_2 (ls : zLs) (st : List zAV) (s : zAS) (k : Nat × Nat) (o i : Nat) (x : Int32) (h : zpok zEM 9 0 false o i x) : zev zk_X9_locus (2, ls, Sum.inl (Value.int x) :: Sum.inr (o, i) :: st, s, k) = zev zk_X9_locus (5, ls, st, (zup s.1 o i 0 x, s.2), k) := zf_put rfl h
theorem zr_X9_locus_5 (a1 a2 a3 a4 a5 a6 a7 a8 : Option zAV) (st : List zAV) (s : zAS) (k : Nat × Nat) (o : Nat × Nat) : zev zk_X9_locus (5, [some (Sum.inr o), a1, a2, a3, a4, a5, a6, a7, a8], st, s, k) = zev zk_X9_locus (6, [some (Sum.inr o), a1, a2, a3, a4, a5, a6, a7, a8], Sum.inr o :: st, s, k) := zev_go rfl rfl
theorem zr_X9_locus_6 (a0 a2 a3 a4 a5 a6 a7 a8 : Option zAV) (st : List zAV) (s : zAS) (k : Nat × Nat) (x : Int32) : zev zk_X9_locus (6, [a0, some (Sum.inl (Value.int x)), a2, a3, a4, a5, a6, a7, a8], st, s, k) = zev zk_X9_locus (7, [a0, some (Sum.inl (Value.int x)), a2, a3, a4, a5, a6, a7, a8], Sum.inl (Value.int x) :: st, s, k) := zev_go rfl rfl
theorem zr_X9_locus_7 (ls : zLs) (st : List zAV) (s : zAS) (k : Nat × Nat) (r v0 : zAV) (h : zcok zEM 9 0 0 (zR_X9_locus).cells (zR_X9_locus).slots r st k) : zev zk_X9_locus (7, ls, v0 :: r :: st, s, k) = zret zk_X9_locus 10 ls st (k.1 + 0, k.2 + 0) (m_X9_isObject [r, v0] s) := zf_callV (as := [v0]) 1 rfl rfl h
theorem zr_X9_locus_10 (ls : zLs) (st : List zAV) (s : zAS) (k : Nat × Nat) (x : Int32) : zev zk_X9_locus (10, ls, Sum.inl (Value.int x) :: st, s, k) = if decide (x = 0) = true then zev zk_X9_locus (30, ls, st, s, k) else zev zk_X9_locus (13, ls, st, s, k) := zf_if (f := fun x => decide (x = 0)) rfl
theorem zr_X9_locus_13 (a1 a2 a3 a4 a5 a6 a7 a8 : Option zAV) (st : List zAV) (s : zAS) (k : Nat × Nat) (o : Nat × Nat) : zev zk_X9_locus (13, [some (Sum.inr o), a1, a2, a3, a4, a5, a6, a7, a8], st, s, k) = zev zk_X9_locus (14, [some (Sum.inr o), a1, a2, a3, a4, a5, a6, a7, a8], Sum.inr o :: st, s, k) := zev_go rfl rfl
theorem zr_X9_locus_14 (a0 a1 a3 a4 a5 a6 a7 a8 : Option zAV) (st : List zAV) (s : zAS) (k : Nat × Nat) (x : Int32) : zev zk_X9_locus (14, [a0, a1, some (Sum.inl (Value.int x)), a3, a4, a5, a6, a7, a8], st, s, k) = zev zk_X9_locus (15, [a0, a1, some (Sum.inl (Value.int x)), a3, a4, a5, a6, a7, a8], Sum.inl (Value.int x) :: st, s, k) := zev_go rfl rfl
theorem zr_X9_locus_15 (ls : zLs) (st : List zAV) (s : zAS) (k : Nat × Nat) (r v0 : zAV) (h : zcok zEM 9 0 0 (zR_X9_locus).cells (zR_X9_locus).slots r st k) : zev zk_X9_locus (15, ls, v0 :: r :: st, s, k) = zret zk_X9_locus 18 ls st (k.1 + 0, k.2 + 0) (m_X9_isObject [r, v0] s) := zf_callV (as := [v0]) 1 rfl rfl h
theorem zr_X9_locus_18 (ls : zLs) (st : List zAV) (s : zAS) (k : Nat × Nat) (x : Int32) : zev zk_X9_locus (18, ls, Sum.inl (Value.int x) :: st, s, k) = if decide (x = 0) = true then zev zk_X9_locus (30, ls, st, s, k) else zev zk_X9_locus (21, ls, st, s, k) := zf_if (f := fun x => decide (x = 0)) rfl
theorem zr_X9_locus_21 (a0 a1 a2 a4 a5 a6 a7 a8 : Option zAV) (st : List zAV) (s : zAS) (k : Nat × Nat) (x : Int32) : zev zk_X9_locus (21, [a0, a1, a2, some (Sum.inl (Value.int x)), a4, a5, a6, a7, a8], st, s, k) = zev zk_X9_locus (22, [a0, a1, a2, some (Sum.inl (Value.int x)), a4, a5, a6, a7, a8], Sum.inl (Value.int x) :: st, s, k) := zev_go rfl rfl
theorem zr_X9_locus_22 (ls : zLs) (st : List zAV) (s : zAS) (k : Nat × Nat) : zev zk_X9_locus (22, ls, st, s, k) = zev zk_X9_locus (23, ls, Sum.inl (Value.int (0)) :: st, s, k) := zev_go rfl rfl
theorem zr_X9_locus_23 (ls : zLs) (st : List zAV) (s : zAS) (k : Nat × Nat) : zev zk_X9_locus (23, ls, st, s, k) = zev zk_X9_locus (24, ls, Sum.inl (Value.int (3)) :: st, s, k) := zev_go rfl rfl
theorem zr_X9_locus_24 (ls : zLs) (st : List zAV) (s : zAS) (k : Nat × Nat) (v0 v1 v2 : zAV) (h : (st.map zcat).sum ≤ 8 ∧ k.1 + 0 ≤ (zR_X9_locus).cells ∧ k.2 + 0 ≤ (zR_X9_locus).slots) : zev zk_X9_locus (24, ls, v2 :: v1 :: v0 :: st, s, k) = zret zk_X9_locus 27 ls st (k.1 + 0, k.2 + 0) (m_X9_isIn [v0, v1, v2] s) := zf_callS (as := [v2, v1, v0]) 3 rfl rfl h
theorem zr_X9_locus_27 (ls : zLs) (st : List zAV) (s : zAS) (k : Nat × Nat) (x : Int32) : zev zk_X9_locus (27, ls, Sum.inl (Value.int x) :: st, s, k) = if decide (¬ x = 0) = true then zev zk_X9_locus (36, ls, st, s, k) else zev zk_X9_locus (30, ls, st, s, k) := zf_if (f := fun x => decide (¬ x = 0)) rfl
theorem zr_X9_locus_30 (a1 a2 a3 a4 a5 a6 a7 a8 : Option zAV) (st : List zAV) (s : zAS) (k : Nat × Nat) (o : Nat × Nat) : zev zk_X9_locus (30, [some (Sum.inr o), a1, a2, a3, a4, a5, a6, a7, a8], st, s, k) = zev zk_X9_locus (31, [some (Sum.inr o), a1, a2, a3, a4, a5, a6, a7, a8], Sum.inr o :: st, s, k) := zev_go rfl rfl
theorem zr_X9_locus_31 (ls : zLs) (st : List zAV) (s : zAS) (k : Nat × Nat) : zev zk_X9_locus (31, ls, st, s, k) = zev zk_X9_locus (32, ls, Sum.inl (Value.int (1)) :: st, s, k) := zev_go rfl rfl
theorem zr_X9_locus_32 (ls : zLs) (st : List zAV) (s : zAS) (k : Nat × Nat) (r v0 : zAV) (h : zcok zEM 9 0 0 (zR_X9_locus).cells (zR_X9_locus).slots r st k) : zev zk_X9_locus (32, ls, v0 :: r :: st, s, k) = zret zk_X9_locus 35 ls st (k.1 + 0, k.2 + 0) (m_X9_fail [r, v0] s) := zf_callV (as := [v0]) 1 rfl rfl h
theorem zr_X9_locus_35 (ls : zLs) (s : zAS) (k : Nat × Nat) (x : Int32) : zev zk_X9_locus (35, ls, [Sum.inl (Value.int x)], s, k) = some (.inl (some (Sum.inl (Value.int x))), s) := zf_reti rfl
theorem zr_X9_locus_36 (a1 a2 a3 a4 a5 a6 a7 a8 : Option zAV) (st : List zAV) (s : zAS) (k : Nat × Nat) (o : Nat × Nat) : zev zk_X9_locus (36, [some (Sum.inr o), a1, a2, a3, a4, a5, a6, a7, a8], st, s, k) = zev zk_X9_locus (37, [some (Sum.inr o), a1, a2, a3, a4, a5, a6, a7, a8], Sum.inr o :: st, s, k) := zev_go rfl rfl
theorem zr_X9_locus_37 (a0 a2 a3 a4 a5 a6 a7 a8 : Option zAV) (st : List zAV) (s : zAS) (k : Nat × Nat) (x : Int32) : zev zk_X9_locus (37, [a0, some (Sum.inl (Value.int x)), a2, a3, a4, a5, a6, a7, a8], st, s, k) = zev zk_X9_locus (38, [a0, some (Sum.inl (Value.int x)), a2, a3, a4, a5, a6, a7, a8], Sum.inl (Value.int x) :: st, s, k) := zev_go rfl rfl
theorem zr_X9_locus_38 (ls : zLs) (st : List zAV) (s : zAS) (k : Nat × Nat) (r v0 : zAV) (h : zcok zEM 9 0 0 (zR_X9_locus).cells (zR_X9_locus).slots r st k) : zev zk_X9_locus (38, ls, v0 :: r :: st, s, k) = zret zk_X9_locus 41 ls st (k.1 + 0, k.2 + 0) (m_X9_sort [r, v0] s) := zf_callV (as := [v0]) 1 rfl rfl h
theorem zr_X9_locus_41 (ls : zLs) (st : List zAV) (s : zAS) (k : Nat × Nat) (x : Int32) : zev zk_X9_locus (41, ls, Sum.inl (Value.int x) :: st, s, k) = if decide (¬ x = 0) = true then zev zk_X9_locus (54, ls, st, s, k) else zev zk_X9_locus (44, ls, st, s, k) := zf_if (f := fun x => decide (¬ x = 0)) rfl
theorem zr_X9_locus_44 (a1 a2 a3 a4 a5 a6 a7 a8 : Option zAV) (st : List zAV) (s : zAS) (k : Nat × Nat) (o : Nat × Nat) : zev zk_X9_locus (44, [some (Sum.inr o), a1, a2, a3, a4, a5, a6, a7, a8], st, s, k) = zev zk_X9_locus (45, [some (Sum.inr o), a1, a2, a3, a4, a5, a6, a7, a8], Sum.inr o :: st, s, k) := zev_go rfl rfl
theorem zr_X9_locus_45 (a0 a1 a3 a4 a5 a6 a7 a8 : Option zAV) (st : List zAV) (s : zAS) (k : Nat × Nat) (x : Int32) : zev zk_X9_locus (45, [a0, a1, some (Sum.inl (Value.int x)), a3, a4, a5, a6, a7, a8], st, s, k) = zev zk_X9_locus (46, [a0, a1, some (Sum.inl (Value.int x)), a3, a4, a5, a6, a7, a8], Sum.inl (Value.int x) :: st, s, k) := zev_go rfl rfl
theorem zr_X9_locus_46 (ls : zLs) (st : List zAV) (s : zAS) (k : Nat × Nat) : zev zk_X9_locus (46, ls, st, s, k) = zev zk_X9_locus (47, ls, Sum.inl (Value.int (1)) :: st, s, k) := zev_go rfl rfl
theorem zr_X9_locus_47 (ls : zLs) (st : List zAV) (s : zAS) (k : Nat × Nat) (r v0 v1 : zAV) (h : zcok zEM 9 0 0 (zR_X9_locus).cells (zR_X9_locus).slots r st k) : zev zk_X9_locus (47, ls, v1 :: v0 :: r :: st, s, k) = zret zk_X9_locus 50 ls st (k.1 + 0, k.2 + 0) (m_X9_get [r, v0, v1] s) := zf_callV (as := [v1, v0]) 2 rfl rfl h
theorem zr_X9_locus_50 (ls : zLs) (st : List zAV) (s : zAS) (k : Nat × Nat) : zev zk_X9_locus (50, ls, st, s, k) = zev zk_X9_locus (51, ls, Sum.inl (Value.int (1)) :: st, s, k) := zev_go rfl rfl
theorem zr_X9_locus_51 (ls : zLs) (st : List zAV) (s : zAS) (k : Nat × Nat) (x y : Int32) : zev zk_X9_locus (51, ls, Sum.inl (Value.int y) :: Sum.inl (Value.int x) :: st, s, k) = if decide (x = y) = true then zev zk_X9_locus (60, ls, st, s, k) else zev zk_X9_locus (54, ls, st, s, k) := zf_cmp (f := fun x y => decide (x = y)) rfl
theorem zr_X9_locus_54 (a1 a2 a3 a4 a5 a6 a7 a8 : Option zAV) (st : List zAV) (s : zAS) (k : Nat × Nat) (o : Nat × Nat) : zev zk_X9_locus (54, [some (Sum.inr o), a1, a2, a3, a4, a5, a6, a7, a8], st, s, k) = zev zk_X9_locus (55, [some (Sum.inr o), a1, a2, a3, a4, a5, a6, a7, a8], Sum.inr o :: st, s, k) := zev_go rfl rfl
theorem zr_X9_locus_55 (ls : zLs) (st : List zAV) (s : zAS) (k : Nat × Nat) : zev zk_X9_locus (55, ls, st, s, k) = zev zk_X9_locus (56, ls, Sum.inl (Value.int (2)) :: st, s, k) := zev_go rfl rfl
theorem zr_X9_locus_56 (ls : zLs) (st : List zAV) (s : zAS) (k : Nat × Nat) (r v0 : zAV) (h : zcok zEM 9 0 0 (zR_X9_locus).cells (zR_X9_locus).slots r st k) : zev zk_X9_locus (56, ls, v0 :: r :: st, s, k) = zret zk_X9_locus 59 ls st (k.1 + 0, k.2 + 0) (m_X9_fail [r, v0] s) := zf_callV (as := [v0]) 1 rfl rfl h
theorem zr_X9_locus_59 (ls : zLs) (s : zAS) (k : Nat × Nat) (x : Int32) : zev zk_X9_locus (59, ls, [Sum.inl (Value.int x)], s, k) = some (.inl (some (Sum.inl (Value.int x))), s) := zf_reti rfl
theorem zr_X9_locus_60 (a1 a2 a3 a4 a5 a6 a7 a8 : Option zAV) (st : List zAV) (s : zAS) (k : Nat × Nat) (o : Nat × Nat) : zev zk_X9_locus (60, [some (Sum.inr o), a1, a2, a3, a4, a5, a6, a7, a8], st, s, k) = zev zk_X9_locus (61, [some (Sum.inr o), a1, a2, a3, a4, a5, a6, a7, a8], Sum.inr o :: st, s, k) := zev_go rfl rfl
theorem zr_X9_locus_61 (a0 a1 a3 a4 a5 a6 a7 a8 : Option zAV) (st : List zAV) (s : zAS) (k : Nat × Nat) (x : Int32) : zev zk_X9_locus (61, [a0, a1, some (Sum.inl (Value.int x)), a3, a4, a5, a6, a7, a8], st, s, k) = zev zk_X9_locus (62, [a0, a1, some (Sum.inl (Value.int x)), a3, a4, a5, a6, a7, a8], Sum.inl (Value.int x) :: st, s, k) := zev_go rfl rfl
theorem zr_X9_locus_62 (ls : zLs) (st : List zAV) (s : zAS) (k : Nat × Nat) : zev zk_X9_locus (62, ls, st, s, k) = zev zk_X9_locus (63, ls, Sum.inl (Value.int (5)) :: st, s, k) := zev_go rfl rfl
theorem zr_X9_locus_63 (ls : zLs) (st : List zAV) (s : zAS) (k : Nat × Nat) (r v0 v1 : zAV) (h : zcok zEM 9 0 0 (zR_X9_locus).cells (zR_X9_locus).slots r st k) : zev zk_X9_locus (63, ls, v1 :: v0 :: r :: st, s, k) = zret zk_X9_locus 66 ls st (k.1 + 0, k.2 + 0) (m_X9_get [r, v0, v1] s) := zf_callV (as := [v1, v0]) 2 rfl rfl h
theorem zr_X9_locus_66 (a0 a1 a2 a3 a4 a5 a6 a7 a8 : Option zAV) (st : List zAV) (s : zAS) (k : Nat × Nat) (x : Int32) : zev zk_X9_locus (66, [a0, a1, a2, a3, a4, a5, a6, a7, a8], Sum.inl (Value.int x) :: st, s, k) = zev zk_X9_locus (68, [a0, a1, a2, zk1 a3, some (Sum.inl (Value.int x)), a5, a6, a7, a8], st, s, k) := zev_go rfl rfl
theorem zr_X9_locus_68 (a1 a2 a3 a4 a5 a6 a7 a8 : Option zAV) (st : List zAV) (s : zAS) (k : Nat × Nat) (o : Nat × Nat) : zev zk_X9_locus (68, [some (Sum.inr o), a1, a2, a3, a4, a5, a6, a7, a8], st, s, k) = zev zk_X9_locus (69, [some (Sum.inr o), a1, a2, a3, a4, a5, a6, a7, a8], Sum.inr o :: st, s, k) := zev_go rfl rfl
theorem zr_X9_locus_69 (a0 a1 a3 a4 a5 a6 a7 a8 : Option zAV) (st : List zAV) (s : zAS) (k : Nat × Nat) (x : Int32) : zev zk_X9_locus (69, [a0, a1, some (Sum.inl (Value.int x)), a3, a4, a5, a6, a7, a8], st, s, k) = zev zk_X9_locus (70, [a0, a1, some (Sum.inl (Value.int x)), a3, a4, a5, a6, a7, a8], Sum.inl (Value.int x) :: st, s, k) := zev_go rfl rfl
theorem zr_X9_locus_70 (ls : zLs) (st : List zAV) (s : zAS) (k : Nat × Nat) : zev zk_X9_locus (70, ls, st, s, k) = zev zk_X9_locus (72, ls, Sum.inl (Value.int (6)) :: st, s, k) := zev_go rfl rfl
theorem zr_X9_locus_72 (ls : zLs) (st : List zAV) (s : zAS) (k : Nat × Nat) (r v0 v1 : zAV) (h : zcok zEM 9 0 0 (zR_X9_locus).cells (zR_X9_locus).slots r st k) : zev zk_X9_locus (72, ls, v1 :: v0 :: r :: st, s, k) = zret zk_X9_locus 75 ls st (k.1 + 0, k.2 + 0) (m_X9_get [r, v0, v1] s) := zf_callV (as := [v1, v0]) 2 rfl rfl h
theorem zr_X9_locus_75 (a0 a1 a2 a3 a4 a5 a6 a7 a8 : Option zAV) (st : List zAV) (s : zAS) (k : Nat × Nat) (x : Int32) : zev zk_X9_locus (75, [a0, a1, a2, a3, a4, a5, a6, a7, a8], Sum.inl (Value.int x) :: st, s, k) = zev zk_X9_locus (77, [a0, a1, a2, a3, zk1 a4, some (Sum.inl (Value.int x)), a6, a7, a8], st, s, k) := zev_go rfl rfl
theorem zr_X9_locus_77 (ls : zLs) (st : List zAV) (s : zAS) (k : Nat × Nat) : zev zk_X9_locus (77, ls, st, s, k) = zev zk_X9_locus (78, ls, Sum.inl (Value.int (0)) :: st, s, k) := zev_go rfl rfl
theorem zr_X9_locus_78 (a0 a1 a2 a3 a4 a5 a6 a7 a8 : Option zAV) (st : List zAV) (s : zAS) (k : Nat × Nat) (x : Int32) : zev zk_X9_locus (78, [a0, a1, a2, a3, a4, a5, a6, a7, a8], Sum.inl (Value.int x) :: st, s, k) = zev zk_X9_locus (80, [a0, a1, a2, a3, a4, zk1 a5, some (Sum.inl (Value.int x)), a7, a8], st, s, k) := zev_go rfl rfl
theorem zr_X9_locus_80 (a1 a2 a3 a4 a5 a6 a7 a8 : Option zAV) (st : List zAV) (s : zAS) (k : Nat × Nat) (o : Nat × Nat) : zev zk_X9_locus (80, [some (Sum.inr o), a1, a2, a3, a4, a5, a6, a7, a8], st, s, k) = zev zk_X9_locus (81, [some (Sum.inr o), a1, a2, a3, a4, a5, a6, a7, a8], Sum.inr o :: st, s, k) := zev_go rfl rfl
theorem zr_X9_locus_81 (ls : zLs) (st : List zAV) (s : zAS) (k : Nat × Nat) : zev zk_X9_locus (81, ls, st, s, k) = zev zk_X9_locus (82, ls, Sum.inl (Value.int (0)) :: st, s, k) := zev_go rfl rfl
theorem zr_X9_locus_82 (ls : zLs) (st : List zAV) (s : zAS) (k : Nat × Nat) (o i : Nat) (x : Int32) (h : zpok zEM 9 7 false o i x) : zev zk_X9_locus (82, ls, Sum.inl (Value.int x) :: Sum.inr (o, i) :: st, s, k) = zev zk_X9_locus (85, ls, st, (zup s.1 o i 7 x, s.2), k) := zf_put rfl h
theorem zr_X9_locus_85 (ls : zLs) (st : List zAV) (s : zAS) (k : Nat × Nat) : zev zk_X9_locus (85, ls, st, s, k) = zev zk_X9_locus (86, ls, Sum.inl (Value.int (0)) :: st, s, k) := zev_go rfl rfl
theorem zr_X9_locus_86 (a0 a1 a2 a3 a4 a5 a6 a7 a8 : Option zAV) (st : List zAV) (s : zAS) (k : Nat × Nat) (x : Int32) : zev zk_X9_locus (86, [a0, a1, a2, a3, a4, a5, a6, a7, a8], Sum.inl (Value.int x) :: st, s, k) = zev zk_X9_locus (88, [a0, a1, a2, a3, a4, a5, zk1 a6, some (Sum.inl (Value.int x)), a8], st, s, k) := zev_go rfl rfl
theorem zr_X9_locus_88 (a0 a1 a2 a3 a4 a5 a6 a8 : Option zAV) (st : List zAV) (s : zAS) (k : Nat × Nat) (x : Int32) : zev zk_X9_locus (88, [a0, a1, a2, a3, a4, a5, a6, some (Sum.inl (Value.int x)), a8], st, s, k) = zev zk_X9_locus (90, [a0, a1, a2, a3, a4, a5, a6, some (Sum.inl (Value.int x)), a8], Sum.inl (Value.int x) :: st, s, k) := zev_go rfl rfl
theorem zr_X9_locus_90 (a1 a2 a3 a4 a5 a6 a7 a8 : Option zAV) (st : List zAV) (s : zAS) (k : Nat × Nat) (o : Nat × Nat) : zev zk_X9_locus (90, [some (Sum.inr o), a1, a2, a3, a4, a5, a6, a7, a8], st, s, k) = zev zk_X9_locus (91, [some (Sum.inr o), a1, a2, a3, a4, a5, a6, a7, a8], Sum.inr o :: st, s, k) := zev_go rfl rfl
theorem zr_X9_locus_91 (ls : zLs) (st : List zAV) (s : zAS) (k : Nat × Nat) (o i : Nat) : zev zk_X9_locus (91, ls, Sum.inr (o, i) :: st, s, k) = zpush zk_X9_locus 94 ls st s k (zgv zEM 9 1 o i s.1) := zf_get rfl
theorem zr_X9_locus_94 (ls : zLs) (st : List zAV) (s : zAS) (k : Nat × Nat) (x y : Int32) : zev zk_X9_locus (94, ls, Sum.inl (Value.int y) :: Sum.inl (Value.int x) :: st, s, k) = if decide (y ≤ x) = true then zev zk_X9_locus (140, ls, st, s, k) else zev zk_X9_locus (97, ls, st, s, k) := zf_cmp (f := fun x y => decide (y ≤ x)) rfl
theorem zr_X9_locus_97 (a1 a2 a3 a4 a5 a6 a7 a8 : Option zAV) (st : List zAV) (s : zAS) (k : Nat × Nat) (o : Nat × Nat) : zev zk_X9_locus (97, [some (Sum.inr o), a1, a2, a3, a4, a5, a6, a7, a8], st, s, k) = zev zk_X9_locus (98, [some (Sum.inr o), a1, a2, a3, a4, a5, a6, a7, a8], Sum.inr o :: st, s, k) := zev_go rfl rfl
theorem zr_X9_locus_98 (a0 a1 a3 a4 a5 a6 a7 a8 : Option zAV) (st : List zAV) (s : zAS) (k : Nat × Nat) (x : Int32) : zev zk_X9_locus (98, [a0, a1, some (Sum.inl (Value.int x)), a3, a4, a5, a6, a7, a8], st, s, k) = zev zk_X9_locus (99, [a0, a1, some (Sum.inl (Value.int x)), a3, a4, a5, a6, a7, a8], Sum.inl (Value.int x) :: st, s, k) := zev_go rfl rfl
theorem zr_X9_locus_99 (a0 a1 a2 a3 a4 a5 a6 a8 : Option zAV) (st : List zAV) (s : zAS) (k : Nat × Nat) (x : Int32) : zev zk_X9_locus (99, [a0, a1, a2, a3, a4, a5, a6, some (Sum.inl (Value.int x)), a8], st, s, k) = zev zk_X9_locus (101, [a0, a1, a2, a3, a4, a5, a6, some (Sum.inl (Value.int x)), a8], Sum.inl (Value.int x) :: st, s, k) := zev_go rfl rfl
theorem zr_X9_locus_101 (a0 a1 a2 a3 a4 a6 a7 a8 : Option zAV) (st : List zAV) (s : zAS) (k : Nat × Nat) (x : Int32) : zev zk_X9_locus (101, [a0, a1, a2, a3, a4, some (Sum.inl (Value.int x)), a6, a7, a8], st, s, k) = zev zk_X9_locus (103, [a0, a1, a2, a3, a4, some (Sum.inl (Value.int x)), a6, a7, a8], Sum.inl (Value.int x) :: st, s, k) := zev_go rfl rfl
theorem zr_X9_locus_103 (ls : zLs) (st : List zAV) (s : zAS) (k : Nat × Nat) (r v0 v1 v2 : zAV) (h : zcok zEM 9 0 0 (zR_X9_locus).cells (zR_X9_locus).slots r st k) : zev zk_X9_locus (103, ls, v2 :: v1 :: v0 :: r :: st, s, k) = zret zk_X9_locus 106 ls st (k.1 + 0, k.2 + 0) (m_X9_place [r, v0, v1, v2] s) := zf_callV (as := [v2, v1, v0]) 3 rfl rfl h
theorem zr_X9_locus_106 (a1 a2 a3 a4 a5 a6 a7 a8 : Option zAV) (st : List zAV) (s : zAS) (k : Nat × Nat) (o : Nat × Nat) : zev zk_X9_locus (106, [some (Sum.inr o), a1, a2, a3, a4, a5, a6, a7, a8], st, s, k) = zev zk_X9_locus (107, [some (Sum.inr o), a1, a2, a3, a4, a5, a6, a7, a8], Sum.inr o :: st, s, k) := zev_go rfl rfl
theorem zr_X9_locus_107 (a0 a2 a3 a4 a5 a6 a7 a8 : Option zAV) (st : List zAV) (s : zAS) (k : Nat × Nat) (x : Int32) : zev zk_X9_locus (107, [a0, some (Sum.inl (Value.int x)), a2, a3, a4, a5, a6, a7, a8], st, s, k) = zev zk_X9_locus (108, [a0, some (Sum.inl (Value.int x)), a2, a3, a4, a5, a6, a7, a8], Sum.inl (Value.int x) :: st, s, k) := zev_go rfl rfl
theorem zr_X9_locus_108 (ls : zLs) (st : List zAV) (s : zAS) (k : Nat × Nat) (r v0 : zAV) (h : zcok zEM 9 0 0 (zR_X9_locus).cells (zR_X9_locus).slots r st k) : zev zk_X9_locus (108, ls, v0 :: r :: st, s, k) = zret zk_X9_locus 111 ls st (k.1 + 0, k.2 + 0) (m_X9_lacks [r, v0] s) := zf_callV (as := [v0]) 1 rfl rfl h
theorem zr_X9_locus_111 (ls : zLs) (st : List zAV) (s : zAS) (k : Nat × Nat) (x : Int32) : zev zk_X9_locus (111, ls, Sum.inl (Value.int x) :: st, s, k) = if decide (x = 0) = true then zev zk_X9_locus (120, ls, st, s, k) else zev zk_X9_locus (114, ls, st, s, k) := zf_if (f := fun x => decide (x = 0)) rfl
theorem zr_X9_locus_114 (a0 a1 a2 a3 a4 a5 a7 a8 : Option zAV) (st : List zAV) (s : zAS) (k : Nat × Nat) (x : Int32) : zev zk_X9_locus (114, [a0, a1, a2, a3, a4, a5, some (Sum.inl (Value.int x)), a7, a8], st, s, k) = zev zk_X9_locus (117, [a0, a1, a2, a3, a4, zk1 a5, some (Sum.inl (Value.int (x + (1)))), a7, a8], st, s, k) := zev_go rfl rfl
theorem zr_X9_locus_117 (ls : zLs) (st : List zAV) (s : zAS) (k : Nat × Nat) : zev zk_X9_locus (117, ls, st, s, k) = zev zk_X9_locus (134, ls, st, s, k) := zev_go rfl rfl
theorem zr_X9_locus_120 (a1 a2 a3 a4 a5 a6 a7 a8 : Option zAV) (st : List zAV) (s : zAS) (k : Nat × Nat) (o : Nat × Nat) : zev zk_X9_locus (120, [some (Sum.inr o), a1, a2, a3, a4, a5, a6, a7, a8], st, s, k) = zev zk_X9_locus (121, [some (Sum.inr o), a1, a2, a3, a4, a5, a6, a7, a8], Sum.inr o :: st, s, k) := zev_go rfl rfl
theorem zr_X9_locus_121 (a1 a2 a3 a4 a5 a6 a7 a8 : Option zAV) (st : List zAV) (s : zAS) (k : Nat × Nat) (o : Nat × Nat) : zev zk_X9_locus (121, [some (Sum.inr o), a1, a2, a3, a4, a5, a6, a7, a8], st, s, k) = zev zk_X9_locus (122, [some (Sum.inr o), a1, a2, a3, a4, a5, a6, a7, a8], Sum.inr o :: st, s, k) := zev_go rfl rfl
theorem zr_X9_locus_122 (a0 a2 a3 a4 a5 a6 a7 a8 : Option zAV) (st : List zAV) (s : zAS) (k : Nat × Nat) (x : Int32) : zev zk_X9_locus (122, [a0, some (Sum.inl (Value.int x)), a2, a3, a4, a5, a6, a7, a8], st, s, k) = zev zk_X9_locus (123, [a0, some (Sum.inl (Value.int x)), a2, a3, a4, a5, a6, a7, a8], Sum.inl (Value.int x) :: st, s, k) := zev_go rfl rfl
theorem zr_X9_locus_123 (ls : zLs) (st : List zAV) (s : zAS) (k : Nat × Nat) (r v0 : zAV) (h : zcok zEM 9 0 0 (zR_X9_locus).cells (zR_X9_locus).slots r st k) : zev zk_X9_locus (123, ls, v0 :: r :: st, s, k) = zret zk_X9_locus 126 ls st (k.1 + 0, k.2 + 0) (m_X9_x [r, v0] s) := zf_callV (as := [v0]) 1 rfl rfl h
theorem zr_X9_locus_126 (a1 a2 a3 a4 a5 a6 a7 a8 : Option zAV) (st : List zAV) (s : zAS) (k : Nat × Nat) (o : Nat × Nat) : zev zk_X9_locus (126, [some (Sum.inr o), a1, a2, a3, a4, a5, a6, a7, a8], st, s, k) = zev zk_X9_locus (127, [some (Sum.inr o), a1, a2, a3, a4, a5, a6, a7, a8], Sum.inr o :: st, s, k) := zev_go rfl rfl
theorem zr_X9_locus_127 (a0 a2 a3 a4 a5 a6 a7 a8 : Option zAV) (st : List zAV) (s : zAS) (k : Nat × Nat) (x : Int32) : zev zk_X9_locus (127, [a0, some (Sum.inl (Value.int x)), a2, a3, a4, a5, a6, a7, a8], st, s, k) = zev zk_X9_locus (128, [a0, some (Sum.inl (Value.int x)), a2, a3, a4, a5, a6, a7, a8], Sum.inl (Value.int x) :: st, s, k) := zev_go rfl rfl
theorem zr_X9_locus_128 (ls : zLs) (st : List zAV) (s : zAS) (k : Nat × Nat) (r v0 : zAV) (h : zcok zEM 9 0 0 (zR_X9_locus).cells (zR_X9_locus).slots r st k) : zev zk_X9_locus (128, ls, v0 :: r :: st, s, k) = zret zk_X9_locus 131 ls st (k.1 + 0, k.2 + 0) (m_X9_y [r, v0] s) := zf_callV (as := [v0]) 1 rfl rfl h
theorem zr_X9_locus_131 (ls : zLs) (st : List zAV) (s : zAS) (k : Nat × Nat) (r v0 v1 : zAV) (h : zcok zEM 9 0 0 (zR_X9_locus).cells (zR_X9_locus).slots r st k) : zev zk_X9_locus (131, ls, v1 :: v0 :: r :: st, s, k) = zret zk_X9_locus 134 ls st (k.1 + 0, k.2 + 0) (m_X9_meet [r, v0, v1] s) := zf_callV (as := [v1, v0]) 2 rfl rfl h
theorem zr_X9_locus_134 (a0 a1 a2 a3 a4 a5 a6 a8 : Option zAV) (st : List zAV) (s : zAS) (k : Nat × Nat) (x : Int32) : zev zk_X9_locus (134, [a0, a1, a2, a3, a4, a5, a6, some (Sum.inl (Value.int x)), a8], st, s, k) = zev zk_X9_locus (137, [a0, a1, a2, a3, a4, a5, zk1 a6, some (Sum.inl (Value.int (x + (1)))), a8], st, s, k) := zev_go rfl rfl
theorem zr_X9_locus_137 (ls : zLs) (st : List zAV) (s : zAS) (k : Nat × Nat) : zev zk_X9_locus (137, ls, st, s, k) = zev zk_X9_locus (88, ls, st, s, k) := zev_go rfl rfl
theorem zr_X9_locus_140 (a1 a2 a3 a4 a5 a6 a7 a8 : Option zAV) (st : List zAV) (s : zAS) (k : Nat × Nat) (o : Nat × Nat) : zev zk_X9_locus (140, [some (Sum.inr o), a1, a2, a3, a4, a5, a6, a7, a8], st, s, k) = zev zk_X9_locus (141, [some (Sum.inr o), a1, a2, a3, a4, a5, a6, a7, a8], Sum.inr o :: st, s, k) := zev_go rfl rfl
theorem zr_X9_locus_141 (a0 a1 a3 a4 a5 a6 a7 a8 : Option zAV) (st : List zAV) (s : zAS) (k : Nat × Nat) (x : Int32) : zev zk_X9_locus (141, [a0, a1, some (Sum.inl (Value.int x)), a3, a4, a5, a6, a7, a8], st, s, k) = zev zk_X9_locus (142, [a0, a1, some (Sum.inl (Value.int x)), a3, a4, a5, a6, a7, a8], Sum.inl (Value.int x) :: st, s, k) := zev_go rfl rfl
theorem zr_X9_locus_142 (a0 a1 a2 a3 a5 a6 a7 a8 : Option zAV) (st : List zAV) (s : zAS) (k : Nat × Nat) (x : Int32) : zev zk_X9_locus (142, [a0, a1, a2, a3, some (Sum.inl (Value.int x)), a5, a6, a7, a8], st, s, k) = zev zk_X9_locus (144, [a0, a1, a2, a3, some (Sum.inl (Value.int x)), a5, a6, a7, a8], Sum.inl (Value.int x) :: st, s, k) := zev_go rfl rfl
theorem zr_X9_locus_144 (a0 a1 a2 a3 a4 a6 a7 a8 : Option zAV) (st : List zAV) (s : zAS) (k : Nat × Nat) (x : Int32) : zev zk_X9_locus (144, [a0, a1, a2, a3, a4, some (Sum.inl (Value.int x)), a6, a7, a8], st, s, k) = zev zk_X9_locus (146, [a0, a1, a2, a3, a4, some (Sum.inl (Value.int x)), a6, a7, a8], Sum.inl (Value.int x) :: st, s, k) := zev_go rfl rfl
theorem zr_X9_locus_146 (ls : zLs) (st : List zAV) (s : zAS) (k : Nat × Nat) (r v0 v1 v2 : zAV) (h : zcok zEM 9 0 0 (zR_X9_locus).cells (zR_X9_locus).slots r st k) : zev zk_X9_locus (146, ls, v2 :: v1 :: v0 :: r :: st, s, k) = zret zk_X9_locus 149 ls st (k.1 + 0, k.2 + 0) (m_X9_place [r, v0, v1, v2] s) := zf_callV (as := [v2, v1, v0]) 3 rfl rfl h
theorem zr_X9_locus_149 (ls : zLs) (st : List zAV) (s : zAS) (k : Nat × Nat) : zev zk_X9_locus (149, ls, st, s, k) = zev zk_X9_locus (150, ls, Sum.inl (Value.int (0)) :: st, s, k) := zev_go rfl rfl
theorem zr_X9_locus_150 (a0 a1 a2 a3 a4 a5 a6 a7 a8 : Option zAV) (st : List zAV) (s : zAS) (k : Nat × Nat) (x : Int32) : zev zk_X9_locus (150, [a0, a1, a2, a3, a4, a5, a6, a7, a8], Sum.inl (Value.int x) :: st, s, k) = zev zk_X9_locus (152, [a0, a1, a2, a3, a4, a5, zk1 a6, some (Sum.inl (Value.int x)), a8], st, s, k) := zev_go rfl rfl
theorem zr_X9_locus_152 (ls : zLs) (st : List zAV) (s : zAS) (k : Nat × Nat) : zev zk_X9_locus (152, ls, st, s, k) = zev zk_X9_locus (153, ls, Sum.inl (Value.int (0)) :: st, s, k) := zev_go rfl rfl
theorem zr_X9_locus_153 (a0 a1 a2 a3 a4 a5 a6 a7 a8 : Option zAV) (st : List zAV) (s : zAS) (k : Nat × Nat) (x : Int32) : zev zk_X9_locus (153, [a0, a1, a2, a3, a4, a5, a6, a7, a8], Sum.inl (Value.int x) :: st, s, k) = zev zk_X9_locus (155, [a0, a1, a2, a3, a4, a5, a6, zk1 a7, some (Sum.inl (Value.int x))], st, s, k) := zev_go rfl rfl
theorem zr_X9_locus_155 (a0 a1 a2 a3 a4 a5 a6 a7 : Option zAV) (st : List zAV) (s : zAS) (k : Nat × Nat) (x : Int32) : zev zk_X9_locus (155, [a0, a1, a2, a3, a4, a5, a6, a7, some (Sum.inl (Value.int x))], st, s, k) = zev zk_X9_locus (157, [a0, a1, a2, a3, a4, a5, a6, a7, some (Sum.inl (Value.int x))], Sum.inl (Value.int x) :: st, s, k) := zev_go rfl rfl
theorem zr_X9_locus_157 (a1 a2 a3 a4 a5 a6 a7 a8 : Option zAV) (st : List zAV) (s : zAS) (k : Nat × Nat) (o : Nat × Nat) : zev zk_X9_locus (157, [some (Sum.inr o), a1, a2, a3, a4, a5, a6, a7, a8], st, s, k) = zev zk_X9_locus (158, [some (Sum.inr o), a1, a2, a3, a4, a5, a6, a7, a8], Sum.inr o :: st, s, k) := zev_go rfl rfl
theorem zr_X9_locus_158 (ls : zLs) (st : List zAV) (s : zAS) (k : Nat × Nat) (o i : Nat) : zev zk_X9_locus (158, ls, Sum.inr (o, i) :: st, s, k) = zpush zk_X9_locus 161 ls st s k (zgv zEM 9 7 o i s.1) := zf_get rfl
theorem zr_X9_locus_161 (ls : zLs) (st : List zAV) (s : zAS) (k : Nat × Nat) (x y : Int32) : zev zk_X9_locus (161, ls, Sum.inl (Value.int y) :: Sum.inl (Value.int x) :: st, s, k) = if decide (y ≤ x) = true then zev zk_X9_locus (195, ls, st, s, k) else zev zk_X9_locus (164, ls, st, s, k) := zf_cmp (f := fun x y => decide (y ≤ x)) rfl
theorem zr_X9_locus_164 (a0 a1 a2 a3 a4 a5 a6 a8 : Option zAV) (st : List zAV) (s : zAS) (k : Nat × Nat) (x : Int32) : zev zk_X9_locus (164, [a0, a1, a2, a3, a4, a5, a6, some (Sum.inl (Value.int x)), a8], st, s, k) = zev zk_X9_locus (166, [a0, a1, a2, a3, a4, a5, a6, some (Sum.inl (Value.int x)), a8], Sum.inl (Value.int x) :: st, s, k) := zev_go rfl rfl
theorem zr_X9_locus_166 (a1 a2 a3 a4 a5 a6 a7 a8 : Option zAV) (st : List zAV) (s : zAS) (k : Nat × Nat) (o : Nat × Nat) : zev zk_X9_locus (166, [some (Sum.inr o), a1, a2, a3, a4, a5, a6, a7, a8], st, s, k) = zev zk_X9_locus (167, [some (Sum.inr o), a1, a2, a3, a4, a5, a6, a7, a8], Sum.inr o :: st, s, k) := zev_go rfl rfl
theorem zr_X9_locus_167 (ls : zLs) (st : List zAV) (s : zAS) (k : Nat × Nat) (o i : Nat) : zev zk_X9_locus (167, ls, Sum.inr (o, i) :: st, s, k) = zpush zk_X9_locus 170 ls st s k (zgv zEM 9 1 o i s.1) := zf_get rfl
theorem zr_X9_locus_170 (a1 a2 a3 a4 a5 a6 a7 a8 : Option zAV) (st : List zAV) (s : zAS) (k : Nat × Nat) (o : Nat × Nat) : zev zk_X9_locus (170, [some (Sum.inr o), a1, a2, a3, a4, a5, a6, a7, a8], st, s, k) = zev zk_X9_locus (171, [some (Sum.inr o), a1, a2, a3, a4, a5, a6, a7, a8], Sum.inr o :: st, s, k) := zev_go rfl rfl
theorem zr_X9_locus_171 (ls : zLs) (st : List zAV) (s : zAS) (k : Nat × Nat) (o i : Nat) : zev zk_X9_locus (171, ls, Sum.inr (o, i) :: st, s, k) = zpush zk_X9_locus 174 ls st s k (zgv zEM 9 8 o i s.1) := zf_get rfl
theorem zr_X9_locus_174 (a0 a1 a2 a3 a4 a5 a6 a7 : Option zAV) (st : List zAV) (s : zAS) (k : Nat × Nat) (x : Int32) : zev zk_X9_locus (174, [a0, a1, a2, a3, a4, a5, a6, a7, some (Sum.inl (Value.int x))], st, s, k) = zev zk_X9_locus (176, [a0, a1, a2, a3, a4, a5, a6, a7, some (Sum.inl (Value.int x))], Sum.inl (Value.int x) :: st, s, k) := zev_go rfl rfl
theorem zr_X9_locus_176 (ls : zLs) (st : List zAV) (s : zAS) (k : Nat × Nat) (o i : Nat) (j : Int32) : zev zk_X9_locus (176, ls, Sum.inl (Value.int j) :: Sum.inr (o, i) :: st, s, k) = zpush zk_X9_locus 177 ls st s k (zald zEM o i j s) := zf_iald rfl
theorem zr_X9_locus_177 (ls : zLs) (st : List zAV) (s : zAS) (k : Nat × Nat) (x y : Int32) : zev zk_X9_locus (177, ls, Sum.inl (Value.int y) :: Sum.inl (Value.int x) :: st, s, k) = zev zk_X9_locus (178, ls, Sum.inl (Value.int (x * y)) :: st, s, k) := zev_go rfl rfl
theorem zr_X9_locus_178 (a1 a2 a3 a4 a5 a6 a7 a8 : Option zAV) (st : List zAV) (s : zAS) (k : Nat × Nat) (o : Nat × Nat) : zev zk_X9_locus (178, [some (Sum.inr o), a1, a2, a3, a4, a5, a6, a7, a8], st, s, k) = zev zk_X9_locus (179, [some (Sum.inr o), a1, a2, a3, a4, a5, a6, a7, a8], Sum.inr o :: st, s, k) := zev_go rfl rfl
theorem zr_X9_locus_179 (ls : zLs) (st : List zAV) (s : zAS) (k : Nat × Nat) (o i : Nat) : zev zk_X9_locus (179, ls, Sum.inr (o, i) :: st, s, k) = zpush zk_X9_locus 182 ls st s k (zgv zEM 9 9 o i s.1) := zf_get rfl
theorem zr_X9_locus_182 (a0 a1 a2 a3 a4 a5 a6 a7 : Option zAV) (st : List zAV) (s : zAS) (k : Nat × Nat) (x : Int32) : zev zk_X9_locus (182, [a0, a1, a2, a3, a4, a5, a6, a7, some (Sum.inl (Value.int x))], st, s, k) = zev zk_X9_locus (184, [a0, a1, a2, a3, a4, a5, a6, a7, some (Sum.inl (Value.int x))], Sum.inl (Value.int x) :: st, s, k) := zev_go rfl rfl
theorem zr_X9_locus_184 (ls : zLs) (st : List zAV) (s : zAS) (k : Nat × Nat) (o i : Nat) (j : Int32) : zev zk_X9_locus (184, ls, Sum.inl (Value.int j) :: Sum.inr (o, i) :: st, s, k) = zpush zk_X9_locus 185 ls st s k (zald zEM o i j s) := zf_iald rfl
theorem zr_X9_locus_185 (ls : zLs) (st : List zAV) (s : zAS) (k : Nat × Nat) (x y : Int32) : zev zk_X9_locus (185, ls, Sum.inl (Value.int y) :: Sum.inl (Value.int x) :: st, s, k) = zev zk_X9_locus (186, ls, Sum.inl (Value.int (x + y)) :: st, s, k) := zev_go rfl rfl
theorem zr_X9_locus_186 (ls : zLs) (st : List zAV) (s : zAS) (k : Nat × Nat) (x y : Int32) : zev zk_X9_locus (186, ls, Sum.inl (Value.int y) :: Sum.inl (Value.int x) :: st, s, k) = zev zk_X9_locus (187, ls, Sum.inl (Value.int (x + y)) :: st, s, k) := zev_go rfl rfl
theorem zr_X9_locus_187 (a0 a1 a2 a3 a4 a5 a6 a7 a8 : Option zAV) (st : List zAV) (s : zAS) (k : Nat × Nat) (x : Int32) : zev zk_X9_locus (187, [a0, a1, a2, a3, a4, a5, a6, a7, a8], Sum.inl (Value.int x) :: st, s, k) = zev zk_X9_locus (189, [a0, a1, a2, a3, a4, a5, zk1 a6, some (Sum.inl (Value.int x)), a8], st, s, k) := zev_go rfl rfl
theorem zr_X9_locus_189 (a0 a1 a2 a3 a4 a5 a6 a7 : Option zAV) (st : List zAV) (s : zAS) (k : Nat × Nat) (x : Int32) : zev zk_X9_locus (189, [a0, a1, a2, a3, a4, a5, a6, a7, some (Sum.inl (Value.int x))], st, s, k) = zev zk_X9_locus (192, [a0, a1, a2, a3, a4, a5, a6, zk1 a7, some (Sum.inl (Value.int (x + (1))))], st, s, k) := zev_go rfl rfl
theorem zr_X9_locus_192 (ls : zLs) (st : List zAV) (s : zAS) (k : Nat × Nat) : zev zk_X9_locus (192, ls, st, s, k) = zev zk_X9_locus (155, ls, st, s, k) := zev_go rfl rfl
theorem zr_X9_locus_195 (a0 a1 a2 a4 a5 a6 a7 a8 : Option zAV) (st : List zAV) (s : zAS) (k : Nat × Nat) (x : Int32) : zev zk_X9_locus (195, [a0, a1, a2, some (Sum.inl (Value.int x)), a4, a5, a6, a7, a8], st, s, k) = zev zk_X9_locus (196, [a0, a1, a2, some (Sum.inl (Value.int x)), a4, a5, a6, a7, a8], Sum.inl (Value.int x) :: st, s, k) := zev_go rfl rfl
theorem zr_X9_locus_196 (ls : zLs) (st : List zAV) (s : zAS) (k : Nat × Nat) (x : Int32) : zev zk_X9_locus (196, ls, Sum.inl (Value.int x) :: st, s, k) = if decide (¬ x = 0) = true then zev zk_X9_locus (206, ls, st, s, k) else zev zk_X9_locus (199, ls, st, s, k) := zf_if (f := fun x => decide (¬ x = 0)) rfl
theorem zr_X9_locus_199 (a1 a2 a3 a4 a5 a6 a7 a8 : Option zAV) (st : List zAV) (s : zAS) (k : Nat × Nat) (o : Nat × Nat) : zev zk_X9_locus (199, [some (Sum.inr o), a1, a2, a3, a4, a5, a6, a7, a8], st, s, k) = zev zk_X9_locus (200, [some (Sum.inr o), a1, a2, a3, a4, a5, a6, a7, a8], Sum.inr o :: st, s, k) := zev_go rfl rfl
theorem zr_X9_locus_200 (ls : zLs) (st : List zAV) (s : zAS) (k : Nat × Nat) (o i : Nat) : zev zk_X9_locus (200, ls, Sum.inr (o, i) :: st, s, k) = zpush zk_X9_locus 203 ls st s k (zgv zEM 9 7 o i s.1) := zf_get rfl
theorem zr_X9_locus_203 (ls : zLs) (st : List zAV) (s : zAS) (k : Nat × Nat) : zev zk_X9_locus (203, ls, st, s, k) = zev zk_X9_locus (230, ls, st, s, k) := zev_go rfl rfl
theorem zr_X9_locus_206 (a0 a1 a2 a4 a5 a6 a7 a8 : Option zAV) (st : List zAV) (s : zAS) (k : Nat × Nat) (x : Int32) : zev zk_X9_locus (206, [a0, a1, a2, some (Sum.inl (Value.int x)), a4, a5, a6, a7, a8], st, s, k) = zev zk_X9_locus (207, [a0, a1, a2, some (Sum.inl (Value.int x)), a4, a5, a6, a7, a8], Sum.inl (Value.int x) :: st, s, k) := zev_go rfl rfl
theorem zr_X9_locus_207 (ls : zLs) (st : List zAV) (s : zAS) (k : Nat × Nat) : zev zk_X9_locus (207, ls, st, s, k) = zev zk_X9_locus (208, ls, Sum.inl (Value.int (1)) :: st, s, k) := zev_go rfl rfl
theorem zr_X9_locus_208 (ls : zLs) (st : List zAV) (s : zAS) (k : Nat × Nat) (x y : Int32) : zev zk_X9_locus (208, ls, Sum.inl (Value.int y) :: Sum.inl (Value.int x) :: st, s, k) = if decide (¬ x = y) = true then zev zk_X9_locus (218, ls, st, s, k) else zev zk_X9_locus (211, ls, st, s, k) := zf_cmp (f := fun x y => decide (¬ x = y)) rfl
theorem zr_X9_locus_211 (a1 a2 a3 a4 a5 a6 a7 a8 : Option zAV) (st : List zAV) (s : zAS) (k : Nat × Nat) (o : Nat × Nat) : zev zk_X9_locus (211, [some (Sum.inr o), a1, a2, a3, a4, a5, a6, a7, a8], st, s, k) = zev zk_X9_locus (212, [some (Sum.inr o), a1, a2, a3, a4, a5, a6, a7, a8], Sum.inr o :: st, s, k) := zev_go rfl rfl
theorem zr_X9_locus_212 (ls : zLs) (st : List zAV) (s : zAS) (k : Nat × Nat) (r : zAV) (h : zcok zEM 9 0 0 (zR_X9_locus).cells (zR_X9_locus).slots r st k) : zev zk_X9_locus (212, ls, r :: st, s, k) = zret zk_X9_locus 215 ls st (k.1 + 0, k.2 + 0) (m_X9_figure [r] s) := zf_callV (as := []) 0 rfl rfl h
theorem zr_X9_locus_215 (ls : zLs) (st : List zAV) (s : zAS) (k : Nat × Nat) : zev zk_X9_locus (215, ls, st, s, k) = zev zk_X9_locus (230, ls, st, s, k) := zev_go rfl rfl
theorem zr_X9_locus_218 (a0 a1 a2 a4 a5 a6 a7 a8 : Option zAV) (st : List zAV) (s : zAS) (k : Nat × Nat) (x : Int32) : zev zk_X9_locus (218, [a0, a1, a2, some (Sum.inl (Value.int x)), a4, a5, a6, a7, a8], st, s, k) = zev zk_X9_locus (219, [a0, a1, a2, some (Sum.inl (Value.int x)), a4, a5, a6, a7, a8], Sum.inl (Value.int x) :: st, s, k) := zev_go rfl rfl
theorem zr_X9_locus_219 (ls : zLs) (st : List zAV) (s : zAS) (k : Nat × Nat) : zev zk_X9_locus (219, ls, st, s, k) = zev zk_X9_locus (220, ls, Sum.inl (Value.int (2)) :: st, s, k) := zev_go rfl rfl
theorem zr_X9_locus_220 (ls : zLs) (st : List zAV) (s : zAS) (k : Nat × Nat) (x y : Int32) : zev zk_X9_locus (220, ls, Sum.inl (Value.int y) :: Sum.inl (Value.int x) :: st, s, k) = if decide (¬ x = y) = true then zev zk_X9_locus (228, ls, st, s, k) else zev zk_X9_locus (223, ls, st, s, k) := zf_cmp (f := fun x y => decide (¬ x = y)) rfl
theorem zr_X9_locus_223 (a0 a1 a2 a3 a4 a5 a7 a8 : Option zAV) (st : List zAV) (s : zAS) (k : Nat × Nat) (x : Int32) : zev zk_X9_locus (223, [a0, a1, a2, a3, a4, a5, some (Sum.inl (Value.int x)), a7, a8], st, s, k) = zev zk_X9_locus (225, [a0, a1, a2, a3, a4, a5, some (Sum.inl (Value.int x)), a7, a8], Sum.inl (Value.int x) :: st, s, k) := zev_go rfl rfl
theorem zr_X9_locus_225 (ls : zLs) (st : List zAV) (s : zAS) (k : Nat × Nat) : zev zk_X9_locus (225, ls, st, s, k) = zev zk_X9_locus (230, ls, st, s, k) := zev_go rfl rfl
theorem zr_X9_locus_228 (a0 a1 a2 a3 a4 a5 a6 a8 : Option zAV) (st : List zAV) (s : zAS) (k : Nat × Nat) (x : Int32) : zev zk_X9_locus (228, [a0, a1, a2, a3, a4, a5, a6, some (Sum.inl (Value.int x)), a8], st, s, k) = zev zk_X9_locus (230, [a0, a1, a2, a3, a4, a5, a6, some (Sum.inl (Value.int x)), a8], Sum.inl (Value.int x) :: st, s, k) := zev_go rfl rfl
theorem zr_X9_locus_230 (ls : zLs) (s : zAS) (k : Nat × Nat) (x : Int32) : zev zk_X9_locus (230, ls, [Sum.inl (Value.int x)], s, k) = some (.inl (some (Sum.inl (Value.int x))), s) := zf_reti rfl
/-! X9_truth: PrimePlaneModel.truth()D -/
abbrev zR_X9_truth : Room := ({ frames := 7, cells := 0, slots := 0, locals := 167 } : Room)
noncomputable def zl_X9_truth : List (Nat × zOp) := [(0, z_lda 0 1), (1, z_ic (0) 2), (2, z_put zEM 9 0 false 5), (5, z_ic (0) 6), (6, z_sti 1 7), (7, z_ic (0) 8), (8, z_sti 2 9), (9, z_ic (0) 10), (10, z_sti 3 11), (11, z_ldi 3 12), (12, z_lda 0 13), (13, z_get zEM 9 4 16), (16, z_cmp (fun x y => decide (y ≤ x)) 59 19), (19, z_ldi 1 20), (20, z_lda 0 21), (21, z_ldi 3 22), (22, z_callV zEM 9 m_X9_verdict 1 0 0 (zR_X9_truth).cells (zR_X9_truth).slots 25), (25, z_ic (1) 26), (26, z_cmp (fun x y => decide (¬ x = y)) 33 29), (29, z_ic (1) 30), (30, z_goto 34), (33, z_ic (0) 34), (34, z_bin (fun x y => x + y) 35), (35, z_sti 1 36), (36, z_ldi 2 37), (37, z_lda 0 38), (38, z_ldi 3 39), (39, z_callV zEM 9 m_X9_verdict 1 0 0 (zR_X9_truth).cells (zR_X9_truth).slots 42), (42, z_ic (-1) 43), (43, z_cmp (fun x y => decide (¬ x = y)) 50 46), (46, z_ic (0) 47), (47, z_goto 51), (50, z_ic (1) 51), (51, z_bin (fun x y => x + y) 52), (52, z_sti 2 53), (53, z_iinc 3 (1) 56), (56, z_goto 11), (59, z_ldi 2 60), (60, z_if (fun x => decide (¬ x = 0)) 67 63), (63, z_dc 0x3ff0000000000000 64), (64, z_goto 72), (67, z_ldi 1 68), (68, z_i2d 69), (69, z_ldi 2 70), (70, z_i2d 71), (71, z_ddiv 72), (72, z_retd)]
noncomputable def zk_X9_truth (pc : Nat) : Option zOp := zlook zl_X9_truth pc
noncomputable def m_X9_truth : List zAV → zAS → Option zOut := zmeth zk_X9_truth 4
set_option maxRecDepth 100000 in
set_option maxHeartbeats 4000000 in
theorem zcs_X9_truth {R : Room} (hR : R = zR_X9_truth) : ∀ q ∈ zl_X9_truth, zS zEM yX9_truth.cls cX9_truth 4 wsX9_truth (some .double) R q.1 q.2 := by
  subst hR
  have hin9 : ∀ w ∈ wsX90, w ∈ wsX9_truth := fun w h => List.mem_cons_of_mem _ (List.mem_append_right _ h)
  refine List.forall_mem_cons.mpr ⟨zs_aload_n dX9_truth_0 rfl, ?_⟩
  refine List.forall_mem_cons.mpr ⟨zs_iconst dX9_truth_1 (by decide), ?_⟩
  refine List.forall_mem_cons.mpr ⟨zs_put (ci := 9) (j := 0) (N := 10) (C := RX9) (T := TX9) (index := 29) (b := false) .int tyX9 rfl (by decide) hin9 tyX9_ok nmX9 (List.mem_of_getElem? (i := 1) rfl) rfl (by decide +kernel) zni dX9_truth_2, ?_⟩
  refine List.forall_mem_cons.mpr ⟨zs_iconst dX9_truth_5 (by decide), ?_⟩
  refine List.forall_mem_cons.mpr ⟨zs_istore_n dX9_truth_6 rfl, ?_⟩
  refine List.forall_mem_cons.mpr ⟨zs_iconst dX9_truth_7 (by decide), ?_⟩
  refine List.forall_mem_cons.mpr ⟨zs_istore_n dX9_truth_8 rfl, ?_⟩
  refine List.forall_mem_cons.mpr ⟨zs_iconst dX9_truth_9 (by decide), ?_⟩
  refine List.forall_mem_cons.mpr ⟨zs_istore_n dX9_truth_10 rfl, ?_⟩
  refine List.forall_mem_cons.mpr ⟨zs_iload_n dX9_truth_11 rfl, ?_⟩
  refine List.forall_mem_cons.mpr ⟨zs_aload_n dX9_truth_12 rfl, ?_⟩
  refine List.forall_mem_cons.mpr ⟨zs_get (ci := 9) (j := 4) (N := 10) (C := RX9) (T := TX9) (index := 55) rfl (by decide) hin9 (List.mem_of_getElem? (i := 2) rfl) dX9_truth_13, ?_⟩
  refine List.forall_mem_cons.mpr ⟨zs_icge dX9_truth_16 (by decide), ?_⟩
  refine List.forall_mem_cons.mpr ⟨zs_iload_n dX9_truth_19 rfl, ?_⟩
  refine List.forall_mem_cons.mpr ⟨zs_aload_n dX9_truth_20 rfl, ?_⟩
  refine List.forall_mem_cons.mpr ⟨zs_iload_n dX9_truth_21 rfl, ?_⟩
  refine List.forall_mem_cons.mpr ⟨zs_callV (ci := 9) (rm := zR_X9_verdict) (n := 1) rfl zM_X9_verdict gX9_truth_X9_verdict rfl (by decide +kernel) ⟨by decide, by decide⟩ dX9_truth_22, ?_⟩
  refine List.forall_mem_cons.mpr ⟨zs_iconst dX9_truth_25 (by decide), ?_⟩
  refine List.forall_mem_cons.mpr ⟨zs_icne dX9_truth_26 (by decide), ?_⟩
  refine List.forall_mem_cons.mpr ⟨zs_iconst dX9_truth_29 (by decide), ?_⟩
  refine List.forall_mem_cons.mpr ⟨zs_goto dX9_truth_30 (by decide), ?_⟩
  refine List.forall_mem_cons.mpr ⟨zs_iconst dX9_truth_33 (by decide), ?_⟩
  refine List.forall_mem_cons.mpr ⟨zs_iadd dX9_truth_34, ?_⟩
  refine List.forall_mem_cons.mpr ⟨zs_istore_n dX9_truth_35 rfl, ?_⟩
  refine List.forall_mem_cons.mpr ⟨zs_iload_n dX9_truth_36 rfl, ?_⟩
  refine List.forall_mem_cons.mpr ⟨zs_aload_n dX9_truth_37 rfl, ?_⟩
  refine List.forall_mem_cons.mpr ⟨zs_iload_n dX9_truth_38 rfl, ?_⟩
  refine List.forall_mem_cons.mpr ⟨zs_callV (ci := 9) (rm := zR_X9_verdict) (n := 1) rfl zM_X9_verdict gX9_truth_X9_verdict rfl (by decide +kernel) ⟨by decide, by decide⟩ dX9_truth_39, ?_⟩
  refine List.forall_mem_cons.mpr ⟨zs_iconst dX9_truth_42 (by decide), ?_⟩
  refine List.forall_mem_cons.mpr ⟨zs_icne dX9_truth_43 (by decide), ?_⟩
  refine List.forall_mem_cons.mpr ⟨zs_iconst dX9_truth_46 (by decide), ?_⟩
  refine List.forall_mem_cons.mpr ⟨zs_goto dX9_truth_47 (by decide), ?_⟩
  refine List.forall_mem_cons.mpr ⟨zs_iconst dX9_truth_50 (by decide), ?_⟩
  refine List.forall_mem_cons.mpr ⟨zs_iadd dX9_truth_51, ?_⟩
  refine List.forall_mem_cons.mpr ⟨zs_istore_n dX9_truth_52 rfl, ?_⟩
  refine List.forall_mem_cons.mpr ⟨zs_iinc dX9_truth_53 (by decide), ?_⟩
  refine List.forall_mem_cons.mpr ⟨zs_goto dX9_truth_56 (by decide), ?_⟩
  refine List.forall_mem_cons.mpr ⟨zs_iload_n dX9_truth_59 rfl, ?_⟩
  refine List.forall_mem_cons.mpr ⟨zs_ifne dX9_truth_60 (by decide), ?_⟩
  refine List.forall_mem_cons.mpr ⟨zs_dconst1 dX9_truth_63, ?_⟩
  refine List.forall_mem_cons.mpr ⟨zs_goto dX9_truth_64 (by decide), ?_⟩
  refine List.forall_mem_cons.mpr ⟨zs_iload_n dX9_truth_67 rfl, ?_⟩
  refine List.forall_mem_cons.mpr ⟨zs_i2d dX9_truth_68, ?_⟩
  refine List.forall_mem_cons.mpr ⟨zs_iload_n dX9_truth_69 rfl, ?_⟩
  refine List.forall_mem_cons.mpr ⟨zs_i2d dX9_truth_70, ?_⟩
  refine List.forall_mem_cons.mpr ⟨zs_ddiv dX9_truth_71, ?_⟩
  refine List.forall_mem_cons.mpr ⟨zs_retd rfl dX9_truth_72, ?_⟩
  exact fun _ h => absurd h List.not_mem_nil
theorem zM_X9_truth : zMeets zEM yX9_truth wsX9_truth zR_X9_truth m_X9_truth := zmeth_M zEMok (zlook_all (zcs_X9_truth rfl)) (by decide +kernel) rfl
theorem zr_X9_truth_0 (a1 a2 a3 : Option zAV) (st : List zAV) (s : zAS) (k : Nat × Nat) (o : Nat × Nat) : zev zk_X9_truth (0, [some (Sum.inr o), a1, a2, a3], st, s, k) = zev zk_X9_truth (1, [some (Sum.inr o), a1, a2, a3], Sum.inr o :: st, s, k) := zev_go rfl rfl
theorem zr_X9_truth_1 (ls : zLs) (st : List zAV) (s : zAS) (k : Nat × Nat) : zev zk_X9_truth (1, ls, st, s, k) = zev zk_X9_truth (2, ls, Sum.inl (Value.int (0)) :: st, s, k) := zev_go rfl rfl
theorem zr_X9_truth_2 (ls : zLs) (st : List zAV) (s : zAS) (k : Nat × Nat) (o i : Nat) (x : Int32) (h : zpok zEM 9 0 false o i x) : zev zk_X9_truth (2, ls, Sum.inl (Value.int x) :: Sum.inr (o, i) :: st, s, k) = zev zk_X9_truth (5, ls, st, (zup s.1 o i 0 x, s.2), k) := zf_put rfl h
theorem zr_X9_truth_5 (ls : zLs) (st : List zAV) (s : zAS) (k : Nat × Nat) : zev zk_X9_truth (5, ls, st, s, k) = zev zk_X9_truth (6, ls, Sum.inl (Value.int (0)) :: st, s, k) := zev_go rfl rfl
theorem zr_X9_truth_6 (a0 a1 a2 a3 : Option zAV) (st : List zAV) (s : zAS) (k : Nat × Nat) (x : Int32) : zev zk_X9_truth (6, [a0, a1, a2, a3], Sum.inl (Value.int x) :: st, s, k) = zev zk_X9_truth (7, [zk1 a0, some (Sum.inl (Value.int x)), a2, a3], st, s, k) := zev_go rfl rfl
theorem zr_X9_truth_7 (ls : zLs) (st : List zAV) (s : zAS) (k : Nat × Nat) : zev zk_X9_truth (7, ls, st, s, k) = zev zk_X9_truth (8, ls, Sum.inl (Value.int (0)) :: st, s, k) := zev_go rfl rfl
theorem zr_X9_truth_8 (a0 a1 a2 a3 : Option zAV) (st : List zAV) (s : zAS) (k : Nat × Nat) (x : Int32) : zev zk_X9_truth (8, [a0, a1, a2, a3], Sum.inl (Value.int x) :: st, s, k) = zev zk_X9_truth (9, [a0, zk1 a1, some (Sum.inl (Value.int x)), a3], st, s, k) := zev_go rfl rfl
theorem zr_X9_truth_9 (ls : zLs) (st : List zAV) (s : zAS) (k : Nat × Nat) : zev zk_X9_truth (9, ls, st, s, k) = zev zk_X9_truth (10, ls, Sum.inl (Value.int (0)) :: st, s, k) := zev_go rfl rfl
theorem zr_X9_truth_10 (a0 a1 a2 a3 : Option zAV) (st : List zAV) (s : zAS) (k : Nat × Nat) (x : Int32) : zev zk_X9_truth (10, [a0, a1, a2, a3], Sum.inl (Value.int x) :: st, s, k) = zev zk_X9_truth (11, [a0, a1, zk1 a2, some (Sum.inl (Value.int x))], st, s, k) := zev_go rfl rfl
theorem zr_X9_truth_11 (a0 a1 a2 : Option zAV) (st : List zAV) (s : zAS) (k : Nat × Nat) (x : Int32) : zev zk_X9_truth (11, [a0, a1, a2, some (Sum.inl (Value.int x))], st, s, k) = zev zk_X9_truth (12, [a0, a1, a2, some (Sum.inl (Value.int x))], Sum.inl (Value.int x) :: st, s, k) := zev_go rfl rfl
theorem zr_X9_truth_12 (a1 a2 a3 : Option zAV) (st : List zAV) (s : zAS) (k : Nat × Nat) (o : Nat × Nat) : zev zk_X9_truth (12, [some (Sum.inr o), a1, a2, a3], st, s, k) = zev zk_X9_truth (13, [some (Sum.inr o), a1, a2, a3], Sum.inr o :: st, s, k) := zev_go rfl rfl
theorem zr_X9_truth_13 (ls : zLs) (st : List zAV) (s : zAS) (k : Nat × Nat) (o i : Nat) : zev zk_X9_truth (13, ls, Sum.inr (o, i) :: st, s, k) = zpush zk_X9_truth 16 ls st s k (zgv zEM 9 4 o i s.1) := zf_get rfl
theorem zr_X9_truth_16 (ls : zLs) (st : List zAV) (s : zAS) (k : Nat × Nat) (x y : Int32) : zev zk_X9_truth (16, ls, Sum.inl (Value.int y) :: Sum.inl (Value.int x) :: st, s, k) = if decide (y ≤ x) = true then zev zk_X9_truth (59, ls, st, s, k) else zev zk_X9_truth (19, ls, st, s, k) := zf_cmp (f := fun x y => decide (y ≤ x)) rfl
theorem zr_X9_truth_19 (a0 a2 a3 : Option zAV) (st : List zAV) (s : zAS) (k : Nat × Nat) (x : Int32) : zev zk_X9_truth (19, [a0, some (Sum.inl (Value.int x)), a2, a3], st, s, k) = zev zk_X9_truth (20, [a0, some (Sum.inl (Value.int x)), a2, a3], Sum.inl (Value.int x) :: st, s, k) := zev_go rfl rfl
theorem zr_X9_truth_20 (a1 a2 a3 : Option zAV) (st : List zAV) (s : zAS) (k : Nat × Nat) (o : Nat × Nat) : zev zk_X9_truth (20, [some (Sum.inr o), a1, a2, a3], st, s, k) = zev zk_X9_truth (21, [some (Sum.inr o), a1, a2, a3], Sum.inr o :: st, s, k) := zev_go rfl rfl
theorem zr_X9_truth_21 (a0 a1 a2 : Option zAV) (st : List zAV) (s : zAS) (k : Nat × Nat) (x : Int32) : zev zk_X9_truth (21, [a0, a1, a2, some (Sum.inl (Value.int x))], st, s, k) = zev zk_X9_truth (22, [a0, a1, a2, some (Sum.inl (Value.int x))], Sum.inl (Value.int x) :: st, s, k) := zev_go rfl rfl
theorem zr_X9_truth_22 (ls : zLs) (st : List zAV) (s : zAS) (k : Nat × Nat) (r v0 : zAV) (h : zcok zEM 9 0 0 (zR_X9_truth).cells (zR_X9_truth).slots r st k) : zev zk_X9_truth (22, ls, v0 :: r :: st, s, k) = zret zk_X9_truth 25 ls st (k.1 + 0, k.2 + 0) (m_X9_verdict [r, v0] s) := zf_callV (as := [v0]) 1 rfl rfl h
theorem zr_X9_truth_25 (ls : zLs) (st : List zAV) (s : zAS) (k : Nat × Nat) : zev zk_X9_truth (25, ls, st, s, k) = zev zk_X9_truth (26, ls, Sum.inl (Value.int (1)) :: st, s, k) := zev_go rfl rfl
theorem zr_X9_truth_26 (ls : zLs) (st : List zAV) (s : zAS) (k : Nat × Nat) (x y : Int32) : zev zk_X9_truth (26, ls, Sum.inl (Value.int y) :: Sum.inl (Value.int x) :: st, s, k) = if decide (¬ x = y) = true then zev zk_X9_truth (33, ls, st, s, k) else zev zk_X9_truth (29, ls, st, s, k) := zf_cmp (f := fun x y => decide (¬ x = y)) rfl
theorem zr_X9_truth_29 (ls : zLs) (st : List zAV) (s : zAS) (k : Nat × Nat) : zev zk_X9_truth (29, ls, st, s, k) = zev zk_X9_truth (30, ls, Sum.inl (Value.int (1)) :: st, s, k) := zev_go rfl rfl
theorem zr_X9_truth_30 (ls : zLs) (st : List zAV) (s : zAS) (k : Nat × Nat) : zev zk_X9_truth (30, ls, st, s, k) = zev zk_X9_truth (34, ls, st, s, k) := zev_go rfl rfl
theorem zr_X9_truth_33 (ls : zLs) (st : List zAV) (s : zAS) (k : Nat × Nat) : zev zk_X9_truth (33, ls, st, s, k) = zev zk_X9_truth (34, ls, Sum.inl (Value.int (0)) :: st, s, k) := zev_go rfl rfl
theorem zr_X9_truth_34 (ls : zLs) (st : List zAV) (s : zAS) (k : Nat × Nat) (x y : Int32) : zev zk_X9_truth (34, ls, Sum.inl (Value.int y) :: Sum.inl (Value.int x) :: st, s, k) = zev zk_X9_truth (35, ls, Sum.inl (Value.int (x + y)) :: st, s, k) := zev_go rfl rfl
theorem zr_X9_truth_35 (a0 a1 a2 a3 : Option zAV) (st : List zAV) (s : zAS) (k : Nat × Nat) (x : Int32) : zev zk_X9_truth (35, [a0, a1, a2, a3], Sum.inl (Value.int x) :: st, s, k) = zev zk_X9_truth (36, [zk1 a0, some (Sum.inl (Value.int x)), a2, a3], st, s, k) := zev_go rfl rfl
theorem zr_X9_truth_36 (a0 a1 a3 : Option zAV) (st : List zAV) (s : zAS) (k : Nat × Nat) (x : Int32) : zev zk_X9_truth (36, [a0, a1, some (Sum.inl (Value.int x)), a3], st, s, k) = zev zk_X9_truth (37, [a0, a1, some (Sum.inl (Value.int x)), a3], Sum.inl (Value.int x) :: st, s, k) := zev_go rfl rfl
theorem zr_X9_truth_37 (a1 a2 a3 : Option zAV) (st : List zAV) (s : zAS) (k : Nat × Nat) (o : Nat × Nat) : zev zk_X9_truth (37, [some (Sum.inr o), a1, a2, a3], st, s, k) = zev zk_X9_truth (38, [some (Sum.inr o), a1, a2, a3], Sum.inr o :: st, s, k) := zev_go rfl rfl
theorem zr_X9_truth_38 (a0 a1 a2 : Option zAV) (st : List zAV) (s : zAS) (k : Nat × Nat) (x : Int32) : zev zk_X9_truth (38, [a0, a1, a2, some (Sum.inl (Value.int x))], st, s, k) = zev zk_X9_truth (39, [a0, a1, a2, some (Sum.inl (Value.int x))], Sum.inl (Value.int x) :: st, s, k) := zev_go rfl rfl
theorem zr_X9_truth_39 (ls : zLs) (st : List zAV) (s : zAS) (k : Nat × Nat) (r v0 : zAV) (h : zcok zEM 9 0 0 (zR_X9_truth).cells (zR_X9_truth).slots r st k) : zev zk_X9_truth (39, ls, v0 :: r :: st, s, k) = zret zk_X9_truth 42 ls st (k.1 + 0, k.2 + 0) (m_X9_verdict [r, v0] s) := zf_callV (as := [v0]) 1 rfl rfl h
theorem zr_X9_truth_42 (ls : zLs) (st : List zAV) (s : zAS) (k : Nat × Nat) : zev zk_X9_truth (42, ls, st, s, k) = zev zk_X9_truth (43, ls, Sum.inl (Value.int (-1)) :: st, s, k) := zev_go rfl rfl
theorem zr_X9_truth_43 (ls : zLs) (st : List zAV) (s : zAS) (k : Nat × Nat) (x y : Int32) : zev zk_X9_truth (43, ls, Sum.inl (Value.int y) :: Sum.inl (Value.int x) :: st, s, k) = if decide (¬ x = y) = true then zev zk_X9_truth (50, ls, st, s, k) else zev zk_X9_truth (46, ls, st, s, k) := zf_cmp (f := fun x y => decide (¬ x = y)) rfl
theorem zr_X9_truth_46 (ls : zLs) (st : List zAV) (s : zAS) (k : Nat × Nat) : zev zk_X9_truth (46, ls, st, s, k) = zev zk_X9_truth (47, ls, Sum.inl (Value.int (0)) :: st, s, k) := zev_go rfl rfl
theorem zr_X9_truth_47 (ls : zLs) (st : List zAV) (s : zAS) (k : Nat × Nat) : zev zk_X9_truth (47, ls, st, s, k) = zev zk_X9_truth (51, ls, st, s, k) := zev_go rfl rfl
theorem zr_X9_truth_50 (ls : zLs) (st : List zAV) (s : zAS) (k : Nat × Nat) : zev zk_X9_truth (50, ls, st, s, k) = zev zk_X9_truth (51, ls, Sum.inl (Value.int (1)) :: st, s, k) := zev_go rfl rfl
theorem zr_X9_truth_51 (ls : zLs) (st : List zAV) (s : zAS) (k : Nat × Nat) (x y : Int32) : zev zk_X9_truth (51, ls, Sum.inl (Value.int y) :: Sum.inl (Value.int x) :: st, s, k) = zev zk_X9_truth (52, ls, Sum.inl (Value.int (x + y)) :: st, s, k) := zev_go rfl rfl
theorem zr_X9_truth_52 (a0 a1 a2 a3 : Option zAV) (st : List zAV) (s : zAS) (k : Nat × Nat) (x : Int32) : zev zk_X9_truth (52, [a0, a1, a2, a3], Sum.inl (Value.int x) :: st, s, k) = zev zk_X9_truth (53, [a0, zk1 a1, some (Sum.inl (Value.int x)), a3], st, s, k) := zev_go rfl rfl
theorem zr_X9_truth_53 (a0 a1 a2 : Option zAV) (st : List zAV) (s : zAS) (k : Nat × Nat) (x : Int32) : zev zk_X9_truth (53, [a0, a1, a2, some (Sum.inl (Value.int x))], st, s, k) = zev zk_X9_truth (56, [a0, a1, zk1 a2, some (Sum.inl (Value.int (x + (1))))], st, s, k) := zev_go rfl rfl
theorem zr_X9_truth_56 (ls : zLs) (st : List zAV) (s : zAS) (k : Nat × Nat) : zev zk_X9_truth (56, ls, st, s, k) = zev zk_X9_truth (11, ls, st, s, k) := zev_go rfl rfl
theorem zr_X9_truth_59 (a0 a1 a3 : Option zAV) (st : List zAV) (s : zAS) (k : Nat × Nat) (x : Int32) : zev zk_X9_truth (59, [a0, a1, some (Sum.inl (Value.int x)), a3], st, s, k) = zev zk_X9_truth (60, [a0, a1, some (Sum.inl (Value.int x)), a3], Sum.inl (Value.int x) :: st, s, k) := zev_go rfl rfl
theorem zr_X9_truth_60 (ls : zLs) (st : List zAV) (s : zAS) (k : Nat × Nat) (x : Int32) : zev zk_X9_truth (60, ls, Sum.inl (Value.int x) :: st, s, k) = if decide (¬ x = 0) = true then zev zk_X9_truth (67, ls, st, s, k) else zev zk_X9_truth (63, ls, st, s, k) := zf_if (f := fun x => decide (¬ x = 0)) rfl
theorem zr_X9_truth_63 (ls : zLs) (st : List zAV) (s : zAS) (k : Nat × Nat) : zev zk_X9_truth (63, ls, st, s, k) = zev zk_X9_truth (64, ls, Sum.inl (Value.double 0x3ff0000000000000) :: st, s, k) := zev_go rfl rfl
theorem zr_X9_truth_64 (ls : zLs) (st : List zAV) (s : zAS) (k : Nat × Nat) : zev zk_X9_truth (64, ls, st, s, k) = zev zk_X9_truth (72, ls, st, s, k) := zev_go rfl rfl
theorem zr_X9_truth_67 (a0 a2 a3 : Option zAV) (st : List zAV) (s : zAS) (k : Nat × Nat) (x : Int32) : zev zk_X9_truth (67, [a0, some (Sum.inl (Value.int x)), a2, a3], st, s, k) = zev zk_X9_truth (68, [a0, some (Sum.inl (Value.int x)), a2, a3], Sum.inl (Value.int x) :: st, s, k) := zev_go rfl rfl
theorem zr_X9_truth_68 (ls : zLs) (st : List zAV) (s : zAS) (k : Nat × Nat) (x : Int32) : zev zk_X9_truth (68, ls, Sum.inl (Value.int x) :: st, s, k) = zev zk_X9_truth (69, ls, Sum.inl (Value.double (FP.i2d x)) :: st, s, k) := zev_go rfl rfl
theorem zr_X9_truth_69 (a0 a1 a3 : Option zAV) (st : List zAV) (s : zAS) (k : Nat × Nat) (x : Int32) : zev zk_X9_truth (69, [a0, a1, some (Sum.inl (Value.int x)), a3], st, s, k) = zev zk_X9_truth (70, [a0, a1, some (Sum.inl (Value.int x)), a3], Sum.inl (Value.int x) :: st, s, k) := zev_go rfl rfl
theorem zr_X9_truth_70 (ls : zLs) (st : List zAV) (s : zAS) (k : Nat × Nat) (x : Int32) : zev zk_X9_truth (70, ls, Sum.inl (Value.int x) :: st, s, k) = zev zk_X9_truth (71, ls, Sum.inl (Value.double (FP.i2d x)) :: st, s, k) := zev_go rfl rfl
theorem zr_X9_truth_71 (ls : zLs) (st : List zAV) (s : zAS) (k : Nat × Nat) (x y : UInt64) : zev zk_X9_truth (71, ls, Sum.inl (Value.double y) :: Sum.inl (Value.double x) :: st, s, k) = zcont zk_X9_truth (z_ddiv 72 ls (Sum.inl (Value.double y) :: Sum.inl (Value.double x) :: st) s k) := zev_step rfl _ _ _ _
theorem zr_X9_truth_72 (ls : zLs) (s : zAS) (k : Nat × Nat) (x : UInt64) : zev zk_X9_truth (72, ls, [Sum.inl (Value.double x)], s, k) = some (.inl (some (Sum.inl (Value.double x))), s) := zev_end rfl rfl
/-! X9_digest: PrimePlaneModel.digest()J -/
abbrev zR_X9_digest : Room := ({ frames := 7, cells := 0, slots := 0, locals := 167 } : Room)
noncomputable def zl_X9_digest : List (Nat × zOp) := [(0, z_lda 0 1), (1, z_ic (0) 2), (2, z_put zEM 9 0 false 5), (5, z_lc (421) 8), (8, z_st2 1 9), (9, z_ic (0) 10), (10, z_sti 3 11), (11, z_ldi 3 12), (12, z_ic (5) 13), (13, z_cmp (fun x y => decide (y ≤ x)) 35 16), (16, z_ldl 1 17), (17, z_lc (31) 20), (20, z_lbin (fun x y => x * y) 21), (21, z_lda 0 22), (22, z_ldi 3 23), (23, z_callV zEM 9 m_X9_counted 1 0 0 (zR_X9_digest).cells (zR_X9_digest).slots 26), (26, z_i2l 27), (27, z_lbin (fun x y => x + y) 28), (28, z_st2 1 29), (29, z_iinc 3 (1) 32), (32, z_goto 11), (35, z_ic (0) 36), (36, z_sti 3 37), (37, z_ldi 3 38), (38, z_lda 0 39), (39, z_get zEM 9 2 42), (42, z_cmp (fun x y => decide (y ≤ x)) 123 45), (45, z_ic (0) 46), (46, z_sti 4 48), (48, z_ldi 4 50), (50, z_ic (6) 52), (52, z_cmp (fun x y => decide (y ≤ x)) 76 55), (55, z_ldl 1 56), (56, z_lc (31) 59), (59, z_lbin (fun x y => x * y) 60), (60, z_lda 0 61), (61, z_ldi 3 62), (62, z_ldi 4 64), (64, z_callV zEM 9 m_X9_objectTold 2 0 0 (zR_X9_digest).cells (zR_X9_digest).slots 67), (67, z_i2l 68), (68, z_lbin (fun x y => x + y) 69), (69, z_st2 1 70), (70, z_iinc 4 (1) 73), (73, z_goto 48), (76, z_ic (0) 77), (77, z_sti 4 79), (79, z_ldi 4 81), (81, z_ic (3) 82), (82, z_cmp (fun x y => decide (y ≤ x)) 117 85), (85, z_lda 0 86), (86, z_ldi 3 87), (87, z_callV zEM 9 m_X9_lacks 1 0 0 (zR_X9_digest).cells (zR_X9_digest).slots 90), (90, z_if (fun x => decide (¬ x = 0)) 117 93), (93, z_ldl 1 94), (94, z_lc (31) 97), (97, z_lbin (fun x y => x * y) 98), (98, z_lda 0 99), (99, z_ldi 3 100), (100, z_ic (8) 102), (102, z_ldi 4 104), (104, z_bin (fun x y => x + y) 105), (105, z_callV zEM 9 m_X9_get 2 0 0 (zR_X9_digest).cells (zR_X9_digest).slots 108), (108, z_i2l 109), (109, z_lbin (fun x y => x + y) 110), (110, z_st2 1 111), (111, z_iinc 4 (1) 114), (114, z_goto 79), (117, z_iinc 3 (1) 120), (120, z_goto 37), (123, z_ic (0) 124), (124, z_sti 3 125), (125, z_ldi 3 126), (126, z_lda 0 127), (127, z_get zEM 9 4 130), (130, z_cmp (fun x y => decide (y ≤ x)) 152 133), (133, z_ldl 1 134), (134, z_lc (31) 137), (137, z_lbin (fun x y => x * y) 138), (138, z_lda 0 139), (139, z_ldi 3 140), (140, z_callV zEM 9 m_X9_verdict 1 0 0 (zR_X9_digest).cells (zR_X9_digest).slots 143), (143, z_i2l 144), (144, z_lbin (fun x y => x + y) 145), (145, z_st2 1 146), (146, z_iinc 3 (1) 149), (149, z_goto 125), (152, z_ldl 1 153), (153, z_retl)]
noncomputable def zk_X9_digest (pc : Nat) : Option zOp := zlook zl_X9_digest pc
noncomputable def m_X9_digest : List zAV → zAS → Option zOut := zmeth zk_X9_digest 5
set_option maxRecDepth 100000 in
set_option maxHeartbeats 4000000 in
theorem zcs_X9_digest {R : Room} (hR : R = zR_X9_digest) : ∀ q ∈ zl_X9_digest, zS zEM yX9_digest.cls cX9_digest 5 wsX9_digest (some .long) R q.1 q.2 := by
  subst hR
  have hin9 : ∀ w ∈ wsX90, w ∈ wsX9_digest := fun w h => List.mem_cons_of_mem _ (List.mem_append_right _ h)
  refine List.forall_mem_cons.mpr ⟨zs_aload_n dX9_digest_0 rfl, ?_⟩
  refine List.forall_mem_cons.mpr ⟨zs_iconst dX9_digest_1 (by decide), ?_⟩
  refine List.forall_mem_cons.mpr ⟨zs_put (ci := 9) (j := 0) (N := 10) (C := RX9) (T := TX9) (index := 29) (b := false) .int tyX9 rfl (by decide) hin9 tyX9_ok nmX9 (List.mem_of_getElem? (i := 1) rfl) rfl (by decide +kernel) zni dX9_digest_2, ?_⟩
  refine List.forall_mem_cons.mpr ⟨zs_ldc2 dX9_digest_5 (List.mem_of_getElem? (i := 2) rfl), ?_⟩
  refine List.forall_mem_cons.mpr ⟨zs_lstore_n dX9_digest_8 rfl, ?_⟩
  refine List.forall_mem_cons.mpr ⟨zs_iconst dX9_digest_9 (by decide), ?_⟩
  refine List.forall_mem_cons.mpr ⟨zs_istore_n dX9_digest_10 rfl, ?_⟩
  refine List.forall_mem_cons.mpr ⟨zs_iload_n dX9_digest_11 rfl, ?_⟩
  refine List.forall_mem_cons.mpr ⟨zs_iconst dX9_digest_12 (by decide), ?_⟩
  refine List.forall_mem_cons.mpr ⟨zs_icge dX9_digest_13 (by decide), ?_⟩
  refine List.forall_mem_cons.mpr ⟨zs_lload_n dX9_digest_16 rfl, ?_⟩
  refine List.forall_mem_cons.mpr ⟨zs_ldc2 dX9_digest_17 (List.mem_of_getElem? (i := 3) rfl), ?_⟩
  refine List.forall_mem_cons.mpr ⟨zs_lmul dX9_digest_20, ?_⟩
  refine List.forall_mem_cons.mpr ⟨zs_aload_n dX9_digest_21 rfl, ?_⟩
  refine List.forall_mem_cons.mpr ⟨zs_iload_n dX9_digest_22 rfl, ?_⟩
  refine List.forall_mem_cons.mpr ⟨zs_callV (ci := 9) (rm := zR_X9_counted) (n := 1) rfl zM_X9_counted gX9_digest_X9_counted rfl (by decide +kernel) ⟨by decide, by decide⟩ dX9_digest_23, ?_⟩
  refine List.forall_mem_cons.mpr ⟨zs_i2l dX9_digest_26, ?_⟩
  refine List.forall_mem_cons.mpr ⟨zs_ladd dX9_digest_27, ?_⟩
  refine List.forall_mem_cons.mpr ⟨zs_lstore_n dX9_digest_28 rfl, ?_⟩
  refine List.forall_mem_cons.mpr ⟨zs_iinc dX9_digest_29 (by decide), ?_⟩
  refine List.forall_mem_cons.mpr ⟨zs_goto dX9_digest_32 (by decide), ?_⟩
  refine List.forall_mem_cons.mpr ⟨zs_iconst dX9_digest_35 (by decide), ?_⟩
  refine List.forall_mem_cons.mpr ⟨zs_istore_n dX9_digest_36 rfl, ?_⟩
  refine List.forall_mem_cons.mpr ⟨zs_iload_n dX9_digest_37 rfl, ?_⟩
  refine List.forall_mem_cons.mpr ⟨zs_aload_n dX9_digest_38 rfl, ?_⟩
  refine List.forall_mem_cons.mpr ⟨zs_get (ci := 9) (j := 2) (N := 10) (C := RX9) (T := TX9) (index := 32) rfl (by decide) hin9 (List.mem_of_getElem? (i := 4) rfl) dX9_digest_39, ?_⟩
  refine List.forall_mem_cons.mpr ⟨zs_icge dX9_digest_42 (by decide), ?_⟩
  refine List.forall_mem_cons.mpr ⟨zs_iconst dX9_digest_45 (by decide), ?_⟩
  refine List.forall_mem_cons.mpr ⟨zs_istore dX9_digest_46, ?_⟩
  refine List.forall_mem_cons.mpr ⟨zs_iload dX9_digest_48, ?_⟩
  refine List.forall_mem_cons.mpr ⟨zs_bipush dX9_digest_50 (by decide), ?_⟩
  refine List.forall_mem_cons.mpr ⟨zs_icge dX9_digest_52 (by decide), ?_⟩
  refine List.forall_mem_cons.mpr ⟨zs_lload_n dX9_digest_55 rfl, ?_⟩
  refine List.forall_mem_cons.mpr ⟨zs_ldc2 dX9_digest_56 (List.mem_of_getElem? (i := 3) rfl), ?_⟩
  refine List.forall_mem_cons.mpr ⟨zs_lmul dX9_digest_59, ?_⟩
  refine List.forall_mem_cons.mpr ⟨zs_aload_n dX9_digest_60 rfl, ?_⟩
  refine List.forall_mem_cons.mpr ⟨zs_iload_n dX9_digest_61 rfl, ?_⟩
  refine List.forall_mem_cons.mpr ⟨zs_iload dX9_digest_62, ?_⟩
  refine List.forall_mem_cons.mpr ⟨zs_callV (ci := 9) (rm := zR_X9_objectTold) (n := 2) rfl zM_X9_objectTold gX9_digest_X9_objectTold rfl (by decide +kernel) ⟨by decide, by decide⟩ dX9_digest_64, ?_⟩
  refine List.forall_mem_cons.mpr ⟨zs_i2l dX9_digest_67, ?_⟩
  refine List.forall_mem_cons.mpr ⟨zs_ladd dX9_digest_68, ?_⟩
  refine List.forall_mem_cons.mpr ⟨zs_lstore_n dX9_digest_69 rfl, ?_⟩
  refine List.forall_mem_cons.mpr ⟨zs_iinc dX9_digest_70 (by decide), ?_⟩
  refine List.forall_mem_cons.mpr ⟨zs_goto dX9_digest_73 (by decide), ?_⟩
  refine List.forall_mem_cons.mpr ⟨zs_iconst dX9_digest_76 (by decide), ?_⟩
  refine List.forall_mem_cons.mpr ⟨zs_istore dX9_digest_77, ?_⟩
  refine List.forall_mem_cons.mpr ⟨zs_iload dX9_digest_79, ?_⟩
  refine List.forall_mem_cons.mpr ⟨zs_iconst dX9_digest_81 (by decide), ?_⟩
  refine List.forall_mem_cons.mpr ⟨zs_icge dX9_digest_82 (by decide), ?_⟩
  refine List.forall_mem_cons.mpr ⟨zs_aload_n dX9_digest_85 rfl, ?_⟩
  refine List.forall_mem_cons.mpr ⟨zs_iload_n dX9_digest_86 rfl, ?_⟩
  refine List.forall_mem_cons.mpr ⟨zs_callV (ci := 9) (rm := zR_X9_lacks) (n := 1) rfl zM_X9_lacks gX9_digest_X9_lacks rfl (by decide +kernel) ⟨by decide, by decide⟩ dX9_digest_87, ?_⟩
  refine List.forall_mem_cons.mpr ⟨zs_ifne dX9_digest_90 (by decide), ?_⟩
  refine List.forall_mem_cons.mpr ⟨zs_lload_n dX9_digest_93 rfl, ?_⟩
  refine List.forall_mem_cons.mpr ⟨zs_ldc2 dX9_digest_94 (List.mem_of_getElem? (i := 3) rfl), ?_⟩
  refine List.forall_mem_cons.mpr ⟨zs_lmul dX9_digest_97, ?_⟩
  refine List.forall_mem_cons.mpr ⟨zs_aload_n dX9_digest_98 rfl, ?_⟩
  refine List.forall_mem_cons.mpr ⟨zs_iload_n dX9_digest_99 rfl, ?_⟩
  refine List.forall_mem_cons.mpr ⟨zs_bipush dX9_digest_100 (by decide), ?_⟩
  refine List.forall_mem_cons.mpr ⟨zs_iload dX9_digest_102, ?_⟩
  refine List.forall_mem_cons.mpr ⟨zs_iadd dX9_digest_104, ?_⟩
  refine List.forall_mem_cons.mpr ⟨zs_callV (ci := 9) (rm := zR_X9_get) (n := 2) rfl zM_X9_get gX9_digest_X9_get rfl (by decide +kernel) ⟨by decide, by decide⟩ dX9_digest_105, ?_⟩
  refine List.forall_mem_cons.mpr ⟨zs_i2l dX9_digest_108, ?_⟩
  refine List.forall_mem_cons.mpr ⟨zs_ladd dX9_digest_109, ?_⟩
  refine List.forall_mem_cons.mpr ⟨zs_lstore_n dX9_digest_110 rfl, ?_⟩
  refine List.forall_mem_cons.mpr ⟨zs_iinc dX9_digest_111 (by decide), ?_⟩
  refine List.forall_mem_cons.mpr ⟨zs_goto dX9_digest_114 (by decide), ?_⟩
  refine List.forall_mem_cons.mpr ⟨zs_iinc dX9_digest_117 (by decide), ?_⟩
  refine List.forall_mem_cons.mpr ⟨zs_goto dX9_digest_120 (by decide), ?_⟩
  refine List.forall_mem_cons.mpr ⟨zs_iconst dX9_digest_123 (by decide), ?_⟩
  refine List.forall_mem_cons.mpr ⟨zs_istore_n dX9_digest_124 rfl, ?_⟩
  refine List.forall_mem_cons.mpr ⟨zs_iload_n dX9_digest_125 rfl, ?_⟩
  refine List.forall_mem_cons.mpr ⟨zs_aload_n dX9_digest_126 rfl, ?_⟩
  refine List.forall_mem_cons.mpr ⟨zs_get (ci := 9) (j := 4) (N := 10) (C := RX9) (T := TX9) (index := 55) rfl (by decide) hin9 (List.mem_of_getElem? (i := 5) rfl) dX9_digest_127, ?_⟩
  refine List.forall_mem_cons.mpr ⟨zs_icge dX9_digest_130 (by decide), ?_⟩
  refine List.forall_mem_cons.mpr ⟨zs_lload_n dX9_digest_133 rfl, ?_⟩
  refine List.forall_mem_cons.mpr ⟨zs_ldc2 dX9_digest_134 (List.mem_of_getElem? (i := 3) rfl), ?_⟩
  refine List.forall_mem_cons.mpr ⟨zs_lmul dX9_digest_137, ?_⟩
  refine List.forall_mem_cons.mpr ⟨zs_aload_n dX9_digest_138 rfl, ?_⟩
  refine List.forall_mem_cons.mpr ⟨zs_iload_n dX9_digest_139 rfl, ?_⟩
  refine List.forall_mem_cons.mpr ⟨zs_callV (ci := 9) (rm := zR_X9_verdict) (n := 1) rfl zM_X9_verdict gX9_digest_X9_verdict rfl (by decide +kernel) ⟨by decide, by decide⟩ dX9_digest_140, ?_⟩
  refine List.forall_mem_cons.mpr ⟨zs_i2l dX9_digest_143, ?_⟩
  refine List.forall_mem_cons.mpr ⟨zs_ladd dX9_digest_144, ?_⟩
  refine List.forall_mem_cons.mpr ⟨zs_lstore_n dX9_digest_145 rfl, ?_⟩
  refine List.forall_mem_cons.mpr ⟨zs_iinc dX9_digest_146 (by decide), ?_⟩
  refine List.forall_mem_cons.mpr ⟨zs_goto dX9_digest_149 (by decide), ?_⟩
  refine List.forall_mem_cons.mpr ⟨zs_lload_n dX9_digest_152 rfl, ?_⟩
  refine List.forall_mem_cons.mpr ⟨zs_retl rfl dX9_digest_153, ?_⟩
  exact fun _ h => absurd h List.not_mem_nil
theorem zM_X9_digest : zMeets zEM yX9_digest wsX9_digest zR_X9_digest m_X9_digest := zmeth_M zEMok (zlook_all (zcs_X9_digest rfl)) (by decide +kernel) rfl
theorem zr_X9_digest_0 (a1 a2 a3 a4 : Option zAV) (st : List zAV) (s : zAS) (k : Nat × Nat) (o : Nat × Nat) : zev zk_X9_digest (0, [some (Sum.inr o), a1, a2, a3, a4], st, s, k) = zev zk_X9_digest (1, [some (Sum.inr o), a1, a2, a3, a4], Sum.inr o :: st, s, k) := zev_go rfl rfl
theorem zr_X9_digest_1 (ls : zLs) (st : List zAV) (s : zAS) (k : Nat × Nat) : zev zk_X9_digest (1, ls, st, s, k) = zev zk_X9_digest (2, ls, Sum.inl (Value.int (0)) :: st, s, k) := zev_go rfl rfl
theorem zr_X9_digest_2 (ls : zLs) (st : List zAV) (s : zAS) (k : Nat × Nat) (o i : Nat) (x : Int32) (h : zpok zEM 9 0 false o i x) : zev zk_X9_digest (2, ls, Sum.inl (Value.int x) :: Sum.inr (o, i) :: st, s, k) = zev zk_X9_digest (5, ls, st, (zup s.1 o i 0 x, s.2), k) := zf_put rfl h
theorem zr_X9_digest_5 (ls : zLs) (st : List zAV) (s : zAS) (k : Nat × Nat) : zev zk_X9_digest (5, ls, st, s, k) = zev zk_X9_digest (8, ls, Sum.inl (Value.long (421)) :: st, s, k) := zev_go rfl rfl
theorem zr_X9_digest_8 (a0 a1 a2 a3 a4 : Option zAV) (st : List zAV) (s : zAS) (k : Nat × Nat) (x : Int64) : zev zk_X9_digest (8, [a0, a1, a2, a3, a4], Sum.inl (Value.long x) :: st, s, k) = zev zk_X9_digest (9, [zk1 a0, some (Sum.inl (Value.long x)), none, a3, a4], st, s, k) := zev_go rfl rfl
theorem zr_X9_digest_9 (ls : zLs) (st : List zAV) (s : zAS) (k : Nat × Nat) : zev zk_X9_digest (9, ls, st, s, k) = zev zk_X9_digest (10, ls, Sum.inl (Value.int (0)) :: st, s, k) := zev_go rfl rfl
theorem zr_X9_digest_10 (a0 a1 a2 a3 a4 : Option zAV) (st : List zAV) (s : zAS) (k : Nat × Nat) (x : Int32) : zev zk_X9_digest (10, [a0, a1, a2, a3, a4], Sum.inl (Value.int x) :: st, s, k) = zev zk_X9_digest (11, [a0, a1, zk1 a2, some (Sum.inl (Value.int x)), a4], st, s, k) := zev_go rfl rfl
theorem zr_X9_digest_11 (a0 a1 a2 a4 : Option zAV) (st : List zAV) (s : zAS) (k : Nat × Nat) (x : Int32) : zev zk_X9_digest (11, [a0, a1, a2, some (Sum.inl (Value.int x)), a4], st, s, k) = zev zk_X9_digest (12, [a0, a1, a2, some (Sum.inl (Value.int x)), a4], Sum.inl (Value.int x) :: st, s, k) := zev_go rfl rfl
theorem zr_X9_digest_12 (ls : zLs) (st : List zAV) (s : zAS) (k : Nat × Nat) : zev zk_X9_digest (12, ls, st, s, k) = zev zk_X9_digest (13, ls, Sum.inl (Value.int (5)) :: st, s, k) := zev_go rfl rfl
theorem zr_X9_digest_13 (ls : zLs) (st : List zAV) (s : zAS) (k : Nat × Nat) (x y : Int32) : zev zk_X9_digest (13, ls, Sum.inl (Value.int y) :: Sum.inl (Value.int x) :: st, s, k) = if decide (y ≤ x) = true then zev zk_X9_digest (35, ls, st, s, k) else zev zk_X9_digest (16, ls, st, s, k) := zf_cmp (f := fun x y => decide (y ≤ x)) rfl
theorem zr_X9_digest_16 (a0 a2 a3 a4 : Option zAV) (st : List zAV) (s : zAS) (k : Nat × Nat) (x : Int64) : zev zk_X9_digest (16, [a0, some (Sum.inl (Value.long x)), a2, a3, a4], st, s, k) = zev zk_X9_digest (17, [a0, some (Sum.inl (Value.long x)), a2, a3, a4], Sum.inl (Value.long x) :: st, s, k) := zev_go rfl rfl
theorem zr_X9_digest_17 (ls : zLs) (st : List zAV) (s : zAS) (k : Nat × Nat) : zev zk_X9_digest (17, ls, st, s, k) = zev zk_X9_digest (20, ls, Sum.inl (Value.long (31)) :: st, s, k) := zev_go rfl rfl
theorem zr_X9_digest_20 (ls : zLs) (st : List zAV) (s : zAS) (k : Nat × Nat) (x y : Int64) : zev zk_X9_digest (20, ls, Sum.inl (Value.long y) :: Sum.inl (Value.long x) :: st, s, k) = zev zk_X9_digest (21, ls, Sum.inl (Value.long (x * y)) :: st, s, k) := zev_go rfl rfl
theorem zr_X9_digest_21 (a1 a2 a3 a4 : Option zAV) (st : List zAV) (s : zAS) (k : Nat × Nat) (o : Nat × Nat) : zev zk_X9_digest (21, [some (Sum.inr o), a1, a2, a3, a4], st, s, k) = zev zk_X9_digest (22, [some (Sum.inr o), a1, a2, a3, a4], Sum.inr o :: st, s, k) := zev_go rfl rfl
theorem zr_X9_digest_22 (a0 a1 a2 a4 : Option zAV) (st : List zAV) (s : zAS) (k : Nat × Nat) (x : Int32) : zev zk_X9_digest (22, [a0, a1, a2, some (Sum.inl (Value.int x)), a4], st, s, k) = zev zk_X9_digest (23, [a0, a1, a2, some (Sum.inl (Value.int x)), a4], Sum.inl (Value.int x) :: st, s, k) := zev_go rfl rfl
theorem zr_X9_digest_23 (ls : zLs) (st : List zAV) (s : zAS) (k : Nat × Nat) (r v0 : zAV) (h : zcok zEM 9 0 0 (zR_X9_digest).cells (zR_X9_digest).slots r st k) : zev zk_X9_digest (23, ls, v0 :: r :: st, s, k) = zret zk_X9_digest 26 ls st (k.1 + 0, k.2 + 0) (m_X9_counted [r, v0] s) := zf_callV (as := [v0]) 1 rfl rfl h
theorem zr_X9_digest_26 (ls : zLs) (st : List zAV) (s : zAS) (k : Nat × Nat) (x : Int32) : zev zk_X9_digest (26, ls, Sum.inl (Value.int x) :: st, s, k) = zev zk_X9_digest (27, ls, Sum.inl (Value.long x.toInt64) :: st, s, k) := zev_go rfl rfl
theorem zr_X9_digest_27 (ls : zLs) (st : List zAV) (s : zAS) (k : Nat × Nat) (x y : Int64) : zev zk_X9_digest (27, ls, Sum.inl (Value.long y) :: Sum.inl (Value.long x) :: st, s, k) = zev zk_X9_digest (28, ls, Sum.inl (Value.long (x + y)) :: st, s, k) := zev_go rfl rfl
theorem zr_X9_digest_28 (a0 a1 a2 a3 a4 : Option zAV) (st : List zAV) (s : zAS) (k : Nat × Nat) (x : Int64) : zev zk_X9_digest (28, [a0, a1, a2, a3, a4], Sum.inl (Value.long x) :: st, s, k) = zev zk_X9_digest (29, [zk1 a0, some (Sum.inl (Value.long x)), none, a3, a4], st, s, k) := zev_go rfl rfl
theorem zr_X9_digest_29 (a0 a1 a2 a4 : Option zAV) (st : List zAV) (s : zAS) (k : Nat × Nat) (x : Int32) : zev zk_X9_digest (29, [a0, a1, a2, some (Sum.inl (Value.int x)), a4], st, s, k) = zev zk_X9_digest (32, [a0, a1, zk1 a2, some (Sum.inl (Value.int (x + (1)))), a4], st, s, k) := zev_go rfl rfl
theorem zr_X9_digest_32 (ls : zLs) (st : List zAV) (s : zAS) (k : Nat × Nat) : zev zk_X9_digest (32, ls, st, s, k) = zev zk_X9_digest (11, ls, st, s, k) := zev_go rfl rfl
theorem zr_X9_digest_35 (ls : zLs) (st : List zAV) (s : zAS) (k : Nat × Nat) : zev zk_X9_digest (35, ls, st, s, k) = zev zk_X9_digest (36, ls, Sum.inl (Value.int (0)) :: st, s, k) := zev_go rfl rfl
theorem zr_X9_digest_36 (a0 a1 a2 a3 a4 : Option zAV) (st : List zAV) (s : zAS) (k : Nat × Nat) (x : Int32) : zev zk_X9_digest (36, [a0, a1, a2, a3, a4], Sum.inl (Value.int x) :: st, s, k) = zev zk_X9_digest (37, [a0, a1, zk1 a2, some (Sum.inl (Value.int x)), a4], st, s, k) := zev_go rfl rfl
theorem zr_X9_digest_37 (a0 a1 a2 a4 : Option zAV) (st : List zAV) (s : zAS) (k : Nat × Nat) (x : Int32) : zev zk_X9_digest (37, [a0, a1, a2, some (Sum.inl (Value.int x)), a4], st, s, k) = zev zk_X9_digest (38, [a0, a1, a2, some (Sum.inl (Value.int x)), a4], Sum.inl (Value.int x) :: st, s, k) := zev_go rfl rfl
theorem zr_X9_digest_38 (a1 a2 a3 a4 : Option zAV) (st : List zAV) (s : zAS) (k : Nat × Nat) (o : Nat × Nat) : zev zk_X9_digest (38, [some (Sum.inr o), a1, a2, a3, a4], st, s, k) = zev zk_X9_digest (39, [some (Sum.inr o), a1, a2, a3, a4], Sum.inr o :: st, s, k) := zev_go rfl rfl
theorem zr_X9_digest_39 (ls : zLs) (st : List zAV) (s : zAS) (k : Nat × Nat) (o i : Nat) : zev zk_X9_digest (39, ls, Sum.inr (o, i) :: st, s, k) = zpush zk_X9_digest 42 ls st s k (zgv zEM 9 2 o i s.1) := zf_get rfl
theorem zr_X9_digest_42 (ls : zLs) (st : List zAV) (s : zAS) (k : Nat × Nat) (x y : Int32) : zev zk_X9_digest (42, ls, Sum.inl (Value.int y) :: Sum.inl (Value.int x) :: st, s, k) = if decide (y ≤ x) = true then zev zk_X9_digest (123, ls, st, s, k) else zev zk_X9_digest (45, ls, st, s, k) := zf_cmp (f := fun x y => decide (y ≤ x)) rfl
theorem zr_X9_digest_45 (ls : zLs) (st : List zAV) (s : zAS) (k : Nat × Nat) : zev zk_X9_digest (45, ls, st, s, k) = zev zk_X9_digest (46, ls, Sum.inl (Value.int (0)) :: st, s, k) := zev_go rfl rfl
theorem zr_X9_digest_46 (a0 a1 a2 a3 a4 : Option zAV) (st : List zAV) (s : zAS) (k : Nat × Nat) (x : Int32) : zev zk_X9_digest (46, [a0, a1, a2, a3, a4], Sum.inl (Value.int x) :: st, s, k) = zev zk_X9_digest (48, [a0, a1, a2, zk1 a3, some (Sum.inl (Value.int x))], st, s, k) := zev_go rfl rfl
theorem zr_X9_digest_48 (a0 a1 a2 a3 : Option zAV) (st : List zAV) (s : zAS) (k : Nat × Nat) (x : Int32) : zev zk_X9_digest (48, [a0, a1, a2, a3, some (Sum.inl (Value.int x))], st, s, k) = zev zk_X9_digest (50, [a0, a1, a2, a3, some (Sum.inl (Value.int x))], Sum.inl (Value.int x) :: st, s, k) := zev_go rfl rfl
theorem zr_X9_digest_50 (ls : zLs) (st : List zAV) (s : zAS) (k : Nat × Nat) : zev zk_X9_digest (50, ls, st, s, k) = zev zk_X9_digest (52, ls, Sum.inl (Value.int (6)) :: st, s, k) := zev_go rfl rfl
theorem zr_X9_digest_52 (ls : zLs) (st : List zAV) (s : zAS) (k : Nat × Nat) (x y : Int32) : zev zk_X9_digest (52, ls, Sum.inl (Value.int y) :: Sum.inl (Value.int x) :: st, s, k) = if decide (y ≤ x) = true then zev zk_X9_digest (76, ls, st, s, k) else zev zk_X9_digest (55, ls, st, s, k) := zf_cmp (f := fun x y => decide (y ≤ x)) rfl
theorem zr_X9_digest_55 (a0 a2 a3 a4 : Option zAV) (st : List zAV) (s : zAS) (k : Nat × Nat) (x : Int64) : zev zk_X9_digest (55, [a0, some (Sum.inl (Value.long x)), a2, a3, a4], st, s, k) = zev zk_X9_digest (56, [a0, some (Sum.inl (Value.long x)), a2, a3, a4], Sum.inl (Value.long x) :: st, s, k) := zev_go rfl rfl
theorem zr_X9_digest_56 (ls : zLs) (st : List zAV) (s : zAS) (k : Nat × Nat) : zev zk_X9_digest (56, ls, st, s, k) = zev zk_X9_digest (59, ls, Sum.inl (Value.long (31)) :: st, s, k) := zev_go rfl rfl
theorem zr_X9_digest_59 (ls : zLs) (st : List zAV) (s : zAS) (k : Nat × Nat) (x y : Int64) : zev zk_X9_digest (59, ls, Sum.inl (Value.long y) :: Sum.inl (Value.long x) :: st, s, k) = zev zk_X9_digest (60, ls, Sum.inl (Value.long (x * y)) :: st, s, k) := zev_go rfl rfl
theorem zr_X9_digest_60 (a1 a2 a3 a4 : Option zAV) (st : List zAV) (s : zAS) (k : Nat × Nat) (o : Nat × Nat) : zev zk_X9_digest (60, [some (Sum.inr o), a1, a2, a3, a4], st, s, k) = zev zk_X9_digest (61, [some (Sum.inr o), a1, a2, a3, a4], Sum.inr o :: st, s, k) := zev_go rfl rfl
theorem zr_X9_digest_61 (a0 a1 a2 a4 : Option zAV) (st : List zAV) (s : zAS) (k : Nat × Nat) (x : Int32) : zev zk_X9_digest (61, [a0, a1, a2, some (Sum.inl (Value.int x)), a4], st, s, k) = zev zk_X9_digest (62, [a0, a1, a2, some (Sum.inl (Value.int x)), a4], Sum.inl (Value.int x) :: st, s, k) := zev_go rfl rfl
theorem zr_X9_digest_62 (a0 a1 a2 a3 : Option zAV) (st : List zAV) (s : zAS) (k : Nat × Nat) (x : Int32) : zev zk_X9_digest (62, [a0, a1, a2, a3, some (Sum.inl (Value.int x))], st, s, k) = zev zk_X9_digest (64, [a0, a1, a2, a3, some (Sum.inl (Value.int x))], Sum.inl (Value.int x) :: st, s, k) := zev_go rfl rfl
theorem zr_X9_digest_64 (ls : zLs) (st : List zAV) (s : zAS) (k : Nat × Nat) (r v0 v1 : zAV) (h : zcok zEM 9 0 0 (zR_X9_digest).cells (zR_X9_digest).slots r st k) : zev zk_X9_digest (64, ls, v1 :: v0 :: r :: st, s, k) = zret zk_X9_digest 67 ls st (k.1 + 0, k.2 + 0) (m_X9_objectTold [r, v0, v1] s) := zf_callV (as := [v1, v0]) 2 rfl rfl h
theorem zr_X9_digest_67 (ls : zLs) (st : List zAV) (s : zAS) (k : Nat × Nat) (x : Int32) : zev zk_X9_digest (67, ls, Sum.inl (Value.int x) :: st, s, k) = zev zk_X9_digest (68, ls, Sum.inl (Value.long x.toInt64) :: st, s, k) := zev_go rfl rfl
theorem zr_X9_digest_68 (ls : zLs) (st : List zAV) (s : zAS) (k : Nat × Nat) (x y : Int64) : zev zk_X9_digest (68, ls, Sum.inl (Value.long y) :: Sum.inl (Value.long x) :: st, s, k) = zev zk_X9_digest (69, ls, Sum.inl (Value.long (x + y)) :: st, s, k) := zev_go rfl rfl
theorem zr_X9_digest_69 (a0 a1 a2 a3 a4 : Option zAV) (st : List zAV) (s : zAS) (k : Nat × Nat) (x : Int64) : zev zk_X9_digest (69, [a0, a1, a2, a3, a4], Sum.inl (Value.long x) :: st, s, k) = zev zk_X9_digest (70, [zk1 a0, some (Sum.inl (Value.long x)), none, a3, a4], st, s, k) := zev_go rfl rfl
theorem zr_X9_digest_70 (a0 a1 a2 a3 : Option zAV) (st : List zAV) (s : zAS) (k : Nat × Nat) (x : Int32) : zev zk_X9_digest (70, [a0, a1, a2, a3, some (Sum.inl (Value.int x))], st, s, k) = zev zk_X9_digest (73, [a0, a1, a2, zk1 a3, some (Sum.inl (Value.int (x + (1))))], st, s, k) := zev_go rfl rfl
theorem zr_X9_digest_73 (ls : zLs) (st : List zAV) (s : zAS) (k : Nat × Nat) : zev zk_X9_digest (73, ls, st, s, k) = zev zk_X9_digest (48, ls, st, s, k) := zev_go rfl rfl
theorem zr_X9_digest_76 (ls : zLs) (st : List zAV) (s : zAS) (k : Nat × Nat) : zev zk_X9_digest (76, ls, st, s, k) = zev zk_X9_digest (77, ls, Sum.inl (Value.int (0)) :: st, s, k) := zev_go rfl rfl
theorem zr_X9_digest_77 (a0 a1 a2 a3 a4 : Option zAV) (st : List zAV) (s : zAS) (k : Nat × Nat) (x : Int32) : zev zk_X9_digest (77, [a0, a1, a2, a3, a4], Sum.inl (Value.int x) :: st, s, k) = zev zk_X9_digest (79, [a0, a1, a2, zk1 a3, some (Sum.inl (Value.int x))], st, s, k) := zev_go rfl rfl
theorem zr_X9_digest_79 (a0 a1 a2 a3 : Option zAV) (st : List zAV) (s : zAS) (k : Nat × Nat) (x : Int32) : zev zk_X9_digest (79, [a0, a1, a2, a3, some (Sum.inl (Value.int x))], st, s, k) = zev zk_X9_digest (81, [a0, a1, a2, a3, some (Sum.inl (Value.int x))], Sum.inl (Value.int x) :: st, s, k) := zev_go rfl rfl
theorem zr_X9_digest_81 (ls : zLs) (st : List zAV) (s : zAS) (k : Nat × Nat) : zev zk_X9_digest (81, ls, st, s, k) = zev zk_X9_digest (82, ls, Sum.inl (Value.int (3)) :: st, s, k) := zev_go rfl rfl
theorem zr_X9_digest_82 (ls : zLs) (st : List zAV) (s : zAS) (k : Nat × Nat) (x y : Int32) : zev zk_X9_digest (82, ls, Sum.inl (Value.int y) :: Sum.inl (Value.int x) :: st, s, k) = if decide (y ≤ x) = true then zev zk_X9_digest (117, ls, st, s, k) else zev zk_X9_digest (85, ls, st, s, k) := zf_cmp (f := fun x y => decide (y ≤ x)) rfl
theorem zr_X9_digest_85 (a1 a2 a3 a4 : Option zAV) (st : List zAV) (s : zAS) (k : Nat × Nat) (o : Nat × Nat) : zev zk_X9_digest (85, [some (Sum.inr o), a1, a2, a3, a4], st, s, k) = zev zk_X9_digest (86, [some (Sum.inr o), a1, a2, a3, a4], Sum.inr o :: st, s, k) := zev_go rfl rfl
theorem zr_X9_digest_86 (a0 a1 a2 a4 : Option zAV) (st : List zAV) (s : zAS) (k : Nat × Nat) (x : Int32) : zev zk_X9_digest (86, [a0, a1, a2, some (Sum.inl (Value.int x)), a4], st, s, k) = zev zk_X9_digest (87, [a0, a1, a2, some (Sum.inl (Value.int x)), a4], Sum.inl (Value.int x) :: st, s, k) := zev_go rfl rfl
theorem zr_X9_digest_87 (ls : zLs) (st : List zAV) (s : zAS) (k : Nat × Nat) (r v0 : zAV) (h : zcok zEM 9 0 0 (zR_X9_digest).cells (zR_X9_digest).slots r st k) : zev zk_X9_digest (87, ls, v0 :: r :: st, s, k) = zret zk_X9_digest 90 ls st (k.1 + 0, k.2 + 0) (m_X9_lacks [r, v0] s) := zf_callV (as := [v0]) 1 rfl rfl h
theorem zr_X9_digest_90 (ls : zLs) (st : List zAV) (s : zAS) (k : Nat × Nat) (x : Int32) : zev zk_X9_digest (90, ls, Sum.inl (Value.int x) :: st, s, k) = if decide (¬ x = 0) = true then zev zk_X9_digest (117, ls, st, s, k) else zev zk_X9_digest (93, ls, st, s, k) := zf_if (f := fun x => decide (¬ x = 0)) rfl
theorem zr_X9_digest_93 (a0 a2 a3 a4 : Option zAV) (st : List zAV) (s : zAS) (k : Nat × Nat) (x : Int64) : zev zk_X9_digest (93, [a0, some (Sum.inl (Value.long x)), a2, a3, a4], st, s, k) = zev zk_X9_digest (94, [a0, some (Sum.inl (Value.long x)), a2, a3, a4], Sum.inl (Value.long x) :: st, s, k) := zev_go rfl rfl
theorem zr_X9_digest_94 (ls : zLs) (st : List zAV) (s : zAS) (k : Nat × Nat) : zev zk_X9_digest (94, ls, st, s, k) = zev zk_X9_digest (97, ls, Sum.inl (Value.long (31)) :: st, s, k) := zev_go rfl rfl
theorem zr_X9_digest_97 (ls : zLs) (st : List zAV) (s : zAS) (k : Nat × Nat) (x y : Int64) : zev zk_X9_digest (97, ls, Sum.inl (Value.long y) :: Sum.inl (Value.long x) :: st, s, k) = zev zk_X9_digest (98, ls, Sum.inl (Value.long (x * y)) :: st, s, k) := zev_go rfl rfl
theorem zr_X9_digest_98 (a1 a2 a3 a4 : Option zAV) (st : List zAV) (s : zAS) (k : Nat × Nat) (o : Nat × Nat) : zev zk_X9_digest (98, [some (Sum.inr o), a1, a2, a3, a4], st, s, k) = zev zk_X9_digest (99, [some (Sum.inr o), a1, a2, a3, a4], Sum.inr o :: st, s, k) := zev_go rfl rfl
theorem zr_X9_digest_99 (a0 a1 a2 a4 : Option zAV) (st : List zAV) (s : zAS) (k : Nat × Nat) (x : Int32) : zev zk_X9_digest (99, [a0, a1, a2, some (Sum.inl (Value.int x)), a4], st, s, k) = zev zk_X9_digest (100, [a0, a1, a2, some (Sum.inl (Value.int x)), a4], Sum.inl (Value.int x) :: st, s, k) := zev_go rfl rfl
theorem zr_X9_digest_100 (ls : zLs) (st : List zAV) (s : zAS) (k : Nat × Nat) : zev zk_X9_digest (100, ls, st, s, k) = zev zk_X9_digest (102, ls, Sum.inl (Value.int (8)) :: st, s, k) := zev_go rfl rfl
theorem zr_X9_digest_102 (a0 a1 a2 a3 : Option zAV) (st : List zAV) (s : zAS) (k : Nat × Nat) (x : Int32) : zev zk_X9_digest (102, [a0, a1, a2, a3, some (Sum.inl (Value.int x))], st, s, k) = zev zk_X9_digest (104, [a0, a1, a2, a3, some (Sum.inl (Value.int x))], Sum.inl (Value.int x) :: st, s, k) := zev_go rfl rfl
theorem zr_X9_digest_104 (ls : zLs) (st : List zAV) (s : zAS) (k : Nat × Nat) (x y : Int32) : zev zk_X9_digest (104, ls, Sum.inl (Value.int y) :: Sum.inl (Value.int x) :: st, s, k) = zev zk_X9_digest (105, ls, Sum.inl (Value.int (x + y)) :: st, s, k) := zev_go rfl rfl
theorem zr_X9_digest_105 (ls : zLs) (st : List zAV) (s : zAS) (k : Nat × Nat) (r v0 v1 : zAV) (h : zcok zEM 9 0 0 (zR_X9_digest).cells (zR_X9_digest).slots r st k) : zev zk_X9_digest (105, ls, v1 :: v0 :: r :: st, s, k) = zret zk_X9_digest 108 ls st (k.1 + 0, k.2 + 0) (m_X9_get [r, v0, v1] s) := zf_callV (as := [v1, v0]) 2 rfl rfl h
theorem zr_X9_digest_108 (ls : zLs) (st : List zAV) (s : zAS) (k : Nat × Nat) (x : Int32) : zev zk_X9_digest (108, ls, Sum.inl (Value.int x) :: st, s, k) = zev zk_X9_digest (109, ls, Sum.inl (Value.long x.toInt64) :: st, s, k) := zev_go rfl rfl
theorem zr_X9_digest_109 (ls : zLs) (st : List zAV) (s : zAS) (k : Nat × Nat) (x y : Int64) : zev zk_X9_digest (109, ls, Sum.inl (Value.long y) :: Sum.inl (Value.long x) :: st, s, k) = zev zk_X9_digest (110, ls, Sum.inl (Value.long (x + y)) :: st, s, k) := zev_go rfl rfl
theorem zr_X9_digest_110 (a0 a1 a2 a3 a4 : Option zAV) (st : List zAV) (s : zAS) (k : Nat × Nat) (x : Int64) : zev zk_X9_digest (110, [a0, a1, a2, a3, a4], Sum.inl (Value.long x) :: st, s, k) = zev zk_X9_digest (111, [zk1 a0, some (Sum.inl (Value.long x)), none, a3, a4], st, s, k) := zev_go rfl rfl
theorem zr_X9_digest_111 (a0 a1 a2 a3 : Option zAV) (st : List zAV) (s : zAS) (k : Nat × Nat) (x : Int32) : zev zk_X9_digest (111, [a0, a1, a2, a3, some (Sum.inl (Value.int x))], st, s, k) = zev zk_X9_digest (114, [a0, a1, a2, zk1 a3, some (Sum.inl (Value.int (x + (1))))], st, s, k) := zev_go rfl rfl
theorem zr_X9_digest_114 (ls : zLs) (st : List zAV) (s : zAS) (k : Nat × Nat) : zev zk_X9_digest (114, ls, st, s, k) = zev zk_X9_digest (79, ls, st, s, k) := zev_go rfl rfl
theorem zr_X9_digest_117 (a0 a1 a2 a4 : Option zAV) (st : List zAV) (s : zAS) (k : Nat × Nat) (x : Int32) : zev zk_X9_digest (117, [a0, a1, a2, some (Sum.inl (Value.int x)), a4], st, s, k) = zev zk_X9_digest (120, [a0, a1, zk1 a2, some (Sum.inl (Value.int (x + (1)))), a4], st, s, k) := zev_go rfl rfl
theorem zr_X9_digest_120 (ls : zLs) (st : List zAV) (s : zAS) (k : Nat × Nat) : zev zk_X9_digest (120, ls, st, s, k) = zev zk_X9_digest (37, ls, st, s, k) := zev_go rfl rfl
theorem zr_X9_digest_123 (ls : zLs) (st : List zAV) (s : zAS) (k : Nat × Nat) : zev zk_X9_digest (123, ls, st, s, k) = zev zk_X9_digest (124, ls, Sum.inl (Value.int (0)) :: st, s, k) := zev_go rfl rfl
theorem zr_X9_digest_124 (a0 a1 a2 a3 a4 : Option zAV) (st : List zAV) (s : zAS) (k : Nat × Nat) (x : Int32) : zev zk_X9_digest (124, [a0, a1, a2, a3, a4], Sum.inl (Value.int x) :: st, s, k) = zev zk_X9_digest (125, [a0, a1, zk1 a2, some (Sum.inl (Value.int x)), a4], st, s, k) := zev_go rfl rfl
theorem zr_X9_digest_125 (a0 a1 a2 a4 : Option zAV) (st : List zAV) (s : zAS) (k : Nat × Nat) (x : Int32) : zev zk_X9_digest (125, [a0, a1, a2, some (Sum.inl (Value.int x)), a4], st, s, k) = zev zk_X9_digest (126, [a0, a1, a2, some (Sum.inl (Value.int x)), a4], Sum.inl (Value.int x) :: st, s, k) := zev_go rfl rfl
theorem zr_X9_digest_126 (a1 a2 a3 a4 : Option zAV) (st : List zAV) (s : zAS) (k : Nat × Nat) (o : Nat × Nat) : zev zk_X9_digest (126, [some (Sum.inr o), a1, a2, a3, a4], st, s, k) = zev zk_X9_digest (127, [some (Sum.inr o), a1, a2, a3, a4], Sum.inr o :: st, s, k) := zev_go rfl rfl
theorem zr_X9_digest_127 (ls : zLs) (st : List zAV) (s : zAS) (k : Nat × Nat) (o i : Nat) : zev zk_X9_digest (127, ls, Sum.inr (o, i) :: st, s, k) = zpush zk_X9_digest 130 ls st s k (zgv zEM 9 4 o i s.1) := zf_get rfl
theorem zr_X9_digest_130 (ls : zLs) (st : List zAV) (s : zAS) (k : Nat × Nat) (x y : Int32) : zev zk_X9_digest (130, ls, Sum.inl (Value.int y) :: Sum.inl (Value.int x) :: st, s, k) = if decide (y ≤ x) = true then zev zk_X9_digest (152, ls, st, s, k) else zev zk_X9_digest (133, ls, st, s, k) := zf_cmp (f := fun x y => decide (y ≤ x)) rfl
theorem zr_X9_digest_133 (a0 a2 a3 a4 : Option zAV) (st : List zAV) (s : zAS) (k : Nat × Nat) (x : Int64) : zev zk_X9_digest (133, [a0, some (Sum.inl (Value.long x)), a2, a3, a4], st, s, k) = zev zk_X9_digest (134, [a0, some (Sum.inl (Value.long x)), a2, a3, a4], Sum.inl (Value.long x) :: st, s, k) := zev_go rfl rfl
theorem zr_X9_digest_134 (ls : zLs) (st : List zAV) (s : zAS) (k : Nat × Nat) : zev zk_X9_digest (134, ls, st, s, k) = zev zk_X9_digest (137, ls, Sum.inl (Value.long (31)) :: st, s, k) := zev_go rfl rfl
theorem zr_X9_digest_137 (ls : zLs) (st : List zAV) (s : zAS) (k : Nat × Nat) (x y : Int64) : zev zk_X9_digest (137, ls, Sum.inl (Value.long y) :: Sum.inl (Value.long x) :: st, s, k) = zev zk_X9_digest (138, ls, Sum.inl (Value.long (x * y)) :: st, s, k) := zev_go rfl rfl
theorem zr_X9_digest_138 (a1 a2 a3 a4 : Option zAV) (st : List zAV) (s : zAS) (k : Nat × Nat) (o : Nat × Nat) : zev zk_X9_digest (138, [some (Sum.inr o), a1, a2, a3, a4], st, s, k) = zev zk_X9_digest (139, [some (Sum.inr o), a1, a2, a3, a4], Sum.inr o :: st, s, k) := zev_go rfl rfl
theorem zr_X9_digest_139 (a0 a1 a2 a4 : Option zAV) (st : List zAV) (s : zAS) (k : Nat × Nat) (x : Int32) : zev zk_X9_digest (139, [a0, a1, a2, some (Sum.inl (Value.int x)), a4], st, s, k) = zev zk_X9_digest (140, [a0, a1, a2, some (Sum.inl (Value.int x)), a4], Sum.inl (Value.int x) :: st, s, k) := zev_go rfl rfl
theorem zr_X9_digest_140 (ls : zLs) (st : List zAV) (s : zAS) (k : Nat × Nat) (r v0 : zAV) (h : zcok zEM 9 0 0 (zR_X9_digest).cells (zR_X9_digest).slots r st k) : zev zk_X9_digest (140, ls, v0 :: r :: st, s, k) = zret zk_X9_digest 143 ls st (k.1 + 0, k.2 + 0) (m_X9_verdict [r, v0] s) := zf_callV (as := [v0]) 1 rfl rfl h
theorem zr_X9_digest_143 (ls : zLs) (st : List zAV) (s : zAS) (k : Nat × Nat) (x : Int32) : zev zk_X9_digest (143, ls, Sum.inl (Value.int x) :: st, s, k) = zev zk_X9_digest (144, ls, Sum.inl (Value.long x.toInt64) :: st, s, k) := zev_go rfl rfl
theorem zr_X9_digest_144 (ls : zLs) (st : List zAV) (s : zAS) (k : Nat × Nat) (x y : Int64) : zev zk_X9_digest (144, ls, Sum.inl (Value.long y) :: Sum.inl (Value.long x) :: st, s, k) = zev zk_X9_digest (145, ls, Sum.inl (Value.long (x + y)) :: st, s, k) := zev_go rfl rfl
theorem zr_X9_digest_145 (a0 a1 a2 a3 a4 : Option zAV) (st : List zAV) (s : zAS) (k : Nat × Nat) (x : Int64) : zev zk_X9_digest (145, [a0, a1, a2, a3, a4], Sum.inl (Value.long x) :: st, s, k) = zev zk_X9_digest (146, [zk1 a0, some (Sum.inl (Value.long x)), none, a3, a4], st, s, k) := zev_go rfl rfl
theorem zr_X9_digest_146 (a0 a1 a2 a4 : Option zAV) (st : List zAV) (s : zAS) (k : Nat × Nat) (x : Int32) : zev zk_X9_digest (146, [a0, a1, a2, some (Sum.inl (Value.int x)), a4], st, s, k) = zev zk_X9_digest (149, [a0, a1, zk1 a2, some (Sum.inl (Value.int (x + (1)))), a4], st, s, k) := zev_go rfl rfl
theorem zr_X9_digest_149 (ls : zLs) (st : List zAV) (s : zAS) (k : Nat × Nat) : zev zk_X9_digest (149, ls, st, s, k) = zev zk_X9_digest (125, ls, st, s, k) := zev_go rfl rfl
theorem zr_X9_digest_152 (a0 a2 a3 a4 : Option zAV) (st : List zAV) (s : zAS) (k : Nat × Nat) (x : Int64) : zev zk_X9_digest (152, [a0, some (Sum.inl (Value.long x)), a2, a3, a4], st, s, k) = zev zk_X9_digest (153, [a0, some (Sum.inl (Value.long x)), a2, a3, a4], Sum.inl (Value.long x) :: st, s, k) := zev_go rfl rfl
theorem zr_X9_digest_153 (ls : zLs) (s : zAS) (k : Nat × Nat) (x : Int64) : zev zk_X9_digest (153, ls, [Sum.inl (Value.long x)], s, k) = some (.inl (some (Sum.inl (Value.long x))), s) := zev_end rfl rfl
