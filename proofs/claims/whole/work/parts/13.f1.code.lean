/-! X9_bisector: PrimePlaneModel.bisector(II)Z -/
abbrev zR_X9_bisector : Room := ({ frames := 4, cells := 0, slots := 0, locals := 91 } : Room)
noncomputable def zl_X9_bisector : List (Nat × zOp) := [(0, z_lda 0 1), (1, z_ic (2) 2), (2, z_lda 0 3), (3, z_ldi 2 4), (4, z_callV zEM 9 m_X9_x 1 0 0 (zR_X9_bisector).cells (zR_X9_bisector).slots 7), (7, z_lda 0 8), (8, z_ldi 1 9), (9, z_callV zEM 9 m_X9_x 1 0 0 (zR_X9_bisector).cells (zR_X9_bisector).slots 12), (12, z_bin (fun x y => x - y) 13), (13, z_bin (fun x y => x * y) 14), (14, z_ic (2) 15), (15, z_lda 0 16), (16, z_ldi 2 17), (17, z_callV zEM 9 m_X9_y 1 0 0 (zR_X9_bisector).cells (zR_X9_bisector).slots 20), (20, z_lda 0 21), (21, z_ldi 1 22), (22, z_callV zEM 9 m_X9_y 1 0 0 (zR_X9_bisector).cells (zR_X9_bisector).slots 25), (25, z_bin (fun x y => x - y) 26), (26, z_bin (fun x y => x * y) 27), (27, z_lda 0 28), (28, z_ldi 1 29), (29, z_callV zEM 9 m_X9_x 1 0 0 (zR_X9_bisector).cells (zR_X9_bisector).slots 32), (32, z_lda 0 33), (33, z_ldi 1 34), (34, z_callV zEM 9 m_X9_x 1 0 0 (zR_X9_bisector).cells (zR_X9_bisector).slots 37), (37, z_bin (fun x y => x * y) 38), (38, z_lda 0 39), (39, z_ldi 1 40), (40, z_callV zEM 9 m_X9_y 1 0 0 (zR_X9_bisector).cells (zR_X9_bisector).slots 43), (43, z_lda 0 44), (44, z_ldi 1 45), (45, z_callV zEM 9 m_X9_y 1 0 0 (zR_X9_bisector).cells (zR_X9_bisector).slots 48), (48, z_bin (fun x y => x * y) 49), (49, z_bin (fun x y => x + y) 50), (50, z_lda 0 51), (51, z_ldi 2 52), (52, z_callV zEM 9 m_X9_x 1 0 0 (zR_X9_bisector).cells (zR_X9_bisector).slots 55), (55, z_lda 0 56), (56, z_ldi 2 57), (57, z_callV zEM 9 m_X9_x 1 0 0 (zR_X9_bisector).cells (zR_X9_bisector).slots 60), (60, z_bin (fun x y => x * y) 61), (61, z_bin (fun x y => x - y) 62), (62, z_lda 0 63), (63, z_ldi 2 64), (64, z_callV zEM 9 m_X9_y 1 0 0 (zR_X9_bisector).cells (zR_X9_bisector).slots 67), (67, z_lda 0 68), (68, z_ldi 2 69), (69, z_callV zEM 9 m_X9_y 1 0 0 (zR_X9_bisector).cells (zR_X9_bisector).slots 72), (72, z_bin (fun x y => x * y) 73), (73, z_bin (fun x y => x - y) 74), (74, z_callV zEM 9 m_X9_layLine 3 0 0 (zR_X9_bisector).cells (zR_X9_bisector).slots 77), (77, z_reti true)]
noncomputable def zk_X9_bisector (pc : Nat) : Option zOp := zlook zl_X9_bisector pc
noncomputable def m_X9_bisector : List zAV → zAS → Option zOut := zmeth zk_X9_bisector 3
set_option maxRecDepth 100000 in
set_option maxHeartbeats 4000000 in
theorem zcs_X9_bisector {R : Room} (hR : R = zR_X9_bisector) : ∀ q ∈ zl_X9_bisector, zS zEM yX9_bisector.cls cX9_bisector 3 wsX9_bisector (some .boolean) R q.1 q.2 := by
  subst hR
  refine List.forall_mem_cons.mpr ⟨zs_aload_n dX9_bisector_0 rfl, ?_⟩
  refine List.forall_mem_cons.mpr ⟨zs_iconst dX9_bisector_1 (by decide), ?_⟩
  refine List.forall_mem_cons.mpr ⟨zs_aload_n dX9_bisector_2 rfl, ?_⟩
  refine List.forall_mem_cons.mpr ⟨zs_iload_n dX9_bisector_3 rfl, ?_⟩
  refine List.forall_mem_cons.mpr ⟨zs_callV (ci := 9) (rm := zR_X9_x) (n := 1) rfl zM_X9_x gX9_bisector_X9_x rfl (by decide +kernel) ⟨by decide, by decide⟩ dX9_bisector_4, ?_⟩
  refine List.forall_mem_cons.mpr ⟨zs_aload_n dX9_bisector_7 rfl, ?_⟩
  refine List.forall_mem_cons.mpr ⟨zs_iload_n dX9_bisector_8 rfl, ?_⟩
  refine List.forall_mem_cons.mpr ⟨zs_callV (ci := 9) (rm := zR_X9_x) (n := 1) rfl zM_X9_x gX9_bisector_X9_x rfl (by decide +kernel) ⟨by decide, by decide⟩ dX9_bisector_9, ?_⟩
  refine List.forall_mem_cons.mpr ⟨zs_isub dX9_bisector_12, ?_⟩
  refine List.forall_mem_cons.mpr ⟨zs_imul dX9_bisector_13, ?_⟩
  refine List.forall_mem_cons.mpr ⟨zs_iconst dX9_bisector_14 (by decide), ?_⟩
  refine List.forall_mem_cons.mpr ⟨zs_aload_n dX9_bisector_15 rfl, ?_⟩
  refine List.forall_mem_cons.mpr ⟨zs_iload_n dX9_bisector_16 rfl, ?_⟩
  refine List.forall_mem_cons.mpr ⟨zs_callV (ci := 9) (rm := zR_X9_y) (n := 1) rfl zM_X9_y gX9_bisector_X9_y rfl (by decide +kernel) ⟨by decide, by decide⟩ dX9_bisector_17, ?_⟩
  refine List.forall_mem_cons.mpr ⟨zs_aload_n dX9_bisector_20 rfl, ?_⟩
  refine List.forall_mem_cons.mpr ⟨zs_iload_n dX9_bisector_21 rfl, ?_⟩
  refine List.forall_mem_cons.mpr ⟨zs_callV (ci := 9) (rm := zR_X9_y) (n := 1) rfl zM_X9_y gX9_bisector_X9_y rfl (by decide +kernel) ⟨by decide, by decide⟩ dX9_bisector_22, ?_⟩
  refine List.forall_mem_cons.mpr ⟨zs_isub dX9_bisector_25, ?_⟩
  refine List.forall_mem_cons.mpr ⟨zs_imul dX9_bisector_26, ?_⟩
  refine List.forall_mem_cons.mpr ⟨zs_aload_n dX9_bisector_27 rfl, ?_⟩
  refine List.forall_mem_cons.mpr ⟨zs_iload_n dX9_bisector_28 rfl, ?_⟩
  refine List.forall_mem_cons.mpr ⟨zs_callV (ci := 9) (rm := zR_X9_x) (n := 1) rfl zM_X9_x gX9_bisector_X9_x rfl (by decide +kernel) ⟨by decide, by decide⟩ dX9_bisector_29, ?_⟩
  refine List.forall_mem_cons.mpr ⟨zs_aload_n dX9_bisector_32 rfl, ?_⟩
  refine List.forall_mem_cons.mpr ⟨zs_iload_n dX9_bisector_33 rfl, ?_⟩
  refine List.forall_mem_cons.mpr ⟨zs_callV (ci := 9) (rm := zR_X9_x) (n := 1) rfl zM_X9_x gX9_bisector_X9_x rfl (by decide +kernel) ⟨by decide, by decide⟩ dX9_bisector_34, ?_⟩
  refine List.forall_mem_cons.mpr ⟨zs_imul dX9_bisector_37, ?_⟩
  refine List.forall_mem_cons.mpr ⟨zs_aload_n dX9_bisector_38 rfl, ?_⟩
  refine List.forall_mem_cons.mpr ⟨zs_iload_n dX9_bisector_39 rfl, ?_⟩
  refine List.forall_mem_cons.mpr ⟨zs_callV (ci := 9) (rm := zR_X9_y) (n := 1) rfl zM_X9_y gX9_bisector_X9_y rfl (by decide +kernel) ⟨by decide, by decide⟩ dX9_bisector_40, ?_⟩
  refine List.forall_mem_cons.mpr ⟨zs_aload_n dX9_bisector_43 rfl, ?_⟩
  refine List.forall_mem_cons.mpr ⟨zs_iload_n dX9_bisector_44 rfl, ?_⟩
  refine List.forall_mem_cons.mpr ⟨zs_callV (ci := 9) (rm := zR_X9_y) (n := 1) rfl zM_X9_y gX9_bisector_X9_y rfl (by decide +kernel) ⟨by decide, by decide⟩ dX9_bisector_45, ?_⟩
  refine List.forall_mem_cons.mpr ⟨zs_imul dX9_bisector_48, ?_⟩
  refine List.forall_mem_cons.mpr ⟨zs_iadd dX9_bisector_49, ?_⟩
  refine List.forall_mem_cons.mpr ⟨zs_aload_n dX9_bisector_50 rfl, ?_⟩
  refine List.forall_mem_cons.mpr ⟨zs_iload_n dX9_bisector_51 rfl, ?_⟩
  refine List.forall_mem_cons.mpr ⟨zs_callV (ci := 9) (rm := zR_X9_x) (n := 1) rfl zM_X9_x gX9_bisector_X9_x rfl (by decide +kernel) ⟨by decide, by decide⟩ dX9_bisector_52, ?_⟩
  refine List.forall_mem_cons.mpr ⟨zs_aload_n dX9_bisector_55 rfl, ?_⟩
  refine List.forall_mem_cons.mpr ⟨zs_iload_n dX9_bisector_56 rfl, ?_⟩
  refine List.forall_mem_cons.mpr ⟨zs_callV (ci := 9) (rm := zR_X9_x) (n := 1) rfl zM_X9_x gX9_bisector_X9_x rfl (by decide +kernel) ⟨by decide, by decide⟩ dX9_bisector_57, ?_⟩
  refine List.forall_mem_cons.mpr ⟨zs_imul dX9_bisector_60, ?_⟩
  refine List.forall_mem_cons.mpr ⟨zs_isub dX9_bisector_61, ?_⟩
  refine List.forall_mem_cons.mpr ⟨zs_aload_n dX9_bisector_62 rfl, ?_⟩
  refine List.forall_mem_cons.mpr ⟨zs_iload_n dX9_bisector_63 rfl, ?_⟩
  refine List.forall_mem_cons.mpr ⟨zs_callV (ci := 9) (rm := zR_X9_y) (n := 1) rfl zM_X9_y gX9_bisector_X9_y rfl (by decide +kernel) ⟨by decide, by decide⟩ dX9_bisector_64, ?_⟩
  refine List.forall_mem_cons.mpr ⟨zs_aload_n dX9_bisector_67 rfl, ?_⟩
  refine List.forall_mem_cons.mpr ⟨zs_iload_n dX9_bisector_68 rfl, ?_⟩
  refine List.forall_mem_cons.mpr ⟨zs_callV (ci := 9) (rm := zR_X9_y) (n := 1) rfl zM_X9_y gX9_bisector_X9_y rfl (by decide +kernel) ⟨by decide, by decide⟩ dX9_bisector_69, ?_⟩
  refine List.forall_mem_cons.mpr ⟨zs_imul dX9_bisector_72, ?_⟩
  refine List.forall_mem_cons.mpr ⟨zs_isub dX9_bisector_73, ?_⟩
  refine List.forall_mem_cons.mpr ⟨zs_callV (ci := 9) (rm := zR_X9_layLine) (n := 3) rfl zM_X9_layLine gX9_bisector_X9_layLine rfl (by decide +kernel) ⟨by decide, by decide⟩ dX9_bisector_74, ?_⟩
  refine List.forall_mem_cons.mpr ⟨zs_reti (ty := .boolean) rfl (fun x h => (znz x h).1) dX9_bisector_77, ?_⟩
  exact fun _ h => absurd h List.not_mem_nil
theorem zM_X9_bisector : zMeets zEM yX9_bisector wsX9_bisector zR_X9_bisector m_X9_bisector := zmeth_M zEMok (zlook_all (zcs_X9_bisector rfl)) (by decide +kernel) rfl
theorem zr_X9_bisector_0 (a1 a2 : Option zAV) (st : List zAV) (s : zAS) (k : Nat × Nat) (o : Nat × Nat) : zev zk_X9_bisector (0, [some (Sum.inr o), a1, a2], st, s, k) = zev zk_X9_bisector (1, [some (Sum.inr o), a1, a2], Sum.inr o :: st, s, k) := zev_go rfl rfl
theorem zr_X9_bisector_1 (ls : zLs) (st : List zAV) (s : zAS) (k : Nat × Nat) : zev zk_X9_bisector (1, ls, st, s, k) = zev zk_X9_bisector (2, ls, Sum.inl (Value.int (2)) :: st, s, k) := zev_go rfl rfl
theorem zr_X9_bisector_2 (a1 a2 : Option zAV) (st : List zAV) (s : zAS) (k : Nat × Nat) (o : Nat × Nat) : zev zk_X9_bisector (2, [some (Sum.inr o), a1, a2], st, s, k) = zev zk_X9_bisector (3, [some (Sum.inr o), a1, a2], Sum.inr o :: st, s, k) := zev_go rfl rfl
theorem zr_X9_bisector_3 (a0 a1 : Option zAV) (st : List zAV) (s : zAS) (k : Nat × Nat) (x : Int32) : zev zk_X9_bisector (3, [a0, a1, some (Sum.inl (Value.int x))], st, s, k) = zev zk_X9_bisector (4, [a0, a1, some (Sum.inl (Value.int x))], Sum.inl (Value.int x) :: st, s, k) := zev_go rfl rfl
theorem zr_X9_bisector_4 (ls : zLs) (st : List zAV) (s : zAS) (k : Nat × Nat) (r v0 : zAV) (h : zcok zEM 9 0 0 (zR_X9_bisector).cells (zR_X9_bisector).slots r st k) : zev zk_X9_bisector (4, ls, v0 :: r :: st, s, k) = zret zk_X9_bisector 7 ls st (k.1 + 0, k.2 + 0) (m_X9_x [r, v0] s) := zf_callV (as := [v0]) 1 rfl rfl h
theorem zr_X9_bisector_7 (a1 a2 : Option zAV) (st : List zAV) (s : zAS) (k : Nat × Nat) (o : Nat × Nat) : zev zk_X9_bisector (7, [some (Sum.inr o), a1, a2], st, s, k) = zev zk_X9_bisector (8, [some (Sum.inr o), a1, a2], Sum.inr o :: st, s, k) := zev_go rfl rfl
theorem zr_X9_bisector_8 (a0 a2 : Option zAV) (st : List zAV) (s : zAS) (k : Nat × Nat) (x : Int32) : zev zk_X9_bisector (8, [a0, some (Sum.inl (Value.int x)), a2], st, s, k) = zev zk_X9_bisector (9, [a0, some (Sum.inl (Value.int x)), a2], Sum.inl (Value.int x) :: st, s, k) := zev_go rfl rfl
theorem zr_X9_bisector_9 (ls : zLs) (st : List zAV) (s : zAS) (k : Nat × Nat) (r v0 : zAV) (h : zcok zEM 9 0 0 (zR_X9_bisector).cells (zR_X9_bisector).slots r st k) : zev zk_X9_bisector (9, ls, v0 :: r :: st, s, k) = zret zk_X9_bisector 12 ls st (k.1 + 0, k.2 + 0) (m_X9_x [r, v0] s) := zf_callV (as := [v0]) 1 rfl rfl h
theorem zr_X9_bisector_12 (ls : zLs) (st : List zAV) (s : zAS) (k : Nat × Nat) (x y : Int32) : zev zk_X9_bisector (12, ls, Sum.inl (Value.int y) :: Sum.inl (Value.int x) :: st, s, k) = zev zk_X9_bisector (13, ls, Sum.inl (Value.int (x - y)) :: st, s, k) := zev_go rfl rfl
theorem zr_X9_bisector_13 (ls : zLs) (st : List zAV) (s : zAS) (k : Nat × Nat) (x y : Int32) : zev zk_X9_bisector (13, ls, Sum.inl (Value.int y) :: Sum.inl (Value.int x) :: st, s, k) = zev zk_X9_bisector (14, ls, Sum.inl (Value.int (x * y)) :: st, s, k) := zev_go rfl rfl
theorem zr_X9_bisector_14 (ls : zLs) (st : List zAV) (s : zAS) (k : Nat × Nat) : zev zk_X9_bisector (14, ls, st, s, k) = zev zk_X9_bisector (15, ls, Sum.inl (Value.int (2)) :: st, s, k) := zev_go rfl rfl
theorem zr_X9_bisector_15 (a1 a2 : Option zAV) (st : List zAV) (s : zAS) (k : Nat × Nat) (o : Nat × Nat) : zev zk_X9_bisector (15, [some (Sum.inr o), a1, a2], st, s, k) = zev zk_X9_bisector (16, [some (Sum.inr o), a1, a2], Sum.inr o :: st, s, k) := zev_go rfl rfl
theorem zr_X9_bisector_16 (a0 a1 : Option zAV) (st : List zAV) (s : zAS) (k : Nat × Nat) (x : Int32) : zev zk_X9_bisector (16, [a0, a1, some (Sum.inl (Value.int x))], st, s, k) = zev zk_X9_bisector (17, [a0, a1, some (Sum.inl (Value.int x))], Sum.inl (Value.int x) :: st, s, k) := zev_go rfl rfl
theorem zr_X9_bisector_17 (ls : zLs) (st : List zAV) (s : zAS) (k : Nat × Nat) (r v0 : zAV) (h : zcok zEM 9 0 0 (zR_X9_bisector).cells (zR_X9_bisector).slots r st k) : zev zk_X9_bisector (17, ls, v0 :: r :: st, s, k) = zret zk_X9_bisector 20 ls st (k.1 + 0, k.2 + 0) (m_X9_y [r, v0] s) := zf_callV (as := [v0]) 1 rfl rfl h
theorem zr_X9_bisector_20 (a1 a2 : Option zAV) (st : List zAV) (s : zAS) (k : Nat × Nat) (o : Nat × Nat) : zev zk_X9_bisector (20, [some (Sum.inr o), a1, a2], st, s, k) = zev zk_X9_bisector (21, [some (Sum.inr o), a1, a2], Sum.inr o :: st, s, k) := zev_go rfl rfl
theorem zr_X9_bisector_21 (a0 a2 : Option zAV) (st : List zAV) (s : zAS) (k : Nat × Nat) (x : Int32) : zev zk_X9_bisector (21, [a0, some (Sum.inl (Value.int x)), a2], st, s, k) = zev zk_X9_bisector (22, [a0, some (Sum.inl (Value.int x)), a2], Sum.inl (Value.int x) :: st, s, k) := zev_go rfl rfl
theorem zr_X9_bisector_22 (ls : zLs) (st : List zAV) (s : zAS) (k : Nat × Nat) (r v0 : zAV) (h : zcok zEM 9 0 0 (zR_X9_bisector).cells (zR_X9_bisector).slots r st k) : zev zk_X9_bisector (22, ls, v0 :: r :: st, s, k) = zret zk_X9_bisector 25 ls st (k.1 + 0, k.2 + 0) (m_X9_y [r, v0] s) := zf_callV (as := [v0]) 1 rfl rfl h
theorem zr_X9_bisector_25 (ls : zLs) (st : List zAV) (s : zAS) (k : Nat × Nat) (x y : Int32) : zev zk_X9_bisector (25, ls, Sum.inl (Value.int y) :: Sum.inl (Value.int x) :: st, s, k) = zev zk_X9_bisector (26, ls, Sum.inl (Value.int (x - y)) :: st, s, k) := zev_go rfl rfl
theorem zr_X9_bisector_26 (ls : zLs) (st : List zAV) (s : zAS) (k : Nat × Nat) (x y : Int32) : zev zk_X9_bisector (26, ls, Sum.inl (Value.int y) :: Sum.inl (Value.int x) :: st, s, k) = zev zk_X9_bisector (27, ls, Sum.inl (Value.int (x * y)) :: st, s, k) := zev_go rfl rfl
theorem zr_X9_bisector_27 (a1 a2 : Option zAV) (st : List zAV) (s : zAS) (k : Nat × Nat) (o : Nat × Nat) : zev zk_X9_bisector (27, [some (Sum.inr o), a1, a2], st, s, k) = zev zk_X9_bisector (28, [some (Sum.inr o), a1, a2], Sum.inr o :: st, s, k) := zev_go rfl rfl
theorem zr_X9_bisector_28 (a0 a2 : Option zAV) (st : List zAV) (s : zAS) (k : Nat × Nat) (x : Int32) : zev zk_X9_bisector (28, [a0, some (Sum.inl (Value.int x)), a2], st, s, k) = zev zk_X9_bisector (29, [a0, some (Sum.inl (Value.int x)), a2], Sum.inl (Value.int x) :: st, s, k) := zev_go rfl rfl
theorem zr_X9_bisector_29 (ls : zLs) (st : List zAV) (s : zAS) (k : Nat × Nat) (r v0 : zAV) (h : zcok zEM 9 0 0 (zR_X9_bisector).cells (zR_X9_bisector).slots r st k) : zev zk_X9_bisector (29, ls, v0 :: r :: st, s, k) = zret zk_X9_bisector 32 ls st (k.1 + 0, k.2 + 0) (m_X9_x [r, v0] s) := zf_callV (as := [v0]) 1 rfl rfl h
theorem zr_X9_bisector_32 (a1 a2 : Option zAV) (st : List zAV) (s : zAS) (k : Nat × Nat) (o : Nat × Nat) : zev zk_X9_bisector (32, [some (Sum.inr o), a1, a2], st, s, k) = zev zk_X9_bisector (33, [some (Sum.inr o), a1, a2], Sum.inr o :: st, s, k) := zev_go rfl rfl
theorem zr_X9_bisector_33 (a0 a2 : Option zAV) (st : List zAV) (s : zAS) (k : Nat × Nat) (x : Int32) : zev zk_X9_bisector (33, [a0, some (Sum.inl (Value.int x)), a2], st, s, k) = zev zk_X9_bisector (34, [a0, some (Sum.inl (Value.int x)), a2], Sum.inl (Value.int x) :: st, s, k) := zev_go rfl rfl
theorem zr_X9_bisector_34 (ls : zLs) (st : List zAV) (s : zAS) (k : Nat × Nat) (r v0 : zAV) (h : zcok zEM 9 0 0 (zR_X9_bisector).cells (zR_X9_bisector).slots r st k) : zev zk_X9_bisector (34, ls, v0 :: r :: st, s, k) = zret zk_X9_bisector 37 ls st (k.1 + 0, k.2 + 0) (m_X9_x [r, v0] s) := zf_callV (as := [v0]) 1 rfl rfl h
theorem zr_X9_bisector_37 (ls : zLs) (st : List zAV) (s : zAS) (k : Nat × Nat) (x y : Int32) : zev zk_X9_bisector (37, ls, Sum.inl (Value.int y) :: Sum.inl (Value.int x) :: st, s, k) = zev zk_X9_bisector (38, ls, Sum.inl (Value.int (x * y)) :: st, s, k) := zev_go rfl rfl
theorem zr_X9_bisector_38 (a1 a2 : Option zAV) (st : List zAV) (s : zAS) (k : Nat × Nat) (o : Nat × Nat) : zev zk_X9_bisector (38, [some (Sum.inr o), a1, a2], st, s, k) = zev zk_X9_bisector (39, [some (Sum.inr o), a1, a2], Sum.inr o :: st, s, k) := zev_go rfl rfl
theorem zr_X9_bisector_39 (a0 a2 : Option zAV) (st : List zAV) (s : zAS) (k : Nat × Nat) (x : Int32) : zev zk_X9_bisector (39, [a0, some (Sum.inl (Value.int x)), a2], st, s, k) = zev zk_X9_bisector (40, [a0, some (Sum.inl (Value.int x)), a2], Sum.inl (Value.int x) :: st, s, k) := zev_go rfl rfl
theorem zr_X9_bisector_40 (ls : zLs) (st : List zAV) (s : zAS) (k : Nat × Nat) (r v0 : zAV) (h : zcok zEM 9 0 0 (zR_X9_bisector).cells (zR_X9_bisector).slots r st k) : zev zk_X9_bisector (40, ls, v0 :: r :: st, s, k) = zret zk_X9_bisector 43 ls st (k.1 + 0, k.2 + 0) (m_X9_y [r, v0] s) := zf_callV (as := [v0]) 1 rfl rfl h
theorem zr_X9_bisector_43 (a1 a2 : Option zAV) (st : List zAV) (s : zAS) (k : Nat × Nat) (o : Nat × Nat) : zev zk_X9_bisector (43, [some (Sum.inr o), a1, a2], st, s, k) = zev zk_X9_bisector (44, [some (Sum.inr o), a1, a2], Sum.inr o :: st, s, k) := zev_go rfl rfl
theorem zr_X9_bisector_44 (a0 a2 : Option zAV) (st : List zAV) (s : zAS) (k : Nat × Nat) (x : Int32) : zev zk_X9_bisector (44, [a0, some (Sum.inl (Value.int x)), a2], st, s, k) = zev zk_X9_bisector (45, [a0, some (Sum.inl (Value.int x)), a2], Sum.inl (Value.int x) :: st, s, k) := zev_go rfl rfl
theorem zr_X9_bisector_45 (ls : zLs) (st : List zAV) (s : zAS) (k : Nat × Nat) (r v0 : zAV) (h : zcok zEM 9 0 0 (zR_X9_bisector).cells (zR_X9_bisector).slots r st k) : zev zk_X9_bisector (45, ls, v0 :: r :: st, s, k) = zret zk_X9_bisector 48 ls st (k.1 + 0, k.2 + 0) (m_X9_y [r, v0] s) := zf_callV (as := [v0]) 1 rfl rfl h
theorem zr_X9_bisector_48 (ls : zLs) (st : List zAV) (s : zAS) (k : Nat × Nat) (x y : Int32) : zev zk_X9_bisector (48, ls, Sum.inl (Value.int y) :: Sum.inl (Value.int x) :: st, s, k) = zev zk_X9_bisector (49, ls, Sum.inl (Value.int (x * y)) :: st, s, k) := zev_go rfl rfl
theorem zr_X9_bisector_49 (ls : zLs) (st : List zAV) (s : zAS) (k : Nat × Nat) (x y : Int32) : zev zk_X9_bisector (49, ls, Sum.inl (Value.int y) :: Sum.inl (Value.int x) :: st, s, k) = zev zk_X9_bisector (50, ls, Sum.inl (Value.int (x + y)) :: st, s, k) := zev_go rfl rfl
theorem zr_X9_bisector_50 (a1 a2 : Option zAV) (st : List zAV) (s : zAS) (k : Nat × Nat) (o : Nat × Nat) : zev zk_X9_bisector (50, [some (Sum.inr o), a1, a2], st, s, k) = zev zk_X9_bisector (51, [some (Sum.inr o), a1, a2], Sum.inr o :: st, s, k) := zev_go rfl rfl
theorem zr_X9_bisector_51 (a0 a1 : Option zAV) (st : List zAV) (s : zAS) (k : Nat × Nat) (x : Int32) : zev zk_X9_bisector (51, [a0, a1, some (Sum.inl (Value.int x))], st, s, k) = zev zk_X9_bisector (52, [a0, a1, some (Sum.inl (Value.int x))], Sum.inl (Value.int x) :: st, s, k) := zev_go rfl rfl
theorem zr_X9_bisector_52 (ls : zLs) (st : List zAV) (s : zAS) (k : Nat × Nat) (r v0 : zAV) (h : zcok zEM 9 0 0 (zR_X9_bisector).cells (zR_X9_bisector).slots r st k) : zev zk_X9_bisector (52, ls, v0 :: r :: st, s, k) = zret zk_X9_bisector 55 ls st (k.1 + 0, k.2 + 0) (m_X9_x [r, v0] s) := zf_callV (as := [v0]) 1 rfl rfl h
theorem zr_X9_bisector_55 (a1 a2 : Option zAV) (st : List zAV) (s : zAS) (k : Nat × Nat) (o : Nat × Nat) : zev zk_X9_bisector (55, [some (Sum.inr o), a1, a2], st, s, k) = zev zk_X9_bisector (56, [some (Sum.inr o), a1, a2], Sum.inr o :: st, s, k) := zev_go rfl rfl
theorem zr_X9_bisector_56 (a0 a1 : Option zAV) (st : List zAV) (s : zAS) (k : Nat × Nat) (x : Int32) : zev zk_X9_bisector (56, [a0, a1, some (Sum.inl (Value.int x))], st, s, k) = zev zk_X9_bisector (57, [a0, a1, some (Sum.inl (Value.int x))], Sum.inl (Value.int x) :: st, s, k) := zev_go rfl rfl
theorem zr_X9_bisector_57 (ls : zLs) (st : List zAV) (s : zAS) (k : Nat × Nat) (r v0 : zAV) (h : zcok zEM 9 0 0 (zR_X9_bisector).cells (zR_X9_bisector).slots r st k) : zev zk_X9_bisector (57, ls, v0 :: r :: st, s, k) = zret zk_X9_bisector 60 ls st (k.1 + 0, k.2 + 0) (m_X9_x [r, v0] s) := zf_callV (as := [v0]) 1 rfl rfl h
theorem zr_X9_bisector_60 (ls : zLs) (st : List zAV) (s : zAS) (k : Nat × Nat) (x y : Int32) : zev zk_X9_bisector (60, ls, Sum.inl (Value.int y) :: Sum.inl (Value.int x) :: st, s, k) = zev zk_X9_bisector (61, ls, Sum.inl (Value.int (x * y)) :: st, s, k) := zev_go rfl rfl
theorem zr_X9_bisector_61 (ls : zLs) (st : List zAV) (s : zAS) (k : Nat × Nat) (x y : Int32) : zev zk_X9_bisector (61, ls, Sum.inl (Value.int y) :: Sum.inl (Value.int x) :: st, s, k) = zev zk_X9_bisector (62, ls, Sum.inl (Value.int (x - y)) :: st, s, k) := zev_go rfl rfl
theorem zr_X9_bisector_62 (a1 a2 : Option zAV) (st : List zAV) (s : zAS) (k : Nat × Nat) (o : Nat × Nat) : zev zk_X9_bisector (62, [some (Sum.inr o), a1, a2], st, s, k) = zev zk_X9_bisector (63, [some (Sum.inr o), a1, a2], Sum.inr o :: st, s, k) := zev_go rfl rfl
theorem zr_X9_bisector_63 (a0 a1 : Option zAV) (st : List zAV) (s : zAS) (k : Nat × Nat) (x : Int32) : zev zk_X9_bisector (63, [a0, a1, some (Sum.inl (Value.int x))], st, s, k) = zev zk_X9_bisector (64, [a0, a1, some (Sum.inl (Value.int x))], Sum.inl (Value.int x) :: st, s, k) := zev_go rfl rfl
theorem zr_X9_bisector_64 (ls : zLs) (st : List zAV) (s : zAS) (k : Nat × Nat) (r v0 : zAV) (h : zcok zEM 9 0 0 (zR_X9_bisector).cells (zR_X9_bisector).slots r st k) : zev zk_X9_bisector (64, ls, v0 :: r :: st, s, k) = zret zk_X9_bisector 67 ls st (k.1 + 0, k.2 + 0) (m_X9_y [r, v0] s) := zf_callV (as := [v0]) 1 rfl rfl h
theorem zr_X9_bisector_67 (a1 a2 : Option zAV) (st : List zAV) (s : zAS) (k : Nat × Nat) (o : Nat × Nat) : zev zk_X9_bisector (67, [some (Sum.inr o), a1, a2], st, s, k) = zev zk_X9_bisector (68, [some (Sum.inr o), a1, a2], Sum.inr o :: st, s, k) := zev_go rfl rfl
theorem zr_X9_bisector_68 (a0 a1 : Option zAV) (st : List zAV) (s : zAS) (k : Nat × Nat) (x : Int32) : zev zk_X9_bisector (68, [a0, a1, some (Sum.inl (Value.int x))], st, s, k) = zev zk_X9_bisector (69, [a0, a1, some (Sum.inl (Value.int x))], Sum.inl (Value.int x) :: st, s, k) := zev_go rfl rfl
theorem zr_X9_bisector_69 (ls : zLs) (st : List zAV) (s : zAS) (k : Nat × Nat) (r v0 : zAV) (h : zcok zEM 9 0 0 (zR_X9_bisector).cells (zR_X9_bisector).slots r st k) : zev zk_X9_bisector (69, ls, v0 :: r :: st, s, k) = zret zk_X9_bisector 72 ls st (k.1 + 0, k.2 + 0) (m_X9_y [r, v0] s) := zf_callV (as := [v0]) 1 rfl rfl h
theorem zr_X9_bisector_72 (ls : zLs) (st : List zAV) (s : zAS) (k : Nat × Nat) (x y : Int32) : zev zk_X9_bisector (72, ls, Sum.inl (Value.int y) :: Sum.inl (Value.int x) :: st, s, k) = zev zk_X9_bisector (73, ls, Sum.inl (Value.int (x * y)) :: st, s, k) := zev_go rfl rfl
theorem zr_X9_bisector_73 (ls : zLs) (st : List zAV) (s : zAS) (k : Nat × Nat) (x y : Int32) : zev zk_X9_bisector (73, ls, Sum.inl (Value.int y) :: Sum.inl (Value.int x) :: st, s, k) = zev zk_X9_bisector (74, ls, Sum.inl (Value.int (x - y)) :: st, s, k) := zev_go rfl rfl
theorem zr_X9_bisector_74 (ls : zLs) (st : List zAV) (s : zAS) (k : Nat × Nat) (r v0 v1 v2 : zAV) (h : zcok zEM 9 0 0 (zR_X9_bisector).cells (zR_X9_bisector).slots r st k) : zev zk_X9_bisector (74, ls, v2 :: v1 :: v0 :: r :: st, s, k) = zret zk_X9_bisector 77 ls st (k.1 + 0, k.2 + 0) (m_X9_layLine [r, v0, v1, v2] s) := zf_callV (as := [v2, v1, v0]) 3 rfl rfl h
theorem zr_X9_bisector_77 (ls : zLs) (s : zAS) (k : Nat × Nat) (x : Int32) (hx : x = 0 ∨ x = 1) : zev zk_X9_bisector (77, ls, [Sum.inl (Value.int x)], s, k) = some (.inl (some (Sum.inl (Value.int x))), s) := zf_retz rfl hx
/-! X9_mirror: PrimePlaneModel.mirror(II)Z -/
abbrev zR_X9_mirror : Room := ({ frames := 3, cells := 0, slots := 0, locals := 66 } : Room)
noncomputable def zl_X9_mirror : List (Nat × zOp) := [(0, z_lda 0 1), (1, z_ldi 2 2), (2, z_callV zEM 9 m_X9_x 1 0 0 (zR_X9_mirror).cells (zR_X9_mirror).slots 5), (5, z_sti 3 6), (6, z_lda 0 7), (7, z_ldi 2 8), (8, z_callV zEM 9 m_X9_y 1 0 0 (zR_X9_mirror).cells (zR_X9_mirror).slots 11), (11, z_sti 4 13), (13, z_ic (2) 14), (14, z_lda 0 15), (15, z_ldi 3 16), (16, z_lda 0 17), (17, z_ldi 1 18), (18, z_callV zEM 9 m_X9_x 1 0 0 (zR_X9_mirror).cells (zR_X9_mirror).slots 21), (21, z_bin (fun x y => x * y) 22), (22, z_ldi 4 24), (24, z_lda 0 25), (25, z_ldi 1 26), (26, z_callV zEM 9 m_X9_y 1 0 0 (zR_X9_mirror).cells (zR_X9_mirror).slots 29), (29, z_bin (fun x y => x * y) 30), (30, z_bin (fun x y => x + y) 31), (31, z_lda 0 32), (32, z_ldi 2 33), (33, z_callV zEM 9 m_X9_z 1 0 0 (zR_X9_mirror).cells (zR_X9_mirror).slots 36), (36, z_bin (fun x y => x + y) 37), (37, z_callV zEM 9 m_X9_mod 1 0 0 (zR_X9_mirror).cells (zR_X9_mirror).slots 40), (40, z_bin (fun x y => x * y) 41), (41, z_lda 0 42), (42, z_lda 0 43), (43, z_ldi 3 44), (44, z_ldi 3 45), (45, z_bin (fun x y => x * y) 46), (46, z_ldi 4 48), (48, z_ldi 4 50), (50, z_bin (fun x y => x * y) 51), (51, z_bin (fun x y => x + y) 52), (52, z_callV zEM 9 m_X9_mod 1 0 0 (zR_X9_mirror).cells (zR_X9_mirror).slots 55), (55, z_callV zEM 9 m_X9_opposite 1 0 0 (zR_X9_mirror).cells (zR_X9_mirror).slots 58), (58, z_bin (fun x y => x * y) 59), (59, z_lda 0 60), (60, z_get zEM 9 1 63), (63, z_rem 64), (64, z_sti 5 66), (66, z_lda 0 67), (67, z_lda 0 68), (68, z_ldi 1 69), (69, z_callV zEM 9 m_X9_x 1 0 0 (zR_X9_mirror).cells (zR_X9_mirror).slots 72), (72, z_ldi 5 74), (74, z_ldi 3 75), (75, z_bin (fun x y => x * y) 76), (76, z_bin (fun x y => x - y) 77), (77, z_lda 0 78), (78, z_ldi 1 79), (79, z_callV zEM 9 m_X9_y 1 0 0 (zR_X9_mirror).cells (zR_X9_mirror).slots 82), (82, z_ldi 5 84), (84, z_ldi 4 86), (86, z_bin (fun x y => x * y) 87), (87, z_bin (fun x y => x - y) 88), (88, z_ic (0) 89), (89, z_callV zEM 9 m_X9_lay 3 0 0 (zR_X9_mirror).cells (zR_X9_mirror).slots 92), (92, z_reti true)]
noncomputable def zk_X9_mirror (pc : Nat) : Option zOp := zlook zl_X9_mirror pc
noncomputable def m_X9_mirror : List zAV → zAS → Option zOut := zmeth zk_X9_mirror 6
set_option maxRecDepth 100000 in
set_option maxHeartbeats 4000000 in
theorem zcs_X9_mirror {R : Room} (hR : R = zR_X9_mirror) : ∀ q ∈ zl_X9_mirror, zS zEM yX9_mirror.cls cX9_mirror 6 wsX9_mirror (some .boolean) R q.1 q.2 := by
  subst hR
  have hin9 : ∀ w ∈ wsX90, w ∈ wsX9_mirror := fun w h => List.mem_cons_of_mem _ (List.mem_append_right _ h)
  refine List.forall_mem_cons.mpr ⟨zs_aload_n dX9_mirror_0 rfl, ?_⟩
  refine List.forall_mem_cons.mpr ⟨zs_iload_n dX9_mirror_1 rfl, ?_⟩
  refine List.forall_mem_cons.mpr ⟨zs_callV (ci := 9) (rm := zR_X9_x) (n := 1) rfl zM_X9_x gX9_mirror_X9_x rfl (by decide +kernel) ⟨by decide, by decide⟩ dX9_mirror_2, ?_⟩
  refine List.forall_mem_cons.mpr ⟨zs_istore_n dX9_mirror_5 rfl, ?_⟩
  refine List.forall_mem_cons.mpr ⟨zs_aload_n dX9_mirror_6 rfl, ?_⟩
  refine List.forall_mem_cons.mpr ⟨zs_iload_n dX9_mirror_7 rfl, ?_⟩
  refine List.forall_mem_cons.mpr ⟨zs_callV (ci := 9) (rm := zR_X9_y) (n := 1) rfl zM_X9_y gX9_mirror_X9_y rfl (by decide +kernel) ⟨by decide, by decide⟩ dX9_mirror_8, ?_⟩
  refine List.forall_mem_cons.mpr ⟨zs_istore dX9_mirror_11, ?_⟩
  refine List.forall_mem_cons.mpr ⟨zs_iconst dX9_mirror_13 (by decide), ?_⟩
  refine List.forall_mem_cons.mpr ⟨zs_aload_n dX9_mirror_14 rfl, ?_⟩
  refine List.forall_mem_cons.mpr ⟨zs_iload_n dX9_mirror_15 rfl, ?_⟩
  refine List.forall_mem_cons.mpr ⟨zs_aload_n dX9_mirror_16 rfl, ?_⟩
  refine List.forall_mem_cons.mpr ⟨zs_iload_n dX9_mirror_17 rfl, ?_⟩
  refine List.forall_mem_cons.mpr ⟨zs_callV (ci := 9) (rm := zR_X9_x) (n := 1) rfl zM_X9_x gX9_mirror_X9_x rfl (by decide +kernel) ⟨by decide, by decide⟩ dX9_mirror_18, ?_⟩
  refine List.forall_mem_cons.mpr ⟨zs_imul dX9_mirror_21, ?_⟩
  refine List.forall_mem_cons.mpr ⟨zs_iload dX9_mirror_22, ?_⟩
  refine List.forall_mem_cons.mpr ⟨zs_aload_n dX9_mirror_24 rfl, ?_⟩
  refine List.forall_mem_cons.mpr ⟨zs_iload_n dX9_mirror_25 rfl, ?_⟩
  refine List.forall_mem_cons.mpr ⟨zs_callV (ci := 9) (rm := zR_X9_y) (n := 1) rfl zM_X9_y gX9_mirror_X9_y rfl (by decide +kernel) ⟨by decide, by decide⟩ dX9_mirror_26, ?_⟩
  refine List.forall_mem_cons.mpr ⟨zs_imul dX9_mirror_29, ?_⟩
  refine List.forall_mem_cons.mpr ⟨zs_iadd dX9_mirror_30, ?_⟩
  refine List.forall_mem_cons.mpr ⟨zs_aload_n dX9_mirror_31 rfl, ?_⟩
  refine List.forall_mem_cons.mpr ⟨zs_iload_n dX9_mirror_32 rfl, ?_⟩
  refine List.forall_mem_cons.mpr ⟨zs_callV (ci := 9) (rm := zR_X9_z) (n := 1) rfl zM_X9_z gX9_mirror_X9_z rfl (by decide +kernel) ⟨by decide, by decide⟩ dX9_mirror_33, ?_⟩
  refine List.forall_mem_cons.mpr ⟨zs_iadd dX9_mirror_36, ?_⟩
  refine List.forall_mem_cons.mpr ⟨zs_callV (ci := 9) (rm := zR_X9_mod) (n := 1) rfl zM_X9_mod gX9_mirror_X9_mod rfl (by decide +kernel) ⟨by decide, by decide⟩ dX9_mirror_37, ?_⟩
  refine List.forall_mem_cons.mpr ⟨zs_imul dX9_mirror_40, ?_⟩
  refine List.forall_mem_cons.mpr ⟨zs_aload_n dX9_mirror_41 rfl, ?_⟩
  refine List.forall_mem_cons.mpr ⟨zs_aload_n dX9_mirror_42 rfl, ?_⟩
  refine List.forall_mem_cons.mpr ⟨zs_iload_n dX9_mirror_43 rfl, ?_⟩
  refine List.forall_mem_cons.mpr ⟨zs_iload_n dX9_mirror_44 rfl, ?_⟩
  refine List.forall_mem_cons.mpr ⟨zs_imul dX9_mirror_45, ?_⟩
  refine List.forall_mem_cons.mpr ⟨zs_iload dX9_mirror_46, ?_⟩
  refine List.forall_mem_cons.mpr ⟨zs_iload dX9_mirror_48, ?_⟩
  refine List.forall_mem_cons.mpr ⟨zs_imul dX9_mirror_50, ?_⟩
  refine List.forall_mem_cons.mpr ⟨zs_iadd dX9_mirror_51, ?_⟩
  refine List.forall_mem_cons.mpr ⟨zs_callV (ci := 9) (rm := zR_X9_mod) (n := 1) rfl zM_X9_mod gX9_mirror_X9_mod rfl (by decide +kernel) ⟨by decide, by decide⟩ dX9_mirror_52, ?_⟩
  refine List.forall_mem_cons.mpr ⟨zs_callV (ci := 9) (rm := zR_X9_opposite) (n := 1) rfl zM_X9_opposite gX9_mirror_X9_opposite rfl (by decide +kernel) ⟨by decide, by decide⟩ dX9_mirror_55, ?_⟩
  refine List.forall_mem_cons.mpr ⟨zs_imul dX9_mirror_58, ?_⟩
  refine List.forall_mem_cons.mpr ⟨zs_aload_n dX9_mirror_59 rfl, ?_⟩
  refine List.forall_mem_cons.mpr ⟨zs_get (ci := 9) (j := 1) (N := 10) (C := RX9) (T := TX9) (index := 7) rfl (by decide) hin9 (List.mem_of_getElem? (i := 1) rfl) dX9_mirror_60, ?_⟩
  refine List.forall_mem_cons.mpr ⟨zs_irem dX9_mirror_63, ?_⟩
  refine List.forall_mem_cons.mpr ⟨zs_istore dX9_mirror_64, ?_⟩
  refine List.forall_mem_cons.mpr ⟨zs_aload_n dX9_mirror_66 rfl, ?_⟩
  refine List.forall_mem_cons.mpr ⟨zs_aload_n dX9_mirror_67 rfl, ?_⟩
  refine List.forall_mem_cons.mpr ⟨zs_iload_n dX9_mirror_68 rfl, ?_⟩
  refine List.forall_mem_cons.mpr ⟨zs_callV (ci := 9) (rm := zR_X9_x) (n := 1) rfl zM_X9_x gX9_mirror_X9_x rfl (by decide +kernel) ⟨by decide, by decide⟩ dX9_mirror_69, ?_⟩
  refine List.forall_mem_cons.mpr ⟨zs_iload dX9_mirror_72, ?_⟩
  refine List.forall_mem_cons.mpr ⟨zs_iload_n dX9_mirror_74 rfl, ?_⟩
  refine List.forall_mem_cons.mpr ⟨zs_imul dX9_mirror_75, ?_⟩
  refine List.forall_mem_cons.mpr ⟨zs_isub dX9_mirror_76, ?_⟩
  refine List.forall_mem_cons.mpr ⟨zs_aload_n dX9_mirror_77 rfl, ?_⟩
  refine List.forall_mem_cons.mpr ⟨zs_iload_n dX9_mirror_78 rfl, ?_⟩
  refine List.forall_mem_cons.mpr ⟨zs_callV (ci := 9) (rm := zR_X9_y) (n := 1) rfl zM_X9_y gX9_mirror_X9_y rfl (by decide +kernel) ⟨by decide, by decide⟩ dX9_mirror_79, ?_⟩
  refine List.forall_mem_cons.mpr ⟨zs_iload dX9_mirror_82, ?_⟩
  refine List.forall_mem_cons.mpr ⟨zs_iload dX9_mirror_84, ?_⟩
  refine List.forall_mem_cons.mpr ⟨zs_imul dX9_mirror_86, ?_⟩
  refine List.forall_mem_cons.mpr ⟨zs_isub dX9_mirror_87, ?_⟩
  refine List.forall_mem_cons.mpr ⟨zs_iconst dX9_mirror_88 (by decide), ?_⟩
  refine List.forall_mem_cons.mpr ⟨zs_callV (ci := 9) (rm := zR_X9_lay) (n := 3) rfl zM_X9_lay gX9_mirror_X9_lay rfl (by decide +kernel) ⟨by decide, by decide⟩ dX9_mirror_89, ?_⟩
  refine List.forall_mem_cons.mpr ⟨zs_reti (ty := .boolean) rfl (fun x h => (znz x h).1) dX9_mirror_92, ?_⟩
  exact fun _ h => absurd h List.not_mem_nil
theorem zM_X9_mirror : zMeets zEM yX9_mirror wsX9_mirror zR_X9_mirror m_X9_mirror := zmeth_M zEMok (zlook_all (zcs_X9_mirror rfl)) (by decide +kernel) rfl
theorem zr_X9_mirror_0 (a1 a2 a3 a4 a5 : Option zAV) (st : List zAV) (s : zAS) (k : Nat × Nat) (o : Nat × Nat) : zev zk_X9_mirror (0, [some (Sum.inr o), a1, a2, a3, a4, a5], st, s, k) = zev zk_X9_mirror (1, [some (Sum.inr o), a1, a2, a3, a4, a5], Sum.inr o :: st, s, k) := zev_go rfl rfl
theorem zr_X9_mirror_1 (a0 a1 a3 a4 a5 : Option zAV) (st : List zAV) (s : zAS) (k : Nat × Nat) (x : Int32) : zev zk_X9_mirror (1, [a0, a1, some (Sum.inl (Value.int x)), a3, a4, a5], st, s, k) = zev zk_X9_mirror (2, [a0, a1, some (Sum.inl (Value.int x)), a3, a4, a5], Sum.inl (Value.int x) :: st, s, k) := zev_go rfl rfl
theorem zr_X9_mirror_2 (ls : zLs) (st : List zAV) (s : zAS) (k : Nat × Nat) (r v0 : zAV) (h : zcok zEM 9 0 0 (zR_X9_mirror).cells (zR_X9_mirror).slots r st k) : zev zk_X9_mirror (2, ls, v0 :: r :: st, s, k) = zret zk_X9_mirror 5 ls st (k.1 + 0, k.2 + 0) (m_X9_x [r, v0] s) := zf_callV (as := [v0]) 1 rfl rfl h
theorem zr_X9_mirror_5 (a0 a1 a2 a3 a4 a5 : Option zAV) (st : List zAV) (s : zAS) (k : Nat × Nat) (x : Int32) : zev zk_X9_mirror (5, [a0, a1, a2, a3, a4, a5], Sum.inl (Value.int x) :: st, s, k) = zev zk_X9_mirror (6, [a0, a1, zk1 a2, some (Sum.inl (Value.int x)), a4, a5], st, s, k) := zev_go rfl rfl
theorem zr_X9_mirror_6 (a1 a2 a3 a4 a5 : Option zAV) (st : List zAV) (s : zAS) (k : Nat × Nat) (o : Nat × Nat) : zev zk_X9_mirror (6, [some (Sum.inr o), a1, a2, a3, a4, a5], st, s, k) = zev zk_X9_mirror (7, [some (Sum.inr o), a1, a2, a3, a4, a5], Sum.inr o :: st, s, k) := zev_go rfl rfl
theorem zr_X9_mirror_7 (a0 a1 a3 a4 a5 : Option zAV) (st : List zAV) (s : zAS) (k : Nat × Nat) (x : Int32) : zev zk_X9_mirror (7, [a0, a1, some (Sum.inl (Value.int x)), a3, a4, a5], st, s, k) = zev zk_X9_mirror (8, [a0, a1, some (Sum.inl (Value.int x)), a3, a4, a5], Sum.inl (Value.int x) :: st, s, k) := zev_go rfl rfl
theorem zr_X9_mirror_8 (ls : zLs) (st : List zAV) (s : zAS) (k : Nat × Nat) (r v0 : zAV) (h : zcok zEM 9 0 0 (zR_X9_mirror).cells (zR_X9_mirror).slots r st k) : zev zk_X9_mirror (8, ls, v0 :: r :: st, s, k) = zret zk_X9_mirror 11 ls st (k.1 + 0, k.2 + 0) (m_X9_y [r, v0] s) := zf_callV (as := [v0]) 1 rfl rfl h
theorem zr_X9_mirror_11 (a0 a1 a2 a3 a4 a5 : Option zAV) (st : List zAV) (s : zAS) (k : Nat × Nat) (x : Int32) : zev zk_X9_mirror (11, [a0, a1, a2, a3, a4, a5], Sum.inl (Value.int x) :: st, s, k) = zev zk_X9_mirror (13, [a0, a1, a2, zk1 a3, some (Sum.inl (Value.int x)), a5], st, s, k) := zev_go rfl rfl
theorem zr_X9_mirror_13 (ls : zLs) (st : List zAV) (s : zAS) (k : Nat × Nat) : zev zk_X9_mirror (13, ls, st, s, k) = zev zk_X9_mirror (14, ls, Sum.inl (Value.int (2)) :: st, s, k) := zev_go rfl rfl
theorem zr_X9_mirror_14 (a1 a2 a3 a4 a5 : Option zAV) (st : List zAV) (s : zAS) (k : Nat × Nat) (o : Nat × Nat) : zev zk_X9_mirror (14, [some (Sum.inr o), a1, a2, a3, a4, a5], st, s, k) = zev zk_X9_mirror (15, [some (Sum.inr o), a1, a2, a3, a4, a5], Sum.inr o :: st, s, k) := zev_go rfl rfl
theorem zr_X9_mirror_15 (a0 a1 a2 a4 a5 : Option zAV) (st : List zAV) (s : zAS) (k : Nat × Nat) (x : Int32) : zev zk_X9_mirror (15, [a0, a1, a2, some (Sum.inl (Value.int x)), a4, a5], st, s, k) = zev zk_X9_mirror (16, [a0, a1, a2, some (Sum.inl (Value.int x)), a4, a5], Sum.inl (Value.int x) :: st, s, k) := zev_go rfl rfl
theorem zr_X9_mirror_16 (a1 a2 a3 a4 a5 : Option zAV) (st : List zAV) (s : zAS) (k : Nat × Nat) (o : Nat × Nat) : zev zk_X9_mirror (16, [some (Sum.inr o), a1, a2, a3, a4, a5], st, s, k) = zev zk_X9_mirror (17, [some (Sum.inr o), a1, a2, a3, a4, a5], Sum.inr o :: st, s, k) := zev_go rfl rfl
theorem zr_X9_mirror_17 (a0 a2 a3 a4 a5 : Option zAV) (st : List zAV) (s : zAS) (k : Nat × Nat) (x : Int32) : zev zk_X9_mirror (17, [a0, some (Sum.inl (Value.int x)), a2, a3, a4, a5], st, s, k) = zev zk_X9_mirror (18, [a0, some (Sum.inl (Value.int x)), a2, a3, a4, a5], Sum.inl (Value.int x) :: st, s, k) := zev_go rfl rfl
theorem zr_X9_mirror_18 (ls : zLs) (st : List zAV) (s : zAS) (k : Nat × Nat) (r v0 : zAV) (h : zcok zEM 9 0 0 (zR_X9_mirror).cells (zR_X9_mirror).slots r st k) : zev zk_X9_mirror (18, ls, v0 :: r :: st, s, k) = zret zk_X9_mirror 21 ls st (k.1 + 0, k.2 + 0) (m_X9_x [r, v0] s) := zf_callV (as := [v0]) 1 rfl rfl h
theorem zr_X9_mirror_21 (ls : zLs) (st : List zAV) (s : zAS) (k : Nat × Nat) (x y : Int32) : zev zk_X9_mirror (21, ls, Sum.inl (Value.int y) :: Sum.inl (Value.int x) :: st, s, k) = zev zk_X9_mirror (22, ls, Sum.inl (Value.int (x * y)) :: st, s, k) := zev_go rfl rfl
theorem zr_X9_mirror_22 (a0 a1 a2 a3 a5 : Option zAV) (st : List zAV) (s : zAS) (k : Nat × Nat) (x : Int32) : zev zk_X9_mirror (22, [a0, a1, a2, a3, some (Sum.inl (Value.int x)), a5], st, s, k) = zev zk_X9_mirror (24, [a0, a1, a2, a3, some (Sum.inl (Value.int x)), a5], Sum.inl (Value.int x) :: st, s, k) := zev_go rfl rfl
theorem zr_X9_mirror_24 (a1 a2 a3 a4 a5 : Option zAV) (st : List zAV) (s : zAS) (k : Nat × Nat) (o : Nat × Nat) : zev zk_X9_mirror (24, [some (Sum.inr o), a1, a2, a3, a4, a5], st, s, k) = zev zk_X9_mirror (25, [some (Sum.inr o), a1, a2, a3, a4, a5], Sum.inr o :: st, s, k) := zev_go rfl rfl
theorem zr_X9_mirror_25 (a0 a2 a3 a4 a5 : Option zAV) (st : List zAV) (s : zAS) (k : Nat × Nat) (x : Int32) : zev zk_X9_mirror (25, [a0, some (Sum.inl (Value.int x)), a2, a3, a4, a5], st, s, k) = zev zk_X9_mirror (26, [a0, some (Sum.inl (Value.int x)), a2, a3, a4, a5], Sum.inl (Value.int x) :: st, s, k) := zev_go rfl rfl
theorem zr_X9_mirror_26 (ls : zLs) (st : List zAV) (s : zAS) (k : Nat × Nat) (r v0 : zAV) (h : zcok zEM 9 0 0 (zR_X9_mirror).cells (zR_X9_mirror).slots r st k) : zev zk_X9_mirror (26, ls, v0 :: r :: st, s, k) = zret zk_X9_mirror 29 ls st (k.1 + 0, k.2 + 0) (m_X9_y [r, v0] s) := zf_callV (as := [v0]) 1 rfl rfl h
theorem zr_X9_mirror_29 (ls : zLs) (st : List zAV) (s : zAS) (k : Nat × Nat) (x y : Int32) : zev zk_X9_mirror (29, ls, Sum.inl (Value.int y) :: Sum.inl (Value.int x) :: st, s, k) = zev zk_X9_mirror (30, ls, Sum.inl (Value.int (x * y)) :: st, s, k) := zev_go rfl rfl
theorem zr_X9_mirror_30 (ls : zLs) (st : List zAV) (s : zAS) (k : Nat × Nat) (x y : Int32) : zev zk_X9_mirror (30, ls, Sum.inl (Value.int y) :: Sum.inl (Value.int x) :: st, s, k) = zev zk_X9_mirror (31, ls, Sum.inl (Value.int (x + y)) :: st, s, k) := zev_go rfl rfl
theorem zr_X9_mirror_31 (a1 a2 a3 a4 a5 : Option zAV) (st : List zAV) (s : zAS) (k : Nat × Nat) (o : Nat × Nat) : zev zk_X9_mirror (31, [some (Sum.inr o), a1, a2, a3, a4, a5], st, s, k) = zev zk_X9_mirror (32, [some (Sum.inr o), a1, a2, a3, a4, a5], Sum.inr o :: st, s, k) := zev_go rfl rfl
theorem zr_X9_mirror_32 (a0 a1 a3 a4 a5 : Option zAV) (st : List zAV) (s : zAS) (k : Nat × Nat) (x : Int32) : zev zk_X9_mirror (32, [a0, a1, some (Sum.inl (Value.int x)), a3, a4, a5], st, s, k) = zev zk_X9_mirror (33, [a0, a1, some (Sum.inl (Value.int x)), a3, a4, a5], Sum.inl (Value.int x) :: st, s, k) := zev_go rfl rfl
theorem zr_X9_mirror_33 (ls : zLs) (st : List zAV) (s : zAS) (k : Nat × Nat) (r v0 : zAV) (h : zcok zEM 9 0 0 (zR_X9_mirror).cells (zR_X9_mirror).slots r st k) : zev zk_X9_mirror (33, ls, v0 :: r :: st, s, k) = zret zk_X9_mirror 36 ls st (k.1 + 0, k.2 + 0) (m_X9_z [r, v0] s) := zf_callV (as := [v0]) 1 rfl rfl h
theorem zr_X9_mirror_36 (ls : zLs) (st : List zAV) (s : zAS) (k : Nat × Nat) (x y : Int32) : zev zk_X9_mirror (36, ls, Sum.inl (Value.int y) :: Sum.inl (Value.int x) :: st, s, k) = zev zk_X9_mirror (37, ls, Sum.inl (Value.int (x + y)) :: st, s, k) := zev_go rfl rfl
theorem zr_X9_mirror_37 (ls : zLs) (st : List zAV) (s : zAS) (k : Nat × Nat) (r v0 : zAV) (h : zcok zEM 9 0 0 (zR_X9_mirror).cells (zR_X9_mirror).slots r st k) : zev zk_X9_mirror (37, ls, v0 :: r :: st, s, k) = zret zk_X9_mirror 40 ls st (k.1 + 0, k.2 + 0) (m_X9_mod [r, v0] s) := zf_callV (as := [v0]) 1 rfl rfl h
theorem zr_X9_mirror_40 (ls : zLs) (st : List zAV) (s : zAS) (k : Nat × Nat) (x y : Int32) : zev zk_X9_mirror (40, ls, Sum.inl (Value.int y) :: Sum.inl (Value.int x) :: st, s, k) = zev zk_X9_mirror (41, ls, Sum.inl (Value.int (x * y)) :: st, s, k) := zev_go rfl rfl
theorem zr_X9_mirror_41 (a1 a2 a3 a4 a5 : Option zAV) (st : List zAV) (s : zAS) (k : Nat × Nat) (o : Nat × Nat) : zev zk_X9_mirror (41, [some (Sum.inr o), a1, a2, a3, a4, a5], st, s, k) = zev zk_X9_mirror (42, [some (Sum.inr o), a1, a2, a3, a4, a5], Sum.inr o :: st, s, k) := zev_go rfl rfl
theorem zr_X9_mirror_42 (a1 a2 a3 a4 a5 : Option zAV) (st : List zAV) (s : zAS) (k : Nat × Nat) (o : Nat × Nat) : zev zk_X9_mirror (42, [some (Sum.inr o), a1, a2, a3, a4, a5], st, s, k) = zev zk_X9_mirror (43, [some (Sum.inr o), a1, a2, a3, a4, a5], Sum.inr o :: st, s, k) := zev_go rfl rfl
theorem zr_X9_mirror_43 (a0 a1 a2 a4 a5 : Option zAV) (st : List zAV) (s : zAS) (k : Nat × Nat) (x : Int32) : zev zk_X9_mirror (43, [a0, a1, a2, some (Sum.inl (Value.int x)), a4, a5], st, s, k) = zev zk_X9_mirror (44, [a0, a1, a2, some (Sum.inl (Value.int x)), a4, a5], Sum.inl (Value.int x) :: st, s, k) := zev_go rfl rfl
theorem zr_X9_mirror_44 (a0 a1 a2 a4 a5 : Option zAV) (st : List zAV) (s : zAS) (k : Nat × Nat) (x : Int32) : zev zk_X9_mirror (44, [a0, a1, a2, some (Sum.inl (Value.int x)), a4, a5], st, s, k) = zev zk_X9_mirror (45, [a0, a1, a2, some (Sum.inl (Value.int x)), a4, a5], Sum.inl (Value.int x) :: st, s, k) := zev_go rfl rfl
theorem zr_X9_mirror_45 (ls : zLs) (st : List zAV) (s : zAS) (k : Nat × Nat) (x y : Int32) : zev zk_X9_mirror (45, ls, Sum.inl (Value.int y) :: Sum.inl (Value.int x) :: st, s, k) = zev zk_X9_mirror (46, ls, Sum.inl (Value.int (x * y)) :: st, s, k) := zev_go rfl rfl
theorem zr_X9_mirror_46 (a0 a1 a2 a3 a5 : Option zAV) (st : List zAV) (s : zAS) (k : Nat × Nat) (x : Int32) : zev zk_X9_mirror (46, [a0, a1, a2, a3, some (Sum.inl (Value.int x)), a5], st, s, k) = zev zk_X9_mirror (48, [a0, a1, a2, a3, some (Sum.inl (Value.int x)), a5], Sum.inl (Value.int x) :: st, s, k) := zev_go rfl rfl
theorem zr_X9_mirror_48 (a0 a1 a2 a3 a5 : Option zAV) (st : List zAV) (s : zAS) (k : Nat × Nat) (x : Int32) : zev zk_X9_mirror (48, [a0, a1, a2, a3, some (Sum.inl (Value.int x)), a5], st, s, k) = zev zk_X9_mirror (50, [a0, a1, a2, a3, some (Sum.inl (Value.int x)), a5], Sum.inl (Value.int x) :: st, s, k) := zev_go rfl rfl
theorem zr_X9_mirror_50 (ls : zLs) (st : List zAV) (s : zAS) (k : Nat × Nat) (x y : Int32) : zev zk_X9_mirror (50, ls, Sum.inl (Value.int y) :: Sum.inl (Value.int x) :: st, s, k) = zev zk_X9_mirror (51, ls, Sum.inl (Value.int (x * y)) :: st, s, k) := zev_go rfl rfl
theorem zr_X9_mirror_51 (ls : zLs) (st : List zAV) (s : zAS) (k : Nat × Nat) (x y : Int32) : zev zk_X9_mirror (51, ls, Sum.inl (Value.int y) :: Sum.inl (Value.int x) :: st, s, k) = zev zk_X9_mirror (52, ls, Sum.inl (Value.int (x + y)) :: st, s, k) := zev_go rfl rfl
theorem zr_X9_mirror_52 (ls : zLs) (st : List zAV) (s : zAS) (k : Nat × Nat) (r v0 : zAV) (h : zcok zEM 9 0 0 (zR_X9_mirror).cells (zR_X9_mirror).slots r st k) : zev zk_X9_mirror (52, ls, v0 :: r :: st, s, k) = zret zk_X9_mirror 55 ls st (k.1 + 0, k.2 + 0) (m_X9_mod [r, v0] s) := zf_callV (as := [v0]) 1 rfl rfl h
theorem zr_X9_mirror_55 (ls : zLs) (st : List zAV) (s : zAS) (k : Nat × Nat) (r v0 : zAV) (h : zcok zEM 9 0 0 (zR_X9_mirror).cells (zR_X9_mirror).slots r st k) : zev zk_X9_mirror (55, ls, v0 :: r :: st, s, k) = zret zk_X9_mirror 58 ls st (k.1 + 0, k.2 + 0) (m_X9_opposite [r, v0] s) := zf_callV (as := [v0]) 1 rfl rfl h
theorem zr_X9_mirror_58 (ls : zLs) (st : List zAV) (s : zAS) (k : Nat × Nat) (x y : Int32) : zev zk_X9_mirror (58, ls, Sum.inl (Value.int y) :: Sum.inl (Value.int x) :: st, s, k) = zev zk_X9_mirror (59, ls, Sum.inl (Value.int (x * y)) :: st, s, k) := zev_go rfl rfl
theorem zr_X9_mirror_59 (a1 a2 a3 a4 a5 : Option zAV) (st : List zAV) (s : zAS) (k : Nat × Nat) (o : Nat × Nat) : zev zk_X9_mirror (59, [some (Sum.inr o), a1, a2, a3, a4, a5], st, s, k) = zev zk_X9_mirror (60, [some (Sum.inr o), a1, a2, a3, a4, a5], Sum.inr o :: st, s, k) := zev_go rfl rfl
theorem zr_X9_mirror_60 (ls : zLs) (st : List zAV) (s : zAS) (k : Nat × Nat) (o i : Nat) : zev zk_X9_mirror (60, ls, Sum.inr (o, i) :: st, s, k) = zpush zk_X9_mirror 63 ls st s k (zgv zEM 9 1 o i s.1) := zf_get rfl
theorem zr_X9_mirror_63 (ls : zLs) (st : List zAV) (s : zAS) (k : Nat × Nat) (x y : Int32) : zev zk_X9_mirror (63, ls, Sum.inl (Value.int y) :: Sum.inl (Value.int x) :: st, s, k) = if y = 0 then none else zev zk_X9_mirror (64, ls, Sum.inl (Value.int (x - x / y * y)) :: st, s, k) := zf_rem rfl
theorem zr_X9_mirror_64 (a0 a1 a2 a3 a4 a5 : Option zAV) (st : List zAV) (s : zAS) (k : Nat × Nat) (x : Int32) : zev zk_X9_mirror (64, [a0, a1, a2, a3, a4, a5], Sum.inl (Value.int x) :: st, s, k) = zev zk_X9_mirror (66, [a0, a1, a2, a3, zk1 a4, some (Sum.inl (Value.int x))], st, s, k) := zev_go rfl rfl
theorem zr_X9_mirror_66 (a1 a2 a3 a4 a5 : Option zAV) (st : List zAV) (s : zAS) (k : Nat × Nat) (o : Nat × Nat) : zev zk_X9_mirror (66, [some (Sum.inr o), a1, a2, a3, a4, a5], st, s, k) = zev zk_X9_mirror (67, [some (Sum.inr o), a1, a2, a3, a4, a5], Sum.inr o :: st, s, k) := zev_go rfl rfl
theorem zr_X9_mirror_67 (a1 a2 a3 a4 a5 : Option zAV) (st : List zAV) (s : zAS) (k : Nat × Nat) (o : Nat × Nat) : zev zk_X9_mirror (67, [some (Sum.inr o), a1, a2, a3, a4, a5], st, s, k) = zev zk_X9_mirror (68, [some (Sum.inr o), a1, a2, a3, a4, a5], Sum.inr o :: st, s, k) := zev_go rfl rfl
theorem zr_X9_mirror_68 (a0 a2 a3 a4 a5 : Option zAV) (st : List zAV) (s : zAS) (k : Nat × Nat) (x : Int32) : zev zk_X9_mirror (68, [a0, some (Sum.inl (Value.int x)), a2, a3, a4, a5], st, s, k) = zev zk_X9_mirror (69, [a0, some (Sum.inl (Value.int x)), a2, a3, a4, a5], Sum.inl (Value.int x) :: st, s, k) := zev_go rfl rfl
theorem zr_X9_mirror_69 (ls : zLs) (st : List zAV) (s : zAS) (k : Nat × Nat) (r v0 : zAV) (h : zcok zEM 9 0 0 (zR_X9_mirror).cells (zR_X9_mirror).slots r st k) : zev zk_X9_mirror (69, ls, v0 :: r :: st, s, k) = zret zk_X9_mirror 72 ls st (k.1 + 0, k.2 + 0) (m_X9_x [r, v0] s) := zf_callV (as := [v0]) 1 rfl rfl h
theorem zr_X9_mirror_72 (a0 a1 a2 a3 a4 : Option zAV) (st : List zAV) (s : zAS) (k : Nat × Nat) (x : Int32) : zev zk_X9_mirror (72, [a0, a1, a2, a3, a4, some (Sum.inl (Value.int x))], st, s, k) = zev zk_X9_mirror (74, [a0, a1, a2, a3, a4, some (Sum.inl (Value.int x))], Sum.inl (Value.int x) :: st, s, k) := zev_go rfl rfl
theorem zr_X9_mirror_74 (a0 a1 a2 a4 a5 : Option zAV) (st : List zAV) (s : zAS) (k : Nat × Nat) (x : Int32) : zev zk_X9_mirror (74, [a0, a1, a2, some (Sum.inl (Value.int x)), a4, a5], st, s, k) = zev zk_X9_mirror (75, [a0, a1, a2, some (Sum.inl (Value.int x)), a4, a5], Sum.inl (Value.int x) :: st, s, k) := zev_go rfl rfl
theorem zr_X9_mirror_75 (ls : zLs) (st : List zAV) (s : zAS) (k : Nat × Nat) (x y : Int32) : zev zk_X9_mirror (75, ls, Sum.inl (Value.int y) :: Sum.inl (Value.int x) :: st, s, k) = zev zk_X9_mirror (76, ls, Sum.inl (Value.int (x * y)) :: st, s, k) := zev_go rfl rfl
theorem zr_X9_mirror_76 (ls : zLs) (st : List zAV) (s : zAS) (k : Nat × Nat) (x y : Int32) : zev zk_X9_mirror (76, ls, Sum.inl (Value.int y) :: Sum.inl (Value.int x) :: st, s, k) = zev zk_X9_mirror (77, ls, Sum.inl (Value.int (x - y)) :: st, s, k) := zev_go rfl rfl
theorem zr_X9_mirror_77 (a1 a2 a3 a4 a5 : Option zAV) (st : List zAV) (s : zAS) (k : Nat × Nat) (o : Nat × Nat) : zev zk_X9_mirror (77, [some (Sum.inr o), a1, a2, a3, a4, a5], st, s, k) = zev zk_X9_mirror (78, [some (Sum.inr o), a1, a2, a3, a4, a5], Sum.inr o :: st, s, k) := zev_go rfl rfl
theorem zr_X9_mirror_78 (a0 a2 a3 a4 a5 : Option zAV) (st : List zAV) (s : zAS) (k : Nat × Nat) (x : Int32) : zev zk_X9_mirror (78, [a0, some (Sum.inl (Value.int x)), a2, a3, a4, a5], st, s, k) = zev zk_X9_mirror (79, [a0, some (Sum.inl (Value.int x)), a2, a3, a4, a5], Sum.inl (Value.int x) :: st, s, k) := zev_go rfl rfl
theorem zr_X9_mirror_79 (ls : zLs) (st : List zAV) (s : zAS) (k : Nat × Nat) (r v0 : zAV) (h : zcok zEM 9 0 0 (zR_X9_mirror).cells (zR_X9_mirror).slots r st k) : zev zk_X9_mirror (79, ls, v0 :: r :: st, s, k) = zret zk_X9_mirror 82 ls st (k.1 + 0, k.2 + 0) (m_X9_y [r, v0] s) := zf_callV (as := [v0]) 1 rfl rfl h
theorem zr_X9_mirror_82 (a0 a1 a2 a3 a4 : Option zAV) (st : List zAV) (s : zAS) (k : Nat × Nat) (x : Int32) : zev zk_X9_mirror (82, [a0, a1, a2, a3, a4, some (Sum.inl (Value.int x))], st, s, k) = zev zk_X9_mirror (84, [a0, a1, a2, a3, a4, some (Sum.inl (Value.int x))], Sum.inl (Value.int x) :: st, s, k) := zev_go rfl rfl
theorem zr_X9_mirror_84 (a0 a1 a2 a3 a5 : Option zAV) (st : List zAV) (s : zAS) (k : Nat × Nat) (x : Int32) : zev zk_X9_mirror (84, [a0, a1, a2, a3, some (Sum.inl (Value.int x)), a5], st, s, k) = zev zk_X9_mirror (86, [a0, a1, a2, a3, some (Sum.inl (Value.int x)), a5], Sum.inl (Value.int x) :: st, s, k) := zev_go rfl rfl
theorem zr_X9_mirror_86 (ls : zLs) (st : List zAV) (s : zAS) (k : Nat × Nat) (x y : Int32) : zev zk_X9_mirror (86, ls, Sum.inl (Value.int y) :: Sum.inl (Value.int x) :: st, s, k) = zev zk_X9_mirror (87, ls, Sum.inl (Value.int (x * y)) :: st, s, k) := zev_go rfl rfl
theorem zr_X9_mirror_87 (ls : zLs) (st : List zAV) (s : zAS) (k : Nat × Nat) (x y : Int32) : zev zk_X9_mirror (87, ls, Sum.inl (Value.int y) :: Sum.inl (Value.int x) :: st, s, k) = zev zk_X9_mirror (88, ls, Sum.inl (Value.int (x - y)) :: st, s, k) := zev_go rfl rfl
theorem zr_X9_mirror_88 (ls : zLs) (st : List zAV) (s : zAS) (k : Nat × Nat) : zev zk_X9_mirror (88, ls, st, s, k) = zev zk_X9_mirror (89, ls, Sum.inl (Value.int (0)) :: st, s, k) := zev_go rfl rfl
theorem zr_X9_mirror_89 (ls : zLs) (st : List zAV) (s : zAS) (k : Nat × Nat) (r v0 v1 v2 : zAV) (h : zcok zEM 9 0 0 (zR_X9_mirror).cells (zR_X9_mirror).slots r st k) : zev zk_X9_mirror (89, ls, v2 :: v1 :: v0 :: r :: st, s, k) = zret zk_X9_mirror 92 ls st (k.1 + 0, k.2 + 0) (m_X9_lay [r, v0, v1, v2] s) := zf_callV (as := [v2, v1, v0]) 3 rfl rfl h
theorem zr_X9_mirror_92 (ls : zLs) (s : zAS) (k : Nat × Nat) (x : Int32) (hx : x = 0 ∨ x = 1) : zev zk_X9_mirror (92, ls, [Sum.inl (Value.int x)], s, k) = some (.inl (some (Sum.inl (Value.int x))), s) := zf_retz rfl hx
/-! X9_areInLine: PrimePlaneModel.areInLine(III)Z -/
abbrev zR_X9_areInLine : Room := ({ frames := 2, cells := 0, slots := 0, locals := 43 } : Room)
noncomputable def zl_X9_areInLine : List (Nat × zOp) := [(0, z_lda 0 1), (1, z_lda 0 2), (2, z_ldi 2 3), (3, z_callV zEM 9 m_X9_x 1 0 0 (zR_X9_areInLine).cells (zR_X9_areInLine).slots 6), (6, z_lda 0 7), (7, z_ldi 1 8), (8, z_callV zEM 9 m_X9_x 1 0 0 (zR_X9_areInLine).cells (zR_X9_areInLine).slots 11), (11, z_bin (fun x y => x - y) 12), (12, z_lda 0 13), (13, z_ldi 3 14), (14, z_callV zEM 9 m_X9_y 1 0 0 (zR_X9_areInLine).cells (zR_X9_areInLine).slots 17), (17, z_lda 0 18), (18, z_ldi 1 19), (19, z_callV zEM 9 m_X9_y 1 0 0 (zR_X9_areInLine).cells (zR_X9_areInLine).slots 22), (22, z_bin (fun x y => x - y) 23), (23, z_bin (fun x y => x * y) 24), (24, z_lda 0 25), (25, z_ldi 3 26), (26, z_callV zEM 9 m_X9_x 1 0 0 (zR_X9_areInLine).cells (zR_X9_areInLine).slots 29), (29, z_lda 0 30), (30, z_ldi 1 31), (31, z_callV zEM 9 m_X9_x 1 0 0 (zR_X9_areInLine).cells (zR_X9_areInLine).slots 34), (34, z_bin (fun x y => x - y) 35), (35, z_lda 0 36), (36, z_ldi 2 37), (37, z_callV zEM 9 m_X9_y 1 0 0 (zR_X9_areInLine).cells (zR_X9_areInLine).slots 40), (40, z_lda 0 41), (41, z_ldi 1 42), (42, z_callV zEM 9 m_X9_y 1 0 0 (zR_X9_areInLine).cells (zR_X9_areInLine).slots 45), (45, z_bin (fun x y => x - y) 46), (46, z_bin (fun x y => x * y) 47), (47, z_bin (fun x y => x - y) 48), (48, z_callV zEM 9 m_X9_mod 1 0 0 (zR_X9_areInLine).cells (zR_X9_areInLine).slots 51), (51, z_if (fun x => decide (¬ x = 0)) 58 54), (54, z_ic (1) 55), (55, z_goto 59), (58, z_ic (0) 59), (59, z_reti true)]
noncomputable def zk_X9_areInLine (pc : Nat) : Option zOp := zlook zl_X9_areInLine pc
noncomputable def m_X9_areInLine : List zAV → zAS → Option zOut := zmeth zk_X9_areInLine 4
set_option maxRecDepth 100000 in
set_option maxHeartbeats 4000000 in
theorem zcs_X9_areInLine {R : Room} (hR : R = zR_X9_areInLine) : ∀ q ∈ zl_X9_areInLine, zS zEM yX9_areInLine.cls cX9_areInLine 4 wsX9_areInLine (some .boolean) R q.1 q.2 := by
  subst hR
  refine List.forall_mem_cons.mpr ⟨zs_aload_n dX9_areInLine_0 rfl, ?_⟩
  refine List.forall_mem_cons.mpr ⟨zs_aload_n dX9_areInLine_1 rfl, ?_⟩
  refine List.forall_mem_cons.mpr ⟨zs_iload_n dX9_areInLine_2 rfl, ?_⟩
  refine List.forall_mem_cons.mpr ⟨zs_callV (ci := 9) (rm := zR_X9_x) (n := 1) rfl zM_X9_x gX9_areInLine_X9_x rfl (by decide +kernel) ⟨by decide, by decide⟩ dX9_areInLine_3, ?_⟩
  refine List.forall_mem_cons.mpr ⟨zs_aload_n dX9_areInLine_6 rfl, ?_⟩
  refine List.forall_mem_cons.mpr ⟨zs_iload_n dX9_areInLine_7 rfl, ?_⟩
  refine List.forall_mem_cons.mpr ⟨zs_callV (ci := 9) (rm := zR_X9_x) (n := 1) rfl zM_X9_x gX9_areInLine_X9_x rfl (by decide +kernel) ⟨by decide, by decide⟩ dX9_areInLine_8, ?_⟩
  refine List.forall_mem_cons.mpr ⟨zs_isub dX9_areInLine_11, ?_⟩
  refine List.forall_mem_cons.mpr ⟨zs_aload_n dX9_areInLine_12 rfl, ?_⟩
  refine List.forall_mem_cons.mpr ⟨zs_iload_n dX9_areInLine_13 rfl, ?_⟩
  refine List.forall_mem_cons.mpr ⟨zs_callV (ci := 9) (rm := zR_X9_y) (n := 1) rfl zM_X9_y gX9_areInLine_X9_y rfl (by decide +kernel) ⟨by decide, by decide⟩ dX9_areInLine_14, ?_⟩
  refine List.forall_mem_cons.mpr ⟨zs_aload_n dX9_areInLine_17 rfl, ?_⟩
  refine List.forall_mem_cons.mpr ⟨zs_iload_n dX9_areInLine_18 rfl, ?_⟩
  refine List.forall_mem_cons.mpr ⟨zs_callV (ci := 9) (rm := zR_X9_y) (n := 1) rfl zM_X9_y gX9_areInLine_X9_y rfl (by decide +kernel) ⟨by decide, by decide⟩ dX9_areInLine_19, ?_⟩
  refine List.forall_mem_cons.mpr ⟨zs_isub dX9_areInLine_22, ?_⟩
  refine List.forall_mem_cons.mpr ⟨zs_imul dX9_areInLine_23, ?_⟩
  refine List.forall_mem_cons.mpr ⟨zs_aload_n dX9_areInLine_24 rfl, ?_⟩
  refine List.forall_mem_cons.mpr ⟨zs_iload_n dX9_areInLine_25 rfl, ?_⟩
  refine List.forall_mem_cons.mpr ⟨zs_callV (ci := 9) (rm := zR_X9_x) (n := 1) rfl zM_X9_x gX9_areInLine_X9_x rfl (by decide +kernel) ⟨by decide, by decide⟩ dX9_areInLine_26, ?_⟩
  refine List.forall_mem_cons.mpr ⟨zs_aload_n dX9_areInLine_29 rfl, ?_⟩
  refine List.forall_mem_cons.mpr ⟨zs_iload_n dX9_areInLine_30 rfl, ?_⟩
  refine List.forall_mem_cons.mpr ⟨zs_callV (ci := 9) (rm := zR_X9_x) (n := 1) rfl zM_X9_x gX9_areInLine_X9_x rfl (by decide +kernel) ⟨by decide, by decide⟩ dX9_areInLine_31, ?_⟩
  refine List.forall_mem_cons.mpr ⟨zs_isub dX9_areInLine_34, ?_⟩
  refine List.forall_mem_cons.mpr ⟨zs_aload_n dX9_areInLine_35 rfl, ?_⟩
  refine List.forall_mem_cons.mpr ⟨zs_iload_n dX9_areInLine_36 rfl, ?_⟩
  refine List.forall_mem_cons.mpr ⟨zs_callV (ci := 9) (rm := zR_X9_y) (n := 1) rfl zM_X9_y gX9_areInLine_X9_y rfl (by decide +kernel) ⟨by decide, by decide⟩ dX9_areInLine_37, ?_⟩
  refine List.forall_mem_cons.mpr ⟨zs_aload_n dX9_areInLine_40 rfl, ?_⟩
  refine List.forall_mem_cons.mpr ⟨zs_iload_n dX9_areInLine_41 rfl, ?_⟩
  refine List.forall_mem_cons.mpr ⟨zs_callV (ci := 9) (rm := zR_X9_y) (n := 1) rfl zM_X9_y gX9_areInLine_X9_y rfl (by decide +kernel) ⟨by decide, by decide⟩ dX9_areInLine_42, ?_⟩
  refine List.forall_mem_cons.mpr ⟨zs_isub dX9_areInLine_45, ?_⟩
  refine List.forall_mem_cons.mpr ⟨zs_imul dX9_areInLine_46, ?_⟩
  refine List.forall_mem_cons.mpr ⟨zs_isub dX9_areInLine_47, ?_⟩
  refine List.forall_mem_cons.mpr ⟨zs_callV (ci := 9) (rm := zR_X9_mod) (n := 1) rfl zM_X9_mod gX9_areInLine_X9_mod rfl (by decide +kernel) ⟨by decide, by decide⟩ dX9_areInLine_48, ?_⟩
  refine List.forall_mem_cons.mpr ⟨zs_ifne dX9_areInLine_51 (by decide), ?_⟩
  refine List.forall_mem_cons.mpr ⟨zs_iconst dX9_areInLine_54 (by decide), ?_⟩
  refine List.forall_mem_cons.mpr ⟨zs_goto dX9_areInLine_55 (by decide), ?_⟩
  refine List.forall_mem_cons.mpr ⟨zs_iconst dX9_areInLine_58 (by decide), ?_⟩
  refine List.forall_mem_cons.mpr ⟨zs_reti (ty := .boolean) rfl (fun x h => (znz x h).1) dX9_areInLine_59, ?_⟩
  exact fun _ h => absurd h List.not_mem_nil
theorem zM_X9_areInLine : zMeets zEM yX9_areInLine wsX9_areInLine zR_X9_areInLine m_X9_areInLine := zmeth_M zEMok (zlook_all (zcs_X9_areInLine rfl)) (by decide +kernel) rfl
theorem zr_X9_areInLine_0 (a1 a2 a3 : Option zAV) (st : List zAV) (s : zAS) (k : Nat × Nat) (o : Nat × Nat) : zev zk_X9_areInLine (0, [some (Sum.inr o), a1, a2, a3], st, s, k) = zev zk_X9_areInLine (1, [some (Sum.inr o), a1, a2, a3], Sum.inr o :: st, s, k) := zev_go rfl rfl
theorem zr_X9_areInLine_1 (a1 a2 a3 : Option zAV) (st : List zAV) (s : zAS) (k : Nat × Nat) (o : Nat × Nat) : zev zk_X9_areInLine (1, [some (Sum.inr o), a1, a2, a3], st, s, k) = zev zk_X9_areInLine (2, [some (Sum.inr o), a1, a2, a3], Sum.inr o :: st, s, k) := zev_go rfl rfl
theorem zr_X9_areInLine_2 (a0 a1 a3 : Option zAV) (st : List zAV) (s : zAS) (k : Nat × Nat) (x : Int32) : zev zk_X9_areInLine (2, [a0, a1, some (Sum.inl (Value.int x)), a3], st, s, k) = zev zk_X9_areInLine (3, [a0, a1, some (Sum.inl (Value.int x)), a3], Sum.inl (Value.int x) :: st, s, k) := zev_go rfl rfl
theorem zr_X9_areInLine_3 (ls : zLs) (st : List zAV) (s : zAS) (k : Nat × Nat) (r v0 : zAV) (h : zcok zEM 9 0 0 (zR_X9_areInLine).cells (zR_X9_areInLine).slots r st k) : zev zk_X9_areInLine (3, ls, v0 :: r :: st, s, k) = zret zk_X9_areInLine 6 ls st (k.1 + 0, k.2 + 0) (m_X9_x [r, v0] s) := zf_callV (as := [v0]) 1 rfl rfl h
theorem zr_X9_areInLine_6 (a1 a2 a3 : Option zAV) (st : List zAV) (s : zAS) (k : Nat × Nat) (o : Nat × Nat) : zev zk_X9_areInLine (6, [some (Sum.inr o), a1, a2, a3], st, s, k) = zev zk_X9_areInLine (7, [some (Sum.inr o), a1, a2, a3], Sum.inr o :: st, s, k) := zev_go rfl rfl
theorem zr_X9_areInLine_7 (a0 a2 a3 : Option zAV) (st : List zAV) (s : zAS) (k : Nat × Nat) (x : Int32) : zev zk_X9_areInLine (7, [a0, some (Sum.inl (Value.int x)), a2, a3], st, s, k) = zev zk_X9_areInLine (8, [a0, some (Sum.inl (Value.int x)), a2, a3], Sum.inl (Value.int x) :: st, s, k) := zev_go rfl rfl
theorem zr_X9_areInLine_8 (ls : zLs) (st : List zAV) (s : zAS) (k : Nat × Nat) (r v0 : zAV) (h : zcok zEM 9 0 0 (zR_X9_areInLine).cells (zR_X9_areInLine).slots r st k) : zev zk_X9_areInLine (8, ls, v0 :: r :: st, s, k) = zret zk_X9_areInLine 11 ls st (k.1 + 0, k.2 + 0) (m_X9_x [r, v0] s) := zf_callV (as := [v0]) 1 rfl rfl h
theorem zr_X9_areInLine_11 (ls : zLs) (st : List zAV) (s : zAS) (k : Nat × Nat) (x y : Int32) : zev zk_X9_areInLine (11, ls, Sum.inl (Value.int y) :: Sum.inl (Value.int x) :: st, s, k) = zev zk_X9_areInLine (12, ls, Sum.inl (Value.int (x - y)) :: st, s, k) := zev_go rfl rfl
theorem zr_X9_areInLine_12 (a1 a2 a3 : Option zAV) (st : List zAV) (s : zAS) (k : Nat × Nat) (o : Nat × Nat) : zev zk_X9_areInLine (12, [some (Sum.inr o), a1, a2, a3], st, s, k) = zev zk_X9_areInLine (13, [some (Sum.inr o), a1, a2, a3], Sum.inr o :: st, s, k) := zev_go rfl rfl
theorem zr_X9_areInLine_13 (a0 a1 a2 : Option zAV) (st : List zAV) (s : zAS) (k : Nat × Nat) (x : Int32) : zev zk_X9_areInLine (13, [a0, a1, a2, some (Sum.inl (Value.int x))], st, s, k) = zev zk_X9_areInLine (14, [a0, a1, a2, some (Sum.inl (Value.int x))], Sum.inl (Value.int x) :: st, s, k) := zev_go rfl rfl
theorem zr_X9_areInLine_14 (ls : zLs) (st : List zAV) (s : zAS) (k : Nat × Nat) (r v0 : zAV) (h : zcok zEM 9 0 0 (zR_X9_areInLine).cells (zR_X9_areInLine).slots r st k) : zev zk_X9_areInLine (14, ls, v0 :: r :: st, s, k) = zret zk_X9_areInLine 17 ls st (k.1 + 0, k.2 + 0) (m_X9_y [r, v0] s) := zf_callV (as := [v0]) 1 rfl rfl h
theorem zr_X9_areInLine_17 (a1 a2 a3 : Option zAV) (st : List zAV) (s : zAS) (k : Nat × Nat) (o : Nat × Nat) : zev zk_X9_areInLine (17, [some (Sum.inr o), a1, a2, a3], st, s, k) = zev zk_X9_areInLine (18, [some (Sum.inr o), a1, a2, a3], Sum.inr o :: st, s, k) := zev_go rfl rfl
theorem zr_X9_areInLine_18 (a0 a2 a3 : Option zAV) (st : List zAV) (s : zAS) (k : Nat × Nat) (x : Int32) : zev zk_X9_areInLine (18, [a0, some (Sum.inl (Value.int x)), a2, a3], st, s, k) = zev zk_X9_areInLine (19, [a0, some (Sum.inl (Value.int x)), a2, a3], Sum.inl (Value.int x) :: st, s, k) := zev_go rfl rfl
theorem zr_X9_areInLine_19 (ls : zLs) (st : List zAV) (s : zAS) (k : Nat × Nat) (r v0 : zAV) (h : zcok zEM 9 0 0 (zR_X9_areInLine).cells (zR_X9_areInLine).slots r st k) : zev zk_X9_areInLine (19, ls, v0 :: r :: st, s, k) = zret zk_X9_areInLine 22 ls st (k.1 + 0, k.2 + 0) (m_X9_y [r, v0] s) := zf_callV (as := [v0]) 1 rfl rfl h
theorem zr_X9_areInLine_22 (ls : zLs) (st : List zAV) (s : zAS) (k : Nat × Nat) (x y : Int32) : zev zk_X9_areInLine (22, ls, Sum.inl (Value.int y) :: Sum.inl (Value.int x) :: st, s, k) = zev zk_X9_areInLine (23, ls, Sum.inl (Value.int (x - y)) :: st, s, k) := zev_go rfl rfl
theorem zr_X9_areInLine_23 (ls : zLs) (st : List zAV) (s : zAS) (k : Nat × Nat) (x y : Int32) : zev zk_X9_areInLine (23, ls, Sum.inl (Value.int y) :: Sum.inl (Value.int x) :: st, s, k) = zev zk_X9_areInLine (24, ls, Sum.inl (Value.int (x * y)) :: st, s, k) := zev_go rfl rfl
theorem zr_X9_areInLine_24 (a1 a2 a3 : Option zAV) (st : List zAV) (s : zAS) (k : Nat × Nat) (o : Nat × Nat) : zev zk_X9_areInLine (24, [some (Sum.inr o), a1, a2, a3], st, s, k) = zev zk_X9_areInLine (25, [some (Sum.inr o), a1, a2, a3], Sum.inr o :: st, s, k) := zev_go rfl rfl
theorem zr_X9_areInLine_25 (a0 a1 a2 : Option zAV) (st : List zAV) (s : zAS) (k : Nat × Nat) (x : Int32) : zev zk_X9_areInLine (25, [a0, a1, a2, some (Sum.inl (Value.int x))], st, s, k) = zev zk_X9_areInLine (26, [a0, a1, a2, some (Sum.inl (Value.int x))], Sum.inl (Value.int x) :: st, s, k) := zev_go rfl rfl
theorem zr_X9_areInLine_26 (ls : zLs) (st : List zAV) (s : zAS) (k : Nat × Nat) (r v0 : zAV) (h : zcok zEM 9 0 0 (zR_X9_areInLine).cells (zR_X9_areInLine).slots r st k) : zev zk_X9_areInLine (26, ls, v0 :: r :: st, s, k) = zret zk_X9_areInLine 29 ls st (k.1 + 0, k.2 + 0) (m_X9_x [r, v0] s) := zf_callV (as := [v0]) 1 rfl rfl h
theorem zr_X9_areInLine_29 (a1 a2 a3 : Option zAV) (st : List zAV) (s : zAS) (k : Nat × Nat) (o : Nat × Nat) : zev zk_X9_areInLine (29, [some (Sum.inr o), a1, a2, a3], st, s, k) = zev zk_X9_areInLine (30, [some (Sum.inr o), a1, a2, a3], Sum.inr o :: st, s, k) := zev_go rfl rfl
theorem zr_X9_areInLine_30 (a0 a2 a3 : Option zAV) (st : List zAV) (s : zAS) (k : Nat × Nat) (x : Int32) : zev zk_X9_areInLine (30, [a0, some (Sum.inl (Value.int x)), a2, a3], st, s, k) = zev zk_X9_areInLine (31, [a0, some (Sum.inl (Value.int x)), a2, a3], Sum.inl (Value.int x) :: st, s, k) := zev_go rfl rfl
theorem zr_X9_areInLine_31 (ls : zLs) (st : List zAV) (s : zAS) (k : Nat × Nat) (r v0 : zAV) (h : zcok zEM 9 0 0 (zR_X9_areInLine).cells (zR_X9_areInLine).slots r st k) : zev zk_X9_areInLine (31, ls, v0 :: r :: st, s, k) = zret zk_X9_areInLine 34 ls st (k.1 + 0, k.2 + 0) (m_X9_x [r, v0] s) := zf_callV (as := [v0]) 1 rfl rfl h
theorem zr_X9_areInLine_34 (ls : zLs) (st : List zAV) (s : zAS) (k : Nat × Nat) (x y : Int32) : zev zk_X9_areInLine (34, ls, Sum.inl (Value.int y) :: Sum.inl (Value.int x) :: st, s, k) = zev zk_X9_areInLine (35, ls, Sum.inl (Value.int (x - y)) :: st, s, k) := zev_go rfl rfl
theorem zr_X9_areInLine_35 (a1 a2 a3 : Option zAV) (st : List zAV) (s : zAS) (k : Nat × Nat) (o : Nat × Nat) : zev zk_X9_areInLine (35, [some (Sum.inr o), a1, a2, a3], st, s, k) = zev zk_X9_areInLine (36, [some (Sum.inr o), a1, a2, a3], Sum.inr o :: st, s, k) := zev_go rfl rfl
theorem zr_X9_areInLine_36 (a0 a1 a3 : Option zAV) (st : List zAV) (s : zAS) (k : Nat × Nat) (x : Int32) : zev zk_X9_areInLine (36, [a0, a1, some (Sum.inl (Value.int x)), a3], st, s, k) = zev zk_X9_areInLine (37, [a0, a1, some (Sum.inl (Value.int x)), a3], Sum.inl (Value.int x) :: st, s, k) := zev_go rfl rfl
theorem zr_X9_areInLine_37 (ls : zLs) (st : List zAV) (s : zAS) (k : Nat × Nat) (r v0 : zAV) (h : zcok zEM 9 0 0 (zR_X9_areInLine).cells (zR_X9_areInLine).slots r st k) : zev zk_X9_areInLine (37, ls, v0 :: r :: st, s, k) = zret zk_X9_areInLine 40 ls st (k.1 + 0, k.2 + 0) (m_X9_y [r, v0] s) := zf_callV (as := [v0]) 1 rfl rfl h
theorem zr_X9_areInLine_40 (a1 a2 a3 : Option zAV) (st : List zAV) (s : zAS) (k : Nat × Nat) (o : Nat × Nat) : zev zk_X9_areInLine (40, [some (Sum.inr o), a1, a2, a3], st, s, k) = zev zk_X9_areInLine (41, [some (Sum.inr o), a1, a2, a3], Sum.inr o :: st, s, k) := zev_go rfl rfl
theorem zr_X9_areInLine_41 (a0 a2 a3 : Option zAV) (st : List zAV) (s : zAS) (k : Nat × Nat) (x : Int32) : zev zk_X9_areInLine (41, [a0, some (Sum.inl (Value.int x)), a2, a3], st, s, k) = zev zk_X9_areInLine (42, [a0, some (Sum.inl (Value.int x)), a2, a3], Sum.inl (Value.int x) :: st, s, k) := zev_go rfl rfl
theorem zr_X9_areInLine_42 (ls : zLs) (st : List zAV) (s : zAS) (k : Nat × Nat) (r v0 : zAV) (h : zcok zEM 9 0 0 (zR_X9_areInLine).cells (zR_X9_areInLine).slots r st k) : zev zk_X9_areInLine (42, ls, v0 :: r :: st, s, k) = zret zk_X9_areInLine 45 ls st (k.1 + 0, k.2 + 0) (m_X9_y [r, v0] s) := zf_callV (as := [v0]) 1 rfl rfl h
theorem zr_X9_areInLine_45 (ls : zLs) (st : List zAV) (s : zAS) (k : Nat × Nat) (x y : Int32) : zev zk_X9_areInLine (45, ls, Sum.inl (Value.int y) :: Sum.inl (Value.int x) :: st, s, k) = zev zk_X9_areInLine (46, ls, Sum.inl (Value.int (x - y)) :: st, s, k) := zev_go rfl rfl
theorem zr_X9_areInLine_46 (ls : zLs) (st : List zAV) (s : zAS) (k : Nat × Nat) (x y : Int32) : zev zk_X9_areInLine (46, ls, Sum.inl (Value.int y) :: Sum.inl (Value.int x) :: st, s, k) = zev zk_X9_areInLine (47, ls, Sum.inl (Value.int (x * y)) :: st, s, k) := zev_go rfl rfl
theorem zr_X9_areInLine_47 (ls : zLs) (st : List zAV) (s : zAS) (k : Nat × Nat) (x y : Int32) : zev zk_X9_areInLine (47, ls, Sum.inl (Value.int y) :: Sum.inl (Value.int x) :: st, s, k) = zev zk_X9_areInLine (48, ls, Sum.inl (Value.int (x - y)) :: st, s, k) := zev_go rfl rfl
theorem zr_X9_areInLine_48 (ls : zLs) (st : List zAV) (s : zAS) (k : Nat × Nat) (r v0 : zAV) (h : zcok zEM 9 0 0 (zR_X9_areInLine).cells (zR_X9_areInLine).slots r st k) : zev zk_X9_areInLine (48, ls, v0 :: r :: st, s, k) = zret zk_X9_areInLine 51 ls st (k.1 + 0, k.2 + 0) (m_X9_mod [r, v0] s) := zf_callV (as := [v0]) 1 rfl rfl h
theorem zr_X9_areInLine_51 (ls : zLs) (st : List zAV) (s : zAS) (k : Nat × Nat) (x : Int32) : zev zk_X9_areInLine (51, ls, Sum.inl (Value.int x) :: st, s, k) = if decide (¬ x = 0) = true then zev zk_X9_areInLine (58, ls, st, s, k) else zev zk_X9_areInLine (54, ls, st, s, k) := zf_if (f := fun x => decide (¬ x = 0)) rfl
theorem zr_X9_areInLine_54 (ls : zLs) (st : List zAV) (s : zAS) (k : Nat × Nat) : zev zk_X9_areInLine (54, ls, st, s, k) = zev zk_X9_areInLine (55, ls, Sum.inl (Value.int (1)) :: st, s, k) := zev_go rfl rfl
theorem zr_X9_areInLine_55 (ls : zLs) (st : List zAV) (s : zAS) (k : Nat × Nat) : zev zk_X9_areInLine (55, ls, st, s, k) = zev zk_X9_areInLine (59, ls, st, s, k) := zev_go rfl rfl
theorem zr_X9_areInLine_58 (ls : zLs) (st : List zAV) (s : zAS) (k : Nat × Nat) : zev zk_X9_areInLine (58, ls, st, s, k) = zev zk_X9_areInLine (59, ls, Sum.inl (Value.int (0)) :: st, s, k) := zev_go rfl rfl
theorem zr_X9_areInLine_59 (ls : zLs) (s : zAS) (k : Nat × Nat) (x : Int32) (hx : x = 0 ∨ x = 1) : zev zk_X9_areInLine (59, ls, [Sum.inl (Value.int x)], s, k) = some (.inl (some (Sum.inl (Value.int x))), s) := zf_retz rfl hx
/-! X9_layCircle: PrimePlaneModel.layCircle(III)Z -/
abbrev zR_X9_layCircle : Room := ({ frames := 3, cells := 0, slots := 0, locals := 67 } : Room)
noncomputable def zl_X9_layCircle : List (Nat × zOp) := [(0, z_lda 0 1), (1, z_lda 0 2), (2, z_ldi 2 3), (3, z_callV zEM 9 m_X9_x 1 0 0 (zR_X9_layCircle).cells (zR_X9_layCircle).slots 6), (6, z_lda 0 7), (7, z_ldi 2 8), (8, z_callV zEM 9 m_X9_y 1 0 0 (zR_X9_layCircle).cells (zR_X9_layCircle).slots 11), (11, z_lda 0 12), (12, z_ldi 3 13), (13, z_callV zEM 9 m_X9_x 1 0 0 (zR_X9_layCircle).cells (zR_X9_layCircle).slots 16), (16, z_lda 0 17), (17, z_ldi 3 18), (18, z_callV zEM 9 m_X9_y 1 0 0 (zR_X9_layCircle).cells (zR_X9_layCircle).slots 21), (21, z_callV zEM 9 m_X9_squareOf 4 0 0 (zR_X9_layCircle).cells (zR_X9_layCircle).slots 24), (24, z_sti 4 26), (26, z_ldi 4 28), (28, z_if (fun x => decide (x = 0)) 54 31), (31, z_lda 0 32), (32, z_lda 0 33), (33, z_ldi 1 34), (34, z_callV zEM 9 m_X9_x 1 0 0 (zR_X9_layCircle).cells (zR_X9_layCircle).slots 37), (37, z_lda 0 38), (38, z_ldi 1 39), (39, z_callV zEM 9 m_X9_y 1 0 0 (zR_X9_layCircle).cells (zR_X9_layCircle).slots 42), (42, z_ldi 4 44), (44, z_callV zEM 9 m_X9_lay 3 0 0 (zR_X9_layCircle).cells (zR_X9_layCircle).slots 47), (47, z_if (fun x => decide (x = 0)) 54 50), (50, z_ic (1) 51), (51, z_goto 55), (54, z_ic (0) 55), (55, z_reti true)]
noncomputable def zk_X9_layCircle (pc : Nat) : Option zOp := zlook zl_X9_layCircle pc
noncomputable def m_X9_layCircle : List zAV → zAS → Option zOut := zmeth zk_X9_layCircle 5
set_option maxRecDepth 100000 in
set_option maxHeartbeats 4000000 in
theorem zcs_X9_layCircle {R : Room} (hR : R = zR_X9_layCircle) : ∀ q ∈ zl_X9_layCircle, zS zEM yX9_layCircle.cls cX9_layCircle 5 wsX9_layCircle (some .boolean) R q.1 q.2 := by
  subst hR
  refine List.forall_mem_cons.mpr ⟨zs_aload_n dX9_layCircle_0 rfl, ?_⟩
  refine List.forall_mem_cons.mpr ⟨zs_aload_n dX9_layCircle_1 rfl, ?_⟩
  refine List.forall_mem_cons.mpr ⟨zs_iload_n dX9_layCircle_2 rfl, ?_⟩
  refine List.forall_mem_cons.mpr ⟨zs_callV (ci := 9) (rm := zR_X9_x) (n := 1) rfl zM_X9_x gX9_layCircle_X9_x rfl (by decide +kernel) ⟨by decide, by decide⟩ dX9_layCircle_3, ?_⟩
  refine List.forall_mem_cons.mpr ⟨zs_aload_n dX9_layCircle_6 rfl, ?_⟩
  refine List.forall_mem_cons.mpr ⟨zs_iload_n dX9_layCircle_7 rfl, ?_⟩
  refine List.forall_mem_cons.mpr ⟨zs_callV (ci := 9) (rm := zR_X9_y) (n := 1) rfl zM_X9_y gX9_layCircle_X9_y rfl (by decide +kernel) ⟨by decide, by decide⟩ dX9_layCircle_8, ?_⟩
  refine List.forall_mem_cons.mpr ⟨zs_aload_n dX9_layCircle_11 rfl, ?_⟩
  refine List.forall_mem_cons.mpr ⟨zs_iload_n dX9_layCircle_12 rfl, ?_⟩
  refine List.forall_mem_cons.mpr ⟨zs_callV (ci := 9) (rm := zR_X9_x) (n := 1) rfl zM_X9_x gX9_layCircle_X9_x rfl (by decide +kernel) ⟨by decide, by decide⟩ dX9_layCircle_13, ?_⟩
  refine List.forall_mem_cons.mpr ⟨zs_aload_n dX9_layCircle_16 rfl, ?_⟩
  refine List.forall_mem_cons.mpr ⟨zs_iload_n dX9_layCircle_17 rfl, ?_⟩
  refine List.forall_mem_cons.mpr ⟨zs_callV (ci := 9) (rm := zR_X9_y) (n := 1) rfl zM_X9_y gX9_layCircle_X9_y rfl (by decide +kernel) ⟨by decide, by decide⟩ dX9_layCircle_18, ?_⟩
  refine List.forall_mem_cons.mpr ⟨zs_callV (ci := 9) (rm := zR_X9_squareOf) (n := 4) rfl zM_X9_squareOf gX9_layCircle_X9_squareOf rfl (by decide +kernel) ⟨by decide, by decide⟩ dX9_layCircle_21, ?_⟩
  refine List.forall_mem_cons.mpr ⟨zs_istore dX9_layCircle_24, ?_⟩
  refine List.forall_mem_cons.mpr ⟨zs_iload dX9_layCircle_26, ?_⟩
  refine List.forall_mem_cons.mpr ⟨zs_ifeq dX9_layCircle_28 (by decide), ?_⟩
  refine List.forall_mem_cons.mpr ⟨zs_aload_n dX9_layCircle_31 rfl, ?_⟩
  refine List.forall_mem_cons.mpr ⟨zs_aload_n dX9_layCircle_32 rfl, ?_⟩
  refine List.forall_mem_cons.mpr ⟨zs_iload_n dX9_layCircle_33 rfl, ?_⟩
  refine List.forall_mem_cons.mpr ⟨zs_callV (ci := 9) (rm := zR_X9_x) (n := 1) rfl zM_X9_x gX9_layCircle_X9_x rfl (by decide +kernel) ⟨by decide, by decide⟩ dX9_layCircle_34, ?_⟩
  refine List.forall_mem_cons.mpr ⟨zs_aload_n dX9_layCircle_37 rfl, ?_⟩
  refine List.forall_mem_cons.mpr ⟨zs_iload_n dX9_layCircle_38 rfl, ?_⟩
  refine List.forall_mem_cons.mpr ⟨zs_callV (ci := 9) (rm := zR_X9_y) (n := 1) rfl zM_X9_y gX9_layCircle_X9_y rfl (by decide +kernel) ⟨by decide, by decide⟩ dX9_layCircle_39, ?_⟩
  refine List.forall_mem_cons.mpr ⟨zs_iload dX9_layCircle_42, ?_⟩
  refine List.forall_mem_cons.mpr ⟨zs_callV (ci := 9) (rm := zR_X9_lay) (n := 3) rfl zM_X9_lay gX9_layCircle_X9_lay rfl (by decide +kernel) ⟨by decide, by decide⟩ dX9_layCircle_44, ?_⟩
  refine List.forall_mem_cons.mpr ⟨zs_ifeq dX9_layCircle_47 (by decide), ?_⟩
  refine List.forall_mem_cons.mpr ⟨zs_iconst dX9_layCircle_50 (by decide), ?_⟩
  refine List.forall_mem_cons.mpr ⟨zs_goto dX9_layCircle_51 (by decide), ?_⟩
  refine List.forall_mem_cons.mpr ⟨zs_iconst dX9_layCircle_54 (by decide), ?_⟩
  refine List.forall_mem_cons.mpr ⟨zs_reti (ty := .boolean) rfl (fun x h => (znz x h).1) dX9_layCircle_55, ?_⟩
  exact fun _ h => absurd h List.not_mem_nil
theorem zM_X9_layCircle : zMeets zEM yX9_layCircle wsX9_layCircle zR_X9_layCircle m_X9_layCircle := zmeth_M zEMok (zlook_all (zcs_X9_layCircle rfl)) (by decide +kernel) rfl
theorem zr_X9_layCircle_0 (a1 a2 a3 a4 : Option zAV) (st : List zAV) (s : zAS) (k : Nat × Nat) (o : Nat × Nat) : zev zk_X9_layCircle (0, [some (Sum.inr o), a1, a2, a3, a4], st, s, k) = zev zk_X9_layCircle (1, [some (Sum.inr o), a1, a2, a3, a4], Sum.inr o :: st, s, k) := zev_go rfl rfl
theorem zr_X9_layCircle_1 (a1 a2 a3 a4 : Option zAV) (st : List zAV) (s : zAS) (k : Nat × Nat) (o : Nat × Nat) : zev zk_X9_layCircle (1, [some (Sum.inr o), a1, a2, a3, a4], st, s, k) = zev zk_X9_layCircle (2, [some (Sum.inr o), a1, a2, a3, a4], Sum.inr o :: st, s, k) := zev_go rfl rfl
theorem zr_X9_layCircle_2 (a0 a1 a3 a4 : Option zAV) (st : List zAV) (s : zAS) (k : Nat × Nat) (x : Int32) : zev zk_X9_layCircle (2, [a0, a1, some (Sum.inl (Value.int x)), a3, a4], st, s, k) = zev zk_X9_layCircle (3, [a0, a1, some (Sum.inl (Value.int x)), a3, a4], Sum.inl (Value.int x) :: st, s, k) := zev_go rfl rfl
theorem zr_X9_layCircle_3 (ls : zLs) (st : List zAV) (s : zAS) (k : Nat × Nat) (r v0 : zAV) (h : zcok zEM 9 0 0 (zR_X9_layCircle).cells (zR_X9_layCircle).slots r st k) : zev zk_X9_layCircle (3, ls, v0 :: r :: st, s, k) = zret zk_X9_layCircle 6 ls st (k.1 + 0, k.2 + 0) (m_X9_x [r, v0] s) := zf_callV (as := [v0]) 1 rfl rfl h
theorem zr_X9_layCircle_6 (a1 a2 a3 a4 : Option zAV) (st : List zAV) (s : zAS) (k : Nat × Nat) (o : Nat × Nat) : zev zk_X9_layCircle (6, [some (Sum.inr o), a1, a2, a3, a4], st, s, k) = zev zk_X9_layCircle (7, [some (Sum.inr o), a1, a2, a3, a4], Sum.inr o :: st, s, k) := zev_go rfl rfl
theorem zr_X9_layCircle_7 (a0 a1 a3 a4 : Option zAV) (st : List zAV) (s : zAS) (k : Nat × Nat) (x : Int32) : zev zk_X9_layCircle (7, [a0, a1, some (Sum.inl (Value.int x)), a3, a4], st, s, k) = zev zk_X9_layCircle (8, [a0, a1, some (Sum.inl (Value.int x)), a3, a4], Sum.inl (Value.int x) :: st, s, k) := zev_go rfl rfl
theorem zr_X9_layCircle_8 (ls : zLs) (st : List zAV) (s : zAS) (k : Nat × Nat) (r v0 : zAV) (h : zcok zEM 9 0 0 (zR_X9_layCircle).cells (zR_X9_layCircle).slots r st k) : zev zk_X9_layCircle (8, ls, v0 :: r :: st, s, k) = zret zk_X9_layCircle 11 ls st (k.1 + 0, k.2 + 0) (m_X9_y [r, v0] s) := zf_callV (as := [v0]) 1 rfl rfl h
theorem zr_X9_layCircle_11 (a1 a2 a3 a4 : Option zAV) (st : List zAV) (s : zAS) (k : Nat × Nat) (o : Nat × Nat) : zev zk_X9_layCircle (11, [some (Sum.inr o), a1, a2, a3, a4], st, s, k) = zev zk_X9_layCircle (12, [some (Sum.inr o), a1, a2, a3, a4], Sum.inr o :: st, s, k) := zev_go rfl rfl
theorem zr_X9_layCircle_12 (a0 a1 a2 a4 : Option zAV) (st : List zAV) (s : zAS) (k : Nat × Nat) (x : Int32) : zev zk_X9_layCircle (12, [a0, a1, a2, some (Sum.inl (Value.int x)), a4], st, s, k) = zev zk_X9_layCircle (13, [a0, a1, a2, some (Sum.inl (Value.int x)), a4], Sum.inl (Value.int x) :: st, s, k) := zev_go rfl rfl
theorem zr_X9_layCircle_13 (ls : zLs) (st : List zAV) (s : zAS) (k : Nat × Nat) (r v0 : zAV) (h : zcok zEM 9 0 0 (zR_X9_layCircle).cells (zR_X9_layCircle).slots r st k) : zev zk_X9_layCircle (13, ls, v0 :: r :: st, s, k) = zret zk_X9_layCircle 16 ls st (k.1 + 0, k.2 + 0) (m_X9_x [r, v0] s) := zf_callV (as := [v0]) 1 rfl rfl h
theorem zr_X9_layCircle_16 (a1 a2 a3 a4 : Option zAV) (st : List zAV) (s : zAS) (k : Nat × Nat) (o : Nat × Nat) : zev zk_X9_layCircle (16, [some (Sum.inr o), a1, a2, a3, a4], st, s, k) = zev zk_X9_layCircle (17, [some (Sum.inr o), a1, a2, a3, a4], Sum.inr o :: st, s, k) := zev_go rfl rfl
theorem zr_X9_layCircle_17 (a0 a1 a2 a4 : Option zAV) (st : List zAV) (s : zAS) (k : Nat × Nat) (x : Int32) : zev zk_X9_layCircle (17, [a0, a1, a2, some (Sum.inl (Value.int x)), a4], st, s, k) = zev zk_X9_layCircle (18, [a0, a1, a2, some (Sum.inl (Value.int x)), a4], Sum.inl (Value.int x) :: st, s, k) := zev_go rfl rfl
theorem zr_X9_layCircle_18 (ls : zLs) (st : List zAV) (s : zAS) (k : Nat × Nat) (r v0 : zAV) (h : zcok zEM 9 0 0 (zR_X9_layCircle).cells (zR_X9_layCircle).slots r st k) : zev zk_X9_layCircle (18, ls, v0 :: r :: st, s, k) = zret zk_X9_layCircle 21 ls st (k.1 + 0, k.2 + 0) (m_X9_y [r, v0] s) := zf_callV (as := [v0]) 1 rfl rfl h
theorem zr_X9_layCircle_21 (ls : zLs) (st : List zAV) (s : zAS) (k : Nat × Nat) (r v0 v1 v2 v3 : zAV) (h : zcok zEM 9 0 0 (zR_X9_layCircle).cells (zR_X9_layCircle).slots r st k) : zev zk_X9_layCircle (21, ls, v3 :: v2 :: v1 :: v0 :: r :: st, s, k) = zret zk_X9_layCircle 24 ls st (k.1 + 0, k.2 + 0) (m_X9_squareOf [r, v0, v1, v2, v3] s) := zf_callV (as := [v3, v2, v1, v0]) 4 rfl rfl h
theorem zr_X9_layCircle_24 (a0 a1 a2 a3 a4 : Option zAV) (st : List zAV) (s : zAS) (k : Nat × Nat) (x : Int32) : zev zk_X9_layCircle (24, [a0, a1, a2, a3, a4], Sum.inl (Value.int x) :: st, s, k) = zev zk_X9_layCircle (26, [a0, a1, a2, zk1 a3, some (Sum.inl (Value.int x))], st, s, k) := zev_go rfl rfl
theorem zr_X9_layCircle_26 (a0 a1 a2 a3 : Option zAV) (st : List zAV) (s : zAS) (k : Nat × Nat) (x : Int32) : zev zk_X9_layCircle (26, [a0, a1, a2, a3, some (Sum.inl (Value.int x))], st, s, k) = zev zk_X9_layCircle (28, [a0, a1, a2, a3, some (Sum.inl (Value.int x))], Sum.inl (Value.int x) :: st, s, k) := zev_go rfl rfl
theorem zr_X9_layCircle_28 (ls : zLs) (st : List zAV) (s : zAS) (k : Nat × Nat) (x : Int32) : zev zk_X9_layCircle (28, ls, Sum.inl (Value.int x) :: st, s, k) = if decide (x = 0) = true then zev zk_X9_layCircle (54, ls, st, s, k) else zev zk_X9_layCircle (31, ls, st, s, k) := zf_if (f := fun x => decide (x = 0)) rfl
theorem zr_X9_layCircle_31 (a1 a2 a3 a4 : Option zAV) (st : List zAV) (s : zAS) (k : Nat × Nat) (o : Nat × Nat) : zev zk_X9_layCircle (31, [some (Sum.inr o), a1, a2, a3, a4], st, s, k) = zev zk_X9_layCircle (32, [some (Sum.inr o), a1, a2, a3, a4], Sum.inr o :: st, s, k) := zev_go rfl rfl
theorem zr_X9_layCircle_32 (a1 a2 a3 a4 : Option zAV) (st : List zAV) (s : zAS) (k : Nat × Nat) (o : Nat × Nat) : zev zk_X9_layCircle (32, [some (Sum.inr o), a1, a2, a3, a4], st, s, k) = zev zk_X9_layCircle (33, [some (Sum.inr o), a1, a2, a3, a4], Sum.inr o :: st, s, k) := zev_go rfl rfl
theorem zr_X9_layCircle_33 (a0 a2 a3 a4 : Option zAV) (st : List zAV) (s : zAS) (k : Nat × Nat) (x : Int32) : zev zk_X9_layCircle (33, [a0, some (Sum.inl (Value.int x)), a2, a3, a4], st, s, k) = zev zk_X9_layCircle (34, [a0, some (Sum.inl (Value.int x)), a2, a3, a4], Sum.inl (Value.int x) :: st, s, k) := zev_go rfl rfl
theorem zr_X9_layCircle_34 (ls : zLs) (st : List zAV) (s : zAS) (k : Nat × Nat) (r v0 : zAV) (h : zcok zEM 9 0 0 (zR_X9_layCircle).cells (zR_X9_layCircle).slots r st k) : zev zk_X9_layCircle (34, ls, v0 :: r :: st, s, k) = zret zk_X9_layCircle 37 ls st (k.1 + 0, k.2 + 0) (m_X9_x [r, v0] s) := zf_callV (as := [v0]) 1 rfl rfl h
theorem zr_X9_layCircle_37 (a1 a2 a3 a4 : Option zAV) (st : List zAV) (s : zAS) (k : Nat × Nat) (o : Nat × Nat) : zev zk_X9_layCircle (37, [some (Sum.inr o), a1, a2, a3, a4], st, s, k) = zev zk_X9_layCircle (38, [some (Sum.inr o), a1, a2, a3, a4], Sum.inr o :: st, s, k) := zev_go rfl rfl
theorem zr_X9_layCircle_38 (a0 a2 a3 a4 : Option zAV) (st : List zAV) (s : zAS) (k : Nat × Nat) (x : Int32) : zev zk_X9_layCircle (38, [a0, some (Sum.inl (Value.int x)), a2, a3, a4], st, s, k) = zev zk_X9_layCircle (39, [a0, some (Sum.inl (Value.int x)), a2, a3, a4], Sum.inl (Value.int x) :: st, s, k) := zev_go rfl rfl
theorem zr_X9_layCircle_39 (ls : zLs) (st : List zAV) (s : zAS) (k : Nat × Nat) (r v0 : zAV) (h : zcok zEM 9 0 0 (zR_X9_layCircle).cells (zR_X9_layCircle).slots r st k) : zev zk_X9_layCircle (39, ls, v0 :: r :: st, s, k) = zret zk_X9_layCircle 42 ls st (k.1 + 0, k.2 + 0) (m_X9_y [r, v0] s) := zf_callV (as := [v0]) 1 rfl rfl h
theorem zr_X9_layCircle_42 (a0 a1 a2 a3 : Option zAV) (st : List zAV) (s : zAS) (k : Nat × Nat) (x : Int32) : zev zk_X9_layCircle (42, [a0, a1, a2, a3, some (Sum.inl (Value.int x))], st, s, k) = zev zk_X9_layCircle (44, [a0, a1, a2, a3, some (Sum.inl (Value.int x))], Sum.inl (Value.int x) :: st, s, k) := zev_go rfl rfl
theorem zr_X9_layCircle_44 (ls : zLs) (st : List zAV) (s : zAS) (k : Nat × Nat) (r v0 v1 v2 : zAV) (h : zcok zEM 9 0 0 (zR_X9_layCircle).cells (zR_X9_layCircle).slots r st k) : zev zk_X9_layCircle (44, ls, v2 :: v1 :: v0 :: r :: st, s, k) = zret zk_X9_layCircle 47 ls st (k.1 + 0, k.2 + 0) (m_X9_lay [r, v0, v1, v2] s) := zf_callV (as := [v2, v1, v0]) 3 rfl rfl h
theorem zr_X9_layCircle_47 (ls : zLs) (st : List zAV) (s : zAS) (k : Nat × Nat) (x : Int32) : zev zk_X9_layCircle (47, ls, Sum.inl (Value.int x) :: st, s, k) = if decide (x = 0) = true then zev zk_X9_layCircle (54, ls, st, s, k) else zev zk_X9_layCircle (50, ls, st, s, k) := zf_if (f := fun x => decide (x = 0)) rfl
theorem zr_X9_layCircle_50 (ls : zLs) (st : List zAV) (s : zAS) (k : Nat × Nat) : zev zk_X9_layCircle (50, ls, st, s, k) = zev zk_X9_layCircle (51, ls, Sum.inl (Value.int (1)) :: st, s, k) := zev_go rfl rfl
theorem zr_X9_layCircle_51 (ls : zLs) (st : List zAV) (s : zAS) (k : Nat × Nat) : zev zk_X9_layCircle (51, ls, st, s, k) = zev zk_X9_layCircle (55, ls, st, s, k) := zev_go rfl rfl
theorem zr_X9_layCircle_54 (ls : zLs) (st : List zAV) (s : zAS) (k : Nat × Nat) : zev zk_X9_layCircle (54, ls, st, s, k) = zev zk_X9_layCircle (55, ls, Sum.inl (Value.int (0)) :: st, s, k) := zev_go rfl rfl
theorem zr_X9_layCircle_55 (ls : zLs) (s : zAS) (k : Nat × Nat) (x : Int32) (hx : x = 0 ∨ x = 1) : zev zk_X9_layCircle (55, ls, [Sum.inl (Value.int x)], s, k) = some (.inl (some (Sum.inl (Value.int x))), s) := zf_retz rfl hx
/-! X9_circleThrough: PrimePlaneModel.circleThrough(III)Z -/
abbrev zR_X9_circleThrough : Room := ({ frames := 5, cells := 0, slots := 0, locals := 113 } : Room)
noncomputable def zl_X9_circleThrough : List (Nat × zOp) := [(0, z_lda 0 1), (1, z_ldi 1 2), (2, z_ldi 2 3), (3, z_ldi 3 4), (4, z_callV zEM 9 m_X9_areInLine 3 0 0 (zR_X9_circleThrough).cells (zR_X9_circleThrough).slots 7), (7, z_if (fun x => decide (x = 0)) 12 10), (10, z_ic (0) 11), (11, z_reti true), (12, z_lda 0 13), (13, z_ldi 1 14), (14, z_ldi 2 15), (15, z_callV zEM 9 m_X9_bisector 2 0 0 (zR_X9_circleThrough).cells (zR_X9_circleThrough).slots 18), (18, z_pop 19), (19, z_lda 0 20), (20, z_get zEM 9 6 23), (23, z_ic (0) 24), (24, z_iald zEM 25), (25, z_sti 4 27), (27, z_lda 0 28), (28, z_get zEM 9 6 31), (31, z_ic (1) 32), (32, z_iald zEM 33), (33, z_sti 5 35), (35, z_lda 0 36), (36, z_get zEM 9 6 39), (39, z_ic (2) 40), (40, z_iald zEM 41), (41, z_sti 6 43), (43, z_lda 0 44), (44, z_ldi 1 45), (45, z_ldi 3 46), (46, z_callV zEM 9 m_X9_bisector 2 0 0 (zR_X9_circleThrough).cells (zR_X9_circleThrough).slots 49), (49, z_pop 50), (50, z_lda 0 51), (51, z_ldi 4 53), (53, z_ldi 5 55), (55, z_ldi 6 57), (57, z_lda 0 58), (58, z_get zEM 9 6 61), (61, z_ic (0) 62), (62, z_iald zEM 63), (63, z_lda 0 64), (64, z_get zEM 9 6 67), (67, z_ic (1) 68), (68, z_iald zEM 69), (69, z_lda 0 70), (70, z_get zEM 9 6 73), (73, z_ic (2) 74), (74, z_iald zEM 75), (75, z_callV zEM 9 m_X9_intersect 6 0 0 (zR_X9_circleThrough).cells (zR_X9_circleThrough).slots 78), (78, z_pop 79), (79, z_lda 0 80), (80, z_lda 0 81), (81, z_get zEM 9 6 84), (84, z_ic (0) 85), (85, z_iald zEM 86), (86, z_lda 0 87), (87, z_get zEM 9 6 90), (90, z_ic (1) 91), (91, z_iald zEM 92), (92, z_lda 0 93), (93, z_lda 0 94), (94, z_get zEM 9 6 97), (97, z_ic (0) 98), (98, z_iald zEM 99), (99, z_lda 0 100), (100, z_get zEM 9 6 103), (103, z_ic (1) 104), (104, z_iald zEM 105), (105, z_lda 0 106), (106, z_ldi 1 107), (107, z_callV zEM 9 m_X9_x 1 0 0 (zR_X9_circleThrough).cells (zR_X9_circleThrough).slots 110), (110, z_lda 0 111), (111, z_ldi 1 112), (112, z_callV zEM 9 m_X9_y 1 0 0 (zR_X9_circleThrough).cells (zR_X9_circleThrough).slots 115), (115, z_callV zEM 9 m_X9_squareOf 4 0 0 (zR_X9_circleThrough).cells (zR_X9_circleThrough).slots 118), (118, z_callV zEM 9 m_X9_lay 3 0 0 (zR_X9_circleThrough).cells (zR_X9_circleThrough).slots 121), (121, z_reti true)]
noncomputable def zk_X9_circleThrough (pc : Nat) : Option zOp := zlook zl_X9_circleThrough pc
noncomputable def m_X9_circleThrough : List zAV → zAS → Option zOut := zmeth zk_X9_circleThrough 7
set_option maxRecDepth 100000 in
set_option maxHeartbeats 4000000 in
theorem zcs_X9_circleThrough {R : Room} (hR : R = zR_X9_circleThrough) : ∀ q ∈ zl_X9_circleThrough, zS zEM yX9_circleThrough.cls cX9_circleThrough 7 wsX9_circleThrough (some .boolean) R q.1 q.2 := by
  subst hR
  have hin9 : ∀ w ∈ wsX90, w ∈ wsX9_circleThrough := fun w h => List.mem_cons_of_mem _ (List.mem_append_right _ h)
  refine List.forall_mem_cons.mpr ⟨zs_aload_n dX9_circleThrough_0 rfl, ?_⟩
  refine List.forall_mem_cons.mpr ⟨zs_iload_n dX9_circleThrough_1 rfl, ?_⟩
  refine List.forall_mem_cons.mpr ⟨zs_iload_n dX9_circleThrough_2 rfl, ?_⟩
  refine List.forall_mem_cons.mpr ⟨zs_iload_n dX9_circleThrough_3 rfl, ?_⟩
  refine List.forall_mem_cons.mpr ⟨zs_callV (ci := 9) (rm := zR_X9_areInLine) (n := 3) rfl zM_X9_areInLine gX9_circleThrough_X9_areInLine rfl (by decide +kernel) ⟨by decide, by decide⟩ dX9_circleThrough_4, ?_⟩
  refine List.forall_mem_cons.mpr ⟨zs_ifeq dX9_circleThrough_7 (by decide), ?_⟩
  refine List.forall_mem_cons.mpr ⟨zs_iconst dX9_circleThrough_10 (by decide), ?_⟩
  refine List.forall_mem_cons.mpr ⟨zs_reti (ty := .boolean) rfl (fun x h => (znz x h).1) dX9_circleThrough_11, ?_⟩
  refine List.forall_mem_cons.mpr ⟨zs_aload_n dX9_circleThrough_12 rfl, ?_⟩
  refine List.forall_mem_cons.mpr ⟨zs_iload_n dX9_circleThrough_13 rfl, ?_⟩
  refine List.forall_mem_cons.mpr ⟨zs_iload_n dX9_circleThrough_14 rfl, ?_⟩
  refine List.forall_mem_cons.mpr ⟨zs_callV (ci := 9) (rm := zR_X9_bisector) (n := 2) rfl zM_X9_bisector gX9_circleThrough_X9_bisector rfl (by decide +kernel) ⟨by decide, by decide⟩ dX9_circleThrough_15, ?_⟩
  refine List.forall_mem_cons.mpr ⟨zs_pop dX9_circleThrough_18, ?_⟩
  refine List.forall_mem_cons.mpr ⟨zs_aload_n dX9_circleThrough_19 rfl, ?_⟩
  refine List.forall_mem_cons.mpr ⟨zs_get (ci := 9) (j := 6) (N := 10) (C := RX9) (T := TX9) (index := 20) rfl (by decide) hin9 (List.mem_of_getElem? (i := 1) rfl) dX9_circleThrough_20, ?_⟩
  refine List.forall_mem_cons.mpr ⟨zs_iconst dX9_circleThrough_23 (by decide), ?_⟩
  refine List.forall_mem_cons.mpr ⟨zs_iald dX9_circleThrough_24, ?_⟩
  refine List.forall_mem_cons.mpr ⟨zs_istore dX9_circleThrough_25, ?_⟩
  refine List.forall_mem_cons.mpr ⟨zs_aload_n dX9_circleThrough_27 rfl, ?_⟩
  refine List.forall_mem_cons.mpr ⟨zs_get (ci := 9) (j := 6) (N := 10) (C := RX9) (T := TX9) (index := 20) rfl (by decide) hin9 (List.mem_of_getElem? (i := 1) rfl) dX9_circleThrough_28, ?_⟩
  refine List.forall_mem_cons.mpr ⟨zs_iconst dX9_circleThrough_31 (by decide), ?_⟩
  refine List.forall_mem_cons.mpr ⟨zs_iald dX9_circleThrough_32, ?_⟩
  refine List.forall_mem_cons.mpr ⟨zs_istore dX9_circleThrough_33, ?_⟩
  refine List.forall_mem_cons.mpr ⟨zs_aload_n dX9_circleThrough_35 rfl, ?_⟩
  refine List.forall_mem_cons.mpr ⟨zs_get (ci := 9) (j := 6) (N := 10) (C := RX9) (T := TX9) (index := 20) rfl (by decide) hin9 (List.mem_of_getElem? (i := 1) rfl) dX9_circleThrough_36, ?_⟩
  refine List.forall_mem_cons.mpr ⟨zs_iconst dX9_circleThrough_39 (by decide), ?_⟩
  refine List.forall_mem_cons.mpr ⟨zs_iald dX9_circleThrough_40, ?_⟩
  refine List.forall_mem_cons.mpr ⟨zs_istore dX9_circleThrough_41, ?_⟩
  refine List.forall_mem_cons.mpr ⟨zs_aload_n dX9_circleThrough_43 rfl, ?_⟩
  refine List.forall_mem_cons.mpr ⟨zs_iload_n dX9_circleThrough_44 rfl, ?_⟩
  refine List.forall_mem_cons.mpr ⟨zs_iload_n dX9_circleThrough_45 rfl, ?_⟩
  refine List.forall_mem_cons.mpr ⟨zs_callV (ci := 9) (rm := zR_X9_bisector) (n := 2) rfl zM_X9_bisector gX9_circleThrough_X9_bisector rfl (by decide +kernel) ⟨by decide, by decide⟩ dX9_circleThrough_46, ?_⟩
  refine List.forall_mem_cons.mpr ⟨zs_pop dX9_circleThrough_49, ?_⟩
  refine List.forall_mem_cons.mpr ⟨zs_aload_n dX9_circleThrough_50 rfl, ?_⟩
  refine List.forall_mem_cons.mpr ⟨zs_iload dX9_circleThrough_51, ?_⟩
  refine List.forall_mem_cons.mpr ⟨zs_iload dX9_circleThrough_53, ?_⟩
  refine List.forall_mem_cons.mpr ⟨zs_iload dX9_circleThrough_55, ?_⟩
  refine List.forall_mem_cons.mpr ⟨zs_aload_n dX9_circleThrough_57 rfl, ?_⟩
  refine List.forall_mem_cons.mpr ⟨zs_get (ci := 9) (j := 6) (N := 10) (C := RX9) (T := TX9) (index := 20) rfl (by decide) hin9 (List.mem_of_getElem? (i := 1) rfl) dX9_circleThrough_58, ?_⟩
  refine List.forall_mem_cons.mpr ⟨zs_iconst dX9_circleThrough_61 (by decide), ?_⟩
  refine List.forall_mem_cons.mpr ⟨zs_iald dX9_circleThrough_62, ?_⟩
  refine List.forall_mem_cons.mpr ⟨zs_aload_n dX9_circleThrough_63 rfl, ?_⟩
  refine List.forall_mem_cons.mpr ⟨zs_get (ci := 9) (j := 6) (N := 10) (C := RX9) (T := TX9) (index := 20) rfl (by decide) hin9 (List.mem_of_getElem? (i := 1) rfl) dX9_circleThrough_64, ?_⟩
  refine List.forall_mem_cons.mpr ⟨zs_iconst dX9_circleThrough_67 (by decide), ?_⟩
  refine List.forall_mem_cons.mpr ⟨zs_iald dX9_circleThrough_68, ?_⟩
  refine List.forall_mem_cons.mpr ⟨zs_aload_n dX9_circleThrough_69 rfl, ?_⟩
  refine List.forall_mem_cons.mpr ⟨zs_get (ci := 9) (j := 6) (N := 10) (C := RX9) (T := TX9) (index := 20) rfl (by decide) hin9 (List.mem_of_getElem? (i := 1) rfl) dX9_circleThrough_70, ?_⟩
  refine List.forall_mem_cons.mpr ⟨zs_iconst dX9_circleThrough_73 (by decide), ?_⟩
  refine List.forall_mem_cons.mpr ⟨zs_iald dX9_circleThrough_74, ?_⟩
  refine List.forall_mem_cons.mpr ⟨zs_callV (ci := 9) (rm := zR_X9_intersect) (n := 6) rfl zM_X9_intersect gX9_circleThrough_X9_intersect rfl (by decide +kernel) ⟨by decide, by decide⟩ dX9_circleThrough_75, ?_⟩
  refine List.forall_mem_cons.mpr ⟨zs_pop dX9_circleThrough_78, ?_⟩
  refine List.forall_mem_cons.mpr ⟨zs_aload_n dX9_circleThrough_79 rfl, ?_⟩
  refine List.forall_mem_cons.mpr ⟨zs_aload_n dX9_circleThrough_80 rfl, ?_⟩
  refine List.forall_mem_cons.mpr ⟨zs_get (ci := 9) (j := 6) (N := 10) (C := RX9) (T := TX9) (index := 20) rfl (by decide) hin9 (List.mem_of_getElem? (i := 1) rfl) dX9_circleThrough_81, ?_⟩
  refine List.forall_mem_cons.mpr ⟨zs_iconst dX9_circleThrough_84 (by decide), ?_⟩
  refine List.forall_mem_cons.mpr ⟨zs_iald dX9_circleThrough_85, ?_⟩
  refine List.forall_mem_cons.mpr ⟨zs_aload_n dX9_circleThrough_86 rfl, ?_⟩
  refine List.forall_mem_cons.mpr ⟨zs_get (ci := 9) (j := 6) (N := 10) (C := RX9) (T := TX9) (index := 20) rfl (by decide) hin9 (List.mem_of_getElem? (i := 1) rfl) dX9_circleThrough_87, ?_⟩
  refine List.forall_mem_cons.mpr ⟨zs_iconst dX9_circleThrough_90 (by decide), ?_⟩
  refine List.forall_mem_cons.mpr ⟨zs_iald dX9_circleThrough_91, ?_⟩
  refine List.forall_mem_cons.mpr ⟨zs_aload_n dX9_circleThrough_92 rfl, ?_⟩
  refine List.forall_mem_cons.mpr ⟨zs_aload_n dX9_circleThrough_93 rfl, ?_⟩
  refine List.forall_mem_cons.mpr ⟨zs_get (ci := 9) (j := 6) (N := 10) (C := RX9) (T := TX9) (index := 20) rfl (by decide) hin9 (List.mem_of_getElem? (i := 1) rfl) dX9_circleThrough_94, ?_⟩
  refine List.forall_mem_cons.mpr ⟨zs_iconst dX9_circleThrough_97 (by decide), ?_⟩
  refine List.forall_mem_cons.mpr ⟨zs_iald dX9_circleThrough_98, ?_⟩
  refine List.forall_mem_cons.mpr ⟨zs_aload_n dX9_circleThrough_99 rfl, ?_⟩
  refine List.forall_mem_cons.mpr ⟨zs_get (ci := 9) (j := 6) (N := 10) (C := RX9) (T := TX9) (index := 20) rfl (by decide) hin9 (List.mem_of_getElem? (i := 1) rfl) dX9_circleThrough_100, ?_⟩
  refine List.forall_mem_cons.mpr ⟨zs_iconst dX9_circleThrough_103 (by decide), ?_⟩
  refine List.forall_mem_cons.mpr ⟨zs_iald dX9_circleThrough_104, ?_⟩
  refine List.forall_mem_cons.mpr ⟨zs_aload_n dX9_circleThrough_105 rfl, ?_⟩
  refine List.forall_mem_cons.mpr ⟨zs_iload_n dX9_circleThrough_106 rfl, ?_⟩
  refine List.forall_mem_cons.mpr ⟨zs_callV (ci := 9) (rm := zR_X9_x) (n := 1) rfl zM_X9_x gX9_circleThrough_X9_x rfl (by decide +kernel) ⟨by decide, by decide⟩ dX9_circleThrough_107, ?_⟩
  refine List.forall_mem_cons.mpr ⟨zs_aload_n dX9_circleThrough_110 rfl, ?_⟩
  refine List.forall_mem_cons.mpr ⟨zs_iload_n dX9_circleThrough_111 rfl, ?_⟩
  refine List.forall_mem_cons.mpr ⟨zs_callV (ci := 9) (rm := zR_X9_y) (n := 1) rfl zM_X9_y gX9_circleThrough_X9_y rfl (by decide +kernel) ⟨by decide, by decide⟩ dX9_circleThrough_112, ?_⟩
  refine List.forall_mem_cons.mpr ⟨zs_callV (ci := 9) (rm := zR_X9_squareOf) (n := 4) rfl zM_X9_squareOf gX9_circleThrough_X9_squareOf rfl (by decide +kernel) ⟨by decide, by decide⟩ dX9_circleThrough_115, ?_⟩
  refine List.forall_mem_cons.mpr ⟨zs_callV (ci := 9) (rm := zR_X9_lay) (n := 3) rfl zM_X9_lay gX9_circleThrough_X9_lay rfl (by decide +kernel) ⟨by decide, by decide⟩ dX9_circleThrough_118, ?_⟩
  refine List.forall_mem_cons.mpr ⟨zs_reti (ty := .boolean) rfl (fun x h => (znz x h).1) dX9_circleThrough_121, ?_⟩
  exact fun _ h => absurd h List.not_mem_nil
theorem zM_X9_circleThrough : zMeets zEM yX9_circleThrough wsX9_circleThrough zR_X9_circleThrough m_X9_circleThrough := zmeth_M zEMok (zlook_all (zcs_X9_circleThrough rfl)) (by decide +kernel) rfl
theorem zr_X9_circleThrough_0 (a1 a2 a3 a4 a5 a6 : Option zAV) (st : List zAV) (s : zAS) (k : Nat × Nat) (o : Nat × Nat) : zev zk_X9_circleThrough (0, [some (Sum.inr o), a1, a2, a3, a4, a5, a6], st, s, k) = zev zk_X9_circleThrough (1, [some (Sum.inr o), a1, a2, a3, a4, a5, a6], Sum.inr o :: st, s, k) := zev_go rfl rfl
theorem zr_X9_circleThrough_1 (a0 a2 a3 a4 a5 a6 : Option zAV) (st : List zAV) (s : zAS) (k : Nat × Nat) (x : Int32) : zev zk_X9_circleThrough (1, [a0, some (Sum.inl (Value.int x)), a2, a3, a4, a5, a6], st, s, k) = zev zk_X9_circleThrough (2, [a0, some (Sum.inl (Value.int x)), a2, a3, a4, a5, a6], Sum.inl (Value.int x) :: st, s, k) := zev_go rfl rfl
theorem zr_X9_circleThrough_2 (a0 a1 a3 a4 a5 a6 : Option zAV) (st : List zAV) (s : zAS) (k : Nat × Nat) (x : Int32) : zev zk_X9_circleThrough (2, [a0, a1, some (Sum.inl (Value.int x)), a3, a4, a5, a6], st, s, k) = zev zk_X9_circleThrough (3, [a0, a1, some (Sum.inl (Value.int x)), a3, a4, a5, a6], Sum.inl (Value.int x) :: st, s, k) := zev_go rfl rfl
theorem zr_X9_circleThrough_3 (a0 a1 a2 a4 a5 a6 : Option zAV) (st : List zAV) (s : zAS) (k : Nat × Nat) (x : Int32) : zev zk_X9_circleThrough (3, [a0, a1, a2, some (Sum.inl (Value.int x)), a4, a5, a6], st, s, k) = zev zk_X9_circleThrough (4, [a0, a1, a2, some (Sum.inl (Value.int x)), a4, a5, a6], Sum.inl (Value.int x) :: st, s, k) := zev_go rfl rfl
theorem zr_X9_circleThrough_4 (ls : zLs) (st : List zAV) (s : zAS) (k : Nat × Nat) (r v0 v1 v2 : zAV) (h : zcok zEM 9 0 0 (zR_X9_circleThrough).cells (zR_X9_circleThrough).slots r st k) : zev zk_X9_circleThrough (4, ls, v2 :: v1 :: v0 :: r :: st, s, k) = zret zk_X9_circleThrough 7 ls st (k.1 + 0, k.2 + 0) (m_X9_areInLine [r, v0, v1, v2] s) := zf_callV (as := [v2, v1, v0]) 3 rfl rfl h
theorem zr_X9_circleThrough_7 (ls : zLs) (st : List zAV) (s : zAS) (k : Nat × Nat) (x : Int32) : zev zk_X9_circleThrough (7, ls, Sum.inl (Value.int x) :: st, s, k) = if decide (x = 0) = true then zev zk_X9_circleThrough (12, ls, st, s, k) else zev zk_X9_circleThrough (10, ls, st, s, k) := zf_if (f := fun x => decide (x = 0)) rfl
theorem zr_X9_circleThrough_10 (ls : zLs) (st : List zAV) (s : zAS) (k : Nat × Nat) : zev zk_X9_circleThrough (10, ls, st, s, k) = zev zk_X9_circleThrough (11, ls, Sum.inl (Value.int (0)) :: st, s, k) := zev_go rfl rfl
theorem zr_X9_circleThrough_11 (ls : zLs) (s : zAS) (k : Nat × Nat) (x : Int32) (hx : x = 0 ∨ x = 1) : zev zk_X9_circleThrough (11, ls, [Sum.inl (Value.int x)], s, k) = some (.inl (some (Sum.inl (Value.int x))), s) := zf_retz rfl hx
theorem zr_X9_circleThrough_12 (a1 a2 a3 a4 a5 a6 : Option zAV) (st : List zAV) (s : zAS) (k : Nat × Nat) (o : Nat × Nat) : zev zk_X9_circleThrough (12, [some (Sum.inr o), a1, a2, a3, a4, a5, a6], st, s, k) = zev zk_X9_circleThrough (13, [some (Sum.inr o), a1, a2, a3, a4, a5, a6], Sum.inr o :: st, s, k) := zev_go rfl rfl
theorem zr_X9_circleThrough_13 (a0 a2 a3 a4 a5 a6 : Option zAV) (st : List zAV) (s : zAS) (k : Nat × Nat) (x : Int32) : zev zk_X9_circleThrough (13, [a0, some (Sum.inl (Value.int x)), a2, a3, a4, a5, a6], st, s, k) = zev zk_X9_circleThrough (14, [a0, some (Sum.inl (Value.int x)), a2, a3, a4, a5, a6], Sum.inl (Value.int x) :: st, s, k) := zev_go rfl rfl
theorem zr_X9_circleThrough_14 (a0 a1 a3 a4 a5 a6 : Option zAV) (st : List zAV) (s : zAS) (k : Nat × Nat) (x : Int32) : zev zk_X9_circleThrough (14, [a0, a1, some (Sum.inl (Value.int x)), a3, a4, a5, a6], st, s, k) = zev zk_X9_circleThrough (15, [a0, a1, some (Sum.inl (Value.int x)), a3, a4, a5, a6], Sum.inl (Value.int x) :: st, s, k) := zev_go rfl rfl
theorem zr_X9_circleThrough_15 (ls : zLs) (st : List zAV) (s : zAS) (k : Nat × Nat) (r v0 v1 : zAV) (h : zcok zEM 9 0 0 (zR_X9_circleThrough).cells (zR_X9_circleThrough).slots r st k) : zev zk_X9_circleThrough (15, ls, v1 :: v0 :: r :: st, s, k) = zret zk_X9_circleThrough 18 ls st (k.1 + 0, k.2 + 0) (m_X9_bisector [r, v0, v1] s) := zf_callV (as := [v1, v0]) 2 rfl rfl h
theorem zr_X9_circleThrough_18 (ls : zLs) (st : List zAV) (s : zAS) (k : Nat × Nat) (v : zAV) (hv : zc1 v = true) : zev zk_X9_circleThrough (18, ls, v :: st, s, k) = zev zk_X9_circleThrough (19, ls, st, s, k) := zf_pop rfl hv
theorem zr_X9_circleThrough_19 (a1 a2 a3 a4 a5 a6 : Option zAV) (st : List zAV) (s : zAS) (k : Nat × Nat) (o : Nat × Nat) : zev zk_X9_circleThrough (19, [some (Sum.inr o), a1, a2, a3, a4, a5, a6], st, s, k) = zev zk_X9_circleThrough (20, [some (Sum.inr o), a1, a2, a3, a4, a5, a6], Sum.inr o :: st, s, k) := zev_go rfl rfl
theorem zr_X9_circleThrough_20 (ls : zLs) (st : List zAV) (s : zAS) (k : Nat × Nat) (o i : Nat) : zev zk_X9_circleThrough (20, ls, Sum.inr (o, i) :: st, s, k) = zpush zk_X9_circleThrough 23 ls st s k (zgv zEM 9 6 o i s.1) := zf_get rfl
theorem zr_X9_circleThrough_23 (ls : zLs) (st : List zAV) (s : zAS) (k : Nat × Nat) : zev zk_X9_circleThrough (23, ls, st, s, k) = zev zk_X9_circleThrough (24, ls, Sum.inl (Value.int (0)) :: st, s, k) := zev_go rfl rfl
theorem zr_X9_circleThrough_24 (ls : zLs) (st : List zAV) (s : zAS) (k : Nat × Nat) (o i : Nat) (j : Int32) : zev zk_X9_circleThrough (24, ls, Sum.inl (Value.int j) :: Sum.inr (o, i) :: st, s, k) = zpush zk_X9_circleThrough 25 ls st s k (zald zEM o i j s) := zf_iald rfl
theorem zr_X9_circleThrough_25 (a0 a1 a2 a3 a4 a5 a6 : Option zAV) (st : List zAV) (s : zAS) (k : Nat × Nat) (x : Int32) : zev zk_X9_circleThrough (25, [a0, a1, a2, a3, a4, a5, a6], Sum.inl (Value.int x) :: st, s, k) = zev zk_X9_circleThrough (27, [a0, a1, a2, zk1 a3, some (Sum.inl (Value.int x)), a5, a6], st, s, k) := zev_go rfl rfl
theorem zr_X9_circleThrough_27 (a1 a2 a3 a4 a5 a6 : Option zAV) (st : List zAV) (s : zAS) (k : Nat × Nat) (o : Nat × Nat) : zev zk_X9_circleThrough (27, [some (Sum.inr o), a1, a2, a3, a4, a5, a6], st, s, k) = zev zk_X9_circleThrough (28, [some (Sum.inr o), a1, a2, a3, a4, a5, a6], Sum.inr o :: st, s, k) := zev_go rfl rfl
theorem zr_X9_circleThrough_28 (ls : zLs) (st : List zAV) (s : zAS) (k : Nat × Nat) (o i : Nat) : zev zk_X9_circleThrough (28, ls, Sum.inr (o, i) :: st, s, k) = zpush zk_X9_circleThrough 31 ls st s k (zgv zEM 9 6 o i s.1) := zf_get rfl
theorem zr_X9_circleThrough_31 (ls : zLs) (st : List zAV) (s : zAS) (k : Nat × Nat) : zev zk_X9_circleThrough (31, ls, st, s, k) = zev zk_X9_circleThrough (32, ls, Sum.inl (Value.int (1)) :: st, s, k) := zev_go rfl rfl
theorem zr_X9_circleThrough_32 (ls : zLs) (st : List zAV) (s : zAS) (k : Nat × Nat) (o i : Nat) (j : Int32) : zev zk_X9_circleThrough (32, ls, Sum.inl (Value.int j) :: Sum.inr (o, i) :: st, s, k) = zpush zk_X9_circleThrough 33 ls st s k (zald zEM o i j s) := zf_iald rfl
theorem zr_X9_circleThrough_33 (a0 a1 a2 a3 a4 a5 a6 : Option zAV) (st : List zAV) (s : zAS) (k : Nat × Nat) (x : Int32) : zev zk_X9_circleThrough (33, [a0, a1, a2, a3, a4, a5, a6], Sum.inl (Value.int x) :: st, s, k) = zev zk_X9_circleThrough (35, [a0, a1, a2, a3, zk1 a4, some (Sum.inl (Value.int x)), a6], st, s, k) := zev_go rfl rfl
theorem zr_X9_circleThrough_35 (a1 a2 a3 a4 a5 a6 : Option zAV) (st : List zAV) (s : zAS) (k : Nat × Nat) (o : Nat × Nat) : zev zk_X9_circleThrough (35, [some (Sum.inr o), a1, a2, a3, a4, a5, a6], st, s, k) = zev zk_X9_circleThrough (36, [some (Sum.inr o), a1, a2, a3, a4, a5, a6], Sum.inr o :: st, s, k) := zev_go rfl rfl
theorem zr_X9_circleThrough_36 (ls : zLs) (st : List zAV) (s : zAS) (k : Nat × Nat) (o i : Nat) : zev zk_X9_circleThrough (36, ls, Sum.inr (o, i) :: st, s, k) = zpush zk_X9_circleThrough 39 ls st s k (zgv zEM 9 6 o i s.1) := zf_get rfl
theorem zr_X9_circleThrough_39 (ls : zLs) (st : List zAV) (s : zAS) (k : Nat × Nat) : zev zk_X9_circleThrough (39, ls, st, s, k) = zev zk_X9_circleThrough (40, ls, Sum.inl (Value.int (2)) :: st, s, k) := zev_go rfl rfl
theorem zr_X9_circleThrough_40 (ls : zLs) (st : List zAV) (s : zAS) (k : Nat × Nat) (o i : Nat) (j : Int32) : zev zk_X9_circleThrough (40, ls, Sum.inl (Value.int j) :: Sum.inr (o, i) :: st, s, k) = zpush zk_X9_circleThrough 41 ls st s k (zald zEM o i j s) := zf_iald rfl
theorem zr_X9_circleThrough_41 (a0 a1 a2 a3 a4 a5 a6 : Option zAV) (st : List zAV) (s : zAS) (k : Nat × Nat) (x : Int32) : zev zk_X9_circleThrough (41, [a0, a1, a2, a3, a4, a5, a6], Sum.inl (Value.int x) :: st, s, k) = zev zk_X9_circleThrough (43, [a0, a1, a2, a3, a4, zk1 a5, some (Sum.inl (Value.int x))], st, s, k) := zev_go rfl rfl
theorem zr_X9_circleThrough_43 (a1 a2 a3 a4 a5 a6 : Option zAV) (st : List zAV) (s : zAS) (k : Nat × Nat) (o : Nat × Nat) : zev zk_X9_circleThrough (43, [some (Sum.inr o), a1, a2, a3, a4, a5, a6], st, s, k) = zev zk_X9_circleThrough (44, [some (Sum.inr o), a1, a2, a3, a4, a5, a6], Sum.inr o :: st, s, k) := zev_go rfl rfl
theorem zr_X9_circleThrough_44 (a0 a2 a3 a4 a5 a6 : Option zAV) (st : List zAV) (s : zAS) (k : Nat × Nat) (x : Int32) : zev zk_X9_circleThrough (44, [a0, some (Sum.inl (Value.int x)), a2, a3, a4, a5, a6], st, s, k) = zev zk_X9_circleThrough (45, [a0, some (Sum.inl (Value.int x)), a2, a3, a4, a5, a6], Sum.inl (Value.int x) :: st, s, k) := zev_go rfl rfl
theorem zr_X9_circleThrough_45 (a0 a1 a2 a4 a5 a6 : Option zAV) (st : List zAV) (s : zAS) (k : Nat × Nat) (x : Int32) : zev zk_X9_circleThrough (45, [a0, a1, a2, some (Sum.inl (Value.int x)), a4, a5, a6], st, s, k) = zev zk_X9_circleThrough (46, [a0, a1, a2, some (Sum.inl (Value.int x)), a4, a5, a6], Sum.inl (Value.int x) :: st, s, k) := zev_go rfl rfl
theorem zr_X9_circleThrough_46 (ls : zLs) (st : List zAV) (s : zAS) (k : Nat × Nat) (r v0 v1 : zAV) (h : zcok zEM 9 0 0 (zR_X9_circleThrough).cells (zR_X9_circleThrough).slots r st k) : zev zk_X9_circleThrough (46, ls, v1 :: v0 :: r :: st, s, k) = zret zk_X9_circleThrough 49 ls st (k.1 + 0, k.2 + 0) (m_X9_bisector [r, v0, v1] s) := zf_callV (as := [v1, v0]) 2 rfl rfl h
theorem zr_X9_circleThrough_49 (ls : zLs) (st : List zAV) (s : zAS) (k : Nat × Nat) (v : zAV) (hv : zc1 v = true) : zev zk_X9_circleThrough (49, ls, v :: st, s, k) = zev zk_X9_circleThrough (50, ls, st, s, k) := zf_pop rfl hv
theorem zr_X9_circleThrough_50 (a1 a2 a3 a4 a5 a6 : Option zAV) (st : List zAV) (s : zAS) (k : Nat × Nat) (o : Nat × Nat) : zev zk_X9_circleThrough (50, [some (Sum.inr o), a1, a2, a3, a4, a5, a6], st, s, k) = zev zk_X9_circleThrough (51, [some (Sum.inr o), a1, a2, a3, a4, a5, a6], Sum.inr o :: st, s, k) := zev_go rfl rfl
theorem zr_X9_circleThrough_51 (a0 a1 a2 a3 a5 a6 : Option zAV) (st : List zAV) (s : zAS) (k : Nat × Nat) (x : Int32) : zev zk_X9_circleThrough (51, [a0, a1, a2, a3, some (Sum.inl (Value.int x)), a5, a6], st, s, k) = zev zk_X9_circleThrough (53, [a0, a1, a2, a3, some (Sum.inl (Value.int x)), a5, a6], Sum.inl (Value.int x) :: st, s, k) := zev_go rfl rfl
theorem zr_X9_circleThrough_53 (a0 a1 a2 a3 a4 a6 : Option zAV) (st : List zAV) (s : zAS) (k : Nat × Nat) (x : Int32) : zev zk_X9_circleThrough (53, [a0, a1, a2, a3, a4, some (Sum.inl (Value.int x)), a6], st, s, k) = zev zk_X9_circleThrough (55, [a0, a1, a2, a3, a4, some (Sum.inl (Value.int x)), a6], Sum.inl (Value.int x) :: st, s, k) := zev_go rfl rfl
theorem zr_X9_circleThrough_55 (a0 a1 a2 a3 a4 a5 : Option zAV) (st : List zAV) (s : zAS) (k : Nat × Nat) (x : Int32) : zev zk_X9_circleThrough (55, [a0, a1, a2, a3, a4, a5, some (Sum.inl (Value.int x))], st, s, k) = zev zk_X9_circleThrough (57, [a0, a1, a2, a3, a4, a5, some (Sum.inl (Value.int x))], Sum.inl (Value.int x) :: st, s, k) := zev_go rfl rfl
theorem zr_X9_circleThrough_57 (a1 a2 a3 a4 a5 a6 : Option zAV) (st : List zAV) (s : zAS) (k : Nat × Nat) (o : Nat × Nat) : zev zk_X9_circleThrough (57, [some (Sum.inr o), a1, a2, a3, a4, a5, a6], st, s, k) = zev zk_X9_circleThrough (58, [some (Sum.inr o), a1, a2, a3, a4, a5, a6], Sum.inr o :: st, s, k) := zev_go rfl rfl
theorem zr_X9_circleThrough_58 (ls : zLs) (st : List zAV) (s : zAS) (k : Nat × Nat) (o i : Nat) : zev zk_X9_circleThrough (58, ls, Sum.inr (o, i) :: st, s, k) = zpush zk_X9_circleThrough 61 ls st s k (zgv zEM 9 6 o i s.1) := zf_get rfl
theorem zr_X9_circleThrough_61 (ls : zLs) (st : List zAV) (s : zAS) (k : Nat × Nat) : zev zk_X9_circleThrough (61, ls, st, s, k) = zev zk_X9_circleThrough (62, ls, Sum.inl (Value.int (0)) :: st, s, k) := zev_go rfl rfl
theorem zr_X9_circleThrough_62 (ls : zLs) (st : List zAV) (s : zAS) (k : Nat × Nat) (o i : Nat) (j : Int32) : zev zk_X9_circleThrough (62, ls, Sum.inl (Value.int j) :: Sum.inr (o, i) :: st, s, k) = zpush zk_X9_circleThrough 63 ls st s k (zald zEM o i j s) := zf_iald rfl
theorem zr_X9_circleThrough_63 (a1 a2 a3 a4 a5 a6 : Option zAV) (st : List zAV) (s : zAS) (k : Nat × Nat) (o : Nat × Nat) : zev zk_X9_circleThrough (63, [some (Sum.inr o), a1, a2, a3, a4, a5, a6], st, s, k) = zev zk_X9_circleThrough (64, [some (Sum.inr o), a1, a2, a3, a4, a5, a6], Sum.inr o :: st, s, k) := zev_go rfl rfl
theorem zr_X9_circleThrough_64 (ls : zLs) (st : List zAV) (s : zAS) (k : Nat × Nat) (o i : Nat) : zev zk_X9_circleThrough (64, ls, Sum.inr (o, i) :: st, s, k) = zpush zk_X9_circleThrough 67 ls st s k (zgv zEM 9 6 o i s.1) := zf_get rfl
theorem zr_X9_circleThrough_67 (ls : zLs) (st : List zAV) (s : zAS) (k : Nat × Nat) : zev zk_X9_circleThrough (67, ls, st, s, k) = zev zk_X9_circleThrough (68, ls, Sum.inl (Value.int (1)) :: st, s, k) := zev_go rfl rfl
theorem zr_X9_circleThrough_68 (ls : zLs) (st : List zAV) (s : zAS) (k : Nat × Nat) (o i : Nat) (j : Int32) : zev zk_X9_circleThrough (68, ls, Sum.inl (Value.int j) :: Sum.inr (o, i) :: st, s, k) = zpush zk_X9_circleThrough 69 ls st s k (zald zEM o i j s) := zf_iald rfl
theorem zr_X9_circleThrough_69 (a1 a2 a3 a4 a5 a6 : Option zAV) (st : List zAV) (s : zAS) (k : Nat × Nat) (o : Nat × Nat) : zev zk_X9_circleThrough (69, [some (Sum.inr o), a1, a2, a3, a4, a5, a6], st, s, k) = zev zk_X9_circleThrough (70, [some (Sum.inr o), a1, a2, a3, a4, a5, a6], Sum.inr o :: st, s, k) := zev_go rfl rfl
theorem zr_X9_circleThrough_70 (ls : zLs) (st : List zAV) (s : zAS) (k : Nat × Nat) (o i : Nat) : zev zk_X9_circleThrough (70, ls, Sum.inr (o, i) :: st, s, k) = zpush zk_X9_circleThrough 73 ls st s k (zgv zEM 9 6 o i s.1) := zf_get rfl
theorem zr_X9_circleThrough_73 (ls : zLs) (st : List zAV) (s : zAS) (k : Nat × Nat) : zev zk_X9_circleThrough (73, ls, st, s, k) = zev zk_X9_circleThrough (74, ls, Sum.inl (Value.int (2)) :: st, s, k) := zev_go rfl rfl
theorem zr_X9_circleThrough_74 (ls : zLs) (st : List zAV) (s : zAS) (k : Nat × Nat) (o i : Nat) (j : Int32) : zev zk_X9_circleThrough (74, ls, Sum.inl (Value.int j) :: Sum.inr (o, i) :: st, s, k) = zpush zk_X9_circleThrough 75 ls st s k (zald zEM o i j s) := zf_iald rfl
theorem zr_X9_circleThrough_75 (ls : zLs) (st : List zAV) (s : zAS) (k : Nat × Nat) (r v0 v1 v2 v3 v4 v5 : zAV) (h : zcok zEM 9 0 0 (zR_X9_circleThrough).cells (zR_X9_circleThrough).slots r st k) : zev zk_X9_circleThrough (75, ls, v5 :: v4 :: v3 :: v2 :: v1 :: v0 :: r :: st, s, k) = zret zk_X9_circleThrough 78 ls st (k.1 + 0, k.2 + 0) (m_X9_intersect [r, v0, v1, v2, v3, v4, v5] s) := zf_callV (as := [v5, v4, v3, v2, v1, v0]) 6 rfl rfl h
theorem zr_X9_circleThrough_78 (ls : zLs) (st : List zAV) (s : zAS) (k : Nat × Nat) (v : zAV) (hv : zc1 v = true) : zev zk_X9_circleThrough (78, ls, v :: st, s, k) = zev zk_X9_circleThrough (79, ls, st, s, k) := zf_pop rfl hv
theorem zr_X9_circleThrough_79 (a1 a2 a3 a4 a5 a6 : Option zAV) (st : List zAV) (s : zAS) (k : Nat × Nat) (o : Nat × Nat) : zev zk_X9_circleThrough (79, [some (Sum.inr o), a1, a2, a3, a4, a5, a6], st, s, k) = zev zk_X9_circleThrough (80, [some (Sum.inr o), a1, a2, a3, a4, a5, a6], Sum.inr o :: st, s, k) := zev_go rfl rfl
theorem zr_X9_circleThrough_80 (a1 a2 a3 a4 a5 a6 : Option zAV) (st : List zAV) (s : zAS) (k : Nat × Nat) (o : Nat × Nat) : zev zk_X9_circleThrough (80, [some (Sum.inr o), a1, a2, a3, a4, a5, a6], st, s, k) = zev zk_X9_circleThrough (81, [some (Sum.inr o), a1, a2, a3, a4, a5, a6], Sum.inr o :: st, s, k) := zev_go rfl rfl
theorem zr_X9_circleThrough_81 (ls : zLs) (st : List zAV) (s : zAS) (k : Nat × Nat) (o i : Nat) : zev zk_X9_circleThrough (81, ls, Sum.inr (o, i) :: st, s, k) = zpush zk_X9_circleThrough 84 ls st s k (zgv zEM 9 6 o i s.1) := zf_get rfl
theorem zr_X9_circleThrough_84 (ls : zLs) (st : List zAV) (s : zAS) (k : Nat × Nat) : zev zk_X9_circleThrough (84, ls, st, s, k) = zev zk_X9_circleThrough (85, ls, Sum.inl (Value.int (0)) :: st, s, k) := zev_go rfl rfl
theorem zr_X9_circleThrough_85 (ls : zLs) (st : List zAV) (s : zAS) (k : Nat × Nat) (o i : Nat) (j : Int32) : zev zk_X9_circleThrough (85, ls, Sum.inl (Value.int j) :: Sum.inr (o, i) :: st, s, k) = zpush zk_X9_circleThrough 86 ls st s k (zald zEM o i j s) := zf_iald rfl
theorem zr_X9_circleThrough_86 (a1 a2 a3 a4 a5 a6 : Option zAV) (st : List zAV) (s : zAS) (k : Nat × Nat) (o : Nat × Nat) : zev zk_X9_circleThrough (86, [some (Sum.inr o), a1, a2, a3, a4, a5, a6], st, s, k) = zev zk_X9_circleThrough (87, [some (Sum.inr o), a1, a2, a3, a4, a5, a6], Sum.inr o :: st, s, k) := zev_go rfl rfl
theorem zr_X9_circleThrough_87 (ls : zLs) (st : List zAV) (s : zAS) (k : Nat × Nat) (o i : Nat) : zev zk_X9_circleThrough (87, ls, Sum.inr (o, i) :: st, s, k) = zpush zk_X9_circleThrough 90 ls st s k (zgv zEM 9 6 o i s.1) := zf_get rfl
theorem zr_X9_circleThrough_90 (ls : zLs) (st : List zAV) (s : zAS) (k : Nat × Nat) : zev zk_X9_circleThrough (90, ls, st, s, k) = zev zk_X9_circleThrough (91, ls, Sum.inl (Value.int (1)) :: st, s, k) := zev_go rfl rfl
theorem zr_X9_circleThrough_91 (ls : zLs) (st : List zAV) (s : zAS) (k : Nat × Nat) (o i : Nat) (j : Int32) : zev zk_X9_circleThrough (91, ls, Sum.inl (Value.int j) :: Sum.inr (o, i) :: st, s, k) = zpush zk_X9_circleThrough 92 ls st s k (zald zEM o i j s) := zf_iald rfl
theorem zr_X9_circleThrough_92 (a1 a2 a3 a4 a5 a6 : Option zAV) (st : List zAV) (s : zAS) (k : Nat × Nat) (o : Nat × Nat) : zev zk_X9_circleThrough (92, [some (Sum.inr o), a1, a2, a3, a4, a5, a6], st, s, k) = zev zk_X9_circleThrough (93, [some (Sum.inr o), a1, a2, a3, a4, a5, a6], Sum.inr o :: st, s, k) := zev_go rfl rfl
theorem zr_X9_circleThrough_93 (a1 a2 a3 a4 a5 a6 : Option zAV) (st : List zAV) (s : zAS) (k : Nat × Nat) (o : Nat × Nat) : zev zk_X9_circleThrough (93, [some (Sum.inr o), a1, a2, a3, a4, a5, a6], st, s, k) = zev zk_X9_circleThrough (94, [some (Sum.inr o), a1, a2, a3, a4, a5, a6], Sum.inr o :: st, s, k) := zev_go rfl rfl
theorem zr_X9_circleThrough_94 (ls : zLs) (st : List zAV) (s : zAS) (k : Nat × Nat) (o i : Nat) : zev zk_X9_circleThrough (94, ls, Sum.inr (o, i) :: st, s, k) = zpush zk_X9_circleThrough 97 ls st s k (zgv zEM 9 6 o i s.1) := zf_get rfl
theorem zr_X9_circleThrough_97 (ls : zLs) (st : List zAV) (s : zAS) (k : Nat × Nat) : zev zk_X9_circleThrough (97, ls, st, s, k) = zev zk_X9_circleThrough (98, ls, Sum.inl (Value.int (0)) :: st, s, k) := zev_go rfl rfl
theorem zr_X9_circleThrough_98 (ls : zLs) (st : List zAV) (s : zAS) (k : Nat × Nat) (o i : Nat) (j : Int32) : zev zk_X9_circleThrough (98, ls, Sum.inl (Value.int j) :: Sum.inr (o, i) :: st, s, k) = zpush zk_X9_circleThrough 99 ls st s k (zald zEM o i j s) := zf_iald rfl
theorem zr_X9_circleThrough_99 (a1 a2 a3 a4 a5 a6 : Option zAV) (st : List zAV) (s : zAS) (k : Nat × Nat) (o : Nat × Nat) : zev zk_X9_circleThrough (99, [some (Sum.inr o), a1, a2, a3, a4, a5, a6], st, s, k) = zev zk_X9_circleThrough (100, [some (Sum.inr o), a1, a2, a3, a4, a5, a6], Sum.inr o :: st, s, k) := zev_go rfl rfl
theorem zr_X9_circleThrough_100 (ls : zLs) (st : List zAV) (s : zAS) (k : Nat × Nat) (o i : Nat) : zev zk_X9_circleThrough (100, ls, Sum.inr (o, i) :: st, s, k) = zpush zk_X9_circleThrough 103 ls st s k (zgv zEM 9 6 o i s.1) := zf_get rfl
theorem zr_X9_circleThrough_103 (ls : zLs) (st : List zAV) (s : zAS) (k : Nat × Nat) : zev zk_X9_circleThrough (103, ls, st, s, k) = zev zk_X9_circleThrough (104, ls, Sum.inl (Value.int (1)) :: st, s, k) := zev_go rfl rfl
theorem zr_X9_circleThrough_104 (ls : zLs) (st : List zAV) (s : zAS) (k : Nat × Nat) (o i : Nat) (j : Int32) : zev zk_X9_circleThrough (104, ls, Sum.inl (Value.int j) :: Sum.inr (o, i) :: st, s, k) = zpush zk_X9_circleThrough 105 ls st s k (zald zEM o i j s) := zf_iald rfl
theorem zr_X9_circleThrough_105 (a1 a2 a3 a4 a5 a6 : Option zAV) (st : List zAV) (s : zAS) (k : Nat × Nat) (o : Nat × Nat) : zev zk_X9_circleThrough (105, [some (Sum.inr o), a1, a2, a3, a4, a5, a6], st, s, k) = zev zk_X9_circleThrough (106, [some (Sum.inr o), a1, a2, a3, a4, a5, a6], Sum.inr o :: st, s, k) := zev_go rfl rfl
theorem zr_X9_circleThrough_106 (a0 a2 a3 a4 a5 a6 : Option zAV) (st : List zAV) (s : zAS) (k : Nat × Nat) (x : Int32) : zev zk_X9_circleThrough (106, [a0, some (Sum.inl (Value.int x)), a2, a3, a4, a5, a6], st, s, k) = zev zk_X9_circleThrough (107, [a0, some (Sum.inl (Value.int x)), a2, a3, a4, a5, a6], Sum.inl (Value.int x) :: st, s, k) := zev_go rfl rfl
theorem zr_X9_circleThrough_107 (ls : zLs) (st : List zAV) (s : zAS) (k : Nat × Nat) (r v0 : zAV) (h : zcok zEM 9 0 0 (zR_X9_circleThrough).cells (zR_X9_circleThrough).slots r st k) : zev zk_X9_circleThrough (107, ls, v0 :: r :: st, s, k) = zret zk_X9_circleThrough 110 ls st (k.1 + 0, k.2 + 0) (m_X9_x [r, v0] s) := zf_callV (as := [v0]) 1 rfl rfl h
theorem zr_X9_circleThrough_110 (a1 a2 a3 a4 a5 a6 : Option zAV) (st : List zAV) (s : zAS) (k : Nat × Nat) (o : Nat × Nat) : zev zk_X9_circleThrough (110, [some (Sum.inr o), a1, a2, a3, a4, a5, a6], st, s, k) = zev zk_X9_circleThrough (111, [some (Sum.inr o), a1, a2, a3, a4, a5, a6], Sum.inr o :: st, s, k) := zev_go rfl rfl
theorem zr_X9_circleThrough_111 (a0 a2 a3 a4 a5 a6 : Option zAV) (st : List zAV) (s : zAS) (k : Nat × Nat) (x : Int32) : zev zk_X9_circleThrough (111, [a0, some (Sum.inl (Value.int x)), a2, a3, a4, a5, a6], st, s, k) = zev zk_X9_circleThrough (112, [a0, some (Sum.inl (Value.int x)), a2, a3, a4, a5, a6], Sum.inl (Value.int x) :: st, s, k) := zev_go rfl rfl
theorem zr_X9_circleThrough_112 (ls : zLs) (st : List zAV) (s : zAS) (k : Nat × Nat) (r v0 : zAV) (h : zcok zEM 9 0 0 (zR_X9_circleThrough).cells (zR_X9_circleThrough).slots r st k) : zev zk_X9_circleThrough (112, ls, v0 :: r :: st, s, k) = zret zk_X9_circleThrough 115 ls st (k.1 + 0, k.2 + 0) (m_X9_y [r, v0] s) := zf_callV (as := [v0]) 1 rfl rfl h
theorem zr_X9_circleThrough_115 (ls : zLs) (st : List zAV) (s : zAS) (k : Nat × Nat) (r v0 v1 v2 v3 : zAV) (h : zcok zEM 9 0 0 (zR_X9_circleThrough).cells (zR_X9_circleThrough).slots r st k) : zev zk_X9_circleThrough (115, ls, v3 :: v2 :: v1 :: v0 :: r :: st, s, k) = zret zk_X9_circleThrough 118 ls st (k.1 + 0, k.2 + 0) (m_X9_squareOf [r, v0, v1, v2, v3] s) := zf_callV (as := [v3, v2, v1, v0]) 4 rfl rfl h
theorem zr_X9_circleThrough_118 (ls : zLs) (st : List zAV) (s : zAS) (k : Nat × Nat) (r v0 v1 v2 : zAV) (h : zcok zEM 9 0 0 (zR_X9_circleThrough).cells (zR_X9_circleThrough).slots r st k) : zev zk_X9_circleThrough (118, ls, v2 :: v1 :: v0 :: r :: st, s, k) = zret zk_X9_circleThrough 121 ls st (k.1 + 0, k.2 + 0) (m_X9_lay [r, v0, v1, v2] s) := zf_callV (as := [v2, v1, v0]) 3 rfl rfl h
theorem zr_X9_circleThrough_121 (ls : zLs) (s : zAS) (k : Nat × Nat) (x : Int32) (hx : x = 0 ∨ x = 1) : zev zk_X9_circleThrough (121, ls, [Sum.inl (Value.int x)], s, k) = some (.inl (some (Sum.inl (Value.int x))), s) := zf_retz rfl hx
/-! X9_onLine: PrimePlaneModel.onLine(II)Z -/
abbrev zR_X9_onLine : Room := ({ frames := 3, cells := 0, slots := 0, locals := 66 } : Room)
noncomputable def zl_X9_onLine : List (Nat × zOp) := [(0, z_lda 0 1), (1, z_ldi 1 2), (2, z_callV zEM 9 m_X9_x 1 0 0 (zR_X9_onLine).cells (zR_X9_onLine).slots 5), (5, z_sti 3 6), (6, z_lda 0 7), (7, z_ldi 1 8), (8, z_callV zEM 9 m_X9_y 1 0 0 (zR_X9_onLine).cells (zR_X9_onLine).slots 11), (11, z_sti 4 13), (13, z_ldi 4 15), (15, z_if (fun x => decide (¬ x = 0)) 33 18), (18, z_lda 0 19), (19, z_lda 0 20), (20, z_ldi 1 21), (21, z_callV zEM 9 m_X9_z 1 0 0 (zR_X9_onLine).cells (zR_X9_onLine).slots 24), (24, z_neg 25), (25, z_ldi 2 26), (26, z_ic (0) 27), (27, z_callV zEM 9 m_X9_lay 3 0 0 (zR_X9_onLine).cells (zR_X9_onLine).slots 30), (30, z_goto 60), (33, z_lda 0 34), (34, z_ldi 2 35), (35, z_lda 0 36), (36, z_ldi 3 37), (37, z_ldi 2 38), (38, z_bin (fun x y => x * y) 39), (39, z_lda 0 40), (40, z_ldi 1 41), (41, z_callV zEM 9 m_X9_z 1 0 0 (zR_X9_onLine).cells (zR_X9_onLine).slots 44), (44, z_bin (fun x y => x + y) 45), (45, z_neg 46), (46, z_callV zEM 9 m_X9_mod 1 0 0 (zR_X9_onLine).cells (zR_X9_onLine).slots 49), (49, z_lda 0 50), (50, z_ldi 4 52), (52, z_callV zEM 9 m_X9_opposite 1 0 0 (zR_X9_onLine).cells (zR_X9_onLine).slots 55), (55, z_bin (fun x y => x * y) 56), (56, z_ic (0) 57), (57, z_callV zEM 9 m_X9_lay 3 0 0 (zR_X9_onLine).cells (zR_X9_onLine).slots 60), (60, z_reti true)]
noncomputable def zk_X9_onLine (pc : Nat) : Option zOp := zlook zl_X9_onLine pc
noncomputable def m_X9_onLine : List zAV → zAS → Option zOut := zmeth zk_X9_onLine 5
set_option maxRecDepth 100000 in
set_option maxHeartbeats 4000000 in
theorem zcs_X9_onLine {R : Room} (hR : R = zR_X9_onLine) : ∀ q ∈ zl_X9_onLine, zS zEM yX9_onLine.cls cX9_onLine 5 wsX9_onLine (some .boolean) R q.1 q.2 := by
  subst hR
  refine List.forall_mem_cons.mpr ⟨zs_aload_n dX9_onLine_0 rfl, ?_⟩
  refine List.forall_mem_cons.mpr ⟨zs_iload_n dX9_onLine_1 rfl, ?_⟩
  refine List.forall_mem_cons.mpr ⟨zs_callV (ci := 9) (rm := zR_X9_x) (n := 1) rfl zM_X9_x gX9_onLine_X9_x rfl (by decide +kernel) ⟨by decide, by decide⟩ dX9_onLine_2, ?_⟩
  refine List.forall_mem_cons.mpr ⟨zs_istore_n dX9_onLine_5 rfl, ?_⟩
  refine List.forall_mem_cons.mpr ⟨zs_aload_n dX9_onLine_6 rfl, ?_⟩
  refine List.forall_mem_cons.mpr ⟨zs_iload_n dX9_onLine_7 rfl, ?_⟩
  refine List.forall_mem_cons.mpr ⟨zs_callV (ci := 9) (rm := zR_X9_y) (n := 1) rfl zM_X9_y gX9_onLine_X9_y rfl (by decide +kernel) ⟨by decide, by decide⟩ dX9_onLine_8, ?_⟩
  refine List.forall_mem_cons.mpr ⟨zs_istore dX9_onLine_11, ?_⟩
  refine List.forall_mem_cons.mpr ⟨zs_iload dX9_onLine_13, ?_⟩
  refine List.forall_mem_cons.mpr ⟨zs_ifne dX9_onLine_15 (by decide), ?_⟩
  refine List.forall_mem_cons.mpr ⟨zs_aload_n dX9_onLine_18 rfl, ?_⟩
  refine List.forall_mem_cons.mpr ⟨zs_aload_n dX9_onLine_19 rfl, ?_⟩
  refine List.forall_mem_cons.mpr ⟨zs_iload_n dX9_onLine_20 rfl, ?_⟩
  refine List.forall_mem_cons.mpr ⟨zs_callV (ci := 9) (rm := zR_X9_z) (n := 1) rfl zM_X9_z gX9_onLine_X9_z rfl (by decide +kernel) ⟨by decide, by decide⟩ dX9_onLine_21, ?_⟩
  refine List.forall_mem_cons.mpr ⟨zs_ineg dX9_onLine_24, ?_⟩
  refine List.forall_mem_cons.mpr ⟨zs_iload_n dX9_onLine_25 rfl, ?_⟩
  refine List.forall_mem_cons.mpr ⟨zs_iconst dX9_onLine_26 (by decide), ?_⟩
  refine List.forall_mem_cons.mpr ⟨zs_callV (ci := 9) (rm := zR_X9_lay) (n := 3) rfl zM_X9_lay gX9_onLine_X9_lay rfl (by decide +kernel) ⟨by decide, by decide⟩ dX9_onLine_27, ?_⟩
  refine List.forall_mem_cons.mpr ⟨zs_goto dX9_onLine_30 (by decide), ?_⟩
  refine List.forall_mem_cons.mpr ⟨zs_aload_n dX9_onLine_33 rfl, ?_⟩
  refine List.forall_mem_cons.mpr ⟨zs_iload_n dX9_onLine_34 rfl, ?_⟩
  refine List.forall_mem_cons.mpr ⟨zs_aload_n dX9_onLine_35 rfl, ?_⟩
  refine List.forall_mem_cons.mpr ⟨zs_iload_n dX9_onLine_36 rfl, ?_⟩
  refine List.forall_mem_cons.mpr ⟨zs_iload_n dX9_onLine_37 rfl, ?_⟩
  refine List.forall_mem_cons.mpr ⟨zs_imul dX9_onLine_38, ?_⟩
  refine List.forall_mem_cons.mpr ⟨zs_aload_n dX9_onLine_39 rfl, ?_⟩
  refine List.forall_mem_cons.mpr ⟨zs_iload_n dX9_onLine_40 rfl, ?_⟩
  refine List.forall_mem_cons.mpr ⟨zs_callV (ci := 9) (rm := zR_X9_z) (n := 1) rfl zM_X9_z gX9_onLine_X9_z rfl (by decide +kernel) ⟨by decide, by decide⟩ dX9_onLine_41, ?_⟩
  refine List.forall_mem_cons.mpr ⟨zs_iadd dX9_onLine_44, ?_⟩
  refine List.forall_mem_cons.mpr ⟨zs_ineg dX9_onLine_45, ?_⟩
  refine List.forall_mem_cons.mpr ⟨zs_callV (ci := 9) (rm := zR_X9_mod) (n := 1) rfl zM_X9_mod gX9_onLine_X9_mod rfl (by decide +kernel) ⟨by decide, by decide⟩ dX9_onLine_46, ?_⟩
  refine List.forall_mem_cons.mpr ⟨zs_aload_n dX9_onLine_49 rfl, ?_⟩
  refine List.forall_mem_cons.mpr ⟨zs_iload dX9_onLine_50, ?_⟩
  refine List.forall_mem_cons.mpr ⟨zs_callV (ci := 9) (rm := zR_X9_opposite) (n := 1) rfl zM_X9_opposite gX9_onLine_X9_opposite rfl (by decide +kernel) ⟨by decide, by decide⟩ dX9_onLine_52, ?_⟩
  refine List.forall_mem_cons.mpr ⟨zs_imul dX9_onLine_55, ?_⟩
  refine List.forall_mem_cons.mpr ⟨zs_iconst dX9_onLine_56 (by decide), ?_⟩
  refine List.forall_mem_cons.mpr ⟨zs_callV (ci := 9) (rm := zR_X9_lay) (n := 3) rfl zM_X9_lay gX9_onLine_X9_lay rfl (by decide +kernel) ⟨by decide, by decide⟩ dX9_onLine_57, ?_⟩
  refine List.forall_mem_cons.mpr ⟨zs_reti (ty := .boolean) rfl (fun x h => (znz x h).1) dX9_onLine_60, ?_⟩
  exact fun _ h => absurd h List.not_mem_nil
theorem zM_X9_onLine : zMeets zEM yX9_onLine wsX9_onLine zR_X9_onLine m_X9_onLine := zmeth_M zEMok (zlook_all (zcs_X9_onLine rfl)) (by decide +kernel) rfl
theorem zr_X9_onLine_0 (a1 a2 a3 a4 : Option zAV) (st : List zAV) (s : zAS) (k : Nat × Nat) (o : Nat × Nat) : zev zk_X9_onLine (0, [some (Sum.inr o), a1, a2, a3, a4], st, s, k) = zev zk_X9_onLine (1, [some (Sum.inr o), a1, a2, a3, a4], Sum.inr o :: st, s, k) := zev_go rfl rfl
theorem zr_X9_onLine_1 (a0 a2 a3 a4 : Option zAV) (st : List zAV) (s : zAS) (k : Nat × Nat) (x : Int32) : zev zk_X9_onLine (1, [a0, some (Sum.inl (Value.int x)), a2, a3, a4], st, s, k) = zev zk_X9_onLine (2, [a0, some (Sum.inl (Value.int x)), a2, a3, a4], Sum.inl (Value.int x) :: st, s, k) := zev_go rfl rfl
theorem zr_X9_onLine_2 (ls : zLs) (st : List zAV) (s : zAS) (k : Nat × Nat) (r v0 : zAV) (h : zcok zEM 9 0 0 (zR_X9_onLine).cells (zR_X9_onLine).slots r st k) : zev zk_X9_onLine (2, ls, v0 :: r :: st, s, k) = zret zk_X9_onLine 5 ls st (k.1 + 0, k.2 + 0) (m_X9_x [r, v0] s) := zf_callV (as := [v0]) 1 rfl rfl h
theorem zr_X9_onLine_5 (a0 a1 a2 a3 a4 : Option zAV) (st : List zAV) (s : zAS) (k : Nat × Nat) (x : Int32) : zev zk_X9_onLine (5, [a0, a1, a2, a3, a4], Sum.inl (Value.int x) :: st, s, k) = zev zk_X9_onLine (6, [a0, a1, zk1 a2, some (Sum.inl (Value.int x)), a4], st, s, k) := zev_go rfl rfl
theorem zr_X9_onLine_6 (a1 a2 a3 a4 : Option zAV) (st : List zAV) (s : zAS) (k : Nat × Nat) (o : Nat × Nat) : zev zk_X9_onLine (6, [some (Sum.inr o), a1, a2, a3, a4], st, s, k) = zev zk_X9_onLine (7, [some (Sum.inr o), a1, a2, a3, a4], Sum.inr o :: st, s, k) := zev_go rfl rfl
theorem zr_X9_onLine_7 (a0 a2 a3 a4 : Option zAV) (st : List zAV) (s : zAS) (k : Nat × Nat) (x : Int32) : zev zk_X9_onLine (7, [a0, some (Sum.inl (Value.int x)), a2, a3, a4], st, s, k) = zev zk_X9_onLine (8, [a0, some (Sum.inl (Value.int x)), a2, a3, a4], Sum.inl (Value.int x) :: st, s, k) := zev_go rfl rfl
theorem zr_X9_onLine_8 (ls : zLs) (st : List zAV) (s : zAS) (k : Nat × Nat) (r v0 : zAV) (h : zcok zEM 9 0 0 (zR_X9_onLine).cells (zR_X9_onLine).slots r st k) : zev zk_X9_onLine (8, ls, v0 :: r :: st, s, k) = zret zk_X9_onLine 11 ls st (k.1 + 0, k.2 + 0) (m_X9_y [r, v0] s) := zf_callV (as := [v0]) 1 rfl rfl h
theorem zr_X9_onLine_11 (a0 a1 a2 a3 a4 : Option zAV) (st : List zAV) (s : zAS) (k : Nat × Nat) (x : Int32) : zev zk_X9_onLine (11, [a0, a1, a2, a3, a4], Sum.inl (Value.int x) :: st, s, k) = zev zk_X9_onLine (13, [a0, a1, a2, zk1 a3, some (Sum.inl (Value.int x))], st, s, k) := zev_go rfl rfl
theorem zr_X9_onLine_13 (a0 a1 a2 a3 : Option zAV) (st : List zAV) (s : zAS) (k : Nat × Nat) (x : Int32) : zev zk_X9_onLine (13, [a0, a1, a2, a3, some (Sum.inl (Value.int x))], st, s, k) = zev zk_X9_onLine (15, [a0, a1, a2, a3, some (Sum.inl (Value.int x))], Sum.inl (Value.int x) :: st, s, k) := zev_go rfl rfl
theorem zr_X9_onLine_15 (ls : zLs) (st : List zAV) (s : zAS) (k : Nat × Nat) (x : Int32) : zev zk_X9_onLine (15, ls, Sum.inl (Value.int x) :: st, s, k) = if decide (¬ x = 0) = true then zev zk_X9_onLine (33, ls, st, s, k) else zev zk_X9_onLine (18, ls, st, s, k) := zf_if (f := fun x => decide (¬ x = 0)) rfl
theorem zr_X9_onLine_18 (a1 a2 a3 a4 : Option zAV) (st : List zAV) (s : zAS) (k : Nat × Nat) (o : Nat × Nat) : zev zk_X9_onLine (18, [some (Sum.inr o), a1, a2, a3, a4], st, s, k) = zev zk_X9_onLine (19, [some (Sum.inr o), a1, a2, a3, a4], Sum.inr o :: st, s, k) := zev_go rfl rfl
theorem zr_X9_onLine_19 (a1 a2 a3 a4 : Option zAV) (st : List zAV) (s : zAS) (k : Nat × Nat) (o : Nat × Nat) : zev zk_X9_onLine (19, [some (Sum.inr o), a1, a2, a3, a4], st, s, k) = zev zk_X9_onLine (20, [some (Sum.inr o), a1, a2, a3, a4], Sum.inr o :: st, s, k) := zev_go rfl rfl
theorem zr_X9_onLine_20 (a0 a2 a3 a4 : Option zAV) (st : List zAV) (s : zAS) (k : Nat × Nat) (x : Int32) : zev zk_X9_onLine (20, [a0, some (Sum.inl (Value.int x)), a2, a3, a4], st, s, k) = zev zk_X9_onLine (21, [a0, some (Sum.inl (Value.int x)), a2, a3, a4], Sum.inl (Value.int x) :: st, s, k) := zev_go rfl rfl
theorem zr_X9_onLine_21 (ls : zLs) (st : List zAV) (s : zAS) (k : Nat × Nat) (r v0 : zAV) (h : zcok zEM 9 0 0 (zR_X9_onLine).cells (zR_X9_onLine).slots r st k) : zev zk_X9_onLine (21, ls, v0 :: r :: st, s, k) = zret zk_X9_onLine 24 ls st (k.1 + 0, k.2 + 0) (m_X9_z [r, v0] s) := zf_callV (as := [v0]) 1 rfl rfl h
theorem zr_X9_onLine_24 (ls : zLs) (st : List zAV) (s : zAS) (k : Nat × Nat) (x : Int32) : zev zk_X9_onLine (24, ls, Sum.inl (Value.int x) :: st, s, k) = zev zk_X9_onLine (25, ls, Sum.inl (Value.int (-x)) :: st, s, k) := zev_go rfl rfl
theorem zr_X9_onLine_25 (a0 a1 a3 a4 : Option zAV) (st : List zAV) (s : zAS) (k : Nat × Nat) (x : Int32) : zev zk_X9_onLine (25, [a0, a1, some (Sum.inl (Value.int x)), a3, a4], st, s, k) = zev zk_X9_onLine (26, [a0, a1, some (Sum.inl (Value.int x)), a3, a4], Sum.inl (Value.int x) :: st, s, k) := zev_go rfl rfl
theorem zr_X9_onLine_26 (ls : zLs) (st : List zAV) (s : zAS) (k : Nat × Nat) : zev zk_X9_onLine (26, ls, st, s, k) = zev zk_X9_onLine (27, ls, Sum.inl (Value.int (0)) :: st, s, k) := zev_go rfl rfl
theorem zr_X9_onLine_27 (ls : zLs) (st : List zAV) (s : zAS) (k : Nat × Nat) (r v0 v1 v2 : zAV) (h : zcok zEM 9 0 0 (zR_X9_onLine).cells (zR_X9_onLine).slots r st k) : zev zk_X9_onLine (27, ls, v2 :: v1 :: v0 :: r :: st, s, k) = zret zk_X9_onLine 30 ls st (k.1 + 0, k.2 + 0) (m_X9_lay [r, v0, v1, v2] s) := zf_callV (as := [v2, v1, v0]) 3 rfl rfl h
theorem zr_X9_onLine_30 (ls : zLs) (st : List zAV) (s : zAS) (k : Nat × Nat) : zev zk_X9_onLine (30, ls, st, s, k) = zev zk_X9_onLine (60, ls, st, s, k) := zev_go rfl rfl
theorem zr_X9_onLine_33 (a1 a2 a3 a4 : Option zAV) (st : List zAV) (s : zAS) (k : Nat × Nat) (o : Nat × Nat) : zev zk_X9_onLine (33, [some (Sum.inr o), a1, a2, a3, a4], st, s, k) = zev zk_X9_onLine (34, [some (Sum.inr o), a1, a2, a3, a4], Sum.inr o :: st, s, k) := zev_go rfl rfl
theorem zr_X9_onLine_34 (a0 a1 a3 a4 : Option zAV) (st : List zAV) (s : zAS) (k : Nat × Nat) (x : Int32) : zev zk_X9_onLine (34, [a0, a1, some (Sum.inl (Value.int x)), a3, a4], st, s, k) = zev zk_X9_onLine (35, [a0, a1, some (Sum.inl (Value.int x)), a3, a4], Sum.inl (Value.int x) :: st, s, k) := zev_go rfl rfl
theorem zr_X9_onLine_35 (a1 a2 a3 a4 : Option zAV) (st : List zAV) (s : zAS) (k : Nat × Nat) (o : Nat × Nat) : zev zk_X9_onLine (35, [some (Sum.inr o), a1, a2, a3, a4], st, s, k) = zev zk_X9_onLine (36, [some (Sum.inr o), a1, a2, a3, a4], Sum.inr o :: st, s, k) := zev_go rfl rfl
theorem zr_X9_onLine_36 (a0 a1 a2 a4 : Option zAV) (st : List zAV) (s : zAS) (k : Nat × Nat) (x : Int32) : zev zk_X9_onLine (36, [a0, a1, a2, some (Sum.inl (Value.int x)), a4], st, s, k) = zev zk_X9_onLine (37, [a0, a1, a2, some (Sum.inl (Value.int x)), a4], Sum.inl (Value.int x) :: st, s, k) := zev_go rfl rfl
theorem zr_X9_onLine_37 (a0 a1 a3 a4 : Option zAV) (st : List zAV) (s : zAS) (k : Nat × Nat) (x : Int32) : zev zk_X9_onLine (37, [a0, a1, some (Sum.inl (Value.int x)), a3, a4], st, s, k) = zev zk_X9_onLine (38, [a0, a1, some (Sum.inl (Value.int x)), a3, a4], Sum.inl (Value.int x) :: st, s, k) := zev_go rfl rfl
theorem zr_X9_onLine_38 (ls : zLs) (st : List zAV) (s : zAS) (k : Nat × Nat) (x y : Int32) : zev zk_X9_onLine (38, ls, Sum.inl (Value.int y) :: Sum.inl (Value.int x) :: st, s, k) = zev zk_X9_onLine (39, ls, Sum.inl (Value.int (x * y)) :: st, s, k) := zev_go rfl rfl
theorem zr_X9_onLine_39 (a1 a2 a3 a4 : Option zAV) (st : List zAV) (s : zAS) (k : Nat × Nat) (o : Nat × Nat) : zev zk_X9_onLine (39, [some (Sum.inr o), a1, a2, a3, a4], st, s, k) = zev zk_X9_onLine (40, [some (Sum.inr o), a1, a2, a3, a4], Sum.inr o :: st, s, k) := zev_go rfl rfl
theorem zr_X9_onLine_40 (a0 a2 a3 a4 : Option zAV) (st : List zAV) (s : zAS) (k : Nat × Nat) (x : Int32) : zev zk_X9_onLine (40, [a0, some (Sum.inl (Value.int x)), a2, a3, a4], st, s, k) = zev zk_X9_onLine (41, [a0, some (Sum.inl (Value.int x)), a2, a3, a4], Sum.inl (Value.int x) :: st, s, k) := zev_go rfl rfl
theorem zr_X9_onLine_41 (ls : zLs) (st : List zAV) (s : zAS) (k : Nat × Nat) (r v0 : zAV) (h : zcok zEM 9 0 0 (zR_X9_onLine).cells (zR_X9_onLine).slots r st k) : zev zk_X9_onLine (41, ls, v0 :: r :: st, s, k) = zret zk_X9_onLine 44 ls st (k.1 + 0, k.2 + 0) (m_X9_z [r, v0] s) := zf_callV (as := [v0]) 1 rfl rfl h
theorem zr_X9_onLine_44 (ls : zLs) (st : List zAV) (s : zAS) (k : Nat × Nat) (x y : Int32) : zev zk_X9_onLine (44, ls, Sum.inl (Value.int y) :: Sum.inl (Value.int x) :: st, s, k) = zev zk_X9_onLine (45, ls, Sum.inl (Value.int (x + y)) :: st, s, k) := zev_go rfl rfl
theorem zr_X9_onLine_45 (ls : zLs) (st : List zAV) (s : zAS) (k : Nat × Nat) (x : Int32) : zev zk_X9_onLine (45, ls, Sum.inl (Value.int x) :: st, s, k) = zev zk_X9_onLine (46, ls, Sum.inl (Value.int (-x)) :: st, s, k) := zev_go rfl rfl
theorem zr_X9_onLine_46 (ls : zLs) (st : List zAV) (s : zAS) (k : Nat × Nat) (r v0 : zAV) (h : zcok zEM 9 0 0 (zR_X9_onLine).cells (zR_X9_onLine).slots r st k) : zev zk_X9_onLine (46, ls, v0 :: r :: st, s, k) = zret zk_X9_onLine 49 ls st (k.1 + 0, k.2 + 0) (m_X9_mod [r, v0] s) := zf_callV (as := [v0]) 1 rfl rfl h
theorem zr_X9_onLine_49 (a1 a2 a3 a4 : Option zAV) (st : List zAV) (s : zAS) (k : Nat × Nat) (o : Nat × Nat) : zev zk_X9_onLine (49, [some (Sum.inr o), a1, a2, a3, a4], st, s, k) = zev zk_X9_onLine (50, [some (Sum.inr o), a1, a2, a3, a4], Sum.inr o :: st, s, k) := zev_go rfl rfl
theorem zr_X9_onLine_50 (a0 a1 a2 a3 : Option zAV) (st : List zAV) (s : zAS) (k : Nat × Nat) (x : Int32) : zev zk_X9_onLine (50, [a0, a1, a2, a3, some (Sum.inl (Value.int x))], st, s, k) = zev zk_X9_onLine (52, [a0, a1, a2, a3, some (Sum.inl (Value.int x))], Sum.inl (Value.int x) :: st, s, k) := zev_go rfl rfl
theorem zr_X9_onLine_52 (ls : zLs) (st : List zAV) (s : zAS) (k : Nat × Nat) (r v0 : zAV) (h : zcok zEM 9 0 0 (zR_X9_onLine).cells (zR_X9_onLine).slots r st k) : zev zk_X9_onLine (52, ls, v0 :: r :: st, s, k) = zret zk_X9_onLine 55 ls st (k.1 + 0, k.2 + 0) (m_X9_opposite [r, v0] s) := zf_callV (as := [v0]) 1 rfl rfl h
theorem zr_X9_onLine_55 (ls : zLs) (st : List zAV) (s : zAS) (k : Nat × Nat) (x y : Int32) : zev zk_X9_onLine (55, ls, Sum.inl (Value.int y) :: Sum.inl (Value.int x) :: st, s, k) = zev zk_X9_onLine (56, ls, Sum.inl (Value.int (x * y)) :: st, s, k) := zev_go rfl rfl
theorem zr_X9_onLine_56 (ls : zLs) (st : List zAV) (s : zAS) (k : Nat × Nat) : zev zk_X9_onLine (56, ls, st, s, k) = zev zk_X9_onLine (57, ls, Sum.inl (Value.int (0)) :: st, s, k) := zev_go rfl rfl
theorem zr_X9_onLine_57 (ls : zLs) (st : List zAV) (s : zAS) (k : Nat × Nat) (r v0 v1 v2 : zAV) (h : zcok zEM 9 0 0 (zR_X9_onLine).cells (zR_X9_onLine).slots r st k) : zev zk_X9_onLine (57, ls, v2 :: v1 :: v0 :: r :: st, s, k) = zret zk_X9_onLine 60 ls st (k.1 + 0, k.2 + 0) (m_X9_lay [r, v0, v1, v2] s) := zf_callV (as := [v2, v1, v0]) 3 rfl rfl h
theorem zr_X9_onLine_60 (ls : zLs) (s : zAS) (k : Nat × Nat) (x : Int32) (hx : x = 0 ∨ x = 1) : zev zk_X9_onLine (60, ls, [Sum.inl (Value.int x)], s, k) = some (.inl (some (Sum.inl (Value.int x))), s) := zf_retz rfl hx
/-! X9_find: PrimePlaneModel.find(I)Z -/
abbrev zR_X9_find : Room := ({ frames := 6, cells := 0, slots := 0, locals := 139 } : Room)
noncomputable def zl_X9_find : List (Nat × zOp) := [(0, z_lda 0 1), (1, z_ldi 1 2), (2, z_ic (2) 3), (3, z_callV zEM 9 m_X9_get 2 0 0 (zR_X9_find).cells (zR_X9_find).slots 6), (6, z_sti 2 7), (7, z_lda 0 8), (8, z_ldi 1 9), (9, z_ic (3) 10), (10, z_callV zEM 9 m_X9_get 2 0 0 (zR_X9_find).cells (zR_X9_find).slots 13), (13, z_sti 3 14), (14, z_lda 0 15), (15, z_ldi 1 16), (16, z_ic (4) 17), (17, z_callV zEM 9 m_X9_get 2 0 0 (zR_X9_find).cells (zR_X9_find).slots 20), (20, z_sti 4 22), (22, z_lda 0 23), (23, z_ldi 1 24), (24, z_ic (1) 25), (25, z_callV zEM 9 m_X9_get 2 0 0 (zR_X9_find).cells (zR_X9_find).slots 28), (28, z_tsw 0 21 [132, 151, 163, 198, 198, 248, 248, 271, 311, 470, 318, 368, 407, 446, 470, 470, 470, 470, 470, 470, 453, 461] 470), (132, z_lda 0 133), (133, z_lda 0 134), (134, z_ldi 1 135), (135, z_ic (5) 136), (136, z_callV zEM 9 m_X9_get 2 0 0 (zR_X9_find).cells (zR_X9_find).slots 139), (139, z_lda 0 140), (140, z_ldi 1 141), (141, z_ic (6) 143), (143, z_callV zEM 9 m_X9_get 2 0 0 (zR_X9_find).cells (zR_X9_find).slots 146), (146, z_ic (0) 147), (147, z_callV zEM 9 m_X9_lay 3 0 0 (zR_X9_find).cells (zR_X9_find).slots 150), (150, z_reti true), (151, z_lda 0 152), (152, z_ldi 2 153), (153, z_lda 0 154), (154, z_ldi 1 155), (155, z_ic (5) 156), (156, z_callV zEM 9 m_X9_get 2 0 0 (zR_X9_find).cells (zR_X9_find).slots 159), (159, z_callV zEM 9 m_X9_onLine 2 0 0 (zR_X9_find).cells (zR_X9_find).slots 162), (162, z_reti true), (163, z_lda 0 164), (164, z_lda 0 165), (165, z_ldi 2 166), (166, z_callV zEM 9 m_X9_x 1 0 0 (zR_X9_find).cells (zR_X9_find).slots 169), (169, z_lda 0 170), (170, z_ldi 2 171), (171, z_callV zEM 9 m_X9_y 1 0 0 (zR_X9_find).cells (zR_X9_find).slots 174), (174, z_lda 0 175), (175, z_ldi 2 176), (176, z_callV zEM 9 m_X9_z 1 0 0 (zR_X9_find).cells (zR_X9_find).slots 179), (179, z_lda 0 180), (180, z_ldi 3 181), (181, z_callV zEM 9 m_X9_x 1 0 0 (zR_X9_find).cells (zR_X9_find).slots 184), (184, z_lda 0 185), (185, z_ldi 3 186), (186, z_callV zEM 9 m_X9_y 1 0 0 (zR_X9_find).cells (zR_X9_find).slots 189), (189, z_lda 0 190), (190, z_ldi 3 191), (191, z_callV zEM 9 m_X9_z 1 0 0 (zR_X9_find).cells (zR_X9_find).slots 194), (194, z_callV zEM 9 m_X9_intersect 6 0 0 (zR_X9_find).cells (zR_X9_find).slots 197), (197, z_reti true), (198, z_lda 0 199), (199, z_lda 0 200), (200, z_ldi 2 201), (201, z_callV zEM 9 m_X9_x 1 0 0 (zR_X9_find).cells (zR_X9_find).slots 204), (204, z_lda 0 205), (205, z_ldi 2 206), (206, z_callV zEM 9 m_X9_y 1 0 0 (zR_X9_find).cells (zR_X9_find).slots 209), (209, z_lda 0 210), (210, z_ldi 2 211), (211, z_callV zEM 9 m_X9_z 1 0 0 (zR_X9_find).cells (zR_X9_find).slots 214), (214, z_lda 0 215), (215, z_ldi 3 216), (216, z_callV zEM 9 m_X9_x 1 0 0 (zR_X9_find).cells (zR_X9_find).slots 219), (219, z_lda 0 220), (220, z_ldi 3 221), (221, z_callV zEM 9 m_X9_y 1 0 0 (zR_X9_find).cells (zR_X9_find).slots 224), (224, z_lda 0 225), (225, z_ldi 3 226), (226, z_callV zEM 9 m_X9_z 1 0 0 (zR_X9_find).cells (zR_X9_find).slots 229), (229, z_lda 0 230), (230, z_ldi 1 231), (231, z_ic (1) 232), (232, z_callV zEM 9 m_X9_get 2 0 0 (zR_X9_find).cells (zR_X9_find).slots 235), (235, z_ic (4) 236), (236, z_cmp (fun x y => decide (¬ x = y)) 243 239), (239, z_ic (1) 240), (240, z_goto 244), (243, z_ic (0) 244), (244, z_callV zEM 9 m_X9_common 7 0 0 (zR_X9_find).cells (zR_X9_find).slots 247), (247, z_reti true), (248, z_lda 0 249), (249, z_ldi 2 250), (250, z_ldi 3 251), (251, z_lda 0 252), (252, z_ldi 1 253), (253, z_ic (1) 254), (254, z_callV zEM 9 m_X9_get 2 0 0 (zR_X9_find).cells (zR_X9_find).slots 257), (257, z_ic (6) 259), (259, z_cmp (fun x y => decide (¬ x = y)) 266 262), (262, z_ic (1) 263), (263, z_goto 267), (266, z_ic (0) 267), (267, z_callV zEM 9 m_X9_commonOfCircles 3 0 0 (zR_X9_find).cells (zR_X9_find).slots 270), (270, z_reti true), (271, z_lda 0 272), (272, z_lda 0 273), (273, z_ldi 2 274), (274, z_callV zEM 9 m_X9_x 1 0 0 (zR_X9_find).cells (zR_X9_find).slots 277), (277, z_lda 0 278), (278, z_ldi 3 279), (279, z_callV zEM 9 m_X9_x 1 0 0 (zR_X9_find).cells (zR_X9_find).slots 282), (282, z_bin (fun x y => x + y) 283), (283, z_lda 0 284), (284, z_ic (2) 285), (285, z_callV zEM 9 m_X9_opposite 1 0 0 (zR_X9_find).cells (zR_X9_find).slots 288), (288, z_bin (fun x y => x * y) 289), (289, z_lda 0 290), (290, z_ldi 2 291), (291, z_callV zEM 9 m_X9_y 1 0 0 (zR_X9_find).cells (zR_X9_find).slots 294), (294, z_lda 0 295), (295, z_ldi 3 296), (296, z_callV zEM 9 m_X9_y 1 0 0 (zR_X9_find).cells (zR_X9_find).slots 299), (299, z_bin (fun x y => x + y) 300), (300, z_lda 0 301), (301, z_ic (2) 302), (302, z_callV zEM 9 m_X9_opposite 1 0 0 (zR_X9_find).cells (zR_X9_find).slots 305), (305, z_bin (fun x y => x * y) 306), (306, z_ic (0) 307), (307, z_callV zEM 9 m_X9_lay 3 0 0 (zR_X9_find).cells (zR_X9_find).slots 310), (310, z_reti true), (311, z_lda 0 312), (312, z_ldi 2 313), (313, z_ldi 3 314), (314, z_callV zEM 9 m_X9_mirror 2 0 0 (zR_X9_find).cells (zR_X9_find).slots 317), (317, z_reti true), (318, z_lda 0 319), (319, z_lda 0 320), (320, z_ldi 2 321), (321, z_callV zEM 9 m_X9_y 1 0 0 (zR_X9_find).cells (zR_X9_find).slots 324), (324, z_lda 0 325), (325, z_ldi 3 326), (326, z_callV zEM 9 m_X9_y 1 0 0 (zR_X9_find).cells (zR_X9_find).slots 329), (329, z_bin (fun x y => x - y) 330), (330, z_lda 0 331), (331, z_ldi 3 332), (332, z_callV zEM 9 m_X9_x 1 0 0 (zR_X9_find).cells (zR_X9_find).slots 335), (335, z_lda 0 336), (336, z_ldi 2 337), (337, z_callV zEM 9 m_X9_x 1 0 0 (zR_X9_find).cells (zR_X9_find).slots 340), (340, z_bin (fun x y => x - y) 341), (341, z_lda 0 342), (342, z_ldi 2 343), (343, z_callV zEM 9 m_X9_x 1 0 0 (zR_X9_find).cells (zR_X9_find).slots 346), (346, z_lda 0 347), (347, z_ldi 3 348), (348, z_callV zEM 9 m_X9_y 1 0 0 (zR_X9_find).cells (zR_X9_find).slots 351), (351, z_bin (fun x y => x * y) 352), (352, z_lda 0 353), (353, z_ldi 3 354), (354, z_callV zEM 9 m_X9_x 1 0 0 (zR_X9_find).cells (zR_X9_find).slots 357), (357, z_lda 0 358), (358, z_ldi 2 359), (359, z_callV zEM 9 m_X9_y 1 0 0 (zR_X9_find).cells (zR_X9_find).slots 362), (362, z_bin (fun x y => x * y) 363), (363, z_bin (fun x y => x - y) 364), (364, z_callV zEM 9 m_X9_layLine 3 0 0 (zR_X9_find).cells (zR_X9_find).slots 367), (367, z_reti true), (368, z_lda 0 369), (369, z_lda 0 370), (370, z_ldi 3 371), (371, z_callV zEM 9 m_X9_x 1 0 0 (zR_X9_find).cells (zR_X9_find).slots 374), (374, z_lda 0 375), (375, z_ldi 3 376), (376, z_callV zEM 9 m_X9_y 1 0 0 (zR_X9_find).cells (zR_X9_find).slots 379), (379, z_lda 0 380), (380, z_ldi 3 381), (381, z_callV zEM 9 m_X9_x 1 0 0 (zR_X9_find).cells (zR_X9_find).slots 384), (384, z_lda 0 385), (385, z_ldi 2 386), (386, z_callV zEM 9 m_X9_x 1 0 0 (zR_X9_find).cells (zR_X9_find).slots 389), (389, z_bin (fun x y => x * y) 390), (390, z_lda 0 391), (391, z_ldi 3 392), (392, z_callV zEM 9 m_X9_y 1 0 0 (zR_X9_find).cells (zR_X9_find).slots 395), (395, z_lda 0 396), (396, z_ldi 2 397), (397, z_callV zEM 9 m_X9_y 1 0 0 (zR_X9_find).cells (zR_X9_find).slots 400), (400, z_bin (fun x y => x * y) 401), (401, z_bin (fun x y => x + y) 402), (402, z_neg 403), (403, z_callV zEM 9 m_X9_lay 3 0 0 (zR_X9_find).cells (zR_X9_find).slots 406), (406, z_reti true), (407, z_lda 0 408), (408, z_lda 0 409), (409, z_ldi 3 410), (410, z_callV zEM 9 m_X9_y 1 0 0 (zR_X9_find).cells (zR_X9_find).slots 413), (413, z_neg 414), (414, z_lda 0 415), (415, z_ldi 3 416), (416, z_callV zEM 9 m_X9_x 1 0 0 (zR_X9_find).cells (zR_X9_find).slots 419), (419, z_lda 0 420), (420, z_ldi 3 421), (421, z_callV zEM 9 m_X9_y 1 0 0 (zR_X9_find).cells (zR_X9_find).slots 424), (424, z_lda 0 425), (425, z_ldi 2 426), (426, z_callV zEM 9 m_X9_x 1 0 0 (zR_X9_find).cells (zR_X9_find).slots 429), (429, z_bin (fun x y => x * y) 430), (430, z_lda 0 431), (431, z_ldi 3 432), (432, z_callV zEM 9 m_X9_x 1 0 0 (zR_X9_find).cells (zR_X9_find).slots 435), (435, z_lda 0 436), (436, z_ldi 2 437), (437, z_callV zEM 9 m_X9_y 1 0 0 (zR_X9_find).cells (zR_X9_find).slots 440), (440, z_bin (fun x y => x * y) 441), (441, z_bin (fun x y => x - y) 442), (442, z_callV zEM 9 m_X9_layLine 3 0 0 (zR_X9_find).cells (zR_X9_find).slots 445), (445, z_reti true), (446, z_lda 0 447), (447, z_ldi 2 448), (448, z_ldi 3 449), (449, z_callV zEM 9 m_X9_bisector 2 0 0 (zR_X9_find).cells (zR_X9_find).slots 452), (452, z_reti true), (453, z_lda 0 454), (454, z_ldi 2 455), (455, z_ldi 2 456), (456, z_ldi 3 457), (457, z_callV zEM 9 m_X9_layCircle 3 0 0 (zR_X9_find).cells (zR_X9_find).slots 460), (460, z_reti true), (461, z_lda 0 462), (462, z_ldi 2 463), (463, z_ldi 3 464), (464, z_ldi 4 466), (466, z_callV zEM 9 m_X9_layCircle 3 0 0 (zR_X9_find).cells (zR_X9_find).slots 469), (469, z_reti true), (470, z_lda 0 471), (471, z_ldi 2 472), (472, z_ldi 3 473), (473, z_ldi 4 475), (475, z_callV zEM 9 m_X9_circleThrough 3 0 0 (zR_X9_find).cells (zR_X9_find).slots 478), (478, z_reti true)]
noncomputable def zk_X9_find (pc : Nat) : Option zOp := zlook zl_X9_find pc
noncomputable def m_X9_find : List zAV → zAS → Option zOut := zmeth zk_X9_find 5
set_option maxRecDepth 100000 in
set_option maxHeartbeats 4000000 in
theorem zcs_X9_find {R : Room} (hR : R = zR_X9_find) : ∀ q ∈ zl_X9_find, zS zEM yX9_find.cls cX9_find 5 wsX9_find (some .boolean) R q.1 q.2 := by
  subst hR
  refine List.forall_mem_cons.mpr ⟨zs_aload_n dX9_find_0 rfl, ?_⟩
  refine List.forall_mem_cons.mpr ⟨zs_iload_n dX9_find_1 rfl, ?_⟩
  refine List.forall_mem_cons.mpr ⟨zs_iconst dX9_find_2 (by decide), ?_⟩
  refine List.forall_mem_cons.mpr ⟨zs_callV (ci := 9) (rm := zR_X9_get) (n := 2) rfl zM_X9_get gX9_find_X9_get rfl (by decide +kernel) ⟨by decide, by decide⟩ dX9_find_3, ?_⟩
  refine List.forall_mem_cons.mpr ⟨zs_istore_n dX9_find_6 rfl, ?_⟩
  refine List.forall_mem_cons.mpr ⟨zs_aload_n dX9_find_7 rfl, ?_⟩
  refine List.forall_mem_cons.mpr ⟨zs_iload_n dX9_find_8 rfl, ?_⟩
  refine List.forall_mem_cons.mpr ⟨zs_iconst dX9_find_9 (by decide), ?_⟩
  refine List.forall_mem_cons.mpr ⟨zs_callV (ci := 9) (rm := zR_X9_get) (n := 2) rfl zM_X9_get gX9_find_X9_get rfl (by decide +kernel) ⟨by decide, by decide⟩ dX9_find_10, ?_⟩
  refine List.forall_mem_cons.mpr ⟨zs_istore_n dX9_find_13 rfl, ?_⟩
  refine List.forall_mem_cons.mpr ⟨zs_aload_n dX9_find_14 rfl, ?_⟩
  refine List.forall_mem_cons.mpr ⟨zs_iload_n dX9_find_15 rfl, ?_⟩
  refine List.forall_mem_cons.mpr ⟨zs_iconst dX9_find_16 (by decide), ?_⟩
  refine List.forall_mem_cons.mpr ⟨zs_callV (ci := 9) (rm := zR_X9_get) (n := 2) rfl zM_X9_get gX9_find_X9_get rfl (by decide +kernel) ⟨by decide, by decide⟩ dX9_find_17, ?_⟩
  refine List.forall_mem_cons.mpr ⟨zs_istore dX9_find_20, ?_⟩
  refine List.forall_mem_cons.mpr ⟨zs_aload_n dX9_find_22 rfl, ?_⟩
  refine List.forall_mem_cons.mpr ⟨zs_iload_n dX9_find_23 rfl, ?_⟩
  refine List.forall_mem_cons.mpr ⟨zs_iconst dX9_find_24 (by decide), ?_⟩
  refine List.forall_mem_cons.mpr ⟨zs_callV (ci := 9) (rm := zR_X9_get) (n := 2) rfl zM_X9_get gX9_find_X9_get rfl (by decide +kernel) ⟨by decide, by decide⟩ dX9_find_25, ?_⟩
  refine List.forall_mem_cons.mpr ⟨zs_tsw dX9_find_28 (by decide) (by decide), ?_⟩
  refine List.forall_mem_cons.mpr ⟨zs_aload_n dX9_find_132 rfl, ?_⟩
  refine List.forall_mem_cons.mpr ⟨zs_aload_n dX9_find_133 rfl, ?_⟩
  refine List.forall_mem_cons.mpr ⟨zs_iload_n dX9_find_134 rfl, ?_⟩
  refine List.forall_mem_cons.mpr ⟨zs_iconst dX9_find_135 (by decide), ?_⟩
  refine List.forall_mem_cons.mpr ⟨zs_callV (ci := 9) (rm := zR_X9_get) (n := 2) rfl zM_X9_get gX9_find_X9_get rfl (by decide +kernel) ⟨by decide, by decide⟩ dX9_find_136, ?_⟩
  refine List.forall_mem_cons.mpr ⟨zs_aload_n dX9_find_139 rfl, ?_⟩
  refine List.forall_mem_cons.mpr ⟨zs_iload_n dX9_find_140 rfl, ?_⟩
  refine List.forall_mem_cons.mpr ⟨zs_bipush dX9_find_141 (by decide), ?_⟩
  refine List.forall_mem_cons.mpr ⟨zs_callV (ci := 9) (rm := zR_X9_get) (n := 2) rfl zM_X9_get gX9_find_X9_get rfl (by decide +kernel) ⟨by decide, by decide⟩ dX9_find_143, ?_⟩
  refine List.forall_mem_cons.mpr ⟨zs_iconst dX9_find_146 (by decide), ?_⟩
  refine List.forall_mem_cons.mpr ⟨zs_callV (ci := 9) (rm := zR_X9_lay) (n := 3) rfl zM_X9_lay gX9_find_X9_lay rfl (by decide +kernel) ⟨by decide, by decide⟩ dX9_find_147, ?_⟩
  refine List.forall_mem_cons.mpr ⟨zs_reti (ty := .boolean) rfl (fun x h => (znz x h).1) dX9_find_150, ?_⟩
  refine List.forall_mem_cons.mpr ⟨zs_aload_n dX9_find_151 rfl, ?_⟩
  refine List.forall_mem_cons.mpr ⟨zs_iload_n dX9_find_152 rfl, ?_⟩
  refine List.forall_mem_cons.mpr ⟨zs_aload_n dX9_find_153 rfl, ?_⟩
  refine List.forall_mem_cons.mpr ⟨zs_iload_n dX9_find_154 rfl, ?_⟩
  refine List.forall_mem_cons.mpr ⟨zs_iconst dX9_find_155 (by decide), ?_⟩
  refine List.forall_mem_cons.mpr ⟨zs_callV (ci := 9) (rm := zR_X9_get) (n := 2) rfl zM_X9_get gX9_find_X9_get rfl (by decide +kernel) ⟨by decide, by decide⟩ dX9_find_156, ?_⟩
  refine List.forall_mem_cons.mpr ⟨zs_callV (ci := 9) (rm := zR_X9_onLine) (n := 2) rfl zM_X9_onLine gX9_find_X9_onLine rfl (by decide +kernel) ⟨by decide, by decide⟩ dX9_find_159, ?_⟩
  refine List.forall_mem_cons.mpr ⟨zs_reti (ty := .boolean) rfl (fun x h => (znz x h).1) dX9_find_162, ?_⟩
  refine List.forall_mem_cons.mpr ⟨zs_aload_n dX9_find_163 rfl, ?_⟩
  refine List.forall_mem_cons.mpr ⟨zs_aload_n dX9_find_164 rfl, ?_⟩
  refine List.forall_mem_cons.mpr ⟨zs_iload_n dX9_find_165 rfl, ?_⟩
  refine List.forall_mem_cons.mpr ⟨zs_callV (ci := 9) (rm := zR_X9_x) (n := 1) rfl zM_X9_x gX9_find_X9_x rfl (by decide +kernel) ⟨by decide, by decide⟩ dX9_find_166, ?_⟩
  refine List.forall_mem_cons.mpr ⟨zs_aload_n dX9_find_169 rfl, ?_⟩
  refine List.forall_mem_cons.mpr ⟨zs_iload_n dX9_find_170 rfl, ?_⟩
  refine List.forall_mem_cons.mpr ⟨zs_callV (ci := 9) (rm := zR_X9_y) (n := 1) rfl zM_X9_y gX9_find_X9_y rfl (by decide +kernel) ⟨by decide, by decide⟩ dX9_find_171, ?_⟩
  refine List.forall_mem_cons.mpr ⟨zs_aload_n dX9_find_174 rfl, ?_⟩
  refine List.forall_mem_cons.mpr ⟨zs_iload_n dX9_find_175 rfl, ?_⟩
  refine List.forall_mem_cons.mpr ⟨zs_callV (ci := 9) (rm := zR_X9_z) (n := 1) rfl zM_X9_z gX9_find_X9_z rfl (by decide +kernel) ⟨by decide, by decide⟩ dX9_find_176, ?_⟩
  refine List.forall_mem_cons.mpr ⟨zs_aload_n dX9_find_179 rfl, ?_⟩
  refine List.forall_mem_cons.mpr ⟨zs_iload_n dX9_find_180 rfl, ?_⟩
  refine List.forall_mem_cons.mpr ⟨zs_callV (ci := 9) (rm := zR_X9_x) (n := 1) rfl zM_X9_x gX9_find_X9_x rfl (by decide +kernel) ⟨by decide, by decide⟩ dX9_find_181, ?_⟩
  refine List.forall_mem_cons.mpr ⟨zs_aload_n dX9_find_184 rfl, ?_⟩
  refine List.forall_mem_cons.mpr ⟨zs_iload_n dX9_find_185 rfl, ?_⟩
  refine List.forall_mem_cons.mpr ⟨zs_callV (ci := 9) (rm := zR_X9_y) (n := 1) rfl zM_X9_y gX9_find_X9_y rfl (by decide +kernel) ⟨by decide, by decide⟩ dX9_find_186, ?_⟩
  refine List.forall_mem_cons.mpr ⟨zs_aload_n dX9_find_189 rfl, ?_⟩
  refine List.forall_mem_cons.mpr ⟨zs_iload_n dX9_find_190 rfl, ?_⟩
  refine List.forall_mem_cons.mpr ⟨zs_callV (ci := 9) (rm := zR_X9_z) (n := 1) rfl zM_X9_z gX9_find_X9_z rfl (by decide +kernel) ⟨by decide, by decide⟩ dX9_find_191, ?_⟩
  refine List.forall_mem_cons.mpr ⟨zs_callV (ci := 9) (rm := zR_X9_intersect) (n := 6) rfl zM_X9_intersect gX9_find_X9_intersect rfl (by decide +kernel) ⟨by decide, by decide⟩ dX9_find_194, ?_⟩
  refine List.forall_mem_cons.mpr ⟨zs_reti (ty := .boolean) rfl (fun x h => (znz x h).1) dX9_find_197, ?_⟩
  refine List.forall_mem_cons.mpr ⟨zs_aload_n dX9_find_198 rfl, ?_⟩
  refine List.forall_mem_cons.mpr ⟨zs_aload_n dX9_find_199 rfl, ?_⟩
  refine List.forall_mem_cons.mpr ⟨zs_iload_n dX9_find_200 rfl, ?_⟩
  refine List.forall_mem_cons.mpr ⟨zs_callV (ci := 9) (rm := zR_X9_x) (n := 1) rfl zM_X9_x gX9_find_X9_x rfl (by decide +kernel) ⟨by decide, by decide⟩ dX9_find_201, ?_⟩
  refine List.forall_mem_cons.mpr ⟨zs_aload_n dX9_find_204 rfl, ?_⟩
  refine List.forall_mem_cons.mpr ⟨zs_iload_n dX9_find_205 rfl, ?_⟩
  refine List.forall_mem_cons.mpr ⟨zs_callV (ci := 9) (rm := zR_X9_y) (n := 1) rfl zM_X9_y gX9_find_X9_y rfl (by decide +kernel) ⟨by decide, by decide⟩ dX9_find_206, ?_⟩
  refine List.forall_mem_cons.mpr ⟨zs_aload_n dX9_find_209 rfl, ?_⟩
  refine List.forall_mem_cons.mpr ⟨zs_iload_n dX9_find_210 rfl, ?_⟩
  refine List.forall_mem_cons.mpr ⟨zs_callV (ci := 9) (rm := zR_X9_z) (n := 1) rfl zM_X9_z gX9_find_X9_z rfl (by decide +kernel) ⟨by decide, by decide⟩ dX9_find_211, ?_⟩
  refine List.forall_mem_cons.mpr ⟨zs_aload_n dX9_find_214 rfl, ?_⟩
  refine List.forall_mem_cons.mpr ⟨zs_iload_n dX9_find_215 rfl, ?_⟩
  refine List.forall_mem_cons.mpr ⟨zs_callV (ci := 9) (rm := zR_X9_x) (n := 1) rfl zM_X9_x gX9_find_X9_x rfl (by decide +kernel) ⟨by decide, by decide⟩ dX9_find_216, ?_⟩
  refine List.forall_mem_cons.mpr ⟨zs_aload_n dX9_find_219 rfl, ?_⟩
  refine List.forall_mem_cons.mpr ⟨zs_iload_n dX9_find_220 rfl, ?_⟩
  refine List.forall_mem_cons.mpr ⟨zs_callV (ci := 9) (rm := zR_X9_y) (n := 1) rfl zM_X9_y gX9_find_X9_y rfl (by decide +kernel) ⟨by decide, by decide⟩ dX9_find_221, ?_⟩
  refine List.forall_mem_cons.mpr ⟨zs_aload_n dX9_find_224 rfl, ?_⟩
  refine List.forall_mem_cons.mpr ⟨zs_iload_n dX9_find_225 rfl, ?_⟩
  refine List.forall_mem_cons.mpr ⟨zs_callV (ci := 9) (rm := zR_X9_z) (n := 1) rfl zM_X9_z gX9_find_X9_z rfl (by decide +kernel) ⟨by decide, by decide⟩ dX9_find_226, ?_⟩
  refine List.forall_mem_cons.mpr ⟨zs_aload_n dX9_find_229 rfl, ?_⟩
  refine List.forall_mem_cons.mpr ⟨zs_iload_n dX9_find_230 rfl, ?_⟩
  refine List.forall_mem_cons.mpr ⟨zs_iconst dX9_find_231 (by decide), ?_⟩
  refine List.forall_mem_cons.mpr ⟨zs_callV (ci := 9) (rm := zR_X9_get) (n := 2) rfl zM_X9_get gX9_find_X9_get rfl (by decide +kernel) ⟨by decide, by decide⟩ dX9_find_232, ?_⟩
  refine List.forall_mem_cons.mpr ⟨zs_iconst dX9_find_235 (by decide), ?_⟩
  refine List.forall_mem_cons.mpr ⟨zs_icne dX9_find_236 (by decide), ?_⟩
  refine List.forall_mem_cons.mpr ⟨zs_iconst dX9_find_239 (by decide), ?_⟩
  refine List.forall_mem_cons.mpr ⟨zs_goto dX9_find_240 (by decide), ?_⟩
  refine List.forall_mem_cons.mpr ⟨zs_iconst dX9_find_243 (by decide), ?_⟩
  refine List.forall_mem_cons.mpr ⟨zs_callV (ci := 9) (rm := zR_X9_common) (n := 7) rfl zM_X9_common gX9_find_X9_common rfl (by decide +kernel) ⟨by decide, by decide⟩ dX9_find_244, ?_⟩
  refine List.forall_mem_cons.mpr ⟨zs_reti (ty := .boolean) rfl (fun x h => (znz x h).1) dX9_find_247, ?_⟩
  refine List.forall_mem_cons.mpr ⟨zs_aload_n dX9_find_248 rfl, ?_⟩
  refine List.forall_mem_cons.mpr ⟨zs_iload_n dX9_find_249 rfl, ?_⟩
  refine List.forall_mem_cons.mpr ⟨zs_iload_n dX9_find_250 rfl, ?_⟩
  refine List.forall_mem_cons.mpr ⟨zs_aload_n dX9_find_251 rfl, ?_⟩
  refine List.forall_mem_cons.mpr ⟨zs_iload_n dX9_find_252 rfl, ?_⟩
  refine List.forall_mem_cons.mpr ⟨zs_iconst dX9_find_253 (by decide), ?_⟩
  refine List.forall_mem_cons.mpr ⟨zs_callV (ci := 9) (rm := zR_X9_get) (n := 2) rfl zM_X9_get gX9_find_X9_get rfl (by decide +kernel) ⟨by decide, by decide⟩ dX9_find_254, ?_⟩
  refine List.forall_mem_cons.mpr ⟨zs_bipush dX9_find_257 (by decide), ?_⟩
  refine List.forall_mem_cons.mpr ⟨zs_icne dX9_find_259 (by decide), ?_⟩
  refine List.forall_mem_cons.mpr ⟨zs_iconst dX9_find_262 (by decide), ?_⟩
  refine List.forall_mem_cons.mpr ⟨zs_goto dX9_find_263 (by decide), ?_⟩
  refine List.forall_mem_cons.mpr ⟨zs_iconst dX9_find_266 (by decide), ?_⟩
  refine List.forall_mem_cons.mpr ⟨zs_callV (ci := 9) (rm := zR_X9_commonOfCircles) (n := 3) rfl zM_X9_commonOfCircles gX9_find_X9_commonOfCircles rfl (by decide +kernel) ⟨by decide, by decide⟩ dX9_find_267, ?_⟩
  refine List.forall_mem_cons.mpr ⟨zs_reti (ty := .boolean) rfl (fun x h => (znz x h).1) dX9_find_270, ?_⟩
  refine List.forall_mem_cons.mpr ⟨zs_aload_n dX9_find_271 rfl, ?_⟩
  refine List.forall_mem_cons.mpr ⟨zs_aload_n dX9_find_272 rfl, ?_⟩
  refine List.forall_mem_cons.mpr ⟨zs_iload_n dX9_find_273 rfl, ?_⟩
  refine List.forall_mem_cons.mpr ⟨zs_callV (ci := 9) (rm := zR_X9_x) (n := 1) rfl zM_X9_x gX9_find_X9_x rfl (by decide +kernel) ⟨by decide, by decide⟩ dX9_find_274, ?_⟩
  refine List.forall_mem_cons.mpr ⟨zs_aload_n dX9_find_277 rfl, ?_⟩
  refine List.forall_mem_cons.mpr ⟨zs_iload_n dX9_find_278 rfl, ?_⟩
  refine List.forall_mem_cons.mpr ⟨zs_callV (ci := 9) (rm := zR_X9_x) (n := 1) rfl zM_X9_x gX9_find_X9_x rfl (by decide +kernel) ⟨by decide, by decide⟩ dX9_find_279, ?_⟩
  refine List.forall_mem_cons.mpr ⟨zs_iadd dX9_find_282, ?_⟩
  refine List.forall_mem_cons.mpr ⟨zs_aload_n dX9_find_283 rfl, ?_⟩
  refine List.forall_mem_cons.mpr ⟨zs_iconst dX9_find_284 (by decide), ?_⟩
  refine List.forall_mem_cons.mpr ⟨zs_callV (ci := 9) (rm := zR_X9_opposite) (n := 1) rfl zM_X9_opposite gX9_find_X9_opposite rfl (by decide +kernel) ⟨by decide, by decide⟩ dX9_find_285, ?_⟩
  refine List.forall_mem_cons.mpr ⟨zs_imul dX9_find_288, ?_⟩
  refine List.forall_mem_cons.mpr ⟨zs_aload_n dX9_find_289 rfl, ?_⟩
  refine List.forall_mem_cons.mpr ⟨zs_iload_n dX9_find_290 rfl, ?_⟩
  refine List.forall_mem_cons.mpr ⟨zs_callV (ci := 9) (rm := zR_X9_y) (n := 1) rfl zM_X9_y gX9_find_X9_y rfl (by decide +kernel) ⟨by decide, by decide⟩ dX9_find_291, ?_⟩
  refine List.forall_mem_cons.mpr ⟨zs_aload_n dX9_find_294 rfl, ?_⟩
  refine List.forall_mem_cons.mpr ⟨zs_iload_n dX9_find_295 rfl, ?_⟩
  refine List.forall_mem_cons.mpr ⟨zs_callV (ci := 9) (rm := zR_X9_y) (n := 1) rfl zM_X9_y gX9_find_X9_y rfl (by decide +kernel) ⟨by decide, by decide⟩ dX9_find_296, ?_⟩
  refine List.forall_mem_cons.mpr ⟨zs_iadd dX9_find_299, ?_⟩
  refine List.forall_mem_cons.mpr ⟨zs_aload_n dX9_find_300 rfl, ?_⟩
  refine List.forall_mem_cons.mpr ⟨zs_iconst dX9_find_301 (by decide), ?_⟩
  refine List.forall_mem_cons.mpr ⟨zs_callV (ci := 9) (rm := zR_X9_opposite) (n := 1) rfl zM_X9_opposite gX9_find_X9_opposite rfl (by decide +kernel) ⟨by decide, by decide⟩ dX9_find_302, ?_⟩
  refine List.forall_mem_cons.mpr ⟨zs_imul dX9_find_305, ?_⟩
  refine List.forall_mem_cons.mpr ⟨zs_iconst dX9_find_306 (by decide), ?_⟩
  refine List.forall_mem_cons.mpr ⟨zs_callV (ci := 9) (rm := zR_X9_lay) (n := 3) rfl zM_X9_lay gX9_find_X9_lay rfl (by decide +kernel) ⟨by decide, by decide⟩ dX9_find_307, ?_⟩
  refine List.forall_mem_cons.mpr ⟨zs_reti (ty := .boolean) rfl (fun x h => (znz x h).1) dX9_find_310, ?_⟩
  refine List.forall_mem_cons.mpr ⟨zs_aload_n dX9_find_311 rfl, ?_⟩
  refine List.forall_mem_cons.mpr ⟨zs_iload_n dX9_find_312 rfl, ?_⟩
  refine List.forall_mem_cons.mpr ⟨zs_iload_n dX9_find_313 rfl, ?_⟩
  refine List.forall_mem_cons.mpr ⟨zs_callV (ci := 9) (rm := zR_X9_mirror) (n := 2) rfl zM_X9_mirror gX9_find_X9_mirror rfl (by decide +kernel) ⟨by decide, by decide⟩ dX9_find_314, ?_⟩
  refine List.forall_mem_cons.mpr ⟨zs_reti (ty := .boolean) rfl (fun x h => (znz x h).1) dX9_find_317, ?_⟩
  refine List.forall_mem_cons.mpr ⟨zs_aload_n dX9_find_318 rfl, ?_⟩
  refine List.forall_mem_cons.mpr ⟨zs_aload_n dX9_find_319 rfl, ?_⟩
  refine List.forall_mem_cons.mpr ⟨zs_iload_n dX9_find_320 rfl, ?_⟩
  refine List.forall_mem_cons.mpr ⟨zs_callV (ci := 9) (rm := zR_X9_y) (n := 1) rfl zM_X9_y gX9_find_X9_y rfl (by decide +kernel) ⟨by decide, by decide⟩ dX9_find_321, ?_⟩
  refine List.forall_mem_cons.mpr ⟨zs_aload_n dX9_find_324 rfl, ?_⟩
  refine List.forall_mem_cons.mpr ⟨zs_iload_n dX9_find_325 rfl, ?_⟩
  refine List.forall_mem_cons.mpr ⟨zs_callV (ci := 9) (rm := zR_X9_y) (n := 1) rfl zM_X9_y gX9_find_X9_y rfl (by decide +kernel) ⟨by decide, by decide⟩ dX9_find_326, ?_⟩
  refine List.forall_mem_cons.mpr ⟨zs_isub dX9_find_329, ?_⟩
  refine List.forall_mem_cons.mpr ⟨zs_aload_n dX9_find_330 rfl, ?_⟩
  refine List.forall_mem_cons.mpr ⟨zs_iload_n dX9_find_331 rfl, ?_⟩
  refine List.forall_mem_cons.mpr ⟨zs_callV (ci := 9) (rm := zR_X9_x) (n := 1) rfl zM_X9_x gX9_find_X9_x rfl (by decide +kernel) ⟨by decide, by decide⟩ dX9_find_332, ?_⟩
  refine List.forall_mem_cons.mpr ⟨zs_aload_n dX9_find_335 rfl, ?_⟩
  refine List.forall_mem_cons.mpr ⟨zs_iload_n dX9_find_336 rfl, ?_⟩
  refine List.forall_mem_cons.mpr ⟨zs_callV (ci := 9) (rm := zR_X9_x) (n := 1) rfl zM_X9_x gX9_find_X9_x rfl (by decide +kernel) ⟨by decide, by decide⟩ dX9_find_337, ?_⟩
  refine List.forall_mem_cons.mpr ⟨zs_isub dX9_find_340, ?_⟩
  refine List.forall_mem_cons.mpr ⟨zs_aload_n dX9_find_341 rfl, ?_⟩
  refine List.forall_mem_cons.mpr ⟨zs_iload_n dX9_find_342 rfl, ?_⟩
  refine List.forall_mem_cons.mpr ⟨zs_callV (ci := 9) (rm := zR_X9_x) (n := 1) rfl zM_X9_x gX9_find_X9_x rfl (by decide +kernel) ⟨by decide, by decide⟩ dX9_find_343, ?_⟩
  refine List.forall_mem_cons.mpr ⟨zs_aload_n dX9_find_346 rfl, ?_⟩
  refine List.forall_mem_cons.mpr ⟨zs_iload_n dX9_find_347 rfl, ?_⟩
  refine List.forall_mem_cons.mpr ⟨zs_callV (ci := 9) (rm := zR_X9_y) (n := 1) rfl zM_X9_y gX9_find_X9_y rfl (by decide +kernel) ⟨by decide, by decide⟩ dX9_find_348, ?_⟩
  refine List.forall_mem_cons.mpr ⟨zs_imul dX9_find_351, ?_⟩
  refine List.forall_mem_cons.mpr ⟨zs_aload_n dX9_find_352 rfl, ?_⟩
  refine List.forall_mem_cons.mpr ⟨zs_iload_n dX9_find_353 rfl, ?_⟩
  refine List.forall_mem_cons.mpr ⟨zs_callV (ci := 9) (rm := zR_X9_x) (n := 1) rfl zM_X9_x gX9_find_X9_x rfl (by decide +kernel) ⟨by decide, by decide⟩ dX9_find_354, ?_⟩
  refine List.forall_mem_cons.mpr ⟨zs_aload_n dX9_find_357 rfl, ?_⟩
  refine List.forall_mem_cons.mpr ⟨zs_iload_n dX9_find_358 rfl, ?_⟩
  refine List.forall_mem_cons.mpr ⟨zs_callV (ci := 9) (rm := zR_X9_y) (n := 1) rfl zM_X9_y gX9_find_X9_y rfl (by decide +kernel) ⟨by decide, by decide⟩ dX9_find_359, ?_⟩
  refine List.forall_mem_cons.mpr ⟨zs_imul dX9_find_362, ?_⟩
  refine List.forall_mem_cons.mpr ⟨zs_isub dX9_find_363, ?_⟩
  refine List.forall_mem_cons.mpr ⟨zs_callV (ci := 9) (rm := zR_X9_layLine) (n := 3) rfl zM_X9_layLine gX9_find_X9_layLine rfl (by decide +kernel) ⟨by decide, by decide⟩ dX9_find_364, ?_⟩
  refine List.forall_mem_cons.mpr ⟨zs_reti (ty := .boolean) rfl (fun x h => (znz x h).1) dX9_find_367, ?_⟩
  refine List.forall_mem_cons.mpr ⟨zs_aload_n dX9_find_368 rfl, ?_⟩
  refine List.forall_mem_cons.mpr ⟨zs_aload_n dX9_find_369 rfl, ?_⟩
  refine List.forall_mem_cons.mpr ⟨zs_iload_n dX9_find_370 rfl, ?_⟩
  refine List.forall_mem_cons.mpr ⟨zs_callV (ci := 9) (rm := zR_X9_x) (n := 1) rfl zM_X9_x gX9_find_X9_x rfl (by decide +kernel) ⟨by decide, by decide⟩ dX9_find_371, ?_⟩
  refine List.forall_mem_cons.mpr ⟨zs_aload_n dX9_find_374 rfl, ?_⟩
  refine List.forall_mem_cons.mpr ⟨zs_iload_n dX9_find_375 rfl, ?_⟩
  refine List.forall_mem_cons.mpr ⟨zs_callV (ci := 9) (rm := zR_X9_y) (n := 1) rfl zM_X9_y gX9_find_X9_y rfl (by decide +kernel) ⟨by decide, by decide⟩ dX9_find_376, ?_⟩
  refine List.forall_mem_cons.mpr ⟨zs_aload_n dX9_find_379 rfl, ?_⟩
  refine List.forall_mem_cons.mpr ⟨zs_iload_n dX9_find_380 rfl, ?_⟩
  refine List.forall_mem_cons.mpr ⟨zs_callV (ci := 9) (rm := zR_X9_x) (n := 1) rfl zM_X9_x gX9_find_X9_x rfl (by decide +kernel) ⟨by decide, by decide⟩ dX9_find_381, ?_⟩
  refine List.forall_mem_cons.mpr ⟨zs_aload_n dX9_find_384 rfl, ?_⟩
  refine List.forall_mem_cons.mpr ⟨zs_iload_n dX9_find_385 rfl, ?_⟩
  refine List.forall_mem_cons.mpr ⟨zs_callV (ci := 9) (rm := zR_X9_x) (n := 1) rfl zM_X9_x gX9_find_X9_x rfl (by decide +kernel) ⟨by decide, by decide⟩ dX9_find_386, ?_⟩
  refine List.forall_mem_cons.mpr ⟨zs_imul dX9_find_389, ?_⟩
  refine List.forall_mem_cons.mpr ⟨zs_aload_n dX9_find_390 rfl, ?_⟩
  refine List.forall_mem_cons.mpr ⟨zs_iload_n dX9_find_391 rfl, ?_⟩
  refine List.forall_mem_cons.mpr ⟨zs_callV (ci := 9) (rm := zR_X9_y) (n := 1) rfl zM_X9_y gX9_find_X9_y rfl (by decide +kernel) ⟨by decide, by decide⟩ dX9_find_392, ?_⟩
  refine List.forall_mem_cons.mpr ⟨zs_aload_n dX9_find_395 rfl, ?_⟩
  refine List.forall_mem_cons.mpr ⟨zs_iload_n dX9_find_396 rfl, ?_⟩
  refine List.forall_mem_cons.mpr ⟨zs_callV (ci := 9) (rm := zR_X9_y) (n := 1) rfl zM_X9_y gX9_find_X9_y rfl (by decide +kernel) ⟨by decide, by decide⟩ dX9_find_397, ?_⟩
  refine List.forall_mem_cons.mpr ⟨zs_imul dX9_find_400, ?_⟩
  refine List.forall_mem_cons.mpr ⟨zs_iadd dX9_find_401, ?_⟩
  refine List.forall_mem_cons.mpr ⟨zs_ineg dX9_find_402, ?_⟩
  refine List.forall_mem_cons.mpr ⟨zs_callV (ci := 9) (rm := zR_X9_lay) (n := 3) rfl zM_X9_lay gX9_find_X9_lay rfl (by decide +kernel) ⟨by decide, by decide⟩ dX9_find_403, ?_⟩
  refine List.forall_mem_cons.mpr ⟨zs_reti (ty := .boolean) rfl (fun x h => (znz x h).1) dX9_find_406, ?_⟩
  refine List.forall_mem_cons.mpr ⟨zs_aload_n dX9_find_407 rfl, ?_⟩
  refine List.forall_mem_cons.mpr ⟨zs_aload_n dX9_find_408 rfl, ?_⟩
  refine List.forall_mem_cons.mpr ⟨zs_iload_n dX9_find_409 rfl, ?_⟩
  refine List.forall_mem_cons.mpr ⟨zs_callV (ci := 9) (rm := zR_X9_y) (n := 1) rfl zM_X9_y gX9_find_X9_y rfl (by decide +kernel) ⟨by decide, by decide⟩ dX9_find_410, ?_⟩
  refine List.forall_mem_cons.mpr ⟨zs_ineg dX9_find_413, ?_⟩
  refine List.forall_mem_cons.mpr ⟨zs_aload_n dX9_find_414 rfl, ?_⟩
  refine List.forall_mem_cons.mpr ⟨zs_iload_n dX9_find_415 rfl, ?_⟩
  refine List.forall_mem_cons.mpr ⟨zs_callV (ci := 9) (rm := zR_X9_x) (n := 1) rfl zM_X9_x gX9_find_X9_x rfl (by decide +kernel) ⟨by decide, by decide⟩ dX9_find_416, ?_⟩
  refine List.forall_mem_cons.mpr ⟨zs_aload_n dX9_find_419 rfl, ?_⟩
  refine List.forall_mem_cons.mpr ⟨zs_iload_n dX9_find_420 rfl, ?_⟩
  refine List.forall_mem_cons.mpr ⟨zs_callV (ci := 9) (rm := zR_X9_y) (n := 1) rfl zM_X9_y gX9_find_X9_y rfl (by decide +kernel) ⟨by decide, by decide⟩ dX9_find_421, ?_⟩
  refine List.forall_mem_cons.mpr ⟨zs_aload_n dX9_find_424 rfl, ?_⟩
  refine List.forall_mem_cons.mpr ⟨zs_iload_n dX9_find_425 rfl, ?_⟩
  refine List.forall_mem_cons.mpr ⟨zs_callV (ci := 9) (rm := zR_X9_x) (n := 1) rfl zM_X9_x gX9_find_X9_x rfl (by decide +kernel) ⟨by decide, by decide⟩ dX9_find_426, ?_⟩
  refine List.forall_mem_cons.mpr ⟨zs_imul dX9_find_429, ?_⟩
  refine List.forall_mem_cons.mpr ⟨zs_aload_n dX9_find_430 rfl, ?_⟩
  refine List.forall_mem_cons.mpr ⟨zs_iload_n dX9_find_431 rfl, ?_⟩
  refine List.forall_mem_cons.mpr ⟨zs_callV (ci := 9) (rm := zR_X9_x) (n := 1) rfl zM_X9_x gX9_find_X9_x rfl (by decide +kernel) ⟨by decide, by decide⟩ dX9_find_432, ?_⟩
  refine List.forall_mem_cons.mpr ⟨zs_aload_n dX9_find_435 rfl, ?_⟩
  refine List.forall_mem_cons.mpr ⟨zs_iload_n dX9_find_436 rfl, ?_⟩
  refine List.forall_mem_cons.mpr ⟨zs_callV (ci := 9) (rm := zR_X9_y) (n := 1) rfl zM_X9_y gX9_find_X9_y rfl (by decide +kernel) ⟨by decide, by decide⟩ dX9_find_437, ?_⟩
  refine List.forall_mem_cons.mpr ⟨zs_imul dX9_find_440, ?_⟩
  refine List.forall_mem_cons.mpr ⟨zs_isub dX9_find_441, ?_⟩
  refine List.forall_mem_cons.mpr ⟨zs_callV (ci := 9) (rm := zR_X9_layLine) (n := 3) rfl zM_X9_layLine gX9_find_X9_layLine rfl (by decide +kernel) ⟨by decide, by decide⟩ dX9_find_442, ?_⟩
  refine List.forall_mem_cons.mpr ⟨zs_reti (ty := .boolean) rfl (fun x h => (znz x h).1) dX9_find_445, ?_⟩
  refine List.forall_mem_cons.mpr ⟨zs_aload_n dX9_find_446 rfl, ?_⟩
  refine List.forall_mem_cons.mpr ⟨zs_iload_n dX9_find_447 rfl, ?_⟩
  refine List.forall_mem_cons.mpr ⟨zs_iload_n dX9_find_448 rfl, ?_⟩
  refine List.forall_mem_cons.mpr ⟨zs_callV (ci := 9) (rm := zR_X9_bisector) (n := 2) rfl zM_X9_bisector gX9_find_X9_bisector rfl (by decide +kernel) ⟨by decide, by decide⟩ dX9_find_449, ?_⟩
  refine List.forall_mem_cons.mpr ⟨zs_reti (ty := .boolean) rfl (fun x h => (znz x h).1) dX9_find_452, ?_⟩
  refine List.forall_mem_cons.mpr ⟨zs_aload_n dX9_find_453 rfl, ?_⟩
  refine List.forall_mem_cons.mpr ⟨zs_iload_n dX9_find_454 rfl, ?_⟩
  refine List.forall_mem_cons.mpr ⟨zs_iload_n dX9_find_455 rfl, ?_⟩
  refine List.forall_mem_cons.mpr ⟨zs_iload_n dX9_find_456 rfl, ?_⟩
  refine List.forall_mem_cons.mpr ⟨zs_callV (ci := 9) (rm := zR_X9_layCircle) (n := 3) rfl zM_X9_layCircle gX9_find_X9_layCircle rfl (by decide +kernel) ⟨by decide, by decide⟩ dX9_find_457, ?_⟩
  refine List.forall_mem_cons.mpr ⟨zs_reti (ty := .boolean) rfl (fun x h => (znz x h).1) dX9_find_460, ?_⟩
  refine List.forall_mem_cons.mpr ⟨zs_aload_n dX9_find_461 rfl, ?_⟩
  refine List.forall_mem_cons.mpr ⟨zs_iload_n dX9_find_462 rfl, ?_⟩
  refine List.forall_mem_cons.mpr ⟨zs_iload_n dX9_find_463 rfl, ?_⟩
  refine List.forall_mem_cons.mpr ⟨zs_iload dX9_find_464, ?_⟩
  refine List.forall_mem_cons.mpr ⟨zs_callV (ci := 9) (rm := zR_X9_layCircle) (n := 3) rfl zM_X9_layCircle gX9_find_X9_layCircle rfl (by decide +kernel) ⟨by decide, by decide⟩ dX9_find_466, ?_⟩
  refine List.forall_mem_cons.mpr ⟨zs_reti (ty := .boolean) rfl (fun x h => (znz x h).1) dX9_find_469, ?_⟩
  refine List.forall_mem_cons.mpr ⟨zs_aload_n dX9_find_470 rfl, ?_⟩
  refine List.forall_mem_cons.mpr ⟨zs_iload_n dX9_find_471 rfl, ?_⟩
  refine List.forall_mem_cons.mpr ⟨zs_iload_n dX9_find_472 rfl, ?_⟩
  refine List.forall_mem_cons.mpr ⟨zs_iload dX9_find_473, ?_⟩
  refine List.forall_mem_cons.mpr ⟨zs_callV (ci := 9) (rm := zR_X9_circleThrough) (n := 3) rfl zM_X9_circleThrough gX9_find_X9_circleThrough rfl (by decide +kernel) ⟨by decide, by decide⟩ dX9_find_475, ?_⟩
  refine List.forall_mem_cons.mpr ⟨zs_reti (ty := .boolean) rfl (fun x h => (znz x h).1) dX9_find_478, ?_⟩
  exact fun _ h => absurd h List.not_mem_nil
theorem zM_X9_find : zMeets zEM yX9_find wsX9_find zR_X9_find m_X9_find := zmeth_M zEMok (zlook_all (zcs_X9_find rfl)) (by decide +kernel) rfl
set_option maxRecDepth 8000 in
theorem zr_X9_find_0 (a1 a2 a3 a4 : Option zAV) (st : List zAV) (s : zAS) (k : Nat × Nat) (o : Nat × Nat) : zev zk_X9_find (0, [some (Sum.inr o), a1, a2, a3, a4], st, s, k) = zev zk_X9_find (1, [some (Sum.inr o), a1, a2, a3, a4], Sum.inr o :: st, s, k) := zev_go rfl rfl
set_option maxRecDepth 8000 in
theorem zr_X9_find_1 (a0 a2 a3 a4 : Option zAV) (st : List zAV) (s : zAS) (k : Nat × Nat) (x : Int32) : zev zk_X9_find (1, [a0, some (Sum.inl (Value.int x)), a2, a3, a4], st, s, k) = zev zk_X9_find (2, [a0, some (Sum.inl (Value.int x)), a2, a3, a4], Sum.inl (Value.int x) :: st, s, k) := zev_go rfl rfl
set_option maxRecDepth 8000 in
theorem zr_X9_find_2 (ls : zLs) (st : List zAV) (s : zAS) (k : Nat × Nat) : zev zk_X9_find (2, ls, st, s, k) = zev zk_X9_find (3, ls, Sum.inl (Value.int (2)) :: st, s, k) := zev_go rfl rfl
set_option maxRecDepth 8000 in
theorem zr_X9_find_3 (ls : zLs) (st : List zAV) (s : zAS) (k : Nat × Nat) (r v0 v1 : zAV) (h : zcok zEM 9 0 0 (zR_X9_find).cells (zR_X9_find).slots r st k) : zev zk_X9_find (3, ls, v1 :: v0 :: r :: st, s, k) = zret zk_X9_find 6 ls st (k.1 + 0, k.2 + 0) (m_X9_get [r, v0, v1] s) := zf_callV (as := [v1, v0]) 2 rfl rfl h
set_option maxRecDepth 8000 in
theorem zr_X9_find_6 (a0 a1 a2 a3 a4 : Option zAV) (st : List zAV) (s : zAS) (k : Nat × Nat) (x : Int32) : zev zk_X9_find (6, [a0, a1, a2, a3, a4], Sum.inl (Value.int x) :: st, s, k) = zev zk_X9_find (7, [a0, zk1 a1, some (Sum.inl (Value.int x)), a3, a4], st, s, k) := zev_go rfl rfl
set_option maxRecDepth 8000 in
theorem zr_X9_find_7 (a1 a2 a3 a4 : Option zAV) (st : List zAV) (s : zAS) (k : Nat × Nat) (o : Nat × Nat) : zev zk_X9_find (7, [some (Sum.inr o), a1, a2, a3, a4], st, s, k) = zev zk_X9_find (8, [some (Sum.inr o), a1, a2, a3, a4], Sum.inr o :: st, s, k) := zev_go rfl rfl
set_option maxRecDepth 8000 in
theorem zr_X9_find_8 (a0 a2 a3 a4 : Option zAV) (st : List zAV) (s : zAS) (k : Nat × Nat) (x : Int32) : zev zk_X9_find (8, [a0, some (Sum.inl (Value.int x)), a2, a3, a4], st, s, k) = zev zk_X9_find (9, [a0, some (Sum.inl (Value.int x)), a2, a3, a4], Sum.inl (Value.int x) :: st, s, k) := zev_go rfl rfl
set_option maxRecDepth 8000 in
theorem zr_X9_find_9 (ls : zLs) (st : List zAV) (s : zAS) (k : Nat × Nat) : zev zk_X9_find (9, ls, st, s, k) = zev zk_X9_find (10, ls, Sum.inl (Value.int (3)) :: st, s, k) := zev_go rfl rfl
set_option maxRecDepth 8000 in
theorem zr_X9_find_10 (ls : zLs) (st : List zAV) (s : zAS) (k : Nat × Nat) (r v0 v1 : zAV) (h : zcok zEM 9 0 0 (zR_X9_find).cells (zR_X9_find).slots r st k) : zev zk_X9_find (10, ls, v1 :: v0 :: r :: st, s, k) = zret zk_X9_find 13 ls st (k.1 + 0, k.2 + 0) (m_X9_get [r, v0, v1] s) := zf_callV (as := [v1, v0]) 2 rfl rfl h
set_option maxRecDepth 8000 in
theorem zr_X9_find_13 (a0 a1 a2 a3 a4 : Option zAV) (st : List zAV) (s : zAS) (k : Nat × Nat) (x : Int32) : zev zk_X9_find (13, [a0, a1, a2, a3, a4], Sum.inl (Value.int x) :: st, s, k) = zev zk_X9_find (14, [a0, a1, zk1 a2, some (Sum.inl (Value.int x)), a4], st, s, k) := zev_go rfl rfl
set_option maxRecDepth 8000 in
theorem zr_X9_find_14 (a1 a2 a3 a4 : Option zAV) (st : List zAV) (s : zAS) (k : Nat × Nat) (o : Nat × Nat) : zev zk_X9_find (14, [some (Sum.inr o), a1, a2, a3, a4], st, s, k) = zev zk_X9_find (15, [some (Sum.inr o), a1, a2, a3, a4], Sum.inr o :: st, s, k) := zev_go rfl rfl
set_option maxRecDepth 8000 in
theorem zr_X9_find_15 (a0 a2 a3 a4 : Option zAV) (st : List zAV) (s : zAS) (k : Nat × Nat) (x : Int32) : zev zk_X9_find (15, [a0, some (Sum.inl (Value.int x)), a2, a3, a4], st, s, k) = zev zk_X9_find (16, [a0, some (Sum.inl (Value.int x)), a2, a3, a4], Sum.inl (Value.int x) :: st, s, k) := zev_go rfl rfl
set_option maxRecDepth 8000 in
theorem zr_X9_find_16 (ls : zLs) (st : List zAV) (s : zAS) (k : Nat × Nat) : zev zk_X9_find (16, ls, st, s, k) = zev zk_X9_find (17, ls, Sum.inl (Value.int (4)) :: st, s, k) := zev_go rfl rfl
set_option maxRecDepth 8000 in
theorem zr_X9_find_17 (ls : zLs) (st : List zAV) (s : zAS) (k : Nat × Nat) (r v0 v1 : zAV) (h : zcok zEM 9 0 0 (zR_X9_find).cells (zR_X9_find).slots r st k) : zev zk_X9_find (17, ls, v1 :: v0 :: r :: st, s, k) = zret zk_X9_find 20 ls st (k.1 + 0, k.2 + 0) (m_X9_get [r, v0, v1] s) := zf_callV (as := [v1, v0]) 2 rfl rfl h
set_option maxRecDepth 8000 in
theorem zr_X9_find_20 (a0 a1 a2 a3 a4 : Option zAV) (st : List zAV) (s : zAS) (k : Nat × Nat) (x : Int32) : zev zk_X9_find (20, [a0, a1, a2, a3, a4], Sum.inl (Value.int x) :: st, s, k) = zev zk_X9_find (22, [a0, a1, a2, zk1 a3, some (Sum.inl (Value.int x))], st, s, k) := zev_go rfl rfl
set_option maxRecDepth 8000 in
theorem zr_X9_find_22 (a1 a2 a3 a4 : Option zAV) (st : List zAV) (s : zAS) (k : Nat × Nat) (o : Nat × Nat) : zev zk_X9_find (22, [some (Sum.inr o), a1, a2, a3, a4], st, s, k) = zev zk_X9_find (23, [some (Sum.inr o), a1, a2, a3, a4], Sum.inr o :: st, s, k) := zev_go rfl rfl
set_option maxRecDepth 8000 in
theorem zr_X9_find_23 (a0 a2 a3 a4 : Option zAV) (st : List zAV) (s : zAS) (k : Nat × Nat) (x : Int32) : zev zk_X9_find (23, [a0, some (Sum.inl (Value.int x)), a2, a3, a4], st, s, k) = zev zk_X9_find (24, [a0, some (Sum.inl (Value.int x)), a2, a3, a4], Sum.inl (Value.int x) :: st, s, k) := zev_go rfl rfl
set_option maxRecDepth 8000 in
theorem zr_X9_find_24 (ls : zLs) (st : List zAV) (s : zAS) (k : Nat × Nat) : zev zk_X9_find (24, ls, st, s, k) = zev zk_X9_find (25, ls, Sum.inl (Value.int (1)) :: st, s, k) := zev_go rfl rfl
set_option maxRecDepth 8000 in
theorem zr_X9_find_25 (ls : zLs) (st : List zAV) (s : zAS) (k : Nat × Nat) (r v0 v1 : zAV) (h : zcok zEM 9 0 0 (zR_X9_find).cells (zR_X9_find).slots r st k) : zev zk_X9_find (25, ls, v1 :: v0 :: r :: st, s, k) = zret zk_X9_find 28 ls st (k.1 + 0, k.2 + 0) (m_X9_get [r, v0, v1] s) := zf_callV (as := [v1, v0]) 2 rfl rfl h
set_option maxRecDepth 8000 in
theorem zr_X9_find_28 (ls : zLs) (st : List zAV) (s : zAS) (k : Nat × Nat) (x : Int32) : zev zk_X9_find (28, ls, Sum.inl (Value.int x) :: st, s, k) = if x.toInt < 0 ∨ 21 < x.toInt then zev zk_X9_find (470, ls, st, s, k) else match ([132, 151, 163, 198, 198, 248, 248, 271, 311, 470, 318, 368, 407, 446, 470, 470, 470, 470, 470, 470, 453, 461] : List Nat)[(x.toInt - 0).toNat]? with
    | some t => zev zk_X9_find (t, ls, st, s, k)
    | none => none := zf_tsw rfl
set_option maxRecDepth 8000 in
theorem zr_X9_find_132 (a1 a2 a3 a4 : Option zAV) (st : List zAV) (s : zAS) (k : Nat × Nat) (o : Nat × Nat) : zev zk_X9_find (132, [some (Sum.inr o), a1, a2, a3, a4], st, s, k) = zev zk_X9_find (133, [some (Sum.inr o), a1, a2, a3, a4], Sum.inr o :: st, s, k) := zev_go rfl rfl
set_option maxRecDepth 8000 in
theorem zr_X9_find_133 (a1 a2 a3 a4 : Option zAV) (st : List zAV) (s : zAS) (k : Nat × Nat) (o : Nat × Nat) : zev zk_X9_find (133, [some (Sum.inr o), a1, a2, a3, a4], st, s, k) = zev zk_X9_find (134, [some (Sum.inr o), a1, a2, a3, a4], Sum.inr o :: st, s, k) := zev_go rfl rfl
set_option maxRecDepth 8000 in
theorem zr_X9_find_134 (a0 a2 a3 a4 : Option zAV) (st : List zAV) (s : zAS) (k : Nat × Nat) (x : Int32) : zev zk_X9_find (134, [a0, some (Sum.inl (Value.int x)), a2, a3, a4], st, s, k) = zev zk_X9_find (135, [a0, some (Sum.inl (Value.int x)), a2, a3, a4], Sum.inl (Value.int x) :: st, s, k) := zev_go rfl rfl
set_option maxRecDepth 8000 in
theorem zr_X9_find_135 (ls : zLs) (st : List zAV) (s : zAS) (k : Nat × Nat) : zev zk_X9_find (135, ls, st, s, k) = zev zk_X9_find (136, ls, Sum.inl (Value.int (5)) :: st, s, k) := zev_go rfl rfl
set_option maxRecDepth 8000 in
theorem zr_X9_find_136 (ls : zLs) (st : List zAV) (s : zAS) (k : Nat × Nat) (r v0 v1 : zAV) (h : zcok zEM 9 0 0 (zR_X9_find).cells (zR_X9_find).slots r st k) : zev zk_X9_find (136, ls, v1 :: v0 :: r :: st, s, k) = zret zk_X9_find 139 ls st (k.1 + 0, k.2 + 0) (m_X9_get [r, v0, v1] s) := zf_callV (as := [v1, v0]) 2 rfl rfl h
set_option maxRecDepth 8000 in
theorem zr_X9_find_139 (a1 a2 a3 a4 : Option zAV) (st : List zAV) (s : zAS) (k : Nat × Nat) (o : Nat × Nat) : zev zk_X9_find (139, [some (Sum.inr o), a1, a2, a3, a4], st, s, k) = zev zk_X9_find (140, [some (Sum.inr o), a1, a2, a3, a4], Sum.inr o :: st, s, k) := zev_go rfl rfl
set_option maxRecDepth 8000 in
theorem zr_X9_find_140 (a0 a2 a3 a4 : Option zAV) (st : List zAV) (s : zAS) (k : Nat × Nat) (x : Int32) : zev zk_X9_find (140, [a0, some (Sum.inl (Value.int x)), a2, a3, a4], st, s, k) = zev zk_X9_find (141, [a0, some (Sum.inl (Value.int x)), a2, a3, a4], Sum.inl (Value.int x) :: st, s, k) := zev_go rfl rfl
set_option maxRecDepth 8000 in
theorem zr_X9_find_141 (ls : zLs) (st : List zAV) (s : zAS) (k : Nat × Nat) : zev zk_X9_find (141, ls, st, s, k) = zev zk_X9_find (143, ls, Sum.inl (Value.int (6)) :: st, s, k) := zev_go rfl rfl
set_option maxRecDepth 8000 in
theorem zr_X9_find_143 (ls : zLs) (st : List zAV) (s : zAS) (k : Nat × Nat) (r v0 v1 : zAV) (h : zcok zEM 9 0 0 (zR_X9_find).cells (zR_X9_find).slots r st k) : zev zk_X9_find (143, ls, v1 :: v0 :: r :: st, s, k) = zret zk_X9_find 146 ls st (k.1 + 0, k.2 + 0) (m_X9_get [r, v0, v1] s) := zf_callV (as := [v1, v0]) 2 rfl rfl h
set_option maxRecDepth 8000 in
theorem zr_X9_find_146 (ls : zLs) (st : List zAV) (s : zAS) (k : Nat × Nat) : zev zk_X9_find (146, ls, st, s, k) = zev zk_X9_find (147, ls, Sum.inl (Value.int (0)) :: st, s, k) := zev_go rfl rfl
set_option maxRecDepth 8000 in
theorem zr_X9_find_147 (ls : zLs) (st : List zAV) (s : zAS) (k : Nat × Nat) (r v0 v1 v2 : zAV) (h : zcok zEM 9 0 0 (zR_X9_find).cells (zR_X9_find).slots r st k) : zev zk_X9_find (147, ls, v2 :: v1 :: v0 :: r :: st, s, k) = zret zk_X9_find 150 ls st (k.1 + 0, k.2 + 0) (m_X9_lay [r, v0, v1, v2] s) := zf_callV (as := [v2, v1, v0]) 3 rfl rfl h
set_option maxRecDepth 8000 in
theorem zr_X9_find_150 (ls : zLs) (s : zAS) (k : Nat × Nat) (x : Int32) (hx : x = 0 ∨ x = 1) : zev zk_X9_find (150, ls, [Sum.inl (Value.int x)], s, k) = some (.inl (some (Sum.inl (Value.int x))), s) := zf_retz rfl hx
set_option maxRecDepth 8000 in
theorem zr_X9_find_151 (a1 a2 a3 a4 : Option zAV) (st : List zAV) (s : zAS) (k : Nat × Nat) (o : Nat × Nat) : zev zk_X9_find (151, [some (Sum.inr o), a1, a2, a3, a4], st, s, k) = zev zk_X9_find (152, [some (Sum.inr o), a1, a2, a3, a4], Sum.inr o :: st, s, k) := zev_go rfl rfl
set_option maxRecDepth 8000 in
theorem zr_X9_find_152 (a0 a1 a3 a4 : Option zAV) (st : List zAV) (s : zAS) (k : Nat × Nat) (x : Int32) : zev zk_X9_find (152, [a0, a1, some (Sum.inl (Value.int x)), a3, a4], st, s, k) = zev zk_X9_find (153, [a0, a1, some (Sum.inl (Value.int x)), a3, a4], Sum.inl (Value.int x) :: st, s, k) := zev_go rfl rfl
set_option maxRecDepth 8000 in
theorem zr_X9_find_153 (a1 a2 a3 a4 : Option zAV) (st : List zAV) (s : zAS) (k : Nat × Nat) (o : Nat × Nat) : zev zk_X9_find (153, [some (Sum.inr o), a1, a2, a3, a4], st, s, k) = zev zk_X9_find (154, [some (Sum.inr o), a1, a2, a3, a4], Sum.inr o :: st, s, k) := zev_go rfl rfl
set_option maxRecDepth 8000 in
theorem zr_X9_find_154 (a0 a2 a3 a4 : Option zAV) (st : List zAV) (s : zAS) (k : Nat × Nat) (x : Int32) : zev zk_X9_find (154, [a0, some (Sum.inl (Value.int x)), a2, a3, a4], st, s, k) = zev zk_X9_find (155, [a0, some (Sum.inl (Value.int x)), a2, a3, a4], Sum.inl (Value.int x) :: st, s, k) := zev_go rfl rfl
set_option maxRecDepth 8000 in
theorem zr_X9_find_155 (ls : zLs) (st : List zAV) (s : zAS) (k : Nat × Nat) : zev zk_X9_find (155, ls, st, s, k) = zev zk_X9_find (156, ls, Sum.inl (Value.int (5)) :: st, s, k) := zev_go rfl rfl
set_option maxRecDepth 8000 in
theorem zr_X9_find_156 (ls : zLs) (st : List zAV) (s : zAS) (k : Nat × Nat) (r v0 v1 : zAV) (h : zcok zEM 9 0 0 (zR_X9_find).cells (zR_X9_find).slots r st k) : zev zk_X9_find (156, ls, v1 :: v0 :: r :: st, s, k) = zret zk_X9_find 159 ls st (k.1 + 0, k.2 + 0) (m_X9_get [r, v0, v1] s) := zf_callV (as := [v1, v0]) 2 rfl rfl h
set_option maxRecDepth 8000 in
theorem zr_X9_find_159 (ls : zLs) (st : List zAV) (s : zAS) (k : Nat × Nat) (r v0 v1 : zAV) (h : zcok zEM 9 0 0 (zR_X9_find).cells (zR_X9_find).slots r st k) : zev zk_X9_find (159, ls, v1 :: v0 :: r :: st, s, k) = zret zk_X9_find 162 ls st (k.1 + 0, k.2 + 0) (m_X9_onLine [r, v0, v1] s) := zf_callV (as := [v1, v0]) 2 rfl rfl h
set_option maxRecDepth 8000 in
theorem zr_X9_find_162 (ls : zLs) (s : zAS) (k : Nat × Nat) (x : Int32) (hx : x = 0 ∨ x = 1) : zev zk_X9_find (162, ls, [Sum.inl (Value.int x)], s, k) = some (.inl (some (Sum.inl (Value.int x))), s) := zf_retz rfl hx
set_option maxRecDepth 8000 in
theorem zr_X9_find_163 (a1 a2 a3 a4 : Option zAV) (st : List zAV) (s : zAS) (k : Nat × Nat) (o : Nat × Nat) : zev zk_X9_find (163, [some (Sum.inr o), a1, a2, a3, a4], st, s, k) = zev zk_X9_find (164, [some (Sum.inr o), a1, a2, a3, a4], Sum.inr o :: st, s, k) := zev_go rfl rfl
set_option maxRecDepth 8000 in
theorem zr_X9_find_164 (a1 a2 a3 a4 : Option zAV) (st : List zAV) (s : zAS) (k : Nat × Nat) (o : Nat × Nat) : zev zk_X9_find (164, [some (Sum.inr o), a1, a2, a3, a4], st, s, k) = zev zk_X9_find (165, [some (Sum.inr o), a1, a2, a3, a4], Sum.inr o :: st, s, k) := zev_go rfl rfl
set_option maxRecDepth 8000 in
theorem zr_X9_find_165 (a0 a1 a3 a4 : Option zAV) (st : List zAV) (s : zAS) (k : Nat × Nat) (x : Int32) : zev zk_X9_find (165, [a0, a1, some (Sum.inl (Value.int x)), a3, a4], st, s, k) = zev zk_X9_find (166, [a0, a1, some (Sum.inl (Value.int x)), a3, a4], Sum.inl (Value.int x) :: st, s, k) := zev_go rfl rfl
set_option maxRecDepth 8000 in
theorem zr_X9_find_166 (ls : zLs) (st : List zAV) (s : zAS) (k : Nat × Nat) (r v0 : zAV) (h : zcok zEM 9 0 0 (zR_X9_find).cells (zR_X9_find).slots r st k) : zev zk_X9_find (166, ls, v0 :: r :: st, s, k) = zret zk_X9_find 169 ls st (k.1 + 0, k.2 + 0) (m_X9_x [r, v0] s) := zf_callV (as := [v0]) 1 rfl rfl h
set_option maxRecDepth 8000 in
theorem zr_X9_find_169 (a1 a2 a3 a4 : Option zAV) (st : List zAV) (s : zAS) (k : Nat × Nat) (o : Nat × Nat) : zev zk_X9_find (169, [some (Sum.inr o), a1, a2, a3, a4], st, s, k) = zev zk_X9_find (170, [some (Sum.inr o), a1, a2, a3, a4], Sum.inr o :: st, s, k) := zev_go rfl rfl
set_option maxRecDepth 8000 in
theorem zr_X9_find_170 (a0 a1 a3 a4 : Option zAV) (st : List zAV) (s : zAS) (k : Nat × Nat) (x : Int32) : zev zk_X9_find (170, [a0, a1, some (Sum.inl (Value.int x)), a3, a4], st, s, k) = zev zk_X9_find (171, [a0, a1, some (Sum.inl (Value.int x)), a3, a4], Sum.inl (Value.int x) :: st, s, k) := zev_go rfl rfl
set_option maxRecDepth 8000 in
theorem zr_X9_find_171 (ls : zLs) (st : List zAV) (s : zAS) (k : Nat × Nat) (r v0 : zAV) (h : zcok zEM 9 0 0 (zR_X9_find).cells (zR_X9_find).slots r st k) : zev zk_X9_find (171, ls, v0 :: r :: st, s, k) = zret zk_X9_find 174 ls st (k.1 + 0, k.2 + 0) (m_X9_y [r, v0] s) := zf_callV (as := [v0]) 1 rfl rfl h
set_option maxRecDepth 8000 in
theorem zr_X9_find_174 (a1 a2 a3 a4 : Option zAV) (st : List zAV) (s : zAS) (k : Nat × Nat) (o : Nat × Nat) : zev zk_X9_find (174, [some (Sum.inr o), a1, a2, a3, a4], st, s, k) = zev zk_X9_find (175, [some (Sum.inr o), a1, a2, a3, a4], Sum.inr o :: st, s, k) := zev_go rfl rfl
set_option maxRecDepth 8000 in
theorem zr_X9_find_175 (a0 a1 a3 a4 : Option zAV) (st : List zAV) (s : zAS) (k : Nat × Nat) (x : Int32) : zev zk_X9_find (175, [a0, a1, some (Sum.inl (Value.int x)), a3, a4], st, s, k) = zev zk_X9_find (176, [a0, a1, some (Sum.inl (Value.int x)), a3, a4], Sum.inl (Value.int x) :: st, s, k) := zev_go rfl rfl
set_option maxRecDepth 8000 in
theorem zr_X9_find_176 (ls : zLs) (st : List zAV) (s : zAS) (k : Nat × Nat) (r v0 : zAV) (h : zcok zEM 9 0 0 (zR_X9_find).cells (zR_X9_find).slots r st k) : zev zk_X9_find (176, ls, v0 :: r :: st, s, k) = zret zk_X9_find 179 ls st (k.1 + 0, k.2 + 0) (m_X9_z [r, v0] s) := zf_callV (as := [v0]) 1 rfl rfl h
set_option maxRecDepth 8000 in
theorem zr_X9_find_179 (a1 a2 a3 a4 : Option zAV) (st : List zAV) (s : zAS) (k : Nat × Nat) (o : Nat × Nat) : zev zk_X9_find (179, [some (Sum.inr o), a1, a2, a3, a4], st, s, k) = zev zk_X9_find (180, [some (Sum.inr o), a1, a2, a3, a4], Sum.inr o :: st, s, k) := zev_go rfl rfl
set_option maxRecDepth 8000 in
theorem zr_X9_find_180 (a0 a1 a2 a4 : Option zAV) (st : List zAV) (s : zAS) (k : Nat × Nat) (x : Int32) : zev zk_X9_find (180, [a0, a1, a2, some (Sum.inl (Value.int x)), a4], st, s, k) = zev zk_X9_find (181, [a0, a1, a2, some (Sum.inl (Value.int x)), a4], Sum.inl (Value.int x) :: st, s, k) := zev_go rfl rfl
set_option maxRecDepth 8000 in
theorem zr_X9_find_181 (ls : zLs) (st : List zAV) (s : zAS) (k : Nat × Nat) (r v0 : zAV) (h : zcok zEM 9 0 0 (zR_X9_find).cells (zR_X9_find).slots r st k) : zev zk_X9_find (181, ls, v0 :: r :: st, s, k) = zret zk_X9_find 184 ls st (k.1 + 0, k.2 + 0) (m_X9_x [r, v0] s) := zf_callV (as := [v0]) 1 rfl rfl h
set_option maxRecDepth 8000 in
theorem zr_X9_find_184 (a1 a2 a3 a4 : Option zAV) (st : List zAV) (s : zAS) (k : Nat × Nat) (o : Nat × Nat) : zev zk_X9_find (184, [some (Sum.inr o), a1, a2, a3, a4], st, s, k) = zev zk_X9_find (185, [some (Sum.inr o), a1, a2, a3, a4], Sum.inr o :: st, s, k) := zev_go rfl rfl
set_option maxRecDepth 8000 in
theorem zr_X9_find_185 (a0 a1 a2 a4 : Option zAV) (st : List zAV) (s : zAS) (k : Nat × Nat) (x : Int32) : zev zk_X9_find (185, [a0, a1, a2, some (Sum.inl (Value.int x)), a4], st, s, k) = zev zk_X9_find (186, [a0, a1, a2, some (Sum.inl (Value.int x)), a4], Sum.inl (Value.int x) :: st, s, k) := zev_go rfl rfl
set_option maxRecDepth 8000 in
theorem zr_X9_find_186 (ls : zLs) (st : List zAV) (s : zAS) (k : Nat × Nat) (r v0 : zAV) (h : zcok zEM 9 0 0 (zR_X9_find).cells (zR_X9_find).slots r st k) : zev zk_X9_find (186, ls, v0 :: r :: st, s, k) = zret zk_X9_find 189 ls st (k.1 + 0, k.2 + 0) (m_X9_y [r, v0] s) := zf_callV (as := [v0]) 1 rfl rfl h
set_option maxRecDepth 8000 in
theorem zr_X9_find_189 (a1 a2 a3 a4 : Option zAV) (st : List zAV) (s : zAS) (k : Nat × Nat) (o : Nat × Nat) : zev zk_X9_find (189, [some (Sum.inr o), a1, a2, a3, a4], st, s, k) = zev zk_X9_find (190, [some (Sum.inr o), a1, a2, a3, a4], Sum.inr o :: st, s, k) := zev_go rfl rfl
set_option maxRecDepth 8000 in
theorem zr_X9_find_190 (a0 a1 a2 a4 : Option zAV) (st : List zAV) (s : zAS) (k : Nat × Nat) (x : Int32) : zev zk_X9_find (190, [a0, a1, a2, some (Sum.inl (Value.int x)), a4], st, s, k) = zev zk_X9_find (191, [a0, a1, a2, some (Sum.inl (Value.int x)), a4], Sum.inl (Value.int x) :: st, s, k) := zev_go rfl rfl
set_option maxRecDepth 8000 in
theorem zr_X9_find_191 (ls : zLs) (st : List zAV) (s : zAS) (k : Nat × Nat) (r v0 : zAV) (h : zcok zEM 9 0 0 (zR_X9_find).cells (zR_X9_find).slots r st k) : zev zk_X9_find (191, ls, v0 :: r :: st, s, k) = zret zk_X9_find 194 ls st (k.1 + 0, k.2 + 0) (m_X9_z [r, v0] s) := zf_callV (as := [v0]) 1 rfl rfl h
set_option maxRecDepth 8000 in
theorem zr_X9_find_194 (ls : zLs) (st : List zAV) (s : zAS) (k : Nat × Nat) (r v0 v1 v2 v3 v4 v5 : zAV) (h : zcok zEM 9 0 0 (zR_X9_find).cells (zR_X9_find).slots r st k) : zev zk_X9_find (194, ls, v5 :: v4 :: v3 :: v2 :: v1 :: v0 :: r :: st, s, k) = zret zk_X9_find 197 ls st (k.1 + 0, k.2 + 0) (m_X9_intersect [r, v0, v1, v2, v3, v4, v5] s) := zf_callV (as := [v5, v4, v3, v2, v1, v0]) 6 rfl rfl h
set_option maxRecDepth 8000 in
theorem zr_X9_find_197 (ls : zLs) (s : zAS) (k : Nat × Nat) (x : Int32) (hx : x = 0 ∨ x = 1) : zev zk_X9_find (197, ls, [Sum.inl (Value.int x)], s, k) = some (.inl (some (Sum.inl (Value.int x))), s) := zf_retz rfl hx
set_option maxRecDepth 8000 in
theorem zr_X9_find_198 (a1 a2 a3 a4 : Option zAV) (st : List zAV) (s : zAS) (k : Nat × Nat) (o : Nat × Nat) : zev zk_X9_find (198, [some (Sum.inr o), a1, a2, a3, a4], st, s, k) = zev zk_X9_find (199, [some (Sum.inr o), a1, a2, a3, a4], Sum.inr o :: st, s, k) := zev_go rfl rfl
set_option maxRecDepth 8000 in
theorem zr_X9_find_199 (a1 a2 a3 a4 : Option zAV) (st : List zAV) (s : zAS) (k : Nat × Nat) (o : Nat × Nat) : zev zk_X9_find (199, [some (Sum.inr o), a1, a2, a3, a4], st, s, k) = zev zk_X9_find (200, [some (Sum.inr o), a1, a2, a3, a4], Sum.inr o :: st, s, k) := zev_go rfl rfl
set_option maxRecDepth 8000 in
theorem zr_X9_find_200 (a0 a1 a3 a4 : Option zAV) (st : List zAV) (s : zAS) (k : Nat × Nat) (x : Int32) : zev zk_X9_find (200, [a0, a1, some (Sum.inl (Value.int x)), a3, a4], st, s, k) = zev zk_X9_find (201, [a0, a1, some (Sum.inl (Value.int x)), a3, a4], Sum.inl (Value.int x) :: st, s, k) := zev_go rfl rfl
set_option maxRecDepth 8000 in
theorem zr_X9_find_201 (ls : zLs) (st : List zAV) (s : zAS) (k : Nat × Nat) (r v0 : zAV) (h : zcok zEM 9 0 0 (zR_X9_find).cells (zR_X9_find).slots r st k) : zev zk_X9_find (201, ls, v0 :: r :: st, s, k) = zret zk_X9_find 204 ls st (k.1 + 0, k.2 + 0) (m_X9_x [r, v0] s) := zf_callV (as := [v0]) 1 rfl rfl h
set_option maxRecDepth 8000 in
theorem zr_X9_find_204 (a1 a2 a3 a4 : Option zAV) (st : List zAV) (s : zAS) (k : Nat × Nat) (o : Nat × Nat) : zev zk_X9_find (204, [some (Sum.inr o), a1, a2, a3, a4], st, s, k) = zev zk_X9_find (205, [some (Sum.inr o), a1, a2, a3, a4], Sum.inr o :: st, s, k) := zev_go rfl rfl
set_option maxRecDepth 8000 in
theorem zr_X9_find_205 (a0 a1 a3 a4 : Option zAV) (st : List zAV) (s : zAS) (k : Nat × Nat) (x : Int32) : zev zk_X9_find (205, [a0, a1, some (Sum.inl (Value.int x)), a3, a4], st, s, k) = zev zk_X9_find (206, [a0, a1, some (Sum.inl (Value.int x)), a3, a4], Sum.inl (Value.int x) :: st, s, k) := zev_go rfl rfl
set_option maxRecDepth 8000 in
theorem zr_X9_find_206 (ls : zLs) (st : List zAV) (s : zAS) (k : Nat × Nat) (r v0 : zAV) (h : zcok zEM 9 0 0 (zR_X9_find).cells (zR_X9_find).slots r st k) : zev zk_X9_find (206, ls, v0 :: r :: st, s, k) = zret zk_X9_find 209 ls st (k.1 + 0, k.2 + 0) (m_X9_y [r, v0] s) := zf_callV (as := [v0]) 1 rfl rfl h
set_option maxRecDepth 8000 in
theorem zr_X9_find_209 (a1 a2 a3 a4 : Option zAV) (st : List zAV) (s : zAS) (k : Nat × Nat) (o : Nat × Nat) : zev zk_X9_find (209, [some (Sum.inr o), a1, a2, a3, a4], st, s, k) = zev zk_X9_find (210, [some (Sum.inr o), a1, a2, a3, a4], Sum.inr o :: st, s, k) := zev_go rfl rfl
set_option maxRecDepth 8000 in
theorem zr_X9_find_210 (a0 a1 a3 a4 : Option zAV) (st : List zAV) (s : zAS) (k : Nat × Nat) (x : Int32) : zev zk_X9_find (210, [a0, a1, some (Sum.inl (Value.int x)), a3, a4], st, s, k) = zev zk_X9_find (211, [a0, a1, some (Sum.inl (Value.int x)), a3, a4], Sum.inl (Value.int x) :: st, s, k) := zev_go rfl rfl
set_option maxRecDepth 8000 in
theorem zr_X9_find_211 (ls : zLs) (st : List zAV) (s : zAS) (k : Nat × Nat) (r v0 : zAV) (h : zcok zEM 9 0 0 (zR_X9_find).cells (zR_X9_find).slots r st k) : zev zk_X9_find (211, ls, v0 :: r :: st, s, k) = zret zk_X9_find 214 ls st (k.1 + 0, k.2 + 0) (m_X9_z [r, v0] s) := zf_callV (as := [v0]) 1 rfl rfl h
set_option maxRecDepth 8000 in
theorem zr_X9_find_214 (a1 a2 a3 a4 : Option zAV) (st : List zAV) (s : zAS) (k : Nat × Nat) (o : Nat × Nat) : zev zk_X9_find (214, [some (Sum.inr o), a1, a2, a3, a4], st, s, k) = zev zk_X9_find (215, [some (Sum.inr o), a1, a2, a3, a4], Sum.inr o :: st, s, k) := zev_go rfl rfl
set_option maxRecDepth 8000 in
theorem zr_X9_find_215 (a0 a1 a2 a4 : Option zAV) (st : List zAV) (s : zAS) (k : Nat × Nat) (x : Int32) : zev zk_X9_find (215, [a0, a1, a2, some (Sum.inl (Value.int x)), a4], st, s, k) = zev zk_X9_find (216, [a0, a1, a2, some (Sum.inl (Value.int x)), a4], Sum.inl (Value.int x) :: st, s, k) := zev_go rfl rfl
set_option maxRecDepth 8000 in
theorem zr_X9_find_216 (ls : zLs) (st : List zAV) (s : zAS) (k : Nat × Nat) (r v0 : zAV) (h : zcok zEM 9 0 0 (zR_X9_find).cells (zR_X9_find).slots r st k) : zev zk_X9_find (216, ls, v0 :: r :: st, s, k) = zret zk_X9_find 219 ls st (k.1 + 0, k.2 + 0) (m_X9_x [r, v0] s) := zf_callV (as := [v0]) 1 rfl rfl h
set_option maxRecDepth 8000 in
theorem zr_X9_find_219 (a1 a2 a3 a4 : Option zAV) (st : List zAV) (s : zAS) (k : Nat × Nat) (o : Nat × Nat) : zev zk_X9_find (219, [some (Sum.inr o), a1, a2, a3, a4], st, s, k) = zev zk_X9_find (220, [some (Sum.inr o), a1, a2, a3, a4], Sum.inr o :: st, s, k) := zev_go rfl rfl
set_option maxRecDepth 8000 in
theorem zr_X9_find_220 (a0 a1 a2 a4 : Option zAV) (st : List zAV) (s : zAS) (k : Nat × Nat) (x : Int32) : zev zk_X9_find (220, [a0, a1, a2, some (Sum.inl (Value.int x)), a4], st, s, k) = zev zk_X9_find (221, [a0, a1, a2, some (Sum.inl (Value.int x)), a4], Sum.inl (Value.int x) :: st, s, k) := zev_go rfl rfl
set_option maxRecDepth 8000 in
theorem zr_X9_find_221 (ls : zLs) (st : List zAV) (s : zAS) (k : Nat × Nat) (r v0 : zAV) (h : zcok zEM 9 0 0 (zR_X9_find).cells (zR_X9_find).slots r st k) : zev zk_X9_find (221, ls, v0 :: r :: st, s, k) = zret zk_X9_find 224 ls st (k.1 + 0, k.2 + 0) (m_X9_y [r, v0] s) := zf_callV (as := [v0]) 1 rfl rfl h
set_option maxRecDepth 8000 in
theorem zr_X9_find_224 (a1 a2 a3 a4 : Option zAV) (st : List zAV) (s : zAS) (k : Nat × Nat) (o : Nat × Nat) : zev zk_X9_find (224, [some (Sum.inr o), a1, a2, a3, a4], st, s, k) = zev zk_X9_find (225, [some (Sum.inr o), a1, a2, a3, a4], Sum.inr o :: st, s, k) := zev_go rfl rfl
set_option maxRecDepth 8000 in
theorem zr_X9_find_225 (a0 a1 a2 a4 : Option zAV) (st : List zAV) (s : zAS) (k : Nat × Nat) (x : Int32) : zev zk_X9_find (225, [a0, a1, a2, some (Sum.inl (Value.int x)), a4], st, s, k) = zev zk_X9_find (226, [a0, a1, a2, some (Sum.inl (Value.int x)), a4], Sum.inl (Value.int x) :: st, s, k) := zev_go rfl rfl
set_option maxRecDepth 8000 in
theorem zr_X9_find_226 (ls : zLs) (st : List zAV) (s : zAS) (k : Nat × Nat) (r v0 : zAV) (h : zcok zEM 9 0 0 (zR_X9_find).cells (zR_X9_find).slots r st k) : zev zk_X9_find (226, ls, v0 :: r :: st, s, k) = zret zk_X9_find 229 ls st (k.1 + 0, k.2 + 0) (m_X9_z [r, v0] s) := zf_callV (as := [v0]) 1 rfl rfl h
set_option maxRecDepth 8000 in
theorem zr_X9_find_229 (a1 a2 a3 a4 : Option zAV) (st : List zAV) (s : zAS) (k : Nat × Nat) (o : Nat × Nat) : zev zk_X9_find (229, [some (Sum.inr o), a1, a2, a3, a4], st, s, k) = zev zk_X9_find (230, [some (Sum.inr o), a1, a2, a3, a4], Sum.inr o :: st, s, k) := zev_go rfl rfl
set_option maxRecDepth 8000 in
theorem zr_X9_find_230 (a0 a2 a3 a4 : Option zAV) (st : List zAV) (s : zAS) (k : Nat × Nat) (x : Int32) : zev zk_X9_find (230, [a0, some (Sum.inl (Value.int x)), a2, a3, a4], st, s, k) = zev zk_X9_find (231, [a0, some (Sum.inl (Value.int x)), a2, a3, a4], Sum.inl (Value.int x) :: st, s, k) := zev_go rfl rfl
set_option maxRecDepth 8000 in
theorem zr_X9_find_231 (ls : zLs) (st : List zAV) (s : zAS) (k : Nat × Nat) : zev zk_X9_find (231, ls, st, s, k) = zev zk_X9_find (232, ls, Sum.inl (Value.int (1)) :: st, s, k) := zev_go rfl rfl
set_option maxRecDepth 8000 in
theorem zr_X9_find_232 (ls : zLs) (st : List zAV) (s : zAS) (k : Nat × Nat) (r v0 v1 : zAV) (h : zcok zEM 9 0 0 (zR_X9_find).cells (zR_X9_find).slots r st k) : zev zk_X9_find (232, ls, v1 :: v0 :: r :: st, s, k) = zret zk_X9_find 235 ls st (k.1 + 0, k.2 + 0) (m_X9_get [r, v0, v1] s) := zf_callV (as := [v1, v0]) 2 rfl rfl h
set_option maxRecDepth 8000 in
theorem zr_X9_find_235 (ls : zLs) (st : List zAV) (s : zAS) (k : Nat × Nat) : zev zk_X9_find (235, ls, st, s, k) = zev zk_X9_find (236, ls, Sum.inl (Value.int (4)) :: st, s, k) := zev_go rfl rfl
set_option maxRecDepth 8000 in
theorem zr_X9_find_236 (ls : zLs) (st : List zAV) (s : zAS) (k : Nat × Nat) (x y : Int32) : zev zk_X9_find (236, ls, Sum.inl (Value.int y) :: Sum.inl (Value.int x) :: st, s, k) = if decide (¬ x = y) = true then zev zk_X9_find (243, ls, st, s, k) else zev zk_X9_find (239, ls, st, s, k) := zf_cmp (f := fun x y => decide (¬ x = y)) rfl
set_option maxRecDepth 8000 in
theorem zr_X9_find_239 (ls : zLs) (st : List zAV) (s : zAS) (k : Nat × Nat) : zev zk_X9_find (239, ls, st, s, k) = zev zk_X9_find (240, ls, Sum.inl (Value.int (1)) :: st, s, k) := zev_go rfl rfl
set_option maxRecDepth 8000 in
theorem zr_X9_find_240 (ls : zLs) (st : List zAV) (s : zAS) (k : Nat × Nat) : zev zk_X9_find (240, ls, st, s, k) = zev zk_X9_find (244, ls, st, s, k) := zev_go rfl rfl
set_option maxRecDepth 8000 in
theorem zr_X9_find_243 (ls : zLs) (st : List zAV) (s : zAS) (k : Nat × Nat) : zev zk_X9_find (243, ls, st, s, k) = zev zk_X9_find (244, ls, Sum.inl (Value.int (0)) :: st, s, k) := zev_go rfl rfl
set_option maxRecDepth 8000 in
theorem zr_X9_find_244 (ls : zLs) (st : List zAV) (s : zAS) (k : Nat × Nat) (r v0 v1 v2 v3 v4 v5 v6 : zAV) (h : zcok zEM 9 0 0 (zR_X9_find).cells (zR_X9_find).slots r st k) : zev zk_X9_find (244, ls, v6 :: v5 :: v4 :: v3 :: v2 :: v1 :: v0 :: r :: st, s, k) = zret zk_X9_find 247 ls st (k.1 + 0, k.2 + 0) (m_X9_common [r, v0, v1, v2, v3, v4, v5, v6] s) := zf_callV (as := [v6, v5, v4, v3, v2, v1, v0]) 7 rfl rfl h
set_option maxRecDepth 8000 in
theorem zr_X9_find_247 (ls : zLs) (s : zAS) (k : Nat × Nat) (x : Int32) (hx : x = 0 ∨ x = 1) : zev zk_X9_find (247, ls, [Sum.inl (Value.int x)], s, k) = some (.inl (some (Sum.inl (Value.int x))), s) := zf_retz rfl hx
set_option maxRecDepth 8000 in
theorem zr_X9_find_248 (a1 a2 a3 a4 : Option zAV) (st : List zAV) (s : zAS) (k : Nat × Nat) (o : Nat × Nat) : zev zk_X9_find (248, [some (Sum.inr o), a1, a2, a3, a4], st, s, k) = zev zk_X9_find (249, [some (Sum.inr o), a1, a2, a3, a4], Sum.inr o :: st, s, k) := zev_go rfl rfl
set_option maxRecDepth 8000 in
theorem zr_X9_find_249 (a0 a1 a3 a4 : Option zAV) (st : List zAV) (s : zAS) (k : Nat × Nat) (x : Int32) : zev zk_X9_find (249, [a0, a1, some (Sum.inl (Value.int x)), a3, a4], st, s, k) = zev zk_X9_find (250, [a0, a1, some (Sum.inl (Value.int x)), a3, a4], Sum.inl (Value.int x) :: st, s, k) := zev_go rfl rfl
set_option maxRecDepth 8000 in
theorem zr_X9_find_250 (a0 a1 a2 a4 : Option zAV) (st : List zAV) (s : zAS) (k : Nat × Nat) (x : Int32) : zev zk_X9_find (250, [a0, a1, a2, some (Sum.inl (Value.int x)), a4], st, s, k) = zev zk_X9_find (251, [a0, a1, a2, some (Sum.inl (Value.int x)), a4], Sum.inl (Value.int x) :: st, s, k) := zev_go rfl rfl
set_option maxRecDepth 8000 in
theorem zr_X9_find_251 (a1 a2 a3 a4 : Option zAV) (st : List zAV) (s : zAS) (k : Nat × Nat) (o : Nat × Nat) : zev zk_X9_find (251, [some (Sum.inr o), a1, a2, a3, a4], st, s, k) = zev zk_X9_find (252, [some (Sum.inr o), a1, a2, a3, a4], Sum.inr o :: st, s, k) := zev_go rfl rfl
set_option maxRecDepth 8000 in
theorem zr_X9_find_252 (a0 a2 a3 a4 : Option zAV) (st : List zAV) (s : zAS) (k : Nat × Nat) (x : Int32) : zev zk_X9_find (252, [a0, some (Sum.inl (Value.int x)), a2, a3, a4], st, s, k) = zev zk_X9_find (253, [a0, some (Sum.inl (Value.int x)), a2, a3, a4], Sum.inl (Value.int x) :: st, s, k) := zev_go rfl rfl
set_option maxRecDepth 8000 in
theorem zr_X9_find_253 (ls : zLs) (st : List zAV) (s : zAS) (k : Nat × Nat) : zev zk_X9_find (253, ls, st, s, k) = zev zk_X9_find (254, ls, Sum.inl (Value.int (1)) :: st, s, k) := zev_go rfl rfl
set_option maxRecDepth 8000 in
theorem zr_X9_find_254 (ls : zLs) (st : List zAV) (s : zAS) (k : Nat × Nat) (r v0 v1 : zAV) (h : zcok zEM 9 0 0 (zR_X9_find).cells (zR_X9_find).slots r st k) : zev zk_X9_find (254, ls, v1 :: v0 :: r :: st, s, k) = zret zk_X9_find 257 ls st (k.1 + 0, k.2 + 0) (m_X9_get [r, v0, v1] s) := zf_callV (as := [v1, v0]) 2 rfl rfl h
set_option maxRecDepth 8000 in
theorem zr_X9_find_257 (ls : zLs) (st : List zAV) (s : zAS) (k : Nat × Nat) : zev zk_X9_find (257, ls, st, s, k) = zev zk_X9_find (259, ls, Sum.inl (Value.int (6)) :: st, s, k) := zev_go rfl rfl
set_option maxRecDepth 8000 in
theorem zr_X9_find_259 (ls : zLs) (st : List zAV) (s : zAS) (k : Nat × Nat) (x y : Int32) : zev zk_X9_find (259, ls, Sum.inl (Value.int y) :: Sum.inl (Value.int x) :: st, s, k) = if decide (¬ x = y) = true then zev zk_X9_find (266, ls, st, s, k) else zev zk_X9_find (262, ls, st, s, k) := zf_cmp (f := fun x y => decide (¬ x = y)) rfl
set_option maxRecDepth 8000 in
theorem zr_X9_find_262 (ls : zLs) (st : List zAV) (s : zAS) (k : Nat × Nat) : zev zk_X9_find (262, ls, st, s, k) = zev zk_X9_find (263, ls, Sum.inl (Value.int (1)) :: st, s, k) := zev_go rfl rfl
set_option maxRecDepth 8000 in
theorem zr_X9_find_263 (ls : zLs) (st : List zAV) (s : zAS) (k : Nat × Nat) : zev zk_X9_find (263, ls, st, s, k) = zev zk_X9_find (267, ls, st, s, k) := zev_go rfl rfl
set_option maxRecDepth 8000 in
theorem zr_X9_find_266 (ls : zLs) (st : List zAV) (s : zAS) (k : Nat × Nat) : zev zk_X9_find (266, ls, st, s, k) = zev zk_X9_find (267, ls, Sum.inl (Value.int (0)) :: st, s, k) := zev_go rfl rfl
set_option maxRecDepth 8000 in
theorem zr_X9_find_267 (ls : zLs) (st : List zAV) (s : zAS) (k : Nat × Nat) (r v0 v1 v2 : zAV) (h : zcok zEM 9 0 0 (zR_X9_find).cells (zR_X9_find).slots r st k) : zev zk_X9_find (267, ls, v2 :: v1 :: v0 :: r :: st, s, k) = zret zk_X9_find 270 ls st (k.1 + 0, k.2 + 0) (m_X9_commonOfCircles [r, v0, v1, v2] s) := zf_callV (as := [v2, v1, v0]) 3 rfl rfl h
set_option maxRecDepth 8000 in
theorem zr_X9_find_270 (ls : zLs) (s : zAS) (k : Nat × Nat) (x : Int32) (hx : x = 0 ∨ x = 1) : zev zk_X9_find (270, ls, [Sum.inl (Value.int x)], s, k) = some (.inl (some (Sum.inl (Value.int x))), s) := zf_retz rfl hx
set_option maxRecDepth 8000 in
theorem zr_X9_find_271 (a1 a2 a3 a4 : Option zAV) (st : List zAV) (s : zAS) (k : Nat × Nat) (o : Nat × Nat) : zev zk_X9_find (271, [some (Sum.inr o), a1, a2, a3, a4], st, s, k) = zev zk_X9_find (272, [some (Sum.inr o), a1, a2, a3, a4], Sum.inr o :: st, s, k) := zev_go rfl rfl
set_option maxRecDepth 8000 in
theorem zr_X9_find_272 (a1 a2 a3 a4 : Option zAV) (st : List zAV) (s : zAS) (k : Nat × Nat) (o : Nat × Nat) : zev zk_X9_find (272, [some (Sum.inr o), a1, a2, a3, a4], st, s, k) = zev zk_X9_find (273, [some (Sum.inr o), a1, a2, a3, a4], Sum.inr o :: st, s, k) := zev_go rfl rfl
set_option maxRecDepth 8000 in
theorem zr_X9_find_273 (a0 a1 a3 a4 : Option zAV) (st : List zAV) (s : zAS) (k : Nat × Nat) (x : Int32) : zev zk_X9_find (273, [a0, a1, some (Sum.inl (Value.int x)), a3, a4], st, s, k) = zev zk_X9_find (274, [a0, a1, some (Sum.inl (Value.int x)), a3, a4], Sum.inl (Value.int x) :: st, s, k) := zev_go rfl rfl
set_option maxRecDepth 8000 in
theorem zr_X9_find_274 (ls : zLs) (st : List zAV) (s : zAS) (k : Nat × Nat) (r v0 : zAV) (h : zcok zEM 9 0 0 (zR_X9_find).cells (zR_X9_find).slots r st k) : zev zk_X9_find (274, ls, v0 :: r :: st, s, k) = zret zk_X9_find 277 ls st (k.1 + 0, k.2 + 0) (m_X9_x [r, v0] s) := zf_callV (as := [v0]) 1 rfl rfl h
set_option maxRecDepth 8000 in
theorem zr_X9_find_277 (a1 a2 a3 a4 : Option zAV) (st : List zAV) (s : zAS) (k : Nat × Nat) (o : Nat × Nat) : zev zk_X9_find (277, [some (Sum.inr o), a1, a2, a3, a4], st, s, k) = zev zk_X9_find (278, [some (Sum.inr o), a1, a2, a3, a4], Sum.inr o :: st, s, k) := zev_go rfl rfl
set_option maxRecDepth 8000 in
theorem zr_X9_find_278 (a0 a1 a2 a4 : Option zAV) (st : List zAV) (s : zAS) (k : Nat × Nat) (x : Int32) : zev zk_X9_find (278, [a0, a1, a2, some (Sum.inl (Value.int x)), a4], st, s, k) = zev zk_X9_find (279, [a0, a1, a2, some (Sum.inl (Value.int x)), a4], Sum.inl (Value.int x) :: st, s, k) := zev_go rfl rfl
set_option maxRecDepth 8000 in
theorem zr_X9_find_279 (ls : zLs) (st : List zAV) (s : zAS) (k : Nat × Nat) (r v0 : zAV) (h : zcok zEM 9 0 0 (zR_X9_find).cells (zR_X9_find).slots r st k) : zev zk_X9_find (279, ls, v0 :: r :: st, s, k) = zret zk_X9_find 282 ls st (k.1 + 0, k.2 + 0) (m_X9_x [r, v0] s) := zf_callV (as := [v0]) 1 rfl rfl h
set_option maxRecDepth 8000 in
theorem zr_X9_find_282 (ls : zLs) (st : List zAV) (s : zAS) (k : Nat × Nat) (x y : Int32) : zev zk_X9_find (282, ls, Sum.inl (Value.int y) :: Sum.inl (Value.int x) :: st, s, k) = zev zk_X9_find (283, ls, Sum.inl (Value.int (x + y)) :: st, s, k) := zev_go rfl rfl
set_option maxRecDepth 8000 in
theorem zr_X9_find_283 (a1 a2 a3 a4 : Option zAV) (st : List zAV) (s : zAS) (k : Nat × Nat) (o : Nat × Nat) : zev zk_X9_find (283, [some (Sum.inr o), a1, a2, a3, a4], st, s, k) = zev zk_X9_find (284, [some (Sum.inr o), a1, a2, a3, a4], Sum.inr o :: st, s, k) := zev_go rfl rfl
set_option maxRecDepth 8000 in
theorem zr_X9_find_284 (ls : zLs) (st : List zAV) (s : zAS) (k : Nat × Nat) : zev zk_X9_find (284, ls, st, s, k) = zev zk_X9_find (285, ls, Sum.inl (Value.int (2)) :: st, s, k) := zev_go rfl rfl
set_option maxRecDepth 8000 in
theorem zr_X9_find_285 (ls : zLs) (st : List zAV) (s : zAS) (k : Nat × Nat) (r v0 : zAV) (h : zcok zEM 9 0 0 (zR_X9_find).cells (zR_X9_find).slots r st k) : zev zk_X9_find (285, ls, v0 :: r :: st, s, k) = zret zk_X9_find 288 ls st (k.1 + 0, k.2 + 0) (m_X9_opposite [r, v0] s) := zf_callV (as := [v0]) 1 rfl rfl h
set_option maxRecDepth 8000 in
theorem zr_X9_find_288 (ls : zLs) (st : List zAV) (s : zAS) (k : Nat × Nat) (x y : Int32) : zev zk_X9_find (288, ls, Sum.inl (Value.int y) :: Sum.inl (Value.int x) :: st, s, k) = zev zk_X9_find (289, ls, Sum.inl (Value.int (x * y)) :: st, s, k) := zev_go rfl rfl
set_option maxRecDepth 8000 in
theorem zr_X9_find_289 (a1 a2 a3 a4 : Option zAV) (st : List zAV) (s : zAS) (k : Nat × Nat) (o : Nat × Nat) : zev zk_X9_find (289, [some (Sum.inr o), a1, a2, a3, a4], st, s, k) = zev zk_X9_find (290, [some (Sum.inr o), a1, a2, a3, a4], Sum.inr o :: st, s, k) := zev_go rfl rfl
set_option maxRecDepth 8000 in
theorem zr_X9_find_290 (a0 a1 a3 a4 : Option zAV) (st : List zAV) (s : zAS) (k : Nat × Nat) (x : Int32) : zev zk_X9_find (290, [a0, a1, some (Sum.inl (Value.int x)), a3, a4], st, s, k) = zev zk_X9_find (291, [a0, a1, some (Sum.inl (Value.int x)), a3, a4], Sum.inl (Value.int x) :: st, s, k) := zev_go rfl rfl
set_option maxRecDepth 8000 in
theorem zr_X9_find_291 (ls : zLs) (st : List zAV) (s : zAS) (k : Nat × Nat) (r v0 : zAV) (h : zcok zEM 9 0 0 (zR_X9_find).cells (zR_X9_find).slots r st k) : zev zk_X9_find (291, ls, v0 :: r :: st, s, k) = zret zk_X9_find 294 ls st (k.1 + 0, k.2 + 0) (m_X9_y [r, v0] s) := zf_callV (as := [v0]) 1 rfl rfl h
set_option maxRecDepth 8000 in
theorem zr_X9_find_294 (a1 a2 a3 a4 : Option zAV) (st : List zAV) (s : zAS) (k : Nat × Nat) (o : Nat × Nat) : zev zk_X9_find (294, [some (Sum.inr o), a1, a2, a3, a4], st, s, k) = zev zk_X9_find (295, [some (Sum.inr o), a1, a2, a3, a4], Sum.inr o :: st, s, k) := zev_go rfl rfl
set_option maxRecDepth 8000 in
theorem zr_X9_find_295 (a0 a1 a2 a4 : Option zAV) (st : List zAV) (s : zAS) (k : Nat × Nat) (x : Int32) : zev zk_X9_find (295, [a0, a1, a2, some (Sum.inl (Value.int x)), a4], st, s, k) = zev zk_X9_find (296, [a0, a1, a2, some (Sum.inl (Value.int x)), a4], Sum.inl (Value.int x) :: st, s, k) := zev_go rfl rfl
set_option maxRecDepth 8000 in
theorem zr_X9_find_296 (ls : zLs) (st : List zAV) (s : zAS) (k : Nat × Nat) (r v0 : zAV) (h : zcok zEM 9 0 0 (zR_X9_find).cells (zR_X9_find).slots r st k) : zev zk_X9_find (296, ls, v0 :: r :: st, s, k) = zret zk_X9_find 299 ls st (k.1 + 0, k.2 + 0) (m_X9_y [r, v0] s) := zf_callV (as := [v0]) 1 rfl rfl h
set_option maxRecDepth 8000 in
theorem zr_X9_find_299 (ls : zLs) (st : List zAV) (s : zAS) (k : Nat × Nat) (x y : Int32) : zev zk_X9_find (299, ls, Sum.inl (Value.int y) :: Sum.inl (Value.int x) :: st, s, k) = zev zk_X9_find (300, ls, Sum.inl (Value.int (x + y)) :: st, s, k) := zev_go rfl rfl
set_option maxRecDepth 8000 in
theorem zr_X9_find_300 (a1 a2 a3 a4 : Option zAV) (st : List zAV) (s : zAS) (k : Nat × Nat) (o : Nat × Nat) : zev zk_X9_find (300, [some (Sum.inr o), a1, a2, a3, a4], st, s, k) = zev zk_X9_find (301, [some (Sum.inr o), a1, a2, a3, a4], Sum.inr o :: st, s, k) := zev_go rfl rfl
set_option maxRecDepth 8000 in
theorem zr_X9_find_301 (ls : zLs) (st : List zAV) (s : zAS) (k : Nat × Nat) : zev zk_X9_find (301, ls, st, s, k) = zev zk_X9_find (302, ls, Sum.inl (Value.int (2)) :: st, s, k) := zev_go rfl rfl
set_option maxRecDepth 8000 in
theorem zr_X9_find_302 (ls : zLs) (st : List zAV) (s : zAS) (k : Nat × Nat) (r v0 : zAV) (h : zcok zEM 9 0 0 (zR_X9_find).cells (zR_X9_find).slots r st k) : zev zk_X9_find (302, ls, v0 :: r :: st, s, k) = zret zk_X9_find 305 ls st (k.1 + 0, k.2 + 0) (m_X9_opposite [r, v0] s) := zf_callV (as := [v0]) 1 rfl rfl h
set_option maxRecDepth 8000 in
theorem zr_X9_find_305 (ls : zLs) (st : List zAV) (s : zAS) (k : Nat × Nat) (x y : Int32) : zev zk_X9_find (305, ls, Sum.inl (Value.int y) :: Sum.inl (Value.int x) :: st, s, k) = zev zk_X9_find (306, ls, Sum.inl (Value.int (x * y)) :: st, s, k) := zev_go rfl rfl
set_option maxRecDepth 8000 in
theorem zr_X9_find_306 (ls : zLs) (st : List zAV) (s : zAS) (k : Nat × Nat) : zev zk_X9_find (306, ls, st, s, k) = zev zk_X9_find (307, ls, Sum.inl (Value.int (0)) :: st, s, k) := zev_go rfl rfl
set_option maxRecDepth 8000 in
theorem zr_X9_find_307 (ls : zLs) (st : List zAV) (s : zAS) (k : Nat × Nat) (r v0 v1 v2 : zAV) (h : zcok zEM 9 0 0 (zR_X9_find).cells (zR_X9_find).slots r st k) : zev zk_X9_find (307, ls, v2 :: v1 :: v0 :: r :: st, s, k) = zret zk_X9_find 310 ls st (k.1 + 0, k.2 + 0) (m_X9_lay [r, v0, v1, v2] s) := zf_callV (as := [v2, v1, v0]) 3 rfl rfl h
set_option maxRecDepth 8000 in
theorem zr_X9_find_310 (ls : zLs) (s : zAS) (k : Nat × Nat) (x : Int32) (hx : x = 0 ∨ x = 1) : zev zk_X9_find (310, ls, [Sum.inl (Value.int x)], s, k) = some (.inl (some (Sum.inl (Value.int x))), s) := zf_retz rfl hx
set_option maxRecDepth 8000 in
theorem zr_X9_find_311 (a1 a2 a3 a4 : Option zAV) (st : List zAV) (s : zAS) (k : Nat × Nat) (o : Nat × Nat) : zev zk_X9_find (311, [some (Sum.inr o), a1, a2, a3, a4], st, s, k) = zev zk_X9_find (312, [some (Sum.inr o), a1, a2, a3, a4], Sum.inr o :: st, s, k) := zev_go rfl rfl
set_option maxRecDepth 8000 in
theorem zr_X9_find_312 (a0 a1 a3 a4 : Option zAV) (st : List zAV) (s : zAS) (k : Nat × Nat) (x : Int32) : zev zk_X9_find (312, [a0, a1, some (Sum.inl (Value.int x)), a3, a4], st, s, k) = zev zk_X9_find (313, [a0, a1, some (Sum.inl (Value.int x)), a3, a4], Sum.inl (Value.int x) :: st, s, k) := zev_go rfl rfl
set_option maxRecDepth 8000 in
theorem zr_X9_find_313 (a0 a1 a2 a4 : Option zAV) (st : List zAV) (s : zAS) (k : Nat × Nat) (x : Int32) : zev zk_X9_find (313, [a0, a1, a2, some (Sum.inl (Value.int x)), a4], st, s, k) = zev zk_X9_find (314, [a0, a1, a2, some (Sum.inl (Value.int x)), a4], Sum.inl (Value.int x) :: st, s, k) := zev_go rfl rfl
set_option maxRecDepth 8000 in
theorem zr_X9_find_314 (ls : zLs) (st : List zAV) (s : zAS) (k : Nat × Nat) (r v0 v1 : zAV) (h : zcok zEM 9 0 0 (zR_X9_find).cells (zR_X9_find).slots r st k) : zev zk_X9_find (314, ls, v1 :: v0 :: r :: st, s, k) = zret zk_X9_find 317 ls st (k.1 + 0, k.2 + 0) (m_X9_mirror [r, v0, v1] s) := zf_callV (as := [v1, v0]) 2 rfl rfl h
set_option maxRecDepth 8000 in
theorem zr_X9_find_317 (ls : zLs) (s : zAS) (k : Nat × Nat) (x : Int32) (hx : x = 0 ∨ x = 1) : zev zk_X9_find (317, ls, [Sum.inl (Value.int x)], s, k) = some (.inl (some (Sum.inl (Value.int x))), s) := zf_retz rfl hx
set_option maxRecDepth 8000 in
theorem zr_X9_find_318 (a1 a2 a3 a4 : Option zAV) (st : List zAV) (s : zAS) (k : Nat × Nat) (o : Nat × Nat) : zev zk_X9_find (318, [some (Sum.inr o), a1, a2, a3, a4], st, s, k) = zev zk_X9_find (319, [some (Sum.inr o), a1, a2, a3, a4], Sum.inr o :: st, s, k) := zev_go rfl rfl
set_option maxRecDepth 8000 in
theorem zr_X9_find_319 (a1 a2 a3 a4 : Option zAV) (st : List zAV) (s : zAS) (k : Nat × Nat) (o : Nat × Nat) : zev zk_X9_find (319, [some (Sum.inr o), a1, a2, a3, a4], st, s, k) = zev zk_X9_find (320, [some (Sum.inr o), a1, a2, a3, a4], Sum.inr o :: st, s, k) := zev_go rfl rfl
set_option maxRecDepth 8000 in
theorem zr_X9_find_320 (a0 a1 a3 a4 : Option zAV) (st : List zAV) (s : zAS) (k : Nat × Nat) (x : Int32) : zev zk_X9_find (320, [a0, a1, some (Sum.inl (Value.int x)), a3, a4], st, s, k) = zev zk_X9_find (321, [a0, a1, some (Sum.inl (Value.int x)), a3, a4], Sum.inl (Value.int x) :: st, s, k) := zev_go rfl rfl
set_option maxRecDepth 8000 in
theorem zr_X9_find_321 (ls : zLs) (st : List zAV) (s : zAS) (k : Nat × Nat) (r v0 : zAV) (h : zcok zEM 9 0 0 (zR_X9_find).cells (zR_X9_find).slots r st k) : zev zk_X9_find (321, ls, v0 :: r :: st, s, k) = zret zk_X9_find 324 ls st (k.1 + 0, k.2 + 0) (m_X9_y [r, v0] s) := zf_callV (as := [v0]) 1 rfl rfl h
set_option maxRecDepth 8000 in
theorem zr_X9_find_324 (a1 a2 a3 a4 : Option zAV) (st : List zAV) (s : zAS) (k : Nat × Nat) (o : Nat × Nat) : zev zk_X9_find (324, [some (Sum.inr o), a1, a2, a3, a4], st, s, k) = zev zk_X9_find (325, [some (Sum.inr o), a1, a2, a3, a4], Sum.inr o :: st, s, k) := zev_go rfl rfl
set_option maxRecDepth 8000 in
theorem zr_X9_find_325 (a0 a1 a2 a4 : Option zAV) (st : List zAV) (s : zAS) (k : Nat × Nat) (x : Int32) : zev zk_X9_find (325, [a0, a1, a2, some (Sum.inl (Value.int x)), a4], st, s, k) = zev zk_X9_find (326, [a0, a1, a2, some (Sum.inl (Value.int x)), a4], Sum.inl (Value.int x) :: st, s, k) := zev_go rfl rfl
set_option maxRecDepth 8000 in
theorem zr_X9_find_326 (ls : zLs) (st : List zAV) (s : zAS) (k : Nat × Nat) (r v0 : zAV) (h : zcok zEM 9 0 0 (zR_X9_find).cells (zR_X9_find).slots r st k) : zev zk_X9_find (326, ls, v0 :: r :: st, s, k) = zret zk_X9_find 329 ls st (k.1 + 0, k.2 + 0) (m_X9_y [r, v0] s) := zf_callV (as := [v0]) 1 rfl rfl h
set_option maxRecDepth 8000 in
theorem zr_X9_find_329 (ls : zLs) (st : List zAV) (s : zAS) (k : Nat × Nat) (x y : Int32) : zev zk_X9_find (329, ls, Sum.inl (Value.int y) :: Sum.inl (Value.int x) :: st, s, k) = zev zk_X9_find (330, ls, Sum.inl (Value.int (x - y)) :: st, s, k) := zev_go rfl rfl
set_option maxRecDepth 8000 in
theorem zr_X9_find_330 (a1 a2 a3 a4 : Option zAV) (st : List zAV) (s : zAS) (k : Nat × Nat) (o : Nat × Nat) : zev zk_X9_find (330, [some (Sum.inr o), a1, a2, a3, a4], st, s, k) = zev zk_X9_find (331, [some (Sum.inr o), a1, a2, a3, a4], Sum.inr o :: st, s, k) := zev_go rfl rfl
set_option maxRecDepth 8000 in
theorem zr_X9_find_331 (a0 a1 a2 a4 : Option zAV) (st : List zAV) (s : zAS) (k : Nat × Nat) (x : Int32) : zev zk_X9_find (331, [a0, a1, a2, some (Sum.inl (Value.int x)), a4], st, s, k) = zev zk_X9_find (332, [a0, a1, a2, some (Sum.inl (Value.int x)), a4], Sum.inl (Value.int x) :: st, s, k) := zev_go rfl rfl
set_option maxRecDepth 8000 in
theorem zr_X9_find_332 (ls : zLs) (st : List zAV) (s : zAS) (k : Nat × Nat) (r v0 : zAV) (h : zcok zEM 9 0 0 (zR_X9_find).cells (zR_X9_find).slots r st k) : zev zk_X9_find (332, ls, v0 :: r :: st, s, k) = zret zk_X9_find 335 ls st (k.1 + 0, k.2 + 0) (m_X9_x [r, v0] s) := zf_callV (as := [v0]) 1 rfl rfl h
set_option maxRecDepth 8000 in
theorem zr_X9_find_335 (a1 a2 a3 a4 : Option zAV) (st : List zAV) (s : zAS) (k : Nat × Nat) (o : Nat × Nat) : zev zk_X9_find (335, [some (Sum.inr o), a1, a2, a3, a4], st, s, k) = zev zk_X9_find (336, [some (Sum.inr o), a1, a2, a3, a4], Sum.inr o :: st, s, k) := zev_go rfl rfl
set_option maxRecDepth 8000 in
theorem zr_X9_find_336 (a0 a1 a3 a4 : Option zAV) (st : List zAV) (s : zAS) (k : Nat × Nat) (x : Int32) : zev zk_X9_find (336, [a0, a1, some (Sum.inl (Value.int x)), a3, a4], st, s, k) = zev zk_X9_find (337, [a0, a1, some (Sum.inl (Value.int x)), a3, a4], Sum.inl (Value.int x) :: st, s, k) := zev_go rfl rfl
set_option maxRecDepth 8000 in
theorem zr_X9_find_337 (ls : zLs) (st : List zAV) (s : zAS) (k : Nat × Nat) (r v0 : zAV) (h : zcok zEM 9 0 0 (zR_X9_find).cells (zR_X9_find).slots r st k) : zev zk_X9_find (337, ls, v0 :: r :: st, s, k) = zret zk_X9_find 340 ls st (k.1 + 0, k.2 + 0) (m_X9_x [r, v0] s) := zf_callV (as := [v0]) 1 rfl rfl h
set_option maxRecDepth 8000 in
theorem zr_X9_find_340 (ls : zLs) (st : List zAV) (s : zAS) (k : Nat × Nat) (x y : Int32) : zev zk_X9_find (340, ls, Sum.inl (Value.int y) :: Sum.inl (Value.int x) :: st, s, k) = zev zk_X9_find (341, ls, Sum.inl (Value.int (x - y)) :: st, s, k) := zev_go rfl rfl
set_option maxRecDepth 8000 in
theorem zr_X9_find_341 (a1 a2 a3 a4 : Option zAV) (st : List zAV) (s : zAS) (k : Nat × Nat) (o : Nat × Nat) : zev zk_X9_find (341, [some (Sum.inr o), a1, a2, a3, a4], st, s, k) = zev zk_X9_find (342, [some (Sum.inr o), a1, a2, a3, a4], Sum.inr o :: st, s, k) := zev_go rfl rfl
set_option maxRecDepth 8000 in
theorem zr_X9_find_342 (a0 a1 a3 a4 : Option zAV) (st : List zAV) (s : zAS) (k : Nat × Nat) (x : Int32) : zev zk_X9_find (342, [a0, a1, some (Sum.inl (Value.int x)), a3, a4], st, s, k) = zev zk_X9_find (343, [a0, a1, some (Sum.inl (Value.int x)), a3, a4], Sum.inl (Value.int x) :: st, s, k) := zev_go rfl rfl
set_option maxRecDepth 8000 in
theorem zr_X9_find_343 (ls : zLs) (st : List zAV) (s : zAS) (k : Nat × Nat) (r v0 : zAV) (h : zcok zEM 9 0 0 (zR_X9_find).cells (zR_X9_find).slots r st k) : zev zk_X9_find (343, ls, v0 :: r :: st, s, k) = zret zk_X9_find 346 ls st (k.1 + 0, k.2 + 0) (m_X9_x [r, v0] s) := zf_callV (as := [v0]) 1 rfl rfl h
set_option maxRecDepth 8000 in
theorem zr_X9_find_346 (a1 a2 a3 a4 : Option zAV) (st : List zAV) (s : zAS) (k : Nat × Nat) (o : Nat × Nat) : zev zk_X9_find (346, [some (Sum.inr o), a1, a2, a3, a4], st, s, k) = zev zk_X9_find (347, [some (Sum.inr o), a1, a2, a3, a4], Sum.inr o :: st, s, k) := zev_go rfl rfl
set_option maxRecDepth 8000 in
theorem zr_X9_find_347 (a0 a1 a2 a4 : Option zAV) (st : List zAV) (s : zAS) (k : Nat × Nat) (x : Int32) : zev zk_X9_find (347, [a0, a1, a2, some (Sum.inl (Value.int x)), a4], st, s, k) = zev zk_X9_find (348, [a0, a1, a2, some (Sum.inl (Value.int x)), a4], Sum.inl (Value.int x) :: st, s, k) := zev_go rfl rfl
set_option maxRecDepth 8000 in
theorem zr_X9_find_348 (ls : zLs) (st : List zAV) (s : zAS) (k : Nat × Nat) (r v0 : zAV) (h : zcok zEM 9 0 0 (zR_X9_find).cells (zR_X9_find).slots r st k) : zev zk_X9_find (348, ls, v0 :: r :: st, s, k) = zret zk_X9_find 351 ls st (k.1 + 0, k.2 + 0) (m_X9_y [r, v0] s) := zf_callV (as := [v0]) 1 rfl rfl h
set_option maxRecDepth 8000 in
theorem zr_X9_find_351 (ls : zLs) (st : List zAV) (s : zAS) (k : Nat × Nat) (x y : Int32) : zev zk_X9_find (351, ls, Sum.inl (Value.int y) :: Sum.inl (Value.int x) :: st, s, k) = zev zk_X9_find (352, ls, Sum.inl (Value.int (x * y)) :: st, s, k) := zev_go rfl rfl
set_option maxRecDepth 8000 in
theorem zr_X9_find_352 (a1 a2 a3 a4 : Option zAV) (st : List zAV) (s : zAS) (k : Nat × Nat) (o : Nat × Nat) : zev zk_X9_find (352, [some (Sum.inr o), a1, a2, a3, a4], st, s, k) = zev zk_X9_find (353, [some (Sum.inr o), a1, a2, a3, a4], Sum.inr o :: st, s, k) := zev_go rfl rfl
set_option maxRecDepth 8000 in
theorem zr_X9_find_353 (a0 a1 a2 a4 : Option zAV) (st : List zAV) (s : zAS) (k : Nat × Nat) (x : Int32) : zev zk_X9_find (353, [a0, a1, a2, some (Sum.inl (Value.int x)), a4], st, s, k) = zev zk_X9_find (354, [a0, a1, a2, some (Sum.inl (Value.int x)), a4], Sum.inl (Value.int x) :: st, s, k) := zev_go rfl rfl
set_option maxRecDepth 8000 in
theorem zr_X9_find_354 (ls : zLs) (st : List zAV) (s : zAS) (k : Nat × Nat) (r v0 : zAV) (h : zcok zEM 9 0 0 (zR_X9_find).cells (zR_X9_find).slots r st k) : zev zk_X9_find (354, ls, v0 :: r :: st, s, k) = zret zk_X9_find 357 ls st (k.1 + 0, k.2 + 0) (m_X9_x [r, v0] s) := zf_callV (as := [v0]) 1 rfl rfl h
set_option maxRecDepth 8000 in
theorem zr_X9_find_357 (a1 a2 a3 a4 : Option zAV) (st : List zAV) (s : zAS) (k : Nat × Nat) (o : Nat × Nat) : zev zk_X9_find (357, [some (Sum.inr o), a1, a2, a3, a4], st, s, k) = zev zk_X9_find (358, [some (Sum.inr o), a1, a2, a3, a4], Sum.inr o :: st, s, k) := zev_go rfl rfl
set_option maxRecDepth 8000 in
theorem zr_X9_find_358 (a0 a1 a3 a4 : Option zAV) (st : List zAV) (s : zAS) (k : Nat × Nat) (x : Int32) : zev zk_X9_find (358, [a0, a1, some (Sum.inl (Value.int x)), a3, a4], st, s, k) = zev zk_X9_find (359, [a0, a1, some (Sum.inl (Value.int x)), a3, a4], Sum.inl (Value.int x) :: st, s, k) := zev_go rfl rfl
set_option maxRecDepth 8000 in
theorem zr_X9_find_359 (ls : zLs) (st : List zAV) (s : zAS) (k : Nat × Nat) (r v0 : zAV) (h : zcok zEM 9 0 0 (zR_X9_find).cells (zR_X9_find).slots r st k) : zev zk_X9_find (359, ls, v0 :: r :: st, s, k) = zret zk_X9_find 362 ls st (k.1 + 0, k.2 + 0) (m_X9_y [r, v0] s) := zf_callV (as := [v0]) 1 rfl rfl h
set_option maxRecDepth 8000 in
theorem zr_X9_find_362 (ls : zLs) (st : List zAV) (s : zAS) (k : Nat × Nat) (x y : Int32) : zev zk_X9_find (362, ls, Sum.inl (Value.int y) :: Sum.inl (Value.int x) :: st, s, k) = zev zk_X9_find (363, ls, Sum.inl (Value.int (x * y)) :: st, s, k) := zev_go rfl rfl
set_option maxRecDepth 8000 in
theorem zr_X9_find_363 (ls : zLs) (st : List zAV) (s : zAS) (k : Nat × Nat) (x y : Int32) : zev zk_X9_find (363, ls, Sum.inl (Value.int y) :: Sum.inl (Value.int x) :: st, s, k) = zev zk_X9_find (364, ls, Sum.inl (Value.int (x - y)) :: st, s, k) := zev_go rfl rfl
set_option maxRecDepth 8000 in
theorem zr_X9_find_364 (ls : zLs) (st : List zAV) (s : zAS) (k : Nat × Nat) (r v0 v1 v2 : zAV) (h : zcok zEM 9 0 0 (zR_X9_find).cells (zR_X9_find).slots r st k) : zev zk_X9_find (364, ls, v2 :: v1 :: v0 :: r :: st, s, k) = zret zk_X9_find 367 ls st (k.1 + 0, k.2 + 0) (m_X9_layLine [r, v0, v1, v2] s) := zf_callV (as := [v2, v1, v0]) 3 rfl rfl h
set_option maxRecDepth 8000 in
theorem zr_X9_find_367 (ls : zLs) (s : zAS) (k : Nat × Nat) (x : Int32) (hx : x = 0 ∨ x = 1) : zev zk_X9_find (367, ls, [Sum.inl (Value.int x)], s, k) = some (.inl (some (Sum.inl (Value.int x))), s) := zf_retz rfl hx
set_option maxRecDepth 8000 in
theorem zr_X9_find_368 (a1 a2 a3 a4 : Option zAV) (st : List zAV) (s : zAS) (k : Nat × Nat) (o : Nat × Nat) : zev zk_X9_find (368, [some (Sum.inr o), a1, a2, a3, a4], st, s, k) = zev zk_X9_find (369, [some (Sum.inr o), a1, a2, a3, a4], Sum.inr o :: st, s, k) := zev_go rfl rfl
set_option maxRecDepth 8000 in
theorem zr_X9_find_369 (a1 a2 a3 a4 : Option zAV) (st : List zAV) (s : zAS) (k : Nat × Nat) (o : Nat × Nat) : zev zk_X9_find (369, [some (Sum.inr o), a1, a2, a3, a4], st, s, k) = zev zk_X9_find (370, [some (Sum.inr o), a1, a2, a3, a4], Sum.inr o :: st, s, k) := zev_go rfl rfl
set_option maxRecDepth 8000 in
theorem zr_X9_find_370 (a0 a1 a2 a4 : Option zAV) (st : List zAV) (s : zAS) (k : Nat × Nat) (x : Int32) : zev zk_X9_find (370, [a0, a1, a2, some (Sum.inl (Value.int x)), a4], st, s, k) = zev zk_X9_find (371, [a0, a1, a2, some (Sum.inl (Value.int x)), a4], Sum.inl (Value.int x) :: st, s, k) := zev_go rfl rfl
set_option maxRecDepth 8000 in
theorem zr_X9_find_371 (ls : zLs) (st : List zAV) (s : zAS) (k : Nat × Nat) (r v0 : zAV) (h : zcok zEM 9 0 0 (zR_X9_find).cells (zR_X9_find).slots r st k) : zev zk_X9_find (371, ls, v0 :: r :: st, s, k) = zret zk_X9_find 374 ls st (k.1 + 0, k.2 + 0) (m_X9_x [r, v0] s) := zf_callV (as := [v0]) 1 rfl rfl h
set_option maxRecDepth 8000 in
theorem zr_X9_find_374 (a1 a2 a3 a4 : Option zAV) (st : List zAV) (s : zAS) (k : Nat × Nat) (o : Nat × Nat) : zev zk_X9_find (374, [some (Sum.inr o), a1, a2, a3, a4], st, s, k) = zev zk_X9_find (375, [some (Sum.inr o), a1, a2, a3, a4], Sum.inr o :: st, s, k) := zev_go rfl rfl
set_option maxRecDepth 8000 in
theorem zr_X9_find_375 (a0 a1 a2 a4 : Option zAV) (st : List zAV) (s : zAS) (k : Nat × Nat) (x : Int32) : zev zk_X9_find (375, [a0, a1, a2, some (Sum.inl (Value.int x)), a4], st, s, k) = zev zk_X9_find (376, [a0, a1, a2, some (Sum.inl (Value.int x)), a4], Sum.inl (Value.int x) :: st, s, k) := zev_go rfl rfl
set_option maxRecDepth 8000 in
theorem zr_X9_find_376 (ls : zLs) (st : List zAV) (s : zAS) (k : Nat × Nat) (r v0 : zAV) (h : zcok zEM 9 0 0 (zR_X9_find).cells (zR_X9_find).slots r st k) : zev zk_X9_find (376, ls, v0 :: r :: st, s, k) = zret zk_X9_find 379 ls st (k.1 + 0, k.2 + 0) (m_X9_y [r, v0] s) := zf_callV (as := [v0]) 1 rfl rfl h
set_option maxRecDepth 8000 in
theorem zr_X9_find_379 (a1 a2 a3 a4 : Option zAV) (st : List zAV) (s : zAS) (k : Nat × Nat) (o : Nat × Nat) : zev zk_X9_find (379, [some (Sum.inr o), a1, a2, a3, a4], st, s, k) = zev zk_X9_find (380, [some (Sum.inr o), a1, a2, a3, a4], Sum.inr o :: st, s, k) := zev_go rfl rfl
set_option maxRecDepth 8000 in
theorem zr_X9_find_380 (a0 a1 a2 a4 : Option zAV) (st : List zAV) (s : zAS) (k : Nat × Nat) (x : Int32) : zev zk_X9_find (380, [a0, a1, a2, some (Sum.inl (Value.int x)), a4], st, s, k) = zev zk_X9_find (381, [a0, a1, a2, some (Sum.inl (Value.int x)), a4], Sum.inl (Value.int x) :: st, s, k) := zev_go rfl rfl
set_option maxRecDepth 8000 in
theorem zr_X9_find_381 (ls : zLs) (st : List zAV) (s : zAS) (k : Nat × Nat) (r v0 : zAV) (h : zcok zEM 9 0 0 (zR_X9_find).cells (zR_X9_find).slots r st k) : zev zk_X9_find (381, ls, v0 :: r :: st, s, k) = zret zk_X9_find 384 ls st (k.1 + 0, k.2 + 0) (m_X9_x [r, v0] s) := zf_callV (as := [v0]) 1 rfl rfl h
set_option maxRecDepth 8000 in
theorem zr_X9_find_384 (a1 a2 a3 a4 : Option zAV) (st : List zAV) (s : zAS) (k : Nat × Nat) (o : Nat × Nat) : zev zk_X9_find (384, [some (Sum.inr o), a1, a2, a3, a4], st, s, k) = zev zk_X9_find (385, [some (Sum.inr o), a1, a2, a3, a4], Sum.inr o :: st, s, k) := zev_go rfl rfl
set_option maxRecDepth 8000 in
theorem zr_X9_find_385 (a0 a1 a3 a4 : Option zAV) (st : List zAV) (s : zAS) (k : Nat × Nat) (x : Int32) : zev zk_X9_find (385, [a0, a1, some (Sum.inl (Value.int x)), a3, a4], st, s, k) = zev zk_X9_find (386, [a0, a1, some (Sum.inl (Value.int x)), a3, a4], Sum.inl (Value.int x) :: st, s, k) := zev_go rfl rfl
set_option maxRecDepth 8000 in
theorem zr_X9_find_386 (ls : zLs) (st : List zAV) (s : zAS) (k : Nat × Nat) (r v0 : zAV) (h : zcok zEM 9 0 0 (zR_X9_find).cells (zR_X9_find).slots r st k) : zev zk_X9_find (386, ls, v0 :: r :: st, s, k) = zret zk_X9_find 389 ls st (k.1 + 0, k.2 + 0) (m_X9_x [r, v0] s) := zf_callV (as := [v0]) 1 rfl rfl h
set_option maxRecDepth 8000 in
theorem zr_X9_find_389 (ls : zLs) (st : List zAV) (s : zAS) (k : Nat × Nat) (x y : Int32) : zev zk_X9_find (389, ls, Sum.inl (Value.int y) :: Sum.inl (Value.int x) :: st, s, k) = zev zk_X9_find (390, ls, Sum.inl (Value.int (x * y)) :: st, s, k) := zev_go rfl rfl
set_option maxRecDepth 8000 in
theorem zr_X9_find_390 (a1 a2 a3 a4 : Option zAV) (st : List zAV) (s : zAS) (k : Nat × Nat) (o : Nat × Nat) : zev zk_X9_find (390, [some (Sum.inr o), a1, a2, a3, a4], st, s, k) = zev zk_X9_find (391, [some (Sum.inr o), a1, a2, a3, a4], Sum.inr o :: st, s, k) := zev_go rfl rfl
set_option maxRecDepth 8000 in
theorem zr_X9_find_391 (a0 a1 a2 a4 : Option zAV) (st : List zAV) (s : zAS) (k : Nat × Nat) (x : Int32) : zev zk_X9_find (391, [a0, a1, a2, some (Sum.inl (Value.int x)), a4], st, s, k) = zev zk_X9_find (392, [a0, a1, a2, some (Sum.inl (Value.int x)), a4], Sum.inl (Value.int x) :: st, s, k) := zev_go rfl rfl
set_option maxRecDepth 8000 in
theorem zr_X9_find_392 (ls : zLs) (st : List zAV) (s : zAS) (k : Nat × Nat) (r v0 : zAV) (h : zcok zEM 9 0 0 (zR_X9_find).cells (zR_X9_find).slots r st k) : zev zk_X9_find (392, ls, v0 :: r :: st, s, k) = zret zk_X9_find 395 ls st (k.1 + 0, k.2 + 0) (m_X9_y [r, v0] s) := zf_callV (as := [v0]) 1 rfl rfl h
set_option maxRecDepth 8000 in
theorem zr_X9_find_395 (a1 a2 a3 a4 : Option zAV) (st : List zAV) (s : zAS) (k : Nat × Nat) (o : Nat × Nat) : zev zk_X9_find (395, [some (Sum.inr o), a1, a2, a3, a4], st, s, k) = zev zk_X9_find (396, [some (Sum.inr o), a1, a2, a3, a4], Sum.inr o :: st, s, k) := zev_go rfl rfl
set_option maxRecDepth 8000 in
theorem zr_X9_find_396 (a0 a1 a3 a4 : Option zAV) (st : List zAV) (s : zAS) (k : Nat × Nat) (x : Int32) : zev zk_X9_find (396, [a0, a1, some (Sum.inl (Value.int x)), a3, a4], st, s, k) = zev zk_X9_find (397, [a0, a1, some (Sum.inl (Value.int x)), a3, a4], Sum.inl (Value.int x) :: st, s, k) := zev_go rfl rfl
set_option maxRecDepth 8000 in
theorem zr_X9_find_397 (ls : zLs) (st : List zAV) (s : zAS) (k : Nat × Nat) (r v0 : zAV) (h : zcok zEM 9 0 0 (zR_X9_find).cells (zR_X9_find).slots r st k) : zev zk_X9_find (397, ls, v0 :: r :: st, s, k) = zret zk_X9_find 400 ls st (k.1 + 0, k.2 + 0) (m_X9_y [r, v0] s) := zf_callV (as := [v0]) 1 rfl rfl h
set_option maxRecDepth 8000 in
theorem zr_X9_find_400 (ls : zLs) (st : List zAV) (s : zAS) (k : Nat × Nat) (x y : Int32) : zev zk_X9_find (400, ls, Sum.inl (Value.int y) :: Sum.inl (Value.int x) :: st, s, k) = zev zk_X9_find (401, ls, Sum.inl (Value.int (x * y)) :: st, s, k) := zev_go rfl rfl
set_option maxRecDepth 8000 in
theorem zr_X9_find_401 (ls : zLs) (st : List zAV) (s : zAS) (k : Nat × Nat) (x y : Int32) : zev zk_X9_find (401, ls, Sum.inl (Value.int y) :: Sum.inl (Value.int x) :: st, s, k) = zev zk_X9_find (402, ls, Sum.inl (Value.int (x + y)) :: st, s, k) := zev_go rfl rfl
set_option maxRecDepth 8000 in
theorem zr_X9_find_402 (ls : zLs) (st : List zAV) (s : zAS) (k : Nat × Nat) (x : Int32) : zev zk_X9_find (402, ls, Sum.inl (Value.int x) :: st, s, k) = zev zk_X9_find (403, ls, Sum.inl (Value.int (-x)) :: st, s, k) := zev_go rfl rfl
set_option maxRecDepth 8000 in
theorem zr_X9_find_403 (ls : zLs) (st : List zAV) (s : zAS) (k : Nat × Nat) (r v0 v1 v2 : zAV) (h : zcok zEM 9 0 0 (zR_X9_find).cells (zR_X9_find).slots r st k) : zev zk_X9_find (403, ls, v2 :: v1 :: v0 :: r :: st, s, k) = zret zk_X9_find 406 ls st (k.1 + 0, k.2 + 0) (m_X9_lay [r, v0, v1, v2] s) := zf_callV (as := [v2, v1, v0]) 3 rfl rfl h
set_option maxRecDepth 8000 in
theorem zr_X9_find_406 (ls : zLs) (s : zAS) (k : Nat × Nat) (x : Int32) (hx : x = 0 ∨ x = 1) : zev zk_X9_find (406, ls, [Sum.inl (Value.int x)], s, k) = some (.inl (some (Sum.inl (Value.int x))), s) := zf_retz rfl hx
set_option maxRecDepth 8000 in
theorem zr_X9_find_407 (a1 a2 a3 a4 : Option zAV) (st : List zAV) (s : zAS) (k : Nat × Nat) (o : Nat × Nat) : zev zk_X9_find (407, [some (Sum.inr o), a1, a2, a3, a4], st, s, k) = zev zk_X9_find (408, [some (Sum.inr o), a1, a2, a3, a4], Sum.inr o :: st, s, k) := zev_go rfl rfl
set_option maxRecDepth 8000 in
theorem zr_X9_find_408 (a1 a2 a3 a4 : Option zAV) (st : List zAV) (s : zAS) (k : Nat × Nat) (o : Nat × Nat) : zev zk_X9_find (408, [some (Sum.inr o), a1, a2, a3, a4], st, s, k) = zev zk_X9_find (409, [some (Sum.inr o), a1, a2, a3, a4], Sum.inr o :: st, s, k) := zev_go rfl rfl
set_option maxRecDepth 8000 in
theorem zr_X9_find_409 (a0 a1 a2 a4 : Option zAV) (st : List zAV) (s : zAS) (k : Nat × Nat) (x : Int32) : zev zk_X9_find (409, [a0, a1, a2, some (Sum.inl (Value.int x)), a4], st, s, k) = zev zk_X9_find (410, [a0, a1, a2, some (Sum.inl (Value.int x)), a4], Sum.inl (Value.int x) :: st, s, k) := zev_go rfl rfl
set_option maxRecDepth 8000 in
theorem zr_X9_find_410 (ls : zLs) (st : List zAV) (s : zAS) (k : Nat × Nat) (r v0 : zAV) (h : zcok zEM 9 0 0 (zR_X9_find).cells (zR_X9_find).slots r st k) : zev zk_X9_find (410, ls, v0 :: r :: st, s, k) = zret zk_X9_find 413 ls st (k.1 + 0, k.2 + 0) (m_X9_y [r, v0] s) := zf_callV (as := [v0]) 1 rfl rfl h
set_option maxRecDepth 8000 in
theorem zr_X9_find_413 (ls : zLs) (st : List zAV) (s : zAS) (k : Nat × Nat) (x : Int32) : zev zk_X9_find (413, ls, Sum.inl (Value.int x) :: st, s, k) = zev zk_X9_find (414, ls, Sum.inl (Value.int (-x)) :: st, s, k) := zev_go rfl rfl
set_option maxRecDepth 8000 in
theorem zr_X9_find_414 (a1 a2 a3 a4 : Option zAV) (st : List zAV) (s : zAS) (k : Nat × Nat) (o : Nat × Nat) : zev zk_X9_find (414, [some (Sum.inr o), a1, a2, a3, a4], st, s, k) = zev zk_X9_find (415, [some (Sum.inr o), a1, a2, a3, a4], Sum.inr o :: st, s, k) := zev_go rfl rfl
set_option maxRecDepth 8000 in
theorem zr_X9_find_415 (a0 a1 a2 a4 : Option zAV) (st : List zAV) (s : zAS) (k : Nat × Nat) (x : Int32) : zev zk_X9_find (415, [a0, a1, a2, some (Sum.inl (Value.int x)), a4], st, s, k) = zev zk_X9_find (416, [a0, a1, a2, some (Sum.inl (Value.int x)), a4], Sum.inl (Value.int x) :: st, s, k) := zev_go rfl rfl
set_option maxRecDepth 8000 in
theorem zr_X9_find_416 (ls : zLs) (st : List zAV) (s : zAS) (k : Nat × Nat) (r v0 : zAV) (h : zcok zEM 9 0 0 (zR_X9_find).cells (zR_X9_find).slots r st k) : zev zk_X9_find (416, ls, v0 :: r :: st, s, k) = zret zk_X9_find 419 ls st (k.1 + 0, k.2 + 0) (m_X9_x [r, v0] s) := zf_callV (as := [v0]) 1 rfl rfl h
set_option maxRecDepth 8000 in
theorem zr_X9_find_419 (a1 a2 a3 a4 : Option zAV) (st : List zAV) (s : zAS) (k : Nat × Nat) (o : Nat × Nat) : zev zk_X9_find (419, [some (Sum.inr o), a1, a2, a3, a4], st, s, k) = zev zk_X9_find (420, [some (Sum.inr o), a1, a2, a3, a4], Sum.inr o :: st, s, k) := zev_go rfl rfl
set_option maxRecDepth 8000 in
theorem zr_X9_find_420 (a0 a1 a2 a4 : Option zAV) (st : List zAV) (s : zAS) (k : Nat × Nat) (x : Int32) : zev zk_X9_find (420, [a0, a1, a2, some (Sum.inl (Value.int x)), a4], st, s, k) = zev zk_X9_find (421, [a0, a1, a2, some (Sum.inl (Value.int x)), a4], Sum.inl (Value.int x) :: st, s, k) := zev_go rfl rfl
set_option maxRecDepth 8000 in
theorem zr_X9_find_421 (ls : zLs) (st : List zAV) (s : zAS) (k : Nat × Nat) (r v0 : zAV) (h : zcok zEM 9 0 0 (zR_X9_find).cells (zR_X9_find).slots r st k) : zev zk_X9_find (421, ls, v0 :: r :: st, s, k) = zret zk_X9_find 424 ls st (k.1 + 0, k.2 + 0) (m_X9_y [r, v0] s) := zf_callV (as := [v0]) 1 rfl rfl h
set_option maxRecDepth 8000 in
theorem zr_X9_find_424 (a1 a2 a3 a4 : Option zAV) (st : List zAV) (s : zAS) (k : Nat × Nat) (o : Nat × Nat) : zev zk_X9_find (424, [some (Sum.inr o), a1, a2, a3, a4], st, s, k) = zev zk_X9_find (425, [some (Sum.inr o), a1, a2, a3, a4], Sum.inr o :: st, s, k) := zev_go rfl rfl
set_option maxRecDepth 8000 in
theorem zr_X9_find_425 (a0 a1 a3 a4 : Option zAV) (st : List zAV) (s : zAS) (k : Nat × Nat) (x : Int32) : zev zk_X9_find (425, [a0, a1, some (Sum.inl (Value.int x)), a3, a4], st, s, k) = zev zk_X9_find (426, [a0, a1, some (Sum.inl (Value.int x)), a3, a4], Sum.inl (Value.int x) :: st, s, k) := zev_go rfl rfl
set_option maxRecDepth 8000 in
theorem zr_X9_find_426 (ls : zLs) (st : List zAV) (s : zAS) (k : Nat × Nat) (r v0 : zAV) (h : zcok zEM 9 0 0 (zR_X9_find).cells (zR_X9_find).slots r st k) : zev zk_X9_find (426, ls, v0 :: r :: st, s, k) = zret zk_X9_find 429 ls st (k.1 + 0, k.2 + 0) (m_X9_x [r, v0] s) := zf_callV (as := [v0]) 1 rfl rfl h
set_option maxRecDepth 8000 in
theorem zr_X9_find_429 (ls : zLs) (st : List zAV) (s : zAS) (k : Nat × Nat) (x y : Int32) : zev zk_X9_find (429, ls, Sum.inl (Value.int y) :: Sum.inl (Value.int x) :: st, s, k) = zev zk_X9_find (430, ls, Sum.inl (Value.int (x * y)) :: st, s, k) := zev_go rfl rfl
set_option maxRecDepth 8000 in
theorem zr_X9_find_430 (a1 a2 a3 a4 : Option zAV) (st : List zAV) (s : zAS) (k : Nat × Nat) (o : Nat × Nat) : zev zk_X9_find (430, [some (Sum.inr o), a1, a2, a3, a4], st, s, k) = zev zk_X9_find (431, [some (Sum.inr o), a1, a2, a3, a4], Sum.inr o :: st, s, k) := zev_go rfl rfl
set_option maxRecDepth 8000 in
theorem zr_X9_find_431 (a0 a1 a2 a4 : Option zAV) (st : List zAV) (s : zAS) (k : Nat × Nat) (x : Int32) : zev zk_X9_find (431, [a0, a1, a2, some (Sum.inl (Value.int x)), a4], st, s, k) = zev zk_X9_find (432, [a0, a1, a2, some (Sum.inl (Value.int x)), a4], Sum.inl (Value.int x) :: st, s, k) := zev_go rfl rfl
set_option maxRecDepth 8000 in
theorem zr_X9_find_432 (ls : zLs) (st : List zAV) (s : zAS) (k : Nat × Nat) (r v0 : zAV) (h : zcok zEM 9 0 0 (zR_X9_find).cells (zR_X9_find).slots r st k) : zev zk_X9_find (432, ls, v0 :: r :: st, s, k) = zret zk_X9_find 435 ls st (k.1 + 0, k.2 + 0) (m_X9_x [r, v0] s) := zf_callV (as := [v0]) 1 rfl rfl h
set_option maxRecDepth 8000 in
theorem zr_X9_find_435 (a1 a2 a3 a4 : Option zAV) (st : List zAV) (s : zAS) (k : Nat × Nat) (o : Nat × Nat) : zev zk_X9_find (435, [some (Sum.inr o), a1, a2, a3, a4], st, s, k) = zev zk_X9_find (436, [some (Sum.inr o), a1, a2, a3, a4], Sum.inr o :: st, s, k) := zev_go rfl rfl
set_option maxRecDepth 8000 in
theorem zr_X9_find_436 (a0 a1 a3 a4 : Option zAV) (st : List zAV) (s : zAS) (k : Nat × Nat) (x : Int32) : zev zk_X9_find (436, [a0, a1, some (Sum.inl (Value.int x)), a3, a4], st, s, k) = zev zk_X9_find (437, [a0, a1, some (Sum.inl (Value.int x)), a3, a4], Sum.inl (Value.int x) :: st, s, k) := zev_go rfl rfl
set_option maxRecDepth 8000 in
theorem zr_X9_find_437 (ls : zLs) (st : List zAV) (s : zAS) (k : Nat × Nat) (r v0 : zAV) (h : zcok zEM 9 0 0 (zR_X9_find).cells (zR_X9_find).slots r st k) : zev zk_X9_find (437, ls, v0 :: r :: st, s, k) = zret zk_X9_find 440 ls st (k.1 + 0, k.2 + 0) (m_X9_y [r, v0] s) := zf_callV (as := [v0]) 1 rfl rfl h
set_option maxRecDepth 8000 in
theorem zr_X9_find_440 (ls : zLs) (st : List zAV) (s : zAS) (k : Nat × Nat) (x y : Int32) : zev zk_X9_find (440, ls, Sum.inl (Value.int y) :: Sum.inl (Value.int x) :: st, s, k) = zev zk_X9_find (441, ls, Sum.inl (Value.int (x * y)) :: st, s, k) := zev_go rfl rfl
set_option maxRecDepth 8000 in
theorem zr_X9_find_441 (ls : zLs) (st : List zAV) (s : zAS) (k : Nat × Nat) (x y : Int32) : zev zk_X9_find (441, ls, Sum.inl (Value.int y) :: Sum.inl (Value.int x) :: st, s, k) = zev zk_X9_find (442, ls, Sum.inl (Value.int (x - y)) :: st, s, k) := zev_go rfl rfl
set_option maxRecDepth 8000 in
theorem zr_X9_find_442 (ls : zLs) (st : List zAV) (s : zAS) (k : Nat × Nat) (r v0 v1 v2 : zAV) (h : zcok zEM 9 0 0 (zR_X9_find).cells (zR_X9_find).slots r st k) : zev zk_X9_find (442, ls, v2 :: v1 :: v0 :: r :: st, s, k) = zret zk_X9_find 445 ls st (k.1 + 0, k.2 + 0) (m_X9_layLine [r, v0, v1, v2] s) := zf_callV (as := [v2, v1, v0]) 3 rfl rfl h
set_option maxRecDepth 8000 in
theorem zr_X9_find_445 (ls : zLs) (s : zAS) (k : Nat × Nat) (x : Int32) (hx : x = 0 ∨ x = 1) : zev zk_X9_find (445, ls, [Sum.inl (Value.int x)], s, k) = some (.inl (some (Sum.inl (Value.int x))), s) := zf_retz rfl hx
set_option maxRecDepth 8000 in
theorem zr_X9_find_446 (a1 a2 a3 a4 : Option zAV) (st : List zAV) (s : zAS) (k : Nat × Nat) (o : Nat × Nat) : zev zk_X9_find (446, [some (Sum.inr o), a1, a2, a3, a4], st, s, k) = zev zk_X9_find (447, [some (Sum.inr o), a1, a2, a3, a4], Sum.inr o :: st, s, k) := zev_go rfl rfl
set_option maxRecDepth 8000 in
theorem zr_X9_find_447 (a0 a1 a3 a4 : Option zAV) (st : List zAV) (s : zAS) (k : Nat × Nat) (x : Int32) : zev zk_X9_find (447, [a0, a1, some (Sum.inl (Value.int x)), a3, a4], st, s, k) = zev zk_X9_find (448, [a0, a1, some (Sum.inl (Value.int x)), a3, a4], Sum.inl (Value.int x) :: st, s, k) := zev_go rfl rfl
set_option maxRecDepth 8000 in
theorem zr_X9_find_448 (a0 a1 a2 a4 : Option zAV) (st : List zAV) (s : zAS) (k : Nat × Nat) (x : Int32) : zev zk_X9_find (448, [a0, a1, a2, some (Sum.inl (Value.int x)), a4], st, s, k) = zev zk_X9_find (449, [a0, a1, a2, some (Sum.inl (Value.int x)), a4], Sum.inl (Value.int x) :: st, s, k) := zev_go rfl rfl
set_option maxRecDepth 8000 in
theorem zr_X9_find_449 (ls : zLs) (st : List zAV) (s : zAS) (k : Nat × Nat) (r v0 v1 : zAV) (h : zcok zEM 9 0 0 (zR_X9_find).cells (zR_X9_find).slots r st k) : zev zk_X9_find (449, ls, v1 :: v0 :: r :: st, s, k) = zret zk_X9_find 452 ls st (k.1 + 0, k.2 + 0) (m_X9_bisector [r, v0, v1] s) := zf_callV (as := [v1, v0]) 2 rfl rfl h
set_option maxRecDepth 8000 in
theorem zr_X9_find_452 (ls : zLs) (s : zAS) (k : Nat × Nat) (x : Int32) (hx : x = 0 ∨ x = 1) : zev zk_X9_find (452, ls, [Sum.inl (Value.int x)], s, k) = some (.inl (some (Sum.inl (Value.int x))), s) := zf_retz rfl hx
set_option maxRecDepth 8000 in
theorem zr_X9_find_453 (a1 a2 a3 a4 : Option zAV) (st : List zAV) (s : zAS) (k : Nat × Nat) (o : Nat × Nat) : zev zk_X9_find (453, [some (Sum.inr o), a1, a2, a3, a4], st, s, k) = zev zk_X9_find (454, [some (Sum.inr o), a1, a2, a3, a4], Sum.inr o :: st, s, k) := zev_go rfl rfl
set_option maxRecDepth 8000 in
theorem zr_X9_find_454 (a0 a1 a3 a4 : Option zAV) (st : List zAV) (s : zAS) (k : Nat × Nat) (x : Int32) : zev zk_X9_find (454, [a0, a1, some (Sum.inl (Value.int x)), a3, a4], st, s, k) = zev zk_X9_find (455, [a0, a1, some (Sum.inl (Value.int x)), a3, a4], Sum.inl (Value.int x) :: st, s, k) := zev_go rfl rfl
set_option maxRecDepth 8000 in
theorem zr_X9_find_455 (a0 a1 a3 a4 : Option zAV) (st : List zAV) (s : zAS) (k : Nat × Nat) (x : Int32) : zev zk_X9_find (455, [a0, a1, some (Sum.inl (Value.int x)), a3, a4], st, s, k) = zev zk_X9_find (456, [a0, a1, some (Sum.inl (Value.int x)), a3, a4], Sum.inl (Value.int x) :: st, s, k) := zev_go rfl rfl
set_option maxRecDepth 8000 in
theorem zr_X9_find_456 (a0 a1 a2 a4 : Option zAV) (st : List zAV) (s : zAS) (k : Nat × Nat) (x : Int32) : zev zk_X9_find (456, [a0, a1, a2, some (Sum.inl (Value.int x)), a4], st, s, k) = zev zk_X9_find (457, [a0, a1, a2, some (Sum.inl (Value.int x)), a4], Sum.inl (Value.int x) :: st, s, k) := zev_go rfl rfl
set_option maxRecDepth 8000 in
theorem zr_X9_find_457 (ls : zLs) (st : List zAV) (s : zAS) (k : Nat × Nat) (r v0 v1 v2 : zAV) (h : zcok zEM 9 0 0 (zR_X9_find).cells (zR_X9_find).slots r st k) : zev zk_X9_find (457, ls, v2 :: v1 :: v0 :: r :: st, s, k) = zret zk_X9_find 460 ls st (k.1 + 0, k.2 + 0) (m_X9_layCircle [r, v0, v1, v2] s) := zf_callV (as := [v2, v1, v0]) 3 rfl rfl h
set_option maxRecDepth 8000 in
theorem zr_X9_find_460 (ls : zLs) (s : zAS) (k : Nat × Nat) (x : Int32) (hx : x = 0 ∨ x = 1) : zev zk_X9_find (460, ls, [Sum.inl (Value.int x)], s, k) = some (.inl (some (Sum.inl (Value.int x))), s) := zf_retz rfl hx
set_option maxRecDepth 8000 in
theorem zr_X9_find_461 (a1 a2 a3 a4 : Option zAV) (st : List zAV) (s : zAS) (k : Nat × Nat) (o : Nat × Nat) : zev zk_X9_find (461, [some (Sum.inr o), a1, a2, a3, a4], st, s, k) = zev zk_X9_find (462, [some (Sum.inr o), a1, a2, a3, a4], Sum.inr o :: st, s, k) := zev_go rfl rfl
set_option maxRecDepth 8000 in
theorem zr_X9_find_462 (a0 a1 a3 a4 : Option zAV) (st : List zAV) (s : zAS) (k : Nat × Nat) (x : Int32) : zev zk_X9_find (462, [a0, a1, some (Sum.inl (Value.int x)), a3, a4], st, s, k) = zev zk_X9_find (463, [a0, a1, some (Sum.inl (Value.int x)), a3, a4], Sum.inl (Value.int x) :: st, s, k) := zev_go rfl rfl
set_option maxRecDepth 8000 in
theorem zr_X9_find_463 (a0 a1 a2 a4 : Option zAV) (st : List zAV) (s : zAS) (k : Nat × Nat) (x : Int32) : zev zk_X9_find (463, [a0, a1, a2, some (Sum.inl (Value.int x)), a4], st, s, k) = zev zk_X9_find (464, [a0, a1, a2, some (Sum.inl (Value.int x)), a4], Sum.inl (Value.int x) :: st, s, k) := zev_go rfl rfl
set_option maxRecDepth 8000 in
theorem zr_X9_find_464 (a0 a1 a2 a3 : Option zAV) (st : List zAV) (s : zAS) (k : Nat × Nat) (x : Int32) : zev zk_X9_find (464, [a0, a1, a2, a3, some (Sum.inl (Value.int x))], st, s, k) = zev zk_X9_find (466, [a0, a1, a2, a3, some (Sum.inl (Value.int x))], Sum.inl (Value.int x) :: st, s, k) := zev_go rfl rfl
set_option maxRecDepth 8000 in
theorem zr_X9_find_466 (ls : zLs) (st : List zAV) (s : zAS) (k : Nat × Nat) (r v0 v1 v2 : zAV) (h : zcok zEM 9 0 0 (zR_X9_find).cells (zR_X9_find).slots r st k) : zev zk_X9_find (466, ls, v2 :: v1 :: v0 :: r :: st, s, k) = zret zk_X9_find 469 ls st (k.1 + 0, k.2 + 0) (m_X9_layCircle [r, v0, v1, v2] s) := zf_callV (as := [v2, v1, v0]) 3 rfl rfl h
set_option maxRecDepth 8000 in
theorem zr_X9_find_469 (ls : zLs) (s : zAS) (k : Nat × Nat) (x : Int32) (hx : x = 0 ∨ x = 1) : zev zk_X9_find (469, ls, [Sum.inl (Value.int x)], s, k) = some (.inl (some (Sum.inl (Value.int x))), s) := zf_retz rfl hx
set_option maxRecDepth 8000 in
theorem zr_X9_find_470 (a1 a2 a3 a4 : Option zAV) (st : List zAV) (s : zAS) (k : Nat × Nat) (o : Nat × Nat) : zev zk_X9_find (470, [some (Sum.inr o), a1, a2, a3, a4], st, s, k) = zev zk_X9_find (471, [some (Sum.inr o), a1, a2, a3, a4], Sum.inr o :: st, s, k) := zev_go rfl rfl
set_option maxRecDepth 8000 in
theorem zr_X9_find_471 (a0 a1 a3 a4 : Option zAV) (st : List zAV) (s : zAS) (k : Nat × Nat) (x : Int32) : zev zk_X9_find (471, [a0, a1, some (Sum.inl (Value.int x)), a3, a4], st, s, k) = zev zk_X9_find (472, [a0, a1, some (Sum.inl (Value.int x)), a3, a4], Sum.inl (Value.int x) :: st, s, k) := zev_go rfl rfl
set_option maxRecDepth 8000 in
theorem zr_X9_find_472 (a0 a1 a2 a4 : Option zAV) (st : List zAV) (s : zAS) (k : Nat × Nat) (x : Int32) : zev zk_X9_find (472, [a0, a1, a2, some (Sum.inl (Value.int x)), a4], st, s, k) = zev zk_X9_find (473, [a0, a1, a2, some (Sum.inl (Value.int x)), a4], Sum.inl (Value.int x) :: st, s, k) := zev_go rfl rfl
set_option maxRecDepth 8000 in
theorem zr_X9_find_473 (a0 a1 a2 a3 : Option zAV) (st : List zAV) (s : zAS) (k : Nat × Nat) (x : Int32) : zev zk_X9_find (473, [a0, a1, a2, a3, some (Sum.inl (Value.int x))], st, s, k) = zev zk_X9_find (475, [a0, a1, a2, a3, some (Sum.inl (Value.int x))], Sum.inl (Value.int x) :: st, s, k) := zev_go rfl rfl
set_option maxRecDepth 8000 in
theorem zr_X9_find_475 (ls : zLs) (st : List zAV) (s : zAS) (k : Nat × Nat) (r v0 v1 v2 : zAV) (h : zcok zEM 9 0 0 (zR_X9_find).cells (zR_X9_find).slots r st k) : zev zk_X9_find (475, ls, v2 :: v1 :: v0 :: r :: st, s, k) = zret zk_X9_find 478 ls st (k.1 + 0, k.2 + 0) (m_X9_circleThrough [r, v0, v1, v2] s) := zf_callV (as := [v2, v1, v0]) 3 rfl rfl h
set_option maxRecDepth 8000 in
theorem zr_X9_find_478 (ls : zLs) (s : zAS) (k : Nat × Nat) (x : Int32) (hx : x = 0 ∨ x = 1) : zev zk_X9_find (478, ls, [Sum.inl (Value.int x)], s, k) = some (.inl (some (Sum.inl (Value.int x))), s) := zf_retz rfl hx
