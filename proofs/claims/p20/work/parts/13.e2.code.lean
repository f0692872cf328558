/-! X8_truth: PrimePlane.truth()D -/
abbrev zR_X8_truth : Room := ({ frames := 7, cells := 0, slots := 0, locals := 163 } : Room)
noncomputable def zl_X8_truth : List (Nat × zOp) := [(0, z_ic (0) 1), (1, z_sti 1 2), (2, z_ic (0) 3), (3, z_sti 2 4), (4, z_ic (0) 5), (5, z_sti 3 6), (6, z_ldi 3 7), (7, z_lda 0 8), (8, z_get zEC 8 4 11), (11, z_get zEC 1 2 14), (14, z_cmp (fun x y => decide (y ≤ x)) 64 17), (17, z_lda 0 18), (18, z_lda 0 19), (19, z_get zEC 8 4 22), (22, z_ldi 3 23), (23, z_callV zEC 1 m_X1_at 1 0 0 (zR_X8_truth).cells (zR_X8_truth).slots 26), (26, z_callV zEC 8 m_X8_verdict 1 0 0 (zR_X8_truth).cells (zR_X8_truth).slots 29), (29, z_sti 4 31), (31, z_ldi 1 32), (32, z_ldi 4 34), (34, z_ic (1) 35), (35, z_cmp (fun x y => decide (¬ x = y)) 42 38), (38, z_ic (1) 39), (39, z_goto 43), (42, z_ic (0) 43), (43, z_bin (fun x y => x + y) 44), (44, z_sti 1 45), (45, z_ldi 2 46), (46, z_ldi 4 48), (48, z_if (fun x => decide (x < 0)) 55 51), (51, z_ic (1) 52), (52, z_goto 56), (55, z_ic (0) 56), (56, z_bin (fun x y => x + y) 57), (57, z_sti 2 58), (58, z_iinc 3 (1) 61), (61, z_goto 6), (64, z_ldi 2 65), (65, z_if (fun x => decide (¬ x = 0)) 72 68), (68, z_dc 0x3ff0000000000000 69), (69, z_goto 77), (72, z_ldi 1 73), (73, z_i2d 74), (74, z_ldi 2 75), (75, z_i2d 76), (76, z_ddiv 77), (77, z_retd)]
noncomputable def zk_X8_truth (pc : Nat) : Option zOp := zlook zl_X8_truth pc
noncomputable def m_X8_truth : List zAV → zAS → Option zOut := zmeth zk_X8_truth 5
set_option maxRecDepth 100000 in
set_option maxHeartbeats 4000000 in
theorem zcs_X8_truth {R : Room} (hR : R = zR_X8_truth) : ∀ q ∈ zl_X8_truth, zS zEC yX8_truth.cls cX8_truth 5 wsX8_truth (some .double) R q.1 q.2 := by
  subst hR
  have hin1 : ∀ w ∈ wsX10, w ∈ wsX8_truth := fun w h => List.mem_cons_of_mem _ (List.mem_append_left _ (List.mem_append_left _ (List.mem_append_left _ (List.mem_append_left _ (List.mem_append_left _ (List.mem_append_left _ (List.mem_append_right _ h)))))))
  have hin8 : ∀ w ∈ wsX80, w ∈ wsX8_truth := fun w h => List.mem_cons_of_mem _ (List.mem_append_left _ (List.mem_append_left _ (List.mem_append_left _ (List.mem_append_left _ (List.mem_append_left _ (List.mem_append_left _ (List.mem_append_left _ (List.mem_append_right _ h))))))))
  refine List.forall_mem_cons.mpr ⟨zs_iconst dX8_truth_0 (by decide), ?_⟩
  refine List.forall_mem_cons.mpr ⟨zs_istore_n dX8_truth_1 rfl, ?_⟩
  refine List.forall_mem_cons.mpr ⟨zs_iconst dX8_truth_2 (by decide), ?_⟩
  refine List.forall_mem_cons.mpr ⟨zs_istore_n dX8_truth_3 rfl, ?_⟩
  refine List.forall_mem_cons.mpr ⟨zs_iconst dX8_truth_4 (by decide), ?_⟩
  refine List.forall_mem_cons.mpr ⟨zs_istore_n dX8_truth_5 rfl, ?_⟩
  refine List.forall_mem_cons.mpr ⟨zs_iload_n dX8_truth_6 rfl, ?_⟩
  refine List.forall_mem_cons.mpr ⟨zs_aload_n dX8_truth_7 rfl, ?_⟩
  refine List.forall_mem_cons.mpr ⟨zs_get (ci := 8) (j := 4) (N := 6) (C := RX8) (T := TX8) (index := 38) rfl (by decide) hin8 (List.mem_of_getElem? (i := 1) rfl) dX8_truth_8, ?_⟩
  refine List.forall_mem_cons.mpr ⟨zs_get (ci := 1) (j := 2) (N := 3) (C := RX1) (T := TX1) (index := 70) rfl (by decide) hin1 (List.mem_of_getElem? (i := 2) rfl) dX8_truth_11, ?_⟩
  refine List.forall_mem_cons.mpr ⟨zs_icge dX8_truth_14 (by decide), ?_⟩
  refine List.forall_mem_cons.mpr ⟨zs_aload_n dX8_truth_17 rfl, ?_⟩
  refine List.forall_mem_cons.mpr ⟨zs_aload_n dX8_truth_18 rfl, ?_⟩
  refine List.forall_mem_cons.mpr ⟨zs_get (ci := 8) (j := 4) (N := 6) (C := RX8) (T := TX8) (index := 38) rfl (by decide) hin8 (List.mem_of_getElem? (i := 1) rfl) dX8_truth_19, ?_⟩
  refine List.forall_mem_cons.mpr ⟨zs_iload_n dX8_truth_22 rfl, ?_⟩
  refine List.forall_mem_cons.mpr ⟨zs_callV (ci := 1) (rm := zR_X1_at) (n := 1) rfl zM_X1_at gX8_truth_X1_at rfl (by decide +kernel) ⟨by decide, by decide⟩ dX8_truth_23, ?_⟩
  refine List.forall_mem_cons.mpr ⟨zs_callV (ci := 8) (rm := zR_X8_verdict) (n := 1) rfl zM_X8_verdict gX8_truth_X8_verdict rfl (by decide +kernel) ⟨by decide, by decide⟩ dX8_truth_26, ?_⟩
  refine List.forall_mem_cons.mpr ⟨zs_istore dX8_truth_29, ?_⟩
  refine List.forall_mem_cons.mpr ⟨zs_iload_n dX8_truth_31 rfl, ?_⟩
  refine List.forall_mem_cons.mpr ⟨zs_iload dX8_truth_32, ?_⟩
  refine List.forall_mem_cons.mpr ⟨zs_iconst dX8_truth_34 (by decide), ?_⟩
  refine List.forall_mem_cons.mpr ⟨zs_icne dX8_truth_35 (by decide), ?_⟩
  refine List.forall_mem_cons.mpr ⟨zs_iconst dX8_truth_38 (by decide), ?_⟩
  refine List.forall_mem_cons.mpr ⟨zs_goto dX8_truth_39 (by decide), ?_⟩
  refine List.forall_mem_cons.mpr ⟨zs_iconst dX8_truth_42 (by decide), ?_⟩
  refine List.forall_mem_cons.mpr ⟨zs_iadd dX8_truth_43, ?_⟩
  refine List.forall_mem_cons.mpr ⟨zs_istore_n dX8_truth_44 rfl, ?_⟩
  refine List.forall_mem_cons.mpr ⟨zs_iload_n dX8_truth_45 rfl, ?_⟩
  refine List.forall_mem_cons.mpr ⟨zs_iload dX8_truth_46, ?_⟩
  refine List.forall_mem_cons.mpr ⟨zs_iflt dX8_truth_48 (by decide), ?_⟩
  refine List.forall_mem_cons.mpr ⟨zs_iconst dX8_truth_51 (by decide), ?_⟩
  refine List.forall_mem_cons.mpr ⟨zs_goto dX8_truth_52 (by decide), ?_⟩
  refine List.forall_mem_cons.mpr ⟨zs_iconst dX8_truth_55 (by decide), ?_⟩
  refine List.forall_mem_cons.mpr ⟨zs_iadd dX8_truth_56, ?_⟩
  refine List.forall_mem_cons.mpr ⟨zs_istore_n dX8_truth_57 rfl, ?_⟩
  refine List.forall_mem_cons.mpr ⟨zs_iinc dX8_truth_58 (by decide), ?_⟩
  refine List.forall_mem_cons.mpr ⟨zs_goto dX8_truth_61 (by decide), ?_⟩
  refine List.forall_mem_cons.mpr ⟨zs_iload_n dX8_truth_64 rfl, ?_⟩
  refine List.forall_mem_cons.mpr ⟨zs_ifne dX8_truth_65 (by decide), ?_⟩
  refine List.forall_mem_cons.mpr ⟨zs_dconst1 dX8_truth_68, ?_⟩
  refine List.forall_mem_cons.mpr ⟨zs_goto dX8_truth_69 (by decide), ?_⟩
  refine List.forall_mem_cons.mpr ⟨zs_iload_n dX8_truth_72 rfl, ?_⟩
  refine List.forall_mem_cons.mpr ⟨zs_i2d dX8_truth_73, ?_⟩
  refine List.forall_mem_cons.mpr ⟨zs_iload_n dX8_truth_74 rfl, ?_⟩
  refine List.forall_mem_cons.mpr ⟨zs_i2d dX8_truth_75, ?_⟩
  refine List.forall_mem_cons.mpr ⟨zs_ddiv dX8_truth_76, ?_⟩
  refine List.forall_mem_cons.mpr ⟨zs_retd rfl dX8_truth_77, ?_⟩
  exact fun _ h => absurd h List.not_mem_nil
theorem zM_X8_truth : zMeets zEC yX8_truth wsX8_truth zR_X8_truth m_X8_truth := zmeth_M zECok (zlook_all (zcs_X8_truth rfl)) (by decide +kernel) rfl
theorem zr_X8_truth_0 (ls : zLs) (st : List zAV) (s : zAS) (k : Nat × Nat) : zev zk_X8_truth (0, ls, st, s, k) = zev zk_X8_truth (1, ls, Sum.inl (Value.int (0)) :: st, s, k) := zev_go rfl rfl
theorem zr_X8_truth_1 (a0 a1 a2 a3 a4 : Option zAV) (st : List zAV) (s : zAS) (k : Nat × Nat) (x : Int32) : zev zk_X8_truth (1, [a0, a1, a2, a3, a4], Sum.inl (Value.int x) :: st, s, k) = zev zk_X8_truth (2, [zk1 a0, some (Sum.inl (Value.int x)), a2, a3, a4], st, s, k) := zev_go rfl rfl
theorem zr_X8_truth_2 (ls : zLs) (st : List zAV) (s : zAS) (k : Nat × Nat) : zev zk_X8_truth (2, ls, st, s, k) = zev zk_X8_truth (3, ls, Sum.inl (Value.int (0)) :: st, s, k) := zev_go rfl rfl
theorem zr_X8_truth_3 (a0 a1 a2 a3 a4 : Option zAV) (st : List zAV) (s : zAS) (k : Nat × Nat) (x : Int32) : zev zk_X8_truth (3, [a0, a1, a2, a3, a4], Sum.inl (Value.int x) :: st, s, k) = zev zk_X8_truth (4, [a0, zk1 a1, some (Sum.inl (Value.int x)), a3, a4], st, s, k) := zev_go rfl rfl
theorem zr_X8_truth_4 (ls : zLs) (st : List zAV) (s : zAS) (k : Nat × Nat) : zev zk_X8_truth (4, ls, st, s, k) = zev zk_X8_truth (5, ls, Sum.inl (Value.int (0)) :: st, s, k) := zev_go rfl rfl
theorem zr_X8_truth_5 (a0 a1 a2 a3 a4 : Option zAV) (st : List zAV) (s : zAS) (k : Nat × Nat) (x : Int32) : zev zk_X8_truth (5, [a0, a1, a2, a3, a4], Sum.inl (Value.int x) :: st, s, k) = zev zk_X8_truth (6, [a0, a1, zk1 a2, some (Sum.inl (Value.int x)), a4], st, s, k) := zev_go rfl rfl
theorem zr_X8_truth_6 (a0 a1 a2 a4 : Option zAV) (st : List zAV) (s : zAS) (k : Nat × Nat) (x : Int32) : zev zk_X8_truth (6, [a0, a1, a2, some (Sum.inl (Value.int x)), a4], st, s, k) = zev zk_X8_truth (7, [a0, a1, a2, some (Sum.inl (Value.int x)), a4], Sum.inl (Value.int x) :: st, s, k) := zev_go rfl rfl
theorem zr_X8_truth_7 (a1 a2 a3 a4 : Option zAV) (st : List zAV) (s : zAS) (k : Nat × Nat) (o : Nat × Nat) : zev zk_X8_truth (7, [some (Sum.inr o), a1, a2, a3, a4], st, s, k) = zev zk_X8_truth (8, [some (Sum.inr o), a1, a2, a3, a4], Sum.inr o :: st, s, k) := zev_go rfl rfl
theorem zr_X8_truth_8 (ls : zLs) (st : List zAV) (s : zAS) (k : Nat × Nat) (o i : Nat) : zev zk_X8_truth (8, ls, Sum.inr (o, i) :: st, s, k) = zpush zk_X8_truth 11 ls st s k (zgv zEC 8 4 o i s.1) := zf_get rfl
theorem zr_X8_truth_11 (ls : zLs) (st : List zAV) (s : zAS) (k : Nat × Nat) (o i : Nat) : zev zk_X8_truth (11, ls, Sum.inr (o, i) :: st, s, k) = zpush zk_X8_truth 14 ls st s k (zgv zEC 1 2 o i s.1) := zf_get rfl
theorem zr_X8_truth_14 (ls : zLs) (st : List zAV) (s : zAS) (k : Nat × Nat) (x y : Int32) : zev zk_X8_truth (14, ls, Sum.inl (Value.int y) :: Sum.inl (Value.int x) :: st, s, k) = if decide (y ≤ x) = true then zev zk_X8_truth (64, ls, st, s, k) else zev zk_X8_truth (17, ls, st, s, k) := zf_cmp (f := fun x y => decide (y ≤ x)) rfl
theorem zr_X8_truth_17 (a1 a2 a3 a4 : Option zAV) (st : List zAV) (s : zAS) (k : Nat × Nat) (o : Nat × Nat) : zev zk_X8_truth (17, [some (Sum.inr o), a1, a2, a3, a4], st, s, k) = zev zk_X8_truth (18, [some (Sum.inr o), a1, a2, a3, a4], Sum.inr o :: st, s, k) := zev_go rfl rfl
theorem zr_X8_truth_18 (a1 a2 a3 a4 : Option zAV) (st : List zAV) (s : zAS) (k : Nat × Nat) (o : Nat × Nat) : zev zk_X8_truth (18, [some (Sum.inr o), a1, a2, a3, a4], st, s, k) = zev zk_X8_truth (19, [some (Sum.inr o), a1, a2, a3, a4], Sum.inr o :: st, s, k) := zev_go rfl rfl
theorem zr_X8_truth_19 (ls : zLs) (st : List zAV) (s : zAS) (k : Nat × Nat) (o i : Nat) : zev zk_X8_truth (19, ls, Sum.inr (o, i) :: st, s, k) = zpush zk_X8_truth 22 ls st s k (zgv zEC 8 4 o i s.1) := zf_get rfl
theorem zr_X8_truth_22 (a0 a1 a2 a4 : Option zAV) (st : List zAV) (s : zAS) (k : Nat × Nat) (x : Int32) : zev zk_X8_truth (22, [a0, a1, a2, some (Sum.inl (Value.int x)), a4], st, s, k) = zev zk_X8_truth (23, [a0, a1, a2, some (Sum.inl (Value.int x)), a4], Sum.inl (Value.int x) :: st, s, k) := zev_go rfl rfl
theorem zr_X8_truth_23 (ls : zLs) (st : List zAV) (s : zAS) (k : Nat × Nat) (r v0 : zAV) (h : zcok zEC 1 0 0 (zR_X8_truth).cells (zR_X8_truth).slots r st k) : zev zk_X8_truth (23, ls, v0 :: r :: st, s, k) = zret zk_X8_truth 26 ls st (k.1 + 0, k.2 + 0) (m_X1_at [r, v0] s) := zf_callV (as := [v0]) 1 rfl rfl h
theorem zr_X8_truth_26 (ls : zLs) (st : List zAV) (s : zAS) (k : Nat × Nat) (r v0 : zAV) (h : zcok zEC 8 0 0 (zR_X8_truth).cells (zR_X8_truth).slots r st k) : zev zk_X8_truth (26, ls, v0 :: r :: st, s, k) = zret zk_X8_truth 29 ls st (k.1 + 0, k.2 + 0) (m_X8_verdict [r, v0] s) := zf_callV (as := [v0]) 1 rfl rfl h
theorem zr_X8_truth_29 (a0 a1 a2 a3 a4 : Option zAV) (st : List zAV) (s : zAS) (k : Nat × Nat) (x : Int32) : zev zk_X8_truth (29, [a0, a1, a2, a3, a4], Sum.inl (Value.int x) :: st, s, k) = zev zk_X8_truth (31, [a0, a1, a2, zk1 a3, some (Sum.inl (Value.int x))], st, s, k) := zev_go rfl rfl
theorem zr_X8_truth_31 (a0 a2 a3 a4 : Option zAV) (st : List zAV) (s : zAS) (k : Nat × Nat) (x : Int32) : zev zk_X8_truth (31, [a0, some (Sum.inl (Value.int x)), a2, a3, a4], st, s, k) = zev zk_X8_truth (32, [a0, some (Sum.inl (Value.int x)), a2, a3, a4], Sum.inl (Value.int x) :: st, s, k) := zev_go rfl rfl
theorem zr_X8_truth_32 (a0 a1 a2 a3 : Option zAV) (st : List zAV) (s : zAS) (k : Nat × Nat) (x : Int32) : zev zk_X8_truth (32, [a0, a1, a2, a3, some (Sum.inl (Value.int x))], st, s, k) = zev zk_X8_truth (34, [a0, a1, a2, a3, some (Sum.inl (Value.int x))], Sum.inl (Value.int x) :: st, s, k) := zev_go rfl rfl
theorem zr_X8_truth_34 (ls : zLs) (st : List zAV) (s : zAS) (k : Nat × Nat) : zev zk_X8_truth (34, ls, st, s, k) = zev zk_X8_truth (35, ls, Sum.inl (Value.int (1)) :: st, s, k) := zev_go rfl rfl
theorem zr_X8_truth_35 (ls : zLs) (st : List zAV) (s : zAS) (k : Nat × Nat) (x y : Int32) : zev zk_X8_truth (35, ls, Sum.inl (Value.int y) :: Sum.inl (Value.int x) :: st, s, k) = if decide (¬ x = y) = true then zev zk_X8_truth (42, ls, st, s, k) else zev zk_X8_truth (38, ls, st, s, k) := zf_cmp (f := fun x y => decide (¬ x = y)) rfl
theorem zr_X8_truth_38 (ls : zLs) (st : List zAV) (s : zAS) (k : Nat × Nat) : zev zk_X8_truth (38, ls, st, s, k) = zev zk_X8_truth (39, ls, Sum.inl (Value.int (1)) :: st, s, k) := zev_go rfl rfl
theorem zr_X8_truth_39 (ls : zLs) (st : List zAV) (s : zAS) (k : Nat × Nat) : zev zk_X8_truth (39, ls, st, s, k) = zev zk_X8_truth (43, ls, st, s, k) := zev_go rfl rfl
theorem zr_X8_truth_42 (ls : zLs) (st : List zAV) (s : zAS) (k : Nat × Nat) : zev zk_X8_truth (42, ls, st, s, k) = zev zk_X8_truth (43, ls, Sum.inl (Value.int (0)) :: st, s, k) := zev_go rfl rfl
theorem zr_X8_truth_43 (ls : zLs) (st : List zAV) (s : zAS) (k : Nat × Nat) (x y : Int32) : zev zk_X8_truth (43, ls, Sum.inl (Value.int y) :: Sum.inl (Value.int x) :: st, s, k) = zev zk_X8_truth (44, ls, Sum.inl (Value.int (x + y)) :: st, s, k) := zev_go rfl rfl
theorem zr_X8_truth_44 (a0 a1 a2 a3 a4 : Option zAV) (st : List zAV) (s : zAS) (k : Nat × Nat) (x : Int32) : zev zk_X8_truth (44, [a0, a1, a2, a3, a4], Sum.inl (Value.int x) :: st, s, k) = zev zk_X8_truth (45, [zk1 a0, some (Sum.inl (Value.int x)), a2, a3, a4], st, s, k) := zev_go rfl rfl
theorem zr_X8_truth_45 (a0 a1 a3 a4 : Option zAV) (st : List zAV) (s : zAS) (k : Nat × Nat) (x : Int32) : zev zk_X8_truth (45, [a0, a1, some (Sum.inl (Value.int x)), a3, a4], st, s, k) = zev zk_X8_truth (46, [a0, a1, some (Sum.inl (Value.int x)), a3, a4], Sum.inl (Value.int x) :: st, s, k) := zev_go rfl rfl
theorem zr_X8_truth_46 (a0 a1 a2 a3 : Option zAV) (st : List zAV) (s : zAS) (k : Nat × Nat) (x : Int32) : zev zk_X8_truth (46, [a0, a1, a2, a3, some (Sum.inl (Value.int x))], st, s, k) = zev zk_X8_truth (48, [a0, a1, a2, a3, some (Sum.inl (Value.int x))], Sum.inl (Value.int x) :: st, s, k) := zev_go rfl rfl
theorem zr_X8_truth_48 (ls : zLs) (st : List zAV) (s : zAS) (k : Nat × Nat) (x : Int32) : zev zk_X8_truth (48, ls, Sum.inl (Value.int x) :: st, s, k) = if decide (x < 0) = true then zev zk_X8_truth (55, ls, st, s, k) else zev zk_X8_truth (51, ls, st, s, k) := zf_if (f := fun x => decide (x < 0)) rfl
theorem zr_X8_truth_51 (ls : zLs) (st : List zAV) (s : zAS) (k : Nat × Nat) : zev zk_X8_truth (51, ls, st, s, k) = zev zk_X8_truth (52, ls, Sum.inl (Value.int (1)) :: st, s, k) := zev_go rfl rfl
theorem zr_X8_truth_52 (ls : zLs) (st : List zAV) (s : zAS) (k : Nat × Nat) : zev zk_X8_truth (52, ls, st, s, k) = zev zk_X8_truth (56, ls, st, s, k) := zev_go rfl rfl
theorem zr_X8_truth_55 (ls : zLs) (st : List zAV) (s : zAS) (k : Nat × Nat) : zev zk_X8_truth (55, ls, st, s, k) = zev zk_X8_truth (56, ls, Sum.inl (Value.int (0)) :: st, s, k) := zev_go rfl rfl
theorem zr_X8_truth_56 (ls : zLs) (st : List zAV) (s : zAS) (k : Nat × Nat) (x y : Int32) : zev zk_X8_truth (56, ls, Sum.inl (Value.int y) :: Sum.inl (Value.int x) :: st, s, k) = zev zk_X8_truth (57, ls, Sum.inl (Value.int (x + y)) :: st, s, k) := zev_go rfl rfl
theorem zr_X8_truth_57 (a0 a1 a2 a3 a4 : Option zAV) (st : List zAV) (s : zAS) (k : Nat × Nat) (x : Int32) : zev zk_X8_truth (57, [a0, a1, a2, a3, a4], Sum.inl (Value.int x) :: st, s, k) = zev zk_X8_truth (58, [a0, zk1 a1, some (Sum.inl (Value.int x)), a3, a4], st, s, k) := zev_go rfl rfl
theorem zr_X8_truth_58 (a0 a1 a2 a4 : Option zAV) (st : List zAV) (s : zAS) (k : Nat × Nat) (x : Int32) : zev zk_X8_truth (58, [a0, a1, a2, some (Sum.inl (Value.int x)), a4], st, s, k) = zev zk_X8_truth (61, [a0, a1, zk1 a2, some (Sum.inl (Value.int (x + (1)))), a4], st, s, k) := zev_go rfl rfl
theorem zr_X8_truth_61 (ls : zLs) (st : List zAV) (s : zAS) (k : Nat × Nat) : zev zk_X8_truth (61, ls, st, s, k) = zev zk_X8_truth (6, ls, st, s, k) := zev_go rfl rfl
theorem zr_X8_truth_64 (a0 a1 a3 a4 : Option zAV) (st : List zAV) (s : zAS) (k : Nat × Nat) (x : Int32) : zev zk_X8_truth (64, [a0, a1, some (Sum.inl (Value.int x)), a3, a4], st, s, k) = zev zk_X8_truth (65, [a0, a1, some (Sum.inl (Value.int x)), a3, a4], Sum.inl (Value.int x) :: st, s, k) := zev_go rfl rfl
theorem zr_X8_truth_65 (ls : zLs) (st : List zAV) (s : zAS) (k : Nat × Nat) (x : Int32) : zev zk_X8_truth (65, ls, Sum.inl (Value.int x) :: st, s, k) = if decide (¬ x = 0) = true then zev zk_X8_truth (72, ls, st, s, k) else zev zk_X8_truth (68, ls, st, s, k) := zf_if (f := fun x => decide (¬ x = 0)) rfl
theorem zr_X8_truth_68 (ls : zLs) (st : List zAV) (s : zAS) (k : Nat × Nat) : zev zk_X8_truth (68, ls, st, s, k) = zev zk_X8_truth (69, ls, Sum.inl (Value.double 0x3ff0000000000000) :: st, s, k) := zev_go rfl rfl
theorem zr_X8_truth_69 (ls : zLs) (st : List zAV) (s : zAS) (k : Nat × Nat) : zev zk_X8_truth (69, ls, st, s, k) = zev zk_X8_truth (77, ls, st, s, k) := zev_go rfl rfl
theorem zr_X8_truth_72 (a0 a2 a3 a4 : Option zAV) (st : List zAV) (s : zAS) (k : Nat × Nat) (x : Int32) : zev zk_X8_truth (72, [a0, some (Sum.inl (Value.int x)), a2, a3, a4], st, s, k) = zev zk_X8_truth (73, [a0, some (Sum.inl (Value.int x)), a2, a3, a4], Sum.inl (Value.int x) :: st, s, k) := zev_go rfl rfl
theorem zr_X8_truth_73 (ls : zLs) (st : List zAV) (s : zAS) (k : Nat × Nat) (x : Int32) : zev zk_X8_truth (73, ls, Sum.inl (Value.int x) :: st, s, k) = zev zk_X8_truth (74, ls, Sum.inl (Value.double (FP.i2d x)) :: st, s, k) := zev_go rfl rfl
theorem zr_X8_truth_74 (a0 a1 a3 a4 : Option zAV) (st : List zAV) (s : zAS) (k : Nat × Nat) (x : Int32) : zev zk_X8_truth (74, [a0, a1, some (Sum.inl (Value.int x)), a3, a4], st, s, k) = zev zk_X8_truth (75, [a0, a1, some (Sum.inl (Value.int x)), a3, a4], Sum.inl (Value.int x) :: st, s, k) := zev_go rfl rfl
theorem zr_X8_truth_75 (ls : zLs) (st : List zAV) (s : zAS) (k : Nat × Nat) (x : Int32) : zev zk_X8_truth (75, ls, Sum.inl (Value.int x) :: st, s, k) = zev zk_X8_truth (76, ls, Sum.inl (Value.double (FP.i2d x)) :: st, s, k) := zev_go rfl rfl
theorem zr_X8_truth_76 (ls : zLs) (st : List zAV) (s : zAS) (k : Nat × Nat) (x y : UInt64) : zev zk_X8_truth (76, ls, Sum.inl (Value.double y) :: Sum.inl (Value.double x) :: st, s, k) = zcont zk_X8_truth (z_ddiv 77 ls (Sum.inl (Value.double y) :: Sum.inl (Value.double x) :: st) s k) := zev_step rfl _ _ _ _
theorem zr_X8_truth_77 (ls : zLs) (s : zAS) (k : Nat × Nat) (x : UInt64) : zev zk_X8_truth (77, ls, [Sum.inl (Value.double x)], s, k) = some (.inl (some (Sum.inl (Value.double x))), s) := zev_end rfl rfl
/-! X8_digest: PrimePlane.digest()J -/
abbrev zR_X8_digest : Room := ({ frames := 7, cells := 0, slots := 0, locals := 163 } : Room)
noncomputable def zl_X8_digest : List (Nat × zOp) := [(0, z_lc (421) 3), (3, z_st2 1 4), (4, z_ldl 1 5), (5, z_lc (31) 8), (8, z_lbin (fun x y => x * y) 9), (9, z_lda 0 10), (10, z_get zEC 8 2 13), (13, z_get zEC 3 0 16), (16, z_i2l 17), (17, z_lbin (fun x y => x + y) 18), (18, z_st2 1 19), (19, z_ldl 1 20), (20, z_lc (31) 23), (23, z_lbin (fun x y => x * y) 24), (24, z_lda 0 25), (25, z_get zEC 8 3 28), (28, z_get zEC 6 2 31), (31, z_i2l 32), (32, z_lbin (fun x y => x + y) 33), (33, z_st2 1 34), (34, z_ldl 1 35), (35, z_lc (31) 38), (38, z_lbin (fun x y => x * y) 39), (39, z_lda 0 40), (40, z_get zEC 8 4 43), (43, z_get zEC 1 2 46), (46, z_i2l 47), (47, z_lbin (fun x y => x + y) 48), (48, z_st2 1 49), (49, z_ldl 1 50), (50, z_lc (31) 53), (53, z_lbin (fun x y => x * y) 54), (54, z_lda 0 55), (55, z_get zEC 8 3 58), (58, z_callV zEC 6 m_X6_freePoints 0 0 0 (zR_X8_digest).cells (zR_X8_digest).slots 61), (61, z_i2l 62), (62, z_lbin (fun x y => x + y) 63), (63, z_st2 1 64), (64, z_ldl 1 65), (65, z_lc (31) 68), (68, z_lbin (fun x y => x * y) 69), (69, z_lda 0 70), (70, z_get zEC 8 3 73), (73, z_callV zEC 6 m_X6_lackingOnes 0 0 0 (zR_X8_digest).cells (zR_X8_digest).slots 76), (76, z_i2l 77), (77, z_lbin (fun x y => x + y) 78), (78, z_st2 1 79), (79, z_ic (0) 80), (80, z_sti 3 81), (81, z_ldi 3 82), (82, z_lda 0 83), (83, z_get zEC 8 3 86), (86, z_get zEC 6 2 89), (89, z_cmp (fun x y => decide (y ≤ x)) 111 92), (92, z_lda 0 93), (93, z_get zEC 8 3 96), (96, z_ldi 3 97), (97, z_callV zEC 6 m_X6_at 1 0 0 (zR_X8_digest).cells (zR_X8_digest).slots 100), (100, z_ldl 1 101), (101, z_callV zEC 4 m_X4_addTo 1 0 0 (zR_X8_digest).cells (zR_X8_digest).slots 104), (104, z_st2 1 105), (105, z_iinc 3 (1) 108), (108, z_goto 81), (111, z_ic (0) 112), (112, z_sti 3 113), (113, z_ldi 3 114), (114, z_lda 0 115), (115, z_get zEC 8 4 118), (118, z_get zEC 1 2 121), (121, z_cmp (fun x y => decide (y ≤ x)) 150 124), (124, z_ldl 1 125), (125, z_lc (31) 128), (128, z_lbin (fun x y => x * y) 129), (129, z_lda 0 130), (130, z_lda 0 131), (131, z_get zEC 8 4 134), (134, z_ldi 3 135), (135, z_callV zEC 1 m_X1_at 1 0 0 (zR_X8_digest).cells (zR_X8_digest).slots 138), (138, z_callV zEC 8 m_X8_verdict 1 0 0 (zR_X8_digest).cells (zR_X8_digest).slots 141), (141, z_i2l 142), (142, z_lbin (fun x y => x + y) 143), (143, z_st2 1 144), (144, z_iinc 3 (1) 147), (147, z_goto 113), (150, z_ldl 1 151), (151, z_retl)]
noncomputable def zk_X8_digest (pc : Nat) : Option zOp := zlook zl_X8_digest pc
noncomputable def m_X8_digest : List zAV → zAS → Option zOut := zmeth zk_X8_digest 4
set_option maxRecDepth 100000 in
set_option maxHeartbeats 4000000 in
theorem zcs_X8_digest {R : Room} (hR : R = zR_X8_digest) : ∀ q ∈ zl_X8_digest, zS zEC yX8_digest.cls cX8_digest 4 wsX8_digest (some .long) R q.1 q.2 := by
  subst hR
  have hin1 : ∀ w ∈ wsX10, w ∈ wsX8_digest := fun w h => List.mem_cons_of_mem _ (List.mem_append_left _ (List.mem_append_left _ (List.mem_append_left _ (List.mem_append_left _ (List.mem_append_right _ h)))))
  have hin3 : ∀ w ∈ wsX30, w ∈ wsX8_digest := fun w h => List.mem_cons_of_mem _ (List.mem_append_left _ (List.mem_append_left _ (List.mem_append_left _ (List.mem_append_left _ (List.mem_append_left _ (List.mem_append_left _ (List.mem_append_right _ h)))))))
  have hin6 : ∀ w ∈ wsX60, w ∈ wsX8_digest := fun w h => List.mem_cons_of_mem _ (List.mem_append_left _ (List.mem_append_left _ (List.mem_append_left _ (List.mem_append_left _ (List.mem_append_left _ (List.mem_append_right _ h))))))
  have hin8 : ∀ w ∈ wsX80, w ∈ wsX8_digest := fun w h => List.mem_cons_of_mem _ (List.mem_append_left _ (List.mem_append_left _ (List.mem_append_left _ (List.mem_append_left _ (List.mem_append_left _ (List.mem_append_left _ (List.mem_append_left _ (List.mem_append_right _ h))))))))
  refine List.forall_mem_cons.mpr ⟨zs_ldc2 dX8_digest_0 (List.mem_of_getElem? (i := 1) rfl), ?_⟩
  refine List.forall_mem_cons.mpr ⟨zs_lstore_n dX8_digest_3 rfl, ?_⟩
  refine List.forall_mem_cons.mpr ⟨zs_lload_n dX8_digest_4 rfl, ?_⟩
  refine List.forall_mem_cons.mpr ⟨zs_ldc2 dX8_digest_5 (List.mem_of_getElem? (i := 2) rfl), ?_⟩
  refine List.forall_mem_cons.mpr ⟨zs_lmul dX8_digest_8, ?_⟩
  refine List.forall_mem_cons.mpr ⟨zs_aload_n dX8_digest_9 rfl, ?_⟩
  refine List.forall_mem_cons.mpr ⟨zs_get (ci := 8) (j := 2) (N := 6) (C := RX8) (T := TX8) (index := 27) rfl (by decide) hin8 (List.mem_of_getElem? (i := 3) rfl) dX8_digest_10, ?_⟩
  refine List.forall_mem_cons.mpr ⟨zs_get (ci := 3) (j := 0) (N := 3) (C := RX3) (T := TX3) (index := 85) rfl (by decide) hin3 (List.mem_of_getElem? (i := 4) rfl) dX8_digest_13, ?_⟩
  refine List.forall_mem_cons.mpr ⟨zs_i2l dX8_digest_16, ?_⟩
  refine List.forall_mem_cons.mpr ⟨zs_ladd dX8_digest_17, ?_⟩
  refine List.forall_mem_cons.mpr ⟨zs_lstore_n dX8_digest_18 rfl, ?_⟩
  refine List.forall_mem_cons.mpr ⟨zs_lload_n dX8_digest_19 rfl, ?_⟩
  refine List.forall_mem_cons.mpr ⟨zs_ldc2 dX8_digest_20 (List.mem_of_getElem? (i := 2) rfl), ?_⟩
  refine List.forall_mem_cons.mpr ⟨zs_lmul dX8_digest_23, ?_⟩
  refine List.forall_mem_cons.mpr ⟨zs_aload_n dX8_digest_24 rfl, ?_⟩
  refine List.forall_mem_cons.mpr ⟨zs_get (ci := 8) (j := 3) (N := 6) (C := RX8) (T := TX8) (index := 31) rfl (by decide) hin8 (List.mem_of_getElem? (i := 5) rfl) dX8_digest_25, ?_⟩
  refine List.forall_mem_cons.mpr ⟨zs_get (ci := 6) (j := 2) (N := 3) (C := RX6) (T := TX6) (index := 66) rfl (by decide) hin6 (List.mem_of_getElem? (i := 6) rfl) dX8_digest_28, ?_⟩
  refine List.forall_mem_cons.mpr ⟨zs_i2l dX8_digest_31, ?_⟩
  refine List.forall_mem_cons.mpr ⟨zs_ladd dX8_digest_32, ?_⟩
  refine List.forall_mem_cons.mpr ⟨zs_lstore_n dX8_digest_33 rfl, ?_⟩
  refine List.forall_mem_cons.mpr ⟨zs_lload_n dX8_digest_34 rfl, ?_⟩
  refine List.forall_mem_cons.mpr ⟨zs_ldc2 dX8_digest_35 (List.mem_of_getElem? (i := 2) rfl), ?_⟩
  refine List.forall_mem_cons.mpr ⟨zs_lmul dX8_digest_38, ?_⟩
  refine List.forall_mem_cons.mpr ⟨zs_aload_n dX8_digest_39 rfl, ?_⟩
  refine List.forall_mem_cons.mpr ⟨zs_get (ci := 8) (j := 4) (N := 6) (C := RX8) (T := TX8) (index := 38) rfl (by decide) hin8 (List.mem_of_getElem? (i := 7) rfl) dX8_digest_40, ?_⟩
  refine List.forall_mem_cons.mpr ⟨zs_get (ci := 1) (j := 2) (N := 3) (C := RX1) (T := TX1) (index := 70) rfl (by decide) hin1 (List.mem_of_getElem? (i := 8) rfl) dX8_digest_43, ?_⟩
  refine List.forall_mem_cons.mpr ⟨zs_i2l dX8_digest_46, ?_⟩
  refine List.forall_mem_cons.mpr ⟨zs_ladd dX8_digest_47, ?_⟩
  refine List.forall_mem_cons.mpr ⟨zs_lstore_n dX8_digest_48 rfl, ?_⟩
  refine List.forall_mem_cons.mpr ⟨zs_lload_n dX8_digest_49 rfl, ?_⟩
  refine List.forall_mem_cons.mpr ⟨zs_ldc2 dX8_digest_50 (List.mem_of_getElem? (i := 2) rfl), ?_⟩
  refine List.forall_mem_cons.mpr ⟨zs_lmul dX8_digest_53, ?_⟩
  refine List.forall_mem_cons.mpr ⟨zs_aload_n dX8_digest_54 rfl, ?_⟩
  refine List.forall_mem_cons.mpr ⟨zs_get (ci := 8) (j := 3) (N := 6) (C := RX8) (T := TX8) (index := 31) rfl (by decide) hin8 (List.mem_of_getElem? (i := 5) rfl) dX8_digest_55, ?_⟩
  refine List.forall_mem_cons.mpr ⟨zs_callV (ci := 6) (rm := zR_X6_freePoints) (n := 0) rfl zM_X6_freePoints gX8_digest_X6_freePoints rfl (by decide +kernel) ⟨by decide, by decide⟩ dX8_digest_58, ?_⟩
  refine List.forall_mem_cons.mpr ⟨zs_i2l dX8_digest_61, ?_⟩
  refine List.forall_mem_cons.mpr ⟨zs_ladd dX8_digest_62, ?_⟩
  refine List.forall_mem_cons.mpr ⟨zs_lstore_n dX8_digest_63 rfl, ?_⟩
  refine List.forall_mem_cons.mpr ⟨zs_lload_n dX8_digest_64 rfl, ?_⟩
  refine List.forall_mem_cons.mpr ⟨zs_ldc2 dX8_digest_65 (List.mem_of_getElem? (i := 2) rfl), ?_⟩
  refine List.forall_mem_cons.mpr ⟨zs_lmul dX8_digest_68, ?_⟩
  refine List.forall_mem_cons.mpr ⟨zs_aload_n dX8_digest_69 rfl, ?_⟩
  refine List.forall_mem_cons.mpr ⟨zs_get (ci := 8) (j := 3) (N := 6) (C := RX8) (T := TX8) (index := 31) rfl (by decide) hin8 (List.mem_of_getElem? (i := 5) rfl) dX8_digest_70, ?_⟩
  refine List.forall_mem_cons.mpr ⟨zs_callV (ci := 6) (rm := zR_X6_lackingOnes) (n := 0) rfl zM_X6_lackingOnes gX8_digest_X6_lackingOnes rfl (by decide +kernel) ⟨by decide, by decide⟩ dX8_digest_73, ?_⟩
  refine List.forall_mem_cons.mpr ⟨zs_i2l dX8_digest_76, ?_⟩
  refine List.forall_mem_cons.mpr ⟨zs_ladd dX8_digest_77, ?_⟩
  refine List.forall_mem_cons.mpr ⟨zs_lstore_n dX8_digest_78 rfl, ?_⟩
  refine List.forall_mem_cons.mpr ⟨zs_iconst dX8_digest_79 (by decide), ?_⟩
  refine List.forall_mem_cons.mpr ⟨zs_istore_n dX8_digest_80 rfl, ?_⟩
  refine List.forall_mem_cons.mpr ⟨zs_iload_n dX8_digest_81 rfl, ?_⟩
  refine List.forall_mem_cons.mpr ⟨zs_aload_n dX8_digest_82 rfl, ?_⟩
  refine List.forall_mem_cons.mpr ⟨zs_get (ci := 8) (j := 3) (N := 6) (C := RX8) (T := TX8) (index := 31) rfl (by decide) hin8 (List.mem_of_getElem? (i := 5) rfl) dX8_digest_83, ?_⟩
  refine List.forall_mem_cons.mpr ⟨zs_get (ci := 6) (j := 2) (N := 3) (C := RX6) (T := TX6) (index := 66) rfl (by decide) hin6 (List.mem_of_getElem? (i := 6) rfl) dX8_digest_86, ?_⟩
  refine List.forall_mem_cons.mpr ⟨zs_icge dX8_digest_89 (by decide), ?_⟩
  refine List.forall_mem_cons.mpr ⟨zs_aload_n dX8_digest_92 rfl, ?_⟩
  refine List.forall_mem_cons.mpr ⟨zs_get (ci := 8) (j := 3) (N := 6) (C := RX8) (T := TX8) (index := 31) rfl (by decide) hin8 (List.mem_of_getElem? (i := 5) rfl) dX8_digest_93, ?_⟩
  refine List.forall_mem_cons.mpr ⟨zs_iload_n dX8_digest_96 rfl, ?_⟩
  refine List.forall_mem_cons.mpr ⟨zs_callV (ci := 6) (rm := zR_X6_at) (n := 1) rfl zM_X6_at gX8_digest_X6_at rfl (by decide +kernel) ⟨by decide, by decide⟩ dX8_digest_97, ?_⟩
  refine List.forall_mem_cons.mpr ⟨zs_lload_n dX8_digest_100 rfl, ?_⟩
  refine List.forall_mem_cons.mpr ⟨zs_callV (ci := 4) (rm := zR_X4_addTo) (n := 1) rfl zM_X4_addTo gX8_digest_X4_addTo rfl (by decide +kernel) ⟨by decide, by decide⟩ dX8_digest_101, ?_⟩
  refine List.forall_mem_cons.mpr ⟨zs_lstore_n dX8_digest_104 rfl, ?_⟩
  refine List.forall_mem_cons.mpr ⟨zs_iinc dX8_digest_105 (by decide), ?_⟩
  refine List.forall_mem_cons.mpr ⟨zs_goto dX8_digest_108 (by decide), ?_⟩
  refine List.forall_mem_cons.mpr ⟨zs_iconst dX8_digest_111 (by decide), ?_⟩
  refine List.forall_mem_cons.mpr ⟨zs_istore_n dX8_digest_112 rfl, ?_⟩
  refine List.forall_mem_cons.mpr ⟨zs_iload_n dX8_digest_113 rfl, ?_⟩
  refine List.forall_mem_cons.mpr ⟨zs_aload_n dX8_digest_114 rfl, ?_⟩
  refine List.forall_mem_cons.mpr ⟨zs_get (ci := 8) (j := 4) (N := 6) (C := RX8) (T := TX8) (index := 38) rfl (by decide) hin8 (List.mem_of_getElem? (i := 7) rfl) dX8_digest_115, ?_⟩
  refine List.forall_mem_cons.mpr ⟨zs_get (ci := 1) (j := 2) (N := 3) (C := RX1) (T := TX1) (index := 70) rfl (by decide) hin1 (List.mem_of_getElem? (i := 8) rfl) dX8_digest_118, ?_⟩
  refine List.forall_mem_cons.mpr ⟨zs_icge dX8_digest_121 (by decide), ?_⟩
  refine List.forall_mem_cons.mpr ⟨zs_lload_n dX8_digest_124 rfl, ?_⟩
  refine List.forall_mem_cons.mpr ⟨zs_ldc2 dX8_digest_125 (List.mem_of_getElem? (i := 2) rfl), ?_⟩
  refine List.forall_mem_cons.mpr ⟨zs_lmul dX8_digest_128, ?_⟩
  refine List.forall_mem_cons.mpr ⟨zs_aload_n dX8_digest_129 rfl, ?_⟩
  refine List.forall_mem_cons.mpr ⟨zs_aload_n dX8_digest_130 rfl, ?_⟩
  refine List.forall_mem_cons.mpr ⟨zs_get (ci := 8) (j := 4) (N := 6) (C := RX8) (T := TX8) (index := 38) rfl (by decide) hin8 (List.mem_of_getElem? (i := 7) rfl) dX8_digest_131, ?_⟩
  refine List.forall_mem_cons.mpr ⟨zs_iload_n dX8_digest_134 rfl, ?_⟩
  refine List.forall_mem_cons.mpr ⟨zs_callV (ci := 1) (rm := zR_X1_at) (n := 1) rfl zM_X1_at gX8_digest_X1_at rfl (by decide +kernel) ⟨by decide, by decide⟩ dX8_digest_135, ?_⟩
  refine List.forall_mem_cons.mpr ⟨zs_callV (ci := 8) (rm := zR_X8_verdict) (n := 1) rfl zM_X8_verdict gX8_digest_X8_verdict rfl (by decide +kernel) ⟨by decide, by decide⟩ dX8_digest_138, ?_⟩
  refine List.forall_mem_cons.mpr ⟨zs_i2l dX8_digest_141, ?_⟩
  refine List.forall_mem_cons.mpr ⟨zs_ladd dX8_digest_142, ?_⟩
  refine List.forall_mem_cons.mpr ⟨zs_lstore_n dX8_digest_143 rfl, ?_⟩
  refine List.forall_mem_cons.mpr ⟨zs_iinc dX8_digest_144 (by decide), ?_⟩
  refine List.forall_mem_cons.mpr ⟨zs_goto dX8_digest_147 (by decide), ?_⟩
  refine List.forall_mem_cons.mpr ⟨zs_lload_n dX8_digest_150 rfl, ?_⟩
  refine List.forall_mem_cons.mpr ⟨zs_retl rfl dX8_digest_151, ?_⟩
  exact fun _ h => absurd h List.not_mem_nil
theorem zM_X8_digest : zMeets zEC yX8_digest wsX8_digest zR_X8_digest m_X8_digest := zmeth_M zECok (zlook_all (zcs_X8_digest rfl)) (by decide +kernel) rfl
theorem zr_X8_digest_0 (ls : zLs) (st : List zAV) (s : zAS) (k : Nat × Nat) : zev zk_X8_digest (0, ls, st, s, k) = zev zk_X8_digest (3, ls, Sum.inl (Value.long (421)) :: st, s, k) := zev_go rfl rfl
theorem zr_X8_digest_3 (a0 a1 a2 a3 : Option zAV) (st : List zAV) (s : zAS) (k : Nat × Nat) (x : Int64) : zev zk_X8_digest (3, [a0, a1, a2, a3], Sum.inl (Value.long x) :: st, s, k) = zev zk_X8_digest (4, [zk1 a0, some (Sum.inl (Value.long x)), none, a3], st, s, k) := zev_go rfl rfl
theorem zr_X8_digest_4 (a0 a2 a3 : Option zAV) (st : List zAV) (s : zAS) (k : Nat × Nat) (x : Int64) : zev zk_X8_digest (4, [a0, some (Sum.inl (Value.long x)), a2, a3], st, s, k) = zev zk_X8_digest (5, [a0, some (Sum.inl (Value.long x)), a2, a3], Sum.inl (Value.long x) :: st, s, k) := zev_go rfl rfl
theorem zr_X8_digest_5 (ls : zLs) (st : List zAV) (s : zAS) (k : Nat × Nat) : zev zk_X8_digest (5, ls, st, s, k) = zev zk_X8_digest (8, ls, Sum.inl (Value.long (31)) :: st, s, k) := zev_go rfl rfl
theorem zr_X8_digest_8 (ls : zLs) (st : List zAV) (s : zAS) (k : Nat × Nat) (x y : Int64) : zev zk_X8_digest (8, ls, Sum.inl (Value.long y) :: Sum.inl (Value.long x) :: st, s, k) = zev zk_X8_digest (9, ls, Sum.inl (Value.long (x * y)) :: st, s, k) := zev_go rfl rfl
theorem zr_X8_digest_9 (a1 a2 a3 : Option zAV) (st : List zAV) (s : zAS) (k : Nat × Nat) (o : Nat × Nat) : zev zk_X8_digest (9, [some (Sum.inr o), a1, a2, a3], st, s, k) = zev zk_X8_digest (10, [some (Sum.inr o), a1, a2, a3], Sum.inr o :: st, s, k) := zev_go rfl rfl
theorem zr_X8_digest_10 (ls : zLs) (st : List zAV) (s : zAS) (k : Nat × Nat) (o i : Nat) : zev zk_X8_digest (10, ls, Sum.inr (o, i) :: st, s, k) = zpush zk_X8_digest 13 ls st s k (zgv zEC 8 2 o i s.1) := zf_get rfl
theorem zr_X8_digest_13 (ls : zLs) (st : List zAV) (s : zAS) (k : Nat × Nat) (o i : Nat) : zev zk_X8_digest (13, ls, Sum.inr (o, i) :: st, s, k) = zpush zk_X8_digest 16 ls st s k (zgv zEC 3 0 o i s.1) := zf_get rfl
theorem zr_X8_digest_16 (ls : zLs) (st : List zAV) (s : zAS) (k : Nat × Nat) (x : Int32) : zev zk_X8_digest (16, ls, Sum.inl (Value.int x) :: st, s, k) = zev zk_X8_digest (17, ls, Sum.inl (Value.long x.toInt64) :: st, s, k) := zev_go rfl rfl
theorem zr_X8_digest_17 (ls : zLs) (st : List zAV) (s : zAS) (k : Nat × Nat) (x y : Int64) : zev zk_X8_digest (17, ls, Sum.inl (Value.long y) :: Sum.inl (Value.long x) :: st, s, k) = zev zk_X8_digest (18, ls, Sum.inl (Value.long (x + y)) :: st, s, k) := zev_go rfl rfl
theorem zr_X8_digest_18 (a0 a1 a2 a3 : Option zAV) (st : List zAV) (s : zAS) (k : Nat × Nat) (x : Int64) : zev zk_X8_digest (18, [a0, a1, a2, a3], Sum.inl (Value.long x) :: st, s, k) = zev zk_X8_digest (19, [zk1 a0, some (Sum.inl (Value.long x)), none, a3], st, s, k) := zev_go rfl rfl
theorem zr_X8_digest_19 (a0 a2 a3 : Option zAV) (st : List zAV) (s : zAS) (k : Nat × Nat) (x : Int64) : zev zk_X8_digest (19, [a0, some (Sum.inl (Value.long x)), a2, a3], st, s, k) = zev zk_X8_digest (20, [a0, some (Sum.inl (Value.long x)), a2, a3], Sum.inl (Value.long x) :: st, s, k) := zev_go rfl rfl
theorem zr_X8_digest_20 (ls : zLs) (st : List zAV) (s : zAS) (k : Nat × Nat) : zev zk_X8_digest (20, ls, st, s, k) = zev zk_X8_digest (23, ls, Sum.inl (Value.long (31)) :: st, s, k) := zev_go rfl rfl
theorem zr_X8_digest_23 (ls : zLs) (st : List zAV) (s : zAS) (k : Nat × Nat) (x y : Int64) : zev zk_X8_digest (23, ls, Sum.inl (Value.long y) :: Sum.inl (Value.long x) :: st, s, k) = zev zk_X8_digest (24, ls, Sum.inl (Value.long (x * y)) :: st, s, k) := zev_go rfl rfl
theorem zr_X8_digest_24 (a1 a2 a3 : Option zAV) (st : List zAV) (s : zAS) (k : Nat × Nat) (o : Nat × Nat) : zev zk_X8_digest (24, [some (Sum.inr o), a1, a2, a3], st, s, k) = zev zk_X8_digest (25, [some (Sum.inr o), a1, a2, a3], Sum.inr o :: st, s, k) := zev_go rfl rfl
theorem zr_X8_digest_25 (ls : zLs) (st : List zAV) (s : zAS) (k : Nat × Nat) (o i : Nat) : zev zk_X8_digest (25, ls, Sum.inr (o, i) :: st, s, k) = zpush zk_X8_digest 28 ls st s k (zgv zEC 8 3 o i s.1) := zf_get rfl
theorem zr_X8_digest_28 (ls : zLs) (st : List zAV) (s : zAS) (k : Nat × Nat) (o i : Nat) : zev zk_X8_digest (28, ls, Sum.inr (o, i) :: st, s, k) = zpush zk_X8_digest 31 ls st s k (zgv zEC 6 2 o i s.1) := zf_get rfl
theorem zr_X8_digest_31 (ls : zLs) (st : List zAV) (s : zAS) (k : Nat × Nat) (x : Int32) : zev zk_X8_digest (31, ls, Sum.inl (Value.int x) :: st, s, k) = zev zk_X8_digest (32, ls, Sum.inl (Value.long x.toInt64) :: st, s, k) := zev_go rfl rfl
theorem zr_X8_digest_32 (ls : zLs) (st : List zAV) (s : zAS) (k : Nat × Nat) (x y : Int64) : zev zk_X8_digest (32, ls, Sum.inl (Value.long y) :: Sum.inl (Value.long x) :: st, s, k) = zev zk_X8_digest (33, ls, Sum.inl (Value.long (x + y)) :: st, s, k) := zev_go rfl rfl
theorem zr_X8_digest_33 (a0 a1 a2 a3 : Option zAV) (st : List zAV) (s : zAS) (k : Nat × Nat) (x : Int64) : zev zk_X8_digest (33, [a0, a1, a2, a3], Sum.inl (Value.long x) :: st, s, k) = zev zk_X8_digest (34, [zk1 a0, some (Sum.inl (Value.long x)), none, a3], st, s, k) := zev_go rfl rfl
theorem zr_X8_digest_34 (a0 a2 a3 : Option zAV) (st : List zAV) (s : zAS) (k : Nat × Nat) (x : Int64) : zev zk_X8_digest (34, [a0, some (Sum.inl (Value.long x)), a2, a3], st, s, k) = zev zk_X8_digest (35, [a0, some (Sum.inl (Value.long x)), a2, a3], Sum.inl (Value.long x) :: st, s, k) := zev_go rfl rfl
theorem zr_X8_digest_35 (ls : zLs) (st : List zAV) (s : zAS) (k : Nat × Nat) : zev zk_X8_digest (35, ls, st, s, k) = zev zk_X8_digest (38, ls, Sum.inl (Value.long (31)) :: st, s, k) := zev_go rfl rfl
theorem zr_X8_digest_38 (ls : zLs) (st : List zAV) (s : zAS) (k : Nat × Nat) (x y : Int64) : zev zk_X8_digest (38, ls, Sum.inl (Value.long y) :: Sum.inl (Value.long x) :: st, s, k) = zev zk_X8_digest (39, ls, Sum.inl (Value.long (x * y)) :: st, s, k) := zev_go rfl rfl
theorem zr_X8_digest_39 (a1 a2 a3 : Option zAV) (st : List zAV) (s : zAS) (k : Nat × Nat) (o : Nat × Nat) : zev zk_X8_digest (39, [some (Sum.inr o), a1, a2, a3], st, s, k) = zev zk_X8_digest (40, [some (Sum.inr o), a1, a2, a3], Sum.inr o :: st, s, k) := zev_go rfl rfl
theorem zr_X8_digest_40 (ls : zLs) (st : List zAV) (s : zAS) (k : Nat × Nat) (o i : Nat) : zev zk_X8_digest (40, ls, Sum.inr (o, i) :: st, s, k) = zpush zk_X8_digest 43 ls st s k (zgv zEC 8 4 o i s.1) := zf_get rfl
theorem zr_X8_digest_43 (ls : zLs) (st : List zAV) (s : zAS) (k : Nat × Nat) (o i : Nat) : zev zk_X8_digest (43, ls, Sum.inr (o, i) :: st, s, k) = zpush zk_X8_digest 46 ls st s k (zgv zEC 1 2 o i s.1) := zf_get rfl
theorem zr_X8_digest_46 (ls : zLs) (st : List zAV) (s : zAS) (k : Nat × Nat) (x : Int32) : zev zk_X8_digest (46, ls, Sum.inl (Value.int x) :: st, s, k) = zev zk_X8_digest (47, ls, Sum.inl (Value.long x.toInt64) :: st, s, k) := zev_go rfl rfl
theorem zr_X8_digest_47 (ls : zLs) (st : List zAV) (s : zAS) (k : Nat × Nat) (x y : Int64) : zev zk_X8_digest (47, ls, Sum.inl (Value.long y) :: Sum.inl (Value.long x) :: st, s, k) = zev zk_X8_digest (48, ls, Sum.inl (Value.long (x + y)) :: st, s, k) := zev_go rfl rfl
theorem zr_X8_digest_48 (a0 a1 a2 a3 : Option zAV) (st : List zAV) (s : zAS) (k : Nat × Nat) (x : Int64) : zev zk_X8_digest (48, [a0, a1, a2, a3], Sum.inl (Value.long x) :: st, s, k) = zev zk_X8_digest (49, [zk1 a0, some (Sum.inl (Value.long x)), none, a3], st, s, k) := zev_go rfl rfl
theorem zr_X8_digest_49 (a0 a2 a3 : Option zAV) (st : List zAV) (s : zAS) (k : Nat × Nat) (x : Int64) : zev zk_X8_digest (49, [a0, some (Sum.inl (Value.long x)), a2, a3], st, s, k) = zev zk_X8_digest (50, [a0, some (Sum.inl (Value.long x)), a2, a3], Sum.inl (Value.long x) :: st, s, k) := zev_go rfl rfl
theorem zr_X8_digest_50 (ls : zLs) (st : List zAV) (s : zAS) (k : Nat × Nat) : zev zk_X8_digest (50, ls, st, s, k) = zev zk_X8_digest (53, ls, Sum.inl (Value.long (31)) :: st, s, k) := zev_go rfl rfl
theorem zr_X8_digest_53 (ls : zLs) (st : List zAV) (s : zAS) (k : Nat × Nat) (x y : Int64) : zev zk_X8_digest (53, ls, Sum.inl (Value.long y) :: Sum.inl (Value.long x) :: st, s, k) = zev zk_X8_digest (54, ls, Sum.inl (Value.long (x * y)) :: st, s, k) := zev_go rfl rfl
theorem zr_X8_digest_54 (a1 a2 a3 : Option zAV) (st : List zAV) (s : zAS) (k : Nat × Nat) (o : Nat × Nat) : zev zk_X8_digest (54, [some (Sum.inr o), a1, a2, a3], st, s, k) = zev zk_X8_digest (55, [some (Sum.inr o), a1, a2, a3], Sum.inr o :: st, s, k) := zev_go rfl rfl
theorem zr_X8_digest_55 (ls : zLs) (st : List zAV) (s : zAS) (k : Nat × Nat) (o i : Nat) : zev zk_X8_digest (55, ls, Sum.inr (o, i) :: st, s, k) = zpush zk_X8_digest 58 ls st s k (zgv zEC 8 3 o i s.1) := zf_get rfl
theorem zr_X8_digest_58 (ls : zLs) (st : List zAV) (s : zAS) (k : Nat × Nat) (r : zAV) (h : zcok zEC 6 0 0 (zR_X8_digest).cells (zR_X8_digest).slots r st k) : zev zk_X8_digest (58, ls, r :: st, s, k) = zret zk_X8_digest 61 ls st (k.1 + 0, k.2 + 0) (m_X6_freePoints [r] s) := zf_callV (as := []) 0 rfl rfl h
theorem zr_X8_digest_61 (ls : zLs) (st : List zAV) (s : zAS) (k : Nat × Nat) (x : Int32) : zev zk_X8_digest (61, ls, Sum.inl (Value.int x) :: st, s, k) = zev zk_X8_digest (62, ls, Sum.inl (Value.long x.toInt64) :: st, s, k) := zev_go rfl rfl
theorem zr_X8_digest_62 (ls : zLs) (st : List zAV) (s : zAS) (k : Nat × Nat) (x y : Int64) : zev zk_X8_digest (62, ls, Sum.inl (Value.long y) :: Sum.inl (Value.long x) :: st, s, k) = zev zk_X8_digest (63, ls, Sum.inl (Value.long (x + y)) :: st, s, k) := zev_go rfl rfl
theorem zr_X8_digest_63 (a0 a1 a2 a3 : Option zAV) (st : List zAV) (s : zAS) (k : Nat × Nat) (x : Int64) : zev zk_X8_digest (63, [a0, a1, a2, a3], Sum.inl (Value.long x) :: st, s, k) = zev zk_X8_digest (64, [zk1 a0, some (Sum.inl (Value.long x)), none, a3], st, s, k) := zev_go rfl rfl
theorem zr_X8_digest_64 (a0 a2 a3 : Option zAV) (st : List zAV) (s : zAS) (k : Nat × Nat) (x : Int64) : zev zk_X8_digest (64, [a0, some (Sum.inl (Value.long x)), a2, a3], st, s, k) = zev zk_X8_digest (65, [a0, some (Sum.inl (Value.long x)), a2, a3], Sum.inl (Value.long x) :: st, s, k) := zev_go rfl rfl
theorem zr_X8_digest_65 (ls : zLs) (st : List zAV) (s : zAS) (k : Nat × Nat) : zev zk_X8_digest (65, ls, st, s, k) = zev zk_X8_digest (68, ls, Sum.inl (Value.long (31)) :: st, s, k) := zev_go rfl rfl
theorem zr_X8_digest_68 (ls : zLs) (st : List zAV) (s : zAS) (k : Nat × Nat) (x y : Int64) : zev zk_X8_digest (68, ls, Sum.inl (Value.long y) :: Sum.inl (Value.long x) :: st, s, k) = zev zk_X8_digest (69, ls, Sum.inl (Value.long (x * y)) :: st, s, k) := zev_go rfl rfl
theorem zr_X8_digest_69 (a1 a2 a3 : Option zAV) (st : List zAV) (s : zAS) (k : Nat × Nat) (o : Nat × Nat) : zev zk_X8_digest (69, [some (Sum.inr o), a1, a2, a3], st, s, k) = zev zk_X8_digest (70, [some (Sum.inr o), a1, a2, a3], Sum.inr o :: st, s, k) := zev_go rfl rfl
theorem zr_X8_digest_70 (ls : zLs) (st : List zAV) (s : zAS) (k : Nat × Nat) (o i : Nat) : zev zk_X8_digest (70, ls, Sum.inr (o, i) :: st, s, k) = zpush zk_X8_digest 73 ls st s k (zgv zEC 8 3 o i s.1) := zf_get rfl
theorem zr_X8_digest_73 (ls : zLs) (st : List zAV) (s : zAS) (k : Nat × Nat) (r : zAV) (h : zcok zEC 6 0 0 (zR_X8_digest).cells (zR_X8_digest).slots r st k) : zev zk_X8_digest (73, ls, r :: st, s, k) = zret zk_X8_digest 76 ls st (k.1 + 0, k.2 + 0) (m_X6_lackingOnes [r] s) := zf_callV (as := []) 0 rfl rfl h
theorem zr_X8_digest_76 (ls : zLs) (st : List zAV) (s : zAS) (k : Nat × Nat) (x : Int32) : zev zk_X8_digest (76, ls, Sum.inl (Value.int x) :: st, s, k) = zev zk_X8_digest (77, ls, Sum.inl (Value.long x.toInt64) :: st, s, k) := zev_go rfl rfl
theorem zr_X8_digest_77 (ls : zLs) (st : List zAV) (s : zAS) (k : Nat × Nat) (x y : Int64) : zev zk_X8_digest (77, ls, Sum.inl (Value.long y) :: Sum.inl (Value.long x) :: st, s, k) = zev zk_X8_digest (78, ls, Sum.inl (Value.long (x + y)) :: st, s, k) := zev_go rfl rfl
theorem zr_X8_digest_78 (a0 a1 a2 a3 : Option zAV) (st : List zAV) (s : zAS) (k : Nat × Nat) (x : Int64) : zev zk_X8_digest (78, [a0, a1, a2, a3], Sum.inl (Value.long x) :: st, s, k) = zev zk_X8_digest (79, [zk1 a0, some (Sum.inl (Value.long x)), none, a3], st, s, k) := zev_go rfl rfl
theorem zr_X8_digest_79 (ls : zLs) (st : List zAV) (s : zAS) (k : Nat × Nat) : zev zk_X8_digest (79, ls, st, s, k) = zev zk_X8_digest (80, ls, Sum.inl (Value.int (0)) :: st, s, k) := zev_go rfl rfl
theorem zr_X8_digest_80 (a0 a1 a2 a3 : Option zAV) (st : List zAV) (s : zAS) (k : Nat × Nat) (x : Int32) : zev zk_X8_digest (80, [a0, a1, a2, a3], Sum.inl (Value.int x) :: st, s, k) = zev zk_X8_digest (81, [a0, a1, zk1 a2, some (Sum.inl (Value.int x))], st, s, k) := zev_go rfl rfl
theorem zr_X8_digest_81 (a0 a1 a2 : Option zAV) (st : List zAV) (s : zAS) (k : Nat × Nat) (x : Int32) : zev zk_X8_digest (81, [a0, a1, a2, some (Sum.inl (Value.int x))], st, s, k) = zev zk_X8_digest (82, [a0, a1, a2, some (Sum.inl (Value.int x))], Sum.inl (Value.int x) :: st, s, k) := zev_go rfl rfl
theorem zr_X8_digest_82 (a1 a2 a3 : Option zAV) (st : List zAV) (s : zAS) (k : Nat × Nat) (o : Nat × Nat) : zev zk_X8_digest (82, [some (Sum.inr o), a1, a2, a3], st, s, k) = zev zk_X8_digest (83, [some (Sum.inr o), a1, a2, a3], Sum.inr o :: st, s, k) := zev_go rfl rfl
theorem zr_X8_digest_83 (ls : zLs) (st : List zAV) (s : zAS) (k : Nat × Nat) (o i : Nat) : zev zk_X8_digest (83, ls, Sum.inr (o, i) :: st, s, k) = zpush zk_X8_digest 86 ls st s k (zgv zEC 8 3 o i s.1) := zf_get rfl
theorem zr_X8_digest_86 (ls : zLs) (st : List zAV) (s : zAS) (k : Nat × Nat) (o i : Nat) : zev zk_X8_digest (86, ls, Sum.inr (o, i) :: st, s, k) = zpush zk_X8_digest 89 ls st s k (zgv zEC 6 2 o i s.1) := zf_get rfl
theorem zr_X8_digest_89 (ls : zLs) (st : List zAV) (s : zAS) (k : Nat × Nat) (x y : Int32) : zev zk_X8_digest (89, ls, Sum.inl (Value.int y) :: Sum.inl (Value.int x) :: st, s, k) = if decide (y ≤ x) = true then zev zk_X8_digest (111, ls, st, s, k) else zev zk_X8_digest (92, ls, st, s, k) := zf_cmp (f := fun x y => decide (y ≤ x)) rfl
theorem zr_X8_digest_92 (a1 a2 a3 : Option zAV) (st : List zAV) (s : zAS) (k : Nat × Nat) (o : Nat × Nat) : zev zk_X8_digest (92, [some (Sum.inr o), a1, a2, a3], st, s, k) = zev zk_X8_digest (93, [some (Sum.inr o), a1, a2, a3], Sum.inr o :: st, s, k) := zev_go rfl rfl
theorem zr_X8_digest_93 (ls : zLs) (st : List zAV) (s : zAS) (k : Nat × Nat) (o i : Nat) : zev zk_X8_digest (93, ls, Sum.inr (o, i) :: st, s, k) = zpush zk_X8_digest 96 ls st s k (zgv zEC 8 3 o i s.1) := zf_get rfl
theorem zr_X8_digest_96 (a0 a1 a2 : Option zAV) (st : List zAV) (s : zAS) (k : Nat × Nat) (x : Int32) : zev zk_X8_digest (96, [a0, a1, a2, some (Sum.inl (Value.int x))], st, s, k) = zev zk_X8_digest (97, [a0, a1, a2, some (Sum.inl (Value.int x))], Sum.inl (Value.int x) :: st, s, k) := zev_go rfl rfl
theorem zr_X8_digest_97 (ls : zLs) (st : List zAV) (s : zAS) (k : Nat × Nat) (r v0 : zAV) (h : zcok zEC 6 0 0 (zR_X8_digest).cells (zR_X8_digest).slots r st k) : zev zk_X8_digest (97, ls, v0 :: r :: st, s, k) = zret zk_X8_digest 100 ls st (k.1 + 0, k.2 + 0) (m_X6_at [r, v0] s) := zf_callV (as := [v0]) 1 rfl rfl h
theorem zr_X8_digest_100 (a0 a2 a3 : Option zAV) (st : List zAV) (s : zAS) (k : Nat × Nat) (x : Int64) : zev zk_X8_digest (100, [a0, some (Sum.inl (Value.long x)), a2, a3], st, s, k) = zev zk_X8_digest (101, [a0, some (Sum.inl (Value.long x)), a2, a3], Sum.inl (Value.long x) :: st, s, k) := zev_go rfl rfl
theorem zr_X8_digest_101 (ls : zLs) (st : List zAV) (s : zAS) (k : Nat × Nat) (r v0 : zAV) (h : zcok zEC 4 0 0 (zR_X8_digest).cells (zR_X8_digest).slots r st k) : zev zk_X8_digest (101, ls, v0 :: r :: st, s, k) = zret zk_X8_digest 104 ls st (k.1 + 0, k.2 + 0) (m_X4_addTo [r, v0] s) := zf_callV (as := [v0]) 1 rfl rfl h
theorem zr_X8_digest_104 (a0 a1 a2 a3 : Option zAV) (st : List zAV) (s : zAS) (k : Nat × Nat) (x : Int64) : zev zk_X8_digest (104, [a0, a1, a2, a3], Sum.inl (Value.long x) :: st, s, k) = zev zk_X8_digest (105, [zk1 a0, some (Sum.inl (Value.long x)), none, a3], st, s, k) := zev_go rfl rfl
theorem zr_X8_digest_105 (a0 a1 a2 : Option zAV) (st : List zAV) (s : zAS) (k : Nat × Nat) (x : Int32) : zev zk_X8_digest (105, [a0, a1, a2, some (Sum.inl (Value.int x))], st, s, k) = zev zk_X8_digest (108, [a0, a1, zk1 a2, some (Sum.inl (Value.int (x + (1))))], st, s, k) := zev_go rfl rfl
theorem zr_X8_digest_108 (ls : zLs) (st : List zAV) (s : zAS) (k : Nat × Nat) : zev zk_X8_digest (108, ls, st, s, k) = zev zk_X8_digest (81, ls, st, s, k) := zev_go rfl rfl
theorem zr_X8_digest_111 (ls : zLs) (st : List zAV) (s : zAS) (k : Nat × Nat) : zev zk_X8_digest (111, ls, st, s, k) = zev zk_X8_digest (112, ls, Sum.inl (Value.int (0)) :: st, s, k) := zev_go rfl rfl
theorem zr_X8_digest_112 (a0 a1 a2 a3 : Option zAV) (st : List zAV) (s : zAS) (k : Nat × Nat) (x : Int32) : zev zk_X8_digest (112, [a0, a1, a2, a3], Sum.inl (Value.int x) :: st, s, k) = zev zk_X8_digest (113, [a0, a1, zk1 a2, some (Sum.inl (Value.int x))], st, s, k) := zev_go rfl rfl
theorem zr_X8_digest_113 (a0 a1 a2 : Option zAV) (st : List zAV) (s : zAS) (k : Nat × Nat) (x : Int32) : zev zk_X8_digest (113, [a0, a1, a2, some (Sum.inl (Value.int x))], st, s, k) = zev zk_X8_digest (114, [a0, a1, a2, some (Sum.inl (Value.int x))], Sum.inl (Value.int x) :: st, s, k) := zev_go rfl rfl
theorem zr_X8_digest_114 (a1 a2 a3 : Option zAV) (st : List zAV) (s : zAS) (k : Nat × Nat) (o : Nat × Nat) : zev zk_X8_digest (114, [some (Sum.inr o), a1, a2, a3], st, s, k) = zev zk_X8_digest (115, [some (Sum.inr o), a1, a2, a3], Sum.inr o :: st, s, k) := zev_go rfl rfl
theorem zr_X8_digest_115 (ls : zLs) (st : List zAV) (s : zAS) (k : Nat × Nat) (o i : Nat) : zev zk_X8_digest (115, ls, Sum.inr (o, i) :: st, s, k) = zpush zk_X8_digest 118 ls st s k (zgv zEC 8 4 o i s.1) := zf_get rfl
theorem zr_X8_digest_118 (ls : zLs) (st : List zAV) (s : zAS) (k : Nat × Nat) (o i : Nat) : zev zk_X8_digest (118, ls, Sum.inr (o, i) :: st, s, k) = zpush zk_X8_digest 121 ls st s k (zgv zEC 1 2 o i s.1) := zf_get rfl
theorem zr_X8_digest_121 (ls : zLs) (st : List zAV) (s : zAS) (k : Nat × Nat) (x y : Int32) : zev zk_X8_digest (121, ls, Sum.inl (Value.int y) :: Sum.inl (Value.int x) :: st, s, k) = if decide (y ≤ x) = true then zev zk_X8_digest (150, ls, st, s, k) else zev zk_X8_digest (124, ls, st, s, k) := zf_cmp (f := fun x y => decide (y ≤ x)) rfl
theorem zr_X8_digest_124 (a0 a2 a3 : Option zAV) (st : List zAV) (s : zAS) (k : Nat × Nat) (x : Int64) : zev zk_X8_digest (124, [a0, some (Sum.inl (Value.long x)), a2, a3], st, s, k) = zev zk_X8_digest (125, [a0, some (Sum.inl (Value.long x)), a2, a3], Sum.inl (Value.long x) :: st, s, k) := zev_go rfl rfl
theorem zr_X8_digest_125 (ls : zLs) (st : List zAV) (s : zAS) (k : Nat × Nat) : zev zk_X8_digest (125, ls, st, s, k) = zev zk_X8_digest (128, ls, Sum.inl (Value.long (31)) :: st, s, k) := zev_go rfl rfl
theorem zr_X8_digest_128 (ls : zLs) (st : List zAV) (s : zAS) (k : Nat × Nat) (x y : Int64) : zev zk_X8_digest (128, ls, Sum.inl (Value.long y) :: Sum.inl (Value.long x) :: st, s, k) = zev zk_X8_digest (129, ls, Sum.inl (Value.long (x * y)) :: st, s, k) := zev_go rfl rfl
theorem zr_X8_digest_129 (a1 a2 a3 : Option zAV) (st : List zAV) (s : zAS) (k : Nat × Nat) (o : Nat × Nat) : zev zk_X8_digest (129, [some (Sum.inr o), a1, a2, a3], st, s, k) = zev zk_X8_digest (130, [some (Sum.inr o), a1, a2, a3], Sum.inr o :: st, s, k) := zev_go rfl rfl
theorem zr_X8_digest_130 (a1 a2 a3 : Option zAV) (st : List zAV) (s : zAS) (k : Nat × Nat) (o : Nat × Nat) : zev zk_X8_digest (130, [some (Sum.inr o), a1, a2, a3], st, s, k) = zev zk_X8_digest (131, [some (Sum.inr o), a1, a2, a3], Sum.inr o :: st, s, k) := zev_go rfl rfl
theorem zr_X8_digest_131 (ls : zLs) (st : List zAV) (s : zAS) (k : Nat × Nat) (o i : Nat) : zev zk_X8_digest (131, ls, Sum.inr (o, i) :: st, s, k) = zpush zk_X8_digest 134 ls st s k (zgv zEC 8 4 o i s.1) := zf_get rfl
theorem zr_X8_digest_134 (a0 a1 a2 : Option zAV) (st : List zAV) (s : zAS) (k : Nat × Nat) (x : Int32) : zev zk_X8_digest (134, [a0, a1, a2, some (Sum.inl (Value.int x))], st, s, k) = zev zk_X8_digest (135, [a0, a1, a2, some (Sum.inl (Value.int x))], Sum.inl (Value.int x) :: st, s, k) := zev_go rfl rfl
theorem zr_X8_digest_135 (ls : zLs) (st : List zAV) (s : zAS) (k : Nat × Nat) (r v0 : zAV) (h : zcok zEC 1 0 0 (zR_X8_digest).cells (zR_X8_digest).slots r st k) : zev zk_X8_digest (135, ls, v0 :: r :: st, s, k) = zret zk_X8_digest 138 ls st (k.1 + 0, k.2 + 0) (m_X1_at [r, v0] s) := zf_callV (as := [v0]) 1 rfl rfl h
theorem zr_X8_digest_138 (ls : zLs) (st : List zAV) (s : zAS) (k : Nat × Nat) (r v0 : zAV) (h : zcok zEC 8 0 0 (zR_X8_digest).cells (zR_X8_digest).slots r st k) : zev zk_X8_digest (138, ls, v0 :: r :: st, s, k) = zret zk_X8_digest 141 ls st (k.1 + 0, k.2 + 0) (m_X8_verdict [r, v0] s) := zf_callV (as := [v0]) 1 rfl rfl h
theorem zr_X8_digest_141 (ls : zLs) (st : List zAV) (s : zAS) (k : Nat × Nat) (x : Int32) : zev zk_X8_digest (141, ls, Sum.inl (Value.int x) :: st, s, k) = zev zk_X8_digest (142, ls, Sum.inl (Value.long x.toInt64) :: st, s, k) := zev_go rfl rfl
theorem zr_X8_digest_142 (ls : zLs) (st : List zAV) (s : zAS) (k : Nat × Nat) (x y : Int64) : zev zk_X8_digest (142, ls, Sum.inl (Value.long y) :: Sum.inl (Value.long x) :: st, s, k) = zev zk_X8_digest (143, ls, Sum.inl (Value.long (x + y)) :: st, s, k) := zev_go rfl rfl
theorem zr_X8_digest_143 (a0 a1 a2 a3 : Option zAV) (st : List zAV) (s : zAS) (k : Nat × Nat) (x : Int64) : zev zk_X8_digest (143, [a0, a1, a2, a3], Sum.inl (Value.long x) :: st, s, k) = zev zk_X8_digest (144, [zk1 a0, some (Sum.inl (Value.long x)), none, a3], st, s, k) := zev_go rfl rfl
theorem zr_X8_digest_144 (a0 a1 a2 : Option zAV) (st : List zAV) (s : zAS) (k : Nat × Nat) (x : Int32) : zev zk_X8_digest (144, [a0, a1, a2, some (Sum.inl (Value.int x))], st, s, k) = zev zk_X8_digest (147, [a0, a1, zk1 a2, some (Sum.inl (Value.int (x + (1))))], st, s, k) := zev_go rfl rfl
theorem zr_X8_digest_147 (ls : zLs) (st : List zAV) (s : zAS) (k : Nat × Nat) : zev zk_X8_digest (147, ls, st, s, k) = zev zk_X8_digest (113, ls, st, s, k) := zev_go rfl rfl
theorem zr_X8_digest_150 (a0 a2 a3 : Option zAV) (st : List zAV) (s : zAS) (k : Nat × Nat) (x : Int64) : zev zk_X8_digest (150, [a0, some (Sum.inl (Value.long x)), a2, a3], st, s, k) = zev zk_X8_digest (151, [a0, some (Sum.inl (Value.long x)), a2, a3], Sum.inl (Value.long x) :: st, s, k) := zev_go rfl rfl
theorem zr_X8_digest_151 (ls : zLs) (s : zAS) (k : Nat × Nat) (x : Int64) : zev zk_X8_digest (151, ls, [Sum.inl (Value.long x)], s, k) = some (.inl (some (Sum.inl (Value.long x))), s) := zev_end rfl rfl
