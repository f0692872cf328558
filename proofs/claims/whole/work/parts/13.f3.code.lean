/-! X9_move: PrimePlaneModel.move(III)I -/
abbrev zR_X9_move : Room := ({ frames := 9, cells := 0, slots := 0, locals := 209 } : Room)
noncomputable def zl_X9_move : List (Nat × zOp) := [(0, z_lda 0 1), (1, z_ic (0) 2), (2, z_put zEM 9 0 false 5), (5, z_lda 0 6), (6, z_ldi 1 7), (7, z_callV zEM 9 m_X9_isObject 1 0 0 (zR_X9_move).cells (zR_X9_move).slots 10), (10, z_if (fun x => decide (¬ x = 0)) 19 13), (13, z_lda 0 14), (14, z_ic (1) 15), (15, z_callV zEM 9 m_X9_fail 1 0 0 (zR_X9_move).cells (zR_X9_move).slots 18), (18, z_reti false), (19, z_lda 0 20), (20, z_lda 0 21), (21, z_ldi 1 22), (22, z_ic (1) 23), (23, z_callV zEM 9 m_X9_get 2 0 0 (zR_X9_move).cells (zR_X9_move).slots 26), (26, z_if (fun x => decide (¬ x = 0)) 33 29), (29, z_ic (1) 30), (30, z_goto 34), (33, z_ic (0) 34), (34, z_ldi 2 35), (35, z_ldi 3 36), (36, z_callV zEM 9 m_X9_isPlace 3 0 0 (zR_X9_move).cells (zR_X9_move).slots 39), (39, z_if (fun x => decide (¬ x = 0)) 48 42), (42, z_lda 0 43), (43, z_ic (2) 44), (44, z_callV zEM 9 m_X9_fail 1 0 0 (zR_X9_move).cells (zR_X9_move).slots 47), (47, z_reti false), (48, z_lda 0 49), (49, z_ldi 1 50), (50, z_ic (1) 51), (51, z_callV zEM 9 m_X9_get 2 0 0 (zR_X9_move).cells (zR_X9_move).slots 54), (54, z_ic (1) 55), (55, z_cmp (fun x y => decide (x ≤ y)) 64 58), (58, z_lda 0 59), (59, z_ic (3) 60), (60, z_callV zEM 9 m_X9_fail 1 0 0 (zR_X9_move).cells (zR_X9_move).slots 63), (63, z_reti false), (64, z_lda 0 65), (65, z_ldi 1 66), (66, z_ldi 2 67), (67, z_ldi 3 68), (68, z_callV zEM 9 m_X9_place 3 0 0 (zR_X9_move).cells (zR_X9_move).slots 71), (71, z_lda 0 72), (72, z_ic (4) 73), (73, z_callV zEM 9 m_X9_counted 1 0 0 (zR_X9_move).cells (zR_X9_move).slots 76), (76, z_reti false)]
noncomputable def zk_X9_move (pc : Nat) : Option zOp := zlook zl_X9_move pc
noncomputable def m_X9_move : List zAV → zAS → Option zOut := zmeth zk_X9_move 4
set_option maxRecDepth 100000 in
set_option maxHeartbeats 4000000 in
theorem zcs_X9_move {R : Room} (hR : R = zR_X9_move) : ∀ q ∈ zl_X9_move, zS zEM yX9_move.cls cX9_move 4 wsX9_move (some .int) R q.1 q.2 := by
  subst hR
  have hin9 : ∀ w ∈ wsX90, w ∈ wsX9_move := fun w h => List.mem_cons_of_mem _ (List.mem_append_right _ h)
  refine List.forall_mem_cons.mpr ⟨zs_aload_n dX9_move_0 rfl, ?_⟩
  refine List.forall_mem_cons.mpr ⟨zs_iconst dX9_move_1 (by decide), ?_⟩
  refine List.forall_mem_cons.mpr ⟨zs_put (ci := 9) (j := 0) (N := 10) (C := RX9) (T := TX9) (index := 29) (b := false) .int tyX9 rfl (by decide) hin9 tyX9_ok nmX9 (List.mem_of_getElem? (i := 1) rfl) rfl (by decide +kernel) zni dX9_move_2, ?_⟩
  refine List.forall_mem_cons.mpr ⟨zs_aload_n dX9_move_5 rfl, ?_⟩
  refine List.forall_mem_cons.mpr ⟨zs_iload_n dX9_move_6 rfl, ?_⟩
  refine List.forall_mem_cons.mpr ⟨zs_callV (ci := 9) (rm := zR_X9_isObject) (n := 1) rfl zM_X9_isObject gX9_move_X9_isObject rfl (by decide +kernel) ⟨by decide, by decide⟩ dX9_move_7, ?_⟩
  refine List.forall_mem_cons.mpr ⟨zs_ifne dX9_move_10 (by decide), ?_⟩
  refine List.forall_mem_cons.mpr ⟨zs_aload_n dX9_move_13 rfl, ?_⟩
  refine List.forall_mem_cons.mpr ⟨zs_iconst dX9_move_14 (by decide), ?_⟩
  refine List.forall_mem_cons.mpr ⟨zs_callV (ci := 9) (rm := zR_X9_fail) (n := 1) rfl zM_X9_fail gX9_move_X9_fail rfl (by decide +kernel) ⟨by decide, by decide⟩ dX9_move_15, ?_⟩
  refine List.forall_mem_cons.mpr ⟨zs_reti (ty := .int) rfl (fun x h => (zni x h).1) dX9_move_18, ?_⟩
  refine List.forall_mem_cons.mpr ⟨zs_aload_n dX9_move_19 rfl, ?_⟩
  refine List.forall_mem_cons.mpr ⟨zs_aload_n dX9_move_20 rfl, ?_⟩
  refine List.forall_mem_cons.mpr ⟨zs_iload_n dX9_move_21 rfl, ?_⟩
  refine List.forall_mem_cons.mpr ⟨zs_iconst dX9_move_22 (by decide), ?_⟩
  refine List.forall_mem_cons.mpr ⟨zs_callV (ci := 9) (rm := zR_X9_get) (n := 2) rfl zM_X9_get gX9_move_X9_get rfl (by decide +kernel) ⟨by decide, by decide⟩ dX9_move_23, ?_⟩
  refine List.forall_mem_cons.mpr ⟨zs_ifne dX9_move_26 (by decide), ?_⟩
  refine List.forall_mem_cons.mpr ⟨zs_iconst dX9_move_29 (by decide), ?_⟩
  refine List.forall_mem_cons.mpr ⟨zs_goto dX9_move_30 (by decide), ?_⟩
  refine List.forall_mem_cons.mpr ⟨zs_iconst dX9_move_33 (by decide), ?_⟩
  refine List.forall_mem_cons.mpr ⟨zs_iload_n dX9_move_34 rfl, ?_⟩
  refine List.forall_mem_cons.mpr ⟨zs_iload_n dX9_move_35 rfl, ?_⟩
  refine List.forall_mem_cons.mpr ⟨zs_callV (ci := 9) (rm := zR_X9_isPlace) (n := 3) rfl zM_X9_isPlace gX9_move_X9_isPlace rfl (by decide +kernel) ⟨by decide, by decide⟩ dX9_move_36, ?_⟩
  refine List.forall_mem_cons.mpr ⟨zs_ifne dX9_move_39 (by decide), ?_⟩
  refine List.forall_mem_cons.mpr ⟨zs_aload_n dX9_move_42 rfl, ?_⟩
  refine List.forall_mem_cons.mpr ⟨zs_iconst dX9_move_43 (by decide), ?_⟩
  refine List.forall_mem_cons.mpr ⟨zs_callV (ci := 9) (rm := zR_X9_fail) (n := 1) rfl zM_X9_fail gX9_move_X9_fail rfl (by decide +kernel) ⟨by decide, by decide⟩ dX9_move_44, ?_⟩
  refine List.forall_mem_cons.mpr ⟨zs_reti (ty := .int) rfl (fun x h => (zni x h).1) dX9_move_47, ?_⟩
  refine List.forall_mem_cons.mpr ⟨zs_aload_n dX9_move_48 rfl, ?_⟩
  refine List.forall_mem_cons.mpr ⟨zs_iload_n dX9_move_49 rfl, ?_⟩
  refine List.forall_mem_cons.mpr ⟨zs_iconst dX9_move_50 (by decide), ?_⟩
  refine List.forall_mem_cons.mpr ⟨zs_callV (ci := 9) (rm := zR_X9_get) (n := 2) rfl zM_X9_get gX9_move_X9_get rfl (by decide +kernel) ⟨by decide, by decide⟩ dX9_move_51, ?_⟩
  refine List.forall_mem_cons.mpr ⟨zs_iconst dX9_move_54 (by decide), ?_⟩
  refine List.forall_mem_cons.mpr ⟨zs_icle dX9_move_55 (by decide), ?_⟩
  refine List.forall_mem_cons.mpr ⟨zs_aload_n dX9_move_58 rfl, ?_⟩
  refine List.forall_mem_cons.mpr ⟨zs_iconst dX9_move_59 (by decide), ?_⟩
  refine List.forall_mem_cons.mpr ⟨zs_callV (ci := 9) (rm := zR_X9_fail) (n := 1) rfl zM_X9_fail gX9_move_X9_fail rfl (by decide +kernel) ⟨by decide, by decide⟩ dX9_move_60, ?_⟩
  refine List.forall_mem_cons.mpr ⟨zs_reti (ty := .int) rfl (fun x h => (zni x h).1) dX9_move_63, ?_⟩
  refine List.forall_mem_cons.mpr ⟨zs_aload_n dX9_move_64 rfl, ?_⟩
  refine List.forall_mem_cons.mpr ⟨zs_iload_n dX9_move_65 rfl, ?_⟩
  refine List.forall_mem_cons.mpr ⟨zs_iload_n dX9_move_66 rfl, ?_⟩
  refine List.forall_mem_cons.mpr ⟨zs_iload_n dX9_move_67 rfl, ?_⟩
  refine List.forall_mem_cons.mpr ⟨zs_callV (ci := 9) (rm := zR_X9_place) (n := 3) rfl zM_X9_place gX9_move_X9_place rfl (by decide +kernel) ⟨by decide, by decide⟩ dX9_move_68, ?_⟩
  refine List.forall_mem_cons.mpr ⟨zs_aload_n dX9_move_71 rfl, ?_⟩
  refine List.forall_mem_cons.mpr ⟨zs_iconst dX9_move_72 (by decide), ?_⟩
  refine List.forall_mem_cons.mpr ⟨zs_callV (ci := 9) (rm := zR_X9_counted) (n := 1) rfl zM_X9_counted gX9_move_X9_counted rfl (by decide +kernel) ⟨by decide, by decide⟩ dX9_move_73, ?_⟩
  refine List.forall_mem_cons.mpr ⟨zs_reti (ty := .int) rfl (fun x h => (zni x h).1) dX9_move_76, ?_⟩
  exact fun _ h => absurd h List.not_mem_nil
theorem zM_X9_move : zMeets zEM yX9_move wsX9_move zR_X9_move m_X9_move := zmeth_M zEMok (zlook_all (zcs_X9_move rfl)) (by decide +kernel) rfl
theorem zr_X9_move_0 (a1 a2 a3 : Option zAV) (st : List zAV) (s : zAS) (k : Nat × Nat) (o : Nat × Nat) : zev zk_X9_move (0, [some (Sum.inr o), a1, a2, a3], st, s, k) = zev zk_X9_move (1, [some (Sum.inr o), a1, a2, a3], Sum.inr o :: st, s, k) := zev_go rfl rfl
theorem zr_X9_move_1 (ls : zLs) (st : List zAV) (s : zAS) (k : Nat × Nat) : zev zk_X9_move (1, ls, st, s, k) = zev zk_X9_move (2, ls, Sum.inl (Value.int (0)) :: st, s, k) := zev_go rfl rfl
theorem zr_X9_move_2 (ls : zLs) (st : List zAV) (s : zAS) (k : Nat × Nat) (o i : Nat) (x : Int32) (h : zpok zEM 9 0 false o i x) : zev zk_X9_move (2, ls, Sum.inl (Value.int x) :: Sum.inr (o, i) :: st, s, k) = zev zk_X9_move (5, ls, st, (zup s.1 o i 0 x, s.2), k) := zf_put rfl h
theorem zr_X9_move_5 (a1 a2 a3 : Option zAV) (st : List zAV) (s : zAS) (k : Nat × Nat) (o : Nat × Nat) : zev zk_X9_move (5, [some (Sum.inr o), a1, a2, a3], st, s, k) = zev zk_X9_move (6, [some (Sum.inr o), a1, a2, a3], Sum.inr o :: st, s, k) := zev_go rfl rfl
theorem zr_X9_move_6 (a0 a2 a3 : Option zAV) (st : List zAV) (s : zAS) (k : Nat × Nat) (x : Int32) : zev zk_X9_move (6, [a0, some (Sum.inl (Value.int x)), a2, a3], st, s, k) = zev zk_X9_move (7, [a0, some (Sum.inl (Value.int x)), a2, a3], Sum.inl (Value.int x) :: st, s, k) := zev_go rfl rfl
theorem zr_X9_move_7 (ls : zLs) (st : List zAV) (s : zAS) (k : Nat × Nat) (r v0 : zAV) (h : zcok zEM 9 0 0 (zR_X9_move).cells (zR_X9_move).slots r st k) : zev zk_X9_move (7, ls, v0 :: r :: st, s, k) = zret zk_X9_move 10 ls st (k.1 + 0, k.2 + 0) (m_X9_isObject [r, v0] s) := zf_callV (as := [v0]) 1 rfl rfl h
theorem zr_X9_move_10 (ls : zLs) (st : List zAV) (s : zAS) (k : Nat × Nat) (x : Int32) : zev zk_X9_move (10, ls, Sum.inl (Value.int x) :: st, s, k) = if decide (¬ x = 0) = true then zev zk_X9_move (19, ls, st, s, k) else zev zk_X9_move (13, ls, st, s, k) := zf_if (f := fun x => decide (¬ x = 0)) rfl
theorem zr_X9_move_13 (a1 a2 a3 : Option zAV) (st : List zAV) (s : zAS) (k : Nat × Nat) (o : Nat × Nat) : zev zk_X9_move (13, [some (Sum.inr o), a1, a2, a3], st, s, k) = zev zk_X9_move (14, [some (Sum.inr o), a1, a2, a3], Sum.inr o :: st, s, k) := zev_go rfl rfl
theorem zr_X9_move_14 (ls : zLs) (st : List zAV) (s : zAS) (k : Nat × Nat) : zev zk_X9_move (14, ls, st, s, k) = zev zk_X9_move (15, ls, Sum.inl (Value.int (1)) :: st, s, k) := zev_go rfl rfl
theorem zr_X9_move_15 (ls : zLs) (st : List zAV) (s : zAS) (k : Nat × Nat) (r v0 : zAV) (h : zcok zEM 9 0 0 (zR_X9_move).cells (zR_X9_move).slots r st k) : zev zk_X9_move (15, ls, v0 :: r :: st, s, k) = zret zk_X9_move 18 ls st (k.1 + 0, k.2 + 0) (m_X9_fail [r, v0] s) := zf_callV (as := [v0]) 1 rfl rfl h
theorem zr_X9_move_18 (ls : zLs) (s : zAS) (k : Nat × Nat) (x : Int32) : zev zk_X9_move (18, ls, [Sum.inl (Value.int x)], s, k) = some (.inl (some (Sum.inl (Value.int x))), s) := zf_reti rfl
theorem zr_X9_move_19 (a1 a2 a3 : Option zAV) (st : List zAV) (s : zAS) (k : Nat × Nat) (o : Nat × Nat) : zev zk_X9_move (19, [some (Sum.inr o), a1, a2, a3], st, s, k) = zev zk_X9_move (20, [some (Sum.inr o), a1, a2, a3], Sum.inr o :: st, s, k) := zev_go rfl rfl
theorem zr_X9_move_20 (a1 a2 a3 : Option zAV) (st : List zAV) (s : zAS) (k : Nat × Nat) (o : Nat × Nat) : zev zk_X9_move (20, [some (Sum.inr o), a1, a2, a3], st, s, k) = zev zk_X9_move (21, [some (Sum.inr o), a1, a2, a3], Sum.inr o :: st, s, k) := zev_go rfl rfl
theorem zr_X9_move_21 (a0 a2 a3 : Option zAV) (st : List zAV) (s : zAS) (k : Nat × Nat) (x : Int32) : zev zk_X9_move (21, [a0, some (Sum.inl (Value.int x)), a2, a3], st, s, k) = zev zk_X9_move (22, [a0, some (Sum.inl (Value.int x)), a2, a3], Sum.inl (Value.int x) :: st, s, k) := zev_go rfl rfl
theorem zr_X9_move_22 (ls : zLs) (st : List zAV) (s : zAS) (k : Nat × Nat) : zev zk_X9_move (22, ls, st, s, k) = zev zk_X9_move (23, ls, Sum.inl (Value.int (1)) :: st, s, k) := zev_go rfl rfl
theorem zr_X9_move_23 (ls : zLs) (st : List zAV) (s : zAS) (k : Nat × Nat) (r v0 v1 : zAV) (h : zcok zEM 9 0 0 (zR_X9_move).cells (zR_X9_move).slots r st k) : zev zk_X9_move (23, ls, v1 :: v0 :: r :: st, s, k) = zret zk_X9_move 26 ls st (k.1 + 0, k.2 + 0) (m_X9_get [r, v0, v1] s) := zf_callV (as := [v1, v0]) 2 rfl rfl h
theorem zr_X9_move_26 (ls : zLs) (st : List zAV) (s : zAS) (k : Nat × Nat) (x : Int32) : zev zk_X9_move (26, ls, Sum.inl (Value.int x) :: st, s, k) = if decide (¬ x = 0) = true then zev zk_X9_move (33, ls, st, s, k) else zev zk_X9_move (29, ls, st, s, k) := zf_if (f := fun x => decide (¬ x = 0)) rfl
theorem zr_X9_move_29 (ls : zLs) (st : List zAV) (s : zAS) (k : Nat × Nat) : zev zk_X9_move (29, ls, st, s, k) = zev zk_X9_move (30, ls, Sum.inl (Value.int (1)) :: st, s, k) := zev_go rfl rfl
theorem zr_X9_move_30 (ls : zLs) (st : List zAV) (s : zAS) (k : Nat × Nat) : zev zk_X9_move (30, ls, st, s, k) = zev zk_X9_move (34, ls, st, s, k) := zev_go rfl rfl
theorem zr_X9_move_33 (ls : zLs) (st : List zAV) (s : zAS) (k : Nat × Nat) : zev zk_X9_move (33, ls, st, s, k) = zev zk_X9_move (34, ls, Sum.inl (Value.int (0)) :: st, s, k) := zev_go rfl rfl
theorem zr_X9_move_34 (a0 a1 a3 : Option zAV) (st : List zAV) (s : zAS) (k : Nat × Nat) (x : Int32) : zev zk_X9_move (34, [a0, a1, some (Sum.inl (Value.int x)), a3], st, s, k) = zev zk_X9_move (35, [a0, a1, some (Sum.inl (Value.int x)), a3], Sum.inl (Value.int x) :: st, s, k) := zev_go rfl rfl
theorem zr_X9_move_35 (a0 a1 a2 : Option zAV) (st : List zAV) (s : zAS) (k : Nat × Nat) (x : Int32) : zev zk_X9_move (35, [a0, a1, a2, some (Sum.inl (Value.int x))], st, s, k) = zev zk_X9_move (36, [a0, a1, a2, some (Sum.inl (Value.int x))], Sum.inl (Value.int x) :: st, s, k) := zev_go rfl rfl
theorem zr_X9_move_36 (ls : zLs) (st : List zAV) (s : zAS) (k : Nat × Nat) (r v0 v1 v2 : zAV) (h : zcok zEM 9 0 0 (zR_X9_move).cells (zR_X9_move).slots r st k) : zev zk_X9_move (36, ls, v2 :: v1 :: v0 :: r :: st, s, k) = zret zk_X9_move 39 ls st (k.1 + 0, k.2 + 0) (m_X9_isPlace [r, v0, v1, v2] s) := zf_callV (as := [v2, v1, v0]) 3 rfl rfl h
theorem zr_X9_move_39 (ls : zLs) (st : List zAV) (s : zAS) (k : Nat × Nat) (x : Int32) : zev zk_X9_move (39, ls, Sum.inl (Value.int x) :: st, s, k) = if decide (¬ x = 0) = true then zev zk_X9_move (48, ls, st, s, k) else zev zk_X9_move (42, ls, st, s, k) := zf_if (f := fun x => decide (¬ x = 0)) rfl
theorem zr_X9_move_42 (a1 a2 a3 : Option zAV) (st : List zAV) (s : zAS) (k : Nat × Nat) (o : Nat × Nat) : zev zk_X9_move (42, [some (Sum.inr o), a1, a2, a3], st, s, k) = zev zk_X9_move (43, [some (Sum.inr o), a1, a2, a3], Sum.inr o :: st, s, k) := zev_go rfl rfl
theorem zr_X9_move_43 (ls : zLs) (st : List zAV) (s : zAS) (k : Nat × Nat) : zev zk_X9_move (43, ls, st, s, k) = zev zk_X9_move (44, ls, Sum.inl (Value.int (2)) :: st, s, k) := zev_go rfl rfl
theorem zr_X9_move_44 (ls : zLs) (st : List zAV) (s : zAS) (k : Nat × Nat) (r v0 : zAV) (h : zcok zEM 9 0 0 (zR_X9_move).cells (zR_X9_move).slots r st k) : zev zk_X9_move (44, ls, v0 :: r :: st, s, k) = zret zk_X9_move 47 ls st (k.1 + 0, k.2 + 0) (m_X9_fail [r, v0] s) := zf_callV (as := [v0]) 1 rfl rfl h
theorem zr_X9_move_47 (ls : zLs) (s : zAS) (k : Nat × Nat) (x : Int32) : zev zk_X9_move (47, ls, [Sum.inl (Value.int x)], s, k) = some (.inl (some (Sum.inl (Value.int x))), s) := zf_reti rfl
theorem zr_X9_move_48 (a1 a2 a3 : Option zAV) (st : List zAV) (s : zAS) (k : Nat × Nat) (o : Nat × Nat) : zev zk_X9_move (48, [some (Sum.inr o), a1, a2, a3], st, s, k) = zev zk_X9_move (49, [some (Sum.inr o), a1, a2, a3], Sum.inr o :: st, s, k) := zev_go rfl rfl
theorem zr_X9_move_49 (a0 a2 a3 : Option zAV) (st : List zAV) (s : zAS) (k : Nat × Nat) (x : Int32) : zev zk_X9_move (49, [a0, some (Sum.inl (Value.int x)), a2, a3], st, s, k) = zev zk_X9_move (50, [a0, some (Sum.inl (Value.int x)), a2, a3], Sum.inl (Value.int x) :: st, s, k) := zev_go rfl rfl
theorem zr_X9_move_50 (ls : zLs) (st : List zAV) (s : zAS) (k : Nat × Nat) : zev zk_X9_move (50, ls, st, s, k) = zev zk_X9_move (51, ls, Sum.inl (Value.int (1)) :: st, s, k) := zev_go rfl rfl
theorem zr_X9_move_51 (ls : zLs) (st : List zAV) (s : zAS) (k : Nat × Nat) (r v0 v1 : zAV) (h : zcok zEM 9 0 0 (zR_X9_move).cells (zR_X9_move).slots r st k) : zev zk_X9_move (51, ls, v1 :: v0 :: r :: st, s, k) = zret zk_X9_move 54 ls st (k.1 + 0, k.2 + 0) (m_X9_get [r, v0, v1] s) := zf_callV (as := [v1, v0]) 2 rfl rfl h
theorem zr_X9_move_54 (ls : zLs) (st : List zAV) (s : zAS) (k : Nat × Nat) : zev zk_X9_move (54, ls, st, s, k) = zev zk_X9_move (55, ls, Sum.inl (Value.int (1)) :: st, s, k) := zev_go rfl rfl
theorem zr_X9_move_55 (ls : zLs) (st : List zAV) (s : zAS) (k : Nat × Nat) (x y : Int32) : zev zk_X9_move (55, ls, Sum.inl (Value.int y) :: Sum.inl (Value.int x) :: st, s, k) = if decide (x ≤ y) = true then zev zk_X9_move (64, ls, st, s, k) else zev zk_X9_move (58, ls, st, s, k) := zf_cmp (f := fun x y => decide (x ≤ y)) rfl
theorem zr_X9_move_58 (a1 a2 a3 : Option zAV) (st : List zAV) (s : zAS) (k : Nat × Nat) (o : Nat × Nat) : zev zk_X9_move (58, [some (Sum.inr o), a1, a2, a3], st, s, k) = zev zk_X9_move (59, [some (Sum.inr o), a1, a2, a3], Sum.inr o :: st, s, k) := zev_go rfl rfl
theorem zr_X9_move_59 (ls : zLs) (st : List zAV) (s : zAS) (k : Nat × Nat) : zev zk_X9_move (59, ls, st, s, k) = zev zk_X9_move (60, ls, Sum.inl (Value.int (3)) :: st, s, k) := zev_go rfl rfl
theorem zr_X9_move_60 (ls : zLs) (st : List zAV) (s : zAS) (k : Nat × Nat) (r v0 : zAV) (h : zcok zEM 9 0 0 (zR_X9_move).cells (zR_X9_move).slots r st k) : zev zk_X9_move (60, ls, v0 :: r :: st, s, k) = zret zk_X9_move 63 ls st (k.1 + 0, k.2 + 0) (m_X9_fail [r, v0] s) := zf_callV (as := [v0]) 1 rfl rfl h
theorem zr_X9_move_63 (ls : zLs) (s : zAS) (k : Nat × Nat) (x : Int32) : zev zk_X9_move (63, ls, [Sum.inl (Value.int x)], s, k) = some (.inl (some (Sum.inl (Value.int x))), s) := zf_reti rfl
theorem zr_X9_move_64 (a1 a2 a3 : Option zAV) (st : List zAV) (s : zAS) (k : Nat × Nat) (o : Nat × Nat) : zev zk_X9_move (64, [some (Sum.inr o), a1, a2, a3], st, s, k) = zev zk_X9_move (65, [some (Sum.inr o), a1, a2, a3], Sum.inr o :: st, s, k) := zev_go rfl rfl
theorem zr_X9_move_65 (a0 a2 a3 : Option zAV) (st : List zAV) (s : zAS) (k : Nat × Nat) (x : Int32) : zev zk_X9_move (65, [a0, some (Sum.inl (Value.int x)), a2, a3], st, s, k) = zev zk_X9_move (66, [a0, some (Sum.inl (Value.int x)), a2, a3], Sum.inl (Value.int x) :: st, s, k) := zev_go rfl rfl
theorem zr_X9_move_66 (a0 a1 a3 : Option zAV) (st : List zAV) (s : zAS) (k : Nat × Nat) (x : Int32) : zev zk_X9_move (66, [a0, a1, some (Sum.inl (Value.int x)), a3], st, s, k) = zev zk_X9_move (67, [a0, a1, some (Sum.inl (Value.int x)), a3], Sum.inl (Value.int x) :: st, s, k) := zev_go rfl rfl
theorem zr_X9_move_67 (a0 a1 a2 : Option zAV) (st : List zAV) (s : zAS) (k : Nat × Nat) (x : Int32) : zev zk_X9_move (67, [a0, a1, a2, some (Sum.inl (Value.int x))], st, s, k) = zev zk_X9_move (68, [a0, a1, a2, some (Sum.inl (Value.int x))], Sum.inl (Value.int x) :: st, s, k) := zev_go rfl rfl
theorem zr_X9_move_68 (ls : zLs) (st : List zAV) (s : zAS) (k : Nat × Nat) (r v0 v1 v2 : zAV) (h : zcok zEM 9 0 0 (zR_X9_move).cells (zR_X9_move).slots r st k) : zev zk_X9_move (68, ls, v2 :: v1 :: v0 :: r :: st, s, k) = zret zk_X9_move 71 ls st (k.1 + 0, k.2 + 0) (m_X9_place [r, v0, v1, v2] s) := zf_callV (as := [v2, v1, v0]) 3 rfl rfl h
theorem zr_X9_move_71 (a1 a2 a3 : Option zAV) (st : List zAV) (s : zAS) (k : Nat × Nat) (o : Nat × Nat) : zev zk_X9_move (71, [some (Sum.inr o), a1, a2, a3], st, s, k) = zev zk_X9_move (72, [some (Sum.inr o), a1, a2, a3], Sum.inr o :: st, s, k) := zev_go rfl rfl
theorem zr_X9_move_72 (ls : zLs) (st : List zAV) (s : zAS) (k : Nat × Nat) : zev zk_X9_move (72, ls, st, s, k) = zev zk_X9_move (73, ls, Sum.inl (Value.int (4)) :: st, s, k) := zev_go rfl rfl
theorem zr_X9_move_73 (ls : zLs) (st : List zAV) (s : zAS) (k : Nat × Nat) (r v0 : zAV) (h : zcok zEM 9 0 0 (zR_X9_move).cells (zR_X9_move).slots r st k) : zev zk_X9_move (73, ls, v0 :: r :: st, s, k) = zret zk_X9_move 76 ls st (k.1 + 0, k.2 + 0) (m_X9_counted [r, v0] s) := zf_callV (as := [v0]) 1 rfl rfl h
theorem zr_X9_move_76 (ls : zLs) (s : zAS) (k : Nat × Nat) (x : Int32) : zev zk_X9_move (76, ls, [Sum.inl (Value.int x)], s, k) = some (.inl (some (Sum.inl (Value.int x))), s) := zf_reti rfl
/-! X9_objectTold: PrimePlaneModel.objectTold(II)I -/
abbrev zR_X9_objectTold : Room := ({ frames := 1, cells := 0, slots := 0, locals := 22 } : Room)
noncomputable def zl_X9_objectTold : List (Nat × zOp) := [(0, z_ldi 2 1), (1, z_ic (5) 2), (2, z_cmp (fun x y => decide (y ≤ x)) 14 5), (5, z_lda 0 6), (6, z_ldi 1 7), (7, z_ldi 2 8), (8, z_callV zEM 9 m_X9_get 2 0 0 (zR_X9_objectTold).cells (zR_X9_objectTold).slots 11), (11, z_goto 21), (14, z_lda 0 15), (15, z_ldi 1 16), (16, z_ic (7) 18), (18, z_callV zEM 9 m_X9_get 2 0 0 (zR_X9_objectTold).cells (zR_X9_objectTold).slots 21), (21, z_reti false)]
noncomputable def zk_X9_objectTold (pc : Nat) : Option zOp := zlook zl_X9_objectTold pc
noncomputable def m_X9_objectTold : List zAV → zAS → Option zOut := zmeth zk_X9_objectTold 3
set_option maxRecDepth 100000 in
set_option maxHeartbeats 4000000 in
theorem zcs_X9_objectTold {R : Room} (hR : R = zR_X9_objectTold) : ∀ q ∈ zl_X9_objectTold, zS zEM yX9_objectTold.cls cX9_objectTold 3 wsX9_objectTold (some .int) R q.1 q.2 := by
  subst hR
  refine List.forall_mem_cons.mpr ⟨zs_iload_n dX9_objectTold_0 rfl, ?_⟩
  refine List.forall_mem_cons.mpr ⟨zs_iconst dX9_objectTold_1 (by decide), ?_⟩
  refine List.forall_mem_cons.mpr ⟨zs_icge dX9_objectTold_2 (by decide), ?_⟩
  refine List.forall_mem_cons.mpr ⟨zs_aload_n dX9_objectTold_5 rfl, ?_⟩
  refine List.forall_mem_cons.mpr ⟨zs_iload_n dX9_objectTold_6 rfl, ?_⟩
  refine List.forall_mem_cons.mpr ⟨zs_iload_n dX9_objectTold_7 rfl, ?_⟩
  refine List.forall_mem_cons.mpr ⟨zs_callV (ci := 9) (rm := zR_X9_get) (n := 2) rfl zM_X9_get gX9_objectTold_X9_get rfl (by decide +kernel) ⟨by decide, by decide⟩ dX9_objectTold_8, ?_⟩
  refine List.forall_mem_cons.mpr ⟨zs_goto dX9_objectTold_11 (by decide), ?_⟩
  refine List.forall_mem_cons.mpr ⟨zs_aload_n dX9_objectTold_14 rfl, ?_⟩
  refine List.forall_mem_cons.mpr ⟨zs_iload_n dX9_objectTold_15 rfl, ?_⟩
  refine List.forall_mem_cons.mpr ⟨zs_bipush dX9_objectTold_16 (by decide), ?_⟩
  refine List.forall_mem_cons.mpr ⟨zs_callV (ci := 9) (rm := zR_X9_get) (n := 2) rfl zM_X9_get gX9_objectTold_X9_get rfl (by decide +kernel) ⟨by decide, by decide⟩ dX9_objectTold_18, ?_⟩
  refine List.forall_mem_cons.mpr ⟨zs_reti (ty := .int) rfl (fun x h => (zni x h).1) dX9_objectTold_21, ?_⟩
  exact fun _ h => absurd h List.not_mem_nil
theorem zM_X9_objectTold : zMeets zEM yX9_objectTold wsX9_objectTold zR_X9_objectTold m_X9_objectTold := zmeth_M zEMok (zlook_all (zcs_X9_objectTold rfl)) (by decide +kernel) rfl
theorem zr_X9_objectTold_0 (a0 a1 : Option zAV) (st : List zAV) (s : zAS) (k : Nat × Nat) (x : Int32) : zev zk_X9_objectTold (0, [a0, a1, some (Sum.inl (Value.int x))], st, s, k) = zev zk_X9_objectTold (1, [a0, a1, some (Sum.inl (Value.int x))], Sum.inl (Value.int x) :: st, s, k) := zev_go rfl rfl
theorem zr_X9_objectTold_1 (ls : zLs) (st : List zAV) (s : zAS) (k : Nat × Nat) : zev zk_X9_objectTold (1, ls, st, s, k) = zev zk_X9_objectTold (2, ls, Sum.inl (Value.int (5)) :: st, s, k) := zev_go rfl rfl
theorem zr_X9_objectTold_2 (ls : zLs) (st : List zAV) (s : zAS) (k : Nat × Nat) (x y : Int32) : zev zk_X9_objectTold (2, ls, Sum.inl (Value.int y) :: Sum.inl (Value.int x) :: st, s, k) = if decide (y ≤ x) = true then zev zk_X9_objectTold (14, ls, st, s, k) else zev zk_X9_objectTold (5, ls, st, s, k) := zf_cmp (f := fun x y => decide (y ≤ x)) rfl
theorem zr_X9_objectTold_5 (a1 a2 : Option zAV) (st : List zAV) (s : zAS) (k : Nat × Nat) (o : Nat × Nat) : zev zk_X9_objectTold (5, [some (Sum.inr o), a1, a2], st, s, k) = zev zk_X9_objectTold (6, [some (Sum.inr o), a1, a2], Sum.inr o :: st, s, k) := zev_go rfl rfl
theorem zr_X9_objectTold_6 (a0 a2 : Option zAV) (st : List zAV) (s : zAS) (k : Nat × Nat) (x : Int32) : zev zk_X9_objectTold (6, [a0, some (Sum.inl (Value.int x)), a2], st, s, k) = zev zk_X9_objectTold (7, [a0, some (Sum.inl (Value.int x)), a2], Sum.inl (Value.int x) :: st, s, k) := zev_go rfl rfl
theorem zr_X9_objectTold_7 (a0 a1 : Option zAV) (st : List zAV) (s : zAS) (k : Nat × Nat) (x : Int32) : zev zk_X9_objectTold (7, [a0, a1, some (Sum.inl (Value.int x))], st, s, k) = zev zk_X9_objectTold (8, [a0, a1, some (Sum.inl (Value.int x))], Sum.inl (Value.int x) :: st, s, k) := zev_go rfl rfl
theorem zr_X9_objectTold_8 (ls : zLs) (st : List zAV) (s : zAS) (k : Nat × Nat) (r v0 v1 : zAV) (h : zcok zEM 9 0 0 (zR_X9_objectTold).cells (zR_X9_objectTold).slots r st k) : zev zk_X9_objectTold (8, ls, v1 :: v0 :: r :: st, s, k) = zret zk_X9_objectTold 11 ls st (k.1 + 0, k.2 + 0) (m_X9_get [r, v0, v1] s) := zf_callV (as := [v1, v0]) 2 rfl rfl h
theorem zr_X9_objectTold_11 (ls : zLs) (st : List zAV) (s : zAS) (k : Nat × Nat) : zev zk_X9_objectTold (11, ls, st, s, k) = zev zk_X9_objectTold (21, ls, st, s, k) := zev_go rfl rfl
theorem zr_X9_objectTold_14 (a1 a2 : Option zAV) (st : List zAV) (s : zAS) (k : Nat × Nat) (o : Nat × Nat) : zev zk_X9_objectTold (14, [some (Sum.inr o), a1, a2], st, s, k) = zev zk_X9_objectTold (15, [some (Sum.inr o), a1, a2], Sum.inr o :: st, s, k) := zev_go rfl rfl
theorem zr_X9_objectTold_15 (a0 a2 : Option zAV) (st : List zAV) (s : zAS) (k : Nat × Nat) (x : Int32) : zev zk_X9_objectTold (15, [a0, some (Sum.inl (Value.int x)), a2], st, s, k) = zev zk_X9_objectTold (16, [a0, some (Sum.inl (Value.int x)), a2], Sum.inl (Value.int x) :: st, s, k) := zev_go rfl rfl
theorem zr_X9_objectTold_16 (ls : zLs) (st : List zAV) (s : zAS) (k : Nat × Nat) : zev zk_X9_objectTold (16, ls, st, s, k) = zev zk_X9_objectTold (18, ls, Sum.inl (Value.int (7)) :: st, s, k) := zev_go rfl rfl
theorem zr_X9_objectTold_18 (ls : zLs) (st : List zAV) (s : zAS) (k : Nat × Nat) (r v0 v1 : zAV) (h : zcok zEM 9 0 0 (zR_X9_objectTold).cells (zR_X9_objectTold).slots r st k) : zev zk_X9_objectTold (18, ls, v1 :: v0 :: r :: st, s, k) = zret zk_X9_objectTold 21 ls st (k.1 + 0, k.2 + 0) (m_X9_get [r, v0, v1] s) := zf_callV (as := [v1, v0]) 2 rfl rfl h
theorem zr_X9_objectTold_21 (ls : zLs) (s : zAS) (k : Nat × Nat) (x : Int32) : zev zk_X9_objectTold (21, ls, [Sum.inl (Value.int x)], s, k) = some (.inl (some (Sum.inl (Value.int x))), s) := zf_reti rfl
/-! X9_object: PrimePlaneModel.object(II)I -/
abbrev zR_X9_object : Room := ({ frames := 2, cells := 0, slots := 0, locals := 44 } : Room)
noncomputable def zl_X9_object : List (Nat × zOp) := [(0, z_lda 0 1), (1, z_ic (0) 2), (2, z_put zEM 9 0 false 5), (5, z_lda 0 6), (6, z_ldi 1 7), (7, z_callV zEM 9 m_X9_isObject 1 0 0 (zR_X9_object).cells (zR_X9_object).slots 10), (10, z_if (fun x => decide (x = 0)) 31 13), (13, z_ldi 2 14), (14, z_ic (0) 15), (15, z_ic (5) 16), (16, z_callS m_X9_isIn 3 0 0 (zR_X9_object).cells (zR_X9_object).slots 19), (19, z_if (fun x => decide (x = 0)) 31 22), (22, z_lda 0 23), (23, z_ldi 1 24), (24, z_ldi 2 25), (25, z_callV zEM 9 m_X9_objectTold 2 0 0 (zR_X9_object).cells (zR_X9_object).slots 28), (28, z_goto 36), (31, z_lda 0 32), (32, z_ic (1) 33), (33, z_callV zEM 9 m_X9_fail 1 0 0 (zR_X9_object).cells (zR_X9_object).slots 36), (36, z_reti false)]
noncomputable def zk_X9_object (pc : Nat) : Option zOp := zlook zl_X9_object pc
noncomputable def m_X9_object : List zAV → zAS → Option zOut := zmeth zk_X9_object 3
set_option maxRecDepth 100000 in
set_option maxHeartbeats 4000000 in
theorem zcs_X9_object {R : Room} (hR : R = zR_X9_object) : ∀ q ∈ zl_X9_object, zS zEM yX9_object.cls cX9_object 3 wsX9_object (some .int) R q.1 q.2 := by
  subst hR
  have hin9 : ∀ w ∈ wsX90, w ∈ wsX9_object := fun w h => List.mem_cons_of_mem _ (List.mem_append_right _ h)
  refine List.forall_mem_cons.mpr ⟨zs_aload_n dX9_object_0 rfl, ?_⟩
  refine List.forall_mem_cons.mpr ⟨zs_iconst dX9_object_1 (by decide), ?_⟩
  refine List.forall_mem_cons.mpr ⟨zs_put (ci := 9) (j := 0) (N := 10) (C := RX9) (T := TX9) (index := 29) (b := false) .int tyX9 rfl (by decide) hin9 tyX9_ok nmX9 (List.mem_of_getElem? (i := 1) rfl) rfl (by decide +kernel) zni dX9_object_2, ?_⟩
  refine List.forall_mem_cons.mpr ⟨zs_aload_n dX9_object_5 rfl, ?_⟩
  refine List.forall_mem_cons.mpr ⟨zs_iload_n dX9_object_6 rfl, ?_⟩
  refine List.forall_mem_cons.mpr ⟨zs_callV (ci := 9) (rm := zR_X9_isObject) (n := 1) rfl zM_X9_isObject gX9_object_X9_isObject rfl (by decide +kernel) ⟨by decide, by decide⟩ dX9_object_7, ?_⟩
  refine List.forall_mem_cons.mpr ⟨zs_ifeq dX9_object_10 (by decide), ?_⟩
  refine List.forall_mem_cons.mpr ⟨zs_iload_n dX9_object_13 rfl, ?_⟩
  refine List.forall_mem_cons.mpr ⟨zs_iconst dX9_object_14 (by decide), ?_⟩
  refine List.forall_mem_cons.mpr ⟨zs_iconst dX9_object_15 (by decide), ?_⟩
  refine List.forall_mem_cons.mpr ⟨zs_callS (rm := zR_X9_isIn) (n := 3) zM_X9_isIn gX9_object_X9_isIn rfl (by decide +kernel) ⟨by decide, by decide⟩ dX9_object_16, ?_⟩
  refine List.forall_mem_cons.mpr ⟨zs_ifeq dX9_object_19 (by decide), ?_⟩
  refine List.forall_mem_cons.mpr ⟨zs_aload_n dX9_object_22 rfl, ?_⟩
  refine List.forall_mem_cons.mpr ⟨zs_iload_n dX9_object_23 rfl, ?_⟩
  refine List.forall_mem_cons.mpr ⟨zs_iload_n dX9_object_24 rfl, ?_⟩
  refine List.forall_mem_cons.mpr ⟨zs_callV (ci := 9) (rm := zR_X9_objectTold) (n := 2) rfl zM_X9_objectTold gX9_object_X9_objectTold rfl (by decide +kernel) ⟨by decide, by decide⟩ dX9_object_25, ?_⟩
  refine List.forall_mem_cons.mpr ⟨zs_goto dX9_object_28 (by decide), ?_⟩
  refine List.forall_mem_cons.mpr ⟨zs_aload_n dX9_object_31 rfl, ?_⟩
  refine List.forall_mem_cons.mpr ⟨zs_iconst dX9_object_32 (by decide), ?_⟩
  refine List.forall_mem_cons.mpr ⟨zs_callV (ci := 9) (rm := zR_X9_fail) (n := 1) rfl zM_X9_fail gX9_object_X9_fail rfl (by decide +kernel) ⟨by decide, by decide⟩ dX9_object_33, ?_⟩
  refine List.forall_mem_cons.mpr ⟨zs_reti (ty := .int) rfl (fun x h => (zni x h).1) dX9_object_36, ?_⟩
  exact fun _ h => absurd h List.not_mem_nil
theorem zM_X9_object : zMeets zEM yX9_object wsX9_object zR_X9_object m_X9_object := zmeth_M zEMok (zlook_all (zcs_X9_object rfl)) (by decide +kernel) rfl
theorem zr_X9_object_0 (a1 a2 : Option zAV) (st : List zAV) (s : zAS) (k : Nat × Nat) (o : Nat × Nat) : zev zk_X9_object (0, [some (Sum.inr o), a1, a2], st, s, k) = zev zk_X9_object (1, [some (Sum.inr o), a1, a2], Sum.inr o :: st, s, k) := zev_go rfl rfl
theorem zr_X9_object_1 (ls : zLs) (st : List zAV) (s : zAS) (k : Nat × Nat) : zev zk_X9_object (1, ls, st, s, k) = zev zk_X9_object (2, ls, Sum.inl (Value.int (0)) :: st, s, k) := zev_go rfl rfl
theorem zr_X9_object_2 (ls : zLs) (st : List zAV) (s : zAS) (k : Nat × Nat) (o i : Nat) (x : Int32) (h : zpok zEM 9 0 false o i x) : zev zk_X9_object (2, ls, Sum.inl (Value.int x) :: Sum.inr (o, i) :: st, s, k) = zev zk_X9_object (5, ls, st, (zup s.1 o i 0 x, s.2), k) := zf_put rfl h
theorem zr_X9_object_5 (a1 a2 : Option zAV) (st : List zAV) (s : zAS) (k : Nat × Nat) (o : Nat × Nat) : zev zk_X9_object (5, [some (Sum.inr o), a1, a2], st, s, k) = zev zk_X9_object (6, [some (Sum.inr o), a1, a2], Sum.inr o :: st, s, k) := zev_go rfl rfl
theorem zr_X9_object_6 (a0 a2 : Option zAV) (st : List zAV) (s : zAS) (k : Nat × Nat) (x : Int32) : zev zk_X9_object (6, [a0, some (Sum.inl (Value.int x)), a2], st, s, k) = zev zk_X9_object (7, [a0, some (Sum.inl (Value.int x)), a2], Sum.inl (Value.int x) :: st, s, k) := zev_go rfl rfl
theorem zr_X9_object_7 (ls : zLs) (st : List zAV) (s : zAS) (k : Nat × Nat) (r v0 : zAV) (h : zcok zEM 9 0 0 (zR_X9_object).cells (zR_X9_object).slots r st k) : zev zk_X9_object (7, ls, v0 :: r :: st, s, k) = zret zk_X9_object 10 ls st (k.1 + 0, k.2 + 0) (m_X9_isObject [r, v0] s) := zf_callV (as := [v0]) 1 rfl rfl h
theorem zr_X9_object_10 (ls : zLs) (st : List zAV) (s : zAS) (k : Nat × Nat) (x : Int32) : zev zk_X9_object (10, ls, Sum.inl (Value.int x) :: st, s, k) = if decide (x = 0) = true then zev zk_X9_object (31, ls, st, s, k) else zev zk_X9_object (13, ls, st, s, k) := zf_if (f := fun x => decide (x = 0)) rfl
theorem zr_X9_object_13 (a0 a1 : Option zAV) (st : List zAV) (s : zAS) (k : Nat × Nat) (x : Int32) : zev zk_X9_object (13, [a0, a1, some (Sum.inl (Value.int x))], st, s, k) = zev zk_X9_object (14, [a0, a1, some (Sum.inl (Value.int x))], Sum.inl (Value.int x) :: st, s, k) := zev_go rfl rfl
theorem zr_X9_object_14 (ls : zLs) (st : List zAV) (s : zAS) (k : Nat × Nat) : zev zk_X9_object (14, ls, st, s, k) = zev zk_X9_object (15, ls, Sum.inl (Value.int (0)) :: st, s, k) := zev_go rfl rfl
theorem zr_X9_object_15 (ls : zLs) (st : List zAV) (s : zAS) (k : Nat × Nat) : zev zk_X9_object (15, ls, st, s, k) = zev zk_X9_object (16, ls, Sum.inl (Value.int (5)) :: st, s, k) := zev_go rfl rfl
theorem zr_X9_object_16 (ls : zLs) (st : List zAV) (s : zAS) (k : Nat × Nat) (v0 v1 v2 : zAV) (h : (st.map zcat).sum ≤ 8 ∧ k.1 + 0 ≤ (zR_X9_object).cells ∧ k.2 + 0 ≤ (zR_X9_object).slots) : zev zk_X9_object (16, ls, v2 :: v1 :: v0 :: st, s, k) = zret zk_X9_object 19 ls st (k.1 + 0, k.2 + 0) (m_X9_isIn [v0, v1, v2] s) := zf_callS (as := [v2, v1, v0]) 3 rfl rfl h
theorem zr_X9_object_19 (ls : zLs) (st : List zAV) (s : zAS) (k : Nat × Nat) (x : Int32) : zev zk_X9_object (19, ls, Sum.inl (Value.int x) :: st, s, k) = if decide (x = 0) = true then zev zk_X9_object (31, ls, st, s, k) else zev zk_X9_object (22, ls, st, s, k) := zf_if (f := fun x => decide (x = 0)) rfl
theorem zr_X9_object_22 (a1 a2 : Option zAV) (st : List zAV) (s : zAS) (k : Nat × Nat) (o : Nat × Nat) : zev zk_X9_object (22, [some (Sum.inr o), a1, a2], st, s, k) = zev zk_X9_object (23, [some (Sum.inr o), a1, a2], Sum.inr o :: st, s, k) := zev_go rfl rfl
theorem zr_X9_object_23 (a0 a2 : Option zAV) (st : List zAV) (s : zAS) (k : Nat × Nat) (x : Int32) : zev zk_X9_object (23, [a0, some (Sum.inl (Value.int x)), a2], st, s, k) = zev zk_X9_object (24, [a0, some (Sum.inl (Value.int x)), a2], Sum.inl (Value.int x) :: st, s, k) := zev_go rfl rfl
theorem zr_X9_object_24 (a0 a1 : Option zAV) (st : List zAV) (s : zAS) (k : Nat × Nat) (x : Int32) : zev zk_X9_object (24, [a0, a1, some (Sum.inl (Value.int x))], st, s, k) = zev zk_X9_object (25, [a0, a1, some (Sum.inl (Value.int x))], Sum.inl (Value.int x) :: st, s, k) := zev_go rfl rfl
theorem zr_X9_object_25 (ls : zLs) (st : List zAV) (s : zAS) (k : Nat × Nat) (r v0 v1 : zAV) (h : zcok zEM 9 0 0 (zR_X9_object).cells (zR_X9_object).slots r st k) : zev zk_X9_object (25, ls, v1 :: v0 :: r :: st, s, k) = zret zk_X9_object 28 ls st (k.1 + 0, k.2 + 0) (m_X9_objectTold [r, v0, v1] s) := zf_callV (as := [v1, v0]) 2 rfl rfl h
theorem zr_X9_object_28 (ls : zLs) (st : List zAV) (s : zAS) (k : Nat × Nat) : zev zk_X9_object (28, ls, st, s, k) = zev zk_X9_object (36, ls, st, s, k) := zev_go rfl rfl
theorem zr_X9_object_31 (a1 a2 : Option zAV) (st : List zAV) (s : zAS) (k : Nat × Nat) (o : Nat × Nat) : zev zk_X9_object (31, [some (Sum.inr o), a1, a2], st, s, k) = zev zk_X9_object (32, [some (Sum.inr o), a1, a2], Sum.inr o :: st, s, k) := zev_go rfl rfl
theorem zr_X9_object_32 (ls : zLs) (st : List zAV) (s : zAS) (k : Nat × Nat) : zev zk_X9_object (32, ls, st, s, k) = zev zk_X9_object (33, ls, Sum.inl (Value.int (1)) :: st, s, k) := zev_go rfl rfl
theorem zr_X9_object_33 (ls : zLs) (st : List zAV) (s : zAS) (k : Nat × Nat) (r v0 : zAV) (h : zcok zEM 9 0 0 (zR_X9_object).cells (zR_X9_object).slots r st k) : zev zk_X9_object (33, ls, v0 :: r :: st, s, k) = zret zk_X9_object 36 ls st (k.1 + 0, k.2 + 0) (m_X9_fail [r, v0] s) := zf_callV (as := [v0]) 1 rfl rfl h
theorem zr_X9_object_36 (ls : zLs) (s : zAS) (k : Nat × Nat) (x : Int32) : zev zk_X9_object (36, ls, [Sum.inl (Value.int x)], s, k) = some (.inl (some (Sum.inl (Value.int x))), s) := zf_reti rfl
/-! X9_number: PrimePlaneModel.number(II)I -/
abbrev zR_X9_number : Room := ({ frames := 2, cells := 0, slots := 0, locals := 43 } : Room)
noncomputable def zl_X9_number : List (Nat × zOp) := [(0, z_lda 0 1), (1, z_ic (0) 2), (2, z_put zEM 9 0 false 5), (5, z_lda 0 6), (6, z_ldi 1 7), (7, z_callV zEM 9 m_X9_isObject 1 0 0 (zR_X9_number).cells (zR_X9_number).slots 10), (10, z_if (fun x => decide (x = 0)) 22 13), (13, z_ldi 2 14), (14, z_ic (0) 15), (15, z_ic (2) 16), (16, z_callS m_X9_isIn 3 0 0 (zR_X9_number).cells (zR_X9_number).slots 19), (19, z_if (fun x => decide (¬ x = 0)) 28 22), (22, z_lda 0 23), (23, z_ic (1) 24), (24, z_callV zEM 9 m_X9_fail 1 0 0 (zR_X9_number).cells (zR_X9_number).slots 27), (27, z_reti false), (28, z_lda 0 29), (29, z_ldi 1 30), (30, z_callV zEM 9 m_X9_lacks 1 0 0 (zR_X9_number).cells (zR_X9_number).slots 33), (33, z_if (fun x => decide (x = 0)) 44 36), (36, z_lda 0 37), (37, z_ic (2) 38), (38, z_callV zEM 9 m_X9_fail 1 0 0 (zR_X9_number).cells (zR_X9_number).slots 41), (41, z_goto 53), (44, z_lda 0 45), (45, z_ldi 1 46), (46, z_ic (8) 48), (48, z_ldi 2 49), (49, z_bin (fun x y => x + y) 50), (50, z_callV zEM 9 m_X9_get 2 0 0 (zR_X9_number).cells (zR_X9_number).slots 53), (53, z_reti false)]
noncomputable def zk_X9_number (pc : Nat) : Option zOp := zlook zl_X9_number pc
noncomputable def m_X9_number : List zAV → zAS → Option zOut := zmeth zk_X9_number 3
set_option maxRecDepth 100000 in
set_option maxHeartbeats 4000000 in
theorem zcs_X9_number {R : Room} (hR : R = zR_X9_number) : ∀ q ∈ zl_X9_number, zS zEM yX9_number.cls cX9_number 3 wsX9_number (some .int) R q.1 q.2 := by
  subst hR
  have hin9 : ∀ w ∈ wsX90, w ∈ wsX9_number := fun w h => List.mem_cons_of_mem _ (List.mem_append_right _ h)
  refine List.forall_mem_cons.mpr ⟨zs_aload_n dX9_number_0 rfl, ?_⟩
  refine List.forall_mem_cons.mpr ⟨zs_iconst dX9_number_1 (by decide), ?_⟩
  refine List.forall_mem_cons.mpr ⟨zs_put (ci := 9) (j := 0) (N := 10) (C := RX9) (T := TX9) (index := 29) (b := false) .int tyX9 rfl (by decide) hin9 tyX9_ok nmX9 (List.mem_of_getElem? (i := 1) rfl) rfl (by decide +kernel) zni dX9_number_2, ?_⟩
  refine List.forall_mem_cons.mpr ⟨zs_aload_n dX9_number_5 rfl, ?_⟩
  refine List.forall_mem_cons.mpr ⟨zs_iload_n dX9_number_6 rfl, ?_⟩
  refine List.forall_mem_cons.mpr ⟨zs_callV (ci := 9) (rm := zR_X9_isObject) (n := 1) rfl zM_X9_isObject gX9_number_X9_isObject rfl (by decide +kernel) ⟨by decide, by decide⟩ dX9_number_7, ?_⟩
  refine List.forall_mem_cons.mpr ⟨zs_ifeq dX9_number_10 (by decide), ?_⟩
  refine List.forall_mem_cons.mpr ⟨zs_iload_n dX9_number_13 rfl, ?_⟩
  refine List.forall_mem_cons.mpr ⟨zs_iconst dX9_number_14 (by decide), ?_⟩
  refine List.forall_mem_cons.mpr ⟨zs_iconst dX9_number_15 (by decide), ?_⟩
  refine List.forall_mem_cons.mpr ⟨zs_callS (rm := zR_X9_isIn) (n := 3) zM_X9_isIn gX9_number_X9_isIn rfl (by decide +kernel) ⟨by decide, by decide⟩ dX9_number_16, ?_⟩
  refine List.forall_mem_cons.mpr ⟨zs_ifne dX9_number_19 (by decide), ?_⟩
  refine List.forall_mem_cons.mpr ⟨zs_aload_n dX9_number_22 rfl, ?_⟩
  refine List.forall_mem_cons.mpr ⟨zs_iconst dX9_number_23 (by decide), ?_⟩
  refine List.forall_mem_cons.mpr ⟨zs_callV (ci := 9) (rm := zR_X9_fail) (n := 1) rfl zM_X9_fail gX9_number_X9_fail rfl (by decide +kernel) ⟨by decide, by decide⟩ dX9_number_24, ?_⟩
  refine List.forall_mem_cons.mpr ⟨zs_reti (ty := .int) rfl (fun x h => (zni x h).1) dX9_number_27, ?_⟩
  refine List.forall_mem_cons.mpr ⟨zs_aload_n dX9_number_28 rfl, ?_⟩
  refine List.forall_mem_cons.mpr ⟨zs_iload_n dX9_number_29 rfl, ?_⟩
  refine List.forall_mem_cons.mpr ⟨zs_callV (ci := 9) (rm := zR_X9_lacks) (n := 1) rfl zM_X9_lacks gX9_number_X9_lacks rfl (by decide +kernel) ⟨by decide, by decide⟩ dX9_number_30, ?_⟩
  refine List.forall_mem_cons.mpr ⟨zs_ifeq dX9_number_33 (by decide), ?_⟩
  refine List.forall_mem_cons.mpr ⟨zs_aload_n dX9_number_36 rfl, ?_⟩
  refine List.forall_mem_cons.mpr ⟨zs_iconst dX9_number_37 (by decide), ?_⟩
  refine List.forall_mem_cons.mpr ⟨zs_callV (ci := 9) (rm := zR_X9_fail) (n := 1) rfl zM_X9_fail gX9_number_X9_fail rfl (by decide +kernel) ⟨by decide, by decide⟩ dX9_number_38, ?_⟩
  refine List.forall_mem_cons.mpr ⟨zs_goto dX9_number_41 (by decide), ?_⟩
  refine List.forall_mem_cons.mpr ⟨zs_aload_n dX9_number_44 rfl, ?_⟩
  refine List.forall_mem_cons.mpr ⟨zs_iload_n dX9_number_45 rfl, ?_⟩
  refine List.forall_mem_cons.mpr ⟨zs_bipush dX9_number_46 (by decide), ?_⟩
  refine List.forall_mem_cons.mpr ⟨zs_iload_n dX9_number_48 rfl, ?_⟩
  refine List.forall_mem_cons.mpr ⟨zs_iadd dX9_number_49, ?_⟩
  refine List.forall_mem_cons.mpr ⟨zs_callV (ci := 9) (rm := zR_X9_get) (n := 2) rfl zM_X9_get gX9_number_X9_get rfl (by decide +kernel) ⟨by decide, by decide⟩ dX9_number_50, ?_⟩
  refine List.forall_mem_cons.mpr ⟨zs_reti (ty := .int) rfl (fun x h => (zni x h).1) dX9_number_53, ?_⟩
  exact fun _ h => absurd h List.not_mem_nil
theorem zM_X9_number : zMeets zEM yX9_number wsX9_number zR_X9_number m_X9_number := zmeth_M zEMok (zlook_all (zcs_X9_number rfl)) (by decide +kernel) rfl
theorem zr_X9_number_0 (a1 a2 : Option zAV) (st : List zAV) (s : zAS) (k : Nat × Nat) (o : Nat × Nat) : zev zk_X9_number (0, [some (Sum.inr o), a1, a2], st, s, k) = zev zk_X9_number (1, [some (Sum.inr o), a1, a2], Sum.inr o :: st, s, k) := zev_go rfl rfl
theorem zr_X9_number_1 (ls : zLs) (st : List zAV) (s : zAS) (k : Nat × Nat) : zev zk_X9_number (1, ls, st, s, k) = zev zk_X9_number (2, ls, Sum.inl (Value.int (0)) :: st, s, k) := zev_go rfl rfl
theorem zr_X9_number_2 (ls : zLs) (st : List zAV) (s : zAS) (k : Nat × Nat) (o i : Nat) (x : Int32) (h : zpok zEM 9 0 false o i x) : zev zk_X9_number (2, ls, Sum.inl (Value.int x) :: Sum.inr (o, i) :: st, s, k) = zev zk_X9_number (5, ls, st, (zup s.1 o i 0 x, s.2), k) := zf_put rfl h
theorem zr_X9_number_5 (a1 a2 : Option zAV) (st : List zAV) (s : zAS) (k : Nat × Nat) (o : Nat × Nat) : zev zk_X9_number (5, [some (Sum.inr o), a1, a2], st, s, k) = zev zk_X9_number (6, [some (Sum.inr o), a1, a2], Sum.inr o :: st, s, k) := zev_go rfl rfl
theorem zr_X9_number_6 (a0 a2 : Option zAV) (st : List zAV) (s : zAS) (k : Nat × Nat) (x : Int32) : zev zk_X9_number (6, [a0, some (Sum.inl (Value.int x)), a2], st, s, k) = zev zk_X9_number (7, [a0, some (Sum.inl (Value.int x)), a2], Sum.inl (Value.int x) :: st, s, k) := zev_go rfl rfl
theorem zr_X9_number_7 (ls : zLs) (st : List zAV) (s : zAS) (k : Nat × Nat) (r v0 : zAV) (h : zcok zEM 9 0 0 (zR_X9_number).cells (zR_X9_number).slots r st k) : zev zk_X9_number (7, ls, v0 :: r :: st, s, k) = zret zk_X9_number 10 ls st (k.1 + 0, k.2 + 0) (m_X9_isObject [r, v0] s) := zf_callV (as := [v0]) 1 rfl rfl h
theorem zr_X9_number_10 (ls : zLs) (st : List zAV) (s : zAS) (k : Nat × Nat) (x : Int32) : zev zk_X9_number (10, ls, Sum.inl (Value.int x) :: st, s, k) = if decide (x = 0) = true then zev zk_X9_number (22, ls, st, s, k) else zev zk_X9_number (13, ls, st, s, k) := zf_if (f := fun x => decide (x = 0)) rfl
theorem zr_X9_number_13 (a0 a1 : Option zAV) (st : List zAV) (s : zAS) (k : Nat × Nat) (x : Int32) : zev zk_X9_number (13, [a0, a1, some (Sum.inl (Value.int x))], st, s, k) = zev zk_X9_number (14, [a0, a1, some (Sum.inl (Value.int x))], Sum.inl (Value.int x) :: st, s, k) := zev_go rfl rfl
theorem zr_X9_number_14 (ls : zLs) (st : List zAV) (s : zAS) (k : Nat × Nat) : zev zk_X9_number (14, ls, st, s, k) = zev zk_X9_number (15, ls, Sum.inl (Value.int (0)) :: st, s, k) := zev_go rfl rfl
theorem zr_X9_number_15 (ls : zLs) (st : List zAV) (s : zAS) (k : Nat × Nat) : zev zk_X9_number (15, ls, st, s, k) = zev zk_X9_number (16, ls, Sum.inl (Value.int (2)) :: st, s, k) := zev_go rfl rfl
theorem zr_X9_number_16 (ls : zLs) (st : List zAV) (s : zAS) (k : Nat × Nat) (v0 v1 v2 : zAV) (h : (st.map zcat).sum ≤ 8 ∧ k.1 + 0 ≤ (zR_X9_number).cells ∧ k.2 + 0 ≤ (zR_X9_number).slots) : zev zk_X9_number (16, ls, v2 :: v1 :: v0 :: st, s, k) = zret zk_X9_number 19 ls st (k.1 + 0, k.2 + 0) (m_X9_isIn [v0, v1, v2] s) := zf_callS (as := [v2, v1, v0]) 3 rfl rfl h
theorem zr_X9_number_19 (ls : zLs) (st : List zAV) (s : zAS) (k : Nat × Nat) (x : Int32) : zev zk_X9_number (19, ls, Sum.inl (Value.int x) :: st, s, k) = if decide (¬ x = 0) = true then zev zk_X9_number (28, ls, st, s, k) else zev zk_X9_number (22, ls, st, s, k) := zf_if (f := fun x => decide (¬ x = 0)) rfl
theorem zr_X9_number_22 (a1 a2 : Option zAV) (st : List zAV) (s : zAS) (k : Nat × Nat) (o : Nat × Nat) : zev zk_X9_number (22, [some (Sum.inr o), a1, a2], st, s, k) = zev zk_X9_number (23, [some (Sum.inr o), a1, a2], Sum.inr o :: st, s, k) := zev_go rfl rfl
theorem zr_X9_number_23 (ls : zLs) (st : List zAV) (s : zAS) (k : Nat × Nat) : zev zk_X9_number (23, ls, st, s, k) = zev zk_X9_number (24, ls, Sum.inl (Value.int (1)) :: st, s, k) := zev_go rfl rfl
theorem zr_X9_number_24 (ls : zLs) (st : List zAV) (s : zAS) (k : Nat × Nat) (r v0 : zAV) (h : zcok zEM 9 0 0 (zR_X9_number).cells (zR_X9_number).slots r st k) : zev zk_X9_number (24, ls, v0 :: r :: st, s, k) = zret zk_X9_number 27 ls st (k.1 + 0, k.2 + 0) (m_X9_fail [r, v0] s) := zf_callV (as := [v0]) 1 rfl rfl h
theorem zr_X9_number_27 (ls : zLs) (s : zAS) (k : Nat × Nat) (x : Int32) : zev zk_X9_number (27, ls, [Sum.inl (Value.int x)], s, k) = some (.inl (some (Sum.inl (Value.int x))), s) := zf_reti rfl
theorem zr_X9_number_28 (a1 a2 : Option zAV) (st : List zAV) (s : zAS) (k : Nat × Nat) (o : Nat × Nat) : zev zk_X9_number (28, [some (Sum.inr o), a1, a2], st, s, k) = zev zk_X9_number (29, [some (Sum.inr o), a1, a2], Sum.inr o :: st, s, k) := zev_go rfl rfl
theorem zr_X9_number_29 (a0 a2 : Option zAV) (st : List zAV) (s : zAS) (k : Nat × Nat) (x : Int32) : zev zk_X9_number (29, [a0, some (Sum.inl (Value.int x)), a2], st, s, k) = zev zk_X9_number (30, [a0, some (Sum.inl (Value.int x)), a2], Sum.inl (Value.int x) :: st, s, k) := zev_go rfl rfl
theorem zr_X9_number_30 (ls : zLs) (st : List zAV) (s : zAS) (k : Nat × Nat) (r v0 : zAV) (h : zcok zEM 9 0 0 (zR_X9_number).cells (zR_X9_number).slots r st k) : zev zk_X9_number (30, ls, v0 :: r :: st, s, k) = zret zk_X9_number 33 ls st (k.1 + 0, k.2 + 0) (m_X9_lacks [r, v0] s) := zf_callV (as := [v0]) 1 rfl rfl h
theorem zr_X9_number_33 (ls : zLs) (st : List zAV) (s : zAS) (k : Nat × Nat) (x : Int32) : zev zk_X9_number (33, ls, Sum.inl (Value.int x) :: st, s, k) = if decide (x = 0) = true then zev zk_X9_number (44, ls, st, s, k) else zev zk_X9_number (36, ls, st, s, k) := zf_if (f := fun x => decide (x = 0)) rfl
theorem zr_X9_number_36 (a1 a2 : Option zAV) (st : List zAV) (s : zAS) (k : Nat × Nat) (o : Nat × Nat) : zev zk_X9_number (36, [some (Sum.inr o), a1, a2], st, s, k) = zev zk_X9_number (37, [some (Sum.inr o), a1, a2], Sum.inr o :: st, s, k) := zev_go rfl rfl
theorem zr_X9_number_37 (ls : zLs) (st : List zAV) (s : zAS) (k : Nat × Nat) : zev zk_X9_number (37, ls, st, s, k) = zev zk_X9_number (38, ls, Sum.inl (Value.int (2)) :: st, s, k) := zev_go rfl rfl
theorem zr_X9_number_38 (ls : zLs) (st : List zAV) (s : zAS) (k : Nat × Nat) (r v0 : zAV) (h : zcok zEM 9 0 0 (zR_X9_number).cells (zR_X9_number).slots r st k) : zev zk_X9_number (38, ls, v0 :: r :: st, s, k) = zret zk_X9_number 41 ls st (k.1 + 0, k.2 + 0) (m_X9_fail [r, v0] s) := zf_callV (as := [v0]) 1 rfl rfl h
theorem zr_X9_number_41 (ls : zLs) (st : List zAV) (s : zAS) (k : Nat × Nat) : zev zk_X9_number (41, ls, st, s, k) = zev zk_X9_number (53, ls, st, s, k) := zev_go rfl rfl
theorem zr_X9_number_44 (a1 a2 : Option zAV) (st : List zAV) (s : zAS) (k : Nat × Nat) (o : Nat × Nat) : zev zk_X9_number (44, [some (Sum.inr o), a1, a2], st, s, k) = zev zk_X9_number (45, [some (Sum.inr o), a1, a2], Sum.inr o :: st, s, k) := zev_go rfl rfl
theorem zr_X9_number_45 (a0 a2 : Option zAV) (st : List zAV) (s : zAS) (k : Nat × Nat) (x : Int32) : zev zk_X9_number (45, [a0, some (Sum.inl (Value.int x)), a2], st, s, k) = zev zk_X9_number (46, [a0, some (Sum.inl (Value.int x)), a2], Sum.inl (Value.int x) :: st, s, k) := zev_go rfl rfl
theorem zr_X9_number_46 (ls : zLs) (st : List zAV) (s : zAS) (k : Nat × Nat) : zev zk_X9_number (46, ls, st, s, k) = zev zk_X9_number (48, ls, Sum.inl (Value.int (8)) :: st, s, k) := zev_go rfl rfl
theorem zr_X9_number_48 (a0 a1 : Option zAV) (st : List zAV) (s : zAS) (k : Nat × Nat) (x : Int32) : zev zk_X9_number (48, [a0, a1, some (Sum.inl (Value.int x))], st, s, k) = zev zk_X9_number (49, [a0, a1, some (Sum.inl (Value.int x))], Sum.inl (Value.int x) :: st, s, k) := zev_go rfl rfl
theorem zr_X9_number_49 (ls : zLs) (st : List zAV) (s : zAS) (k : Nat × Nat) (x y : Int32) : zev zk_X9_number (49, ls, Sum.inl (Value.int y) :: Sum.inl (Value.int x) :: st, s, k) = zev zk_X9_number (50, ls, Sum.inl (Value.int (x + y)) :: st, s, k) := zev_go rfl rfl
theorem zr_X9_number_50 (ls : zLs) (st : List zAV) (s : zAS) (k : Nat × Nat) (r v0 v1 : zAV) (h : zcok zEM 9 0 0 (zR_X9_number).cells (zR_X9_number).slots r st k) : zev zk_X9_number (50, ls, v1 :: v0 :: r :: st, s, k) = zret zk_X9_number 53 ls st (k.1 + 0, k.2 + 0) (m_X9_get [r, v0, v1] s) := zf_callV (as := [v1, v0]) 2 rfl rfl h
theorem zr_X9_number_53 (ls : zLs) (s : zAS) (k : Nat × Nat) (x : Int32) : zev zk_X9_number (53, ls, [Sum.inl (Value.int x)], s, k) = some (.inl (some (Sum.inl (Value.int x))), s) := zf_reti rfl
/-! X9_places: PrimePlaneModel.places(I)I -/
abbrev zR_X9_places : Room := ({ frames := 2, cells := 0, slots := 0, locals := 43 } : Room)
noncomputable def zl_X9_places : List (Nat × zOp) := [(0, z_lda 0 1), (1, z_ic (0) 2), (2, z_put zEM 9 0 false 5), (5, z_lda 0 6), (6, z_ldi 1 7), (7, z_callV zEM 9 m_X9_isObject 1 0 0 (zR_X9_places).cells (zR_X9_places).slots 10), (10, z_if (fun x => decide (¬ x = 0)) 19 13), (13, z_lda 0 14), (14, z_ic (1) 15), (15, z_callV zEM 9 m_X9_fail 1 0 0 (zR_X9_places).cells (zR_X9_places).slots 18), (18, z_reti false), (19, z_lda 0 20), (20, z_ldi 1 21), (21, z_callV zEM 9 m_X9_lacks 1 0 0 (zR_X9_places).cells (zR_X9_places).slots 24), (24, z_if (fun x => decide (x = 0)) 31 27), (27, z_ic (0) 28), (28, z_goto 65), (31, z_lda 0 32), (32, z_ldi 1 33), (33, z_callV zEM 9 m_X9_sort 1 0 0 (zR_X9_places).cells (zR_X9_places).slots 36), (36, z_if (fun x => decide (¬ x = 0)) 43 39), (39, z_ic (1) 40), (40, z_goto 65), (43, z_lda 0 44), (44, z_ldi 1 45), (45, z_callV zEM 9 m_X9_sort 1 0 0 (zR_X9_places).cells (zR_X9_places).slots 48), (48, z_ic (1) 49), (49, z_cmp (fun x y => decide (¬ x = y)) 59 52), (52, z_lda 0 53), (53, z_get zEM 9 1 56), (56, z_goto 65), (59, z_lda 0 60), (60, z_get zEM 9 1 63), (63, z_ic (1) 64), (64, z_bin (fun x y => x + y) 65), (65, z_reti false)]
noncomputable def zk_X9_places (pc : Nat) : Option zOp := zlook zl_X9_places pc
noncomputable def m_X9_places : List zAV → zAS → Option zOut := zmeth zk_X9_places 2
set_option maxRecDepth 100000 in
set_option maxHeartbeats 4000000 in
theorem zcs_X9_places {R : Room} (hR : R = zR_X9_places) : ∀ q ∈ zl_X9_places, zS zEM yX9_places.cls cX9_places 2 wsX9_places (some .int) R q.1 q.2 := by
  subst hR
  have hin9 : ∀ w ∈ wsX90, w ∈ wsX9_places := fun w h => List.mem_cons_of_mem _ (List.mem_append_right _ h)
  refine List.forall_mem_cons.mpr ⟨zs_aload_n dX9_places_0 rfl, ?_⟩
  refine List.forall_mem_cons.mpr ⟨zs_iconst dX9_places_1 (by decide), ?_⟩
  refine List.forall_mem_cons.mpr ⟨zs_put (ci := 9) (j := 0) (N := 10) (C := RX9) (T := TX9) (index := 29) (b := false) .int tyX9 rfl (by decide) hin9 tyX9_ok nmX9 (List.mem_of_getElem? (i := 1) rfl) rfl (by decide +kernel) zni dX9_places_2, ?_⟩
  refine List.forall_mem_cons.mpr ⟨zs_aload_n dX9_places_5 rfl, ?_⟩
  refine List.forall_mem_cons.mpr ⟨zs_iload_n dX9_places_6 rfl, ?_⟩
  refine List.forall_mem_cons.mpr ⟨zs_callV (ci := 9) (rm := zR_X9_isObject) (n := 1) rfl zM_X9_isObject gX9_places_X9_isObject rfl (by decide +kernel) ⟨by decide, by decide⟩ dX9_places_7, ?_⟩
  refine List.forall_mem_cons.mpr ⟨zs_ifne dX9_places_10 (by decide), ?_⟩
  refine List.forall_mem_cons.mpr ⟨zs_aload_n dX9_places_13 rfl, ?_⟩
  refine List.forall_mem_cons.mpr ⟨zs_iconst dX9_places_14 (by decide), ?_⟩
  refine List.forall_mem_cons.mpr ⟨zs_callV (ci := 9) (rm := zR_X9_fail) (n := 1) rfl zM_X9_fail gX9_places_X9_fail rfl (by decide +kernel) ⟨by decide, by decide⟩ dX9_places_15, ?_⟩
  refine List.forall_mem_cons.mpr ⟨zs_reti (ty := .int) rfl (fun x h => (zni x h).1) dX9_places_18, ?_⟩
  refine List.forall_mem_cons.mpr ⟨zs_aload_n dX9_places_19 rfl, ?_⟩
  refine List.forall_mem_cons.mpr ⟨zs_iload_n dX9_places_20 rfl, ?_⟩
  refine List.forall_mem_cons.mpr ⟨zs_callV (ci := 9) (rm := zR_X9_lacks) (n := 1) rfl zM_X9_lacks gX9_places_X9_lacks rfl (by decide +kernel) ⟨by decide, by decide⟩ dX9_places_21, ?_⟩
  refine List.forall_mem_cons.mpr ⟨zs_ifeq dX9_places_24 (by decide), ?_⟩
  refine List.forall_mem_cons.mpr ⟨zs_iconst dX9_places_27 (by decide), ?_⟩
  refine List.forall_mem_cons.mpr ⟨zs_goto dX9_places_28 (by decide), ?_⟩
  refine List.forall_mem_cons.mpr ⟨zs_aload_n dX9_places_31 rfl, ?_⟩
  refine List.forall_mem_cons.mpr ⟨zs_iload_n dX9_places_32 rfl, ?_⟩
  refine List.forall_mem_cons.mpr ⟨zs_callV (ci := 9) (rm := zR_X9_sort) (n := 1) rfl zM_X9_sort gX9_places_X9_sort rfl (by decide +kernel) ⟨by decide, by decide⟩ dX9_places_33, ?_⟩
  refine List.forall_mem_cons.mpr ⟨zs_ifne dX9_places_36 (by decide), ?_⟩
  refine List.forall_mem_cons.mpr ⟨zs_iconst dX9_places_39 (by decide), ?_⟩
  refine List.forall_mem_cons.mpr ⟨zs_goto dX9_places_40 (by decide), ?_⟩
  refine List.forall_mem_cons.mpr ⟨zs_aload_n dX9_places_43 rfl, ?_⟩
  refine List.forall_mem_cons.mpr ⟨zs_iload_n dX9_places_44 rfl, ?_⟩
  refine List.forall_mem_cons.mpr ⟨zs_callV (ci := 9) (rm := zR_X9_sort) (n := 1) rfl zM_X9_sort gX9_places_X9_sort rfl (by decide +kernel) ⟨by decide, by decide⟩ dX9_places_45, ?_⟩
  refine List.forall_mem_cons.mpr ⟨zs_iconst dX9_places_48 (by decide), ?_⟩
  refine List.forall_mem_cons.mpr ⟨zs_icne dX9_places_49 (by decide), ?_⟩
  refine List.forall_mem_cons.mpr ⟨zs_aload_n dX9_places_52 rfl, ?_⟩
  refine List.forall_mem_cons.mpr ⟨zs_get (ci := 9) (j := 1) (N := 10) (C := RX9) (T := TX9) (index := 7) rfl (by decide) hin9 (List.mem_of_getElem? (i := 2) rfl) dX9_places_53, ?_⟩
  refine List.forall_mem_cons.mpr ⟨zs_goto dX9_places_56 (by decide), ?_⟩
  refine List.forall_mem_cons.mpr ⟨zs_aload_n dX9_places_59 rfl, ?_⟩
  refine List.forall_mem_cons.mpr ⟨zs_get (ci := 9) (j := 1) (N := 10) (C := RX9) (T := TX9) (index := 7) rfl (by decide) hin9 (List.mem_of_getElem? (i := 2) rfl) dX9_places_60, ?_⟩
  refine List.forall_mem_cons.mpr ⟨zs_iconst dX9_places_63 (by decide), ?_⟩
  refine List.forall_mem_cons.mpr ⟨zs_iadd dX9_places_64, ?_⟩
  refine List.forall_mem_cons.mpr ⟨zs_reti (ty := .int) rfl (fun x h => (zni x h).1) dX9_places_65, ?_⟩
  exact fun _ h => absurd h List.not_mem_nil
theorem zM_X9_places : zMeets zEM yX9_places wsX9_places zR_X9_places m_X9_places := zmeth_M zEMok (zlook_all (zcs_X9_places rfl)) (by decide +kernel) rfl
theorem zr_X9_places_0 (a1 : Option zAV) (st : List zAV) (s : zAS) (k : Nat × Nat) (o : Nat × Nat) : zev zk_X9_places (0, [some (Sum.inr o), a1], st, s, k) = zev zk_X9_places (1, [some (Sum.inr o), a1], Sum.inr o :: st, s, k) := zev_go rfl rfl
theorem zr_X9_places_1 (ls : zLs) (st : List zAV) (s : zAS) (k : Nat × Nat) : zev zk_X9_places (1, ls, st, s, k) = zev zk_X9_places (2, ls, Sum.inl (Value.int (0)) :: st, s, k) := zev_go rfl rfl
theorem zr_X9_places_2 (ls : zLs) (st : List zAV) (s : zAS) (k : Nat × Nat) (o i : Nat) (x : Int32) (h : zpok zEM 9 0 false o i x) : zev zk_X9_places (2, ls, Sum.inl (Value.int x) :: Sum.inr (o, i) :: st, s, k) = zev zk_X9_places (5, ls, st, (zup s.1 o i 0 x, s.2), k) := zf_put rfl h
theorem zr_X9_places_5 (a1 : Option zAV) (st : List zAV) (s : zAS) (k : Nat × Nat) (o : Nat × Nat) : zev zk_X9_places (5, [some (Sum.inr o), a1], st, s, k) = zev zk_X9_places (6, [some (Sum.inr o), a1], Sum.inr o :: st, s, k) := zev_go rfl rfl
theorem zr_X9_places_6 (a0 : Option zAV) (st : List zAV) (s : zAS) (k : Nat × Nat) (x : Int32) : zev zk_X9_places (6, [a0, some (Sum.inl (Value.int x))], st, s, k) = zev zk_X9_places (7, [a0, some (Sum.inl (Value.int x))], Sum.inl (Value.int x) :: st, s, k) := zev_go rfl rfl
theorem zr_X9_places_7 (ls : zLs) (st : List zAV) (s : zAS) (k : Nat × Nat) (r v0 : zAV) (h : zcok zEM 9 0 0 (zR_X9_places).cells (zR_X9_places).slots r st k) : zev zk_X9_places (7, ls, v0 :: r :: st, s, k) = zret zk_X9_places 10 ls st (k.1 + 0, k.2 + 0) (m_X9_isObject [r, v0] s) := zf_callV (as := [v0]) 1 rfl rfl h
theorem zr_X9_places_10 (ls : zLs) (st : List zAV) (s : zAS) (k : Nat × Nat) (x : Int32) : zev zk_X9_places (10, ls, Sum.inl (Value.int x) :: st, s, k) = if decide (¬ x = 0) = true then zev zk_X9_places (19, ls, st, s, k) else zev zk_X9_places (13, ls, st, s, k) := zf_if (f := fun x => decide (¬ x = 0)) rfl
theorem zr_X9_places_13 (a1 : Option zAV) (st : List zAV) (s : zAS) (k : Nat × Nat) (o : Nat × Nat) : zev zk_X9_places (13, [some (Sum.inr o), a1], st, s, k) = zev zk_X9_places (14, [some (Sum.inr o), a1], Sum.inr o :: st, s, k) := zev_go rfl rfl
theorem zr_X9_places_14 (ls : zLs) (st : List zAV) (s : zAS) (k : Nat × Nat) : zev zk_X9_places (14, ls, st, s, k) = zev zk_X9_places (15, ls, Sum.inl (Value.int (1)) :: st, s, k) := zev_go rfl rfl
theorem zr_X9_places_15 (ls : zLs) (st : List zAV) (s : zAS) (k : Nat × Nat) (r v0 : zAV) (h : zcok zEM 9 0 0 (zR_X9_places).cells (zR_X9_places).slots r st k) : zev zk_X9_places (15, ls, v0 :: r :: st, s, k) = zret zk_X9_places 18 ls st (k.1 + 0, k.2 + 0) (m_X9_fail [r, v0] s) := zf_callV (as := [v0]) 1 rfl rfl h
theorem zr_X9_places_18 (ls : zLs) (s : zAS) (k : Nat × Nat) (x : Int32) : zev zk_X9_places (18, ls, [Sum.inl (Value.int x)], s, k) = some (.inl (some (Sum.inl (Value.int x))), s) := zf_reti rfl
theorem zr_X9_places_19 (a1 : Option zAV) (st : List zAV) (s : zAS) (k : Nat × Nat) (o : Nat × Nat) : zev zk_X9_places (19, [some (Sum.inr o), a1], st, s, k) = zev zk_X9_places (20, [some (Sum.inr o), a1], Sum.inr o :: st, s, k) := zev_go rfl rfl
theorem zr_X9_places_20 (a0 : Option zAV) (st : List zAV) (s : zAS) (k : Nat × Nat) (x : Int32) : zev zk_X9_places (20, [a0, some (Sum.inl (Value.int x))], st, s, k) = zev zk_X9_places (21, [a0, some (Sum.inl (Value.int x))], Sum.inl (Value.int x) :: st, s, k) := zev_go rfl rfl
theorem zr_X9_places_21 (ls : zLs) (st : List zAV) (s : zAS) (k : Nat × Nat) (r v0 : zAV) (h : zcok zEM 9 0 0 (zR_X9_places).cells (zR_X9_places).slots r st k) : zev zk_X9_places (21, ls, v0 :: r :: st, s, k) = zret zk_X9_places 24 ls st (k.1 + 0, k.2 + 0) (m_X9_lacks [r, v0] s) := zf_callV (as := [v0]) 1 rfl rfl h
theorem zr_X9_places_24 (ls : zLs) (st : List zAV) (s : zAS) (k : Nat × Nat) (x : Int32) : zev zk_X9_places (24, ls, Sum.inl (Value.int x) :: st, s, k) = if decide (x = 0) = true then zev zk_X9_places (31, ls, st, s, k) else zev zk_X9_places (27, ls, st, s, k) := zf_if (f := fun x => decide (x = 0)) rfl
theorem zr_X9_places_27 (ls : zLs) (st : List zAV) (s : zAS) (k : Nat × Nat) : zev zk_X9_places (27, ls, st, s, k) = zev zk_X9_places (28, ls, Sum.inl (Value.int (0)) :: st, s, k) := zev_go rfl rfl
theorem zr_X9_places_28 (ls : zLs) (st : List zAV) (s : zAS) (k : Nat × Nat) : zev zk_X9_places (28, ls, st, s, k) = zev zk_X9_places (65, ls, st, s, k) := zev_go rfl rfl
theorem zr_X9_places_31 (a1 : Option zAV) (st : List zAV) (s : zAS) (k : Nat × Nat) (o : Nat × Nat) : zev zk_X9_places (31, [some (Sum.inr o), a1], st, s, k) = zev zk_X9_places (32, [some (Sum.inr o), a1], Sum.inr o :: st, s, k) := zev_go rfl rfl
theorem zr_X9_places_32 (a0 : Option zAV) (st : List zAV) (s : zAS) (k : Nat × Nat) (x : Int32) : zev zk_X9_places (32, [a0, some (Sum.inl (Value.int x))], st, s, k) = zev zk_X9_places (33, [a0, some (Sum.inl (Value.int x))], Sum.inl (Value.int x) :: st, s, k) := zev_go rfl rfl
theorem zr_X9_places_33 (ls : zLs) (st : List zAV) (s : zAS) (k : Nat × Nat) (r v0 : zAV) (h : zcok zEM 9 0 0 (zR_X9_places).cells (zR_X9_places).slots r st k) : zev zk_X9_places (33, ls, v0 :: r :: st, s, k) = zret zk_X9_places 36 ls st (k.1 + 0, k.2 + 0) (m_X9_sort [r, v0] s) := zf_callV (as := [v0]) 1 rfl rfl h
theorem zr_X9_places_36 (ls : zLs) (st : List zAV) (s : zAS) (k : Nat × Nat) (x : Int32) : zev zk_X9_places (36, ls, Sum.inl (Value.int x) :: st, s, k) = if decide (¬ x = 0) = true then zev zk_X9_places (43, ls, st, s, k) else zev zk_X9_places (39, ls, st, s, k) := zf_if (f := fun x => decide (¬ x = 0)) rfl
theorem zr_X9_places_39 (ls : zLs) (st : List zAV) (s : zAS) (k : Nat × Nat) : zev zk_X9_places (39, ls, st, s, k) = zev zk_X9_places (40, ls, Sum.inl (Value.int (1)) :: st, s, k) := zev_go rfl rfl
theorem zr_X9_places_40 (ls : zLs) (st : List zAV) (s : zAS) (k : Nat × Nat) : zev zk_X9_places (40, ls, st, s, k) = zev zk_X9_places (65, ls, st, s, k) := zev_go rfl rfl
theorem zr_X9_places_43 (a1 : Option zAV) (st : List zAV) (s : zAS) (k : Nat × Nat) (o : Nat × Nat) : zev zk_X9_places (43, [some (Sum.inr o), a1], st, s, k) = zev zk_X9_places (44, [some (Sum.inr o), a1], Sum.inr o :: st, s, k) := zev_go rfl rfl
theorem zr_X9_places_44 (a0 : Option zAV) (st : List zAV) (s : zAS) (k : Nat × Nat) (x : Int32) : zev zk_X9_places (44, [a0, some (Sum.inl (Value.int x))], st, s, k) = zev zk_X9_places (45, [a0, some (Sum.inl (Value.int x))], Sum.inl (Value.int x) :: st, s, k) := zev_go rfl rfl
theorem zr_X9_places_45 (ls : zLs) (st : List zAV) (s : zAS) (k : Nat × Nat) (r v0 : zAV) (h : zcok zEM 9 0 0 (zR_X9_places).cells (zR_X9_places).slots r st k) : zev zk_X9_places (45, ls, v0 :: r :: st, s, k) = zret zk_X9_places 48 ls st (k.1 + 0, k.2 + 0) (m_X9_sort [r, v0] s) := zf_callV (as := [v0]) 1 rfl rfl h
theorem zr_X9_places_48 (ls : zLs) (st : List zAV) (s : zAS) (k : Nat × Nat) : zev zk_X9_places (48, ls, st, s, k) = zev zk_X9_places (49, ls, Sum.inl (Value.int (1)) :: st, s, k) := zev_go rfl rfl
theorem zr_X9_places_49 (ls : zLs) (st : List zAV) (s : zAS) (k : Nat × Nat) (x y : Int32) : zev zk_X9_places (49, ls, Sum.inl (Value.int y) :: Sum.inl (Value.int x) :: st, s, k) = if decide (¬ x = y) = true then zev zk_X9_places (59, ls, st, s, k) else zev zk_X9_places (52, ls, st, s, k) := zf_cmp (f := fun x y => decide (¬ x = y)) rfl
theorem zr_X9_places_52 (a1 : Option zAV) (st : List zAV) (s : zAS) (k : Nat × Nat) (o : Nat × Nat) : zev zk_X9_places (52, [some (Sum.inr o), a1], st, s, k) = zev zk_X9_places (53, [some (Sum.inr o), a1], Sum.inr o :: st, s, k) := zev_go rfl rfl
theorem zr_X9_places_53 (ls : zLs) (st : List zAV) (s : zAS) (k : Nat × Nat) (o i : Nat) : zev zk_X9_places (53, ls, Sum.inr (o, i) :: st, s, k) = zpush zk_X9_places 56 ls st s k (zgv zEM 9 1 o i s.1) := zf_get rfl
theorem zr_X9_places_56 (ls : zLs) (st : List zAV) (s : zAS) (k : Nat × Nat) : zev zk_X9_places (56, ls, st, s, k) = zev zk_X9_places (65, ls, st, s, k) := zev_go rfl rfl
theorem zr_X9_places_59 (a1 : Option zAV) (st : List zAV) (s : zAS) (k : Nat × Nat) (o : Nat × Nat) : zev zk_X9_places (59, [some (Sum.inr o), a1], st, s, k) = zev zk_X9_places (60, [some (Sum.inr o), a1], Sum.inr o :: st, s, k) := zev_go rfl rfl
theorem zr_X9_places_60 (ls : zLs) (st : List zAV) (s : zAS) (k : Nat × Nat) (o i : Nat) : zev zk_X9_places (60, ls, Sum.inr (o, i) :: st, s, k) = zpush zk_X9_places 63 ls st s k (zgv zEM 9 1 o i s.1) := zf_get rfl
theorem zr_X9_places_63 (ls : zLs) (st : List zAV) (s : zAS) (k : Nat × Nat) : zev zk_X9_places (63, ls, st, s, k) = zev zk_X9_places (64, ls, Sum.inl (Value.int (1)) :: st, s, k) := zev_go rfl rfl
theorem zr_X9_places_64 (ls : zLs) (st : List zAV) (s : zAS) (k : Nat × Nat) (x y : Int32) : zev zk_X9_places (64, ls, Sum.inl (Value.int y) :: Sum.inl (Value.int x) :: st, s, k) = zev zk_X9_places (65, ls, Sum.inl (Value.int (x + y)) :: st, s, k) := zev_go rfl rfl
theorem zr_X9_places_65 (ls : zLs) (s : zAS) (k : Nat × Nat) (x : Int32) : zev zk_X9_places (65, ls, [Sum.inl (Value.int x)], s, k) = some (.inl (some (Sum.inl (Value.int x))), s) := zf_reti rfl
/-! X9_square: PrimePlaneModel.square(II)I -/
abbrev zR_X9_square : Room := ({ frames := 3, cells := 0, slots := 0, locals := 67 } : Room)
noncomputable def zl_X9_square : List (Nat × zOp) := [(0, z_lda 0 1), (1, z_ic (0) 2), (2, z_put zEM 9 0 false 5), (5, z_lda 0 6), (6, z_ldi 1 7), (7, z_callV zEM 9 m_X9_isObject 1 0 0 (zR_X9_square).cells (zR_X9_square).slots 10), (10, z_if (fun x => decide (x = 0)) 21 13), (13, z_lda 0 14), (14, z_ldi 2 15), (15, z_callV zEM 9 m_X9_isObject 1 0 0 (zR_X9_square).cells (zR_X9_square).slots 18), (18, z_if (fun x => decide (¬ x = 0)) 27 21), (21, z_lda 0 22), (22, z_ic (1) 23), (23, z_callV zEM 9 m_X9_fail 1 0 0 (zR_X9_square).cells (zR_X9_square).slots 26), (26, z_reti false), (27, z_lda 0 28), (28, z_ldi 1 29), (29, z_callV zEM 9 m_X9_sort 1 0 0 (zR_X9_square).cells (zR_X9_square).slots 32), (32, z_if (fun x => decide (¬ x = 0)) 59 35), (35, z_lda 0 36), (36, z_ldi 2 37), (37, z_callV zEM 9 m_X9_sort 1 0 0 (zR_X9_square).cells (zR_X9_square).slots 40), (40, z_if (fun x => decide (¬ x = 0)) 59 43), (43, z_lda 0 44), (44, z_ldi 1 45), (45, z_callV zEM 9 m_X9_lacks 1 0 0 (zR_X9_square).cells (zR_X9_square).slots 48), (48, z_if (fun x => decide (¬ x = 0)) 59 51), (51, z_lda 0 52), (52, z_ldi 2 53), (53, z_callV zEM 9 m_X9_lacks 1 0 0 (zR_X9_square).cells (zR_X9_square).slots 56), (56, z_if (fun x => decide (x = 0)) 65 59), (59, z_lda 0 60), (60, z_ic (2) 61), (61, z_callV zEM 9 m_X9_fail 1 0 0 (zR_X9_square).cells (zR_X9_square).slots 64), (64, z_reti false), (65, z_lda 0 66), (66, z_lda 0 67), (67, z_ldi 1 68), (68, z_callV zEM 9 m_X9_x 1 0 0 (zR_X9_square).cells (zR_X9_square).slots 71), (71, z_lda 0 72), (72, z_ldi 1 73), (73, z_callV zEM 9 m_X9_y 1 0 0 (zR_X9_square).cells (zR_X9_square).slots 76), (76, z_lda 0 77), (77, z_ldi 2 78), (78, z_callV zEM 9 m_X9_x 1 0 0 (zR_X9_square).cells (zR_X9_square).slots 81), (81, z_lda 0 82), (82, z_ldi 2 83), (83, z_callV zEM 9 m_X9_y 1 0 0 (zR_X9_square).cells (zR_X9_square).slots 86), (86, z_callV zEM 9 m_X9_squareOf 4 0 0 (zR_X9_square).cells (zR_X9_square).slots 89), (89, z_reti false)]
noncomputable def zk_X9_square (pc : Nat) : Option zOp := zlook zl_X9_square pc
noncomputable def m_X9_square : List zAV → zAS → Option zOut := zmeth zk_X9_square 3
set_option maxRecDepth 100000 in
set_option maxHeartbeats 4000000 in
theorem zcs_X9_square {R : Room} (hR : R = zR_X9_square) : ∀ q ∈ zl_X9_square, zS zEM yX9_square.cls cX9_square 3 wsX9_square (some .int) R q.1 q.2 := by
  subst hR
  have hin9 : ∀ w ∈ wsX90, w ∈ wsX9_square := fun w h => List.mem_cons_of_mem _ (List.mem_append_right _ h)
  refine List.forall_mem_cons.mpr ⟨zs_aload_n dX9_square_0 rfl, ?_⟩
  refine List.forall_mem_cons.mpr ⟨zs_iconst dX9_square_1 (by decide), ?_⟩
  refine List.forall_mem_cons.mpr ⟨zs_put (ci := 9) (j := 0) (N := 10) (C := RX9) (T := TX9) (index := 29) (b := false) .int tyX9 rfl (by decide) hin9 tyX9_ok nmX9 (List.mem_of_getElem? (i := 1) rfl) rfl (by decide +kernel) zni dX9_square_2, ?_⟩
  refine List.forall_mem_cons.mpr ⟨zs_aload_n dX9_square_5 rfl, ?_⟩
  refine List.forall_mem_cons.mpr ⟨zs_iload_n dX9_square_6 rfl, ?_⟩
  refine List.forall_mem_cons.mpr ⟨zs_callV (ci := 9) (rm := zR_X9_isObject) (n := 1) rfl zM_X9_isObject gX9_square_X9_isObject rfl (by decide +kernel) ⟨by decide, by decide⟩ dX9_square_7, ?_⟩
  refine List.forall_mem_cons.mpr ⟨zs_ifeq dX9_square_10 (by decide), ?_⟩
  refine List.forall_mem_cons.mpr ⟨zs_aload_n dX9_square_13 rfl, ?_⟩
  refine List.forall_mem_cons.mpr ⟨zs_iload_n dX9_square_14 rfl, ?_⟩
  refine List.forall_mem_cons.mpr ⟨zs_callV (ci := 9) (rm := zR_X9_isObject) (n := 1) rfl zM_X9_isObject gX9_square_X9_isObject rfl (by decide +kernel) ⟨by decide, by decide⟩ dX9_square_15, ?_⟩
  refine List.forall_mem_cons.mpr ⟨zs_ifne dX9_square_18 (by decide), ?_⟩
  refine List.forall_mem_cons.mpr ⟨zs_aload_n dX9_square_21 rfl, ?_⟩
  refine List.forall_mem_cons.mpr ⟨zs_iconst dX9_square_22 (by decide), ?_⟩
  refine List.forall_mem_cons.mpr ⟨zs_callV (ci := 9) (rm := zR_X9_fail) (n := 1) rfl zM_X9_fail gX9_square_X9_fail rfl (by decide +kernel) ⟨by decide, by decide⟩ dX9_square_23, ?_⟩
  refine List.forall_mem_cons.mpr ⟨zs_reti (ty := .int) rfl (fun x h => (zni x h).1) dX9_square_26, ?_⟩
  refine List.forall_mem_cons.mpr ⟨zs_aload_n dX9_square_27 rfl, ?_⟩
  refine List.forall_mem_cons.mpr ⟨zs_iload_n dX9_square_28 rfl, ?_⟩
  refine List.forall_mem_cons.mpr ⟨zs_callV (ci := 9) (rm := zR_X9_sort) (n := 1) rfl zM_X9_sort gX9_square_X9_sort rfl (by decide +kernel) ⟨by decide, by decide⟩ dX9_square_29, ?_⟩
  refine List.forall_mem_cons.mpr ⟨zs_ifne dX9_square_32 (by decide), ?_⟩
  refine List.forall_mem_cons.mpr ⟨zs_aload_n dX9_square_35 rfl, ?_⟩
  refine List.forall_mem_cons.mpr ⟨zs_iload_n dX9_square_36 rfl, ?_⟩
  refine List.forall_mem_cons.mpr ⟨zs_callV (ci := 9) (rm := zR_X9_sort) (n := 1) rfl zM_X9_sort gX9_square_X9_sort rfl (by decide +kernel) ⟨by decide, by decide⟩ dX9_square_37, ?_⟩
  refine List.forall_mem_cons.mpr ⟨zs_ifne dX9_square_40 (by decide), ?_⟩
  refine List.forall_mem_cons.mpr ⟨zs_aload_n dX9_square_43 rfl, ?_⟩
  refine List.forall_mem_cons.mpr ⟨zs_iload_n dX9_square_44 rfl, ?_⟩
  refine List.forall_mem_cons.mpr ⟨zs_callV (ci := 9) (rm := zR_X9_lacks) (n := 1) rfl zM_X9_lacks gX9_square_X9_lacks rfl (by decide +kernel) ⟨by decide, by decide⟩ dX9_square_45, ?_⟩
  refine List.forall_mem_cons.mpr ⟨zs_ifne dX9_square_48 (by decide), ?_⟩
  refine List.forall_mem_cons.mpr ⟨zs_aload_n dX9_square_51 rfl, ?_⟩
  refine List.forall_mem_cons.mpr ⟨zs_iload_n dX9_square_52 rfl, ?_⟩
  refine List.forall_mem_cons.mpr ⟨zs_callV (ci := 9) (rm := zR_X9_lacks) (n := 1) rfl zM_X9_lacks gX9_square_X9_lacks rfl (by decide +kernel) ⟨by decide, by decide⟩ dX9_square_53, ?_⟩
  refine List.forall_mem_cons.mpr ⟨zs_ifeq dX9_square_56 (by decide), ?_⟩
  refine List.forall_mem_cons.mpr ⟨zs_aload_n dX9_square_59 rfl, ?_⟩
  refine List.forall_mem_cons.mpr ⟨zs_iconst dX9_square_60 (by decide), ?_⟩
  refine List.forall_mem_cons.mpr ⟨zs_callV (ci := 9) (rm := zR_X9_fail) (n := 1) rfl zM_X9_fail gX9_square_X9_fail rfl (by decide +kernel) ⟨by decide, by decide⟩ dX9_square_61, ?_⟩
  refine List.forall_mem_cons.mpr ⟨zs_reti (ty := .int) rfl (fun x h => (zni x h).1) dX9_square_64, ?_⟩
  refine List.forall_mem_cons.mpr ⟨zs_aload_n dX9_square_65 rfl, ?_⟩
  refine List.forall_mem_cons.mpr ⟨zs_aload_n dX9_square_66 rfl, ?_⟩
  refine List.forall_mem_cons.mpr ⟨zs_iload_n dX9_square_67 rfl, ?_⟩
  refine List.forall_mem_cons.mpr ⟨zs_callV (ci := 9) (rm := zR_X9_x) (n := 1) rfl zM_X9_x gX9_square_X9_x rfl (by decide +kernel) ⟨by decide, by decide⟩ dX9_square_68, ?_⟩
  refine List.forall_mem_cons.mpr ⟨zs_aload_n dX9_square_71 rfl, ?_⟩
  refine List.forall_mem_cons.mpr ⟨zs_iload_n dX9_square_72 rfl, ?_⟩
  refine List.forall_mem_cons.mpr ⟨zs_callV (ci := 9) (rm := zR_X9_y) (n := 1) rfl zM_X9_y gX9_square_X9_y rfl (by decide +kernel) ⟨by decide, by decide⟩ dX9_square_73, ?_⟩
  refine List.forall_mem_cons.mpr ⟨zs_aload_n dX9_square_76 rfl, ?_⟩
  refine List.forall_mem_cons.mpr ⟨zs_iload_n dX9_square_77 rfl, ?_⟩
  refine List.forall_mem_cons.mpr ⟨zs_callV (ci := 9) (rm := zR_X9_x) (n := 1) rfl zM_X9_x gX9_square_X9_x rfl (by decide +kernel) ⟨by decide, by decide⟩ dX9_square_78, ?_⟩
  refine List.forall_mem_cons.mpr ⟨zs_aload_n dX9_square_81 rfl, ?_⟩
  refine List.forall_mem_cons.mpr ⟨zs_iload_n dX9_square_82 rfl, ?_⟩
  refine List.forall_mem_cons.mpr ⟨zs_callV (ci := 9) (rm := zR_X9_y) (n := 1) rfl zM_X9_y gX9_square_X9_y rfl (by decide +kernel) ⟨by decide, by decide⟩ dX9_square_83, ?_⟩
  refine List.forall_mem_cons.mpr ⟨zs_callV (ci := 9) (rm := zR_X9_squareOf) (n := 4) rfl zM_X9_squareOf gX9_square_X9_squareOf rfl (by decide +kernel) ⟨by decide, by decide⟩ dX9_square_86, ?_⟩
  refine List.forall_mem_cons.mpr ⟨zs_reti (ty := .int) rfl (fun x h => (zni x h).1) dX9_square_89, ?_⟩
  exact fun _ h => absurd h List.not_mem_nil
theorem zM_X9_square : zMeets zEM yX9_square wsX9_square zR_X9_square m_X9_square := zmeth_M zEMok (zlook_all (zcs_X9_square rfl)) (by decide +kernel) rfl
theorem zr_X9_square_0 (a1 a2 : Option zAV) (st : List zAV) (s : zAS) (k : Nat × Nat) (o : Nat × Nat) : zev zk_X9_square (0, [some (Sum.inr o), a1, a2], st, s, k) = zev zk_X9_square (1, [some (Sum.inr o), a1, a2], Sum.inr o :: st, s, k) := zev_go rfl rfl
theorem zr_X9_square_1 (ls : zLs) (st : List zAV) (s : zAS) (k : Nat × Nat) : zev zk_X9_square (1, ls, st, s, k) = zev zk_X9_square (2, ls, Sum.inl (Value.int (0)) :: st, s, k) := zev_go rfl rfl
theorem zr_X9_square_2 (ls : zLs) (st : List zAV) (s : zAS) (k : Nat × Nat) (o i : Nat) (x : Int32) (h : zpok zEM 9 0 false o i x) : zev zk_X9_square (2, ls, Sum.inl (Value.int x) :: Sum.inr (o, i) :: st, s, k) = zev zk_X9_square (5, ls, st, (zup s.1 o i 0 x, s.2), k) := zf_put rfl h
theorem zr_X9_square_5 (a1 a2 : Option zAV) (st : List zAV) (s : zAS) (k : Nat × Nat) (o : Nat × Nat) : zev zk_X9_square (5, [some (Sum.inr o), a1, a2], st, s, k) = zev zk_X9_square (6, [some (Sum.inr o), a1, a2], Sum.inr o :: st, s, k) := zev_go rfl rfl
theorem zr_X9_square_6 (a0 a2 : Option zAV) (st : List zAV) (s : zAS) (k : Nat × Nat) (x : Int32) : zev zk_X9_square (6, [a0, some (Sum.inl (Value.int x)), a2], st, s, k) = zev zk_X9_square (7, [a0, some (Sum.inl (Value.int x)), a2], Sum.inl (Value.int x) :: st, s, k) := zev_go rfl rfl
theorem zr_X9_square_7 (ls : zLs) (st : List zAV) (s : zAS) (k : Nat × Nat) (r v0 : zAV) (h : zcok zEM 9 0 0 (zR_X9_square).cells (zR_X9_square).slots r st k) : zev zk_X9_square (7, ls, v0 :: r :: st, s, k) = zret zk_X9_square 10 ls st (k.1 + 0, k.2 + 0) (m_X9_isObject [r, v0] s) := zf_callV (as := [v0]) 1 rfl rfl h
theorem zr_X9_square_10 (ls : zLs) (st : List zAV) (s : zAS) (k : Nat × Nat) (x : Int32) : zev zk_X9_square (10, ls, Sum.inl (Value.int x) :: st, s, k) = if decide (x = 0) = true then zev zk_X9_square (21, ls, st, s, k) else zev zk_X9_square (13, ls, st, s, k) := zf_if (f := fun x => decide (x = 0)) rfl
theorem zr_X9_square_13 (a1 a2 : Option zAV) (st : List zAV) (s : zAS) (k : Nat × Nat) (o : Nat × Nat) : zev zk_X9_square (13, [some (Sum.inr o), a1, a2], st, s, k) = zev zk_X9_square (14, [some (Sum.inr o), a1, a2], Sum.inr o :: st, s, k) := zev_go rfl rfl
theorem zr_X9_square_14 (a0 a1 : Option zAV) (st : List zAV) (s : zAS) (k : Nat × Nat) (x : Int32) : zev zk_X9_square (14, [a0, a1, some (Sum.inl (Value.int x))], st, s, k) = zev zk_X9_square (15, [a0, a1, some (Sum.inl (Value.int x))], Sum.inl (Value.int x) :: st, s, k) := zev_go rfl rfl
theorem zr_X9_square_15 (ls : zLs) (st : List zAV) (s : zAS) (k : Nat × Nat) (r v0 : zAV) (h : zcok zEM 9 0 0 (zR_X9_square).cells (zR_X9_square).slots r st k) : zev zk_X9_square (15, ls, v0 :: r :: st, s, k) = zret zk_X9_square 18 ls st (k.1 + 0, k.2 + 0) (m_X9_isObject [r, v0] s) := zf_callV (as := [v0]) 1 rfl rfl h
theorem zr_X9_square_18 (ls : zLs) (st : List zAV) (s : zAS) (k : Nat × Nat) (x : Int32) : zev zk_X9_square (18, ls, Sum.inl (Value.int x) :: st, s, k) = if decide (¬ x = 0) = true then zev zk_X9_square (27, ls, st, s, k) else zev zk_X9_square (21, ls, st, s, k) := zf_if (f := fun x => decide (¬ x = 0)) rfl
theorem zr_X9_square_21 (a1 a2 : Option zAV) (st : List zAV) (s : zAS) (k : Nat × Nat) (o : Nat × Nat) : zev zk_X9_square (21, [some (Sum.inr o), a1, a2], st, s, k) = zev zk_X9_square (22, [some (Sum.inr o), a1, a2], Sum.inr o :: st, s, k) := zev_go rfl rfl
theorem zr_X9_square_22 (ls : zLs) (st : List zAV) (s : zAS) (k : Nat × Nat) : zev zk_X9_square (22, ls, st, s, k) = zev zk_X9_square (23, ls, Sum.inl (Value.int (1)) :: st, s, k) := zev_go rfl rfl
theorem zr_X9_square_23 (ls : zLs) (st : List zAV) (s : zAS) (k : Nat × Nat) (r v0 : zAV) (h : zcok zEM 9 0 0 (zR_X9_square).cells (zR_X9_square).slots r st k) : zev zk_X9_square (23, ls, v0 :: r :: st, s, k) = zret zk_X9_square 26 ls st (k.1 + 0, k.2 + 0) (m_X9_fail [r, v0] s) := zf_callV (as := [v0]) 1 rfl rfl h
theorem zr_X9_square_26 (ls : zLs) (s : zAS) (k : Nat × Nat) (x : Int32) : zev zk_X9_square (26, ls, [Sum.inl (Value.int x)], s, k) = some (.inl (some (Sum.inl (Value.int x))), s) := zf_reti rfl
theorem zr_X9_square_27 (a1 a2 : Option zAV) (st : List zAV) (s : zAS) (k : Nat × Nat) (o : Nat × Nat) : zev zk_X9_square (27, [some (Sum.inr o), a1, a2], st, s, k) = zev zk_X9_square (28, [some (Sum.inr o), a1, a2], Sum.inr o :: st, s, k) := zev_go rfl rfl
theorem zr_X9_square_28 (a0 a2 : Option zAV) (st : List zAV) (s : zAS) (k : Nat × Nat) (x : Int32) : zev zk_X9_square (28, [a0, some (Sum.inl (Value.int x)), a2], st, s, k) = zev zk_X9_square (29, [a0, some (Sum.inl (Value.int x)), a2], Sum.inl (Value.int x) :: st, s, k) := zev_go rfl rfl
theorem zr_X9_square_29 (ls : zLs) (st : List zAV) (s : zAS) (k : Nat × Nat) (r v0 : zAV) (h : zcok zEM 9 0 0 (zR_X9_square).cells (zR_X9_square).slots r st k) : zev zk_X9_square (29, ls, v0 :: r :: st, s, k) = zret zk_X9_square 32 ls st (k.1 + 0, k.2 + 0) (m_X9_sort [r, v0] s) := zf_callV (as := [v0]) 1 rfl rfl h
theorem zr_X9_square_32 (ls : zLs) (st : List zAV) (s : zAS) (k : Nat × Nat) (x : Int32) : zev zk_X9_square (32, ls, Sum.inl (Value.int x) :: st, s, k) = if decide (¬ x = 0) = true then zev zk_X9_square (59, ls, st, s, k) else zev zk_X9_square (35, ls, st, s, k) := zf_if (f := fun x => decide (¬ x = 0)) rfl
theorem zr_X9_square_35 (a1 a2 : Option zAV) (st : List zAV) (s : zAS) (k : Nat × Nat) (o : Nat × Nat) : zev zk_X9_square (35, [some (Sum.inr o), a1, a2], st, s, k) = zev zk_X9_square (36, [some (Sum.inr o), a1, a2], Sum.inr o :: st, s, k) := zev_go rfl rfl
theorem zr_X9_square_36 (a0 a1 : Option zAV) (st : List zAV) (s : zAS) (k : Nat × Nat) (x : Int32) : zev zk_X9_square (36, [a0, a1, some (Sum.inl (Value.int x))], st, s, k) = zev zk_X9_square (37, [a0, a1, some (Sum.inl (Value.int x))], Sum.inl (Value.int x) :: st, s, k) := zev_go rfl rfl
theorem zr_X9_square_37 (ls : zLs) (st : List zAV) (s : zAS) (k : Nat × Nat) (r v0 : zAV) (h : zcok zEM 9 0 0 (zR_X9_square).cells (zR_X9_square).slots r st k) : zev zk_X9_square (37, ls, v0 :: r :: st, s, k) = zret zk_X9_square 40 ls st (k.1 + 0, k.2 + 0) (m_X9_sort [r, v0] s) := zf_callV (as := [v0]) 1 rfl rfl h
theorem zr_X9_square_40 (ls : zLs) (st : List zAV) (s : zAS) (k : Nat × Nat) (x : Int32) : zev zk_X9_square (40, ls, Sum.inl (Value.int x) :: st, s, k) = if decide (¬ x = 0) = true then zev zk_X9_square (59, ls, st, s, k) else zev zk_X9_square (43, ls, st, s, k) := zf_if (f := fun x => decide (¬ x = 0)) rfl
theorem zr_X9_square_43 (a1 a2 : Option zAV) (st : List zAV) (s : zAS) (k : Nat × Nat) (o : Nat × Nat) : zev zk_X9_square (43, [some (Sum.inr o), a1, a2], st, s, k) = zev zk_X9_square (44, [some (Sum.inr o), a1, a2], Sum.inr o :: st, s, k) := zev_go rfl rfl
theorem zr_X9_square_44 (a0 a2 : Option zAV) (st : List zAV) (s : zAS) (k : Nat × Nat) (x : Int32) : zev zk_X9_square (44, [a0, some (Sum.inl (Value.int x)), a2], st, s, k) = zev zk_X9_square (45, [a0, some (Sum.inl (Value.int x)), a2], Sum.inl (Value.int x) :: st, s, k) := zev_go rfl rfl
theorem zr_X9_square_45 (ls : zLs) (st : List zAV) (s : zAS) (k : Nat × Nat) (r v0 : zAV) (h : zcok zEM 9 0 0 (zR_X9_square).cells (zR_X9_square).slots r st k) : zev zk_X9_square (45, ls, v0 :: r :: st, s, k) = zret zk_X9_square 48 ls st (k.1 + 0, k.2 + 0) (m_X9_lacks [r, v0] s) := zf_callV (as := [v0]) 1 rfl rfl h
theorem zr_X9_square_48 (ls : zLs) (st : List zAV) (s : zAS) (k : Nat × Nat) (x : Int32) : zev zk_X9_square (48, ls, Sum.inl (Value.int x) :: st, s, k) = if decide (¬ x = 0) = true then zev zk_X9_square (59, ls, st, s, k) else zev zk_X9_square (51, ls, st, s, k) := zf_if (f := fun x => decide (¬ x = 0)) rfl
theorem zr_X9_square_51 (a1 a2 : Option zAV) (st : List zAV) (s : zAS) (k : Nat × Nat) (o : Nat × Nat) : zev zk_X9_square (51, [some (Sum.inr o), a1, a2], st, s, k) = zev zk_X9_square (52, [some (Sum.inr o), a1, a2], Sum.inr o :: st, s, k) := zev_go rfl rfl
theorem zr_X9_square_52 (a0 a1 : Option zAV) (st : List zAV) (s : zAS) (k : Nat × Nat) (x : Int32) : zev zk_X9_square (52, [a0, a1, some (Sum.inl (Value.int x))], st, s, k) = zev zk_X9_square (53, [a0, a1, some (Sum.inl (Value.int x))], Sum.inl (Value.int x) :: st, s, k) := zev_go rfl rfl
theorem zr_X9_square_53 (ls : zLs) (st : List zAV) (s : zAS) (k : Nat × Nat) (r v0 : zAV) (h : zcok zEM 9 0 0 (zR_X9_square).cells (zR_X9_square).slots r st k) : zev zk_X9_square (53, ls, v0 :: r :: st, s, k) = zret zk_X9_square 56 ls st (k.1 + 0, k.2 + 0) (m_X9_lacks [r, v0] s) := zf_callV (as := [v0]) 1 rfl rfl h
theorem zr_X9_square_56 (ls : zLs) (st : List zAV) (s : zAS) (k : Nat × Nat) (x : Int32) : zev zk_X9_square (56, ls, Sum.inl (Value.int x) :: st, s, k) = if decide (x = 0) = true then zev zk_X9_square (65, ls, st, s, k) else zev zk_X9_square (59, ls, st, s, k) := zf_if (f := fun x => decide (x = 0)) rfl
theorem zr_X9_square_59 (a1 a2 : Option zAV) (st : List zAV) (s : zAS) (k : Nat × Nat) (o : Nat × Nat) : zev zk_X9_square (59, [some (Sum.inr o), a1, a2], st, s, k) = zev zk_X9_square (60, [some (Sum.inr o), a1, a2], Sum.inr o :: st, s, k) := zev_go rfl rfl
theorem zr_X9_square_60 (ls : zLs) (st : List zAV) (s : zAS) (k : Nat × Nat) : zev zk_X9_square (60, ls, st, s, k) = zev zk_X9_square (61, ls, Sum.inl (Value.int (2)) :: st, s, k) := zev_go rfl rfl
theorem zr_X9_square_61 (ls : zLs) (st : List zAV) (s : zAS) (k : Nat × Nat) (r v0 : zAV) (h : zcok zEM 9 0 0 (zR_X9_square).cells (zR_X9_square).slots r st k) : zev zk_X9_square (61, ls, v0 :: r :: st, s, k) = zret zk_X9_square 64 ls st (k.1 + 0, k.2 + 0) (m_X9_fail [r, v0] s) := zf_callV (as := [v0]) 1 rfl rfl h
theorem zr_X9_square_64 (ls : zLs) (s : zAS) (k : Nat × Nat) (x : Int32) : zev zk_X9_square (64, ls, [Sum.inl (Value.int x)], s, k) = some (.inl (some (Sum.inl (Value.int x))), s) := zf_reti rfl
theorem zr_X9_square_65 (a1 a2 : Option zAV) (st : List zAV) (s : zAS) (k : Nat × Nat) (o : Nat × Nat) : zev zk_X9_square (65, [some (Sum.inr o), a1, a2], st, s, k) = zev zk_X9_square (66, [some (Sum.inr o), a1, a2], Sum.inr o :: st, s, k) := zev_go rfl rfl
theorem zr_X9_square_66 (a1 a2 : Option zAV) (st : List zAV) (s : zAS) (k : Nat × Nat) (o : Nat × Nat) : zev zk_X9_square (66, [some (Sum.inr o), a1, a2], st, s, k) = zev zk_X9_square (67, [some (Sum.inr o), a1, a2], Sum.inr o :: st, s, k) := zev_go rfl rfl
theorem zr_X9_square_67 (a0 a2 : Option zAV) (st : List zAV) (s : zAS) (k : Nat × Nat) (x : Int32) : zev zk_X9_square (67, [a0, some (Sum.inl (Value.int x)), a2], st, s, k) = zev zk_X9_square (68, [a0, some (Sum.inl (Value.int x)), a2], Sum.inl (Value.int x) :: st, s, k) := zev_go rfl rfl
theorem zr_X9_square_68 (ls : zLs) (st : List zAV) (s : zAS) (k : Nat × Nat) (r v0 : zAV) (h : zcok zEM 9 0 0 (zR_X9_square).cells (zR_X9_square).slots r st k) : zev zk_X9_square (68, ls, v0 :: r :: st, s, k) = zret zk_X9_square 71 ls st (k.1 + 0, k.2 + 0) (m_X9_x [r, v0] s) := zf_callV (as := [v0]) 1 rfl rfl h
theorem zr_X9_square_71 (a1 a2 : Option zAV) (st : List zAV) (s : zAS) (k : Nat × Nat) (o : Nat × Nat) : zev zk_X9_square (71, [some (Sum.inr o), a1, a2], st, s, k) = zev zk_X9_square (72, [some (Sum.inr o), a1, a2], Sum.inr o :: st, s, k) := zev_go rfl rfl
theorem zr_X9_square_72 (a0 a2 : Option zAV) (st : List zAV) (s : zAS) (k : Nat × Nat) (x : Int32) : zev zk_X9_square (72, [a0, some (Sum.inl (Value.int x)), a2], st, s, k) = zev zk_X9_square (73, [a0, some (Sum.inl (Value.int x)), a2], Sum.inl (Value.int x) :: st, s, k) := zev_go rfl rfl
theorem zr_X9_square_73 (ls : zLs) (st : List zAV) (s : zAS) (k : Nat × Nat) (r v0 : zAV) (h : zcok zEM 9 0 0 (zR_X9_square).cells (zR_X9_square).slots r st k) : zev zk_X9_square (73, ls, v0 :: r :: st, s, k) = zret zk_X9_square 76 ls st (k.1 + 0, k.2 + 0) (m_X9_y [r, v0] s) := zf_callV (as := [v0]) 1 rfl rfl h
theorem zr_X9_square_76 (a1 a2 : Option zAV) (st : List zAV) (s : zAS) (k : Nat × Nat) (o : Nat × Nat) : zev zk_X9_square (76, [some (Sum.inr o), a1, a2], st, s, k) = zev zk_X9_square (77, [some (Sum.inr o), a1, a2], Sum.inr o :: st, s, k) := zev_go rfl rfl
theorem zr_X9_square_77 (a0 a1 : Option zAV) (st : List zAV) (s : zAS) (k : Nat × Nat) (x : Int32) : zev zk_X9_square (77, [a0, a1, some (Sum.inl (Value.int x))], st, s, k) = zev zk_X9_square (78, [a0, a1, some (Sum.inl (Value.int x))], Sum.inl (Value.int x) :: st, s, k) := zev_go rfl rfl
theorem zr_X9_square_78 (ls : zLs) (st : List zAV) (s : zAS) (k : Nat × Nat) (r v0 : zAV) (h : zcok zEM 9 0 0 (zR_X9_square).cells (zR_X9_square).slots r st k) : zev zk_X9_square (78, ls, v0 :: r :: st, s, k) = zret zk_X9_square 81 ls st (k.1 + 0, k.2 + 0) (m_X9_x [r, v0] s) := zf_callV (as := [v0]) 1 rfl rfl h
theorem zr_X9_square_81 (a1 a2 : Option zAV) (st : List zAV) (s : zAS) (k : Nat × Nat) (o : Nat × Nat) : zev zk_X9_square (81, [some (Sum.inr o), a1, a2], st, s, k) = zev zk_X9_square (82, [some (Sum.inr o), a1, a2], Sum.inr o :: st, s, k) := zev_go rfl rfl
theorem zr_X9_square_82 (a0 a1 : Option zAV) (st : List zAV) (s : zAS) (k : Nat × Nat) (x : Int32) : zev zk_X9_square (82, [a0, a1, some (Sum.inl (Value.int x))], st, s, k) = zev zk_X9_square (83, [a0, a1, some (Sum.inl (Value.int x))], Sum.inl (Value.int x) :: st, s, k) := zev_go rfl rfl
theorem zr_X9_square_83 (ls : zLs) (st : List zAV) (s : zAS) (k : Nat × Nat) (r v0 : zAV) (h : zcok zEM 9 0 0 (zR_X9_square).cells (zR_X9_square).slots r st k) : zev zk_X9_square (83, ls, v0 :: r :: st, s, k) = zret zk_X9_square 86 ls st (k.1 + 0, k.2 + 0) (m_X9_y [r, v0] s) := zf_callV (as := [v0]) 1 rfl rfl h
theorem zr_X9_square_86 (ls : zLs) (st : List zAV) (s : zAS) (k : Nat × Nat) (r v0 v1 v2 v3 : zAV) (h : zcok zEM 9 0 0 (zR_X9_square).cells (zR_X9_square).slots r st k) : zev zk_X9_square (86, ls, v3 :: v2 :: v1 :: v0 :: r :: st, s, k) = zret zk_X9_square 89 ls st (k.1 + 0, k.2 + 0) (m_X9_squareOf [r, v0, v1, v2, v3] s) := zf_callV (as := [v3, v2, v1, v0]) 4 rfl rfl h
theorem zr_X9_square_89 (ls : zLs) (s : zAS) (k : Nat × Nat) (x : Int32) : zev zk_X9_square (89, ls, [Sum.inl (Value.int x)], s, k) = some (.inl (some (Sum.inl (Value.int x))), s) := zf_reti rfl
/-! X9_claim: PrimePlaneModel.claim(IIIII)I -/
abbrev zR_X9_claim : Room := ({ frames := 3, cells := 2, slots := 22, locals := 70 } : Room)
noncomputable def zl_X9_claim : List (Nat × zOp) := [(0, z_lda 0 1), (1, z_ic (0) 2), (2, z_put zEM 9 0 false 5), (5, z_ldi 1 6), (6, z_ic (0) 7), (7, z_ic (7) 9), (9, z_callS m_X9_isIn 3 0 0 (zR_X9_claim).cells (zR_X9_claim).slots 12), (12, z_if (fun x => decide (¬ x = 0)) 21 15), (15, z_lda 0 16), (16, z_ic (1) 17), (17, z_callV zEM 9 m_X9_fail 1 0 0 (zR_X9_claim).cells (zR_X9_claim).slots 20), (20, z_reti false), (21, z_ldi 1 22), (22, z_ic (2) 23), (23, z_cmp (fun x y => decide (x = y)) 37 26), (26, z_ldi 1 27), (27, z_ic (5) 28), (28, z_cmp (fun x y => decide (x = y)) 37 31), (31, z_ldi 1 32), (32, z_ic (7) 34), (34, z_cmp (fun x y => decide (¬ x = y)) 41 37), (37, z_ic (1) 38), (38, z_goto 42), (41, z_ic (0) 42), (42, z_sti 6 44), (44, z_lda 0 45), (45, z_ldi 2 46), (46, z_callV zEM 9 m_X9_isObject 1 0 0 (zR_X9_claim).cells (zR_X9_claim).slots 49), (49, z_if (fun x => decide (x = 0)) 88 52), (52, z_lda 0 53), (53, z_ldi 3 54), (54, z_callV zEM 9 m_X9_isObject 1 0 0 (zR_X9_claim).cells (zR_X9_claim).slots 57), (57, z_if (fun x => decide (x = 0)) 88 60), (60, z_ldi 6 62), (62, z_if (fun x => decide (x = 0)) 74 65), (65, z_lda 0 66), (66, z_ldi 4 68), (68, z_callV zEM 9 m_X9_isObject 1 0 0 (zR_X9_claim).cells (zR_X9_claim).slots 71), (71, z_if (fun x => decide (x = 0)) 88 74), (74, z_ldi 1 75), (75, z_ic (5) 76), (76, z_cmp (fun x y => decide (¬ x = y)) 94 79), (79, z_lda 0 80), (80, z_ldi 5 82), (82, z_callV zEM 9 m_X9_isObject 1 0 0 (zR_X9_claim).cells (zR_X9_claim).slots 85), (85, z_if (fun x => decide (¬ x = 0)) 94 88), (88, z_lda 0 89), (89, z_ic (2) 90), (90, z_callV zEM 9 m_X9_fail 1 0 0 (zR_X9_claim).cells (zR_X9_claim).slots 93), (93, z_reti false), (94, z_ldi 1 95), (95, z_ic (6) 97), (97, z_cmp (fun x y => decide (¬ x = y)) 114 100), (100, z_ic (1100) 103), (103, z_lda 0 104), (104, z_ldi 2 105), (105, z_callV zEM 9 m_X9_sort 1 0 0 (zR_X9_claim).cells (zR_X9_claim).slots 108), (108, z_ic (1) 109), (109, z_bin (fun x y => x + y) 110), (110, z_bin (fun x y => x * y) 111), (111, z_goto 119), (114, z_sget 3 117), (117, z_ldi 1 118), (118, z_iald zEM 119), (119, z_sti 7 121), (121, z_lda 0 122), (122, z_ldi 7 124), (124, z_ic (1000) 127), (127, z_ic (4) 128), (128, z_newa (zR_X9_claim).cells (zR_X9_claim).slots 130), (130, z_dup 131), (131, z_ic (0) 132), (132, z_ldi 2 133), (133, z_iast zEM 134), (134, z_dup 135), (135, z_ic (1) 136), (136, z_ldi 3 137), (137, z_iast zEM 138), (138, z_dup 139), (139, z_ic (2) 140), (140, z_ldi 4 142), (142, z_iast zEM 143), (143, z_dup 144), (144, z_ic (3) 145), (145, z_ldi 5 147), (147, z_iast zEM 148), (148, z_callV zEM 9 m_X9_areOf 3 0 0 (zR_X9_claim).cells (zR_X9_claim).slots 151), (151, z_if (fun x => decide (x = 0)) 163 154), (154, z_lda 0 155), (155, z_get zEM 9 4 158), (158, z_ic (20) 160), (160, z_cmp (fun x y => decide (¬ x = y)) 169 163), (163, z_lda 0 164), (164, z_ic (3) 165), (165, z_callV zEM 9 m_X9_fail 1 0 0 (zR_X9_claim).cells (zR_X9_claim).slots 168), (168, z_reti false), (169, z_ic (5) 170), (170, z_newa (zR_X9_claim).cells (zR_X9_claim).slots 172), (172, z_dup 173), (173, z_ic (0) 174), (174, z_ldi 1 175), (175, z_iast zEM 176), (176, z_dup 177), (177, z_ic (1) 178), (178, z_ldi 2 179), (179, z_iast zEM 180), (180, z_dup 181), (181, z_ic (2) 182), (182, z_ldi 3 183), (183, z_iast zEM 184), (184, z_dup 185), (185, z_ic (3) 186), (186, z_ldi 4 188), (188, z_iast zEM 189), (189, z_dup 190), (190, z_ic (4) 191), (191, z_ldi 5 193), (193, z_iast zEM 194), (194, z_sta 8 196), (196, z_lda 8 198), (198, z_ic (0) 199), (199, z_lda 0 200), (200, z_get zEM 9 5 203), (203, z_ic (5) 204), (204, z_lda 0 205), (205, z_get zEM 9 4 208), (208, z_bin (fun x y => x * y) 209), (209, z_ic (5) 210), (210, z_acopy zEM 213), (213, z_lda 0 214), (214, z_dup 215), (215, z_get zEM 9 4 218), (218, z_ic (1) 219), (219, z_bin (fun x y => x + y) 220), (220, z_put zEM 9 4 false 223), (223, z_lda 0 224), (224, z_get zEM 9 4 227), (227, z_ic (1) 228), (228, z_bin (fun x y => x - y) 229), (229, z_reti false)]
noncomputable def zk_X9_claim (pc : Nat) : Option zOp := zlook zl_X9_claim pc
noncomputable def m_X9_claim : List zAV → zAS → Option zOut := zmeth zk_X9_claim 9
set_option maxRecDepth 100000 in
set_option maxHeartbeats 4000000 in
theorem zcs_X9_claim {R : Room} (hR : R = zR_X9_claim) : ∀ q ∈ zl_X9_claim, zS zEM yX9_claim.cls cX9_claim 9 wsX9_claim (some .int) R q.1 q.2 := by
  subst hR
  have hin9 : ∀ w ∈ wsX90, w ∈ wsX9_claim := fun w h => List.mem_cons_of_mem _ (List.mem_append_right _ h)
  refine List.forall_mem_cons.mpr ⟨zs_aload_n dX9_claim_0 rfl, ?_⟩
  refine List.forall_mem_cons.mpr ⟨zs_iconst dX9_claim_1 (by decide), ?_⟩
  refine List.forall_mem_cons.mpr ⟨zs_put (ci := 9) (j := 0) (N := 10) (C := RX9) (T := TX9) (index := 29) (b := false) .int tyX9 rfl (by decide) hin9 tyX9_ok nmX9 (List.mem_of_getElem? (i := 1) rfl) rfl (by decide +kernel) zni dX9_claim_2, ?_⟩
  refine List.forall_mem_cons.mpr ⟨zs_iload_n dX9_claim_5 rfl, ?_⟩
  refine List.forall_mem_cons.mpr ⟨zs_iconst dX9_claim_6 (by decide), ?_⟩
  refine List.forall_mem_cons.mpr ⟨zs_bipush dX9_claim_7 (by decide), ?_⟩
  refine List.forall_mem_cons.mpr ⟨zs_callS (rm := zR_X9_isIn) (n := 3) zM_X9_isIn gX9_claim_X9_isIn rfl (by decide +kernel) ⟨by decide, by decide⟩ dX9_claim_9, ?_⟩
  refine List.forall_mem_cons.mpr ⟨zs_ifne dX9_claim_12 (by decide), ?_⟩
  refine List.forall_mem_cons.mpr ⟨zs_aload_n dX9_claim_15 rfl, ?_⟩
  refine List.forall_mem_cons.mpr ⟨zs_iconst dX9_claim_16 (by decide), ?_⟩
  refine List.forall_mem_cons.mpr ⟨zs_callV (ci := 9) (rm := zR_X9_fail) (n := 1) rfl zM_X9_fail gX9_claim_X9_fail rfl (by decide +kernel) ⟨by decide, by decide⟩ dX9_claim_17, ?_⟩
  refine List.forall_mem_cons.mpr ⟨zs_reti (ty := .int) rfl (fun x h => (zni x h).1) dX9_claim_20, ?_⟩
  refine List.forall_mem_cons.mpr ⟨zs_iload_n dX9_claim_21 rfl, ?_⟩
  refine List.forall_mem_cons.mpr ⟨zs_iconst dX9_claim_22 (by decide), ?_⟩
  refine List.forall_mem_cons.mpr ⟨zs_iceq dX9_claim_23 (by decide), ?_⟩
  refine List.forall_mem_cons.mpr ⟨zs_iload_n dX9_claim_26 rfl, ?_⟩
  refine List.forall_mem_cons.mpr ⟨zs_iconst dX9_claim_27 (by decide), ?_⟩
  refine List.forall_mem_cons.mpr ⟨zs_iceq dX9_claim_28 (by decide), ?_⟩
  refine List.forall_mem_cons.mpr ⟨zs_iload_n dX9_claim_31 rfl, ?_⟩
  refine List.forall_mem_cons.mpr ⟨zs_bipush dX9_claim_32 (by decide), ?_⟩
  refine List.forall_mem_cons.mpr ⟨zs_icne dX9_claim_34 (by decide), ?_⟩
  refine List.forall_mem_cons.mpr ⟨zs_iconst dX9_claim_37 (by decide), ?_⟩
  refine List.forall_mem_cons.mpr ⟨zs_goto dX9_claim_38 (by decide), ?_⟩
  refine List.forall_mem_cons.mpr ⟨zs_iconst dX9_claim_41 (by decide), ?_⟩
  refine List.forall_mem_cons.mpr ⟨zs_istore dX9_claim_42, ?_⟩
  refine List.forall_mem_cons.mpr ⟨zs_aload_n dX9_claim_44 rfl, ?_⟩
  refine List.forall_mem_cons.mpr ⟨zs_iload_n dX9_claim_45 rfl, ?_⟩
  refine List.forall_mem_cons.mpr ⟨zs_callV (ci := 9) (rm := zR_X9_isObject) (n := 1) rfl zM_X9_isObject gX9_claim_X9_isObject rfl (by decide +kernel) ⟨by decide, by decide⟩ dX9_claim_46, ?_⟩
  refine List.forall_mem_cons.mpr ⟨zs_ifeq dX9_claim_49 (by decide), ?_⟩
  refine List.forall_mem_cons.mpr ⟨zs_aload_n dX9_claim_52 rfl, ?_⟩
  refine List.forall_mem_cons.mpr ⟨zs_iload_n dX9_claim_53 rfl, ?_⟩
  refine List.forall_mem_cons.mpr ⟨zs_callV (ci := 9) (rm := zR_X9_isObject) (n := 1) rfl zM_X9_isObject gX9_claim_X9_isObject rfl (by decide +kernel) ⟨by decide, by decide⟩ dX9_claim_54, ?_⟩
  refine List.forall_mem_cons.mpr ⟨zs_ifeq dX9_claim_57 (by decide), ?_⟩
  refine List.forall_mem_cons.mpr ⟨zs_iload dX9_claim_60, ?_⟩
  refine List.forall_mem_cons.mpr ⟨zs_ifeq dX9_claim_62 (by decide), ?_⟩
  refine List.forall_mem_cons.mpr ⟨zs_aload_n dX9_claim_65 rfl, ?_⟩
  refine List.forall_mem_cons.mpr ⟨zs_iload dX9_claim_66, ?_⟩
  refine List.forall_mem_cons.mpr ⟨zs_callV (ci := 9) (rm := zR_X9_isObject) (n := 1) rfl zM_X9_isObject gX9_claim_X9_isObject rfl (by decide +kernel) ⟨by decide, by decide⟩ dX9_claim_68, ?_⟩
  refine List.forall_mem_cons.mpr ⟨zs_ifeq dX9_claim_71 (by decide), ?_⟩
  refine List.forall_mem_cons.mpr ⟨zs_iload_n dX9_claim_74 rfl, ?_⟩
  refine List.forall_mem_cons.mpr ⟨zs_iconst dX9_claim_75 (by decide), ?_⟩
  refine List.forall_mem_cons.mpr ⟨zs_icne dX9_claim_76 (by decide), ?_⟩
  refine List.forall_mem_cons.mpr ⟨zs_aload_n dX9_claim_79 rfl, ?_⟩
  refine List.forall_mem_cons.mpr ⟨zs_iload dX9_claim_80, ?_⟩
  refine List.forall_mem_cons.mpr ⟨zs_callV (ci := 9) (rm := zR_X9_isObject) (n := 1) rfl zM_X9_isObject gX9_claim_X9_isObject rfl (by decide +kernel) ⟨by decide, by decide⟩ dX9_claim_82, ?_⟩
  refine List.forall_mem_cons.mpr ⟨zs_ifne dX9_claim_85 (by decide), ?_⟩
  refine List.forall_mem_cons.mpr ⟨zs_aload_n dX9_claim_88 rfl, ?_⟩
  refine List.forall_mem_cons.mpr ⟨zs_iconst dX9_claim_89 (by decide), ?_⟩
  refine List.forall_mem_cons.mpr ⟨zs_callV (ci := 9) (rm := zR_X9_fail) (n := 1) rfl zM_X9_fail gX9_claim_X9_fail rfl (by decide +kernel) ⟨by decide, by decide⟩ dX9_claim_90, ?_⟩
  refine List.forall_mem_cons.mpr ⟨zs_reti (ty := .int) rfl (fun x h => (zni x h).1) dX9_claim_93, ?_⟩
  refine List.forall_mem_cons.mpr ⟨zs_iload_n dX9_claim_94 rfl, ?_⟩
  refine List.forall_mem_cons.mpr ⟨zs_bipush dX9_claim_95 (by decide), ?_⟩
  refine List.forall_mem_cons.mpr ⟨zs_icne dX9_claim_97 (by decide), ?_⟩
  refine List.forall_mem_cons.mpr ⟨zs_sipush dX9_claim_100 (by decide), ?_⟩
  refine List.forall_mem_cons.mpr ⟨zs_aload_n dX9_claim_103 rfl, ?_⟩
  refine List.forall_mem_cons.mpr ⟨zs_iload_n dX9_claim_104 rfl, ?_⟩
  refine List.forall_mem_cons.mpr ⟨zs_callV (ci := 9) (rm := zR_X9_sort) (n := 1) rfl zM_X9_sort gX9_claim_X9_sort rfl (by decide +kernel) ⟨by decide, by decide⟩ dX9_claim_105, ?_⟩
  refine List.forall_mem_cons.mpr ⟨zs_iconst dX9_claim_108 (by decide), ?_⟩
  refine List.forall_mem_cons.mpr ⟨zs_iadd dX9_claim_109, ?_⟩
  refine List.forall_mem_cons.mpr ⟨zs_imul dX9_claim_110, ?_⟩
  refine List.forall_mem_cons.mpr ⟨zs_goto dX9_claim_111 (by decide), ?_⟩
  refine List.forall_mem_cons.mpr ⟨zs_sget (index := 158) (t := 3) (C := "PrimePlaneModel") (n := "CLAIM_NEEDS") (by decide) (List.mem_of_getElem? (i := 2) rfl) dX9_claim_114, ?_⟩
  refine List.forall_mem_cons.mpr ⟨zs_iload_n dX9_claim_117 rfl, ?_⟩
  refine List.forall_mem_cons.mpr ⟨zs_iald dX9_claim_118, ?_⟩
  refine List.forall_mem_cons.mpr ⟨zs_istore dX9_claim_119, ?_⟩
  refine List.forall_mem_cons.mpr ⟨zs_aload_n dX9_claim_121 rfl, ?_⟩
  refine List.forall_mem_cons.mpr ⟨zs_iload dX9_claim_122, ?_⟩
  refine List.forall_mem_cons.mpr ⟨zs_sipush dX9_claim_124 (by decide), ?_⟩
  refine List.forall_mem_cons.mpr ⟨zs_iconst dX9_claim_127 (by decide), ?_⟩
  refine List.forall_mem_cons.mpr ⟨zs_newa zEMok (List.mem_of_getElem? (i := 3) rfl) dX9_claim_128, ?_⟩
  refine List.forall_mem_cons.mpr ⟨zs_dup dX9_claim_130, ?_⟩
  refine List.forall_mem_cons.mpr ⟨zs_iconst dX9_claim_131 (by decide), ?_⟩
  refine List.forall_mem_cons.mpr ⟨zs_iload_n dX9_claim_132 rfl, ?_⟩
  refine List.forall_mem_cons.mpr ⟨zs_iast dX9_claim_133, ?_⟩
  refine List.forall_mem_cons.mpr ⟨zs_dup dX9_claim_134, ?_⟩
  refine List.forall_mem_cons.mpr ⟨zs_iconst dX9_claim_135 (by decide), ?_⟩
  refine List.forall_mem_cons.mpr ⟨zs_iload_n dX9_claim_136 rfl, ?_⟩
  refine List.forall_mem_cons.mpr ⟨zs_iast dX9_claim_137, ?_⟩
  refine List.forall_mem_cons.mpr ⟨zs_dup dX9_claim_138, ?_⟩
  refine List.forall_mem_cons.mpr ⟨zs_iconst dX9_claim_139 (by decide), ?_⟩
  refine List.forall_mem_cons.mpr ⟨zs_iload dX9_claim_140, ?_⟩
  refine List.forall_mem_cons.mpr ⟨zs_iast dX9_claim_142, ?_⟩
  refine List.forall_mem_cons.mpr ⟨zs_dup dX9_claim_143, ?_⟩
  refine List.forall_mem_cons.mpr ⟨zs_iconst dX9_claim_144 (by decide), ?_⟩
  refine List.forall_mem_cons.mpr ⟨zs_iload dX9_claim_145, ?_⟩
  refine List.forall_mem_cons.mpr ⟨zs_iast dX9_claim_147, ?_⟩
  refine List.forall_mem_cons.mpr ⟨zs_callV (ci := 9) (rm := zR_X9_areOf) (n := 3) rfl zM_X9_areOf gX9_claim_X9_areOf rfl (by decide +kernel) ⟨by decide, by decide⟩ dX9_claim_148, ?_⟩
  refine List.forall_mem_cons.mpr ⟨zs_ifeq dX9_claim_151 (by decide), ?_⟩
  refine List.forall_mem_cons.mpr ⟨zs_aload_n dX9_claim_154 rfl, ?_⟩
  refine List.forall_mem_cons.mpr ⟨zs_get (ci := 9) (j := 4) (N := 10) (C := RX9) (T := TX9) (index := 55) rfl (by decide) hin9 (List.mem_of_getElem? (i := 4) rfl) dX9_claim_155, ?_⟩
  refine List.forall_mem_cons.mpr ⟨zs_bipush dX9_claim_158 (by decide), ?_⟩
  refine List.forall_mem_cons.mpr ⟨zs_icne dX9_claim_160 (by decide), ?_⟩
  refine List.forall_mem_cons.mpr ⟨zs_aload_n dX9_claim_163 rfl, ?_⟩
  refine List.forall_mem_cons.mpr ⟨zs_iconst dX9_claim_164 (by decide), ?_⟩
  refine List.forall_mem_cons.mpr ⟨zs_callV (ci := 9) (rm := zR_X9_fail) (n := 1) rfl zM_X9_fail gX9_claim_X9_fail rfl (by decide +kernel) ⟨by decide, by decide⟩ dX9_claim_165, ?_⟩
  refine List.forall_mem_cons.mpr ⟨zs_reti (ty := .int) rfl (fun x h => (zni x h).1) dX9_claim_168, ?_⟩
  refine List.forall_mem_cons.mpr ⟨zs_iconst dX9_claim_169 (by decide), ?_⟩
  refine List.forall_mem_cons.mpr ⟨zs_newa zEMok (List.mem_of_getElem? (i := 3) rfl) dX9_claim_170, ?_⟩
  refine List.forall_mem_cons.mpr ⟨zs_dup dX9_claim_172, ?_⟩
  refine List.forall_mem_cons.mpr ⟨zs_iconst dX9_claim_173 (by decide), ?_⟩
  refine List.forall_mem_cons.mpr ⟨zs_iload_n dX9_claim_174 rfl, ?_⟩
  refine List.forall_mem_cons.mpr ⟨zs_iast dX9_claim_175, ?_⟩
  refine List.forall_mem_cons.mpr ⟨zs_dup dX9_claim_176, ?_⟩
  refine List.forall_mem_cons.mpr ⟨zs_iconst dX9_claim_177 (by decide), ?_⟩
  refine List.forall_mem_cons.mpr ⟨zs_iload_n dX9_claim_178 rfl, ?_⟩
  refine List.forall_mem_cons.mpr ⟨zs_iast dX9_claim_179, ?_⟩
  refine List.forall_mem_cons.mpr ⟨zs_dup dX9_claim_180, ?_⟩
  refine List.forall_mem_cons.mpr ⟨zs_iconst dX9_claim_181 (by decide), ?_⟩
  refine List.forall_mem_cons.mpr ⟨zs_iload_n dX9_claim_182 rfl, ?_⟩
  refine List.forall_mem_cons.mpr ⟨zs_iast dX9_claim_183, ?_⟩
  refine List.forall_mem_cons.mpr ⟨zs_dup dX9_claim_184, ?_⟩
  refine List.forall_mem_cons.mpr ⟨zs_iconst dX9_claim_185 (by decide), ?_⟩
  refine List.forall_mem_cons.mpr ⟨zs_iload dX9_claim_186, ?_⟩
  refine List.forall_mem_cons.mpr ⟨zs_iast dX9_claim_188, ?_⟩
  refine List.forall_mem_cons.mpr ⟨zs_dup dX9_claim_189, ?_⟩
  refine List.forall_mem_cons.mpr ⟨zs_iconst dX9_claim_190 (by decide), ?_⟩
  refine List.forall_mem_cons.mpr ⟨zs_iload dX9_claim_191, ?_⟩
  refine List.forall_mem_cons.mpr ⟨zs_iast dX9_claim_193, ?_⟩
  refine List.forall_mem_cons.mpr ⟨zs_astore dX9_claim_194, ?_⟩
  refine List.forall_mem_cons.mpr ⟨zs_aload dX9_claim_196, ?_⟩
  refine List.forall_mem_cons.mpr ⟨zs_iconst dX9_claim_198 (by decide), ?_⟩
  refine List.forall_mem_cons.mpr ⟨zs_aload_n dX9_claim_199 rfl, ?_⟩
  refine List.forall_mem_cons.mpr ⟨zs_get (ci := 9) (j := 5) (N := 10) (C := RX9) (T := TX9) (index := 17) rfl (by decide) hin9 (List.mem_of_getElem? (i := 5) rfl) dX9_claim_200, ?_⟩
  refine List.forall_mem_cons.mpr ⟨zs_iconst dX9_claim_203 (by decide), ?_⟩
  refine List.forall_mem_cons.mpr ⟨zs_aload_n dX9_claim_204 rfl, ?_⟩
  refine List.forall_mem_cons.mpr ⟨zs_get (ci := 9) (j := 4) (N := 10) (C := RX9) (T := TX9) (index := 55) rfl (by decide) hin9 (List.mem_of_getElem? (i := 4) rfl) dX9_claim_205, ?_⟩
  refine List.forall_mem_cons.mpr ⟨zs_imul dX9_claim_208, ?_⟩
  refine List.forall_mem_cons.mpr ⟨zs_iconst dX9_claim_209 (by decide), ?_⟩
  refine List.forall_mem_cons.mpr ⟨zs_acopy (index := 121) (List.mem_of_getElem? (i := 6) rfl) (List.mem_of_getElem? (i := 7) rfl) (List.mem_of_getElem? (i := 8) rfl) (List.mem_of_getElem? (i := 9) rfl) ⟨by decide, by decide⟩ dX9_claim_210, ?_⟩
  refine List.forall_mem_cons.mpr ⟨zs_aload_n dX9_claim_213 rfl, ?_⟩
  refine List.forall_mem_cons.mpr ⟨zs_dup dX9_claim_214, ?_⟩
  refine List.forall_mem_cons.mpr ⟨zs_get (ci := 9) (j := 4) (N := 10) (C := RX9) (T := TX9) (index := 55) rfl (by decide) hin9 (List.mem_of_getElem? (i := 4) rfl) dX9_claim_215, ?_⟩
  refine List.forall_mem_cons.mpr ⟨zs_iconst dX9_claim_218 (by decide), ?_⟩
  refine List.forall_mem_cons.mpr ⟨zs_iadd dX9_claim_219, ?_⟩
  refine List.forall_mem_cons.mpr ⟨zs_put (ci := 9) (j := 4) (N := 10) (C := RX9) (T := TX9) (index := 55) (b := false) .int tyX9 rfl (by decide) hin9 tyX9_ok nmX9 (List.mem_of_getElem? (i := 4) rfl) rfl (by decide +kernel) zni dX9_claim_220, ?_⟩
  refine List.forall_mem_cons.mpr ⟨zs_aload_n dX9_claim_223 rfl, ?_⟩
  refine List.forall_mem_cons.mpr ⟨zs_get (ci := 9) (j := 4) (N := 10) (C := RX9) (T := TX9) (index := 55) rfl (by decide) hin9 (List.mem_of_getElem? (i := 4) rfl) dX9_claim_224, ?_⟩
  refine List.forall_mem_cons.mpr ⟨zs_iconst dX9_claim_227 (by decide), ?_⟩
  refine List.forall_mem_cons.mpr ⟨zs_isub dX9_claim_228, ?_⟩
  refine List.forall_mem_cons.mpr ⟨zs_reti (ty := .int) rfl (fun x h => (zni x h).1) dX9_claim_229, ?_⟩
  exact fun _ h => absurd h List.not_mem_nil
theorem zM_X9_claim : zMeets zEM yX9_claim wsX9_claim zR_X9_claim m_X9_claim := zmeth_M zEMok (zlook_all (zcs_X9_claim rfl)) (by decide +kernel) rfl
theorem zr_X9_claim_0 (a1 a2 a3 a4 a5 a6 a7 a8 : Option zAV) (st : List zAV) (s : zAS) (k : Nat × Nat) (o : Nat × Nat) : zev zk_X9_claim (0, [some (Sum.inr o), a1, a2, a3, a4, a5, a6, a7, a8], st, s, k) = zev zk_X9_claim (1, [some (Sum.inr o), a1, a2, a3, a4, a5, a6, a7, a8], Sum.inr o :: st, s, k) := zev_go rfl rfl
theorem zr_X9_claim_1 (ls : zLs) (st : List zAV) (s : zAS) (k : Nat × Nat) : zev zk_X9_claim (1, ls, st, s, k) = zev zk_X9_claim (2, ls, Sum.inl (Value.int (0)) :: st, s, k) := zev_go rfl rfl
theorem zr_X9_claim_2 (ls : zLs) (st : List zAV) (s : zAS) (k : Nat × Nat) (o i : Nat) (x : Int32) (h : zpok zEM 9 0 false o i x) : zev zk_X9_claim (2, ls, Sum.inl (Value.int x) :: Sum.inr (o, i) :: st, s, k) = zev zk_X9_claim (5, ls, st, (zup s.1 o i 0 x, s.2), k) := zf_put rfl h
theorem zr_X9_claim_5 (a0 a2 a3 a4 a5 a6 a7 a8 : Option zAV) (st : List zAV) (s : zAS) (k : Nat × Nat) (x : Int32) : zev zk_X9_claim (5, [a0, some (Sum.inl (Value.int x)), a2, a3, a4, a5, a6, a7, a8], st, s, k) = zev zk_X9_claim (6, [a0, some (Sum.inl (Value.int x)), a2, a3, a4, a5, a6, a7, a8], Sum.inl (Value.int x) :: st, s, k) := zev_go rfl rfl
theorem zr_X9_claim_6 (ls : zLs) (st : List zAV) (s : zAS) (k : Nat × Nat) : zev zk_X9_claim (6, ls, st, s, k) = zev zk_X9_claim (7, ls, Sum.inl (Value.int (0)) :: st, s, k) := zev_go rfl rfl
theorem zr_X9_claim_7 (ls : zLs) (st : List zAV) (s : zAS) (k : Nat × Nat) : zev zk_X9_claim (7, ls, st, s, k) = zev zk_X9_claim (9, ls, Sum.inl (Value.int (7)) :: st, s, k) := zev_go rfl rfl
theorem zr_X9_claim_9 (ls : zLs) (st : List zAV) (s : zAS) (k : Nat × Nat) (v0 v1 v2 : zAV) (h : (st.map zcat).sum ≤ 8 ∧ k.1 + 0 ≤ (zR_X9_claim).cells ∧ k.2 + 0 ≤ (zR_X9_claim).slots) : zev zk_X9_claim (9, ls, v2 :: v1 :: v0 :: st, s, k) = zret zk_X9_claim 12 ls st (k.1 + 0, k.2 + 0) (m_X9_isIn [v0, v1, v2] s) := zf_callS (as := [v2, v1, v0]) 3 rfl rfl h
theorem zr_X9_claim_12 (ls : zLs) (st : List zAV) (s : zAS) (k : Nat × Nat) (x : Int32) : zev zk_X9_claim (12, ls, Sum.inl (Value.int x) :: st, s, k) = if decide (¬ x = 0) = true then zev zk_X9_claim (21, ls, st, s, k) else zev zk_X9_claim (15, ls, st, s, k) := zf_if (f := fun x => decide (¬ x = 0)) rfl
theorem zr_X9_claim_15 (a1 a2 a3 a4 a5 a6 a7 a8 : Option zAV) (st : List zAV) (s : zAS) (k : Nat × Nat) (o : Nat × Nat) : zev zk_X9_claim (15, [some (Sum.inr o), a1, a2, a3, a4, a5, a6, a7, a8], st, s, k) = zev zk_X9_claim (16, [some (Sum.inr o), a1, a2, a3, a4, a5, a6, a7, a8], Sum.inr o :: st, s, k) := zev_go rfl rfl
theorem zr_X9_claim_16 (ls : zLs) (st : List zAV) (s : zAS) (k : Nat × Nat) : zev zk_X9_claim (16, ls, st, s, k) = zev zk_X9_claim (17, ls, Sum.inl (Value.int (1)) :: st, s, k) := zev_go rfl rfl
theorem zr_X9_claim_17 (ls : zLs) (st : List zAV) (s : zAS) (k : Nat × Nat) (r v0 : zAV) (h : zcok zEM 9 0 0 (zR_X9_claim).cells (zR_X9_claim).slots r st k) : zev zk_X9_claim (17, ls, v0 :: r :: st, s, k) = zret zk_X9_claim 20 ls st (k.1 + 0, k.2 + 0) (m_X9_fail [r, v0] s) := zf_callV (as := [v0]) 1 rfl rfl h
theorem zr_X9_claim_20 (ls : zLs) (s : zAS) (k : Nat × Nat) (x : Int32) : zev zk_X9_claim (20, ls, [Sum.inl (Value.int x)], s, k) = some (.inl (some (Sum.inl (Value.int x))), s) := zf_reti rfl
theorem zr_X9_claim_21 (a0 a2 a3 a4 a5 a6 a7 a8 : Option zAV) (st : List zAV) (s : zAS) (k : Nat × Nat) (x : Int32) : zev zk_X9_claim (21, [a0, some (Sum.inl (Value.int x)), a2, a3, a4, a5, a6, a7, a8], st, s, k) = zev zk_X9_claim (22, [a0, some (Sum.inl (Value.int x)), a2, a3, a4, a5, a6, a7, a8], Sum.inl (Value.int x) :: st, s, k) := zev_go rfl rfl
theorem zr_X9_claim_22 (ls : zLs) (st : List zAV) (s : zAS) (k : Nat × Nat) : zev zk_X9_claim (22, ls, st, s, k) = zev zk_X9_claim (23, ls, Sum.inl (Value.int (2)) :: st, s, k) := zev_go rfl rfl
theorem zr_X9_claim_23 (ls : zLs) (st : List zAV) (s : zAS) (k : Nat × Nat) (x y : Int32) : zev zk_X9_claim (23, ls, Sum.inl (Value.int y) :: Sum.inl (Value.int x) :: st, s, k) = if decide (x = y) = true then zev zk_X9_claim (37, ls, st, s, k) else zev zk_X9_claim (26, ls, st, s, k) := zf_cmp (f := fun x y => decide (x = y)) rfl
theorem zr_X9_claim_26 (a0 a2 a3 a4 a5 a6 a7 a8 : Option zAV) (st : List zAV) (s : zAS) (k : Nat × Nat) (x : Int32) : zev zk_X9_claim (26, [a0, some (Sum.inl (Value.int x)), a2, a3, a4, a5, a6, a7, a8], st, s, k) = zev zk_X9_claim (27, [a0, some (Sum.inl (Value.int x)), a2, a3, a4, a5, a6, a7, a8], Sum.inl (Value.int x) :: st, s, k) := zev_go rfl rfl
theorem zr_X9_claim_27 (ls : zLs) (st : List zAV) (s : zAS) (k : Nat × Nat) : zev zk_X9_claim (27, ls, st, s, k) = zev zk_X9_claim (28, ls, Sum.inl (Value.int (5)) :: st, s, k) := zev_go rfl rfl
theorem zr_X9_claim_28 (ls : zLs) (st : List zAV) (s : zAS) (k : Nat × Nat) (x y : Int32) : zev zk_X9_claim (28, ls, Sum.inl (Value.int y) :: Sum.inl (Value.int x) :: st, s, k) = if decide (x = y) = true then zev zk_X9_claim (37, ls, st, s, k) else zev zk_X9_claim (31, ls, st, s, k) := zf_cmp (f := fun x y => decide (x = y)) rfl
theorem zr_X9_claim_31 (a0 a2 a3 a4 a5 a6 a7 a8 : Option zAV) (st : List zAV) (s : zAS) (k : Nat × Nat) (x : Int32) : zev zk_X9_claim (31, [a0, some (Sum.inl (Value.int x)), a2, a3, a4, a5, a6, a7, a8], st, s, k) = zev zk_X9_claim (32, [a0, some (Sum.inl (Value.int x)), a2, a3, a4, a5, a6, a7, a8], Sum.inl (Value.int x) :: st, s, k) := zev_go rfl rfl
theorem zr_X9_claim_32 (ls : zLs) (st : List zAV) (s : zAS) (k : Nat × Nat) : zev zk_X9_claim (32, ls, st, s, k) = zev zk_X9_claim (34, ls, Sum.inl (Value.int (7)) :: st, s, k) := zev_go rfl rfl
theorem zr_X9_claim_34 (ls : zLs) (st : List zAV) (s : zAS) (k : Nat × Nat) (x y : Int32) : zev zk_X9_claim (34, ls, Sum.inl (Value.int y) :: Sum.inl (Value.int x) :: st, s, k) = if decide (¬ x = y) = true then zev zk_X9_claim (41, ls, st, s, k) else zev zk_X9_claim (37, ls, st, s, k) := zf_cmp (f := fun x y => decide (¬ x = y)) rfl
theorem zr_X9_claim_37 (ls : zLs) (st : List zAV) (s : zAS) (k : Nat × Nat) : zev zk_X9_claim (37, ls, st, s, k) = zev zk_X9_claim (38, ls, Sum.inl (Value.int (1)) :: st, s, k) := zev_go rfl rfl
theorem zr_X9_claim_38 (ls : zLs) (st : List zAV) (s : zAS) (k : Nat × Nat) : zev zk_X9_claim (38, ls, st, s, k) = zev zk_X9_claim (42, ls, st, s, k) := zev_go rfl rfl
theorem zr_X9_claim_41 (ls : zLs) (st : List zAV) (s : zAS) (k : Nat × Nat) : zev zk_X9_claim (41, ls, st, s, k) = zev zk_X9_claim (42, ls, Sum.inl (Value.int (0)) :: st, s, k) := zev_go rfl rfl
theorem zr_X9_claim_42 (a0 a1 a2 a3 a4 a5 a6 a7 a8 : Option zAV) (st : List zAV) (s : zAS) (k : Nat × Nat) (x : Int32) : zev zk_X9_claim (42, [a0, a1, a2, a3, a4, a5, a6, a7, a8], Sum.inl (Value.int x) :: st, s, k) = zev zk_X9_claim (44, [a0, a1, a2, a3, a4, zk1 a5, some (Sum.inl (Value.int x)), a7, a8], st, s, k) := zev_go rfl rfl
theorem zr_X9_claim_44 (a1 a2 a3 a4 a5 a6 a7 a8 : Option zAV) (st : List zAV) (s : zAS) (k : Nat × Nat) (o : Nat × Nat) : zev zk_X9_claim (44, [some (Sum.inr o), a1, a2, a3, a4, a5, a6, a7, a8], st, s, k) = zev zk_X9_claim (45, [some (Sum.inr o), a1, a2, a3, a4, a5, a6, a7, a8], Sum.inr o :: st, s, k) := zev_go rfl rfl
theorem zr_X9_claim_45 (a0 a1 a3 a4 a5 a6 a7 a8 : Option zAV) (st : List zAV) (s : zAS) (k : Nat × Nat) (x : Int32) : zev zk_X9_claim (45, [a0, a1, some (Sum.inl (Value.int x)), a3, a4, a5, a6, a7, a8], st, s, k) = zev zk_X9_claim (46, [a0, a1, some (Sum.inl (Value.int x)), a3, a4, a5, a6, a7, a8], Sum.inl (Value.int x) :: st, s, k) := zev_go rfl rfl
theorem zr_X9_claim_46 (ls : zLs) (st : List zAV) (s : zAS) (k : Nat × Nat) (r v0 : zAV) (h : zcok zEM 9 0 0 (zR_X9_claim).cells (zR_X9_claim).slots r st k) : zev zk_X9_claim (46, ls, v0 :: r :: st, s, k) = zret zk_X9_claim 49 ls st (k.1 + 0, k.2 + 0) (m_X9_isObject [r, v0] s) := zf_callV (as := [v0]) 1 rfl rfl h
theorem zr_X9_claim_49 (ls : zLs) (st : List zAV) (s : zAS) (k : Nat × Nat) (x : Int32) : zev zk_X9_claim (49, ls, Sum.inl (Value.int x) :: st, s, k) = if decide (x = 0) = true then zev zk_X9_claim (88, ls, st, s, k) else zev zk_X9_claim (52, ls, st, s, k) := zf_if (f := fun x => decide (x = 0)) rfl
theorem zr_X9_claim_52 (a1 a2 a3 a4 a5 a6 a7 a8 : Option zAV) (st : List zAV) (s : zAS) (k : Nat × Nat) (o : Nat × Nat) : zev zk_X9_claim (52, [some (Sum.inr o), a1, a2, a3, a4, a5, a6, a7, a8], st, s, k) = zev zk_X9_claim (53, [some (Sum.inr o), a1, a2, a3, a4, a5, a6, a7, a8], Sum.inr o :: st, s, k) := zev_go rfl rfl
theorem zr_X9_claim_53 (a0 a1 a2 a4 a5 a6 a7 a8 : Option zAV) (st : List zAV) (s : zAS) (k : Nat × Nat) (x : Int32) : zev zk_X9_claim (53, [a0, a1, a2, some (Sum.inl (Value.int x)), a4, a5, a6, a7, a8], st, s, k) = zev zk_X9_claim (54, [a0, a1, a2, some (Sum.inl (Value.int x)), a4, a5, a6, a7, a8], Sum.inl (Value.int x) :: st, s, k) := zev_go rfl rfl
theorem zr_X9_claim_54 (ls : zLs) (st : List zAV) (s : zAS) (k : Nat × Nat) (r v0 : zAV) (h : zcok zEM 9 0 0 (zR_X9_claim).cells (zR_X9_claim).slots r st k) : zev zk_X9_claim (54, ls, v0 :: r :: st, s, k) = zret zk_X9_claim 57 ls st (k.1 + 0, k.2 + 0) (m_X9_isObject [r, v0] s) := zf_callV (as := [v0]) 1 rfl rfl h
theorem zr_X9_claim_57 (ls : zLs) (st : List zAV) (s : zAS) (k : Nat × Nat) (x : Int32) : zev zk_X9_claim (57, ls, Sum.inl (Value.int x) :: st, s, k) = if decide (x = 0) = true then zev zk_X9_claim (88, ls, st, s, k) else zev zk_X9_claim (60, ls, st, s, k) := zf_if (f := fun x => decide (x = 0)) rfl
theorem zr_X9_claim_60 (a0 a1 a2 a3 a4 a5 a7 a8 : Option zAV) (st : List zAV) (s : zAS) (k : Nat × Nat) (x : Int32) : zev zk_X9_claim (60, [a0, a1, a2, a3, a4, a5, some (Sum.inl (Value.int x)), a7, a8], st, s, k) = zev zk_X9_claim (62, [a0, a1, a2, a3, a4, a5, some (Sum.inl (Value.int x)), a7, a8], Sum.inl (Value.int x) :: st, s, k) := zev_go rfl rfl
theorem zr_X9_claim_62 (ls : zLs) (st : List zAV) (s : zAS) (k : Nat × Nat) (x : Int32) : zev zk_X9_claim (62, ls, Sum.inl (Value.int x) :: st, s, k) = if decide (x = 0) = true then zev zk_X9_claim (74, ls, st, s, k) else zev zk_X9_claim (65, ls, st, s, k) := zf_if (f := fun x => decide (x = 0)) rfl
theorem zr_X9_claim_65 (a1 a2 a3 a4 a5 a6 a7 a8 : Option zAV) (st : List zAV) (s : zAS) (k : Nat × Nat) (o : Nat × Nat) : zev zk_X9_claim (65, [some (Sum.inr o), a1, a2, a3, a4, a5, a6, a7, a8], st, s, k) = zev zk_X9_claim (66, [some (Sum.inr o), a1, a2, a3, a4, a5, a6, a7, a8], Sum.inr o :: st, s, k) := zev_go rfl rfl
theorem zr_X9_claim_66 (a0 a1 a2 a3 a5 a6 a7 a8 : Option zAV) (st : List zAV) (s : zAS) (k : Nat × Nat) (x : Int32) : zev zk_X9_claim (66, [a0, a1, a2, a3, some (Sum.inl (Value.int x)), a5, a6, a7, a8], st, s, k) = zev zk_X9_claim (68, [a0, a1, a2, a3, some (Sum.inl (Value.int x)), a5, a6, a7, a8], Sum.inl (Value.int x) :: st, s, k) := zev_go rfl rfl
theorem zr_X9_claim_68 (ls : zLs) (st : List zAV) (s : zAS) (k : Nat × Nat) (r v0 : zAV) (h : zcok zEM 9 0 0 (zR_X9_claim).cells (zR_X9_claim).slots r st k) : zev zk_X9_claim (68, ls, v0 :: r :: st, s, k) = zret zk_X9_claim 71 ls st (k.1 + 0, k.2 + 0) (m_X9_isObject [r, v0] s) := zf_callV (as := [v0]) 1 rfl rfl h
theorem zr_X9_claim_71 (ls : zLs) (st : List zAV) (s : zAS) (k : Nat × Nat) (x : Int32) : zev zk_X9_claim (71, ls, Sum.inl (Value.int x) :: st, s, k) = if decide (x = 0) = true then zev zk_X9_claim (88, ls, st, s, k) else zev zk_X9_claim (74, ls, st, s, k) := zf_if (f := fun x => decide (x = 0)) rfl
theorem zr_X9_claim_74 (a0 a2 a3 a4 a5 a6 a7 a8 : Option zAV) (st : List zAV) (s : zAS) (k : Nat × Nat) (x : Int32) : zev zk_X9_claim (74, [a0, some (Sum.inl (Value.int x)), a2, a3, a4, a5, a6, a7, a8], st, s, k) = zev zk_X9_claim (75, [a0, some (Sum.inl (Value.int x)), a2, a3, a4, a5, a6, a7, a8], Sum.inl (Value.int x) :: st, s, k) := zev_go rfl rfl
theorem zr_X9_claim_75 (ls : zLs) (st : List zAV) (s : zAS) (k : Nat × Nat) : zev zk_X9_claim (75, ls, st, s, k) = zev zk_X9_claim (76, ls, Sum.inl (Value.int (5)) :: st, s, k) := zev_go rfl rfl
theorem zr_X9_claim_76 (ls : zLs) (st : List zAV) (s : zAS) (k : Nat × Nat) (x y : Int32) : zev zk_X9_claim (76, ls, Sum.inl (Value.int y) :: Sum.inl (Value.int x) :: st, s, k) = if decide (¬ x = y) = true then zev zk_X9_claim (94, ls, st, s, k) else zev zk_X9_claim (79, ls, st, s, k) := zf_cmp (f := fun x y => decide (¬ x = y)) rfl
theorem zr_X9_claim_79 (a1 a2 a3 a4 a5 a6 a7 a8 : Option zAV) (st : List zAV) (s : zAS) (k : Nat × Nat) (o : Nat × Nat) : zev zk_X9_claim (79, [some (Sum.inr o), a1, a2, a3, a4, a5, a6, a7, a8], st, s, k) = zev zk_X9_claim (80, [some (Sum.inr o), a1, a2, a3, a4, a5, a6, a7, a8], Sum.inr o :: st, s, k) := zev_go rfl rfl
theorem zr_X9_claim_80 (a0 a1 a2 a3 a4 a6 a7 a8 : Option zAV) (st : List zAV) (s : zAS) (k : Nat × Nat) (x : Int32) : zev zk_X9_claim (80, [a0, a1, a2, a3, a4, some (Sum.inl (Value.int x)), a6, a7, a8], st, s, k) = zev zk_X9_claim (82, [a0, a1, a2, a3, a4, some (Sum.inl (Value.int x)), a6, a7, a8], Sum.inl (Value.int x) :: st, s, k) := zev_go rfl rfl
theorem zr_X9_claim_82 (ls : zLs) (st : List zAV) (s : zAS) (k : Nat × Nat) (r v0 : zAV) (h : zcok zEM 9 0 0 (zR_X9_claim).cells (zR_X9_claim).slots r st k) : zev zk_X9_claim (82, ls, v0 :: r :: st, s, k) = zret zk_X9_claim 85 ls st (k.1 + 0, k.2 + 0) (m_X9_isObject [r, v0] s) := zf_callV (as := [v0]) 1 rfl rfl h
theorem zr_X9_claim_85 (ls : zLs) (st : List zAV) (s : zAS) (k : Nat × Nat) (x : Int32) : zev zk_X9_claim (85, ls, Sum.inl (Value.int x) :: st, s, k) = if decide (¬ x = 0) = true then zev zk_X9_claim (94, ls, st, s, k) else zev zk_X9_claim (88, ls, st, s, k) := zf_if (f := fun x => decide (¬ x = 0)) rfl
theorem zr_X9_claim_88 (a1 a2 a3 a4 a5 a6 a7 a8 : Option zAV) (st : List zAV) (s : zAS) (k : Nat × Nat) (o : Nat × Nat) : zev zk_X9_claim (88, [some (Sum.inr o), a1, a2, a3, a4, a5, a6, a7, a8], st, s, k) = zev zk_X9_claim (89, [some (Sum.inr o), a1, a2, a3, a4, a5, a6, a7, a8], Sum.inr o :: st, s, k) := zev_go rfl rfl
theorem zr_X9_claim_89 (ls : zLs) (st : List zAV) (s : zAS) (k : Nat × Nat) : zev zk_X9_claim (89, ls, st, s, k) = zev zk_X9_claim (90, ls, Sum.inl (Value.int (2)) :: st, s, k) := zev_go rfl rfl
theorem zr_X9_claim_90 (ls : zLs) (st : List zAV) (s : zAS) (k : Nat × Nat) (r v0 : zAV) (h : zcok zEM 9 0 0 (zR_X9_claim).cells (zR_X9_claim).slots r st k) : zev zk_X9_claim (90, ls, v0 :: r :: st, s, k) = zret zk_X9_claim 93 ls st (k.1 + 0, k.2 + 0) (m_X9_fail [r, v0] s) := zf_callV (as := [v0]) 1 rfl rfl h
theorem zr_X9_claim_93 (ls : zLs) (s : zAS) (k : Nat × Nat) (x : Int32) : zev zk_X9_claim (93, ls, [Sum.inl (Value.int x)], s, k) = some (.inl (some (Sum.inl (Value.int x))), s) := zf_reti rfl
theorem zr_X9_claim_94 (a0 a2 a3 a4 a5 a6 a7 a8 : Option zAV) (st : List zAV) (s : zAS) (k : Nat × Nat) (x : Int32) : zev zk_X9_claim (94, [a0, some (Sum.inl (Value.int x)), a2, a3, a4, a5, a6, a7, a8], st, s, k) = zev zk_X9_claim (95, [a0, some (Sum.inl (Value.int x)), a2, a3, a4, a5, a6, a7, a8], Sum.inl (Value.int x) :: st, s, k) := zev_go rfl rfl
theorem zr_X9_claim_95 (ls : zLs) (st : List zAV) (s : zAS) (k : Nat × Nat) : zev zk_X9_claim (95, ls, st, s, k) = zev zk_X9_claim (97, ls, Sum.inl (Value.int (6)) :: st, s, k) := zev_go rfl rfl
theorem zr_X9_claim_97 (ls : zLs) (st : List zAV) (s : zAS) (k : Nat × Nat) (x y : Int32) : zev zk_X9_claim (97, ls, Sum.inl (Value.int y) :: Sum.inl (Value.int x) :: st, s, k) = if decide (¬ x = y) = true then zev zk_X9_claim (114, ls, st, s, k) else zev zk_X9_claim (100, ls, st, s, k) := zf_cmp (f := fun x y => decide (¬ x = y)) rfl
theorem zr_X9_claim_100 (ls : zLs) (st : List zAV) (s : zAS) (k : Nat × Nat) : zev zk_X9_claim (100, ls, st, s, k) = zev zk_X9_claim (103, ls, Sum.inl (Value.int (1100)) :: st, s, k) := zev_go rfl rfl
theorem zr_X9_claim_103 (a1 a2 a3 a4 a5 a6 a7 a8 : Option zAV) (st : List zAV) (s : zAS) (k : Nat × Nat) (o : Nat × Nat) : zev zk_X9_claim (103, [some (Sum.inr o), a1, a2, a3, a4, a5, a6, a7, a8], st, s, k) = zev zk_X9_claim (104, [some (Sum.inr o), a1, a2, a3, a4, a5, a6, a7, a8], Sum.inr o :: st, s, k) := zev_go rfl rfl
theorem zr_X9_claim_104 (a0 a1 a3 a4 a5 a6 a7 a8 : Option zAV) (st : List zAV) (s : zAS) (k : Nat × Nat) (x : Int32) : zev zk_X9_claim (104, [a0, a1, some (Sum.inl (Value.int x)), a3, a4, a5, a6, a7, a8], st, s, k) = zev zk_X9_claim (105, [a0, a1, some (Sum.inl (Value.int x)), a3, a4, a5, a6, a7, a8], Sum.inl (Value.int x) :: st, s, k) := zev_go rfl rfl
theorem zr_X9_claim_105 (ls : zLs) (st : List zAV) (s : zAS) (k : Nat × Nat) (r v0 : zAV) (h : zcok zEM 9 0 0 (zR_X9_claim).cells (zR_X9_claim).slots r st k) : zev zk_X9_claim (105, ls, v0 :: r :: st, s, k) = zret zk_X9_claim 108 ls st (k.1 + 0, k.2 + 0) (m_X9_sort [r, v0] s) := zf_callV (as := [v0]) 1 rfl rfl h
theorem zr_X9_claim_108 (ls : zLs) (st : List zAV) (s : zAS) (k : Nat × Nat) : zev zk_X9_claim (108, ls, st, s, k) = zev zk_X9_claim (109, ls, Sum.inl (Value.int (1)) :: st, s, k) := zev_go rfl rfl
theorem zr_X9_claim_109 (ls : zLs) (st : List zAV) (s : zAS) (k : Nat × Nat) (x y : Int32) : zev zk_X9_claim (109, ls, Sum.inl (Value.int y) :: Sum.inl (Value.int x) :: st, s, k) = zev zk_X9_claim (110, ls, Sum.inl (Value.int (x + y)) :: st, s, k) := zev_go rfl rfl
theorem zr_X9_claim_110 (ls : zLs) (st : List zAV) (s : zAS) (k : Nat × Nat) (x y : Int32) : zev zk_X9_claim (110, ls, Sum.inl (Value.int y) :: Sum.inl (Value.int x) :: st, s, k) = zev zk_X9_claim (111, ls, Sum.inl (Value.int (x * y)) :: st, s, k) := zev_go rfl rfl
theorem zr_X9_claim_111 (ls : zLs) (st : List zAV) (s : zAS) (k : Nat × Nat) : zev zk_X9_claim (111, ls, st, s, k) = zev zk_X9_claim (119, ls, st, s, k) := zev_go rfl rfl
theorem zr_X9_claim_114 (ls : zLs) (st : List zAV) (s : zAS) (k : Nat × Nat) : zev zk_X9_claim (114, ls, st, s, k) = zev zk_X9_claim (117, ls, Sum.inr (98, 3) :: st, s, k) := zev_go rfl rfl
theorem zr_X9_claim_117 (a0 a2 a3 a4 a5 a6 a7 a8 : Option zAV) (st : List zAV) (s : zAS) (k : Nat × Nat) (x : Int32) : zev zk_X9_claim (117, [a0, some (Sum.inl (Value.int x)), a2, a3, a4, a5, a6, a7, a8], st, s, k) = zev zk_X9_claim (118, [a0, some (Sum.inl (Value.int x)), a2, a3, a4, a5, a6, a7, a8], Sum.inl (Value.int x) :: st, s, k) := zev_go rfl rfl
theorem zr_X9_claim_118 (ls : zLs) (st : List zAV) (s : zAS) (k : Nat × Nat) (o i : Nat) (j : Int32) : zev zk_X9_claim (118, ls, Sum.inl (Value.int j) :: Sum.inr (o, i) :: st, s, k) = zpush zk_X9_claim 119 ls st s k (zald zEM o i j s) := zf_iald rfl
theorem zr_X9_claim_119 (a0 a1 a2 a3 a4 a5 a6 a7 a8 : Option zAV) (st : List zAV) (s : zAS) (k : Nat × Nat) (x : Int32) : zev zk_X9_claim (119, [a0, a1, a2, a3, a4, a5, a6, a7, a8], Sum.inl (Value.int x) :: st, s, k) = zev zk_X9_claim (121, [a0, a1, a2, a3, a4, a5, zk1 a6, some (Sum.inl (Value.int x)), a8], st, s, k) := zev_go rfl rfl
theorem zr_X9_claim_121 (a1 a2 a3 a4 a5 a6 a7 a8 : Option zAV) (st : List zAV) (s : zAS) (k : Nat × Nat) (o : Nat × Nat) : zev zk_X9_claim (121, [some (Sum.inr o), a1, a2, a3, a4, a5, a6, a7, a8], st, s, k) = zev zk_X9_claim (122, [some (Sum.inr o), a1, a2, a3, a4, a5, a6, a7, a8], Sum.inr o :: st, s, k) := zev_go rfl rfl
theorem zr_X9_claim_122 (a0 a1 a2 a3 a4 a5 a6 a8 : Option zAV) (st : List zAV) (s : zAS) (k : Nat × Nat) (x : Int32) : zev zk_X9_claim (122, [a0, a1, a2, a3, a4, a5, a6, some (Sum.inl (Value.int x)), a8], st, s, k) = zev zk_X9_claim (124, [a0, a1, a2, a3, a4, a5, a6, some (Sum.inl (Value.int x)), a8], Sum.inl (Value.int x) :: st, s, k) := zev_go rfl rfl
theorem zr_X9_claim_124 (ls : zLs) (st : List zAV) (s : zAS) (k : Nat × Nat) : zev zk_X9_claim (124, ls, st, s, k) = zev zk_X9_claim (127, ls, Sum.inl (Value.int (1000)) :: st, s, k) := zev_go rfl rfl
theorem zr_X9_claim_127 (ls : zLs) (st : List zAV) (s : zAS) (k : Nat × Nat) : zev zk_X9_claim (127, ls, st, s, k) = zev zk_X9_claim (128, ls, Sum.inl (Value.int (4)) :: st, s, k) := zev_go rfl rfl
theorem zr_X9_claim_128 (ls : zLs) (st : List zAV) (s : zAS) (k : Nat × Nat) (x : Int32) (h : ¬ x < 0 ∧ x.toNatClampNeg ≤ 100 ∧ k.1 + 1 ≤ (zR_X9_claim).cells ∧ k.2 + x.toNatClampNeg ≤ (zR_X9_claim).slots ∧ st.all (zfr s.2.length) = true ∧ ls.all (zfr' s.2.length) = true) : zev zk_X9_claim (128, ls, Sum.inl (Value.int x) :: st, s, k) = zev zk_X9_claim (130, ls, Sum.inr (99, s.2.length) :: st, (s.1, s.2 ++ [(x.toNatClampNeg, fun _ => 0)]), (k.1 + 1, k.2 + x.toNatClampNeg)) := zf_newa rfl h
theorem zr_X9_claim_130 (ls : zLs) (st : List zAV) (s : zAS) (k : Nat × Nat) (v : zAV) (hv : zc1 v = true) : zev zk_X9_claim (130, ls, v :: st, s, k) = zev zk_X9_claim (131, ls, v :: v :: st, s, k) := zf_dup rfl hv
theorem zr_X9_claim_131 (ls : zLs) (st : List zAV) (s : zAS) (k : Nat × Nat) : zev zk_X9_claim (131, ls, st, s, k) = zev zk_X9_claim (132, ls, Sum.inl (Value.int (0)) :: st, s, k) := zev_go rfl rfl
theorem zr_X9_claim_132 (a0 a1 a3 a4 a5 a6 a7 a8 : Option zAV) (st : List zAV) (s : zAS) (k : Nat × Nat) (x : Int32) : zev zk_X9_claim (132, [a0, a1, some (Sum.inl (Value.int x)), a3, a4, a5, a6, a7, a8], st, s, k) = zev zk_X9_claim (133, [a0, a1, some (Sum.inl (Value.int x)), a3, a4, a5, a6, a7, a8], Sum.inl (Value.int x) :: st, s, k) := zev_go rfl rfl
theorem zr_X9_claim_133 (ls : zLs) (st : List zAV) (s : zAS) (k : Nat × Nat) (o i : Nat) (j x : Int32) : zev zk_X9_claim (133, ls, Sum.inl (Value.int x) :: Sum.inl (Value.int j) :: Sum.inr (o, i) :: st, s, k) = zgo zk_X9_claim 134 ls st k (zast zEM o i j x s) := zf_iast rfl
theorem zr_X9_claim_134 (ls : zLs) (st : List zAV) (s : zAS) (k : Nat × Nat) (v : zAV) (hv : zc1 v = true) : zev zk_X9_claim (134, ls, v :: st, s, k) = zev zk_X9_claim (135, ls, v :: v :: st, s, k) := zf_dup rfl hv
theorem zr_X9_claim_135 (ls : zLs) (st : List zAV) (s : zAS) (k : Nat × Nat) : zev zk_X9_claim (135, ls, st, s, k) = zev zk_X9_claim (136, ls, Sum.inl (Value.int (1)) :: st, s, k) := zev_go rfl rfl
theorem zr_X9_claim_136 (a0 a1 a2 a4 a5 a6 a7 a8 : Option zAV) (st : List zAV) (s : zAS) (k : Nat × Nat) (x : Int32) : zev zk_X9_claim (136, [a0, a1, a2, some (Sum.inl (Value.int x)), a4, a5, a6, a7, a8], st, s, k) = zev zk_X9_claim (137, [a0, a1, a2, some (Sum.inl (Value.int x)), a4, a5, a6, a7, a8], Sum.inl (Value.int x) :: st, s, k) := zev_go rfl rfl
theorem zr_X9_claim_137 (ls : zLs) (st : List zAV) (s : zAS) (k : Nat × Nat) (o i : Nat) (j x : Int32) : zev zk_X9_claim (137, ls, Sum.inl (Value.int x) :: Sum.inl (Value.int j) :: Sum.inr (o, i) :: st, s, k) = zgo zk_X9_claim 138 ls st k (zast zEM o i j x s) := zf_iast rfl
theorem zr_X9_claim_138 (ls : zLs) (st : List zAV) (s : zAS) (k : Nat × Nat) (v : zAV) (hv : zc1 v = true) : zev zk_X9_claim (138, ls, v :: st, s, k) = zev zk_X9_claim (139, ls, v :: v :: st, s, k) := zf_dup rfl hv
theorem zr_X9_claim_139 (ls : zLs) (st : List zAV) (s : zAS) (k : Nat × Nat) : zev zk_X9_claim (139, ls, st, s, k) = zev zk_X9_claim (140, ls, Sum.inl (Value.int (2)) :: st, s, k) := zev_go rfl rfl
theorem zr_X9_claim_140 (a0 a1 a2 a3 a5 a6 a7 a8 : Option zAV) (st : List zAV) (s : zAS) (k : Nat × Nat) (x : Int32) : zev zk_X9_claim (140, [a0, a1, a2, a3, some (Sum.inl (Value.int x)), a5, a6, a7, a8], st, s, k) = zev zk_X9_claim (142, [a0, a1, a2, a3, some (Sum.inl (Value.int x)), a5, a6, a7, a8], Sum.inl (Value.int x) :: st, s, k) := zev_go rfl rfl
theorem zr_X9_claim_142 (ls : zLs) (st : List zAV) (s : zAS) (k : Nat × Nat) (o i : Nat) (j x : Int32) : zev zk_X9_claim (142, ls, Sum.inl (Value.int x) :: Sum.inl (Value.int j) :: Sum.inr (o, i) :: st, s, k) = zgo zk_X9_claim 143 ls st k (zast zEM o i j x s) := zf_iast rfl
theorem zr_X9_claim_143 (ls : zLs) (st : List zAV) (s : zAS) (k : Nat × Nat) (v : zAV) (hv : zc1 v = true) : zev zk_X9_claim (143, ls, v :: st, s, k) = zev zk_X9_claim (144, ls, v :: v :: st, s, k) := zf_dup rfl hv
theorem zr_X9_claim_144 (ls : zLs) (st : List zAV) (s : zAS) (k : Nat × Nat) : zev zk_X9_claim (144, ls, st, s, k) = zev zk_X9_claim (145, ls, Sum.inl (Value.int (3)) :: st, s, k) := zev_go rfl rfl
theorem zr_X9_claim_145 (a0 a1 a2 a3 a4 a6 a7 a8 : Option zAV) (st : List zAV) (s : zAS) (k : Nat × Nat) (x : Int32) : zev zk_X9_claim (145, [a0, a1, a2, a3, a4, some (Sum.inl (Value.int x)), a6, a7, a8], st, s, k) = zev zk_X9_claim (147, [a0, a1, a2, a3, a4, some (Sum.inl (Value.int x)), a6, a7, a8], Sum.inl (Value.int x) :: st, s, k) := zev_go rfl rfl
theorem zr_X9_claim_147 (ls : zLs) (st : List zAV) (s : zAS) (k : Nat × Nat) (o i : Nat) (j x : Int32) : zev zk_X9_claim (147, ls, Sum.inl (Value.int x) :: Sum.inl (Value.int j) :: Sum.inr (o, i) :: st, s, k) = zgo zk_X9_claim 148 ls st k (zast zEM o i j x s) := zf_iast rfl
theorem zr_X9_claim_148 (ls : zLs) (st : List zAV) (s : zAS) (k : Nat × Nat) (r v0 v1 v2 : zAV) (h : zcok zEM 9 0 0 (zR_X9_claim).cells (zR_X9_claim).slots r st k) : zev zk_X9_claim (148, ls, v2 :: v1 :: v0 :: r :: st, s, k) = zret zk_X9_claim 151 ls st (k.1 + 0, k.2 + 0) (m_X9_areOf [r, v0, v1, v2] s) := zf_callV (as := [v2, v1, v0]) 3 rfl rfl h
theorem zr_X9_claim_151 (ls : zLs) (st : List zAV) (s : zAS) (k : Nat × Nat) (x : Int32) : zev zk_X9_claim (151, ls, Sum.inl (Value.int x) :: st, s, k) = if decide (x = 0) = true then zev zk_X9_claim (163, ls, st, s, k) else zev zk_X9_claim (154, ls, st, s, k) := zf_if (f := fun x => decide (x = 0)) rfl
theorem zr_X9_claim_154 (a1 a2 a3 a4 a5 a6 a7 a8 : Option zAV) (st : List zAV) (s : zAS) (k : Nat × Nat) (o : Nat × Nat) : zev zk_X9_claim (154, [some (Sum.inr o), a1, a2, a3, a4, a5, a6, a7, a8], st, s, k) = zev zk_X9_claim (155, [some (Sum.inr o), a1, a2, a3, a4, a5, a6, a7, a8], Sum.inr o :: st, s, k) := zev_go rfl rfl
theorem zr_X9_claim_155 (ls : zLs) (st : List zAV) (s : zAS) (k : Nat × Nat) (o i : Nat) : zev zk_X9_claim (155, ls, Sum.inr (o, i) :: st, s, k) = zpush zk_X9_claim 158 ls st s k (zgv zEM 9 4 o i s.1) := zf_get rfl
theorem zr_X9_claim_158 (ls : zLs) (st : List zAV) (s : zAS) (k : Nat × Nat) : zev zk_X9_claim (158, ls, st, s, k) = zev zk_X9_claim (160, ls, Sum.inl (Value.int (20)) :: st, s, k) := zev_go rfl rfl
theorem zr_X9_claim_160 (ls : zLs) (st : List zAV) (s : zAS) (k : Nat × Nat) (x y : Int32) : zev zk_X9_claim (160, ls, Sum.inl (Value.int y) :: Sum.inl (Value.int x) :: st, s, k) = if decide (¬ x = y) = true then zev zk_X9_claim (169, ls, st, s, k) else zev zk_X9_claim (163, ls, st, s, k) := zf_cmp (f := fun x y => decide (¬ x = y)) rfl
theorem zr_X9_claim_163 (a1 a2 a3 a4 a5 a6 a7 a8 : Option zAV) (st : List zAV) (s : zAS) (k : Nat × Nat) (o : Nat × Nat) : zev zk_X9_claim (163, [some (Sum.inr o), a1, a2, a3, a4, a5, a6, a7, a8], st, s, k) = zev zk_X9_claim (164, [some (Sum.inr o), a1, a2, a3, a4, a5, a6, a7, a8], Sum.inr o :: st, s, k) := zev_go rfl rfl
theorem zr_X9_claim_164 (ls : zLs) (st : List zAV) (s : zAS) (k : Nat × Nat) : zev zk_X9_claim (164, ls, st, s, k) = zev zk_X9_claim (165, ls, Sum.inl (Value.int (3)) :: st, s, k) := zev_go rfl rfl
theorem zr_X9_claim_165 (ls : zLs) (st : List zAV) (s : zAS) (k : Nat × Nat) (r v0 : zAV) (h : zcok zEM 9 0 0 (zR_X9_claim).cells (zR_X9_claim).slots r st k) : zev zk_X9_claim (165, ls, v0 :: r :: st, s, k) = zret zk_X9_claim 168 ls st (k.1 + 0, k.2 + 0) (m_X9_fail [r, v0] s) := zf_callV (as := [v0]) 1 rfl rfl h
theorem zr_X9_claim_168 (ls : zLs) (s : zAS) (k : Nat × Nat) (x : Int32) : zev zk_X9_claim (168, ls, [Sum.inl (Value.int x)], s, k) = some (.inl (some (Sum.inl (Value.int x))), s) := zf_reti rfl
theorem zr_X9_claim_169 (ls : zLs) (st : List zAV) (s : zAS) (k : Nat × Nat) : zev zk_X9_claim (169, ls, st, s, k) = zev zk_X9_claim (170, ls, Sum.inl (Value.int (5)) :: st, s, k) := zev_go rfl rfl
theorem zr_X9_claim_170 (ls : zLs) (st : List zAV) (s : zAS) (k : Nat × Nat) (x : Int32) (h : ¬ x < 0 ∧ x.toNatClampNeg ≤ 100 ∧ k.1 + 1 ≤ (zR_X9_claim).cells ∧ k.2 + x.toNatClampNeg ≤ (zR_X9_claim).slots ∧ st.all (zfr s.2.length) = true ∧ ls.all (zfr' s.2.length) = true) : zev zk_X9_claim (170, ls, Sum.inl (Value.int x) :: st, s, k) = zev zk_X9_claim (172, ls, Sum.inr (99, s.2.length) :: st, (s.1, s.2 ++ [(x.toNatClampNeg, fun _ => 0)]), (k.1 + 1, k.2 + x.toNatClampNeg)) := zf_newa rfl h
theorem zr_X9_claim_172 (ls : zLs) (st : List zAV) (s : zAS) (k : Nat × Nat) (v : zAV) (hv : zc1 v = true) : zev zk_X9_claim (172, ls, v :: st, s, k) = zev zk_X9_claim (173, ls, v :: v :: st, s, k) := zf_dup rfl hv
theorem zr_X9_claim_173 (ls : zLs) (st : List zAV) (s : zAS) (k : Nat × Nat) : zev zk_X9_claim (173, ls, st, s, k) = zev zk_X9_claim (174, ls, Sum.inl (Value.int (0)) :: st, s, k) := zev_go rfl rfl
theorem zr_X9_claim_174 (a0 a2 a3 a4 a5 a6 a7 a8 : Option zAV) (st : List zAV) (s : zAS) (k : Nat × Nat) (x : Int32) : zev zk_X9_claim (174, [a0, some (Sum.inl (Value.int x)), a2, a3, a4, a5, a6, a7, a8], st, s, k) = zev zk_X9_claim (175, [a0, some (Sum.inl (Value.int x)), a2, a3, a4, a5, a6, a7, a8], Sum.inl (Value.int x) :: st, s, k) := zev_go rfl rfl
theorem zr_X9_claim_175 (ls : zLs) (st : List zAV) (s : zAS) (k : Nat × Nat) (o i : Nat) (j x : Int32) : zev zk_X9_claim (175, ls, Sum.inl (Value.int x) :: Sum.inl (Value.int j) :: Sum.inr (o, i) :: st, s, k) = zgo zk_X9_claim 176 ls st k (zast zEM o i j x s) := zf_iast rfl
theorem zr_X9_claim_176 (ls : zLs) (st : List zAV) (s : zAS) (k : Nat × Nat) (v : zAV) (hv : zc1 v = true) : zev zk_X9_claim (176, ls, v :: st, s, k) = zev zk_X9_claim (177, ls, v :: v :: st, s, k) := zf_dup rfl hv
theorem zr_X9_claim_177 (ls : zLs) (st : List zAV) (s : zAS) (k : Nat × Nat) : zev zk_X9_claim (177, ls, st, s, k) = zev zk_X9_claim (178, ls, Sum.inl (Value.int (1)) :: st, s, k) := zev_go rfl rfl
theorem zr_X9_claim_178 (a0 a1 a3 a4 a5 a6 a7 a8 : Option zAV) (st : List zAV) (s : zAS) (k : Nat × Nat) (x : Int32) : zev zk_X9_claim (178, [a0, a1, some (Sum.inl (Value.int x)), a3, a4, a5, a6, a7, a8], st, s, k) = zev zk_X9_claim (179, [a0, a1, some (Sum.inl (Value.int x)), a3, a4, a5, a6, a7, a8], Sum.inl (Value.int x) :: st, s, k) := zev_go rfl rfl
theorem zr_X9_claim_179 (ls : zLs) (st : List zAV) (s : zAS) (k : Nat × Nat) (o i : Nat) (j x : Int32) : zev zk_X9_claim (179, ls, Sum.inl (Value.int x) :: Sum.inl (Value.int j) :: Sum.inr (o, i) :: st, s, k) = zgo zk_X9_claim 180 ls st k (zast zEM o i j x s) := zf_iast rfl
theorem zr_X9_claim_180 (ls : zLs) (st : List zAV) (s : zAS) (k : Nat × Nat) (v : zAV) (hv : zc1 v = true) : zev zk_X9_claim (180, ls, v :: st, s, k) = zev zk_X9_claim (181, ls, v :: v :: st, s, k) := zf_dup rfl hv
theorem zr_X9_claim_181 (ls : zLs) (st : List zAV) (s : zAS) (k : Nat × Nat) : zev zk_X9_claim (181, ls, st, s, k) = zev zk_X9_claim (182, ls, Sum.inl (Value.int (2)) :: st, s, k) := zev_go rfl rfl
theorem zr_X9_claim_182 (a0 a1 a2 a4 a5 a6 a7 a8 : Option zAV) (st : List zAV) (s : zAS) (k : Nat × Nat) (x : Int32) : zev zk_X9_claim (182, [a0, a1, a2, some (Sum.inl (Value.int x)), a4, a5, a6, a7, a8], st, s, k) = zev zk_X9_claim (183, [a0, a1, a2, some (Sum.inl (Value.int x)), a4, a5, a6, a7, a8], Sum.inl (Value.int x) :: st, s, k) := zev_go rfl rfl
theorem zr_X9_claim_183 (ls : zLs) (st : List zAV) (s : zAS) (k : Nat × Nat) (o i : Nat) (j x : Int32) : zev zk_X9_claim (183, ls, Sum.inl (Value.int x) :: Sum.inl (Value.int j) :: Sum.inr (o, i) :: st, s, k) = zgo zk_X9_claim 184 ls st k (zast zEM o i j x s) := zf_iast rfl
theorem zr_X9_claim_184 (ls : zLs) (st : List zAV) (s : zAS) (k : Nat × Nat) (v : zAV) (hv : zc1 v = true) : zev zk_X9_claim (184, ls, v :: st, s, k) = zev zk_X9_claim (185, ls, v :: v :: st, s, k) := zf_dup rfl hv
theorem zr_X9_claim_185 (ls : zLs) (st : List zAV) (s : zAS) (k : Nat × Nat) : zev zk_X9_claim (185, ls, st, s, k) = zev zk_X9_claim (186, ls, Sum.inl (Value.int (3)) :: st, s, k) := zev_go rfl rfl
theorem zr_X9_claim_186 (a0 a1 a2 a3 a5 a6 a7 a8 : Option zAV) (st : List zAV) (s : zAS) (k : Nat × Nat) (x : Int32) : zev zk_X9_claim (186, [a0, a1, a2, a3, some (Sum.inl (Value.int x)), a5, a6, a7, a8], st, s, k) = zev zk_X9_claim (188, [a0, a1, a2, a3, some (Sum.inl (Value.int x)), a5, a6, a7, a8], Sum.inl (Value.int x) :: st, s, k) := zev_go rfl rfl
theorem zr_X9_claim_188 (ls : zLs) (st : List zAV) (s : zAS) (k : Nat × Nat) (o i : Nat) (j x : Int32) : zev zk_X9_claim (188, ls, Sum.inl (Value.int x) :: Sum.inl (Value.int j) :: Sum.inr (o, i) :: st, s, k) = zgo zk_X9_claim 189 ls st k (zast zEM o i j x s) := zf_iast rfl
theorem zr_X9_claim_189 (ls : zLs) (st : List zAV) (s : zAS) (k : Nat × Nat) (v : zAV) (hv : zc1 v = true) : zev zk_X9_claim (189, ls, v :: st, s, k) = zev zk_X9_claim (190, ls, v :: v :: st, s, k) := zf_dup rfl hv
theorem zr_X9_claim_190 (ls : zLs) (st : List zAV) (s : zAS) (k : Nat × Nat) : zev zk_X9_claim (190, ls, st, s, k) = zev zk_X9_claim (191, ls, Sum.inl (Value.int (4)) :: st, s, k) := zev_go rfl rfl
theorem zr_X9_claim_191 (a0 a1 a2 a3 a4 a6 a7 a8 : Option zAV) (st : List zAV) (s : zAS) (k : Nat × Nat) (x : Int32) : zev zk_X9_claim (191, [a0, a1, a2, a3, a4, some (Sum.inl (Value.int x)), a6, a7, a8], st, s, k) = zev zk_X9_claim (193, [a0, a1, a2, a3, a4, some (Sum.inl (Value.int x)), a6, a7, a8], Sum.inl (Value.int x) :: st, s, k) := zev_go rfl rfl
theorem zr_X9_claim_193 (ls : zLs) (st : List zAV) (s : zAS) (k : Nat × Nat) (o i : Nat) (j x : Int32) : zev zk_X9_claim (193, ls, Sum.inl (Value.int x) :: Sum.inl (Value.int j) :: Sum.inr (o, i) :: st, s, k) = zgo zk_X9_claim 194 ls st k (zast zEM o i j x s) := zf_iast rfl
theorem zr_X9_claim_194 (a0 a1 a2 a3 a4 a5 a6 a7 a8 : Option zAV) (st : List zAV) (s : zAS) (k : Nat × Nat) (o : Nat × Nat) : zev zk_X9_claim (194, [a0, a1, a2, a3, a4, a5, a6, a7, a8], Sum.inr o :: st, s, k) = zev zk_X9_claim (196, [a0, a1, a2, a3, a4, a5, a6, zk1 a7, some (Sum.inr o)], st, s, k) := zev_go rfl rfl
theorem zr_X9_claim_196 (a0 a1 a2 a3 a4 a5 a6 a7 : Option zAV) (st : List zAV) (s : zAS) (k : Nat × Nat) (o : Nat × Nat) : zev zk_X9_claim (196, [a0, a1, a2, a3, a4, a5, a6, a7, some (Sum.inr o)], st, s, k) = zev zk_X9_claim (198, [a0, a1, a2, a3, a4, a5, a6, a7, some (Sum.inr o)], Sum.inr o :: st, s, k) := zev_go rfl rfl
theorem zr_X9_claim_198 (ls : zLs) (st : List zAV) (s : zAS) (k : Nat × Nat) : zev zk_X9_claim (198, ls, st, s, k) = zev zk_X9_claim (199, ls, Sum.inl (Value.int (0)) :: st, s, k) := zev_go rfl rfl
theorem zr_X9_claim_199 (a1 a2 a3 a4 a5 a6 a7 a8 : Option zAV) (st : List zAV) (s : zAS) (k : Nat × Nat) (o : Nat × Nat) : zev zk_X9_claim (199, [some (Sum.inr o), a1, a2, a3, a4, a5, a6, a7, a8], st, s, k) = zev zk_X9_claim (200, [some (Sum.inr o), a1, a2, a3, a4, a5, a6, a7, a8], Sum.inr o :: st, s, k) := zev_go rfl rfl
theorem zr_X9_claim_200 (ls : zLs) (st : List zAV) (s : zAS) (k : Nat × Nat) (o i : Nat) : zev zk_X9_claim (200, ls, Sum.inr (o, i) :: st, s, k) = zpush zk_X9_claim 203 ls st s k (zgv zEM 9 5 o i s.1) := zf_get rfl
theorem zr_X9_claim_203 (ls : zLs) (st : List zAV) (s : zAS) (k : Nat × Nat) : zev zk_X9_claim (203, ls, st, s, k) = zev zk_X9_claim (204, ls, Sum.inl (Value.int (5)) :: st, s, k) := zev_go rfl rfl
theorem zr_X9_claim_204 (a1 a2 a3 a4 a5 a6 a7 a8 : Option zAV) (st : List zAV) (s : zAS) (k : Nat × Nat) (o : Nat × Nat) : zev zk_X9_claim (204, [some (Sum.inr o), a1, a2, a3, a4, a5, a6, a7, a8], st, s, k) = zev zk_X9_claim (205, [some (Sum.inr o), a1, a2, a3, a4, a5, a6, a7, a8], Sum.inr o :: st, s, k) := zev_go rfl rfl
theorem zr_X9_claim_205 (ls : zLs) (st : List zAV) (s : zAS) (k : Nat × Nat) (o i : Nat) : zev zk_X9_claim (205, ls, Sum.inr (o, i) :: st, s, k) = zpush zk_X9_claim 208 ls st s k (zgv zEM 9 4 o i s.1) := zf_get rfl
theorem zr_X9_claim_208 (ls : zLs) (st : List zAV) (s : zAS) (k : Nat × Nat) (x y : Int32) : zev zk_X9_claim (208, ls, Sum.inl (Value.int y) :: Sum.inl (Value.int x) :: st, s, k) = zev zk_X9_claim (209, ls, Sum.inl (Value.int (x * y)) :: st, s, k) := zev_go rfl rfl
theorem zr_X9_claim_209 (ls : zLs) (st : List zAV) (s : zAS) (k : Nat × Nat) : zev zk_X9_claim (209, ls, st, s, k) = zev zk_X9_claim (210, ls, Sum.inl (Value.int (5)) :: st, s, k) := zev_go rfl rfl
theorem zr_X9_claim_210 (ls : zLs) (st : List zAV) (s : zAS) (k : Nat × Nat) : zev zk_X9_claim (210, ls, st, s, k) = zcont zk_X9_claim (z_acopy zEM 213 ls st s k) := zev_step rfl _ _ _ _
theorem zr_X9_claim_213 (a1 a2 a3 a4 a5 a6 a7 a8 : Option zAV) (st : List zAV) (s : zAS) (k : Nat × Nat) (o : Nat × Nat) : zev zk_X9_claim (213, [some (Sum.inr o), a1, a2, a3, a4, a5, a6, a7, a8], st, s, k) = zev zk_X9_claim (214, [some (Sum.inr o), a1, a2, a3, a4, a5, a6, a7, a8], Sum.inr o :: st, s, k) := zev_go rfl rfl
theorem zr_X9_claim_214 (ls : zLs) (st : List zAV) (s : zAS) (k : Nat × Nat) (v : zAV) (hv : zc1 v = true) : zev zk_X9_claim (214, ls, v :: st, s, k) = zev zk_X9_claim (215, ls, v :: v :: st, s, k) := zf_dup rfl hv
theorem zr_X9_claim_215 (ls : zLs) (st : List zAV) (s : zAS) (k : Nat × Nat) (o i : Nat) : zev zk_X9_claim (215, ls, Sum.inr (o, i) :: st, s, k) = zpush zk_X9_claim 218 ls st s k (zgv zEM 9 4 o i s.1) := zf_get rfl
theorem zr_X9_claim_218 (ls : zLs) (st : List zAV) (s : zAS) (k : Nat × Nat) : zev zk_X9_claim (218, ls, st, s, k) = zev zk_X9_claim (219, ls, Sum.inl (Value.int (1)) :: st, s, k) := zev_go rfl rfl
theorem zr_X9_claim_219 (ls : zLs) (st : List zAV) (s : zAS) (k : Nat × Nat) (x y : Int32) : zev zk_X9_claim (219, ls, Sum.inl (Value.int y) :: Sum.inl (Value.int x) :: st, s, k) = zev zk_X9_claim (220, ls, Sum.inl (Value.int (x + y)) :: st, s, k) := zev_go rfl rfl
theorem zr_X9_claim_220 (ls : zLs) (st : List zAV) (s : zAS) (k : Nat × Nat) (o i : Nat) (x : Int32) (h : zpok zEM 9 4 false o i x) : zev zk_X9_claim (220, ls, Sum.inl (Value.int x) :: Sum.inr (o, i) :: st, s, k) = zev zk_X9_claim (223, ls, st, (zup s.1 o i 4 x, s.2), k) := zf_put rfl h
theorem zr_X9_claim_223 (a1 a2 a3 a4 a5 a6 a7 a8 : Option zAV) (st : List zAV) (s : zAS) (k : Nat × Nat) (o : Nat × Nat) : zev zk_X9_claim (223, [some (Sum.inr o), a1, a2, a3, a4, a5, a6, a7, a8], st, s, k) = zev zk_X9_claim (224, [some (Sum.inr o), a1, a2, a3, a4, a5, a6, a7, a8], Sum.inr o :: st, s, k) := zev_go rfl rfl
theorem zr_X9_claim_224 (ls : zLs) (st : List zAV) (s : zAS) (k : Nat × Nat) (o i : Nat) : zev zk_X9_claim (224, ls, Sum.inr (o, i) :: st, s, k) = zpush zk_X9_claim 227 ls st s k (zgv zEM 9 4 o i s.1) := zf_get rfl
theorem zr_X9_claim_227 (ls : zLs) (st : List zAV) (s : zAS) (k : Nat × Nat) : zev zk_X9_claim (227, ls, st, s, k) = zev zk_X9_claim (228, ls, Sum.inl (Value.int (1)) :: st, s, k) := zev_go rfl rfl
theorem zr_X9_claim_228 (ls : zLs) (st : List zAV) (s : zAS) (k : Nat × Nat) (x y : Int32) : zev zk_X9_claim (228, ls, Sum.inl (Value.int y) :: Sum.inl (Value.int x) :: st, s, k) = zev zk_X9_claim (229, ls, Sum.inl (Value.int (x - y)) :: st, s, k) := zev_go rfl rfl
theorem zr_X9_claim_229 (ls : zLs) (s : zAS) (k : Nat × Nat) (x : Int32) : zev zk_X9_claim (229, ls, [Sum.inl (Value.int x)], s, k) = some (.inl (some (Sum.inl (Value.int x))), s) := zf_reti rfl
/-! X9_isOnLine: PrimePlaneModel.isOnLine(III)Z -/
abbrev zR_X9_isOnLine : Room := ({ frames := 2, cells := 0, slots := 0, locals := 43 } : Room)
noncomputable def zl_X9_isOnLine : List (Nat × zOp) := [(0, z_lda 0 1), (1, z_lda 0 2), (2, z_ldi 1 3), (3, z_callV zEM 9 m_X9_x 1 0 0 (zR_X9_isOnLine).cells (zR_X9_isOnLine).slots 6), (6, z_ldi 2 7), (7, z_bin (fun x y => x * y) 8), (8, z_lda 0 9), (9, z_ldi 1 10), (10, z_callV zEM 9 m_X9_y 1 0 0 (zR_X9_isOnLine).cells (zR_X9_isOnLine).slots 13), (13, z_ldi 3 14), (14, z_bin (fun x y => x * y) 15), (15, z_bin (fun x y => x + y) 16), (16, z_lda 0 17), (17, z_ldi 1 18), (18, z_callV zEM 9 m_X9_z 1 0 0 (zR_X9_isOnLine).cells (zR_X9_isOnLine).slots 21), (21, z_bin (fun x y => x + y) 22), (22, z_callV zEM 9 m_X9_mod 1 0 0 (zR_X9_isOnLine).cells (zR_X9_isOnLine).slots 25), (25, z_if (fun x => decide (¬ x = 0)) 32 28), (28, z_ic (1) 29), (29, z_goto 33), (32, z_ic (0) 33), (33, z_reti true)]
noncomputable def zk_X9_isOnLine (pc : Nat) : Option zOp := zlook zl_X9_isOnLine pc
noncomputable def m_X9_isOnLine : List zAV → zAS → Option zOut := zmeth zk_X9_isOnLine 4
set_option maxRecDepth 100000 in
set_option maxHeartbeats 4000000 in
theorem zcs_X9_isOnLine {R : Room} (hR : R = zR_X9_isOnLine) : ∀ q ∈ zl_X9_isOnLine, zS zEM yX9_isOnLine.cls cX9_isOnLine 4 wsX9_isOnLine (some .boolean) R q.1 q.2 := by
  subst hR
  refine List.forall_mem_cons.mpr ⟨zs_aload_n dX9_isOnLine_0 rfl, ?_⟩
  refine List.forall_mem_cons.mpr ⟨zs_aload_n dX9_isOnLine_1 rfl, ?_⟩
  refine List.forall_mem_cons.mpr ⟨zs_iload_n dX9_isOnLine_2 rfl, ?_⟩
  refine List.forall_mem_cons.mpr ⟨zs_callV (ci := 9) (rm := zR_X9_x) (n := 1) rfl zM_X9_x gX9_isOnLine_X9_x rfl (by decide +kernel) ⟨by decide, by decide⟩ dX9_isOnLine_3, ?_⟩
  refine List.forall_mem_cons.mpr ⟨zs_iload_n dX9_isOnLine_6 rfl, ?_⟩
  refine List.forall_mem_cons.mpr ⟨zs_imul dX9_isOnLine_7, ?_⟩
  refine List.forall_mem_cons.mpr ⟨zs_aload_n dX9_isOnLine_8 rfl, ?_⟩
  refine List.forall_mem_cons.mpr ⟨zs_iload_n dX9_isOnLine_9 rfl, ?_⟩
  refine List.forall_mem_cons.mpr ⟨zs_callV (ci := 9) (rm := zR_X9_y) (n := 1) rfl zM_X9_y gX9_isOnLine_X9_y rfl (by decide +kernel) ⟨by decide, by decide⟩ dX9_isOnLine_10, ?_⟩
  refine List.forall_mem_cons.mpr ⟨zs_iload_n dX9_isOnLine_13 rfl, ?_⟩
  refine List.forall_mem_cons.mpr ⟨zs_imul dX9_isOnLine_14, ?_⟩
  refine List.forall_mem_cons.mpr ⟨zs_iadd dX9_isOnLine_15, ?_⟩
  refine List.forall_mem_cons.mpr ⟨zs_aload_n dX9_isOnLine_16 rfl, ?_⟩
  refine List.forall_mem_cons.mpr ⟨zs_iload_n dX9_isOnLine_17 rfl, ?_⟩
  refine List.forall_mem_cons.mpr ⟨zs_callV (ci := 9) (rm := zR_X9_z) (n := 1) rfl zM_X9_z gX9_isOnLine_X9_z rfl (by decide +kernel) ⟨by decide, by decide⟩ dX9_isOnLine_18, ?_⟩
  refine List.forall_mem_cons.mpr ⟨zs_iadd dX9_isOnLine_21, ?_⟩
  refine List.forall_mem_cons.mpr ⟨zs_callV (ci := 9) (rm := zR_X9_mod) (n := 1) rfl zM_X9_mod gX9_isOnLine_X9_mod rfl (by decide +kernel) ⟨by decide, by decide⟩ dX9_isOnLine_22, ?_⟩
  refine List.forall_mem_cons.mpr ⟨zs_ifne dX9_isOnLine_25 (by decide), ?_⟩
  refine List.forall_mem_cons.mpr ⟨zs_iconst dX9_isOnLine_28 (by decide), ?_⟩
  refine List.forall_mem_cons.mpr ⟨zs_goto dX9_isOnLine_29 (by decide), ?_⟩
  refine List.forall_mem_cons.mpr ⟨zs_iconst dX9_isOnLine_32 (by decide), ?_⟩
  refine List.forall_mem_cons.mpr ⟨zs_reti (ty := .boolean) rfl (fun x h => (znz x h).1) dX9_isOnLine_33, ?_⟩
  exact fun _ h => absurd h List.not_mem_nil
theorem zM_X9_isOnLine : zMeets zEM yX9_isOnLine wsX9_isOnLine zR_X9_isOnLine m_X9_isOnLine := zmeth_M zEMok (zlook_all (zcs_X9_isOnLine rfl)) (by decide +kernel) rfl
theorem zr_X9_isOnLine_0 (a1 a2 a3 : Option zAV) (st : List zAV) (s : zAS) (k : Nat × Nat) (o : Nat × Nat) : zev zk_X9_isOnLine (0, [some (Sum.inr o), a1, a2, a3], st, s, k) = zev zk_X9_isOnLine (1, [some (Sum.inr o), a1, a2, a3], Sum.inr o :: st, s, k) := zev_go rfl rfl
theorem zr_X9_isOnLine_1 (a1 a2 a3 : Option zAV) (st : List zAV) (s : zAS) (k : Nat × Nat) (o : Nat × Nat) : zev zk_X9_isOnLine (1, [some (Sum.inr o), a1, a2, a3], st, s, k) = zev zk_X9_isOnLine (2, [some (Sum.inr o), a1, a2, a3], Sum.inr o :: st, s, k) := zev_go rfl rfl
theorem zr_X9_isOnLine_2 (a0 a2 a3 : Option zAV) (st : List zAV) (s : zAS) (k : Nat × Nat) (x : Int32) : zev zk_X9_isOnLine (2, [a0, some (Sum.inl (Value.int x)), a2, a3], st, s, k) = zev zk_X9_isOnLine (3, [a0, some (Sum.inl (Value.int x)), a2, a3], Sum.inl (Value.int x) :: st, s, k) := zev_go rfl rfl
theorem zr_X9_isOnLine_3 (ls : zLs) (st : List zAV) (s : zAS) (k : Nat × Nat) (r v0 : zAV) (h : zcok zEM 9 0 0 (zR_X9_isOnLine).cells (zR_X9_isOnLine).slots r st k) : zev zk_X9_isOnLine (3, ls, v0 :: r :: st, s, k) = zret zk_X9_isOnLine 6 ls st (k.1 + 0, k.2 + 0) (m_X9_x [r, v0] s) := zf_callV (as := [v0]) 1 rfl rfl h
theorem zr_X9_isOnLine_6 (a0 a1 a3 : Option zAV) (st : List zAV) (s : zAS) (k : Nat × Nat) (x : Int32) : zev zk_X9_isOnLine (6, [a0, a1, some (Sum.inl (Value.int x)), a3], st, s, k) = zev zk_X9_isOnLine (7, [a0, a1, some (Sum.inl (Value.int x)), a3], Sum.inl (Value.int x) :: st, s, k) := zev_go rfl rfl
theorem zr_X9_isOnLine_7 (ls : zLs) (st : List zAV) (s : zAS) (k : Nat × Nat) (x y : Int32) : zev zk_X9_isOnLine (7, ls, Sum.inl (Value.int y) :: Sum.inl (Value.int x) :: st, s, k) = zev zk_X9_isOnLine (8, ls, Sum.inl (Value.int (x * y)) :: st, s, k) := zev_go rfl rfl
theorem zr_X9_isOnLine_8 (a1 a2 a3 : Option zAV) (st : List zAV) (s : zAS) (k : Nat × Nat) (o : Nat × Nat) : zev zk_X9_isOnLine (8, [some (Sum.inr o), a1, a2, a3], st, s, k) = zev zk_X9_isOnLine (9, [some (Sum.inr o), a1, a2, a3], Sum.inr o :: st, s, k) := zev_go rfl rfl
theorem zr_X9_isOnLine_9 (a0 a2 a3 : Option zAV) (st : List zAV) (s : zAS) (k : Nat × Nat) (x : Int32) : zev zk_X9_isOnLine (9, [a0, some (Sum.inl (Value.int x)), a2, a3], st, s, k) = zev zk_X9_isOnLine (10, [a0, some (Sum.inl (Value.int x)), a2, a3], Sum.inl (Value.int x) :: st, s, k) := zev_go rfl rfl
theorem zr_X9_isOnLine_10 (ls : zLs) (st : List zAV) (s : zAS) (k : Nat × Nat) (r v0 : zAV) (h : zcok zEM 9 0 0 (zR_X9_isOnLine).cells (zR_X9_isOnLine).slots r st k) : zev zk_X9_isOnLine (10, ls, v0 :: r :: st, s, k) = zret zk_X9_isOnLine 13 ls st (k.1 + 0, k.2 + 0) (m_X9_y [r, v0] s) := zf_callV (as := [v0]) 1 rfl rfl h
theorem zr_X9_isOnLine_13 (a0 a1 a2 : Option zAV) (st : List zAV) (s : zAS) (k : Nat × Nat) (x : Int32) : zev zk_X9_isOnLine (13, [a0, a1, a2, some (Sum.inl (Value.int x))], st, s, k) = zev zk_X9_isOnLine (14, [a0, a1, a2, some (Sum.inl (Value.int x))], Sum.inl (Value.int x) :: st, s, k) := zev_go rfl rfl
theorem zr_X9_isOnLine_14 (ls : zLs) (st : List zAV) (s : zAS) (k : Nat × Nat) (x y : Int32) : zev zk_X9_isOnLine (14, ls, Sum.inl (Value.int y) :: Sum.inl (Value.int x) :: st, s, k) = zev zk_X9_isOnLine (15, ls, Sum.inl (Value.int (x * y)) :: st, s, k) := zev_go rfl rfl
theorem zr_X9_isOnLine_15 (ls : zLs) (st : List zAV) (s : zAS) (k : Nat × Nat) (x y : Int32) : zev zk_X9_isOnLine (15, ls, Sum.inl (Value.int y) :: Sum.inl (Value.int x) :: st, s, k) = zev zk_X9_isOnLine (16, ls, Sum.inl (Value.int (x + y)) :: st, s, k) := zev_go rfl rfl
theorem zr_X9_isOnLine_16 (a1 a2 a3 : Option zAV) (st : List zAV) (s : zAS) (k : Nat × Nat) (o : Nat × Nat) : zev zk_X9_isOnLine (16, [some (Sum.inr o), a1, a2, a3], st, s, k) = zev zk_X9_isOnLine (17, [some (Sum.inr o), a1, a2, a3], Sum.inr o :: st, s, k) := zev_go rfl rfl
theorem zr_X9_isOnLine_17 (a0 a2 a3 : Option zAV) (st : List zAV) (s : zAS) (k : Nat × Nat) (x : Int32) : zev zk_X9_isOnLine (17, [a0, some (Sum.inl (Value.int x)), a2, a3], st, s, k) = zev zk_X9_isOnLine (18, [a0, some (Sum.inl (Value.int x)), a2, a3], Sum.inl (Value.int x) :: st, s, k) := zev_go rfl rfl
theorem zr_X9_isOnLine_18 (ls : zLs) (st : List zAV) (s : zAS) (k : Nat × Nat) (r v0 : zAV) (h : zcok zEM 9 0 0 (zR_X9_isOnLine).cells (zR_X9_isOnLine).slots r st k) : zev zk_X9_isOnLine (18, ls, v0 :: r :: st, s, k) = zret zk_X9_isOnLine 21 ls st (k.1 + 0, k.2 + 0) (m_X9_z [r, v0] s) := zf_callV (as := [v0]) 1 rfl rfl h
theorem zr_X9_isOnLine_21 (ls : zLs) (st : List zAV) (s : zAS) (k : Nat × Nat) (x y : Int32) : zev zk_X9_isOnLine (21, ls, Sum.inl (Value.int y) :: Sum.inl (Value.int x) :: st, s, k) = zev zk_X9_isOnLine (22, ls, Sum.inl (Value.int (x + y)) :: st, s, k) := zev_go rfl rfl
theorem zr_X9_isOnLine_22 (ls : zLs) (st : List zAV) (s : zAS) (k : Nat × Nat) (r v0 : zAV) (h : zcok zEM 9 0 0 (zR_X9_isOnLine).cells (zR_X9_isOnLine).slots r st k) : zev zk_X9_isOnLine (22, ls, v0 :: r :: st, s, k) = zret zk_X9_isOnLine 25 ls st (k.1 + 0, k.2 + 0) (m_X9_mod [r, v0] s) := zf_callV (as := [v0]) 1 rfl rfl h
theorem zr_X9_isOnLine_25 (ls : zLs) (st : List zAV) (s : zAS) (k : Nat × Nat) (x : Int32) : zev zk_X9_isOnLine (25, ls, Sum.inl (Value.int x) :: st, s, k) = if decide (¬ x = 0) = true then zev zk_X9_isOnLine (32, ls, st, s, k) else zev zk_X9_isOnLine (28, ls, st, s, k) := zf_if (f := fun x => decide (¬ x = 0)) rfl
theorem zr_X9_isOnLine_28 (ls : zLs) (st : List zAV) (s : zAS) (k : Nat × Nat) : zev zk_X9_isOnLine (28, ls, st, s, k) = zev zk_X9_isOnLine (29, ls, Sum.inl (Value.int (1)) :: st, s, k) := zev_go rfl rfl
theorem zr_X9_isOnLine_29 (ls : zLs) (st : List zAV) (s : zAS) (k : Nat × Nat) : zev zk_X9_isOnLine (29, ls, st, s, k) = zev zk_X9_isOnLine (33, ls, st, s, k) := zev_go rfl rfl
theorem zr_X9_isOnLine_32 (ls : zLs) (st : List zAV) (s : zAS) (k : Nat × Nat) : zev zk_X9_isOnLine (32, ls, st, s, k) = zev zk_X9_isOnLine (33, ls, Sum.inl (Value.int (0)) :: st, s, k) := zev_go rfl rfl
theorem zr_X9_isOnLine_33 (ls : zLs) (s : zAS) (k : Nat × Nat) (x : Int32) (hx : x = 0 ∨ x = 1) : zev zk_X9_isOnLine (33, ls, [Sum.inl (Value.int x)], s, k) = some (.inl (some (Sum.inl (Value.int x))), s) := zf_retz rfl hx
/-! X9_areSame: PrimePlaneModel.areSame(II)Z -/
abbrev zR_X9_areSame : Room := ({ frames := 2, cells := 0, slots := 0, locals := 43 } : Room)
noncomputable def zl_X9_areSame : List (Nat × zOp) := [(0, z_lda 0 1), (1, z_ldi 1 2), (2, z_callV zEM 9 m_X9_x 1 0 0 (zR_X9_areSame).cells (zR_X9_areSame).slots 5), (5, z_lda 0 6), (6, z_ldi 2 7), (7, z_callV zEM 9 m_X9_x 1 0 0 (zR_X9_areSame).cells (zR_X9_areSame).slots 10), (10, z_cmp (fun x y => decide (¬ x = y)) 43 13), (13, z_lda 0 14), (14, z_ldi 1 15), (15, z_callV zEM 9 m_X9_y 1 0 0 (zR_X9_areSame).cells (zR_X9_areSame).slots 18), (18, z_lda 0 19), (19, z_ldi 2 20), (20, z_callV zEM 9 m_X9_y 1 0 0 (zR_X9_areSame).cells (zR_X9_areSame).slots 23), (23, z_cmp (fun x y => decide (¬ x = y)) 43 26), (26, z_lda 0 27), (27, z_ldi 1 28), (28, z_callV zEM 9 m_X9_z 1 0 0 (zR_X9_areSame).cells (zR_X9_areSame).slots 31), (31, z_lda 0 32), (32, z_ldi 2 33), (33, z_callV zEM 9 m_X9_z 1 0 0 (zR_X9_areSame).cells (zR_X9_areSame).slots 36), (36, z_cmp (fun x y => decide (¬ x = y)) 43 39), (39, z_ic (1) 40), (40, z_goto 44), (43, z_ic (0) 44), (44, z_reti true)]
noncomputable def zk_X9_areSame (pc : Nat) : Option zOp := zlook zl_X9_areSame pc
noncomputable def m_X9_areSame : List zAV → zAS → Option zOut := zmeth zk_X9_areSame 3
set_option maxRecDepth 100000 in
set_option maxHeartbeats 4000000 in
theorem zcs_X9_areSame {R : Room} (hR : R = zR_X9_areSame) : ∀ q ∈ zl_X9_areSame, zS zEM yX9_areSame.cls cX9_areSame 3 wsX9_areSame (some .boolean) R q.1 q.2 := by
  subst hR
  refine List.forall_mem_cons.mpr ⟨zs_aload_n dX9_areSame_0 rfl, ?_⟩
  refine List.forall_mem_cons.mpr ⟨zs_iload_n dX9_areSame_1 rfl, ?_⟩
  refine List.forall_mem_cons.mpr ⟨zs_callV (ci := 9) (rm := zR_X9_x) (n := 1) rfl zM_X9_x gX9_areSame_X9_x rfl (by decide +kernel) ⟨by decide, by decide⟩ dX9_areSame_2, ?_⟩
  refine List.forall_mem_cons.mpr ⟨zs_aload_n dX9_areSame_5 rfl, ?_⟩
  refine List.forall_mem_cons.mpr ⟨zs_iload_n dX9_areSame_6 rfl, ?_⟩
  refine List.forall_mem_cons.mpr ⟨zs_callV (ci := 9) (rm := zR_X9_x) (n := 1) rfl zM_X9_x gX9_areSame_X9_x rfl (by decide +kernel) ⟨by decide, by decide⟩ dX9_areSame_7, ?_⟩
  refine List.forall_mem_cons.mpr ⟨zs_icne dX9_areSame_10 (by decide), ?_⟩
  refine List.forall_mem_cons.mpr ⟨zs_aload_n dX9_areSame_13 rfl, ?_⟩
  refine List.forall_mem_cons.mpr ⟨zs_iload_n dX9_areSame_14 rfl, ?_⟩
  refine List.forall_mem_cons.mpr ⟨zs_callV (ci := 9) (rm := zR_X9_y) (n := 1) rfl zM_X9_y gX9_areSame_X9_y rfl (by decide +kernel) ⟨by decide, by decide⟩ dX9_areSame_15, ?_⟩
  refine List.forall_mem_cons.mpr ⟨zs_aload_n dX9_areSame_18 rfl, ?_⟩
  refine List.forall_mem_cons.mpr ⟨zs_iload_n dX9_areSame_19 rfl, ?_⟩
  refine List.forall_mem_cons.mpr ⟨zs_callV (ci := 9) (rm := zR_X9_y) (n := 1) rfl zM_X9_y gX9_areSame_X9_y rfl (by decide +kernel) ⟨by decide, by decide⟩ dX9_areSame_20, ?_⟩
  refine List.forall_mem_cons.mpr ⟨zs_icne dX9_areSame_23 (by decide), ?_⟩
  refine List.forall_mem_cons.mpr ⟨zs_aload_n dX9_areSame_26 rfl, ?_⟩
  refine List.forall_mem_cons.mpr ⟨zs_iload_n dX9_areSame_27 rfl, ?_⟩
  refine List.forall_mem_cons.mpr ⟨zs_callV (ci := 9) (rm := zR_X9_z) (n := 1) rfl zM_X9_z gX9_areSame_X9_z rfl (by decide +kernel) ⟨by decide, by decide⟩ dX9_areSame_28, ?_⟩
  refine List.forall_mem_cons.mpr ⟨zs_aload_n dX9_areSame_31 rfl, ?_⟩
  refine List.forall_mem_cons.mpr ⟨zs_iload_n dX9_areSame_32 rfl, ?_⟩
  refine List.forall_mem_cons.mpr ⟨zs_callV (ci := 9) (rm := zR_X9_z) (n := 1) rfl zM_X9_z gX9_areSame_X9_z rfl (by decide +kernel) ⟨by decide, by decide⟩ dX9_areSame_33, ?_⟩
  refine List.forall_mem_cons.mpr ⟨zs_icne dX9_areSame_36 (by decide), ?_⟩
  refine List.forall_mem_cons.mpr ⟨zs_iconst dX9_areSame_39 (by decide), ?_⟩
  refine List.forall_mem_cons.mpr ⟨zs_goto dX9_areSame_40 (by decide), ?_⟩
  refine List.forall_mem_cons.mpr ⟨zs_iconst dX9_areSame_43 (by decide), ?_⟩
  refine List.forall_mem_cons.mpr ⟨zs_reti (ty := .boolean) rfl (fun x h => (znz x h).1) dX9_areSame_44, ?_⟩
  exact fun _ h => absurd h List.not_mem_nil
theorem zM_X9_areSame : zMeets zEM yX9_areSame wsX9_areSame zR_X9_areSame m_X9_areSame := zmeth_M zEMok (zlook_all (zcs_X9_areSame rfl)) (by decide +kernel) rfl
theorem zr_X9_areSame_0 (a1 a2 : Option zAV) (st : List zAV) (s : zAS) (k : Nat × Nat) (o : Nat × Nat) : zev zk_X9_areSame (0, [some (Sum.inr o), a1, a2], st, s, k) = zev zk_X9_areSame (1, [some (Sum.inr o), a1, a2], Sum.inr o :: st, s, k) := zev_go rfl rfl
theorem zr_X9_areSame_1 (a0 a2 : Option zAV) (st : List zAV) (s : zAS) (k : Nat × Nat) (x : Int32) : zev zk_X9_areSame (1, [a0, some (Sum.inl (Value.int x)), a2], st, s, k) = zev zk_X9_areSame (2, [a0, some (Sum.inl (Value.int x)), a2], Sum.inl (Value.int x) :: st, s, k) := zev_go rfl rfl
theorem zr_X9_areSame_2 (ls : zLs) (st : List zAV) (s : zAS) (k : Nat × Nat) (r v0 : zAV) (h : zcok zEM 9 0 0 (zR_X9_areSame).cells (zR_X9_areSame).slots r st k) : zev zk_X9_areSame (2, ls, v0 :: r :: st, s, k) = zret zk_X9_areSame 5 ls st (k.1 + 0, k.2 + 0) (m_X9_x [r, v0] s) := zf_callV (as := [v0]) 1 rfl rfl h
theorem zr_X9_areSame_5 (a1 a2 : Option zAV) (st : List zAV) (s : zAS) (k : Nat × Nat) (o : Nat × Nat) : zev zk_X9_areSame (5, [some (Sum.inr o), a1, a2], st, s, k) = zev zk_X9_areSame (6, [some (Sum.inr o), a1, a2], Sum.inr o :: st, s, k) := zev_go rfl rfl
theorem zr_X9_areSame_6 (a0 a1 : Option zAV) (st : List zAV) (s : zAS) (k : Nat × Nat) (x : Int32) : zev zk_X9_areSame (6, [a0, a1, some (Sum.inl (Value.int x))], st, s, k) = zev zk_X9_areSame (7, [a0, a1, some (Sum.inl (Value.int x))], Sum.inl (Value.int x) :: st, s, k) := zev_go rfl rfl
theorem zr_X9_areSame_7 (ls : zLs) (st : List zAV) (s : zAS) (k : Nat × Nat) (r v0 : zAV) (h : zcok zEM 9 0 0 (zR_X9_areSame).cells (zR_X9_areSame).slots r st k) : zev zk_X9_areSame (7, ls, v0 :: r :: st, s, k) = zret zk_X9_areSame 10 ls st (k.1 + 0, k.2 + 0) (m_X9_x [r, v0] s) := zf_callV (as := [v0]) 1 rfl rfl h
theorem zr_X9_areSame_10 (ls : zLs) (st : List zAV) (s : zAS) (k : Nat × Nat) (x y : Int32) : zev zk_X9_areSame (10, ls, Sum.inl (Value.int y) :: Sum.inl (Value.int x) :: st, s, k) = if decide (¬ x = y) = true then zev zk_X9_areSame (43, ls, st, s, k) else zev zk_X9_areSame (13, ls, st, s, k) := zf_cmp (f := fun x y => decide (¬ x = y)) rfl
theorem zr_X9_areSame_13 (a1 a2 : Option zAV) (st : List zAV) (s : zAS) (k : Nat × Nat) (o : Nat × Nat) : zev zk_X9_areSame (13, [some (Sum.inr o), a1, a2], st, s, k) = zev zk_X9_areSame (14, [some (Sum.inr o), a1, a2], Sum.inr o :: st, s, k) := zev_go rfl rfl
theorem zr_X9_areSame_14 (a0 a2 : Option zAV) (st : List zAV) (s : zAS) (k : Nat × Nat) (x : Int32) : zev zk_X9_areSame (14, [a0, some (Sum.inl (Value.int x)), a2], st, s, k) = zev zk_X9_areSame (15, [a0, some (Sum.inl (Value.int x)), a2], Sum.inl (Value.int x) :: st, s, k) := zev_go rfl rfl
theorem zr_X9_areSame_15 (ls : zLs) (st : List zAV) (s : zAS) (k : Nat × Nat) (r v0 : zAV) (h : zcok zEM 9 0 0 (zR_X9_areSame).cells (zR_X9_areSame).slots r st k) : zev zk_X9_areSame (15, ls, v0 :: r :: st, s, k) = zret zk_X9_areSame 18 ls st (k.1 + 0, k.2 + 0) (m_X9_y [r, v0] s) := zf_callV (as := [v0]) 1 rfl rfl h
theorem zr_X9_areSame_18 (a1 a2 : Option zAV) (st : List zAV) (s : zAS) (k : Nat × Nat) (o : Nat × Nat) : zev zk_X9_areSame (18, [some (Sum.inr o), a1, a2], st, s, k) = zev zk_X9_areSame (19, [some (Sum.inr o), a1, a2], Sum.inr o :: st, s, k) := zev_go rfl rfl
theorem zr_X9_areSame_19 (a0 a1 : Option zAV) (st : List zAV) (s : zAS) (k : Nat × Nat) (x : Int32) : zev zk_X9_areSame (19, [a0, a1, some (Sum.inl (Value.int x))], st, s, k) = zev zk_X9_areSame (20, [a0, a1, some (Sum.inl (Value.int x))], Sum.inl (Value.int x) :: st, s, k) := zev_go rfl rfl
theorem zr_X9_areSame_20 (ls : zLs) (st : List zAV) (s : zAS) (k : Nat × Nat) (r v0 : zAV) (h : zcok zEM 9 0 0 (zR_X9_areSame).cells (zR_X9_areSame).slots r st k) : zev zk_X9_areSame (20, ls, v0 :: r :: st, s, k) = zret zk_X9_areSame 23 ls st (k.1 + 0, k.2 + 0) (m_X9_y [r, v0] s) := zf_callV (as := [v0]) 1 rfl rfl h
theorem zr_X9_areSame_23 (ls : zLs) (st : List zAV) (s : zAS) (k : Nat × Nat) (x y : Int32) : zev zk_X9_areSame (23, ls, Sum.inl (Value.int y) :: Sum.inl (Value.int x) :: st, s, k) = if decide (¬ x = y) = true then zev zk_X9_areSame (43, ls, st, s, k) else zev zk_X9_areSame (26, ls, st, s, k) := zf_cmp (f := fun x y => decide (¬ x = y)) rfl
theorem zr_X9_areSame_26 (a1 a2 : Option zAV) (st : List zAV) (s : zAS) (k : Nat × Nat) (o : Nat × Nat) : zev zk_X9_areSame (26, [some (Sum.inr o), a1, a2], st, s, k) = zev zk_X9_areSame (27, [some (Sum.inr o), a1, a2], Sum.inr o :: st, s, k) := zev_go rfl rfl
theorem zr_X9_areSame_27 (a0 a2 : Option zAV) (st : List zAV) (s : zAS) (k : Nat × Nat) (x : Int32) : zev zk_X9_areSame (27, [a0, some (Sum.inl (Value.int x)), a2], st, s, k) = zev zk_X9_areSame (28, [a0, some (Sum.inl (Value.int x)), a2], Sum.inl (Value.int x) :: st, s, k) := zev_go rfl rfl
theorem zr_X9_areSame_28 (ls : zLs) (st : List zAV) (s : zAS) (k : Nat × Nat) (r v0 : zAV) (h : zcok zEM 9 0 0 (zR_X9_areSame).cells (zR_X9_areSame).slots r st k) : zev zk_X9_areSame (28, ls, v0 :: r :: st, s, k) = zret zk_X9_areSame 31 ls st (k.1 + 0, k.2 + 0) (m_X9_z [r, v0] s) := zf_callV (as := [v0]) 1 rfl rfl h
theorem zr_X9_areSame_31 (a1 a2 : Option zAV) (st : List zAV) (s : zAS) (k : Nat × Nat) (o : Nat × Nat) : zev zk_X9_areSame (31, [some (Sum.inr o), a1, a2], st, s, k) = zev zk_X9_areSame (32, [some (Sum.inr o), a1, a2], Sum.inr o :: st, s, k) := zev_go rfl rfl
theorem zr_X9_areSame_32 (a0 a1 : Option zAV) (st : List zAV) (s : zAS) (k : Nat × Nat) (x : Int32) : zev zk_X9_areSame (32, [a0, a1, some (Sum.inl (Value.int x))], st, s, k) = zev zk_X9_areSame (33, [a0, a1, some (Sum.inl (Value.int x))], Sum.inl (Value.int x) :: st, s, k) := zev_go rfl rfl
theorem zr_X9_areSame_33 (ls : zLs) (st : List zAV) (s : zAS) (k : Nat × Nat) (r v0 : zAV) (h : zcok zEM 9 0 0 (zR_X9_areSame).cells (zR_X9_areSame).slots r st k) : zev zk_X9_areSame (33, ls, v0 :: r :: st, s, k) = zret zk_X9_areSame 36 ls st (k.1 + 0, k.2 + 0) (m_X9_z [r, v0] s) := zf_callV (as := [v0]) 1 rfl rfl h
theorem zr_X9_areSame_36 (ls : zLs) (st : List zAV) (s : zAS) (k : Nat × Nat) (x y : Int32) : zev zk_X9_areSame (36, ls, Sum.inl (Value.int y) :: Sum.inl (Value.int x) :: st, s, k) = if decide (¬ x = y) = true then zev zk_X9_areSame (43, ls, st, s, k) else zev zk_X9_areSame (39, ls, st, s, k) := zf_cmp (f := fun x y => decide (¬ x = y)) rfl
theorem zr_X9_areSame_39 (ls : zLs) (st : List zAV) (s : zAS) (k : Nat × Nat) : zev zk_X9_areSame (39, ls, st, s, k) = zev zk_X9_areSame (40, ls, Sum.inl (Value.int (1)) :: st, s, k) := zev_go rfl rfl
theorem zr_X9_areSame_40 (ls : zLs) (st : List zAV) (s : zAS) (k : Nat × Nat) : zev zk_X9_areSame (40, ls, st, s, k) = zev zk_X9_areSame (44, ls, st, s, k) := zev_go rfl rfl
theorem zr_X9_areSame_43 (ls : zLs) (st : List zAV) (s : zAS) (k : Nat × Nat) : zev zk_X9_areSame (43, ls, st, s, k) = zev zk_X9_areSame (44, ls, Sum.inl (Value.int (0)) :: st, s, k) := zev_go rfl rfl
theorem zr_X9_areSame_44 (ls : zLs) (s : zAS) (k : Nat × Nat) (x : Int32) (hx : x = 0 ∨ x = 1) : zev zk_X9_areSame (44, ls, [Sum.inl (Value.int x)], s, k) = some (.inl (some (Sum.inl (Value.int x))), s) := zf_retz rfl hx
/-! X9_haveCommon: PrimePlaneModel.haveCommon(III)Z -/
abbrev zR_X9_haveCommon : Room := ({ frames := 4, cells := 0, slots := 0, locals := 90 } : Room)
noncomputable def zl_X9_haveCommon : List (Nat × zOp) := [(0, z_ic (0) 1), (1, z_sti 4 3), (3, z_ldi 4 5), (5, z_lda 0 6), (6, z_get zEM 9 1 9), (9, z_cmp (fun x y => decide (y ≤ x)) 68 12), (12, z_lda 0 13), (13, z_ldi 1 14), (14, z_ldi 4 16), (16, z_callV zEM 9 m_X9_onLine 2 0 0 (zR_X9_haveCommon).cells (zR_X9_haveCommon).slots 19), (19, z_pop 20), (20, z_lda 0 21), (21, z_get zEM 9 6 24), (24, z_ic (0) 25), (25, z_iald zEM 26), (26, z_sti 5 28), (28, z_lda 0 29), (29, z_get zEM 9 6 32), (32, z_ic (1) 33), (33, z_iald zEM 34), (34, z_sti 6 36), (36, z_lda 0 37), (37, z_ldi 2 38), (38, z_ldi 5 40), (40, z_ldi 6 42), (42, z_callV zEM 9 m_X9_isOnLine 3 0 0 (zR_X9_haveCommon).cells (zR_X9_haveCommon).slots 45), (45, z_if (fun x => decide (x = 0)) 62 48), (48, z_lda 0 49), (49, z_ldi 3 50), (50, z_ldi 5 52), (52, z_ldi 6 54), (54, z_callV zEM 9 m_X9_isOnLine 3 0 0 (zR_X9_haveCommon).cells (zR_X9_haveCommon).slots 57), (57, z_if (fun x => decide (x = 0)) 62 60), (60, z_ic (1) 61), (61, z_reti true), (62, z_iinc 4 (1) 65), (65, z_goto 3), (68, z_ic (0) 69), (69, z_reti true)]
noncomputable def zk_X9_haveCommon (pc : Nat) : Option zOp := zlook zl_X9_haveCommon pc
noncomputable def m_X9_haveCommon : List zAV → zAS → Option zOut := zmeth zk_X9_haveCommon 7
set_option maxRecDepth 100000 in
set_option maxHeartbeats 4000000 in
theorem zcs_X9_haveCommon {R : Room} (hR : R = zR_X9_haveCommon) : ∀ q ∈ zl_X9_haveCommon, zS zEM yX9_haveCommon.cls cX9_haveCommon 7 wsX9_haveCommon (some .boolean) R q.1 q.2 := by
  subst hR
  have hin9 : ∀ w ∈ wsX90, w ∈ wsX9_haveCommon := fun w h => List.mem_cons_of_mem _ (List.mem_append_right _ h)
  refine List.forall_mem_cons.mpr ⟨zs_iconst dX9_haveCommon_0 (by decide), ?_⟩
  refine List.forall_mem_cons.mpr ⟨zs_istore dX9_haveCommon_1, ?_⟩
  refine List.forall_mem_cons.mpr ⟨zs_iload dX9_haveCommon_3, ?_⟩
  refine List.forall_mem_cons.mpr ⟨zs_aload_n dX9_haveCommon_5 rfl, ?_⟩
  refine List.forall_mem_cons.mpr ⟨zs_get (ci := 9) (j := 1) (N := 10) (C := RX9) (T := TX9) (index := 7) rfl (by decide) hin9 (List.mem_of_getElem? (i := 1) rfl) dX9_haveCommon_6, ?_⟩
  refine List.forall_mem_cons.mpr ⟨zs_icge dX9_haveCommon_9 (by decide), ?_⟩
  refine List.forall_mem_cons.mpr ⟨zs_aload_n dX9_haveCommon_12 rfl, ?_⟩
  refine List.forall_mem_cons.mpr ⟨zs_iload_n dX9_haveCommon_13 rfl, ?_⟩
  refine List.forall_mem_cons.mpr ⟨zs_iload dX9_haveCommon_14, ?_⟩
  refine List.forall_mem_cons.mpr ⟨zs_callV (ci := 9) (rm := zR_X9_onLine) (n := 2) rfl zM_X9_onLine gX9_haveCommon_X9_onLine rfl (by decide +kernel) ⟨by decide, by decide⟩ dX9_haveCommon_16, ?_⟩
  refine List.forall_mem_cons.mpr ⟨zs_pop dX9_haveCommon_19, ?_⟩
  refine List.forall_mem_cons.mpr ⟨zs_aload_n dX9_haveCommon_20 rfl, ?_⟩
  refine List.forall_mem_cons.mpr ⟨zs_get (ci := 9) (j := 6) (N := 10) (C := RX9) (T := TX9) (index := 20) rfl (by decide) hin9 (List.mem_of_getElem? (i := 2) rfl) dX9_haveCommon_21, ?_⟩
  refine List.forall_mem_cons.mpr ⟨zs_iconst dX9_haveCommon_24 (by decide), ?_⟩
  refine List.forall_mem_cons.mpr ⟨zs_iald dX9_haveCommon_25, ?_⟩
  refine List.forall_mem_cons.mpr ⟨zs_istore dX9_haveCommon_26, ?_⟩
  refine List.forall_mem_cons.mpr ⟨zs_aload_n dX9_haveCommon_28 rfl, ?_⟩
  refine List.forall_mem_cons.mpr ⟨zs_get (ci := 9) (j := 6) (N := 10) (C := RX9) (T := TX9) (index := 20) rfl (by decide) hin9 (List.mem_of_getElem? (i := 2) rfl) dX9_haveCommon_29, ?_⟩
  refine List.forall_mem_cons.mpr ⟨zs_iconst dX9_haveCommon_32 (by decide), ?_⟩
  refine List.forall_mem_cons.mpr ⟨zs_iald dX9_haveCommon_33, ?_⟩
  refine List.forall_mem_cons.mpr ⟨zs_istore dX9_haveCommon_34, ?_⟩
  refine List.forall_mem_cons.mpr ⟨zs_aload_n dX9_haveCommon_36 rfl, ?_⟩
  refine List.forall_mem_cons.mpr ⟨zs_iload_n dX9_haveCommon_37 rfl, ?_⟩
  refine List.forall_mem_cons.mpr ⟨zs_iload dX9_haveCommon_38, ?_⟩
  refine List.forall_mem_cons.mpr ⟨zs_iload dX9_haveCommon_40, ?_⟩
  refine List.forall_mem_cons.mpr ⟨zs_callV (ci := 9) (rm := zR_X9_isOnLine) (n := 3) rfl zM_X9_isOnLine gX9_haveCommon_X9_isOnLine rfl (by decide +kernel) ⟨by decide, by decide⟩ dX9_haveCommon_42, ?_⟩
  refine List.forall_mem_cons.mpr ⟨zs_ifeq dX9_haveCommon_45 (by decide), ?_⟩
  refine List.forall_mem_cons.mpr ⟨zs_aload_n dX9_haveCommon_48 rfl, ?_⟩
  refine List.forall_mem_cons.mpr ⟨zs_iload_n dX9_haveCommon_49 rfl, ?_⟩
  refine List.forall_mem_cons.mpr ⟨zs_iload dX9_haveCommon_50, ?_⟩
  refine List.forall_mem_cons.mpr ⟨zs_iload dX9_haveCommon_52, ?_⟩
  refine List.forall_mem_cons.mpr ⟨zs_callV (ci := 9) (rm := zR_X9_isOnLine) (n := 3) rfl zM_X9_isOnLine gX9_haveCommon_X9_isOnLine rfl (by decide +kernel) ⟨by decide, by decide⟩ dX9_haveCommon_54, ?_⟩
  refine List.forall_mem_cons.mpr ⟨zs_ifeq dX9_haveCommon_57 (by decide), ?_⟩
  refine List.forall_mem_cons.mpr ⟨zs_iconst dX9_haveCommon_60 (by decide), ?_⟩
  refine List.forall_mem_cons.mpr ⟨zs_reti (ty := .boolean) rfl (fun x h => (znz x h).1) dX9_haveCommon_61, ?_⟩
  refine List.forall_mem_cons.mpr ⟨zs_iinc dX9_haveCommon_62 (by decide), ?_⟩
  refine List.forall_mem_cons.mpr ⟨zs_goto dX9_haveCommon_65 (by decide), ?_⟩
  refine List.forall_mem_cons.mpr ⟨zs_iconst dX9_haveCommon_68 (by decide), ?_⟩
  refine List.forall_mem_cons.mpr ⟨zs_reti (ty := .boolean) rfl (fun x h => (znz x h).1) dX9_haveCommon_69, ?_⟩
  exact fun _ h => absurd h List.not_mem_nil
theorem zM_X9_haveCommon : zMeets zEM yX9_haveCommon wsX9_haveCommon zR_X9_haveCommon m_X9_haveCommon := zmeth_M zEMok (zlook_all (zcs_X9_haveCommon rfl)) (by decide +kernel) rfl
theorem zr_X9_haveCommon_0 (ls : zLs) (st : List zAV) (s : zAS) (k : Nat × Nat) : zev zk_X9_haveCommon (0, ls, st, s, k) = zev zk_X9_haveCommon (1, ls, Sum.inl (Value.int (0)) :: st, s, k) := zev_go rfl rfl
theorem zr_X9_haveCommon_1 (a0 a1 a2 a3 a4 a5 a6 : Option zAV) (st : List zAV) (s : zAS) (k : Nat × Nat) (x : Int32) : zev zk_X9_haveCommon (1, [a0, a1, a2, a3, a4, a5, a6], Sum.inl (Value.int x) :: st, s, k) = zev zk_X9_haveCommon (3, [a0, a1, a2, zk1 a3, some (Sum.inl (Value.int x)), a5, a6], st, s, k) := zev_go rfl rfl
theorem zr_X9_haveCommon_3 (a0 a1 a2 a3 a5 a6 : Option zAV) (st : List zAV) (s : zAS) (k : Nat × Nat) (x : Int32) : zev zk_X9_haveCommon (3, [a0, a1, a2, a3, some (Sum.inl (Value.int x)), a5, a6], st, s, k) = zev zk_X9_haveCommon (5, [a0, a1, a2, a3, some (Sum.inl (Value.int x)), a5, a6], Sum.inl (Value.int x) :: st, s, k) := zev_go rfl rfl
theorem zr_X9_haveCommon_5 (a1 a2 a3 a4 a5 a6 : Option zAV) (st : List zAV) (s : zAS) (k : Nat × Nat) (o : Nat × Nat) : zev zk_X9_haveCommon (5, [some (Sum.inr o), a1, a2, a3, a4, a5, a6], st, s, k) = zev zk_X9_haveCommon (6, [some (Sum.inr o), a1, a2, a3, a4, a5, a6], Sum.inr o :: st, s, k) := zev_go rfl rfl
theorem zr_X9_haveCommon_6 (ls : zLs) (st : List zAV) (s : zAS) (k : Nat × Nat) (o i : Nat) : zev zk_X9_haveCommon (6, ls, Sum.inr (o, i) :: st, s, k) = zpush zk_X9_haveCommon 9 ls st s k (zgv zEM 9 1 o i s.1) := zf_get rfl
theorem zr_X9_haveCommon_9 (ls : zLs) (st : List zAV) (s : zAS) (k : Nat × Nat) (x y : Int32) : zev zk_X9_haveCommon (9, ls, Sum.inl (Value.int y) :: Sum.inl (Value.int x) :: st, s, k) = if decide (y ≤ x) = true then zev zk_X9_haveCommon (68, ls, st, s, k) else zev zk_X9_haveCommon (12, ls, st, s, k) := zf_cmp (f := fun x y => decide (y ≤ x)) rfl
theorem zr_X9_haveCommon_12 (a1 a2 a3 a4 a5 a6 : Option zAV) (st : List zAV) (s : zAS) (k : Nat × Nat) (o : Nat × Nat) : zev zk_X9_haveCommon (12, [some (Sum.inr o), a1, a2, a3, a4, a5, a6], st, s, k) = zev zk_X9_haveCommon (13, [some (Sum.inr o), a1, a2, a3, a4, a5, a6], Sum.inr o :: st, s, k) := zev_go rfl rfl
theorem zr_X9_haveCommon_13 (a0 a2 a3 a4 a5 a6 : Option zAV) (st : List zAV) (s : zAS) (k : Nat × Nat) (x : Int32) : zev zk_X9_haveCommon (13, [a0, some (Sum.inl (Value.int x)), a2, a3, a4, a5, a6], st, s, k) = zev zk_X9_haveCommon (14, [a0, some (Sum.inl (Value.int x)), a2, a3, a4, a5, a6], Sum.inl (Value.int x) :: st, s, k) := zev_go rfl rfl
theorem zr_X9_haveCommon_14 (a0 a1 a2 a3 a5 a6 : Option zAV) (st : List zAV) (s : zAS) (k : Nat × Nat) (x : Int32) : zev zk_X9_haveCommon (14, [a0, a1, a2, a3, some (Sum.inl (Value.int x)), a5, a6], st, s, k) = zev zk_X9_haveCommon (16, [a0, a1, a2, a3, some (Sum.inl (Value.int x)), a5, a6], Sum.inl (Value.int x) :: st, s, k) := zev_go rfl rfl
theorem zr_X9_haveCommon_16 (ls : zLs) (st : List zAV) (s : zAS) (k : Nat × Nat) (r v0 v1 : zAV) (h : zcok zEM 9 0 0 (zR_X9_haveCommon).cells (zR_X9_haveCommon).slots r st k) : zev zk_X9_haveCommon (16, ls, v1 :: v0 :: r :: st, s, k) = zret zk_X9_haveCommon 19 ls st (k.1 + 0, k.2 + 0) (m_X9_onLine [r, v0, v1] s) := zf_callV (as := [v1, v0]) 2 rfl rfl h
theorem zr_X9_haveCommon_19 (ls : zLs) (st : List zAV) (s : zAS) (k : Nat × Nat) (v : zAV) (hv : zc1 v = true) : zev zk_X9_haveCommon (19, ls, v :: st, s, k) = zev zk_X9_haveCommon (20, ls, st, s, k) := zf_pop rfl hv
theorem zr_X9_haveCommon_20 (a1 a2 a3 a4 a5 a6 : Option zAV) (st : List zAV) (s : zAS) (k : Nat × Nat) (o : Nat × Nat) : zev zk_X9_haveCommon (20, [some (Sum.inr o), a1, a2, a3, a4, a5, a6], st, s, k) = zev zk_X9_haveCommon (21, [some (Sum.inr o), a1, a2, a3, a4, a5, a6], Sum.inr o :: st, s, k) := zev_go rfl rfl
theorem zr_X9_haveCommon_21 (ls : zLs) (st : List zAV) (s : zAS) (k : Nat × Nat) (o i : Nat) : zev zk_X9_haveCommon (21, ls, Sum.inr (o, i) :: st, s, k) = zpush zk_X9_haveCommon 24 ls st s k (zgv zEM 9 6 o i s.1) := zf_get rfl
theorem zr_X9_haveCommon_24 (ls : zLs) (st : List zAV) (s : zAS) (k : Nat × Nat) : zev zk_X9_haveCommon (24, ls, st, s, k) = zev zk_X9_haveCommon (25, ls, Sum.inl (Value.int (0)) :: st, s, k) := zev_go rfl rfl
theorem zr_X9_haveCommon_25 (ls : zLs) (st : List zAV) (s : zAS) (k : Nat × Nat) (o i : Nat) (j : Int32) : zev zk_X9_haveCommon (25, ls, Sum.inl (Value.int j) :: Sum.inr (o, i) :: st, s, k) = zpush zk_X9_haveCommon 26 ls st s k (zald zEM o i j s) := zf_iald rfl
theorem zr_X9_haveCommon_26 (a0 a1 a2 a3 a4 a5 a6 : Option zAV) (st : List zAV) (s : zAS) (k : Nat × Nat) (x : Int32) : zev zk_X9_haveCommon (26, [a0, a1, a2, a3, a4, a5, a6], Sum.inl (Value.int x) :: st, s, k) = zev zk_X9_haveCommon (28, [a0, a1, a2, a3, zk1 a4, some (Sum.inl (Value.int x)), a6], st, s, k) := zev_go rfl rfl
theorem zr_X9_haveCommon_28 (a1 a2 a3 a4 a5 a6 : Option zAV) (st : List zAV) (s : zAS) (k : Nat × Nat) (o : Nat × Nat) : zev zk_X9_haveCommon (28, [some (Sum.inr o), a1, a2, a3, a4, a5, a6], st, s, k) = zev zk_X9_haveCommon (29, [some (Sum.inr o), a1, a2, a3, a4, a5, a6], Sum.inr o :: st, s, k) := zev_go rfl rfl
theorem zr_X9_haveCommon_29 (ls : zLs) (st : List zAV) (s : zAS) (k : Nat × Nat) (o i : Nat) : zev zk_X9_haveCommon (29, ls, Sum.inr (o, i) :: st, s, k) = zpush zk_X9_haveCommon 32 ls st s k (zgv zEM 9 6 o i s.1) := zf_get rfl
theorem zr_X9_haveCommon_32 (ls : zLs) (st : List zAV) (s : zAS) (k : Nat × Nat) : zev zk_X9_haveCommon (32, ls, st, s, k) = zev zk_X9_haveCommon (33, ls, Sum.inl (Value.int (1)) :: st, s, k) := zev_go rfl rfl
theorem zr_X9_haveCommon_33 (ls : zLs) (st : List zAV) (s : zAS) (k : Nat × Nat) (o i : Nat) (j : Int32) : zev zk_X9_haveCommon (33, ls, Sum.inl (Value.int j) :: Sum.inr (o, i) :: st, s, k) = zpush zk_X9_haveCommon 34 ls st s k (zald zEM o i j s) := zf_iald rfl
theorem zr_X9_haveCommon_34 (a0 a1 a2 a3 a4 a5 a6 : Option zAV) (st : List zAV) (s : zAS) (k : Nat × Nat) (x : Int32) : zev zk_X9_haveCommon (34, [a0, a1, a2, a3, a4, a5, a6], Sum.inl (Value.int x) :: st, s, k) = zev zk_X9_haveCommon (36, [a0, a1, a2, a3, a4, zk1 a5, some (Sum.inl (Value.int x))], st, s, k) := zev_go rfl rfl
theorem zr_X9_haveCommon_36 (a1 a2 a3 a4 a5 a6 : Option zAV) (st : List zAV) (s : zAS) (k : Nat × Nat) (o : Nat × Nat) : zev zk_X9_haveCommon (36, [some (Sum.inr o), a1, a2, a3, a4, a5, a6], st, s, k) = zev zk_X9_haveCommon (37, [some (Sum.inr o), a1, a2, a3, a4, a5, a6], Sum.inr o :: st, s, k) := zev_go rfl rfl
theorem zr_X9_haveCommon_37 (a0 a1 a3 a4 a5 a6 : Option zAV) (st : List zAV) (s : zAS) (k : Nat × Nat) (x : Int32) : zev zk_X9_haveCommon (37, [a0, a1, some (Sum.inl (Value.int x)), a3, a4, a5, a6], st, s, k) = zev zk_X9_haveCommon (38, [a0, a1, some (Sum.inl (Value.int x)), a3, a4, a5, a6], Sum.inl (Value.int x) :: st, s, k) := zev_go rfl rfl
theorem zr_X9_haveCommon_38 (a0 a1 a2 a3 a4 a6 : Option zAV) (st : List zAV) (s : zAS) (k : Nat × Nat) (x : Int32) : zev zk_X9_haveCommon (38, [a0, a1, a2, a3, a4, some (Sum.inl (Value.int x)), a6], st, s, k) = zev zk_X9_haveCommon (40, [a0, a1, a2, a3, a4, some (Sum.inl (Value.int x)), a6], Sum.inl (Value.int x) :: st, s, k) := zev_go rfl rfl
theorem zr_X9_haveCommon_40 (a0 a1 a2 a3 a4 a5 : Option zAV) (st : List zAV) (s : zAS) (k : Nat × Nat) (x : Int32) : zev zk_X9_haveCommon (40, [a0, a1, a2, a3, a4, a5, some (Sum.inl (Value.int x))], st, s, k) = zev zk_X9_haveCommon (42, [a0, a1, a2, a3, a4, a5, some (Sum.inl (Value.int x))], Sum.inl (Value.int x) :: st, s, k) := zev_go rfl rfl
theorem zr_X9_haveCommon_42 (ls : zLs) (st : List zAV) (s : zAS) (k : Nat × Nat) (r v0 v1 v2 : zAV) (h : zcok zEM 9 0 0 (zR_X9_haveCommon).cells (zR_X9_haveCommon).slots r st k) : zev zk_X9_haveCommon (42, ls, v2 :: v1 :: v0 :: r :: st, s, k) = zret zk_X9_haveCommon 45 ls st (k.1 + 0, k.2 + 0) (m_X9_isOnLine [r, v0, v1, v2] s) := zf_callV (as := [v2, v1, v0]) 3 rfl rfl h
theorem zr_X9_haveCommon_45 (ls : zLs) (st : List zAV) (s : zAS) (k : Nat × Nat) (x : Int32) : zev zk_X9_haveCommon (45, ls, Sum.inl (Value.int x) :: st, s, k) = if decide (x = 0) = true then zev zk_X9_haveCommon (62, ls, st, s, k) else zev zk_X9_haveCommon (48, ls, st, s, k) := zf_if (f := fun x => decide (x = 0)) rfl
theorem zr_X9_haveCommon_48 (a1 a2 a3 a4 a5 a6 : Option zAV) (st : List zAV) (s : zAS) (k : Nat × Nat) (o : Nat × Nat) : zev zk_X9_haveCommon (48, [some (Sum.inr o), a1, a2, a3, a4, a5, a6], st, s, k) = zev zk_X9_haveCommon (49, [some (Sum.inr o), a1, a2, a3, a4, a5, a6], Sum.inr o :: st, s, k) := zev_go rfl rfl
theorem zr_X9_haveCommon_49 (a0 a1 a2 a4 a5 a6 : Option zAV) (st : List zAV) (s : zAS) (k : Nat × Nat) (x : Int32) : zev zk_X9_haveCommon (49, [a0, a1, a2, some (Sum.inl (Value.int x)), a4, a5, a6], st, s, k) = zev zk_X9_haveCommon (50, [a0, a1, a2, some (Sum.inl (Value.int x)), a4, a5, a6], Sum.inl (Value.int x) :: st, s, k) := zev_go rfl rfl
theorem zr_X9_haveCommon_50 (a0 a1 a2 a3 a4 a6 : Option zAV) (st : List zAV) (s : zAS) (k : Nat × Nat) (x : Int32) : zev zk_X9_haveCommon (50, [a0, a1, a2, a3, a4, some (Sum.inl (Value.int x)), a6], st, s, k) = zev zk_X9_haveCommon (52, [a0, a1, a2, a3, a4, some (Sum.inl (Value.int x)), a6], Sum.inl (Value.int x) :: st, s, k) := zev_go rfl rfl
theorem zr_X9_haveCommon_52 (a0 a1 a2 a3 a4 a5 : Option zAV) (st : List zAV) (s : zAS) (k : Nat × Nat) (x : Int32) : zev zk_X9_haveCommon (52, [a0, a1, a2, a3, a4, a5, some (Sum.inl (Value.int x))], st, s, k) = zev zk_X9_haveCommon (54, [a0, a1, a2, a3, a4, a5, some (Sum.inl (Value.int x))], Sum.inl (Value.int x) :: st, s, k) := zev_go rfl rfl
theorem zr_X9_haveCommon_54 (ls : zLs) (st : List zAV) (s : zAS) (k : Nat × Nat) (r v0 v1 v2 : zAV) (h : zcok zEM 9 0 0 (zR_X9_haveCommon).cells (zR_X9_haveCommon).slots r st k) : zev zk_X9_haveCommon (54, ls, v2 :: v1 :: v0 :: r :: st, s, k) = zret zk_X9_haveCommon 57 ls st (k.1 + 0, k.2 + 0) (m_X9_isOnLine [r, v0, v1, v2] s) := zf_callV (as := [v2, v1, v0]) 3 rfl rfl h
theorem zr_X9_haveCommon_57 (ls : zLs) (st : List zAV) (s : zAS) (k : Nat × Nat) (x : Int32) : zev zk_X9_haveCommon (57, ls, Sum.inl (Value.int x) :: st, s, k) = if decide (x = 0) = true then zev zk_X9_haveCommon (62, ls, st, s, k) else zev zk_X9_haveCommon (60, ls, st, s, k) := zf_if (f := fun x => decide (x = 0)) rfl
theorem zr_X9_haveCommon_60 (ls : zLs) (st : List zAV) (s : zAS) (k : Nat × Nat) : zev zk_X9_haveCommon (60, ls, st, s, k) = zev zk_X9_haveCommon (61, ls, Sum.inl (Value.int (1)) :: st, s, k) := zev_go rfl rfl
theorem zr_X9_haveCommon_61 (ls : zLs) (s : zAS) (k : Nat × Nat) (x : Int32) (hx : x = 0 ∨ x = 1) : zev zk_X9_haveCommon (61, ls, [Sum.inl (Value.int x)], s, k) = some (.inl (some (Sum.inl (Value.int x))), s) := zf_retz rfl hx
theorem zr_X9_haveCommon_62 (a0 a1 a2 a3 a5 a6 : Option zAV) (st : List zAV) (s : zAS) (k : Nat × Nat) (x : Int32) : zev zk_X9_haveCommon (62, [a0, a1, a2, a3, some (Sum.inl (Value.int x)), a5, a6], st, s, k) = zev zk_X9_haveCommon (65, [a0, a1, a2, zk1 a3, some (Sum.inl (Value.int (x + (1)))), a5, a6], st, s, k) := zev_go rfl rfl
theorem zr_X9_haveCommon_65 (ls : zLs) (st : List zAV) (s : zAS) (k : Nat × Nat) : zev zk_X9_haveCommon (65, ls, st, s, k) = zev zk_X9_haveCommon (3, ls, st, s, k) := zev_go rfl rfl
theorem zr_X9_haveCommon_68 (ls : zLs) (st : List zAV) (s : zAS) (k : Nat × Nat) : zev zk_X9_haveCommon (68, ls, st, s, k) = zev zk_X9_haveCommon (69, ls, Sum.inl (Value.int (0)) :: st, s, k) := zev_go rfl rfl
theorem zr_X9_haveCommon_69 (ls : zLs) (s : zAS) (k : Nat × Nat) (x : Int32) (hx : x = 0 ∨ x = 1) : zev zk_X9_haveCommon (69, ls, [Sum.inl (Value.int x)], s, k) = some (.inl (some (Sum.inl (Value.int x))), s) := zf_retz rfl hx
/-! X9_isTrue: PrimePlaneModel.isTrue(IIIII)Z -/
abbrev zR_X9_isTrue : Room := ({ frames := 5, cells := 0, slots := 0, locals := 116 } : Room)
noncomputable def zl_X9_isTrue : List (Nat × zOp) := [(0, z_ldi 1 1), (1, z_tsw 0 6 [44, 60, 98, 107, 139, 175, 236] 243), (44, z_lda 0 45), (45, z_ldi 3 46), (46, z_lda 0 47), (47, z_ldi 2 48), (48, z_callV zEM 9 m_X9_x 1 0 0 (zR_X9_isTrue).cells (zR_X9_isTrue).slots 51), (51, z_lda 0 52), (52, z_ldi 2 53), (53, z_callV zEM 9 m_X9_y 1 0 0 (zR_X9_isTrue).cells (zR_X9_isTrue).slots 56), (56, z_callV zEM 9 m_X9_isOnLine 3 0 0 (zR_X9_isTrue).cells (zR_X9_isTrue).slots 59), (59, z_reti true), (60, z_lda 0 61), (61, z_lda 0 62), (62, z_ldi 2 63), (63, z_callV zEM 9 m_X9_x 1 0 0 (zR_X9_isTrue).cells (zR_X9_isTrue).slots 66), (66, z_lda 0 67), (67, z_ldi 2 68), (68, z_callV zEM 9 m_X9_y 1 0 0 (zR_X9_isTrue).cells (zR_X9_isTrue).slots 71), (71, z_lda 0 72), (72, z_ldi 3 73), (73, z_callV zEM 9 m_X9_x 1 0 0 (zR_X9_isTrue).cells (zR_X9_isTrue).slots 76), (76, z_lda 0 77), (77, z_ldi 3 78), (78, z_callV zEM 9 m_X9_y 1 0 0 (zR_X9_isTrue).cells (zR_X9_isTrue).slots 81), (81, z_callV zEM 9 m_X9_squareOf 4 0 0 (zR_X9_isTrue).cells (zR_X9_isTrue).slots 84), (84, z_lda 0 85), (85, z_ldi 3 86), (86, z_callV zEM 9 m_X9_z 1 0 0 (zR_X9_isTrue).cells (zR_X9_isTrue).slots 89), (89, z_cmp (fun x y => decide (¬ x = y)) 96 92), (92, z_ic (1) 93), (93, z_goto 97), (96, z_ic (0) 97), (97, z_reti true), (98, z_lda 0 99), (99, z_ldi 2 100), (100, z_ldi 3 101), (101, z_ldi 4 103), (103, z_callV zEM 9 m_X9_areInLine 3 0 0 (zR_X9_isTrue).cells (zR_X9_isTrue).slots 106), (106, z_reti true), (107, z_lda 0 108), (108, z_ldi 2 109), (109, z_callV zEM 9 m_X9_x 1 0 0 (zR_X9_isTrue).cells (zR_X9_isTrue).slots 112), (112, z_lda 0 113), (113, z_ldi 3 114), (114, z_callV zEM 9 m_X9_x 1 0 0 (zR_X9_isTrue).cells (zR_X9_isTrue).slots 117), (117, z_cmp (fun x y => decide (¬ x = y)) 137 120), (120, z_lda 0 121), (121, z_ldi 2 122), (122, z_callV zEM 9 m_X9_y 1 0 0 (zR_X9_isTrue).cells (zR_X9_isTrue).slots 125), (125, z_lda 0 126), (126, z_ldi 3 127), (127, z_callV zEM 9 m_X9_y 1 0 0 (zR_X9_isTrue).cells (zR_X9_isTrue).slots 130), (130, z_cmp (fun x y => decide (¬ x = y)) 137 133), (133, z_ic (1) 134), (134, z_goto 138), (137, z_ic (0) 138), (138, z_reti true), (139, z_lda 0 140), (140, z_lda 0 141), (141, z_ldi 2 142), (142, z_callV zEM 9 m_X9_x 1 0 0 (zR_X9_isTrue).cells (zR_X9_isTrue).slots 145), (145, z_lda 0 146), (146, z_ldi 3 147), (147, z_callV zEM 9 m_X9_x 1 0 0 (zR_X9_isTrue).cells (zR_X9_isTrue).slots 150), (150, z_bin (fun x y => x * y) 151), (151, z_lda 0 152), (152, z_ldi 2 153), (153, z_callV zEM 9 m_X9_y 1 0 0 (zR_X9_isTrue).cells (zR_X9_isTrue).slots 156), (156, z_lda 0 157), (157, z_ldi 3 158), (158, z_callV zEM 9 m_X9_y 1 0 0 (zR_X9_isTrue).cells (zR_X9_isTrue).slots 161), (161, z_bin (fun x y => x * y) 162), (162, z_bin (fun x y => x + y) 163), (163, z_callV zEM 9 m_X9_mod 1 0 0 (zR_X9_isTrue).cells (zR_X9_isTrue).slots 166), (166, z_if (fun x => decide (¬ x = 0)) 173 169), (169, z_ic (1) 170), (170, z_goto 174), (173, z_ic (0) 174), (174, z_reti true), (175, z_lda 0 176), (176, z_lda 0 177), (177, z_ldi 2 178), (178, z_callV zEM 9 m_X9_x 1 0 0 (zR_X9_isTrue).cells (zR_X9_isTrue).slots 181), (181, z_lda 0 182), (182, z_ldi 2 183), (183, z_callV zEM 9 m_X9_y 1 0 0 (zR_X9_isTrue).cells (zR_X9_isTrue).slots 186), (186, z_lda 0 187), (187, z_ldi 3 188), (188, z_callV zEM 9 m_X9_x 1 0 0 (zR_X9_isTrue).cells (zR_X9_isTrue).slots 191), (191, z_lda 0 192), (192, z_ldi 3 193), (193, z_callV zEM 9 m_X9_y 1 0 0 (zR_X9_isTrue).cells (zR_X9_isTrue).slots 196), (196, z_callV zEM 9 m_X9_squareOf 4 0 0 (zR_X9_isTrue).cells (zR_X9_isTrue).slots 199), (199, z_lda 0 200), (200, z_lda 0 201), (201, z_ldi 4 203), (203, z_callV zEM 9 m_X9_x 1 0 0 (zR_X9_isTrue).cells (zR_X9_isTrue).slots 206), (206, z_lda 0 207), (207, z_ldi 4 209), (209, z_callV zEM 9 m_X9_y 1 0 0 (zR_X9_isTrue).cells (zR_X9_isTrue).slots 212), (212, z_lda 0 213), (213, z_ldi 5 215), (215, z_callV zEM 9 m_X9_x 1 0 0 (zR_X9_isTrue).cells (zR_X9_isTrue).slots 218), (218, z_lda 0 219), (219, z_ldi 5 221), (221, z_callV zEM 9 m_X9_y 1 0 0 (zR_X9_isTrue).cells (zR_X9_isTrue).slots 224), (224, z_callV zEM 9 m_X9_squareOf 4 0 0 (zR_X9_isTrue).cells (zR_X9_isTrue).slots 227), (227, z_cmp (fun x y => decide (¬ x = y)) 234 230), (230, z_ic (1) 231), (231, z_goto 235), (234, z_ic (0) 235), (235, z_reti true), (236, z_lda 0 237), (237, z_ldi 2 238), (238, z_ldi 3 239), (239, z_callV zEM 9 m_X9_areSame 2 0 0 (zR_X9_isTrue).cells (zR_X9_isTrue).slots 242), (242, z_reti true), (243, z_lda 0 244), (244, z_ldi 2 245), (245, z_ldi 3 246), (246, z_ldi 4 248), (248, z_callV zEM 9 m_X9_haveCommon 3 0 0 (zR_X9_isTrue).cells (zR_X9_isTrue).slots 251), (251, z_reti true)]
noncomputable def zk_X9_isTrue (pc : Nat) : Option zOp := zlook zl_X9_isTrue pc
noncomputable def m_X9_isTrue : List zAV → zAS → Option zOut := zmeth zk_X9_isTrue 6
set_option maxRecDepth 100000 in
set_option maxHeartbeats 4000000 in
theorem zcs_X9_isTrue {R : Room} (hR : R = zR_X9_isTrue) : ∀ q ∈ zl_X9_isTrue, zS zEM yX9_isTrue.cls cX9_isTrue 6 wsX9_isTrue (some .boolean) R q.1 q.2 := by
  subst hR
  refine List.forall_mem_cons.mpr ⟨zs_iload_n dX9_isTrue_0 rfl, ?_⟩
  refine List.forall_mem_cons.mpr ⟨zs_tsw dX9_isTrue_1 (by decide) (by decide), ?_⟩
  refine List.forall_mem_cons.mpr ⟨zs_aload_n dX9_isTrue_44 rfl, ?_⟩
  refine List.forall_mem_cons.mpr ⟨zs_iload_n dX9_isTrue_45 rfl, ?_⟩
  refine List.forall_mem_cons.mpr ⟨zs_aload_n dX9_isTrue_46 rfl, ?_⟩
  refine List.forall_mem_cons.mpr ⟨zs_iload_n dX9_isTrue_47 rfl, ?_⟩
  refine List.forall_mem_cons.mpr ⟨zs_callV (ci := 9) (rm := zR_X9_x) (n := 1) rfl zM_X9_x gX9_isTrue_X9_x rfl (by decide +kernel) ⟨by decide, by decide⟩ dX9_isTrue_48, ?_⟩
  refine List.forall_mem_cons.mpr ⟨zs_aload_n dX9_isTrue_51 rfl, ?_⟩
  refine List.forall_mem_cons.mpr ⟨zs_iload_n dX9_isTrue_52 rfl, ?_⟩
  refine List.forall_mem_cons.mpr ⟨zs_callV (ci := 9) (rm := zR_X9_y) (n := 1) rfl zM_X9_y gX9_isTrue_X9_y rfl (by decide +kernel) ⟨by decide, by decide⟩ dX9_isTrue_53, ?_⟩
  refine List.forall_mem_cons.mpr ⟨zs_callV (ci := 9) (rm := zR_X9_isOnLine) (n := 3) rfl zM_X9_isOnLine gX9_isTrue_X9_isOnLine rfl (by decide +kernel) ⟨by decide, by decide⟩ dX9_isTrue_56, ?_⟩
  refine List.forall_mem_cons.mpr ⟨zs_reti (ty := .boolean) rfl (fun x h => (znz x h).1) dX9_isTrue_59, ?_⟩
  refine List.forall_mem_cons.mpr ⟨zs_aload_n dX9_isTrue_60 rfl, ?_⟩
  refine List.forall_mem_cons.mpr ⟨zs_aload_n dX9_isTrue_61 rfl, ?_⟩
  refine List.forall_mem_cons.mpr ⟨zs_iload_n dX9_isTrue_62 rfl, ?_⟩
  refine List.forall_mem_cons.mpr ⟨zs_callV (ci := 9) (rm := zR_X9_x) (n := 1) rfl zM_X9_x gX9_isTrue_X9_x rfl (by decide +kernel) ⟨by decide, by decide⟩ dX9_isTrue_63, ?_⟩
  refine List.forall_mem_cons.mpr ⟨zs_aload_n dX9_isTrue_66 rfl, ?_⟩
  refine List.forall_mem_cons.mpr ⟨zs_iload_n dX9_isTrue_67 rfl, ?_⟩
  refine List.forall_mem_cons.mpr ⟨zs_callV (ci := 9) (rm := zR_X9_y) (n := 1) rfl zM_X9_y gX9_isTrue_X9_y rfl (by decide +kernel) ⟨by decide, by decide⟩ dX9_isTrue_68, ?_⟩
  refine List.forall_mem_cons.mpr ⟨zs_aload_n dX9_isTrue_71 rfl, ?_⟩
  refine List.forall_mem_cons.mpr ⟨zs_iload_n dX9_isTrue_72 rfl, ?_⟩
  refine List.forall_mem_cons.mpr ⟨zs_callV (ci := 9) (rm := zR_X9_x) (n := 1) rfl zM_X9_x gX9_isTrue_X9_x rfl (by decide +kernel) ⟨by decide, by decide⟩ dX9_isTrue_73, ?_⟩
  refine List.forall_mem_cons.mpr ⟨zs_aload_n dX9_isTrue_76 rfl, ?_⟩
  refine List.forall_mem_cons.mpr ⟨zs_iload_n dX9_isTrue_77 rfl, ?_⟩
  refine List.forall_mem_cons.mpr ⟨zs_callV (ci := 9) (rm := zR_X9_y) (n := 1) rfl zM_X9_y gX9_isTrue_X9_y rfl (by decide +kernel) ⟨by decide, by decide⟩ dX9_isTrue_78, ?_⟩
  refine List.forall_mem_cons.mpr ⟨zs_callV (ci := 9) (rm := zR_X9_squareOf) (n := 4) rfl zM_X9_squareOf gX9_isTrue_X9_squareOf rfl (by decide +kernel) ⟨by decide, by decide⟩ dX9_isTrue_81, ?_⟩
  refine List.forall_mem_cons.mpr ⟨zs_aload_n dX9_isTrue_84 rfl, ?_⟩
  refine List.forall_mem_cons.mpr ⟨zs_iload_n dX9_isTrue_85 rfl, ?_⟩
  refine List.forall_mem_cons.mpr ⟨zs_callV (ci := 9) (rm := zR_X9_z) (n := 1) rfl zM_X9_z gX9_isTrue_X9_z rfl (by decide +kernel) ⟨by decide, by decide⟩ dX9_isTrue_86, ?_⟩
  refine List.forall_mem_cons.mpr ⟨zs_icne dX9_isTrue_89 (by decide), ?_⟩
  refine List.forall_mem_cons.mpr ⟨zs_iconst dX9_isTrue_92 (by decide), ?_⟩
  refine List.forall_mem_cons.mpr ⟨zs_goto dX9_isTrue_93 (by decide), ?_⟩
  refine List.forall_mem_cons.mpr ⟨zs_iconst dX9_isTrue_96 (by decide), ?_⟩
  refine List.forall_mem_cons.mpr ⟨zs_reti (ty := .boolean) rfl (fun x h => (znz x h).1) dX9_isTrue_97, ?_⟩
  refine List.forall_mem_cons.mpr ⟨zs_aload_n dX9_isTrue_98 rfl, ?_⟩
  refine List.forall_mem_cons.mpr ⟨zs_iload_n dX9_isTrue_99 rfl, ?_⟩
  refine List.forall_mem_cons.mpr ⟨zs_iload_n dX9_isTrue_100 rfl, ?_⟩
  refine List.forall_mem_cons.mpr ⟨zs_iload dX9_isTrue_101, ?_⟩
  refine List.forall_mem_cons.mpr ⟨zs_callV (ci := 9) (rm := zR_X9_areInLine) (n := 3) rfl zM_X9_areInLine gX9_isTrue_X9_areInLine rfl (by decide +kernel) ⟨by decide, by decide⟩ dX9_isTrue_103, ?_⟩
  refine List.forall_mem_cons.mpr ⟨zs_reti (ty := .boolean) rfl (fun x h => (znz x h).1) dX9_isTrue_106, ?_⟩
  refine List.forall_mem_cons.mpr ⟨zs_aload_n dX9_isTrue_107 rfl, ?_⟩
  refine List.forall_mem_cons.mpr ⟨zs_iload_n dX9_isTrue_108 rfl, ?_⟩
  refine List.forall_mem_cons.mpr ⟨zs_callV (ci := 9) (rm := zR_X9_x) (n := 1) rfl zM_X9_x gX9_isTrue_X9_x rfl (by decide +kernel) ⟨by decide, by decide⟩ dX9_isTrue_109, ?_⟩
  refine List.forall_mem_cons.mpr ⟨zs_aload_n dX9_isTrue_112 rfl, ?_⟩
  refine List.forall_mem_cons.mpr ⟨zs_iload_n dX9_isTrue_113 rfl, ?_⟩
  refine List.forall_mem_cons.mpr ⟨zs_callV (ci := 9) (rm := zR_X9_x) (n := 1) rfl zM_X9_x gX9_isTrue_X9_x rfl (by decide +kernel) ⟨by decide, by decide⟩ dX9_isTrue_114, ?_⟩
  refine List.forall_mem_cons.mpr ⟨zs_icne dX9_isTrue_117 (by decide), ?_⟩
  refine List.forall_mem_cons.mpr ⟨zs_aload_n dX9_isTrue_120 rfl, ?_⟩
  refine List.forall_mem_cons.mpr ⟨zs_iload_n dX9_isTrue_121 rfl, ?_⟩
  refine List.forall_mem_cons.mpr ⟨zs_callV (ci := 9) (rm := zR_X9_y) (n := 1) rfl zM_X9_y gX9_isTrue_X9_y rfl (by decide +kernel) ⟨by decide, by decide⟩ dX9_isTrue_122, ?_⟩
  refine List.forall_mem_cons.mpr ⟨zs_aload_n dX9_isTrue_125 rfl, ?_⟩
  refine List.forall_mem_cons.mpr ⟨zs_iload_n dX9_isTrue_126 rfl, ?_⟩
  refine List.forall_mem_cons.mpr ⟨zs_callV (ci := 9) (rm := zR_X9_y) (n := 1) rfl zM_X9_y gX9_isTrue_X9_y rfl (by decide +kernel) ⟨by decide, by decide⟩ dX9_isTrue_127, ?_⟩
  refine List.forall_mem_cons.mpr ⟨zs_icne dX9_isTrue_130 (by decide), ?_⟩
  refine List.forall_mem_cons.mpr ⟨zs_iconst dX9_isTrue_133 (by decide), ?_⟩
  refine List.forall_mem_cons.mpr ⟨zs_goto dX9_isTrue_134 (by decide), ?_⟩
  refine List.forall_mem_cons.mpr ⟨zs_iconst dX9_isTrue_137 (by decide), ?_⟩
  refine List.forall_mem_cons.mpr ⟨zs_reti (ty := .boolean) rfl (fun x h => (znz x h).1) dX9_isTrue_138, ?_⟩
  refine List.forall_mem_cons.mpr ⟨zs_aload_n dX9_isTrue_139 rfl, ?_⟩
  refine List.forall_mem_cons.mpr ⟨zs_aload_n dX9_isTrue_140 rfl, ?_⟩
  refine List.forall_mem_cons.mpr ⟨zs_iload_n dX9_isTrue_141 rfl, ?_⟩
  refine List.forall_mem_cons.mpr ⟨zs_callV (ci := 9) (rm := zR_X9_x) (n := 1) rfl zM_X9_x gX9_isTrue_X9_x rfl (by decide +kernel) ⟨by decide, by decide⟩ dX9_isTrue_142, ?_⟩
  refine List.forall_mem_cons.mpr ⟨zs_aload_n dX9_isTrue_145 rfl, ?_⟩
  refine List.forall_mem_cons.mpr ⟨zs_iload_n dX9_isTrue_146 rfl, ?_⟩
  refine List.forall_mem_cons.mpr ⟨zs_callV (ci := 9) (rm := zR_X9_x) (n := 1) rfl zM_X9_x gX9_isTrue_X9_x rfl (by decide +kernel) ⟨by decide, by decide⟩ dX9_isTrue_147, ?_⟩
  refine List.forall_mem_cons.mpr ⟨zs_imul dX9_isTrue_150, ?_⟩
  refine List.forall_mem_cons.mpr ⟨zs_aload_n dX9_isTrue_151 rfl, ?_⟩
  refine List.forall_mem_cons.mpr ⟨zs_iload_n dX9_isTrue_152 rfl, ?_⟩
  refine List.forall_mem_cons.mpr ⟨zs_callV (ci := 9) (rm := zR_X9_y) (n := 1) rfl zM_X9_y gX9_isTrue_X9_y rfl (by decide +kernel) ⟨by decide, by decide⟩ dX9_isTrue_153, ?_⟩
  refine List.forall_mem_cons.mpr ⟨zs_aload_n dX9_isTrue_156 rfl, ?_⟩
  refine List.forall_mem_cons.mpr ⟨zs_iload_n dX9_isTrue_157 rfl, ?_⟩
  refine List.forall_mem_cons.mpr ⟨zs_callV (ci := 9) (rm := zR_X9_y) (n := 1) rfl zM_X9_y gX9_isTrue_X9_y rfl (by decide +kernel) ⟨by decide, by decide⟩ dX9_isTrue_158, ?_⟩
  refine List.forall_mem_cons.mpr ⟨zs_imul dX9_isTrue_161, ?_⟩
  refine List.forall_mem_cons.mpr ⟨zs_iadd dX9_isTrue_162, ?_⟩
  refine List.forall_mem_cons.mpr ⟨zs_callV (ci := 9) (rm := zR_X9_mod) (n := 1) rfl zM_X9_mod gX9_isTrue_X9_mod rfl (by decide +kernel) ⟨by decide, by decide⟩ dX9_isTrue_163, ?_⟩
  refine List.forall_mem_cons.mpr ⟨zs_ifne dX9_isTrue_166 (by decide), ?_⟩
  refine List.forall_mem_cons.mpr ⟨zs_iconst dX9_isTrue_169 (by decide), ?_⟩
  refine List.forall_mem_cons.mpr ⟨zs_goto dX9_isTrue_170 (by decide), ?_⟩
  refine List.forall_mem_cons.mpr ⟨zs_iconst dX9_isTrue_173 (by decide), ?_⟩
  refine List.forall_mem_cons.mpr ⟨zs_reti (ty := .boolean) rfl (fun x h => (znz x h).1) dX9_isTrue_174, ?_⟩
  refine List.forall_mem_cons.mpr ⟨zs_aload_n dX9_isTrue_175 rfl, ?_⟩
  refine List.forall_mem_cons.mpr ⟨zs_aload_n dX9_isTrue_176 rfl, ?_⟩
  refine List.forall_mem_cons.mpr ⟨zs_iload_n dX9_isTrue_177 rfl, ?_⟩
  refine List.forall_mem_cons.mpr ⟨zs_callV (ci := 9) (rm := zR_X9_x) (n := 1) rfl zM_X9_x gX9_isTrue_X9_x rfl (by decide +kernel) ⟨by decide, by decide⟩ dX9_isTrue_178, ?_⟩
  refine List.forall_mem_cons.mpr ⟨zs_aload_n dX9_isTrue_181 rfl, ?_⟩
  refine List.forall_mem_cons.mpr ⟨zs_iload_n dX9_isTrue_182 rfl, ?_⟩
  refine List.forall_mem_cons.mpr ⟨zs_callV (ci := 9) (rm := zR_X9_y) (n := 1) rfl zM_X9_y gX9_isTrue_X9_y rfl (by decide +kernel) ⟨by decide, by decide⟩ dX9_isTrue_183, ?_⟩
  refine List.forall_mem_cons.mpr ⟨zs_aload_n dX9_isTrue_186 rfl, ?_⟩
  refine List.forall_mem_cons.mpr ⟨zs_iload_n dX9_isTrue_187 rfl, ?_⟩
  refine List.forall_mem_cons.mpr ⟨zs_callV (ci := 9) (rm := zR_X9_x) (n := 1) rfl zM_X9_x gX9_isTrue_X9_x rfl (by decide +kernel) ⟨by decide, by decide⟩ dX9_isTrue_188, ?_⟩
  refine List.forall_mem_cons.mpr ⟨zs_aload_n dX9_isTrue_191 rfl, ?_⟩
  refine List.forall_mem_cons.mpr ⟨zs_iload_n dX9_isTrue_192 rfl, ?_⟩
  refine List.forall_mem_cons.mpr ⟨zs_callV (ci := 9) (rm := zR_X9_y) (n := 1) rfl zM_X9_y gX9_isTrue_X9_y rfl (by decide +kernel) ⟨by decide, by decide⟩ dX9_isTrue_193, ?_⟩
  refine List.forall_mem_cons.mpr ⟨zs_callV (ci := 9) (rm := zR_X9_squareOf) (n := 4) rfl zM_X9_squareOf gX9_isTrue_X9_squareOf rfl (by decide +kernel) ⟨by decide, by decide⟩ dX9_isTrue_196, ?_⟩
  refine List.forall_mem_cons.mpr ⟨zs_aload_n dX9_isTrue_199 rfl, ?_⟩
  refine List.forall_mem_cons.mpr ⟨zs_aload_n dX9_isTrue_200 rfl, ?_⟩
  refine List.forall_mem_cons.mpr ⟨zs_iload dX9_isTrue_201, ?_⟩
  refine List.forall_mem_cons.mpr ⟨zs_callV (ci := 9) (rm := zR_X9_x) (n := 1) rfl zM_X9_x gX9_isTrue_X9_x rfl (by decide +kernel) ⟨by decide, by decide⟩ dX9_isTrue_203, ?_⟩
  refine List.forall_mem_cons.mpr ⟨zs_aload_n dX9_isTrue_206 rfl, ?_⟩
  refine List.forall_mem_cons.mpr ⟨zs_iload dX9_isTrue_207, ?_⟩
  refine List.forall_mem_cons.mpr ⟨zs_callV (ci := 9) (rm := zR_X9_y) (n := 1) rfl zM_X9_y gX9_isTrue_X9_y rfl (by decide +kernel) ⟨by decide, by decide⟩ dX9_isTrue_209, ?_⟩
  refine List.forall_mem_cons.mpr ⟨zs_aload_n dX9_isTrue_212 rfl, ?_⟩
  refine List.forall_mem_cons.mpr ⟨zs_iload dX9_isTrue_213, ?_⟩
  refine List.forall_mem_cons.mpr ⟨zs_callV (ci := 9) (rm := zR_X9_x) (n := 1) rfl zM_X9_x gX9_isTrue_X9_x rfl (by decide +kernel) ⟨by decide, by decide⟩ dX9_isTrue_215, ?_⟩
  refine List.forall_mem_cons.mpr ⟨zs_aload_n dX9_isTrue_218 rfl, ?_⟩
  refine List.forall_mem_cons.mpr ⟨zs_iload dX9_isTrue_219, ?_⟩
  refine List.forall_mem_cons.mpr ⟨zs_callV (ci := 9) (rm := zR_X9_y) (n := 1) rfl zM_X9_y gX9_isTrue_X9_y rfl (by decide +kernel) ⟨by decide, by decide⟩ dX9_isTrue_221, ?_⟩
  refine List.forall_mem_cons.mpr ⟨zs_callV (ci := 9) (rm := zR_X9_squareOf) (n := 4) rfl zM_X9_squareOf gX9_isTrue_X9_squareOf rfl (by decide +kernel) ⟨by decide, by decide⟩ dX9_isTrue_224, ?_⟩
  refine List.forall_mem_cons.mpr ⟨zs_icne dX9_isTrue_227 (by decide), ?_⟩
  refine List.forall_mem_cons.mpr ⟨zs_iconst dX9_isTrue_230 (by decide), ?_⟩
  refine List.forall_mem_cons.mpr ⟨zs_goto dX9_isTrue_231 (by decide), ?_⟩
  refine List.forall_mem_cons.mpr ⟨zs_iconst dX9_isTrue_234 (by decide), ?_⟩
  refine List.forall_mem_cons.mpr ⟨zs_reti (ty := .boolean) rfl (fun x h => (znz x h).1) dX9_isTrue_235, ?_⟩
  refine List.forall_mem_cons.mpr ⟨zs_aload_n dX9_isTrue_236 rfl, ?_⟩
  refine List.forall_mem_cons.mpr ⟨zs_iload_n dX9_isTrue_237 rfl, ?_⟩
  refine List.forall_mem_cons.mpr ⟨zs_iload_n dX9_isTrue_238 rfl, ?_⟩
  refine List.forall_mem_cons.mpr ⟨zs_callV (ci := 9) (rm := zR_X9_areSame) (n := 2) rfl zM_X9_areSame gX9_isTrue_X9_areSame rfl (by decide +kernel) ⟨by decide, by decide⟩ dX9_isTrue_239, ?_⟩
  refine List.forall_mem_cons.mpr ⟨zs_reti (ty := .boolean) rfl (fun x h => (znz x h).1) dX9_isTrue_242, ?_⟩
  refine List.forall_mem_cons.mpr ⟨zs_aload_n dX9_isTrue_243 rfl, ?_⟩
  refine List.forall_mem_cons.mpr ⟨zs_iload_n dX9_isTrue_244 rfl, ?_⟩
  refine List.forall_mem_cons.mpr ⟨zs_iload_n dX9_isTrue_245 rfl, ?_⟩
  refine List.forall_mem_cons.mpr ⟨zs_iload dX9_isTrue_246, ?_⟩
  refine List.forall_mem_cons.mpr ⟨zs_callV (ci := 9) (rm := zR_X9_haveCommon) (n := 3) rfl zM_X9_haveCommon gX9_isTrue_X9_haveCommon rfl (by decide +kernel) ⟨by decide, by decide⟩ dX9_isTrue_248, ?_⟩
  refine List.forall_mem_cons.mpr ⟨zs_reti (ty := .boolean) rfl (fun x h => (znz x h).1) dX9_isTrue_251, ?_⟩
  exact fun _ h => absurd h List.not_mem_nil
theorem zM_X9_isTrue : zMeets zEM yX9_isTrue wsX9_isTrue zR_X9_isTrue m_X9_isTrue := zmeth_M zEMok (zlook_all (zcs_X9_isTrue rfl)) (by decide +kernel) rfl
theorem zr_X9_isTrue_0 (a0 a2 a3 a4 a5 : Option zAV) (st : List zAV) (s : zAS) (k : Nat × Nat) (x : Int32) : zev zk_X9_isTrue (0, [a0, some (Sum.inl (Value.int x)), a2, a3, a4, a5], st, s, k) = zev zk_X9_isTrue (1, [a0, some (Sum.inl (Value.int x)), a2, a3, a4, a5], Sum.inl (Value.int x) :: st, s, k) := zev_go rfl rfl
theorem zr_X9_isTrue_1 (ls : zLs) (st : List zAV) (s : zAS) (k : Nat × Nat) (x : Int32) : zev zk_X9_isTrue (1, ls, Sum.inl (Value.int x) :: st, s, k) = if x.toInt < 0 ∨ 6 < x.toInt then zev zk_X9_isTrue (243, ls, st, s, k) else match ([44, 60, 98, 107, 139, 175, 236] : List Nat)[(x.toInt - 0).toNat]? with
    | some t => zev zk_X9_isTrue (t, ls, st, s, k)
    | none => none := zf_tsw rfl
theorem zr_X9_isTrue_44 (a1 a2 a3 a4 a5 : Option zAV) (st : List zAV) (s : zAS) (k : Nat × Nat) (o : Nat × Nat) : zev zk_X9_isTrue (44, [some (Sum.inr o), a1, a2, a3, a4, a5], st, s, k) = zev zk_X9_isTrue (45, [some (Sum.inr o), a1, a2, a3, a4, a5], Sum.inr o :: st, s, k) := zev_go rfl rfl
theorem zr_X9_isTrue_45 (a0 a1 a2 a4 a5 : Option zAV) (st : List zAV) (s : zAS) (k : Nat × Nat) (x : Int32) : zev zk_X9_isTrue (45, [a0, a1, a2, some (Sum.inl (Value.int x)), a4, a5], st, s, k) = zev zk_X9_isTrue (46, [a0, a1, a2, some (Sum.inl (Value.int x)), a4, a5], Sum.inl (Value.int x) :: st, s, k) := zev_go rfl rfl
theorem zr_X9_isTrue_46 (a1 a2 a3 a4 a5 : Option zAV) (st : List zAV) (s : zAS) (k : Nat × Nat) (o : Nat × Nat) : zev zk_X9_isTrue (46, [some (Sum.inr o), a1, a2, a3, a4, a5], st, s, k) = zev zk_X9_isTrue (47, [some (Sum.inr o), a1, a2, a3, a4, a5], Sum.inr o :: st, s, k) := zev_go rfl rfl
theorem zr_X9_isTrue_47 (a0 a1 a3 a4 a5 : Option zAV) (st : List zAV) (s : zAS) (k : Nat × Nat) (x : Int32) : zev zk_X9_isTrue (47, [a0, a1, some (Sum.inl (Value.int x)), a3, a4, a5], st, s, k) = zev zk_X9_isTrue (48, [a0, a1, some (Sum.inl (Value.int x)), a3, a4, a5], Sum.inl (Value.int x) :: st, s, k) := zev_go rfl rfl
theorem zr_X9_isTrue_48 (ls : zLs) (st : List zAV) (s : zAS) (k : Nat × Nat) (r v0 : zAV) (h : zcok zEM 9 0 0 (zR_X9_isTrue).cells (zR_X9_isTrue).slots r st k) : zev zk_X9_isTrue (48, ls, v0 :: r :: st, s, k) = zret zk_X9_isTrue 51 ls st (k.1 + 0, k.2 + 0) (m_X9_x [r, v0] s) := zf_callV (as := [v0]) 1 rfl rfl h
theorem zr_X9_isTrue_51 (a1 a2 a3 a4 a5 : Option zAV) (st : List zAV) (s : zAS) (k : Nat × Nat) (o : Nat × Nat) : zev zk_X9_isTrue (51, [some (Sum.inr o), a1, a2, a3, a4, a5], st, s, k) = zev zk_X9_isTrue (52, [some (Sum.inr o), a1, a2, a3, a4, a5], Sum.inr o :: st, s, k) := zev_go rfl rfl
theorem zr_X9_isTrue_52 (a0 a1 a3 a4 a5 : Option zAV) (st : List zAV) (s : zAS) (k : Nat × Nat) (x : Int32) : zev zk_X9_isTrue (52, [a0, a1, some (Sum.inl (Value.int x)), a3, a4, a5], st, s, k) = zev zk_X9_isTrue (53, [a0, a1, some (Sum.inl (Value.int x)), a3, a4, a5], Sum.inl (Value.int x) :: st, s, k) := zev_go rfl rfl
theorem zr_X9_isTrue_53 (ls : zLs) (st : List zAV) (s : zAS) (k : Nat × Nat) (r v0 : zAV) (h : zcok zEM 9 0 0 (zR_X9_isTrue).cells (zR_X9_isTrue).slots r st k) : zev zk_X9_isTrue (53, ls, v0 :: r :: st, s, k) = zret zk_X9_isTrue 56 ls st (k.1 + 0, k.2 + 0) (m_X9_y [r, v0] s) := zf_callV (as := [v0]) 1 rfl rfl h
theorem zr_X9_isTrue_56 (ls : zLs) (st : List zAV) (s : zAS) (k : Nat × Nat) (r v0 v1 v2 : zAV) (h : zcok zEM 9 0 0 (zR_X9_isTrue).cells (zR_X9_isTrue).slots r st k) : zev zk_X9_isTrue (56, ls, v2 :: v1 :: v0 :: r :: st, s, k) = zret zk_X9_isTrue 59 ls st (k.1 + 0, k.2 + 0) (m_X9_isOnLine [r, v0, v1, v2] s) := zf_callV (as := [v2, v1, v0]) 3 rfl rfl h
theorem zr_X9_isTrue_59 (ls : zLs) (s : zAS) (k : Nat × Nat) (x : Int32) (hx : x = 0 ∨ x = 1) : zev zk_X9_isTrue (59, ls, [Sum.inl (Value.int x)], s, k) = some (.inl (some (Sum.inl (Value.int x))), s) := zf_retz rfl hx
theorem zr_X9_isTrue_60 (a1 a2 a3 a4 a5 : Option zAV) (st : List zAV) (s : zAS) (k : Nat × Nat) (o : Nat × Nat) : zev zk_X9_isTrue (60, [some (Sum.inr o), a1, a2, a3, a4, a5], st, s, k) = zev zk_X9_isTrue (61, [some (Sum.inr o), a1, a2, a3, a4, a5], Sum.inr o :: st, s, k) := zev_go rfl rfl
theorem zr_X9_isTrue_61 (a1 a2 a3 a4 a5 : Option zAV) (st : List zAV) (s : zAS) (k : Nat × Nat) (o : Nat × Nat) : zev zk_X9_isTrue (61, [some (Sum.inr o), a1, a2, a3, a4, a5], st, s, k) = zev zk_X9_isTrue (62, [some (Sum.inr o), a1, a2, a3, a4, a5], Sum.inr o :: st, s, k) := zev_go rfl rfl
theorem zr_X9_isTrue_62 (a0 a1 a3 a4 a5 : Option zAV) (st : List zAV) (s : zAS) (k : Nat × Nat) (x : Int32) : zev zk_X9_isTrue (62, [a0, a1, some (Sum.inl (Value.int x)), a3, a4, a5], st, s, k) = zev zk_X9_isTrue (63, [a0, a1, some (Sum.inl (Value.int x)), a3, a4, a5], Sum.inl (Value.int x) :: st, s, k) := zev_go rfl rfl
theorem zr_X9_isTrue_63 (ls : zLs) (st : List zAV) (s : zAS) (k : Nat × Nat) (r v0 : zAV) (h : zcok zEM 9 0 0 (zR_X9_isTrue).cells (zR_X9_isTrue).slots r st k) : zev zk_X9_isTrue (63, ls, v0 :: r :: st, s, k) = zret zk_X9_isTrue 66 ls st (k.1 + 0, k.2 + 0) (m_X9_x [r, v0] s) := zf_callV (as := [v0]) 1 rfl rfl h
theorem zr_X9_isTrue_66 (a1 a2 a3 a4 a5 : Option zAV) (st : List zAV) (s : zAS) (k : Nat × Nat) (o : Nat × Nat) : zev zk_X9_isTrue (66, [some (Sum.inr o), a1, a2, a3, a4, a5], st, s, k) = zev zk_X9_isTrue (67, [some (Sum.inr o), a1, a2, a3, a4, a5], Sum.inr o :: st, s, k) := zev_go rfl rfl
theorem zr_X9_isTrue_67 (a0 a1 a3 a4 a5 : Option zAV) (st : List zAV) (s : zAS) (k : Nat × Nat) (x : Int32) : zev zk_X9_isTrue (67, [a0, a1, some (Sum.inl (Value.int x)), a3, a4, a5], st, s, k) = zev zk_X9_isTrue (68, [a0, a1, some (Sum.inl (Value.int x)), a3, a4, a5], Sum.inl (Value.int x) :: st, s, k) := zev_go rfl rfl
theorem zr_X9_isTrue_68 (ls : zLs) (st : List zAV) (s : zAS) (k : Nat × Nat) (r v0 : zAV) (h : zcok zEM 9 0 0 (zR_X9_isTrue).cells (zR_X9_isTrue).slots r st k) : zev zk_X9_isTrue (68, ls, v0 :: r :: st, s, k) = zret zk_X9_isTrue 71 ls st (k.1 + 0, k.2 + 0) (m_X9_y [r, v0] s) := zf_callV (as := [v0]) 1 rfl rfl h
theorem zr_X9_isTrue_71 (a1 a2 a3 a4 a5 : Option zAV) (st : List zAV) (s : zAS) (k : Nat × Nat) (o : Nat × Nat) : zev zk_X9_isTrue (71, [some (Sum.inr o), a1, a2, a3, a4, a5], st, s, k) = zev zk_X9_isTrue (72, [some (Sum.inr o), a1, a2, a3, a4, a5], Sum.inr o :: st, s, k) := zev_go rfl rfl
theorem zr_X9_isTrue_72 (a0 a1 a2 a4 a5 : Option zAV) (st : List zAV) (s : zAS) (k : Nat × Nat) (x : Int32) : zev zk_X9_isTrue (72, [a0, a1, a2, some (Sum.inl (Value.int x)), a4, a5], st, s, k) = zev zk_X9_isTrue (73, [a0, a1, a2, some (Sum.inl (Value.int x)), a4, a5], Sum.inl (Value.int x) :: st, s, k) := zev_go rfl rfl
theorem zr_X9_isTrue_73 (ls : zLs) (st : List zAV) (s : zAS) (k : Nat × Nat) (r v0 : zAV) (h : zcok zEM 9 0 0 (zR_X9_isTrue).cells (zR_X9_isTrue).slots r st k) : zev zk_X9_isTrue (73, ls, v0 :: r :: st, s, k) = zret zk_X9_isTrue 76 ls st (k.1 + 0, k.2 + 0) (m_X9_x [r, v0] s) := zf_callV (as := [v0]) 1 rfl rfl h
theorem zr_X9_isTrue_76 (a1 a2 a3 a4 a5 : Option zAV) (st : List zAV) (s : zAS) (k : Nat × Nat) (o : Nat × Nat) : zev zk_X9_isTrue (76, [some (Sum.inr o), a1, a2, a3, a4, a5], st, s, k) = zev zk_X9_isTrue (77, [some (Sum.inr o), a1, a2, a3, a4, a5], Sum.inr o :: st, s, k) := zev_go rfl rfl
theorem zr_X9_isTrue_77 (a0 a1 a2 a4 a5 : Option zAV) (st : List zAV) (s : zAS) (k : Nat × Nat) (x : Int32) : zev zk_X9_isTrue (77, [a0, a1, a2, some (Sum.inl (Value.int x)), a4, a5], st, s, k) = zev zk_X9_isTrue (78, [a0, a1, a2, some (Sum.inl (Value.int x)), a4, a5], Sum.inl (Value.int x) :: st, s, k) := zev_go rfl rfl
theorem zr_X9_isTrue_78 (ls : zLs) (st : List zAV) (s : zAS) (k : Nat × Nat) (r v0 : zAV) (h : zcok zEM 9 0 0 (zR_X9_isTrue).cells (zR_X9_isTrue).slots r st k) : zev zk_X9_isTrue (78, ls, v0 :: r :: st, s, k) = zret zk_X9_isTrue 81 ls st (k.1 + 0, k.2 + 0) (m_X9_y [r, v0] s) := zf_callV (as := [v0]) 1 rfl rfl h
theorem zr_X9_isTrue_81 (ls : zLs) (st : List zAV) (s : zAS) (k : Nat × Nat) (r v0 v1 v2 v3 : zAV) (h : zcok zEM 9 0 0 (zR_X9_isTrue).cells (zR_X9_isTrue).slots r st k) : zev zk_X9_isTrue (81, ls, v3 :: v2 :: v1 :: v0 :: r :: st, s, k) = zret zk_X9_isTrue 84 ls st (k.1 + 0, k.2 + 0) (m_X9_squareOf [r, v0, v1, v2, v3] s) := zf_callV (as := [v3, v2, v1, v0]) 4 rfl rfl h
theorem zr_X9_isTrue_84 (a1 a2 a3 a4 a5 : Option zAV) (st : List zAV) (s : zAS) (k : Nat × Nat) (o : Nat × Nat) : zev zk_X9_isTrue (84, [some (Sum.inr o), a1, a2, a3, a4, a5], st, s, k) = zev zk_X9_isTrue (85, [some (Sum.inr o), a1, a2, a3, a4, a5], Sum.inr o :: st, s, k) := zev_go rfl rfl
theorem zr_X9_isTrue_85 (a0 a1 a2 a4 a5 : Option zAV) (st : List zAV) (s : zAS) (k : Nat × Nat) (x : Int32) : zev zk_X9_isTrue (85, [a0, a1, a2, some (Sum.inl (Value.int x)), a4, a5], st, s, k) = zev zk_X9_isTrue (86, [a0, a1, a2, some (Sum.inl (Value.int x)), a4, a5], Sum.inl (Value.int x) :: st, s, k) := zev_go rfl rfl
theorem zr_X9_isTrue_86 (ls : zLs) (st : List zAV) (s : zAS) (k : Nat × Nat) (r v0 : zAV) (h : zcok zEM 9 0 0 (zR_X9_isTrue).cells (zR_X9_isTrue).slots r st k) : zev zk_X9_isTrue (86, ls, v0 :: r :: st, s, k) = zret zk_X9_isTrue 89 ls st (k.1 + 0, k.2 + 0) (m_X9_z [r, v0] s) := zf_callV (as := [v0]) 1 rfl rfl h
theorem zr_X9_isTrue_89 (ls : zLs) (st : List zAV) (s : zAS) (k : Nat × Nat) (x y : Int32) : zev zk_X9_isTrue (89, ls, Sum.inl (Value.int y) :: Sum.inl (Value.int x) :: st, s, k) = if decide (¬ x = y) = true then zev zk_X9_isTrue (96, ls, st, s, k) else zev zk_X9_isTrue (92, ls, st, s, k) := zf_cmp (f := fun x y => decide (¬ x = y)) rfl
theorem zr_X9_isTrue_92 (ls : zLs) (st : List zAV) (s : zAS) (k : Nat × Nat) : zev zk_X9_isTrue (92, ls, st, s, k) = zev zk_X9_isTrue (93, ls, Sum.inl (Value.int (1)) :: st, s, k) := zev_go rfl rfl
theorem zr_X9_isTrue_93 (ls : zLs) (st : List zAV) (s : zAS) (k : Nat × Nat) : zev zk_X9_isTrue (93, ls, st, s, k) = zev zk_X9_isTrue (97, ls, st, s, k) := zev_go rfl rfl
theorem zr_X9_isTrue_96 (ls : zLs) (st : List zAV) (s : zAS) (k : Nat × Nat) : zev zk_X9_isTrue (96, ls, st, s, k) = zev zk_X9_isTrue (97, ls, Sum.inl (Value.int (0)) :: st, s, k) := zev_go rfl rfl
theorem zr_X9_isTrue_97 (ls : zLs) (s : zAS) (k : Nat × Nat) (x : Int32) (hx : x = 0 ∨ x = 1) : zev zk_X9_isTrue (97, ls, [Sum.inl (Value.int x)], s, k) = some (.inl (some (Sum.inl (Value.int x))), s) := zf_retz rfl hx
theorem zr_X9_isTrue_98 (a1 a2 a3 a4 a5 : Option zAV) (st : List zAV) (s : zAS) (k : Nat × Nat) (o : Nat × Nat) : zev zk_X9_isTrue (98, [some (Sum.inr o), a1, a2, a3, a4, a5], st, s, k) = zev zk_X9_isTrue (99, [some (Sum.inr o), a1, a2, a3, a4, a5], Sum.inr o :: st, s, k) := zev_go rfl rfl
theorem zr_X9_isTrue_99 (a0 a1 a3 a4 a5 : Option zAV) (st : List zAV) (s : zAS) (k : Nat × Nat) (x : Int32) : zev zk_X9_isTrue (99, [a0, a1, some (Sum.inl (Value.int x)), a3, a4, a5], st, s, k) = zev zk_X9_isTrue (100, [a0, a1, some (Sum.inl (Value.int x)), a3, a4, a5], Sum.inl (Value.int x) :: st, s, k) := zev_go rfl rfl
theorem zr_X9_isTrue_100 (a0 a1 a2 a4 a5 : Option zAV) (st : List zAV) (s : zAS) (k : Nat × Nat) (x : Int32) : zev zk_X9_isTrue (100, [a0, a1, a2, some (Sum.inl (Value.int x)), a4, a5], st, s, k) = zev zk_X9_isTrue (101, [a0, a1, a2, some (Sum.inl (Value.int x)), a4, a5], Sum.inl (Value.int x) :: st, s, k) := zev_go rfl rfl
theorem zr_X9_isTrue_101 (a0 a1 a2 a3 a5 : Option zAV) (st : List zAV) (s : zAS) (k : Nat × Nat) (x : Int32) : zev zk_X9_isTrue (101, [a0, a1, a2, a3, some (Sum.inl (Value.int x)), a5], st, s, k) = zev zk_X9_isTrue (103, [a0, a1, a2, a3, some (Sum.inl (Value.int x)), a5], Sum.inl (Value.int x) :: st, s, k) := zev_go rfl rfl
theorem zr_X9_isTrue_103 (ls : zLs) (st : List zAV) (s : zAS) (k : Nat × Nat) (r v0 v1 v2 : zAV) (h : zcok zEM 9 0 0 (zR_X9_isTrue).cells (zR_X9_isTrue).slots r st k) : zev zk_X9_isTrue (103, ls, v2 :: v1 :: v0 :: r :: st, s, k) = zret zk_X9_isTrue 106 ls st (k.1 + 0, k.2 + 0) (m_X9_areInLine [r, v0, v1, v2] s) := zf_callV (as := [v2, v1, v0]) 3 rfl rfl h
theorem zr_X9_isTrue_106 (ls : zLs) (s : zAS) (k : Nat × Nat) (x : Int32) (hx : x = 0 ∨ x = 1) : zev zk_X9_isTrue (106, ls, [Sum.inl (Value.int x)], s, k) = some (.inl (some (Sum.inl (Value.int x))), s) := zf_retz rfl hx
theorem zr_X9_isTrue_107 (a1 a2 a3 a4 a5 : Option zAV) (st : List zAV) (s : zAS) (k : Nat × Nat) (o : Nat × Nat) : zev zk_X9_isTrue (107, [some (Sum.inr o), a1, a2, a3, a4, a5], st, s, k) = zev zk_X9_isTrue (108, [some (Sum.inr o), a1, a2, a3, a4, a5], Sum.inr o :: st, s, k) := zev_go rfl rfl
theorem zr_X9_isTrue_108 (a0 a1 a3 a4 a5 : Option zAV) (st : List zAV) (s : zAS) (k : Nat × Nat) (x : Int32) : zev zk_X9_isTrue (108, [a0, a1, some (Sum.inl (Value.int x)), a3, a4, a5], st, s, k) = zev zk_X9_isTrue (109, [a0, a1, some (Sum.inl (Value.int x)), a3, a4, a5], Sum.inl (Value.int x) :: st, s, k) := zev_go rfl rfl
theorem zr_X9_isTrue_109 (ls : zLs) (st : List zAV) (s : zAS) (k : Nat × Nat) (r v0 : zAV) (h : zcok zEM 9 0 0 (zR_X9_isTrue).cells (zR_X9_isTrue).slots r st k) : zev zk_X9_isTrue (109, ls, v0 :: r :: st, s, k) = zret zk_X9_isTrue 112 ls st (k.1 + 0, k.2 + 0) (m_X9_x [r, v0] s) := zf_callV (as := [v0]) 1 rfl rfl h
theorem zr_X9_isTrue_112 (a1 a2 a3 a4 a5 : Option zAV) (st : List zAV) (s : zAS) (k : Nat × Nat) (o : Nat × Nat) : zev zk_X9_isTrue (112, [some (Sum.inr o), a1, a2, a3, a4, a5], st, s, k) = zev zk_X9_isTrue (113, [some (Sum.inr o), a1, a2, a3, a4, a5], Sum.inr o :: st, s, k) := zev_go rfl rfl
theorem zr_X9_isTrue_113 (a0 a1 a2 a4 a5 : Option zAV) (st : List zAV) (s : zAS) (k : Nat × Nat) (x : Int32) : zev zk_X9_isTrue (113, [a0, a1, a2, some (Sum.inl (Value.int x)), a4, a5], st, s, k) = zev zk_X9_isTrue (114, [a0, a1, a2, some (Sum.inl (Value.int x)), a4, a5], Sum.inl (Value.int x) :: st, s, k) := zev_go rfl rfl
theorem zr_X9_isTrue_114 (ls : zLs) (st : List zAV) (s : zAS) (k : Nat × Nat) (r v0 : zAV) (h : zcok zEM 9 0 0 (zR_X9_isTrue).cells (zR_X9_isTrue).slots r st k) : zev zk_X9_isTrue (114, ls, v0 :: r :: st, s, k) = zret zk_X9_isTrue 117 ls st (k.1 + 0, k.2 + 0) (m_X9_x [r, v0] s) := zf_callV (as := [v0]) 1 rfl rfl h
theorem zr_X9_isTrue_117 (ls : zLs) (st : List zAV) (s : zAS) (k : Nat × Nat) (x y : Int32) : zev zk_X9_isTrue (117, ls, Sum.inl (Value.int y) :: Sum.inl (Value.int x) :: st, s, k) = if decide (¬ x = y) = true then zev zk_X9_isTrue (137, ls, st, s, k) else zev zk_X9_isTrue (120, ls, st, s, k) := zf_cmp (f := fun x y => decide (¬ x = y)) rfl
theorem zr_X9_isTrue_120 (a1 a2 a3 a4 a5 : Option zAV) (st : List zAV) (s : zAS) (k : Nat × Nat) (o : Nat × Nat) : zev zk_X9_isTrue (120, [some (Sum.inr o), a1, a2, a3, a4, a5], st, s, k) = zev zk_X9_isTrue (121, [some (Sum.inr o), a1, a2, a3, a4, a5], Sum.inr o :: st, s, k) := zev_go rfl rfl
theorem zr_X9_isTrue_121 (a0 a1 a3 a4 a5 : Option zAV) (st : List zAV) (s : zAS) (k : Nat × Nat) (x : Int32) : zev zk_X9_isTrue (121, [a0, a1, some (Sum.inl (Value.int x)), a3, a4, a5], st, s, k) = zev zk_X9_isTrue (122, [a0, a1, some (Sum.inl (Value.int x)), a3, a4, a5], Sum.inl (Value.int x) :: st, s, k) := zev_go rfl rfl
theorem zr_X9_isTrue_122 (ls : zLs) (st : List zAV) (s : zAS) (k : Nat × Nat) (r v0 : zAV) (h : zcok zEM 9 0 0 (zR_X9_isTrue).cells (zR_X9_isTrue).slots r st k) : zev zk_X9_isTrue (122, ls, v0 :: r :: st, s, k) = zret zk_X9_isTrue 125 ls st (k.1 + 0, k.2 + 0) (m_X9_y [r, v0] s) := zf_callV (as := [v0]) 1 rfl rfl h
theorem zr_X9_isTrue_125 (a1 a2 a3 a4 a5 : Option zAV) (st : List zAV) (s : zAS) (k : Nat × Nat) (o : Nat × Nat) : zev zk_X9_isTrue (125, [some (Sum.inr o), a1, a2, a3, a4, a5], st, s, k) = zev zk_X9_isTrue (126, [some (Sum.inr o), a1, a2, a3, a4, a5], Sum.inr o :: st, s, k) := zev_go rfl rfl
theorem zr_X9_isTrue_126 (a0 a1 a2 a4 a5 : Option zAV) (st : List zAV) (s : zAS) (k : Nat × Nat) (x : Int32) : zev zk_X9_isTrue (126, [a0, a1, a2, some (Sum.inl (Value.int x)), a4, a5], st, s, k) = zev zk_X9_isTrue (127, [a0, a1, a2, some (Sum.inl (Value.int x)), a4, a5], Sum.inl (Value.int x) :: st, s, k) := zev_go rfl rfl
theorem zr_X9_isTrue_127 (ls : zLs) (st : List zAV) (s : zAS) (k : Nat × Nat) (r v0 : zAV) (h : zcok zEM 9 0 0 (zR_X9_isTrue).cells (zR_X9_isTrue).slots r st k) : zev zk_X9_isTrue (127, ls, v0 :: r :: st, s, k) = zret zk_X9_isTrue 130 ls st (k.1 + 0, k.2 + 0) (m_X9_y [r, v0] s) := zf_callV (as := [v0]) 1 rfl rfl h
theorem zr_X9_isTrue_130 (ls : zLs) (st : List zAV) (s : zAS) (k : Nat × Nat) (x y : Int32) : zev zk_X9_isTrue (130, ls, Sum.inl (Value.int y) :: Sum.inl (Value.int x) :: st, s, k) = if decide (¬ x = y) = true then zev zk_X9_isTrue (137, ls, st, s, k) else zev zk_X9_isTrue (133, ls, st, s, k) := zf_cmp (f := fun x y => decide (¬ x = y)) rfl
theorem zr_X9_isTrue_133 (ls : zLs) (st : List zAV) (s : zAS) (k : Nat × Nat) : zev zk_X9_isTrue (133, ls, st, s, k) = zev zk_X9_isTrue (134, ls, Sum.inl (Value.int (1)) :: st, s, k) := zev_go rfl rfl
theorem zr_X9_isTrue_134 (ls : zLs) (st : List zAV) (s : zAS) (k : Nat × Nat) : zev zk_X9_isTrue (134, ls, st, s, k) = zev zk_X9_isTrue (138, ls, st, s, k) := zev_go rfl rfl
theorem zr_X9_isTrue_137 (ls : zLs) (st : List zAV) (s : zAS) (k : Nat × Nat) : zev zk_X9_isTrue (137, ls, st, s, k) = zev zk_X9_isTrue (138, ls, Sum.inl (Value.int (0)) :: st, s, k) := zev_go rfl rfl
theorem zr_X9_isTrue_138 (ls : zLs) (s : zAS) (k : Nat × Nat) (x : Int32) (hx : x = 0 ∨ x = 1) : zev zk_X9_isTrue (138, ls, [Sum.inl (Value.int x)], s, k) = some (.inl (some (Sum.inl (Value.int x))), s) := zf_retz rfl hx
theorem zr_X9_isTrue_139 (a1 a2 a3 a4 a5 : Option zAV) (st : List zAV) (s : zAS) (k : Nat × Nat) (o : Nat × Nat) : zev zk_X9_isTrue (139, [some (Sum.inr o), a1, a2, a3, a4, a5], st, s, k) = zev zk_X9_isTrue (140, [some (Sum.inr o), a1, a2, a3, a4, a5], Sum.inr o :: st, s, k) := zev_go rfl rfl
theorem zr_X9_isTrue_140 (a1 a2 a3 a4 a5 : Option zAV) (st : List zAV) (s : zAS) (k : Nat × Nat) (o : Nat × Nat) : zev zk_X9_isTrue (140, [some (Sum.inr o), a1, a2, a3, a4, a5], st, s, k) = zev zk_X9_isTrue (141, [some (Sum.inr o), a1, a2, a3, a4, a5], Sum.inr o :: st, s, k) := zev_go rfl rfl
theorem zr_X9_isTrue_141 (a0 a1 a3 a4 a5 : Option zAV) (st : List zAV) (s : zAS) (k : Nat × Nat) (x : Int32) : zev zk_X9_isTrue (141, [a0, a1, some (Sum.inl (Value.int x)), a3, a4, a5], st, s, k) = zev zk_X9_isTrue (142, [a0, a1, some (Sum.inl (Value.int x)), a3, a4, a5], Sum.inl (Value.int x) :: st, s, k) := zev_go rfl rfl
theorem zr_X9_isTrue_142 (ls : zLs) (st : List zAV) (s : zAS) (k : Nat × Nat) (r v0 : zAV) (h : zcok zEM 9 0 0 (zR_X9_isTrue).cells (zR_X9_isTrue).slots r st k) : zev zk_X9_isTrue (142, ls, v0 :: r :: st, s, k) = zret zk_X9_isTrue 145 ls st (k.1 + 0, k.2 + 0) (m_X9_x [r, v0] s) := zf_callV (as := [v0]) 1 rfl rfl h
theorem zr_X9_isTrue_145 (a1 a2 a3 a4 a5 : Option zAV) (st : List zAV) (s : zAS) (k : Nat × Nat) (o : Nat × Nat) : zev zk_X9_isTrue (145, [some (Sum.inr o), a1, a2, a3, a4, a5], st, s, k) = zev zk_X9_isTrue (146, [some (Sum.inr o), a1, a2, a3, a4, a5], Sum.inr o :: st, s, k) := zev_go rfl rfl
theorem zr_X9_isTrue_146 (a0 a1 a2 a4 a5 : Option zAV) (st : List zAV) (s : zAS) (k : Nat × Nat) (x : Int32) : zev zk_X9_isTrue (146, [a0, a1, a2, some (Sum.inl (Value.int x)), a4, a5], st, s, k) = zev zk_X9_isTrue (147, [a0, a1, a2, some (Sum.inl (Value.int x)), a4, a5], Sum.inl (Value.int x) :: st, s, k) := zev_go rfl rfl
theorem zr_X9_isTrue_147 (ls : zLs) (st : List zAV) (s : zAS) (k : Nat × Nat) (r v0 : zAV) (h : zcok zEM 9 0 0 (zR_X9_isTrue).cells (zR_X9_isTrue).slots r st k) : zev zk_X9_isTrue (147, ls, v0 :: r :: st, s, k) = zret zk_X9_isTrue 150 ls st (k.1 + 0, k.2 + 0) (m_X9_x [r, v0] s) := zf_callV (as := [v0]) 1 rfl rfl h
theorem zr_X9_isTrue_150 (ls : zLs) (st : List zAV) (s : zAS) (k : Nat × Nat) (x y : Int32) : zev zk_X9_isTrue (150, ls, Sum.inl (Value.int y) :: Sum.inl (Value.int x) :: st, s, k) = zev zk_X9_isTrue (151, ls, Sum.inl (Value.int (x * y)) :: st, s, k) := zev_go rfl rfl
theorem zr_X9_isTrue_151 (a1 a2 a3 a4 a5 : Option zAV) (st : List zAV) (s : zAS) (k : Nat × Nat) (o : Nat × Nat) : zev zk_X9_isTrue (151, [some (Sum.inr o), a1, a2, a3, a4, a5], st, s, k) = zev zk_X9_isTrue (152, [some (Sum.inr o), a1, a2, a3, a4, a5], Sum.inr o :: st, s, k) := zev_go rfl rfl
theorem zr_X9_isTrue_152 (a0 a1 a3 a4 a5 : Option zAV) (st : List zAV) (s : zAS) (k : Nat × Nat) (x : Int32) : zev zk_X9_isTrue (152, [a0, a1, some (Sum.inl (Value.int x)), a3, a4, a5], st, s, k) = zev zk_X9_isTrue (153, [a0, a1, some (Sum.inl (Value.int x)), a3, a4, a5], Sum.inl (Value.int x) :: st, s, k) := zev_go rfl rfl
theorem zr_X9_isTrue_153 (ls : zLs) (st : List zAV) (s : zAS) (k : Nat × Nat) (r v0 : zAV) (h : zcok zEM 9 0 0 (zR_X9_isTrue).cells (zR_X9_isTrue).slots r st k) : zev zk_X9_isTrue (153, ls, v0 :: r :: st, s, k) = zret zk_X9_isTrue 156 ls st (k.1 + 0, k.2 + 0) (m_X9_y [r, v0] s) := zf_callV (as := [v0]) 1 rfl rfl h
theorem zr_X9_isTrue_156 (a1 a2 a3 a4 a5 : Option zAV) (st : List zAV) (s : zAS) (k : Nat × Nat) (o : Nat × Nat) : zev zk_X9_isTrue (156, [some (Sum.inr o), a1, a2, a3, a4, a5], st, s, k) = zev zk_X9_isTrue (157, [some (Sum.inr o), a1, a2, a3, a4, a5], Sum.inr o :: st, s, k) := zev_go rfl rfl
theorem zr_X9_isTrue_157 (a0 a1 a2 a4 a5 : Option zAV) (st : List zAV) (s : zAS) (k : Nat × Nat) (x : Int32) : zev zk_X9_isTrue (157, [a0, a1, a2, some (Sum.inl (Value.int x)), a4, a5], st, s, k) = zev zk_X9_isTrue (158, [a0, a1, a2, some (Sum.inl (Value.int x)), a4, a5], Sum.inl (Value.int x) :: st, s, k) := zev_go rfl rfl
theorem zr_X9_isTrue_158 (ls : zLs) (st : List zAV) (s : zAS) (k : Nat × Nat) (r v0 : zAV) (h : zcok zEM 9 0 0 (zR_X9_isTrue).cells (zR_X9_isTrue).slots r st k) : zev zk_X9_isTrue (158, ls, v0 :: r :: st, s, k) = zret zk_X9_isTrue 161 ls st (k.1 + 0, k.2 + 0) (m_X9_y [r, v0] s) := zf_callV (as := [v0]) 1 rfl rfl h
theorem zr_X9_isTrue_161 (ls : zLs) (st : List zAV) (s : zAS) (k : Nat × Nat) (x y : Int32) : zev zk_X9_isTrue (161, ls, Sum.inl (Value.int y) :: Sum.inl (Value.int x) :: st, s, k) = zev zk_X9_isTrue (162, ls, Sum.inl (Value.int (x * y)) :: st, s, k) := zev_go rfl rfl
theorem zr_X9_isTrue_162 (ls : zLs) (st : List zAV) (s : zAS) (k : Nat × Nat) (x y : Int32) : zev zk_X9_isTrue (162, ls, Sum.inl (Value.int y) :: Sum.inl (Value.int x) :: st, s, k) = zev zk_X9_isTrue (163, ls, Sum.inl (Value.int (x + y)) :: st, s, k) := zev_go rfl rfl
theorem zr_X9_isTrue_163 (ls : zLs) (st : List zAV) (s : zAS) (k : Nat × Nat) (r v0 : zAV) (h : zcok zEM 9 0 0 (zR_X9_isTrue).cells (zR_X9_isTrue).slots r st k) : zev zk_X9_isTrue (163, ls, v0 :: r :: st, s, k) = zret zk_X9_isTrue 166 ls st (k.1 + 0, k.2 + 0) (m_X9_mod [r, v0] s) := zf_callV (as := [v0]) 1 rfl rfl h
theorem zr_X9_isTrue_166 (ls : zLs) (st : List zAV) (s : zAS) (k : Nat × Nat) (x : Int32) : zev zk_X9_isTrue (166, ls, Sum.inl (Value.int x) :: st, s, k) = if decide (¬ x = 0) = true then zev zk_X9_isTrue (173, ls, st, s, k) else zev zk_X9_isTrue (169, ls, st, s, k) := zf_if (f := fun x => decide (¬ x = 0)) rfl
theorem zr_X9_isTrue_169 (ls : zLs) (st : List zAV) (s : zAS) (k : Nat × Nat) : zev zk_X9_isTrue (169, ls, st, s, k) = zev zk_X9_isTrue (170, ls, Sum.inl (Value.int (1)) :: st, s, k) := zev_go rfl rfl
theorem zr_X9_isTrue_170 (ls : zLs) (st : List zAV) (s : zAS) (k : Nat × Nat) : zev zk_X9_isTrue (170, ls, st, s, k) = zev zk_X9_isTrue (174, ls, st, s, k) := zev_go rfl rfl
theorem zr_X9_isTrue_173 (ls : zLs) (st : List zAV) (s : zAS) (k : Nat × Nat) : zev zk_X9_isTrue (173, ls, st, s, k) = zev zk_X9_isTrue (174, ls, Sum.inl (Value.int (0)) :: st, s, k) := zev_go rfl rfl
theorem zr_X9_isTrue_174 (ls : zLs) (s : zAS) (k : Nat × Nat) (x : Int32) (hx : x = 0 ∨ x = 1) : zev zk_X9_isTrue (174, ls, [Sum.inl (Value.int x)], s, k) = some (.inl (some (Sum.inl (Value.int x))), s) := zf_retz rfl hx
theorem zr_X9_isTrue_175 (a1 a2 a3 a4 a5 : Option zAV) (st : List zAV) (s : zAS) (k : Nat × Nat) (o : Nat × Nat) : zev zk_X9_isTrue (175, [some (Sum.inr o), a1, a2, a3, a4, a5], st, s, k) = zev zk_X9_isTrue (176, [some (Sum.inr o), a1, a2, a3, a4, a5], Sum.inr o :: st, s, k) := zev_go rfl rfl
theorem zr_X9_isTrue_176 (a1 a2 a3 a4 a5 : Option zAV) (st : List zAV) (s : zAS) (k : Nat × Nat) (o : Nat × Nat) : zev zk_X9_isTrue (176, [some (Sum.inr o), a1, a2, a3, a4, a5], st, s, k) = zev zk_X9_isTrue (177, [some (Sum.inr o), a1, a2, a3, a4, a5], Sum.inr o :: st, s, k) := zev_go rfl rfl
theorem zr_X9_isTrue_177 (a0 a1 a3 a4 a5 : Option zAV) (st : List zAV) (s : zAS) (k : Nat × Nat) (x : Int32) : zev zk_X9_isTrue (177, [a0, a1, some (Sum.inl (Value.int x)), a3, a4, a5], st, s, k) = zev zk_X9_isTrue (178, [a0, a1, some (Sum.inl (Value.int x)), a3, a4, a5], Sum.inl (Value.int x) :: st, s, k) := zev_go rfl rfl
theorem zr_X9_isTrue_178 (ls : zLs) (st : List zAV) (s : zAS) (k : Nat × Nat) (r v0 : zAV) (h : zcok zEM 9 0 0 (zR_X9_isTrue).cells (zR_X9_isTrue).slots r st k) : zev zk_X9_isTrue (178, ls, v0 :: r :: st, s, k) = zret zk_X9_isTrue 181 ls st (k.1 + 0, k.2 + 0) (m_X9_x [r, v0] s) := zf_callV (as := [v0]) 1 rfl rfl h
theorem zr_X9_isTrue_181 (a1 a2 a3 a4 a5 : Option zAV) (st : List zAV) (s : zAS) (k : Nat × Nat) (o : Nat × Nat) : zev zk_X9_isTrue (181, [some (Sum.inr o), a1, a2, a3, a4, a5], st, s, k) = zev zk_X9_isTrue (182, [some (Sum.inr o), a1, a2, a3, a4, a5], Sum.inr o :: st, s, k) := zev_go rfl rfl
theorem zr_X9_isTrue_182 (a0 a1 a3 a4 a5 : Option zAV) (st : List zAV) (s : zAS) (k : Nat × Nat) (x : Int32) : zev zk_X9_isTrue (182, [a0, a1, some (Sum.inl (Value.int x)), a3, a4, a5], st, s, k) = zev zk_X9_isTrue (183, [a0, a1, some (Sum.inl (Value.int x)), a3, a4, a5], Sum.inl (Value.int x) :: st, s, k) := zev_go rfl rfl
theorem zr_X9_isTrue_183 (ls : zLs) (st : List zAV) (s : zAS) (k : Nat × Nat) (r v0 : zAV) (h : zcok zEM 9 0 0 (zR_X9_isTrue).cells (zR_X9_isTrue).slots r st k) : zev zk_X9_isTrue (183, ls, v0 :: r :: st, s, k) = zret zk_X9_isTrue 186 ls st (k.1 + 0, k.2 + 0) (m_X9_y [r, v0] s) := zf_callV (as := [v0]) 1 rfl rfl h
theorem zr_X9_isTrue_186 (a1 a2 a3 a4 a5 : Option zAV) (st : List zAV) (s : zAS) (k : Nat × Nat) (o : Nat × Nat) : zev zk_X9_isTrue (186, [some (Sum.inr o), a1, a2, a3, a4, a5], st, s, k) = zev zk_X9_isTrue (187, [some (Sum.inr o), a1, a2, a3, a4, a5], Sum.inr o :: st, s, k) := zev_go rfl rfl
theorem zr_X9_isTrue_187 (a0 a1 a2 a4 a5 : Option zAV) (st : List zAV) (s : zAS) (k : Nat × Nat) (x : Int32) : zev zk_X9_isTrue (187, [a0, a1, a2, some (Sum.inl (Value.int x)), a4, a5], st, s, k) = zev zk_X9_isTrue (188, [a0, a1, a2, some (Sum.inl (Value.int x)), a4, a5], Sum.inl (Value.int x) :: st, s, k) := zev_go rfl rfl
theorem zr_X9_isTrue_188 (ls : zLs) (st : List zAV) (s : zAS) (k : Nat × Nat) (r v0 : zAV) (h : zcok zEM 9 0 0 (zR_X9_isTrue).cells (zR_X9_isTrue).slots r st k) : zev zk_X9_isTrue (188, ls, v0 :: r :: st, s, k) = zret zk_X9_isTrue 191 ls st (k.1 + 0, k.2 + 0) (m_X9_x [r, v0] s) := zf_callV (as := [v0]) 1 rfl rfl h
theorem zr_X9_isTrue_191 (a1 a2 a3 a4 a5 : Option zAV) (st : List zAV) (s : zAS) (k : Nat × Nat) (o : Nat × Nat) : zev zk_X9_isTrue (191, [some (Sum.inr o), a1, a2, a3, a4, a5], st, s, k) = zev zk_X9_isTrue (192, [some (Sum.inr o), a1, a2, a3, a4, a5], Sum.inr o :: st, s, k) := zev_go rfl rfl
theorem zr_X9_isTrue_192 (a0 a1 a2 a4 a5 : Option zAV) (st : List zAV) (s : zAS) (k : Nat × Nat) (x : Int32) : zev zk_X9_isTrue (192, [a0, a1, a2, some (Sum.inl (Value.int x)), a4, a5], st, s, k) = zev zk_X9_isTrue (193, [a0, a1, a2, some (Sum.inl (Value.int x)), a4, a5], Sum.inl (Value.int x) :: st, s, k) := zev_go rfl rfl
theorem zr_X9_isTrue_193 (ls : zLs) (st : List zAV) (s : zAS) (k : Nat × Nat) (r v0 : zAV) (h : zcok zEM 9 0 0 (zR_X9_isTrue).cells (zR_X9_isTrue).slots r st k) : zev zk_X9_isTrue (193, ls, v0 :: r :: st, s, k) = zret zk_X9_isTrue 196 ls st (k.1 + 0, k.2 + 0) (m_X9_y [r, v0] s) := zf_callV (as := [v0]) 1 rfl rfl h
theorem zr_X9_isTrue_196 (ls : zLs) (st : List zAV) (s : zAS) (k : Nat × Nat) (r v0 v1 v2 v3 : zAV) (h : zcok zEM 9 0 0 (zR_X9_isTrue).cells (zR_X9_isTrue).slots r st k) : zev zk_X9_isTrue (196, ls, v3 :: v2 :: v1 :: v0 :: r :: st, s, k) = zret zk_X9_isTrue 199 ls st (k.1 + 0, k.2 + 0) (m_X9_squareOf [r, v0, v1, v2, v3] s) := zf_callV (as := [v3, v2, v1, v0]) 4 rfl rfl h
theorem zr_X9_isTrue_199 (a1 a2 a3 a4 a5 : Option zAV) (st : List zAV) (s : zAS) (k : Nat × Nat) (o : Nat × Nat) : zev zk_X9_isTrue (199, [some (Sum.inr o), a1, a2, a3, a4, a5], st, s, k) = zev zk_X9_isTrue (200, [some (Sum.inr o), a1, a2, a3, a4, a5], Sum.inr o :: st, s, k) := zev_go rfl rfl
theorem zr_X9_isTrue_200 (a1 a2 a3 a4 a5 : Option zAV) (st : List zAV) (s : zAS) (k : Nat × Nat) (o : Nat × Nat) : zev zk_X9_isTrue (200, [some (Sum.inr o), a1, a2, a3, a4, a5], st, s, k) = zev zk_X9_isTrue (201, [some (Sum.inr o), a1, a2, a3, a4, a5], Sum.inr o :: st, s, k) := zev_go rfl rfl
theorem zr_X9_isTrue_201 (a0 a1 a2 a3 a5 : Option zAV) (st : List zAV) (s : zAS) (k : Nat × Nat) (x : Int32) : zev zk_X9_isTrue (201, [a0, a1, a2, a3, some (Sum.inl (Value.int x)), a5], st, s, k) = zev zk_X9_isTrue (203, [a0, a1, a2, a3, some (Sum.inl (Value.int x)), a5], Sum.inl (Value.int x) :: st, s, k) := zev_go rfl rfl
theorem zr_X9_isTrue_203 (ls : zLs) (st : List zAV) (s : zAS) (k : Nat × Nat) (r v0 : zAV) (h : zcok zEM 9 0 0 (zR_X9_isTrue).cells (zR_X9_isTrue).slots r st k) : zev zk_X9_isTrue (203, ls, v0 :: r :: st, s, k) = zret zk_X9_isTrue 206 ls st (k.1 + 0, k.2 + 0) (m_X9_x [r, v0] s) := zf_callV (as := [v0]) 1 rfl rfl h
theorem zr_X9_isTrue_206 (a1 a2 a3 a4 a5 : Option zAV) (st : List zAV) (s : zAS) (k : Nat × Nat) (o : Nat × Nat) : zev zk_X9_isTrue (206, [some (Sum.inr o), a1, a2, a3, a4, a5], st, s, k) = zev zk_X9_isTrue (207, [some (Sum.inr o), a1, a2, a3, a4, a5], Sum.inr o :: st, s, k) := zev_go rfl rfl
theorem zr_X9_isTrue_207 (a0 a1 a2 a3 a5 : Option zAV) (st : List zAV) (s : zAS) (k : Nat × Nat) (x : Int32) : zev zk_X9_isTrue (207, [a0, a1, a2, a3, some (Sum.inl (Value.int x)), a5], st, s, k) = zev zk_X9_isTrue (209, [a0, a1, a2, a3, some (Sum.inl (Value.int x)), a5], Sum.inl (Value.int x) :: st, s, k) := zev_go rfl rfl
theorem zr_X9_isTrue_209 (ls : zLs) (st : List zAV) (s : zAS) (k : Nat × Nat) (r v0 : zAV) (h : zcok zEM 9 0 0 (zR_X9_isTrue).cells (zR_X9_isTrue).slots r st k) : zev zk_X9_isTrue (209, ls, v0 :: r :: st, s, k) = zret zk_X9_isTrue 212 ls st (k.1 + 0, k.2 + 0) (m_X9_y [r, v0] s) := zf_callV (as := [v0]) 1 rfl rfl h
theorem zr_X9_isTrue_212 (a1 a2 a3 a4 a5 : Option zAV) (st : List zAV) (s : zAS) (k : Nat × Nat) (o : Nat × Nat) : zev zk_X9_isTrue (212, [some (Sum.inr o), a1, a2, a3, a4, a5], st, s, k) = zev zk_X9_isTrue (213, [some (Sum.inr o), a1, a2, a3, a4, a5], Sum.inr o :: st, s, k) := zev_go rfl rfl
theorem zr_X9_isTrue_213 (a0 a1 a2 a3 a4 : Option zAV) (st : List zAV) (s : zAS) (k : Nat × Nat) (x : Int32) : zev zk_X9_isTrue (213, [a0, a1, a2, a3, a4, some (Sum.inl (Value.int x))], st, s, k) = zev zk_X9_isTrue (215, [a0, a1, a2, a3, a4, some (Sum.inl (Value.int x))], Sum.inl (Value.int x) :: st, s, k) := zev_go rfl rfl
theorem zr_X9_isTrue_215 (ls : zLs) (st : List zAV) (s : zAS) (k : Nat × Nat) (r v0 : zAV) (h : zcok zEM 9 0 0 (zR_X9_isTrue).cells (zR_X9_isTrue).slots r st k) : zev zk_X9_isTrue (215, ls, v0 :: r :: st, s, k) = zret zk_X9_isTrue 218 ls st (k.1 + 0, k.2 + 0) (m_X9_x [r, v0] s) := zf_callV (as := [v0]) 1 rfl rfl h
theorem zr_X9_isTrue_218 (a1 a2 a3 a4 a5 : Option zAV) (st : List zAV) (s : zAS) (k : Nat × Nat) (o : Nat × Nat) : zev zk_X9_isTrue (218, [some (Sum.inr o), a1, a2, a3, a4, a5], st, s, k) = zev zk_X9_isTrue (219, [some (Sum.inr o), a1, a2, a3, a4, a5], Sum.inr o :: st, s, k) := zev_go rfl rfl
theorem zr_X9_isTrue_219 (a0 a1 a2 a3 a4 : Option zAV) (st : List zAV) (s : zAS) (k : Nat × Nat) (x : Int32) : zev zk_X9_isTrue (219, [a0, a1, a2, a3, a4, some (Sum.inl (Value.int x))], st, s, k) = zev zk_X9_isTrue (221, [a0, a1, a2, a3, a4, some (Sum.inl (Value.int x))], Sum.inl (Value.int x) :: st, s, k) := zev_go rfl rfl
theorem zr_X9_isTrue_221 (ls : zLs) (st : List zAV) (s : zAS) (k : Nat × Nat) (r v0 : zAV) (h : zcok zEM 9 0 0 (zR_X9_isTrue).cells (zR_X9_isTrue).slots r st k) : zev zk_X9_isTrue (221, ls, v0 :: r :: st, s, k) = zret zk_X9_isTrue 224 ls st (k.1 + 0, k.2 + 0) (m_X9_y [r, v0] s) := zf_callV (as := [v0]) 1 rfl rfl h
theorem zr_X9_isTrue_224 (ls : zLs) (st : List zAV) (s : zAS) (k : Nat × Nat) (r v0 v1 v2 v3 : zAV) (h : zcok zEM 9 0 0 (zR_X9_isTrue).cells (zR_X9_isTrue).slots r st k) : zev zk_X9_isTrue (224, ls, v3 :: v2 :: v1 :: v0 :: r :: st, s, k) = zret zk_X9_isTrue 227 ls st (k.1 + 0, k.2 + 0) (m_X9_squareOf [r, v0, v1, v2, v3] s) := zf_callV (as := [v3, v2, v1, v0]) 4 rfl rfl h
theorem zr_X9_isTrue_227 (ls : zLs) (st : List zAV) (s : zAS) (k : Nat × Nat) (x y : Int32) : zev zk_X9_isTrue (227, ls, Sum.inl (Value.int y) :: Sum.inl (Value.int x) :: st, s, k) = if decide (¬ x = y) = true then zev zk_X9_isTrue (234, ls, st, s, k) else zev zk_X9_isTrue (230, ls, st, s, k) := zf_cmp (f := fun x y => decide (¬ x = y)) rfl
theorem zr_X9_isTrue_230 (ls : zLs) (st : List zAV) (s : zAS) (k : Nat × Nat) : zev zk_X9_isTrue (230, ls, st, s, k) = zev zk_X9_isTrue (231, ls, Sum.inl (Value.int (1)) :: st, s, k) := zev_go rfl rfl
theorem zr_X9_isTrue_231 (ls : zLs) (st : List zAV) (s : zAS) (k : Nat × Nat) : zev zk_X9_isTrue (231, ls, st, s, k) = zev zk_X9_isTrue (235, ls, st, s, k) := zev_go rfl rfl
theorem zr_X9_isTrue_234 (ls : zLs) (st : List zAV) (s : zAS) (k : Nat × Nat) : zev zk_X9_isTrue (234, ls, st, s, k) = zev zk_X9_isTrue (235, ls, Sum.inl (Value.int (0)) :: st, s, k) := zev_go rfl rfl
theorem zr_X9_isTrue_235 (ls : zLs) (s : zAS) (k : Nat × Nat) (x : Int32) (hx : x = 0 ∨ x = 1) : zev zk_X9_isTrue (235, ls, [Sum.inl (Value.int x)], s, k) = some (.inl (some (Sum.inl (Value.int x))), s) := zf_retz rfl hx
theorem zr_X9_isTrue_236 (a1 a2 a3 a4 a5 : Option zAV) (st : List zAV) (s : zAS) (k : Nat × Nat) (o : Nat × Nat) : zev zk_X9_isTrue (236, [some (Sum.inr o), a1, a2, a3, a4, a5], st, s, k) = zev zk_X9_isTrue (237, [some (Sum.inr o), a1, a2, a3, a4, a5], Sum.inr o :: st, s, k) := zev_go rfl rfl
theorem zr_X9_isTrue_237 (a0 a1 a3 a4 a5 : Option zAV) (st : List zAV) (s : zAS) (k : Nat × Nat) (x : Int32) : zev zk_X9_isTrue (237, [a0, a1, some (Sum.inl (Value.int x)), a3, a4, a5], st, s, k) = zev zk_X9_isTrue (238, [a0, a1, some (Sum.inl (Value.int x)), a3, a4, a5], Sum.inl (Value.int x) :: st, s, k) := zev_go rfl rfl
theorem zr_X9_isTrue_238 (a0 a1 a2 a4 a5 : Option zAV) (st : List zAV) (s : zAS) (k : Nat × Nat) (x : Int32) : zev zk_X9_isTrue (238, [a0, a1, a2, some (Sum.inl (Value.int x)), a4, a5], st, s, k) = zev zk_X9_isTrue (239, [a0, a1, a2, some (Sum.inl (Value.int x)), a4, a5], Sum.inl (Value.int x) :: st, s, k) := zev_go rfl rfl
theorem zr_X9_isTrue_239 (ls : zLs) (st : List zAV) (s : zAS) (k : Nat × Nat) (r v0 v1 : zAV) (h : zcok zEM 9 0 0 (zR_X9_isTrue).cells (zR_X9_isTrue).slots r st k) : zev zk_X9_isTrue (239, ls, v1 :: v0 :: r :: st, s, k) = zret zk_X9_isTrue 242 ls st (k.1 + 0, k.2 + 0) (m_X9_areSame [r, v0, v1] s) := zf_callV (as := [v1, v0]) 2 rfl rfl h
theorem zr_X9_isTrue_242 (ls : zLs) (s : zAS) (k : Nat × Nat) (x : Int32) (hx : x = 0 ∨ x = 1) : zev zk_X9_isTrue (242, ls, [Sum.inl (Value.int x)], s, k) = some (.inl (some (Sum.inl (Value.int x))), s) := zf_retz rfl hx
theorem zr_X9_isTrue_243 (a1 a2 a3 a4 a5 : Option zAV) (st : List zAV) (s : zAS) (k : Nat × Nat) (o : Nat × Nat) : zev zk_X9_isTrue (243, [some (Sum.inr o), a1, a2, a3, a4, a5], st, s, k) = zev zk_X9_isTrue (244, [some (Sum.inr o), a1, a2, a3, a4, a5], Sum.inr o :: st, s, k) := zev_go rfl rfl
theorem zr_X9_isTrue_244 (a0 a1 a3 a4 a5 : Option zAV) (st : List zAV) (s : zAS) (k : Nat × Nat) (x : Int32) : zev zk_X9_isTrue (244, [a0, a1, some (Sum.inl (Value.int x)), a3, a4, a5], st, s, k) = zev zk_X9_isTrue (245, [a0, a1, some (Sum.inl (Value.int x)), a3, a4, a5], Sum.inl (Value.int x) :: st, s, k) := zev_go rfl rfl
theorem zr_X9_isTrue_245 (a0 a1 a2 a4 a5 : Option zAV) (st : List zAV) (s : zAS) (k : Nat × Nat) (x : Int32) : zev zk_X9_isTrue (245, [a0, a1, a2, some (Sum.inl (Value.int x)), a4, a5], st, s, k) = zev zk_X9_isTrue (246, [a0, a1, a2, some (Sum.inl (Value.int x)), a4, a5], Sum.inl (Value.int x) :: st, s, k) := zev_go rfl rfl
theorem zr_X9_isTrue_246 (a0 a1 a2 a3 a5 : Option zAV) (st : List zAV) (s : zAS) (k : Nat × Nat) (x : Int32) : zev zk_X9_isTrue (246, [a0, a1, a2, a3, some (Sum.inl (Value.int x)), a5], st, s, k) = zev zk_X9_isTrue (248, [a0, a1, a2, a3, some (Sum.inl (Value.int x)), a5], Sum.inl (Value.int x) :: st, s, k) := zev_go rfl rfl
theorem zr_X9_isTrue_248 (ls : zLs) (st : List zAV) (s : zAS) (k : Nat × Nat) (r v0 v1 v2 : zAV) (h : zcok zEM 9 0 0 (zR_X9_isTrue).cells (zR_X9_isTrue).slots r st k) : zev zk_X9_isTrue (248, ls, v2 :: v1 :: v0 :: r :: st, s, k) = zret zk_X9_isTrue 251 ls st (k.1 + 0, k.2 + 0) (m_X9_haveCommon [r, v0, v1, v2] s) := zf_callV (as := [v2, v1, v0]) 3 rfl rfl h
theorem zr_X9_isTrue_251 (ls : zLs) (s : zAS) (k : Nat × Nat) (x : Int32) (hx : x = 0 ∨ x = 1) : zev zk_X9_isTrue (251, ls, [Sum.inl (Value.int x)], s, k) = some (.inl (some (Sum.inl (Value.int x))), s) := zf_retz rfl hx
