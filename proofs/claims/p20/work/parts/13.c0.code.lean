/-! X1_has: PrimePlane$ClaimRow.has(I)Z -/
abbrev zR_X1_has : Room := ({ frames := 0, cells := 0, slots := 0, locals := 0 } : Room)
noncomputable def zl_X1_has : List (Nat × zOp) := [(0, z_ldi 1 1), (1, z_if (fun x => decide (x < 0)) 16 4), (4, z_ldi 1 5), (5, z_lda 0 6), (6, z_get zEC 1 2 9), (9, z_cmp (fun x y => decide (y ≤ x)) 16 12), (12, z_ic (1) 13), (13, z_goto 17), (16, z_ic (0) 17), (17, z_reti true)]
noncomputable def zk_X1_has (pc : Nat) : Option zOp := zlook zl_X1_has pc
noncomputable def m_X1_has : List zAV → zAS → Option zOut := zmeth zk_X1_has 2
set_option maxRecDepth 100000 in
set_option maxHeartbeats 4000000 in
theorem zcs_X1_has {R : Room} (hR : R = zR_X1_has) : ∀ q ∈ zl_X1_has, zS zEC yX1_has.cls cX1_has 2 wsX1_has (some .boolean) R q.1 q.2 := by
  subst hR
  have hin1 : ∀ w ∈ wsX10, w ∈ wsX1_has := fun w h => List.mem_cons_of_mem _ (List.mem_append_right _ h)
  refine List.forall_mem_cons.mpr ⟨zs_iload_n dX1_has_0 rfl, ?_⟩
  refine List.forall_mem_cons.mpr ⟨zs_iflt dX1_has_1 (by decide), ?_⟩
  refine List.forall_mem_cons.mpr ⟨zs_iload_n dX1_has_4 rfl, ?_⟩
  refine List.forall_mem_cons.mpr ⟨zs_aload_n dX1_has_5 rfl, ?_⟩
  refine List.forall_mem_cons.mpr ⟨zs_get (ci := 1) (j := 2) (N := 3) (C := RX1) (T := TX1) (index := 22) rfl (by decide) hin1 (List.mem_of_getElem? (i := 1) rfl) dX1_has_6, ?_⟩
  refine List.forall_mem_cons.mpr ⟨zs_icge dX1_has_9 (by decide), ?_⟩
  refine List.forall_mem_cons.mpr ⟨zs_iconst dX1_has_12 (by decide), ?_⟩
  refine List.forall_mem_cons.mpr ⟨zs_goto dX1_has_13 (by decide), ?_⟩
  refine List.forall_mem_cons.mpr ⟨zs_iconst dX1_has_16 (by decide), ?_⟩
  refine List.forall_mem_cons.mpr ⟨zs_reti (ty := .boolean) rfl (fun x h => (znz x h).1) dX1_has_17, ?_⟩
  exact fun _ h => absurd h List.not_mem_nil
theorem zM_X1_has : zMeets zEC yX1_has wsX1_has zR_X1_has m_X1_has := zmeth_M zECok (zlook_all (zcs_X1_has rfl)) (by decide +kernel) rfl
theorem zr_X1_has_0 (a0 : Option zAV) (st : List zAV) (s : zAS) (k : Nat × Nat) (x : Int32) : zev zk_X1_has (0, [a0, some (Sum.inl (Value.int x))], st, s, k) = zev zk_X1_has (1, [a0, some (Sum.inl (Value.int x))], Sum.inl (Value.int x) :: st, s, k) := zev_go rfl rfl
theorem zr_X1_has_1 (ls : zLs) (st : List zAV) (s : zAS) (k : Nat × Nat) (x : Int32) : zev zk_X1_has (1, ls, Sum.inl (Value.int x) :: st, s, k) = if decide (x < 0) = true then zev zk_X1_has (16, ls, st, s, k) else zev zk_X1_has (4, ls, st, s, k) := zf_if (f := fun x => decide (x < 0)) rfl
theorem zr_X1_has_4 (a0 : Option zAV) (st : List zAV) (s : zAS) (k : Nat × Nat) (x : Int32) : zev zk_X1_has (4, [a0, some (Sum.inl (Value.int x))], st, s, k) = zev zk_X1_has (5, [a0, some (Sum.inl (Value.int x))], Sum.inl (Value.int x) :: st, s, k) := zev_go rfl rfl
theorem zr_X1_has_5 (a1 : Option zAV) (st : List zAV) (s : zAS) (k : Nat × Nat) (o : Nat × Nat) : zev zk_X1_has (5, [some (Sum.inr o), a1], st, s, k) = zev zk_X1_has (6, [some (Sum.inr o), a1], Sum.inr o :: st, s, k) := zev_go rfl rfl
theorem zr_X1_has_6 (ls : zLs) (st : List zAV) (s : zAS) (k : Nat × Nat) (o i : Nat) : zev zk_X1_has (6, ls, Sum.inr (o, i) :: st, s, k) = zpush zk_X1_has 9 ls st s k (zgv zEC 1 2 o i s.1) := zf_get rfl
theorem zr_X1_has_9 (ls : zLs) (st : List zAV) (s : zAS) (k : Nat × Nat) (x y : Int32) : zev zk_X1_has (9, ls, Sum.inl (Value.int y) :: Sum.inl (Value.int x) :: st, s, k) = if decide (y ≤ x) = true then zev zk_X1_has (16, ls, st, s, k) else zev zk_X1_has (12, ls, st, s, k) := zf_cmp (f := fun x y => decide (y ≤ x)) rfl
theorem zr_X1_has_12 (ls : zLs) (st : List zAV) (s : zAS) (k : Nat × Nat) : zev zk_X1_has (12, ls, st, s, k) = zev zk_X1_has (13, ls, Sum.inl (Value.int (1)) :: st, s, k) := zev_go rfl rfl
theorem zr_X1_has_13 (ls : zLs) (st : List zAV) (s : zAS) (k : Nat × Nat) : zev zk_X1_has (13, ls, st, s, k) = zev zk_X1_has (17, ls, st, s, k) := zev_go rfl rfl
theorem zr_X1_has_16 (ls : zLs) (st : List zAV) (s : zAS) (k : Nat × Nat) : zev zk_X1_has (16, ls, st, s, k) = zev zk_X1_has (17, ls, Sum.inl (Value.int (0)) :: st, s, k) := zev_go rfl rfl
theorem zr_X1_has_17 (ls : zLs) (s : zAS) (k : Nat × Nat) (x : Int32) (hx : x = 0 ∨ x = 1) : zev zk_X1_has (17, ls, [Sum.inl (Value.int x)], s, k) = some (.inl (some (Sum.inl (Value.int x))), s) := zf_retz rfl hx
/-! X1_at: PrimePlane$ClaimRow.at(I)LPrimePlane$Claim; -/
abbrev zR_X1_at : Room := ({ frames := 0, cells := 0, slots := 0, locals := 0 } : Room)
noncomputable def zl_X1_at : List (Nat × zOp) := [(0, z_ldi 1 1), (1, z_if (fun x => decide (x < 0)) 21 4), (4, z_ldi 1 5), (5, z_lda 0 6), (6, z_get zEC 1 2 9), (9, z_cmp (fun x y => decide (y ≤ x)) 21 12), (12, z_ldi 1 13), (13, z_lda 0 14), (14, z_get zEC 1 0 17), (17, z_alen zEC 18), (18, z_cmp (fun x y => decide (x < y)) 26 21), (21, z_lda 0 22), (22, z_get zEC 1 1 25), (25, z_retr), (26, z_lda 0 27), (27, z_get zEC 1 0 30), (30, z_ldi 1 31), (31, z_aald zEC 1 32), (32, z_sta 2 33), (33, z_lda 2 34), (34, z_nn 44), (37, z_lda 0 38), (38, z_get zEC 1 1 41), (41, z_goto 45), (44, z_lda 2 45), (45, z_retr)]
noncomputable def zk_X1_at (pc : Nat) : Option zOp := zlook zl_X1_at pc
noncomputable def m_X1_at : List zAV → zAS → Option zOut := zmeth zk_X1_at 3
set_option maxRecDepth 100000 in
set_option maxHeartbeats 4000000 in
theorem zcs_X1_at {R : Room} (hR : R = zR_X1_at) : ∀ q ∈ zl_X1_at, zS zEC yX1_at.cls cX1_at 3 wsX1_at (some (.object "PrimePlane$Claim")) R q.1 q.2 := by
  subst hR
  have hin1 : ∀ w ∈ wsX10, w ∈ wsX1_at := fun w h => List.mem_cons_of_mem _ (List.mem_append_right _ h)
  refine List.forall_mem_cons.mpr ⟨zs_iload_n dX1_at_0 rfl, ?_⟩
  refine List.forall_mem_cons.mpr ⟨zs_iflt dX1_at_1 (by decide), ?_⟩
  refine List.forall_mem_cons.mpr ⟨zs_iload_n dX1_at_4 rfl, ?_⟩
  refine List.forall_mem_cons.mpr ⟨zs_aload_n dX1_at_5 rfl, ?_⟩
  refine List.forall_mem_cons.mpr ⟨zs_get (ci := 1) (j := 2) (N := 3) (C := RX1) (T := TX1) (index := 22) rfl (by decide) hin1 (List.mem_of_getElem? (i := 1) rfl) dX1_at_6, ?_⟩
  refine List.forall_mem_cons.mpr ⟨zs_icge dX1_at_9 (by decide), ?_⟩
  refine List.forall_mem_cons.mpr ⟨zs_iload_n dX1_at_12 rfl, ?_⟩
  refine List.forall_mem_cons.mpr ⟨zs_aload_n dX1_at_13 rfl, ?_⟩
  refine List.forall_mem_cons.mpr ⟨zs_get (ci := 1) (j := 0) (N := 3) (C := RX1) (T := TX1) (index := 11) rfl (by decide) hin1 (List.mem_of_getElem? (i := 2) rfl) dX1_at_14, ?_⟩
  refine List.forall_mem_cons.mpr ⟨zs_alen dX1_at_17, ?_⟩
  refine List.forall_mem_cons.mpr ⟨zs_iclt dX1_at_18 (by decide), ?_⟩
  refine List.forall_mem_cons.mpr ⟨zs_aload_n dX1_at_21 rfl, ?_⟩
  refine List.forall_mem_cons.mpr ⟨zs_get (ci := 1) (j := 1) (N := 3) (C := RX1) (T := TX1) (index := 18) rfl (by decide) hin1 (List.mem_of_getElem? (i := 3) rfl) dX1_at_22, ?_⟩
  refine List.forall_mem_cons.mpr ⟨zs_retr rfl dX1_at_25, ?_⟩
  refine List.forall_mem_cons.mpr ⟨zs_aload_n dX1_at_26 rfl, ?_⟩
  refine List.forall_mem_cons.mpr ⟨zs_get (ci := 1) (j := 0) (N := 3) (C := RX1) (T := TX1) (index := 11) rfl (by decide) hin1 (List.mem_of_getElem? (i := 2) rfl) dX1_at_27, ?_⟩
  refine List.forall_mem_cons.mpr ⟨zs_iload_n dX1_at_30 rfl, ?_⟩
  refine List.forall_mem_cons.mpr ⟨zs_aald (t := 1) (C := "PrimePlane$Claim") (by decide) (fun _ => rfl) dX1_at_31, ?_⟩
  refine List.forall_mem_cons.mpr ⟨zs_astore_n dX1_at_32 rfl, ?_⟩
  refine List.forall_mem_cons.mpr ⟨zs_aload_n dX1_at_33 rfl, ?_⟩
  refine List.forall_mem_cons.mpr ⟨zs_nn dX1_at_34 (by decide), ?_⟩
  refine List.forall_mem_cons.mpr ⟨zs_aload_n dX1_at_37 rfl, ?_⟩
  refine List.forall_mem_cons.mpr ⟨zs_get (ci := 1) (j := 1) (N := 3) (C := RX1) (T := TX1) (index := 18) rfl (by decide) hin1 (List.mem_of_getElem? (i := 3) rfl) dX1_at_38, ?_⟩
  refine List.forall_mem_cons.mpr ⟨zs_goto dX1_at_41 (by decide), ?_⟩
  refine List.forall_mem_cons.mpr ⟨zs_aload_n dX1_at_44 rfl, ?_⟩
  refine List.forall_mem_cons.mpr ⟨zs_retr rfl dX1_at_45, ?_⟩
  exact fun _ h => absurd h List.not_mem_nil
theorem zM_X1_at : zMeets zEC yX1_at wsX1_at zR_X1_at m_X1_at := zmeth_M zECok (zlook_all (zcs_X1_at rfl)) (by decide +kernel) rfl
theorem zr_X1_at_0 (a0 a2 : Option zAV) (st : List zAV) (s : zAS) (k : Nat × Nat) (x : Int32) : zev zk_X1_at (0, [a0, some (Sum.inl (Value.int x)), a2], st, s, k) = zev zk_X1_at (1, [a0, some (Sum.inl (Value.int x)), a2], Sum.inl (Value.int x) :: st, s, k) := zev_go rfl rfl
theorem zr_X1_at_1 (ls : zLs) (st : List zAV) (s : zAS) (k : Nat × Nat) (x : Int32) : zev zk_X1_at (1, ls, Sum.inl (Value.int x) :: st, s, k) = if decide (x < 0) = true then zev zk_X1_at (21, ls, st, s, k) else zev zk_X1_at (4, ls, st, s, k) := zf_if (f := fun x => decide (x < 0)) rfl
theorem zr_X1_at_4 (a0 a2 : Option zAV) (st : List zAV) (s : zAS) (k : Nat × Nat) (x : Int32) : zev zk_X1_at (4, [a0, some (Sum.inl (Value.int x)), a2], st, s, k) = zev zk_X1_at (5, [a0, some (Sum.inl (Value.int x)), a2], Sum.inl (Value.int x) :: st, s, k) := zev_go rfl rfl
theorem zr_X1_at_5 (a1 a2 : Option zAV) (st : List zAV) (s : zAS) (k : Nat × Nat) (o : Nat × Nat) : zev zk_X1_at (5, [some (Sum.inr o), a1, a2], st, s, k) = zev zk_X1_at (6, [some (Sum.inr o), a1, a2], Sum.inr o :: st, s, k) := zev_go rfl rfl
theorem zr_X1_at_6 (ls : zLs) (st : List zAV) (s : zAS) (k : Nat × Nat) (o i : Nat) : zev zk_X1_at (6, ls, Sum.inr (o, i) :: st, s, k) = zpush zk_X1_at 9 ls st s k (zgv zEC 1 2 o i s.1) := zf_get rfl
theorem zr_X1_at_9 (ls : zLs) (st : List zAV) (s : zAS) (k : Nat × Nat) (x y : Int32) : zev zk_X1_at (9, ls, Sum.inl (Value.int y) :: Sum.inl (Value.int x) :: st, s, k) = if decide (y ≤ x) = true then zev zk_X1_at (21, ls, st, s, k) else zev zk_X1_at (12, ls, st, s, k) := zf_cmp (f := fun x y => decide (y ≤ x)) rfl
theorem zr_X1_at_12 (a0 a2 : Option zAV) (st : List zAV) (s : zAS) (k : Nat × Nat) (x : Int32) : zev zk_X1_at (12, [a0, some (Sum.inl (Value.int x)), a2], st, s, k) = zev zk_X1_at (13, [a0, some (Sum.inl (Value.int x)), a2], Sum.inl (Value.int x) :: st, s, k) := zev_go rfl rfl
theorem zr_X1_at_13 (a1 a2 : Option zAV) (st : List zAV) (s : zAS) (k : Nat × Nat) (o : Nat × Nat) : zev zk_X1_at (13, [some (Sum.inr o), a1, a2], st, s, k) = zev zk_X1_at (14, [some (Sum.inr o), a1, a2], Sum.inr o :: st, s, k) := zev_go rfl rfl
theorem zr_X1_at_14 (ls : zLs) (st : List zAV) (s : zAS) (k : Nat × Nat) (o i : Nat) : zev zk_X1_at (14, ls, Sum.inr (o, i) :: st, s, k) = zpush zk_X1_at 17 ls st s k (zgv zEC 1 0 o i s.1) := zf_get rfl
theorem zr_X1_at_17 (ls : zLs) (st : List zAV) (s : zAS) (k : Nat × Nat) (o i : Nat) : zev zk_X1_at (17, ls, Sum.inr (o, i) :: st, s, k) = zpush zk_X1_at 18 ls st s k (zalen zEC o i s.2) := zf_alen rfl
theorem zr_X1_at_18 (ls : zLs) (st : List zAV) (s : zAS) (k : Nat × Nat) (x y : Int32) : zev zk_X1_at (18, ls, Sum.inl (Value.int y) :: Sum.inl (Value.int x) :: st, s, k) = if decide (x < y) = true then zev zk_X1_at (26, ls, st, s, k) else zev zk_X1_at (21, ls, st, s, k) := zf_cmp (f := fun x y => decide (x < y)) rfl
theorem zr_X1_at_21 (a1 a2 : Option zAV) (st : List zAV) (s : zAS) (k : Nat × Nat) (o : Nat × Nat) : zev zk_X1_at (21, [some (Sum.inr o), a1, a2], st, s, k) = zev zk_X1_at (22, [some (Sum.inr o), a1, a2], Sum.inr o :: st, s, k) := zev_go rfl rfl
theorem zr_X1_at_22 (ls : zLs) (st : List zAV) (s : zAS) (k : Nat × Nat) (o i : Nat) : zev zk_X1_at (22, ls, Sum.inr (o, i) :: st, s, k) = zpush zk_X1_at 25 ls st s k (zgv zEC 1 1 o i s.1) := zf_get rfl
theorem zr_X1_at_25 (ls : zLs) (s : zAS) (k : Nat × Nat) (o i : Nat) (h : o ≠ 99) : zev zk_X1_at (25, ls, [Sum.inr (o, i)], s, k) = some (.inl (some (Sum.inr (o, i))), s) := zf_retr rfl h
theorem zr_X1_at_26 (a1 a2 : Option zAV) (st : List zAV) (s : zAS) (k : Nat × Nat) (o : Nat × Nat) : zev zk_X1_at (26, [some (Sum.inr o), a1, a2], st, s, k) = zev zk_X1_at (27, [some (Sum.inr o), a1, a2], Sum.inr o :: st, s, k) := zev_go rfl rfl
theorem zr_X1_at_27 (ls : zLs) (st : List zAV) (s : zAS) (k : Nat × Nat) (o i : Nat) : zev zk_X1_at (27, ls, Sum.inr (o, i) :: st, s, k) = zpush zk_X1_at 30 ls st s k (zgv zEC 1 0 o i s.1) := zf_get rfl
theorem zr_X1_at_30 (a0 a2 : Option zAV) (st : List zAV) (s : zAS) (k : Nat × Nat) (x : Int32) : zev zk_X1_at (30, [a0, some (Sum.inl (Value.int x)), a2], st, s, k) = zev zk_X1_at (31, [a0, some (Sum.inl (Value.int x)), a2], Sum.inl (Value.int x) :: st, s, k) := zev_go rfl rfl
theorem zr_X1_at_31 (ls : zLs) (st : List zAV) (s : zAS) (k : Nat × Nat) (o i : Nat) (j : Int32) : zev zk_X1_at (31, ls, Sum.inl (Value.int j) :: Sum.inr (o, i) :: st, s, k) = zpush zk_X1_at 32 ls st s k (zaald zEC 1 o i j) := zf_aald rfl
theorem zr_X1_at_32 (a0 a1 a2 : Option zAV) (st : List zAV) (s : zAS) (k : Nat × Nat) (o : Nat × Nat) : zev zk_X1_at (32, [a0, a1, a2], Sum.inr o :: st, s, k) = zev zk_X1_at (33, [a0, zk1 a1, some (Sum.inr o)], st, s, k) := zev_go rfl rfl
theorem zr_X1_at_33 (a0 a1 : Option zAV) (st : List zAV) (s : zAS) (k : Nat × Nat) (o : Nat × Nat) : zev zk_X1_at (33, [a0, a1, some (Sum.inr o)], st, s, k) = zev zk_X1_at (34, [a0, a1, some (Sum.inr o)], Sum.inr o :: st, s, k) := zev_go rfl rfl
theorem zr_X1_at_34 (ls : zLs) (st : List zAV) (s : zAS) (k : Nat × Nat) (o : Nat × Nat) : zev zk_X1_at (34, ls, Sum.inr o :: st, s, k) = zev zk_X1_at (44, ls, st, s, k) := zev_go rfl rfl
theorem zr_X1_at_37 (a1 a2 : Option zAV) (st : List zAV) (s : zAS) (k : Nat × Nat) (o : Nat × Nat) : zev zk_X1_at (37, [some (Sum.inr o), a1, a2], st, s, k) = zev zk_X1_at (38, [some (Sum.inr o), a1, a2], Sum.inr o :: st, s, k) := zev_go rfl rfl
theorem zr_X1_at_38 (ls : zLs) (st : List zAV) (s : zAS) (k : Nat × Nat) (o i : Nat) : zev zk_X1_at (38, ls, Sum.inr (o, i) :: st, s, k) = zpush zk_X1_at 41 ls st s k (zgv zEC 1 1 o i s.1) := zf_get rfl
theorem zr_X1_at_41 (ls : zLs) (st : List zAV) (s : zAS) (k : Nat × Nat) : zev zk_X1_at (41, ls, st, s, k) = zev zk_X1_at (45, ls, st, s, k) := zev_go rfl rfl
theorem zr_X1_at_44 (a0 a1 : Option zAV) (st : List zAV) (s : zAS) (k : Nat × Nat) (o : Nat × Nat) : zev zk_X1_at (44, [a0, a1, some (Sum.inr o)], st, s, k) = zev zk_X1_at (45, [a0, a1, some (Sum.inr o)], Sum.inr o :: st, s, k) := zev_go rfl rfl
theorem zr_X1_at_45 (ls : zLs) (s : zAS) (k : Nat × Nat) (o i : Nat) (h : o ≠ 99) : zev zk_X1_at (45, ls, [Sum.inr (o, i)], s, k) = some (.inl (some (Sum.inr (o, i))), s) := zf_retr rfl h
/-! X1_next: PrimePlane$ClaimRow.next()LPrimePlane$Claim; -/
abbrev zR_X1_next : Room := ({ frames := 1, cells := 0, slots := 0, locals := 22 } : Room)
noncomputable def zl_X1_next : List (Nat × zOp) := [(0, z_lda 0 1), (1, z_get zEC 1 2 4), (4, z_lda 0 5), (5, z_get zEC 1 0 8), (8, z_alen zEC 9), (9, z_cmp (fun x y => decide (x < y)) 17 12), (12, z_lda 0 13), (13, z_get zEC 1 1 16), (16, z_retr), (17, z_lda 0 18), (18, z_dup 19), (19, z_get zEC 1 2 22), (22, z_ic (1) 23), (23, z_bin (fun x y => x + y) 24), (24, z_put zEC 1 2 false 27), (27, z_lda 0 28), (28, z_lda 0 29), (29, z_get zEC 1 2 32), (32, z_ic (1) 33), (33, z_bin (fun x y => x - y) 34), (34, z_callV zEC 1 m_X1_at 1 0 0 (zR_X1_next).cells (zR_X1_next).slots 37), (37, z_retr)]
noncomputable def zk_X1_next (pc : Nat) : Option zOp := zlook zl_X1_next pc
noncomputable def m_X1_next : List zAV → zAS → Option zOut := zmeth zk_X1_next 1
set_option maxRecDepth 100000 in
set_option maxHeartbeats 4000000 in
theorem zcs_X1_next {R : Room} (hR : R = zR_X1_next) : ∀ q ∈ zl_X1_next, zS zEC yX1_next.cls cX1_next 1 wsX1_next (some (.object "PrimePlane$Claim")) R q.1 q.2 := by
  subst hR
  have hin1 : ∀ w ∈ wsX10, w ∈ wsX1_next := fun w h => List.mem_cons_of_mem _ (List.mem_append_right _ h)
  refine List.forall_mem_cons.mpr ⟨zs_aload_n dX1_next_0 rfl, ?_⟩
  refine List.forall_mem_cons.mpr ⟨zs_get (ci := 1) (j := 2) (N := 3) (C := RX1) (T := TX1) (index := 22) rfl (by decide) hin1 (List.mem_of_getElem? (i := 1) rfl) dX1_next_1, ?_⟩
  refine List.forall_mem_cons.mpr ⟨zs_aload_n dX1_next_4 rfl, ?_⟩
  refine List.forall_mem_cons.mpr ⟨zs_get (ci := 1) (j := 0) (N := 3) (C := RX1) (T := TX1) (index := 11) rfl (by decide) hin1 (List.mem_of_getElem? (i := 2) rfl) dX1_next_5, ?_⟩
  refine List.forall_mem_cons.mpr ⟨zs_alen dX1_next_8, ?_⟩
  refine List.forall_mem_cons.mpr ⟨zs_iclt dX1_next_9 (by decide), ?_⟩
  refine List.forall_mem_cons.mpr ⟨zs_aload_n dX1_next_12 rfl, ?_⟩
  refine List.forall_mem_cons.mpr ⟨zs_get (ci := 1) (j := 1) (N := 3) (C := RX1) (T := TX1) (index := 18) rfl (by decide) hin1 (List.mem_of_getElem? (i := 3) rfl) dX1_next_13, ?_⟩
  refine List.forall_mem_cons.mpr ⟨zs_retr rfl dX1_next_16, ?_⟩
  refine List.forall_mem_cons.mpr ⟨zs_aload_n dX1_next_17 rfl, ?_⟩
  refine List.forall_mem_cons.mpr ⟨zs_dup dX1_next_18, ?_⟩
  refine List.forall_mem_cons.mpr ⟨zs_get (ci := 1) (j := 2) (N := 3) (C := RX1) (T := TX1) (index := 22) rfl (by decide) hin1 (List.mem_of_getElem? (i := 1) rfl) dX1_next_19, ?_⟩
  refine List.forall_mem_cons.mpr ⟨zs_iconst dX1_next_22 (by decide), ?_⟩
  refine List.forall_mem_cons.mpr ⟨zs_iadd dX1_next_23, ?_⟩
  refine List.forall_mem_cons.mpr ⟨zs_put (ci := 1) (j := 2) (N := 3) (C := RX1) (T := TX1) (index := 22) (b := false) .int tyX1 rfl (by decide) hin1 tyX1_ok nmX1 (List.mem_of_getElem? (i := 1) rfl) rfl (by decide +kernel) zni dX1_next_24, ?_⟩
  refine List.forall_mem_cons.mpr ⟨zs_aload_n dX1_next_27 rfl, ?_⟩
  refine List.forall_mem_cons.mpr ⟨zs_aload_n dX1_next_28 rfl, ?_⟩
  refine List.forall_mem_cons.mpr ⟨zs_get (ci := 1) (j := 2) (N := 3) (C := RX1) (T := TX1) (index := 22) rfl (by decide) hin1 (List.mem_of_getElem? (i := 1) rfl) dX1_next_29, ?_⟩
  refine List.forall_mem_cons.mpr ⟨zs_iconst dX1_next_32 (by decide), ?_⟩
  refine List.forall_mem_cons.mpr ⟨zs_isub dX1_next_33, ?_⟩
  refine List.forall_mem_cons.mpr ⟨zs_callV (ci := 1) (rm := zR_X1_at) (n := 1) rfl zM_X1_at gX1_next_X1_at rfl (by decide +kernel) ⟨by decide, by decide⟩ dX1_next_34, ?_⟩
  refine List.forall_mem_cons.mpr ⟨zs_retr rfl dX1_next_37, ?_⟩
  exact fun _ h => absurd h List.not_mem_nil
theorem zM_X1_next : zMeets zEC yX1_next wsX1_next zR_X1_next m_X1_next := zmeth_M zECok (zlook_all (zcs_X1_next rfl)) (by decide +kernel) rfl
theorem zr_X1_next_0 (st : List zAV) (s : zAS) (k : Nat × Nat) (o : Nat × Nat) : zev zk_X1_next (0, [some (Sum.inr o)], st, s, k) = zev zk_X1_next (1, [some (Sum.inr o)], Sum.inr o :: st, s, k) := zev_go rfl rfl
theorem zr_X1_next_1 (ls : zLs) (st : List zAV) (s : zAS) (k : Nat × Nat) (o i : Nat) : zev zk_X1_next (1, ls, Sum.inr (o, i) :: st, s, k) = zpush zk_X1_next 4 ls st s k (zgv zEC 1 2 o i s.1) := zf_get rfl
theorem zr_X1_next_4 (st : List zAV) (s : zAS) (k : Nat × Nat) (o : Nat × Nat) : zev zk_X1_next (4, [some (Sum.inr o)], st, s, k) = zev zk_X1_next (5, [some (Sum.inr o)], Sum.inr o :: st, s, k) := zev_go rfl rfl
theorem zr_X1_next_5 (ls : zLs) (st : List zAV) (s : zAS) (k : Nat × Nat) (o i : Nat) : zev zk_X1_next (5, ls, Sum.inr (o, i) :: st, s, k) = zpush zk_X1_next 8 ls st s k (zgv zEC 1 0 o i s.1) := zf_get rfl
theorem zr_X1_next_8 (ls : zLs) (st : List zAV) (s : zAS) (k : Nat × Nat) (o i : Nat) : zev zk_X1_next (8, ls, Sum.inr (o, i) :: st, s, k) = zpush zk_X1_next 9 ls st s k (zalen zEC o i s.2) := zf_alen rfl
theorem zr_X1_next_9 (ls : zLs) (st : List zAV) (s : zAS) (k : Nat × Nat) (x y : Int32) : zev zk_X1_next (9, ls, Sum.inl (Value.int y) :: Sum.inl (Value.int x) :: st, s, k) = if decide (x < y) = true then zev zk_X1_next (17, ls, st, s, k) else zev zk_X1_next (12, ls, st, s, k) := zf_cmp (f := fun x y => decide (x < y)) rfl
theorem zr_X1_next_12 (st : List zAV) (s : zAS) (k : Nat × Nat) (o : Nat × Nat) : zev zk_X1_next (12, [some (Sum.inr o)], st, s, k) = zev zk_X1_next (13, [some (Sum.inr o)], Sum.inr o :: st, s, k) := zev_go rfl rfl
theorem zr_X1_next_13 (ls : zLs) (st : List zAV) (s : zAS) (k : Nat × Nat) (o i : Nat) : zev zk_X1_next (13, ls, Sum.inr (o, i) :: st, s, k) = zpush zk_X1_next 16 ls st s k (zgv zEC 1 1 o i s.1) := zf_get rfl
theorem zr_X1_next_16 (ls : zLs) (s : zAS) (k : Nat × Nat) (o i : Nat) (h : o ≠ 99) : zev zk_X1_next (16, ls, [Sum.inr (o, i)], s, k) = some (.inl (some (Sum.inr (o, i))), s) := zf_retr rfl h
theorem zr_X1_next_17 (st : List zAV) (s : zAS) (k : Nat × Nat) (o : Nat × Nat) : zev zk_X1_next (17, [some (Sum.inr o)], st, s, k) = zev zk_X1_next (18, [some (Sum.inr o)], Sum.inr o :: st, s, k) := zev_go rfl rfl
theorem zr_X1_next_18 (ls : zLs) (st : List zAV) (s : zAS) (k : Nat × Nat) (v : zAV) (hv : zc1 v = true) : zev zk_X1_next (18, ls, v :: st, s, k) = zev zk_X1_next (19, ls, v :: v :: st, s, k) := zf_dup rfl hv
theorem zr_X1_next_19 (ls : zLs) (st : List zAV) (s : zAS) (k : Nat × Nat) (o i : Nat) : zev zk_X1_next (19, ls, Sum.inr (o, i) :: st, s, k) = zpush zk_X1_next 22 ls st s k (zgv zEC 1 2 o i s.1) := zf_get rfl
theorem zr_X1_next_22 (ls : zLs) (st : List zAV) (s : zAS) (k : Nat × Nat) : zev zk_X1_next (22, ls, st, s, k) = zev zk_X1_next (23, ls, Sum.inl (Value.int (1)) :: st, s, k) := zev_go rfl rfl
theorem zr_X1_next_23 (ls : zLs) (st : List zAV) (s : zAS) (k : Nat × Nat) (x y : Int32) : zev zk_X1_next (23, ls, Sum.inl (Value.int y) :: Sum.inl (Value.int x) :: st, s, k) = zev zk_X1_next (24, ls, Sum.inl (Value.int (x + y)) :: st, s, k) := zev_go rfl rfl
theorem zr_X1_next_24 (ls : zLs) (st : List zAV) (s : zAS) (k : Nat × Nat) (o i : Nat) (x : Int32) (h : zpok zEC 1 2 false o i x) : zev zk_X1_next (24, ls, Sum.inl (Value.int x) :: Sum.inr (o, i) :: st, s, k) = zev zk_X1_next (27, ls, st, (zup s.1 o i 2 x, s.2), k) := zf_put rfl h
theorem zr_X1_next_27 (st : List zAV) (s : zAS) (k : Nat × Nat) (o : Nat × Nat) : zev zk_X1_next (27, [some (Sum.inr o)], st, s, k) = zev zk_X1_next (28, [some (Sum.inr o)], Sum.inr o :: st, s, k) := zev_go rfl rfl
theorem zr_X1_next_28 (st : List zAV) (s : zAS) (k : Nat × Nat) (o : Nat × Nat) : zev zk_X1_next (28, [some (Sum.inr o)], st, s, k) = zev zk_X1_next (29, [some (Sum.inr o)], Sum.inr o :: st, s, k) := zev_go rfl rfl
theorem zr_X1_next_29 (ls : zLs) (st : List zAV) (s : zAS) (k : Nat × Nat) (o i : Nat) : zev zk_X1_next (29, ls, Sum.inr (o, i) :: st, s, k) = zpush zk_X1_next 32 ls st s k (zgv zEC 1 2 o i s.1) := zf_get rfl
theorem zr_X1_next_32 (ls : zLs) (st : List zAV) (s : zAS) (k : Nat × Nat) : zev zk_X1_next (32, ls, st, s, k) = zev zk_X1_next (33, ls, Sum.inl (Value.int (1)) :: st, s, k) := zev_go rfl rfl
theorem zr_X1_next_33 (ls : zLs) (st : List zAV) (s : zAS) (k : Nat × Nat) (x y : Int32) : zev zk_X1_next (33, ls, Sum.inl (Value.int y) :: Sum.inl (Value.int x) :: st, s, k) = zev zk_X1_next (34, ls, Sum.inl (Value.int (x - y)) :: st, s, k) := zev_go rfl rfl
theorem zr_X1_next_34 (ls : zLs) (st : List zAV) (s : zAS) (k : Nat × Nat) (r v0 : zAV) (h : zcok zEC 1 0 0 (zR_X1_next).cells (zR_X1_next).slots r st k) : zev zk_X1_next (34, ls, v0 :: r :: st, s, k) = zret zk_X1_next 37 ls st (k.1 + 0, k.2 + 0) (m_X1_at [r, v0] s) := zf_callV (as := [v0]) 1 rfl rfl h
theorem zr_X1_next_37 (ls : zLs) (s : zAS) (k : Nat × Nat) (o i : Nat) (h : o ≠ 99) : zev zk_X1_next (37, ls, [Sum.inr (o, i)], s, k) = some (.inl (some (Sum.inr (o, i))), s) := zf_retr rfl h
/-! X6_at: PrimePlane$Row.at(I)LPrimePlane$Figure; -/
abbrev zR_X6_at : Room := ({ frames := 0, cells := 0, slots := 0, locals := 0 } : Room)
noncomputable def zl_X6_at : List (Nat × zOp) := [(0, z_ldi 1 1), (1, z_if (fun x => decide (x < 0)) 21 4), (4, z_ldi 1 5), (5, z_lda 0 6), (6, z_get zEC 6 2 9), (9, z_cmp (fun x y => decide (y ≤ x)) 21 12), (12, z_ldi 1 13), (13, z_lda 0 14), (14, z_get zEC 6 0 17), (17, z_alen zEC 18), (18, z_cmp (fun x y => decide (x < y)) 26 21), (21, z_lda 0 22), (22, z_get zEC 6 1 25), (25, z_retr), (26, z_lda 0 27), (27, z_get zEC 6 0 30), (30, z_ldi 1 31), (31, z_aald zEC 2 32), (32, z_sta 2 33), (33, z_lda 2 34), (34, z_nn 44), (37, z_lda 0 38), (38, z_get zEC 6 1 41), (41, z_goto 45), (44, z_lda 2 45), (45, z_retr)]
noncomputable def zk_X6_at (pc : Nat) : Option zOp := zlook zl_X6_at pc
noncomputable def m_X6_at : List zAV → zAS → Option zOut := zmeth zk_X6_at 3
set_option maxRecDepth 100000 in
set_option maxHeartbeats 4000000 in
theorem zcs_X6_at {R : Room} (hR : R = zR_X6_at) : ∀ q ∈ zl_X6_at, zS zEC yX6_at.cls cX6_at 3 wsX6_at (some (.object "PrimePlane$Figure")) R q.1 q.2 := by
  subst hR
  have hin6 : ∀ w ∈ wsX60, w ∈ wsX6_at := fun w h => List.mem_cons_of_mem _ (List.mem_append_right _ h)
  refine List.forall_mem_cons.mpr ⟨zs_iload_n dX6_at_0 rfl, ?_⟩
  refine List.forall_mem_cons.mpr ⟨zs_iflt dX6_at_1 (by decide), ?_⟩
  refine List.forall_mem_cons.mpr ⟨zs_iload_n dX6_at_4 rfl, ?_⟩
  refine List.forall_mem_cons.mpr ⟨zs_aload_n dX6_at_5 rfl, ?_⟩
  refine List.forall_mem_cons.mpr ⟨zs_get (ci := 6) (j := 2) (N := 3) (C := RX6) (T := TX6) (index := 24) rfl (by decide) hin6 (List.mem_of_getElem? (i := 1) rfl) dX6_at_6, ?_⟩
  refine List.forall_mem_cons.mpr ⟨zs_icge dX6_at_9 (by decide), ?_⟩
  refine List.forall_mem_cons.mpr ⟨zs_iload_n dX6_at_12 rfl, ?_⟩
  refine List.forall_mem_cons.mpr ⟨zs_aload_n dX6_at_13 rfl, ?_⟩
  refine List.forall_mem_cons.mpr ⟨zs_get (ci := 6) (j := 0) (N := 3) (C := RX6) (T := TX6) (index := 11) rfl (by decide) hin6 (List.mem_of_getElem? (i := 2) rfl) dX6_at_14, ?_⟩
  refine List.forall_mem_cons.mpr ⟨zs_alen dX6_at_17, ?_⟩
  refine List.forall_mem_cons.mpr ⟨zs_iclt dX6_at_18 (by decide), ?_⟩
  refine List.forall_mem_cons.mpr ⟨zs_aload_n dX6_at_21 rfl, ?_⟩
  refine List.forall_mem_cons.mpr ⟨zs_get (ci := 6) (j := 1) (N := 3) (C := RX6) (T := TX6) (index := 20) rfl (by decide) hin6 (List.mem_of_getElem? (i := 3) rfl) dX6_at_22, ?_⟩
  refine List.forall_mem_cons.mpr ⟨zs_retr rfl dX6_at_25, ?_⟩
  refine List.forall_mem_cons.mpr ⟨zs_aload_n dX6_at_26 rfl, ?_⟩
  refine List.forall_mem_cons.mpr ⟨zs_get (ci := 6) (j := 0) (N := 3) (C := RX6) (T := TX6) (index := 11) rfl (by decide) hin6 (List.mem_of_getElem? (i := 2) rfl) dX6_at_27, ?_⟩
  refine List.forall_mem_cons.mpr ⟨zs_iload_n dX6_at_30 rfl, ?_⟩
  refine List.forall_mem_cons.mpr ⟨zs_aald (t := 2) (C := "PrimePlane$Figure") (by decide) (fun _ => rfl) dX6_at_31, ?_⟩
  refine List.forall_mem_cons.mpr ⟨zs_astore_n dX6_at_32 rfl, ?_⟩
  refine List.forall_mem_cons.mpr ⟨zs_aload_n dX6_at_33 rfl, ?_⟩
  refine List.forall_mem_cons.mpr ⟨zs_nn dX6_at_34 (by decide), ?_⟩
  refine List.forall_mem_cons.mpr ⟨zs_aload_n dX6_at_37 rfl, ?_⟩
  refine List.forall_mem_cons.mpr ⟨zs_get (ci := 6) (j := 1) (N := 3) (C := RX6) (T := TX6) (index := 20) rfl (by decide) hin6 (List.mem_of_getElem? (i := 3) rfl) dX6_at_38, ?_⟩
  refine List.forall_mem_cons.mpr ⟨zs_goto dX6_at_41 (by decide), ?_⟩
  refine List.forall_mem_cons.mpr ⟨zs_aload_n dX6_at_44 rfl, ?_⟩
  refine List.forall_mem_cons.mpr ⟨zs_retr rfl dX6_at_45, ?_⟩
  exact fun _ h => absurd h List.not_mem_nil
theorem zM_X6_at : zMeets zEC yX6_at wsX6_at zR_X6_at m_X6_at := zmeth_M zECok (zlook_all (zcs_X6_at rfl)) (by decide +kernel) rfl
theorem zr_X6_at_0 (a0 a2 : Option zAV) (st : List zAV) (s : zAS) (k : Nat × Nat) (x : Int32) : zev zk_X6_at (0, [a0, some (Sum.inl (Value.int x)), a2], st, s, k) = zev zk_X6_at (1, [a0, some (Sum.inl (Value.int x)), a2], Sum.inl (Value.int x) :: st, s, k) := zev_go rfl rfl
theorem zr_X6_at_1 (ls : zLs) (st : List zAV) (s : zAS) (k : Nat × Nat) (x : Int32) : zev zk_X6_at (1, ls, Sum.inl (Value.int x) :: st, s, k) = if decide (x < 0) = true then zev zk_X6_at (21, ls, st, s, k) else zev zk_X6_at (4, ls, st, s, k) := zf_if (f := fun x => decide (x < 0)) rfl
theorem zr_X6_at_4 (a0 a2 : Option zAV) (st : List zAV) (s : zAS) (k : Nat × Nat) (x : Int32) : zev zk_X6_at (4, [a0, some (Sum.inl (Value.int x)), a2], st, s, k) = zev zk_X6_at (5, [a0, some (Sum.inl (Value.int x)), a2], Sum.inl (Value.int x) :: st, s, k) := zev_go rfl rfl
theorem zr_X6_at_5 (a1 a2 : Option zAV) (st : List zAV) (s : zAS) (k : Nat × Nat) (o : Nat × Nat) : zev zk_X6_at (5, [some (Sum.inr o), a1, a2], st, s, k) = zev zk_X6_at (6, [some (Sum.inr o), a1, a2], Sum.inr o :: st, s, k) := zev_go rfl rfl
theorem zr_X6_at_6 (ls : zLs) (st : List zAV) (s : zAS) (k : Nat × Nat) (o i : Nat) : zev zk_X6_at (6, ls, Sum.inr (o, i) :: st, s, k) = zpush zk_X6_at 9 ls st s k (zgv zEC 6 2 o i s.1) := zf_get rfl
theorem zr_X6_at_9 (ls : zLs) (st : List zAV) (s : zAS) (k : Nat × Nat) (x y : Int32) : zev zk_X6_at (9, ls, Sum.inl (Value.int y) :: Sum.inl (Value.int x) :: st, s, k) = if decide (y ≤ x) = true then zev zk_X6_at (21, ls, st, s, k) else zev zk_X6_at (12, ls, st, s, k) := zf_cmp (f := fun x y => decide (y ≤ x)) rfl
theorem zr_X6_at_12 (a0 a2 : Option zAV) (st : List zAV) (s : zAS) (k : Nat × Nat) (x : Int32) : zev zk_X6_at (12, [a0, some (Sum.inl (Value.int x)), a2], st, s, k) = zev zk_X6_at (13, [a0, some (Sum.inl (Value.int x)), a2], Sum.inl (Value.int x) :: st, s, k) := zev_go rfl rfl
theorem zr_X6_at_13 (a1 a2 : Option zAV) (st : List zAV) (s : zAS) (k : Nat × Nat) (o : Nat × Nat) : zev zk_X6_at (13, [some (Sum.inr o), a1, a2], st, s, k) = zev zk_X6_at (14, [some (Sum.inr o), a1, a2], Sum.inr o :: st, s, k) := zev_go rfl rfl
theorem zr_X6_at_14 (ls : zLs) (st : List zAV) (s : zAS) (k : Nat × Nat) (o i : Nat) : zev zk_X6_at (14, ls, Sum.inr (o, i) :: st, s, k) = zpush zk_X6_at 17 ls st s k (zgv zEC 6 0 o i s.1) := zf_get rfl
theorem zr_X6_at_17 (ls : zLs) (st : List zAV) (s : zAS) (k : Nat × Nat) (o i : Nat) : zev zk_X6_at (17, ls, Sum.inr (o, i) :: st, s, k) = zpush zk_X6_at 18 ls st s k (zalen zEC o i s.2) := zf_alen rfl
theorem zr_X6_at_18 (ls : zLs) (st : List zAV) (s : zAS) (k : Nat × Nat) (x y : Int32) : zev zk_X6_at (18, ls, Sum.inl (Value.int y) :: Sum.inl (Value.int x) :: st, s, k) = if decide (x < y) = true then zev zk_X6_at (26, ls, st, s, k) else zev zk_X6_at (21, ls, st, s, k) := zf_cmp (f := fun x y => decide (x < y)) rfl
theorem zr_X6_at_21 (a1 a2 : Option zAV) (st : List zAV) (s : zAS) (k : Nat × Nat) (o : Nat × Nat) : zev zk_X6_at (21, [some (Sum.inr o), a1, a2], st, s, k) = zev zk_X6_at (22, [some (Sum.inr o), a1, a2], Sum.inr o :: st, s, k) := zev_go rfl rfl
theorem zr_X6_at_22 (ls : zLs) (st : List zAV) (s : zAS) (k : Nat × Nat) (o i : Nat) : zev zk_X6_at (22, ls, Sum.inr (o, i) :: st, s, k) = zpush zk_X6_at 25 ls st s k (zgv zEC 6 1 o i s.1) := zf_get rfl
theorem zr_X6_at_25 (ls : zLs) (s : zAS) (k : Nat × Nat) (o i : Nat) (h : o ≠ 99) : zev zk_X6_at (25, ls, [Sum.inr (o, i)], s, k) = some (.inl (some (Sum.inr (o, i))), s) := zf_retr rfl h
theorem zr_X6_at_26 (a1 a2 : Option zAV) (st : List zAV) (s : zAS) (k : Nat × Nat) (o : Nat × Nat) : zev zk_X6_at (26, [some (Sum.inr o), a1, a2], st, s, k) = zev zk_X6_at (27, [some (Sum.inr o), a1, a2], Sum.inr o :: st, s, k) := zev_go rfl rfl
theorem zr_X6_at_27 (ls : zLs) (st : List zAV) (s : zAS) (k : Nat × Nat) (o i : Nat) : zev zk_X6_at (27, ls, Sum.inr (o, i) :: st, s, k) = zpush zk_X6_at 30 ls st s k (zgv zEC 6 0 o i s.1) := zf_get rfl
theorem zr_X6_at_30 (a0 a2 : Option zAV) (st : List zAV) (s : zAS) (k : Nat × Nat) (x : Int32) : zev zk_X6_at (30, [a0, some (Sum.inl (Value.int x)), a2], st, s, k) = zev zk_X6_at (31, [a0, some (Sum.inl (Value.int x)), a2], Sum.inl (Value.int x) :: st, s, k) := zev_go rfl rfl
theorem zr_X6_at_31 (ls : zLs) (st : List zAV) (s : zAS) (k : Nat × Nat) (o i : Nat) (j : Int32) : zev zk_X6_at (31, ls, Sum.inl (Value.int j) :: Sum.inr (o, i) :: st, s, k) = zpush zk_X6_at 32 ls st s k (zaald zEC 2 o i j) := zf_aald rfl
theorem zr_X6_at_32 (a0 a1 a2 : Option zAV) (st : List zAV) (s : zAS) (k : Nat × Nat) (o : Nat × Nat) : zev zk_X6_at (32, [a0, a1, a2], Sum.inr o :: st, s, k) = zev zk_X6_at (33, [a0, zk1 a1, some (Sum.inr o)], st, s, k) := zev_go rfl rfl
theorem zr_X6_at_33 (a0 a1 : Option zAV) (st : List zAV) (s : zAS) (k : Nat × Nat) (o : Nat × Nat) : zev zk_X6_at (33, [a0, a1, some (Sum.inr o)], st, s, k) = zev zk_X6_at (34, [a0, a1, some (Sum.inr o)], Sum.inr o :: st, s, k) := zev_go rfl rfl
theorem zr_X6_at_34 (ls : zLs) (st : List zAV) (s : zAS) (k : Nat × Nat) (o : Nat × Nat) : zev zk_X6_at (34, ls, Sum.inr o :: st, s, k) = zev zk_X6_at (44, ls, st, s, k) := zev_go rfl rfl
theorem zr_X6_at_37 (a1 a2 : Option zAV) (st : List zAV) (s : zAS) (k : Nat × Nat) (o : Nat × Nat) : zev zk_X6_at (37, [some (Sum.inr o), a1, a2], st, s, k) = zev zk_X6_at (38, [some (Sum.inr o), a1, a2], Sum.inr o :: st, s, k) := zev_go rfl rfl
theorem zr_X6_at_38 (ls : zLs) (st : List zAV) (s : zAS) (k : Nat × Nat) (o i : Nat) : zev zk_X6_at (38, ls, Sum.inr (o, i) :: st, s, k) = zpush zk_X6_at 41 ls st s k (zgv zEC 6 1 o i s.1) := zf_get rfl
theorem zr_X6_at_41 (ls : zLs) (st : List zAV) (s : zAS) (k : Nat × Nat) : zev zk_X6_at (41, ls, st, s, k) = zev zk_X6_at (45, ls, st, s, k) := zev_go rfl rfl
theorem zr_X6_at_44 (a0 a1 : Option zAV) (st : List zAV) (s : zAS) (k : Nat × Nat) (o : Nat × Nat) : zev zk_X6_at (44, [a0, a1, some (Sum.inr o)], st, s, k) = zev zk_X6_at (45, [a0, a1, some (Sum.inr o)], Sum.inr o :: st, s, k) := zev_go rfl rfl
theorem zr_X6_at_45 (ls : zLs) (s : zAS) (k : Nat × Nat) (o i : Nat) (h : o ≠ 99) : zev zk_X6_at (45, ls, [Sum.inr (o, i)], s, k) = some (.inl (some (Sum.inr (o, i))), s) := zf_retr rfl h
/-! X6_has: PrimePlane$Row.has(I)Z -/
abbrev zR_X6_has : Room := ({ frames := 0, cells := 0, slots := 0, locals := 0 } : Room)
noncomputable def zl_X6_has : List (Nat × zOp) := [(0, z_ldi 1 1), (1, z_if (fun x => decide (x < 0)) 16 4), (4, z_ldi 1 5), (5, z_lda 0 6), (6, z_get zEC 6 2 9), (9, z_cmp (fun x y => decide (y ≤ x)) 16 12), (12, z_ic (1) 13), (13, z_goto 17), (16, z_ic (0) 17), (17, z_reti true)]
noncomputable def zk_X6_has (pc : Nat) : Option zOp := zlook zl_X6_has pc
noncomputable def m_X6_has : List zAV → zAS → Option zOut := zmeth zk_X6_has 2
set_option maxRecDepth 100000 in
set_option maxHeartbeats 4000000 in
theorem zcs_X6_has {R : Room} (hR : R = zR_X6_has) : ∀ q ∈ zl_X6_has, zS zEC yX6_has.cls cX6_has 2 wsX6_has (some .boolean) R q.1 q.2 := by
  subst hR
  have hin6 : ∀ w ∈ wsX60, w ∈ wsX6_has := fun w h => List.mem_cons_of_mem _ (List.mem_append_right _ h)
  refine List.forall_mem_cons.mpr ⟨zs_iload_n dX6_has_0 rfl, ?_⟩
  refine List.forall_mem_cons.mpr ⟨zs_iflt dX6_has_1 (by decide), ?_⟩
  refine List.forall_mem_cons.mpr ⟨zs_iload_n dX6_has_4 rfl, ?_⟩
  refine List.forall_mem_cons.mpr ⟨zs_aload_n dX6_has_5 rfl, ?_⟩
  refine List.forall_mem_cons.mpr ⟨zs_get (ci := 6) (j := 2) (N := 3) (C := RX6) (T := TX6) (index := 24) rfl (by decide) hin6 (List.mem_of_getElem? (i := 1) rfl) dX6_has_6, ?_⟩
  refine List.forall_mem_cons.mpr ⟨zs_icge dX6_has_9 (by decide), ?_⟩
  refine List.forall_mem_cons.mpr ⟨zs_iconst dX6_has_12 (by decide), ?_⟩
  refine List.forall_mem_cons.mpr ⟨zs_goto dX6_has_13 (by decide), ?_⟩
  refine List.forall_mem_cons.mpr ⟨zs_iconst dX6_has_16 (by decide), ?_⟩
  refine List.forall_mem_cons.mpr ⟨zs_reti (ty := .boolean) rfl (fun x h => (znz x h).1) dX6_has_17, ?_⟩
  exact fun _ h => absurd h List.not_mem_nil
theorem zM_X6_has : zMeets zEC yX6_has wsX6_has zR_X6_has m_X6_has := zmeth_M zECok (zlook_all (zcs_X6_has rfl)) (by decide +kernel) rfl
theorem zr_X6_has_0 (a0 : Option zAV) (st : List zAV) (s : zAS) (k : Nat × Nat) (x : Int32) : zev zk_X6_has (0, [a0, some (Sum.inl (Value.int x))], st, s, k) = zev zk_X6_has (1, [a0, some (Sum.inl (Value.int x))], Sum.inl (Value.int x) :: st, s, k) := zev_go rfl rfl
theorem zr_X6_has_1 (ls : zLs) (st : List zAV) (s : zAS) (k : Nat × Nat) (x : Int32) : zev zk_X6_has (1, ls, Sum.inl (Value.int x) :: st, s, k) = if decide (x < 0) = true then zev zk_X6_has (16, ls, st, s, k) else zev zk_X6_has (4, ls, st, s, k) := zf_if (f := fun x => decide (x < 0)) rfl
theorem zr_X6_has_4 (a0 : Option zAV) (st : List zAV) (s : zAS) (k : Nat × Nat) (x : Int32) : zev zk_X6_has (4, [a0, some (Sum.inl (Value.int x))], st, s, k) = zev zk_X6_has (5, [a0, some (Sum.inl (Value.int x))], Sum.inl (Value.int x) :: st, s, k) := zev_go rfl rfl
theorem zr_X6_has_5 (a1 : Option zAV) (st : List zAV) (s : zAS) (k : Nat × Nat) (o : Nat × Nat) : zev zk_X6_has (5, [some (Sum.inr o), a1], st, s, k) = zev zk_X6_has (6, [some (Sum.inr o), a1], Sum.inr o :: st, s, k) := zev_go rfl rfl
theorem zr_X6_has_6 (ls : zLs) (st : List zAV) (s : zAS) (k : Nat × Nat) (o i : Nat) : zev zk_X6_has (6, ls, Sum.inr (o, i) :: st, s, k) = zpush zk_X6_has 9 ls st s k (zgv zEC 6 2 o i s.1) := zf_get rfl
theorem zr_X6_has_9 (ls : zLs) (st : List zAV) (s : zAS) (k : Nat × Nat) (x y : Int32) : zev zk_X6_has (9, ls, Sum.inl (Value.int y) :: Sum.inl (Value.int x) :: st, s, k) = if decide (y ≤ x) = true then zev zk_X6_has (16, ls, st, s, k) else zev zk_X6_has (12, ls, st, s, k) := zf_cmp (f := fun x y => decide (y ≤ x)) rfl
theorem zr_X6_has_12 (ls : zLs) (st : List zAV) (s : zAS) (k : Nat × Nat) : zev zk_X6_has (12, ls, st, s, k) = zev zk_X6_has (13, ls, Sum.inl (Value.int (1)) :: st, s, k) := zev_go rfl rfl
theorem zr_X6_has_13 (ls : zLs) (st : List zAV) (s : zAS) (k : Nat × Nat) : zev zk_X6_has (13, ls, st, s, k) = zev zk_X6_has (17, ls, st, s, k) := zev_go rfl rfl
theorem zr_X6_has_16 (ls : zLs) (st : List zAV) (s : zAS) (k : Nat × Nat) : zev zk_X6_has (16, ls, st, s, k) = zev zk_X6_has (17, ls, Sum.inl (Value.int (0)) :: st, s, k) := zev_go rfl rfl
theorem zr_X6_has_17 (ls : zLs) (s : zAS) (k : Nat × Nat) (x : Int32) (hx : x = 0 ∨ x = 1) : zev zk_X6_has (17, ls, [Sum.inl (Value.int x)], s, k) = some (.inl (some (Sum.inl (Value.int x))), s) := zf_retz rfl hx
/-! X6_next: PrimePlane$Row.next()LPrimePlane$Figure; -/
abbrev zR_X6_next : Room := ({ frames := 1, cells := 0, slots := 0, locals := 22 } : Room)
noncomputable def zl_X6_next : List (Nat × zOp) := [(0, z_lda 0 1), (1, z_get zEC 6 2 4), (4, z_lda 0 5), (5, z_get zEC 6 0 8), (8, z_alen zEC 9), (9, z_cmp (fun x y => decide (x < y)) 17 12), (12, z_lda 0 13), (13, z_get zEC 6 1 16), (16, z_retr), (17, z_lda 0 18), (18, z_dup 19), (19, z_get zEC 6 2 22), (22, z_ic (1) 23), (23, z_bin (fun x y => x + y) 24), (24, z_put zEC 6 2 false 27), (27, z_lda 0 28), (28, z_lda 0 29), (29, z_get zEC 6 2 32), (32, z_ic (1) 33), (33, z_bin (fun x y => x - y) 34), (34, z_callV zEC 6 m_X6_at 1 0 0 (zR_X6_next).cells (zR_X6_next).slots 37), (37, z_retr)]
noncomputable def zk_X6_next (pc : Nat) : Option zOp := zlook zl_X6_next pc
noncomputable def m_X6_next : List zAV → zAS → Option zOut := zmeth zk_X6_next 1
set_option maxRecDepth 100000 in
set_option maxHeartbeats 4000000 in
theorem zcs_X6_next {R : Room} (hR : R = zR_X6_next) : ∀ q ∈ zl_X6_next, zS zEC yX6_next.cls cX6_next 1 wsX6_next (some (.object "PrimePlane$Figure")) R q.1 q.2 := by
  subst hR
  have hin6 : ∀ w ∈ wsX60, w ∈ wsX6_next := fun w h => List.mem_cons_of_mem _ (List.mem_append_right _ h)
  refine List.forall_mem_cons.mpr ⟨zs_aload_n dX6_next_0 rfl, ?_⟩
  refine List.forall_mem_cons.mpr ⟨zs_get (ci := 6) (j := 2) (N := 3) (C := RX6) (T := TX6) (index := 24) rfl (by decide) hin6 (List.mem_of_getElem? (i := 1) rfl) dX6_next_1, ?_⟩
  refine List.forall_mem_cons.mpr ⟨zs_aload_n dX6_next_4 rfl, ?_⟩
  refine List.forall_mem_cons.mpr ⟨zs_get (ci := 6) (j := 0) (N := 3) (C := RX6) (T := TX6) (index := 11) rfl (by decide) hin6 (List.mem_of_getElem? (i := 2) rfl) dX6_next_5, ?_⟩
  refine List.forall_mem_cons.mpr ⟨zs_alen dX6_next_8, ?_⟩
  refine List.forall_mem_cons.mpr ⟨zs_iclt dX6_next_9 (by decide), ?_⟩
  refine List.forall_mem_cons.mpr ⟨zs_aload_n dX6_next_12 rfl, ?_⟩
  refine List.forall_mem_cons.mpr ⟨zs_get (ci := 6) (j := 1) (N := 3) (C := RX6) (T := TX6) (index := 20) rfl (by decide) hin6 (List.mem_of_getElem? (i := 3) rfl) dX6_next_13, ?_⟩
  refine List.forall_mem_cons.mpr ⟨zs_retr rfl dX6_next_16, ?_⟩
  refine List.forall_mem_cons.mpr ⟨zs_aload_n dX6_next_17 rfl, ?_⟩
  refine List.forall_mem_cons.mpr ⟨zs_dup dX6_next_18, ?_⟩
  refine List.forall_mem_cons.mpr ⟨zs_get (ci := 6) (j := 2) (N := 3) (C := RX6) (T := TX6) (index := 24) rfl (by decide) hin6 (List.mem_of_getElem? (i := 1) rfl) dX6_next_19, ?_⟩
  refine List.forall_mem_cons.mpr ⟨zs_iconst dX6_next_22 (by decide), ?_⟩
  refine List.forall_mem_cons.mpr ⟨zs_iadd dX6_next_23, ?_⟩
  refine List.forall_mem_cons.mpr ⟨zs_put (ci := 6) (j := 2) (N := 3) (C := RX6) (T := TX6) (index := 24) (b := false) .int tyX6 rfl (by decide) hin6 tyX6_ok nmX6 (List.mem_of_getElem? (i := 1) rfl) rfl (by decide +kernel) zni dX6_next_24, ?_⟩
  refine List.forall_mem_cons.mpr ⟨zs_aload_n dX6_next_27 rfl, ?_⟩
  refine List.forall_mem_cons.mpr ⟨zs_aload_n dX6_next_28 rfl, ?_⟩
  refine List.forall_mem_cons.mpr ⟨zs_get (ci := 6) (j := 2) (N := 3) (C := RX6) (T := TX6) (index := 24) rfl (by decide) hin6 (List.mem_of_getElem? (i := 1) rfl) dX6_next_29, ?_⟩
  refine List.forall_mem_cons.mpr ⟨zs_iconst dX6_next_32 (by decide), ?_⟩
  refine List.forall_mem_cons.mpr ⟨zs_isub dX6_next_33, ?_⟩
  refine List.forall_mem_cons.mpr ⟨zs_callV (ci := 6) (rm := zR_X6_at) (n := 1) rfl zM_X6_at gX6_next_X6_at rfl (by decide +kernel) ⟨by decide, by decide⟩ dX6_next_34, ?_⟩
  refine List.forall_mem_cons.mpr ⟨zs_retr rfl dX6_next_37, ?_⟩
  exact fun _ h => absurd h List.not_mem_nil
theorem zM_X6_next : zMeets zEC yX6_next wsX6_next zR_X6_next m_X6_next := zmeth_M zECok (zlook_all (zcs_X6_next rfl)) (by decide +kernel) rfl
theorem zr_X6_next_0 (st : List zAV) (s : zAS) (k : Nat × Nat) (o : Nat × Nat) : zev zk_X6_next (0, [some (Sum.inr o)], st, s, k) = zev zk_X6_next (1, [some (Sum.inr o)], Sum.inr o :: st, s, k) := zev_go rfl rfl
theorem zr_X6_next_1 (ls : zLs) (st : List zAV) (s : zAS) (k : Nat × Nat) (o i : Nat) : zev zk_X6_next (1, ls, Sum.inr (o, i) :: st, s, k) = zpush zk_X6_next 4 ls st s k (zgv zEC 6 2 o i s.1) := zf_get rfl
theorem zr_X6_next_4 (st : List zAV) (s : zAS) (k : Nat × Nat) (o : Nat × Nat) : zev zk_X6_next (4, [some (Sum.inr o)], st, s, k) = zev zk_X6_next (5, [some (Sum.inr o)], Sum.inr o :: st, s, k) := zev_go rfl rfl
theorem zr_X6_next_5 (ls : zLs) (st : List zAV) (s : zAS) (k : Nat × Nat) (o i : Nat) : zev zk_X6_next (5, ls, Sum.inr (o, i) :: st, s, k) = zpush zk_X6_next 8 ls st s k (zgv zEC 6 0 o i s.1) := zf_get rfl
theorem zr_X6_next_8 (ls : zLs) (st : List zAV) (s : zAS) (k : Nat × Nat) (o i : Nat) : zev zk_X6_next (8, ls, Sum.inr (o, i) :: st, s, k) = zpush zk_X6_next 9 ls st s k (zalen zEC o i s.2) := zf_alen rfl
theorem zr_X6_next_9 (ls : zLs) (st : List zAV) (s : zAS) (k : Nat × Nat) (x y : Int32) : zev zk_X6_next (9, ls, Sum.inl (Value.int y) :: Sum.inl (Value.int x) :: st, s, k) = if decide (x < y) = true then zev zk_X6_next (17, ls, st, s, k) else zev zk_X6_next (12, ls, st, s, k) := zf_cmp (f := fun x y => decide (x < y)) rfl
theorem zr_X6_next_12 (st : List zAV) (s : zAS) (k : Nat × Nat) (o : Nat × Nat) : zev zk_X6_next (12, [some (Sum.inr o)], st, s, k) = zev zk_X6_next (13, [some (Sum.inr o)], Sum.inr o :: st, s, k) := zev_go rfl rfl
theorem zr_X6_next_13 (ls : zLs) (st : List zAV) (s : zAS) (k : Nat × Nat) (o i : Nat) : zev zk_X6_next (13, ls, Sum.inr (o, i) :: st, s, k) = zpush zk_X6_next 16 ls st s k (zgv zEC 6 1 o i s.1) := zf_get rfl
theorem zr_X6_next_16 (ls : zLs) (s : zAS) (k : Nat × Nat) (o i : Nat) (h : o ≠ 99) : zev zk_X6_next (16, ls, [Sum.inr (o, i)], s, k) = some (.inl (some (Sum.inr (o, i))), s) := zf_retr rfl h
theorem zr_X6_next_17 (st : List zAV) (s : zAS) (k : Nat × Nat) (o : Nat × Nat) : zev zk_X6_next (17, [some (Sum.inr o)], st, s, k) = zev zk_X6_next (18, [some (Sum.inr o)], Sum.inr o :: st, s, k) := zev_go rfl rfl
theorem zr_X6_next_18 (ls : zLs) (st : List zAV) (s : zAS) (k : Nat × Nat) (v : zAV) (hv : zc1 v = true) : zev zk_X6_next (18, ls, v :: st, s, k) = zev zk_X6_next (19, ls, v :: v :: st, s, k) := zf_dup rfl hv
theorem zr_X6_next_19 (ls : zLs) (st : List zAV) (s : zAS) (k : Nat × Nat) (o i : Nat) : zev zk_X6_next (19, ls, Sum.inr (o, i) :: st, s, k) = zpush zk_X6_next 22 ls st s k (zgv zEC 6 2 o i s.1) := zf_get rfl
theorem zr_X6_next_22 (ls : zLs) (st : List zAV) (s : zAS) (k : Nat × Nat) : zev zk_X6_next (22, ls, st, s, k) = zev zk_X6_next (23, ls, Sum.inl (Value.int (1)) :: st, s, k) := zev_go rfl rfl
theorem zr_X6_next_23 (ls : zLs) (st : List zAV) (s : zAS) (k : Nat × Nat) (x y : Int32) : zev zk_X6_next (23, ls, Sum.inl (Value.int y) :: Sum.inl (Value.int x) :: st, s, k) = zev zk_X6_next (24, ls, Sum.inl (Value.int (x + y)) :: st, s, k) := zev_go rfl rfl
theorem zr_X6_next_24 (ls : zLs) (st : List zAV) (s : zAS) (k : Nat × Nat) (o i : Nat) (x : Int32) (h : zpok zEC 6 2 false o i x) : zev zk_X6_next (24, ls, Sum.inl (Value.int x) :: Sum.inr (o, i) :: st, s, k) = zev zk_X6_next (27, ls, st, (zup s.1 o i 2 x, s.2), k) := zf_put rfl h
theorem zr_X6_next_27 (st : List zAV) (s : zAS) (k : Nat × Nat) (o : Nat × Nat) : zev zk_X6_next (27, [some (Sum.inr o)], st, s, k) = zev zk_X6_next (28, [some (Sum.inr o)], Sum.inr o :: st, s, k) := zev_go rfl rfl
theorem zr_X6_next_28 (st : List zAV) (s : zAS) (k : Nat × Nat) (o : Nat × Nat) : zev zk_X6_next (28, [some (Sum.inr o)], st, s, k) = zev zk_X6_next (29, [some (Sum.inr o)], Sum.inr o :: st, s, k) := zev_go rfl rfl
theorem zr_X6_next_29 (ls : zLs) (st : List zAV) (s : zAS) (k : Nat × Nat) (o i : Nat) : zev zk_X6_next (29, ls, Sum.inr (o, i) :: st, s, k) = zpush zk_X6_next 32 ls st s k (zgv zEC 6 2 o i s.1) := zf_get rfl
theorem zr_X6_next_32 (ls : zLs) (st : List zAV) (s : zAS) (k : Nat × Nat) : zev zk_X6_next (32, ls, st, s, k) = zev zk_X6_next (33, ls, Sum.inl (Value.int (1)) :: st, s, k) := zev_go rfl rfl
theorem zr_X6_next_33 (ls : zLs) (st : List zAV) (s : zAS) (k : Nat × Nat) (x y : Int32) : zev zk_X6_next (33, ls, Sum.inl (Value.int y) :: Sum.inl (Value.int x) :: st, s, k) = zev zk_X6_next (34, ls, Sum.inl (Value.int (x - y)) :: st, s, k) := zev_go rfl rfl
theorem zr_X6_next_34 (ls : zLs) (st : List zAV) (s : zAS) (k : Nat × Nat) (r v0 : zAV) (h : zcok zEC 6 0 0 (zR_X6_next).cells (zR_X6_next).slots r st k) : zev zk_X6_next (34, ls, v0 :: r :: st, s, k) = zret zk_X6_next 37 ls st (k.1 + 0, k.2 + 0) (m_X6_at [r, v0] s) := zf_callV (as := [v0]) 1 rfl rfl h
theorem zr_X6_next_37 (ls : zLs) (s : zAS) (k : Nat × Nat) (o i : Nat) (h : o ≠ 99) : zev zk_X6_next (37, ls, [Sum.inr (o, i)], s, k) = some (.inl (some (Sum.inr (o, i))), s) := zf_retr rfl h
/-! X6_freePoints: PrimePlane$Row.freePoints()I -/
abbrev zR_X6_freePoints : Room := ({ frames := 1, cells := 0, slots := 0, locals := 22 } : Room)
noncomputable def zl_X6_freePoints : List (Nat × zOp) := [(0, z_ic (0) 1), (1, z_sti 1 2), (2, z_ic (0) 3), (3, z_sti 2 4), (4, z_ldi 2 5), (5, z_lda 0 6), (6, z_get zEC 6 2 9), (9, z_cmp (fun x y => decide (y ≤ x)) 37 12), (12, z_ldi 1 13), (13, z_lda 0 14), (14, z_ldi 2 15), (15, z_callV zEC 6 m_X6_at 1 0 0 (zR_X6_freePoints).cells (zR_X6_freePoints).slots 18), (18, z_get zEC 4 1 21), (21, z_if (fun x => decide (¬ x = 0)) 28 24), (24, z_ic (1) 25), (25, z_goto 29), (28, z_ic (0) 29), (29, z_bin (fun x y => x + y) 30), (30, z_sti 1 31), (31, z_iinc 2 (1) 34), (34, z_goto 4), (37, z_ldi 1 38), (38, z_reti false)]
noncomputable def zk_X6_freePoints (pc : Nat) : Option zOp := zlook zl_X6_freePoints pc
noncomputable def m_X6_freePoints : List zAV → zAS → Option zOut := zmeth zk_X6_freePoints 3
set_option maxRecDepth 100000 in
set_option maxHeartbeats 4000000 in
theorem zcs_X6_freePoints {R : Room} (hR : R = zR_X6_freePoints) : ∀ q ∈ zl_X6_freePoints, zS zEC yX6_freePoints.cls cX6_freePoints 3 wsX6_freePoints (some .int) R q.1 q.2 := by
  subst hR
  have hin4 : ∀ w ∈ wsX40, w ∈ wsX6_freePoints := fun w h => List.mem_cons_of_mem _ (List.mem_append_right _ h)
  have hin6 : ∀ w ∈ wsX60, w ∈ wsX6_freePoints := fun w h => List.mem_cons_of_mem _ (List.mem_append_left _ (List.mem_append_right _ h))
  refine List.forall_mem_cons.mpr ⟨zs_iconst dX6_freePoints_0 (by decide), ?_⟩
  refine List.forall_mem_cons.mpr ⟨zs_istore_n dX6_freePoints_1 rfl, ?_⟩
  refine List.forall_mem_cons.mpr ⟨zs_iconst dX6_freePoints_2 (by decide), ?_⟩
  refine List.forall_mem_cons.mpr ⟨zs_istore_n dX6_freePoints_3 rfl, ?_⟩
  refine List.forall_mem_cons.mpr ⟨zs_iload_n dX6_freePoints_4 rfl, ?_⟩
  refine List.forall_mem_cons.mpr ⟨zs_aload_n dX6_freePoints_5 rfl, ?_⟩
  refine List.forall_mem_cons.mpr ⟨zs_get (ci := 6) (j := 2) (N := 3) (C := RX6) (T := TX6) (index := 24) rfl (by decide) hin6 (List.mem_of_getElem? (i := 1) rfl) dX6_freePoints_6, ?_⟩
  refine List.forall_mem_cons.mpr ⟨zs_icge dX6_freePoints_9 (by decide), ?_⟩
  refine List.forall_mem_cons.mpr ⟨zs_iload_n dX6_freePoints_12 rfl, ?_⟩
  refine List.forall_mem_cons.mpr ⟨zs_aload_n dX6_freePoints_13 rfl, ?_⟩
  refine List.forall_mem_cons.mpr ⟨zs_iload_n dX6_freePoints_14 rfl, ?_⟩
  refine List.forall_mem_cons.mpr ⟨zs_callV (ci := 6) (rm := zR_X6_at) (n := 1) rfl zM_X6_at gX6_freePoints_X6_at rfl (by decide +kernel) ⟨by decide, by decide⟩ dX6_freePoints_15, ?_⟩
  refine List.forall_mem_cons.mpr ⟨zs_get (ci := 4) (j := 1) (N := 13) (C := RX4) (T := TX4) (index := 32) rfl (by decide) hin4 (List.mem_of_getElem? (i := 2) rfl) dX6_freePoints_18, ?_⟩
  refine List.forall_mem_cons.mpr ⟨zs_ifne dX6_freePoints_21 (by decide), ?_⟩
  refine List.forall_mem_cons.mpr ⟨zs_iconst dX6_freePoints_24 (by decide), ?_⟩
  refine List.forall_mem_cons.mpr ⟨zs_goto dX6_freePoints_25 (by decide), ?_⟩
  refine List.forall_mem_cons.mpr ⟨zs_iconst dX6_freePoints_28 (by decide), ?_⟩
  refine List.forall_mem_cons.mpr ⟨zs_iadd dX6_freePoints_29, ?_⟩
  refine List.forall_mem_cons.mpr ⟨zs_istore_n dX6_freePoints_30 rfl, ?_⟩
  refine List.forall_mem_cons.mpr ⟨zs_iinc dX6_freePoints_31 (by decide), ?_⟩
  refine List.forall_mem_cons.mpr ⟨zs_goto dX6_freePoints_34 (by decide), ?_⟩
  refine List.forall_mem_cons.mpr ⟨zs_iload_n dX6_freePoints_37 rfl, ?_⟩
  refine List.forall_mem_cons.mpr ⟨zs_reti (ty := .int) rfl (fun x h => (zni x h).1) dX6_freePoints_38, ?_⟩
  exact fun _ h => absurd h List.not_mem_nil
theorem zM_X6_freePoints : zMeets zEC yX6_freePoints wsX6_freePoints zR_X6_freePoints m_X6_freePoints := zmeth_M zECok (zlook_all (zcs_X6_freePoints rfl)) (by decide +kernel) rfl
theorem zr_X6_freePoints_0 (ls : zLs) (st : List zAV) (s : zAS) (k : Nat × Nat) : zev zk_X6_freePoints (0, ls, st, s, k) = zev zk_X6_freePoints (1, ls, Sum.inl (Value.int (0)) :: st, s, k) := zev_go rfl rfl
theorem zr_X6_freePoints_1 (a0 a1 a2 : Option zAV) (st : List zAV) (s : zAS) (k : Nat × Nat) (x : Int32) : zev zk_X6_freePoints (1, [a0, a1, a2], Sum.inl (Value.int x) :: st, s, k) = zev zk_X6_freePoints (2, [zk1 a0, some (Sum.inl (Value.int x)), a2], st, s, k) := zev_go rfl rfl
theorem zr_X6_freePoints_2 (ls : zLs) (st : List zAV) (s : zAS) (k : Nat × Nat) : zev zk_X6_freePoints (2, ls, st, s, k) = zev zk_X6_freePoints (3, ls, Sum.inl (Value.int (0)) :: st, s, k) := zev_go rfl rfl
theorem zr_X6_freePoints_3 (a0 a1 a2 : Option zAV) (st : List zAV) (s : zAS) (k : Nat × Nat) (x : Int32) : zev zk_X6_freePoints (3, [a0, a1, a2], Sum.inl (Value.int x) :: st, s, k) = zev zk_X6_freePoints (4, [a0, zk1 a1, some (Sum.inl (Value.int x))], st, s, k) := zev_go rfl rfl
theorem zr_X6_freePoints_4 (a0 a1 : Option zAV) (st : List zAV) (s : zAS) (k : Nat × Nat) (x : Int32) : zev zk_X6_freePoints (4, [a0, a1, some (Sum.inl (Value.int x))], st, s, k) = zev zk_X6_freePoints (5, [a0, a1, some (Sum.inl (Value.int x))], Sum.inl (Value.int x) :: st, s, k) := zev_go rfl rfl
theorem zr_X6_freePoints_5 (a1 a2 : Option zAV) (st : List zAV) (s : zAS) (k : Nat × Nat) (o : Nat × Nat) : zev zk_X6_freePoints (5, [some (Sum.inr o), a1, a2], st, s, k) = zev zk_X6_freePoints (6, [some (Sum.inr o), a1, a2], Sum.inr o :: st, s, k) := zev_go rfl rfl
theorem zr_X6_freePoints_6 (ls : zLs) (st : List zAV) (s : zAS) (k : Nat × Nat) (o i : Nat) : zev zk_X6_freePoints (6, ls, Sum.inr (o, i) :: st, s, k) = zpush zk_X6_freePoints 9 ls st s k (zgv zEC 6 2 o i s.1) := zf_get rfl
theorem zr_X6_freePoints_9 (ls : zLs) (st : List zAV) (s : zAS) (k : Nat × Nat) (x y : Int32) : zev zk_X6_freePoints (9, ls, Sum.inl (Value.int y) :: Sum.inl (Value.int x) :: st, s, k) = if decide (y ≤ x) = true then zev zk_X6_freePoints (37, ls, st, s, k) else zev zk_X6_freePoints (12, ls, st, s, k) := zf_cmp (f := fun x y => decide (y ≤ x)) rfl
theorem zr_X6_freePoints_12 (a0 a2 : Option zAV) (st : List zAV) (s : zAS) (k : Nat × Nat) (x : Int32) : zev zk_X6_freePoints (12, [a0, some (Sum.inl (Value.int x)), a2], st, s, k) = zev zk_X6_freePoints (13, [a0, some (Sum.inl (Value.int x)), a2], Sum.inl (Value.int x) :: st, s, k) := zev_go rfl rfl
theorem zr_X6_freePoints_13 (a1 a2 : Option zAV) (st : List zAV) (s : zAS) (k : Nat × Nat) (o : Nat × Nat) : zev zk_X6_freePoints (13, [some (Sum.inr o), a1, a2], st, s, k) = zev zk_X6_freePoints (14, [some (Sum.inr o), a1, a2], Sum.inr o :: st, s, k) := zev_go rfl rfl
theorem zr_X6_freePoints_14 (a0 a1 : Option zAV) (st : List zAV) (s : zAS) (k : Nat × Nat) (x : Int32) : zev zk_X6_freePoints (14, [a0, a1, some (Sum.inl (Value.int x))], st, s, k) = zev zk_X6_freePoints (15, [a0, a1, some (Sum.inl (Value.int x))], Sum.inl (Value.int x) :: st, s, k) := zev_go rfl rfl
theorem zr_X6_freePoints_15 (ls : zLs) (st : List zAV) (s : zAS) (k : Nat × Nat) (r v0 : zAV) (h : zcok zEC 6 0 0 (zR_X6_freePoints).cells (zR_X6_freePoints).slots r st k) : zev zk_X6_freePoints (15, ls, v0 :: r :: st, s, k) = zret zk_X6_freePoints 18 ls st (k.1 + 0, k.2 + 0) (m_X6_at [r, v0] s) := zf_callV (as := [v0]) 1 rfl rfl h
theorem zr_X6_freePoints_18 (ls : zLs) (st : List zAV) (s : zAS) (k : Nat × Nat) (o i : Nat) : zev zk_X6_freePoints (18, ls, Sum.inr (o, i) :: st, s, k) = zpush zk_X6_freePoints 21 ls st s k (zgv zEC 4 1 o i s.1) := zf_get rfl
theorem zr_X6_freePoints_21 (ls : zLs) (st : List zAV) (s : zAS) (k : Nat × Nat) (x : Int32) : zev zk_X6_freePoints (21, ls, Sum.inl (Value.int x) :: st, s, k) = if decide (¬ x = 0) = true then zev zk_X6_freePoints (28, ls, st, s, k) else zev zk_X6_freePoints (24, ls, st, s, k) := zf_if (f := fun x => decide (¬ x = 0)) rfl
theorem zr_X6_freePoints_24 (ls : zLs) (st : List zAV) (s : zAS) (k : Nat × Nat) : zev zk_X6_freePoints (24, ls, st, s, k) = zev zk_X6_freePoints (25, ls, Sum.inl (Value.int (1)) :: st, s, k) := zev_go rfl rfl
theorem zr_X6_freePoints_25 (ls : zLs) (st : List zAV) (s : zAS) (k : Nat × Nat) : zev zk_X6_freePoints (25, ls, st, s, k) = zev zk_X6_freePoints (29, ls, st, s, k) := zev_go rfl rfl
theorem zr_X6_freePoints_28 (ls : zLs) (st : List zAV) (s : zAS) (k : Nat × Nat) : zev zk_X6_freePoints (28, ls, st, s, k) = zev zk_X6_freePoints (29, ls, Sum.inl (Value.int (0)) :: st, s, k) := zev_go rfl rfl
theorem zr_X6_freePoints_29 (ls : zLs) (st : List zAV) (s : zAS) (k : Nat × Nat) (x y : Int32) : zev zk_X6_freePoints (29, ls, Sum.inl (Value.int y) :: Sum.inl (Value.int x) :: st, s, k) = zev zk_X6_freePoints (30, ls, Sum.inl (Value.int (x + y)) :: st, s, k) := zev_go rfl rfl
theorem zr_X6_freePoints_30 (a0 a1 a2 : Option zAV) (st : List zAV) (s : zAS) (k : Nat × Nat) (x : Int32) : zev zk_X6_freePoints (30, [a0, a1, a2], Sum.inl (Value.int x) :: st, s, k) = zev zk_X6_freePoints (31, [zk1 a0, some (Sum.inl (Value.int x)), a2], st, s, k) := zev_go rfl rfl
theorem zr_X6_freePoints_31 (a0 a1 : Option zAV) (st : List zAV) (s : zAS) (k : Nat × Nat) (x : Int32) : zev zk_X6_freePoints (31, [a0, a1, some (Sum.inl (Value.int x))], st, s, k) = zev zk_X6_freePoints (34, [a0, zk1 a1, some (Sum.inl (Value.int (x + (1))))], st, s, k) := zev_go rfl rfl
theorem zr_X6_freePoints_34 (ls : zLs) (st : List zAV) (s : zAS) (k : Nat × Nat) : zev zk_X6_freePoints (34, ls, st, s, k) = zev zk_X6_freePoints (4, ls, st, s, k) := zev_go rfl rfl
theorem zr_X6_freePoints_37 (a0 a2 : Option zAV) (st : List zAV) (s : zAS) (k : Nat × Nat) (x : Int32) : zev zk_X6_freePoints (37, [a0, some (Sum.inl (Value.int x)), a2], st, s, k) = zev zk_X6_freePoints (38, [a0, some (Sum.inl (Value.int x)), a2], Sum.inl (Value.int x) :: st, s, k) := zev_go rfl rfl
theorem zr_X6_freePoints_38 (ls : zLs) (s : zAS) (k : Nat × Nat) (x : Int32) : zev zk_X6_freePoints (38, ls, [Sum.inl (Value.int x)], s, k) = some (.inl (some (Sum.inl (Value.int x))), s) := zf_reti rfl
/-! X6_lackingOnes: PrimePlane$Row.lackingOnes()I -/
abbrev zR_X6_lackingOnes : Room := ({ frames := 1, cells := 0, slots := 0, locals := 22 } : Room)
noncomputable def zl_X6_lackingOnes : List (Nat × zOp) := [(0, z_ic (0) 1), (1, z_sti 1 2), (2, z_ic (0) 3), (3, z_sti 2 4), (4, z_ldi 2 5), (5, z_lda 0 6), (6, z_get zEC 6 2 9), (9, z_cmp (fun x y => decide (y ≤ x)) 37 12), (12, z_ldi 1 13), (13, z_lda 0 14), (14, z_ldi 2 15), (15, z_callV zEC 6 m_X6_at 1 0 0 (zR_X6_lackingOnes).cells (zR_X6_lackingOnes).slots 18), (18, z_get zEC 4 7 21), (21, z_if (fun x => decide (x = 0)) 28 24), (24, z_ic (1) 25), (25, z_goto 29), (28, z_ic (0) 29), (29, z_bin (fun x y => x + y) 30), (30, z_sti 1 31), (31, z_iinc 2 (1) 34), (34, z_goto 4), (37, z_ldi 1 38), (38, z_reti false)]
noncomputable def zk_X6_lackingOnes (pc : Nat) : Option zOp := zlook zl_X6_lackingOnes pc
noncomputable def m_X6_lackingOnes : List zAV → zAS → Option zOut := zmeth zk_X6_lackingOnes 3
set_option maxRecDepth 100000 in
set_option maxHeartbeats 4000000 in
theorem zcs_X6_lackingOnes {R : Room} (hR : R = zR_X6_lackingOnes) : ∀ q ∈ zl_X6_lackingOnes, zS zEC yX6_lackingOnes.cls cX6_lackingOnes 3 wsX6_lackingOnes (some .int) R q.1 q.2 := by
  subst hR
  have hin4 : ∀ w ∈ wsX40, w ∈ wsX6_lackingOnes := fun w h => List.mem_cons_of_mem _ (List.mem_append_right _ h)
  have hin6 : ∀ w ∈ wsX60, w ∈ wsX6_lackingOnes := fun w h => List.mem_cons_of_mem _ (List.mem_append_left _ (List.mem_append_right _ h))
  refine List.forall_mem_cons.mpr ⟨zs_iconst dX6_lackingOnes_0 (by decide), ?_⟩
  refine List.forall_mem_cons.mpr ⟨zs_istore_n dX6_lackingOnes_1 rfl, ?_⟩
  refine List.forall_mem_cons.mpr ⟨zs_iconst dX6_lackingOnes_2 (by decide), ?_⟩
  refine List.forall_mem_cons.mpr ⟨zs_istore_n dX6_lackingOnes_3 rfl, ?_⟩
  refine List.forall_mem_cons.mpr ⟨zs_iload_n dX6_lackingOnes_4 rfl, ?_⟩
  refine List.forall_mem_cons.mpr ⟨zs_aload_n dX6_lackingOnes_5 rfl, ?_⟩
  refine List.forall_mem_cons.mpr ⟨zs_get (ci := 6) (j := 2) (N := 3) (C := RX6) (T := TX6) (index := 24) rfl (by decide) hin6 (List.mem_of_getElem? (i := 1) rfl) dX6_lackingOnes_6, ?_⟩
  refine List.forall_mem_cons.mpr ⟨zs_icge dX6_lackingOnes_9 (by decide), ?_⟩
  refine List.forall_mem_cons.mpr ⟨zs_iload_n dX6_lackingOnes_12 rfl, ?_⟩
  refine List.forall_mem_cons.mpr ⟨zs_aload_n dX6_lackingOnes_13 rfl, ?_⟩
  refine List.forall_mem_cons.mpr ⟨zs_iload_n dX6_lackingOnes_14 rfl, ?_⟩
  refine List.forall_mem_cons.mpr ⟨zs_callV (ci := 6) (rm := zR_X6_at) (n := 1) rfl zM_X6_at gX6_lackingOnes_X6_at rfl (by decide +kernel) ⟨by decide, by decide⟩ dX6_lackingOnes_15, ?_⟩
  refine List.forall_mem_cons.mpr ⟨zs_get (ci := 4) (j := 7) (N := 13) (C := RX4) (T := TX4) (index := 35) rfl (by decide) hin4 (List.mem_of_getElem? (i := 2) rfl) dX6_lackingOnes_18, ?_⟩
  refine List.forall_mem_cons.mpr ⟨zs_ifeq dX6_lackingOnes_21 (by decide), ?_⟩
  refine List.forall_mem_cons.mpr ⟨zs_iconst dX6_lackingOnes_24 (by decide), ?_⟩
  refine List.forall_mem_cons.mpr ⟨zs_goto dX6_lackingOnes_25 (by decide), ?_⟩
  refine List.forall_mem_cons.mpr ⟨zs_iconst dX6_lackingOnes_28 (by decide), ?_⟩
  refine List.forall_mem_cons.mpr ⟨zs_iadd dX6_lackingOnes_29, ?_⟩
  refine List.forall_mem_cons.mpr ⟨zs_istore_n dX6_lackingOnes_30 rfl, ?_⟩
  refine List.forall_mem_cons.mpr ⟨zs_iinc dX6_lackingOnes_31 (by decide), ?_⟩
  refine List.forall_mem_cons.mpr ⟨zs_goto dX6_lackingOnes_34 (by decide), ?_⟩
  refine List.forall_mem_cons.mpr ⟨zs_iload_n dX6_lackingOnes_37 rfl, ?_⟩
  refine List.forall_mem_cons.mpr ⟨zs_reti (ty := .int) rfl (fun x h => (zni x h).1) dX6_lackingOnes_38, ?_⟩
  exact fun _ h => absurd h List.not_mem_nil
theorem zM_X6_lackingOnes : zMeets zEC yX6_lackingOnes wsX6_lackingOnes zR_X6_lackingOnes m_X6_lackingOnes := zmeth_M zECok (zlook_all (zcs_X6_lackingOnes rfl)) (by decide +kernel) rfl
theorem zr_X6_lackingOnes_0 (ls : zLs) (st : List zAV) (s : zAS) (k : Nat × Nat) : zev zk_X6_lackingOnes (0, ls, st, s, k) = zev zk_X6_lackingOnes (1, ls, Sum.inl (Value.int (0)) :: st, s, k) := zev_go rfl rfl
theorem zr_X6_lackingOnes_1 (a0 a1 a2 : Option zAV) (st : List zAV) (s : zAS) (k : Nat × Nat) (x : Int32) : zev zk_X6_lackingOnes (1, [a0, a1, a2], Sum.inl (Value.int x) :: st, s, k) = zev zk_X6_lackingOnes (2, [zk1 a0, some (Sum.inl (Value.int x)), a2], st, s, k) := zev_go rfl rfl
theorem zr_X6_lackingOnes_2 (ls : zLs) (st : List zAV) (s : zAS) (k : Nat × Nat) : zev zk_X6_lackingOnes (2, ls, st, s, k) = zev zk_X6_lackingOnes (3, ls, Sum.inl (Value.int (0)) :: st, s, k) := zev_go rfl rfl
theorem zr_X6_lackingOnes_3 (a0 a1 a2 : Option zAV) (st : List zAV) (s : zAS) (k : Nat × Nat) (x : Int32) : zev zk_X6_lackingOnes (3, [a0, a1, a2], Sum.inl (Value.int x) :: st, s, k) = zev zk_X6_lackingOnes (4, [a0, zk1 a1, some (Sum.inl (Value.int x))], st, s, k) := zev_go rfl rfl
theorem zr_X6_lackingOnes_4 (a0 a1 : Option zAV) (st : List zAV) (s : zAS) (k : Nat × Nat) (x : Int32) : zev zk_X6_lackingOnes (4, [a0, a1, some (Sum.inl (Value.int x))], st, s, k) = zev zk_X6_lackingOnes (5, [a0, a1, some (Sum.inl (Value.int x))], Sum.inl (Value.int x) :: st, s, k) := zev_go rfl rfl
theorem zr_X6_lackingOnes_5 (a1 a2 : Option zAV) (st : List zAV) (s : zAS) (k : Nat × Nat) (o : Nat × Nat) : zev zk_X6_lackingOnes (5, [some (Sum.inr o), a1, a2], st, s, k) = zev zk_X6_lackingOnes (6, [some (Sum.inr o), a1, a2], Sum.inr o :: st, s, k) := zev_go rfl rfl
theorem zr_X6_lackingOnes_6 (ls : zLs) (st : List zAV) (s : zAS) (k : Nat × Nat) (o i : Nat) : zev zk_X6_lackingOnes (6, ls, Sum.inr (o, i) :: st, s, k) = zpush zk_X6_lackingOnes 9 ls st s k (zgv zEC 6 2 o i s.1) := zf_get rfl
theorem zr_X6_lackingOnes_9 (ls : zLs) (st : List zAV) (s : zAS) (k : Nat × Nat) (x y : Int32) : zev zk_X6_lackingOnes (9, ls, Sum.inl (Value.int y) :: Sum.inl (Value.int x) :: st, s, k) = if decide (y ≤ x) = true then zev zk_X6_lackingOnes (37, ls, st, s, k) else zev zk_X6_lackingOnes (12, ls, st, s, k) := zf_cmp (f := fun x y => decide (y ≤ x)) rfl
theorem zr_X6_lackingOnes_12 (a0 a2 : Option zAV) (st : List zAV) (s : zAS) (k : Nat × Nat) (x : Int32) : zev zk_X6_lackingOnes (12, [a0, some (Sum.inl (Value.int x)), a2], st, s, k) = zev zk_X6_lackingOnes (13, [a0, some (Sum.inl (Value.int x)), a2], Sum.inl (Value.int x) :: st, s, k) := zev_go rfl rfl
theorem zr_X6_lackingOnes_13 (a1 a2 : Option zAV) (st : List zAV) (s : zAS) (k : Nat × Nat) (o : Nat × Nat) : zev zk_X6_lackingOnes (13, [some (Sum.inr o), a1, a2], st, s, k) = zev zk_X6_lackingOnes (14, [some (Sum.inr o), a1, a2], Sum.inr o :: st, s, k) := zev_go rfl rfl
theorem zr_X6_lackingOnes_14 (a0 a1 : Option zAV) (st : List zAV) (s : zAS) (k : Nat × Nat) (x : Int32) : zev zk_X6_lackingOnes (14, [a0, a1, some (Sum.inl (Value.int x))], st, s, k) = zev zk_X6_lackingOnes (15, [a0, a1, some (Sum.inl (Value.int x))], Sum.inl (Value.int x) :: st, s, k) := zev_go rfl rfl
theorem zr_X6_lackingOnes_15 (ls : zLs) (st : List zAV) (s : zAS) (k : Nat × Nat) (r v0 : zAV) (h : zcok zEC 6 0 0 (zR_X6_lackingOnes).cells (zR_X6_lackingOnes).slots r st k) : zev zk_X6_lackingOnes (15, ls, v0 :: r :: st, s, k) = zret zk_X6_lackingOnes 18 ls st (k.1 + 0, k.2 + 0) (m_X6_at [r, v0] s) := zf_callV (as := [v0]) 1 rfl rfl h
theorem zr_X6_lackingOnes_18 (ls : zLs) (st : List zAV) (s : zAS) (k : Nat × Nat) (o i : Nat) : zev zk_X6_lackingOnes (18, ls, Sum.inr (o, i) :: st, s, k) = zpush zk_X6_lackingOnes 21 ls st s k (zgv zEC 4 7 o i s.1) := zf_get rfl
theorem zr_X6_lackingOnes_21 (ls : zLs) (st : List zAV) (s : zAS) (k : Nat × Nat) (x : Int32) : zev zk_X6_lackingOnes (21, ls, Sum.inl (Value.int x) :: st, s, k) = if decide (x = 0) = true then zev zk_X6_lackingOnes (28, ls, st, s, k) else zev zk_X6_lackingOnes (24, ls, st, s, k) := zf_if (f := fun x => decide (x = 0)) rfl
theorem zr_X6_lackingOnes_24 (ls : zLs) (st : List zAV) (s : zAS) (k : Nat × Nat) : zev zk_X6_lackingOnes (24, ls, st, s, k) = zev zk_X6_lackingOnes (25, ls, Sum.inl (Value.int (1)) :: st, s, k) := zev_go rfl rfl
theorem zr_X6_lackingOnes_25 (ls : zLs) (st : List zAV) (s : zAS) (k : Nat × Nat) : zev zk_X6_lackingOnes (25, ls, st, s, k) = zev zk_X6_lackingOnes (29, ls, st, s, k) := zev_go rfl rfl
theorem zr_X6_lackingOnes_28 (ls : zLs) (st : List zAV) (s : zAS) (k : Nat × Nat) : zev zk_X6_lackingOnes (28, ls, st, s, k) = zev zk_X6_lackingOnes (29, ls, Sum.inl (Value.int (0)) :: st, s, k) := zev_go rfl rfl
theorem zr_X6_lackingOnes_29 (ls : zLs) (st : List zAV) (s : zAS) (k : Nat × Nat) (x y : Int32) : zev zk_X6_lackingOnes (29, ls, Sum.inl (Value.int y) :: Sum.inl (Value.int x) :: st, s, k) = zev zk_X6_lackingOnes (30, ls, Sum.inl (Value.int (x + y)) :: st, s, k) := zev_go rfl rfl
theorem zr_X6_lackingOnes_30 (a0 a1 a2 : Option zAV) (st : List zAV) (s : zAS) (k : Nat × Nat) (x : Int32) : zev zk_X6_lackingOnes (30, [a0, a1, a2], Sum.inl (Value.int x) :: st, s, k) = zev zk_X6_lackingOnes (31, [zk1 a0, some (Sum.inl (Value.int x)), a2], st, s, k) := zev_go rfl rfl
theorem zr_X6_lackingOnes_31 (a0 a1 : Option zAV) (st : List zAV) (s : zAS) (k : Nat × Nat) (x : Int32) : zev zk_X6_lackingOnes (31, [a0, a1, some (Sum.inl (Value.int x))], st, s, k) = zev zk_X6_lackingOnes (34, [a0, zk1 a1, some (Sum.inl (Value.int (x + (1))))], st, s, k) := zev_go rfl rfl
theorem zr_X6_lackingOnes_34 (ls : zLs) (st : List zAV) (s : zAS) (k : Nat × Nat) : zev zk_X6_lackingOnes (34, ls, st, s, k) = zev zk_X6_lackingOnes (4, ls, st, s, k) := zev_go rfl rfl
theorem zr_X6_lackingOnes_37 (a0 a2 : Option zAV) (st : List zAV) (s : zAS) (k : Nat × Nat) (x : Int32) : zev zk_X6_lackingOnes (37, [a0, some (Sum.inl (Value.int x)), a2], st, s, k) = zev zk_X6_lackingOnes (38, [a0, some (Sum.inl (Value.int x)), a2], Sum.inl (Value.int x) :: st, s, k) := zev_go rfl rfl
theorem zr_X6_lackingOnes_38 (ls : zLs) (s : zAS) (k : Nat × Nat) (x : Int32) : zev zk_X6_lackingOnes (38, ls, [Sum.inl (Value.int x)], s, k) = some (.inl (some (Sum.inl (Value.int x))), s) := zf_reti rfl
/-! X6_markFollowers: PrimePlane$Row.markFollowers(LPrimePlane$Figure;)V -/
abbrev zR_X6_markFollowers : Room := ({ frames := 1, cells := 0, slots := 0, locals := 22 } : Room)
noncomputable def zl_X6_markFollowers : List (Nat × zOp) := [(0, z_ic (0) 1), (1, z_sti 2 2), (2, z_ldi 2 3), (3, z_lda 0 4), (4, z_get zEC 6 2 7), (7, z_cmp (fun x y => decide (y ≤ x)) 81 10), (10, z_lda 0 11), (11, z_ldi 2 12), (12, z_callV zEC 6 m_X6_at 1 0 0 (zR_X6_markFollowers).cells (zR_X6_markFollowers).slots 15), (15, z_sta 3 16), (16, z_lda 3 17), (17, z_ldi 2 18), (18, z_lda 1 19), (19, z_get zEC 4 0 22), (22, z_cmp (fun x y => decide (x = y)) 67 25), (25, z_lda 0 26), (26, z_lda 3 27), (27, z_get zEC 4 2 30), (30, z_callV zEC 6 m_X6_at 1 0 0 (zR_X6_markFollowers).cells (zR_X6_markFollowers).slots 33), (33, z_get zEC 4 11 36), (36, z_if (fun x => decide (¬ x = 0)) 67 39), (39, z_lda 0 40), (40, z_lda 3 41), (41, z_get zEC 4 3 44), (44, z_callV zEC 6 m_X6_at 1 0 0 (zR_X6_markFollowers).cells (zR_X6_markFollowers).slots 47), (47, z_get zEC 4 11 50), (50, z_if (fun x => decide (¬ x = 0)) 67 53), (53, z_lda 0 54), (54, z_lda 3 55), (55, z_get zEC 4 4 58), (58, z_callV zEC 6 m_X6_at 1 0 0 (zR_X6_markFollowers).cells (zR_X6_markFollowers).slots 61), (61, z_get zEC 4 11 64), (64, z_if (fun x => decide (x = 0)) 71 67), (67, z_ic (1) 68), (68, z_goto 72), (71, z_ic (0) 72), (72, z_put zEC 4 11 true 75), (75, z_iinc 2 (1) 78), (78, z_goto 2), (81, z_retv)]
noncomputable def zk_X6_markFollowers (pc : Nat) : Option zOp := zlook zl_X6_markFollowers pc
noncomputable def m_X6_markFollowers : List zAV → zAS → Option zOut := zmeth zk_X6_markFollowers 4
set_option maxRecDepth 100000 in
set_option maxHeartbeats 4000000 in
theorem zcs_X6_markFollowers {R : Room} (hR : R = zR_X6_markFollowers) : ∀ q ∈ zl_X6_markFollowers, zS zEC yX6_markFollowers.cls cX6_markFollowers 4 wsX6_markFollowers none R q.1 q.2 := by
  subst hR
  have hin4 : ∀ w ∈ wsX40, w ∈ wsX6_markFollowers := fun w h => List.mem_cons_of_mem _ (List.mem_append_right _ h)
  have hin6 : ∀ w ∈ wsX60, w ∈ wsX6_markFollowers := fun w h => List.mem_cons_of_mem _ (List.mem_append_left _ (List.mem_append_right _ h))
  refine List.forall_mem_cons.mpr ⟨zs_iconst dX6_markFollowers_0 (by decide), ?_⟩
  refine List.forall_mem_cons.mpr ⟨zs_istore_n dX6_markFollowers_1 rfl, ?_⟩
  refine List.forall_mem_cons.mpr ⟨zs_iload_n dX6_markFollowers_2 rfl, ?_⟩
  refine List.forall_mem_cons.mpr ⟨zs_aload_n dX6_markFollowers_3 rfl, ?_⟩
  refine List.forall_mem_cons.mpr ⟨zs_get (ci := 6) (j := 2) (N := 3) (C := RX6) (T := TX6) (index := 24) rfl (by decide) hin6 (List.mem_of_getElem? (i := 1) rfl) dX6_markFollowers_4, ?_⟩
  refine List.forall_mem_cons.mpr ⟨zs_icge dX6_markFollowers_7 (by decide), ?_⟩
  refine List.forall_mem_cons.mpr ⟨zs_aload_n dX6_markFollowers_10 rfl, ?_⟩
  refine List.forall_mem_cons.mpr ⟨zs_iload_n dX6_markFollowers_11 rfl, ?_⟩
  refine List.forall_mem_cons.mpr ⟨zs_callV (ci := 6) (rm := zR_X6_at) (n := 1) rfl zM_X6_at gX6_markFollowers_X6_at rfl (by decide +kernel) ⟨by decide, by decide⟩ dX6_markFollowers_12, ?_⟩
  refine List.forall_mem_cons.mpr ⟨zs_astore_n dX6_markFollowers_15 rfl, ?_⟩
  refine List.forall_mem_cons.mpr ⟨zs_aload_n dX6_markFollowers_16 rfl, ?_⟩
  refine List.forall_mem_cons.mpr ⟨zs_iload_n dX6_markFollowers_17 rfl, ?_⟩
  refine List.forall_mem_cons.mpr ⟨zs_aload_n dX6_markFollowers_18 rfl, ?_⟩
  refine List.forall_mem_cons.mpr ⟨zs_get (ci := 4) (j := 0) (N := 13) (C := RX4) (T := TX4) (index := 39) rfl (by decide) hin4 (List.mem_of_getElem? (i := 2) rfl) dX6_markFollowers_19, ?_⟩
  refine List.forall_mem_cons.mpr ⟨zs_iceq dX6_markFollowers_22 (by decide), ?_⟩
  refine List.forall_mem_cons.mpr ⟨zs_aload_n dX6_markFollowers_25 rfl, ?_⟩
  refine List.forall_mem_cons.mpr ⟨zs_aload_n dX6_markFollowers_26 rfl, ?_⟩
  refine List.forall_mem_cons.mpr ⟨zs_get (ci := 4) (j := 2) (N := 13) (C := RX4) (T := TX4) (index := 42) rfl (by decide) hin4 (List.mem_of_getElem? (i := 3) rfl) dX6_markFollowers_27, ?_⟩
  refine List.forall_mem_cons.mpr ⟨zs_callV (ci := 6) (rm := zR_X6_at) (n := 1) rfl zM_X6_at gX6_markFollowers_X6_at rfl (by decide +kernel) ⟨by decide, by decide⟩ dX6_markFollowers_30, ?_⟩
  refine List.forall_mem_cons.mpr ⟨zs_get (ci := 4) (j := 11) (N := 13) (C := RX4) (T := TX4) (index := 45) rfl (by decide) hin4 (List.mem_of_getElem? (i := 4) rfl) dX6_markFollowers_33, ?_⟩
  refine List.forall_mem_cons.mpr ⟨zs_ifne dX6_markFollowers_36 (by decide), ?_⟩
  refine List.forall_mem_cons.mpr ⟨zs_aload_n dX6_markFollowers_39 rfl, ?_⟩
  refine List.forall_mem_cons.mpr ⟨zs_aload_n dX6_markFollowers_40 rfl, ?_⟩
  refine List.forall_mem_cons.mpr ⟨zs_get (ci := 4) (j := 3) (N := 13) (C := RX4) (T := TX4) (index := 48) rfl (by decide) hin4 (List.mem_of_getElem? (i := 5) rfl) dX6_markFollowers_41, ?_⟩
  refine List.forall_mem_cons.mpr ⟨zs_callV (ci := 6) (rm := zR_X6_at) (n := 1) rfl zM_X6_at gX6_markFollowers_X6_at rfl (by decide +kernel) ⟨by decide, by decide⟩ dX6_markFollowers_44, ?_⟩
  refine List.forall_mem_cons.mpr ⟨zs_get (ci := 4) (j := 11) (N := 13) (C := RX4) (T := TX4) (index := 45) rfl (by decide) hin4 (List.mem_of_getElem? (i := 4) rfl) dX6_markFollowers_47, ?_⟩
  refine List.forall_mem_cons.mpr ⟨zs_ifne dX6_markFollowers_50 (by decide), ?_⟩
  refine List.forall_mem_cons.mpr ⟨zs_aload_n dX6_markFollowers_53 rfl, ?_⟩
  refine List.forall_mem_cons.mpr ⟨zs_aload_n dX6_markFollowers_54 rfl, ?_⟩
  refine List.forall_mem_cons.mpr ⟨zs_get (ci := 4) (j := 4) (N := 13) (C := RX4) (T := TX4) (index := 51) rfl (by decide) hin4 (List.mem_of_getElem? (i := 6) rfl) dX6_markFollowers_55, ?_⟩
  refine List.forall_mem_cons.mpr ⟨zs_callV (ci := 6) (rm := zR_X6_at) (n := 1) rfl zM_X6_at gX6_markFollowers_X6_at rfl (by decide +kernel) ⟨by decide, by decide⟩ dX6_markFollowers_58, ?_⟩
  refine List.forall_mem_cons.mpr ⟨zs_get (ci := 4) (j := 11) (N := 13) (C := RX4) (T := TX4) (index := 45) rfl (by decide) hin4 (List.mem_of_getElem? (i := 4) rfl) dX6_markFollowers_61, ?_⟩
  refine List.forall_mem_cons.mpr ⟨zs_ifeq dX6_markFollowers_64 (by decide), ?_⟩
  refine List.forall_mem_cons.mpr ⟨zs_iconst dX6_markFollowers_67 (by decide), ?_⟩
  refine List.forall_mem_cons.mpr ⟨zs_goto dX6_markFollowers_68 (by decide), ?_⟩
  refine List.forall_mem_cons.mpr ⟨zs_iconst dX6_markFollowers_71 (by decide), ?_⟩
  refine List.forall_mem_cons.mpr ⟨zs_put (ci := 4) (j := 11) (N := 13) (C := RX4) (T := TX4) (index := 45) (b := true) .boolean tyX4 rfl (by decide) hin4 tyX4_ok nmX4 (List.mem_of_getElem? (i := 4) rfl) rfl (by decide +kernel) znz dX6_markFollowers_72, ?_⟩
  refine List.forall_mem_cons.mpr ⟨zs_iinc dX6_markFollowers_75 (by decide), ?_⟩
  refine List.forall_mem_cons.mpr ⟨zs_goto dX6_markFollowers_78 (by decide), ?_⟩
  refine List.forall_mem_cons.mpr ⟨zs_retv rfl dX6_markFollowers_81, ?_⟩
  exact fun _ h => absurd h List.not_mem_nil
theorem zM_X6_markFollowers : zMeets zEC yX6_markFollowers wsX6_markFollowers zR_X6_markFollowers m_X6_markFollowers := zmeth_M zECok (zlook_all (zcs_X6_markFollowers rfl)) (by decide +kernel) rfl
theorem zr_X6_markFollowers_0 (ls : zLs) (st : List zAV) (s : zAS) (k : Nat × Nat) : zev zk_X6_markFollowers (0, ls, st, s, k) = zev zk_X6_markFollowers (1, ls, Sum.inl (Value.int (0)) :: st, s, k) := zev_go rfl rfl
theorem zr_X6_markFollowers_1 (a0 a1 a2 a3 : Option zAV) (st : List zAV) (s : zAS) (k : Nat × Nat) (x : Int32) : zev zk_X6_markFollowers (1, [a0, a1, a2, a3], Sum.inl (Value.int x) :: st, s, k) = zev zk_X6_markFollowers (2, [a0, zk1 a1, some (Sum.inl (Value.int x)), a3], st, s, k) := zev_go rfl rfl
theorem zr_X6_markFollowers_2 (a0 a1 a3 : Option zAV) (st : List zAV) (s : zAS) (k : Nat × Nat) (x : Int32) : zev zk_X6_markFollowers (2, [a0, a1, some (Sum.inl (Value.int x)), a3], st, s, k) = zev zk_X6_markFollowers (3, [a0, a1, some (Sum.inl (Value.int x)), a3], Sum.inl (Value.int x) :: st, s, k) := zev_go rfl rfl
theorem zr_X6_markFollowers_3 (a1 a2 a3 : Option zAV) (st : List zAV) (s : zAS) (k : Nat × Nat) (o : Nat × Nat) : zev zk_X6_markFollowers (3, [some (Sum.inr o), a1, a2, a3], st, s, k) = zev zk_X6_markFollowers (4, [some (Sum.inr o), a1, a2, a3], Sum.inr o :: st, s, k) := zev_go rfl rfl
theorem zr_X6_markFollowers_4 (ls : zLs) (st : List zAV) (s : zAS) (k : Nat × Nat) (o i : Nat) : zev zk_X6_markFollowers (4, ls, Sum.inr (o, i) :: st, s, k) = zpush zk_X6_markFollowers 7 ls st s k (zgv zEC 6 2 o i s.1) := zf_get rfl
theorem zr_X6_markFollowers_7 (ls : zLs) (st : List zAV) (s : zAS) (k : Nat × Nat) (x y : Int32) : zev zk_X6_markFollowers (7, ls, Sum.inl (Value.int y) :: Sum.inl (Value.int x) :: st, s, k) = if decide (y ≤ x) = true then zev zk_X6_markFollowers (81, ls, st, s, k) else zev zk_X6_markFollowers (10, ls, st, s, k) := zf_cmp (f := fun x y => decide (y ≤ x)) rfl
theorem zr_X6_markFollowers_10 (a1 a2 a3 : Option zAV) (st : List zAV) (s : zAS) (k : Nat × Nat) (o : Nat × Nat) : zev zk_X6_markFollowers (10, [some (Sum.inr o), a1, a2, a3], st, s, k) = zev zk_X6_markFollowers (11, [some (Sum.inr o), a1, a2, a3], Sum.inr o :: st, s, k) := zev_go rfl rfl
theorem zr_X6_markFollowers_11 (a0 a1 a3 : Option zAV) (st : List zAV) (s : zAS) (k : Nat × Nat) (x : Int32) : zev zk_X6_markFollowers (11, [a0, a1, some (Sum.inl (Value.int x)), a3], st, s, k) = zev zk_X6_markFollowers (12, [a0, a1, some (Sum.inl (Value.int x)), a3], Sum.inl (Value.int x) :: st, s, k) := zev_go rfl rfl
theorem zr_X6_markFollowers_12 (ls : zLs) (st : List zAV) (s : zAS) (k : Nat × Nat) (r v0 : zAV) (h : zcok zEC 6 0 0 (zR_X6_markFollowers).cells (zR_X6_markFollowers).slots r st k) : zev zk_X6_markFollowers (12, ls, v0 :: r :: st, s, k) = zret zk_X6_markFollowers 15 ls st (k.1 + 0, k.2 + 0) (m_X6_at [r, v0] s) := zf_callV (as := [v0]) 1 rfl rfl h
theorem zr_X6_markFollowers_15 (a0 a1 a2 a3 : Option zAV) (st : List zAV) (s : zAS) (k : Nat × Nat) (o : Nat × Nat) : zev zk_X6_markFollowers (15, [a0, a1, a2, a3], Sum.inr o :: st, s, k) = zev zk_X6_markFollowers (16, [a0, a1, zk1 a2, some (Sum.inr o)], st, s, k) := zev_go rfl rfl
theorem zr_X6_markFollowers_16 (a0 a1 a2 : Option zAV) (st : List zAV) (s : zAS) (k : Nat × Nat) (o : Nat × Nat) : zev zk_X6_markFollowers (16, [a0, a1, a2, some (Sum.inr o)], st, s, k) = zev zk_X6_markFollowers (17, [a0, a1, a2, some (Sum.inr o)], Sum.inr o :: st, s, k) := zev_go rfl rfl
theorem zr_X6_markFollowers_17 (a0 a1 a3 : Option zAV) (st : List zAV) (s : zAS) (k : Nat × Nat) (x : Int32) : zev zk_X6_markFollowers (17, [a0, a1, some (Sum.inl (Value.int x)), a3], st, s, k) = zev zk_X6_markFollowers (18, [a0, a1, some (Sum.inl (Value.int x)), a3], Sum.inl (Value.int x) :: st, s, k) := zev_go rfl rfl
theorem zr_X6_markFollowers_18 (a0 a2 a3 : Option zAV) (st : List zAV) (s : zAS) (k : Nat × Nat) (o : Nat × Nat) : zev zk_X6_markFollowers (18, [a0, some (Sum.inr o), a2, a3], st, s, k) = zev zk_X6_markFollowers (19, [a0, some (Sum.inr o), a2, a3], Sum.inr o :: st, s, k) := zev_go rfl rfl
theorem zr_X6_markFollowers_19 (ls : zLs) (st : List zAV) (s : zAS) (k : Nat × Nat) (o i : Nat) : zev zk_X6_markFollowers (19, ls, Sum.inr (o, i) :: st, s, k) = zpush zk_X6_markFollowers 22 ls st s k (zgv zEC 4 0 o i s.1) := zf_get rfl
theorem zr_X6_markFollowers_22 (ls : zLs) (st : List zAV) (s : zAS) (k : Nat × Nat) (x y : Int32) : zev zk_X6_markFollowers (22, ls, Sum.inl (Value.int y) :: Sum.inl (Value.int x) :: st, s, k) = if decide (x = y) = true then zev zk_X6_markFollowers (67, ls, st, s, k) else zev zk_X6_markFollowers (25, ls, st, s, k) := zf_cmp (f := fun x y => decide (x = y)) rfl
theorem zr_X6_markFollowers_25 (a1 a2 a3 : Option zAV) (st : List zAV) (s : zAS) (k : Nat × Nat) (o : Nat × Nat) : zev zk_X6_markFollowers (25, [some (Sum.inr o), a1, a2, a3], st, s, k) = zev zk_X6_markFollowers (26, [some (Sum.inr o), a1, a2, a3], Sum.inr o :: st, s, k) := zev_go rfl rfl
theorem zr_X6_markFollowers_26 (a0 a1 a2 : Option zAV) (st : List zAV) (s : zAS) (k : Nat × Nat) (o : Nat × Nat) : zev zk_X6_markFollowers (26, [a0, a1, a2, some (Sum.inr o)], st, s, k) = zev zk_X6_markFollowers (27, [a0, a1, a2, some (Sum.inr o)], Sum.inr o :: st, s, k) := zev_go rfl rfl
theorem zr_X6_markFollowers_27 (ls : zLs) (st : List zAV) (s : zAS) (k : Nat × Nat) (o i : Nat) : zev zk_X6_markFollowers (27, ls, Sum.inr (o, i) :: st, s, k) = zpush zk_X6_markFollowers 30 ls st s k (zgv zEC 4 2 o i s.1) := zf_get rfl
theorem zr_X6_markFollowers_30 (ls : zLs) (st : List zAV) (s : zAS) (k : Nat × Nat) (r v0 : zAV) (h : zcok zEC 6 0 0 (zR_X6_markFollowers).cells (zR_X6_markFollowers).slots r st k) : zev zk_X6_markFollowers (30, ls, v0 :: r :: st, s, k) = zret zk_X6_markFollowers 33 ls st (k.1 + 0, k.2 + 0) (m_X6_at [r, v0] s) := zf_callV (as := [v0]) 1 rfl rfl h
theorem zr_X6_markFollowers_33 (ls : zLs) (st : List zAV) (s : zAS) (k : Nat × Nat) (o i : Nat) : zev zk_X6_markFollowers (33, ls, Sum.inr (o, i) :: st, s, k) = zpush zk_X6_markFollowers 36 ls st s k (zgv zEC 4 11 o i s.1) := zf_get rfl
theorem zr_X6_markFollowers_36 (ls : zLs) (st : List zAV) (s : zAS) (k : Nat × Nat) (x : Int32) : zev zk_X6_markFollowers (36, ls, Sum.inl (Value.int x) :: st, s, k) = if decide (¬ x = 0) = true then zev zk_X6_markFollowers (67, ls, st, s, k) else zev zk_X6_markFollowers (39, ls, st, s, k) := zf_if (f := fun x => decide (¬ x = 0)) rfl
theorem zr_X6_markFollowers_39 (a1 a2 a3 : Option zAV) (st : List zAV) (s : zAS) (k : Nat × Nat) (o : Nat × Nat) : zev zk_X6_markFollowers (39, [some (Sum.inr o), a1, a2, a3], st, s, k) = zev zk_X6_markFollowers (40, [some (Sum.inr o), a1, a2, a3], Sum.inr o :: st, s, k) := zev_go rfl rfl
theorem zr_X6_markFollowers_40 (a0 a1 a2 : Option zAV) (st : List zAV) (s : zAS) (k : Nat × Nat) (o : Nat × Nat) : zev zk_X6_markFollowers (40, [a0, a1, a2, some (Sum.inr o)], st, s, k) = zev zk_X6_markFollowers (41, [a0, a1, a2, some (Sum.inr o)], Sum.inr o :: st, s, k) := zev_go rfl rfl
theorem zr_X6_markFollowers_41 (ls : zLs) (st : List zAV) (s : zAS) (k : Nat × Nat) (o i : Nat) : zev zk_X6_markFollowers (41, ls, Sum.inr (o, i) :: st, s, k) = zpush zk_X6_markFollowers 44 ls st s k (zgv zEC 4 3 o i s.1) := zf_get rfl
theorem zr_X6_markFollowers_44 (ls : zLs) (st : List zAV) (s : zAS) (k : Nat × Nat) (r v0 : zAV) (h : zcok zEC 6 0 0 (zR_X6_markFollowers).cells (zR_X6_markFollowers).slots r st k) : zev zk_X6_markFollowers (44, ls, v0 :: r :: st, s, k) = zret zk_X6_markFollowers 47 ls st (k.1 + 0, k.2 + 0) (m_X6_at [r, v0] s) := zf_callV (as := [v0]) 1 rfl rfl h
theorem zr_X6_markFollowers_47 (ls : zLs) (st : List zAV) (s : zAS) (k : Nat × Nat) (o i : Nat) : zev zk_X6_markFollowers (47, ls, Sum.inr (o, i) :: st, s, k) = zpush zk_X6_markFollowers 50 ls st s k (zgv zEC 4 11 o i s.1) := zf_get rfl
theorem zr_X6_markFollowers_50 (ls : zLs) (st : List zAV) (s : zAS) (k : Nat × Nat) (x : Int32) : zev zk_X6_markFollowers (50, ls, Sum.inl (Value.int x) :: st, s, k) = if decide (¬ x = 0) = true then zev zk_X6_markFollowers (67, ls, st, s, k) else zev zk_X6_markFollowers (53, ls, st, s, k) := zf_if (f := fun x => decide (¬ x = 0)) rfl
theorem zr_X6_markFollowers_53 (a1 a2 a3 : Option zAV) (st : List zAV) (s : zAS) (k : Nat × Nat) (o : Nat × Nat) : zev zk_X6_markFollowers (53, [some (Sum.inr o), a1, a2, a3], st, s, k) = zev zk_X6_markFollowers (54, [some (Sum.inr o), a1, a2, a3], Sum.inr o :: st, s, k) := zev_go rfl rfl
theorem zr_X6_markFollowers_54 (a0 a1 a2 : Option zAV) (st : List zAV) (s : zAS) (k : Nat × Nat) (o : Nat × Nat) : zev zk_X6_markFollowers (54, [a0, a1, a2, some (Sum.inr o)], st, s, k) = zev zk_X6_markFollowers (55, [a0, a1, a2, some (Sum.inr o)], Sum.inr o :: st, s, k) := zev_go rfl rfl
theorem zr_X6_markFollowers_55 (ls : zLs) (st : List zAV) (s : zAS) (k : Nat × Nat) (o i : Nat) : zev zk_X6_markFollowers (55, ls, Sum.inr (o, i) :: st, s, k) = zpush zk_X6_markFollowers 58 ls st s k (zgv zEC 4 4 o i s.1) := zf_get rfl
theorem zr_X6_markFollowers_58 (ls : zLs) (st : List zAV) (s : zAS) (k : Nat × Nat) (r v0 : zAV) (h : zcok zEC 6 0 0 (zR_X6_markFollowers).cells (zR_X6_markFollowers).slots r st k) : zev zk_X6_markFollowers (58, ls, v0 :: r :: st, s, k) = zret zk_X6_markFollowers 61 ls st (k.1 + 0, k.2 + 0) (m_X6_at [r, v0] s) := zf_callV (as := [v0]) 1 rfl rfl h
theorem zr_X6_markFollowers_61 (ls : zLs) (st : List zAV) (s : zAS) (k : Nat × Nat) (o i : Nat) : zev zk_X6_markFollowers (61, ls, Sum.inr (o, i) :: st, s, k) = zpush zk_X6_markFollowers 64 ls st s k (zgv zEC 4 11 o i s.1) := zf_get rfl
theorem zr_X6_markFollowers_64 (ls : zLs) (st : List zAV) (s : zAS) (k : Nat × Nat) (x : Int32) : zev zk_X6_markFollowers (64, ls, Sum.inl (Value.int x) :: st, s, k) = if decide (x = 0) = true then zev zk_X6_markFollowers (71, ls, st, s, k) else zev zk_X6_markFollowers (67, ls, st, s, k) := zf_if (f := fun x => decide (x = 0)) rfl
theorem zr_X6_markFollowers_67 (ls : zLs) (st : List zAV) (s : zAS) (k : Nat × Nat) : zev zk_X6_markFollowers (67, ls, st, s, k) = zev zk_X6_markFollowers (68, ls, Sum.inl (Value.int (1)) :: st, s, k) := zev_go rfl rfl
theorem zr_X6_markFollowers_68 (ls : zLs) (st : List zAV) (s : zAS) (k : Nat × Nat) : zev zk_X6_markFollowers (68, ls, st, s, k) = zev zk_X6_markFollowers (72, ls, st, s, k) := zev_go rfl rfl
theorem zr_X6_markFollowers_71 (ls : zLs) (st : List zAV) (s : zAS) (k : Nat × Nat) : zev zk_X6_markFollowers (71, ls, st, s, k) = zev zk_X6_markFollowers (72, ls, Sum.inl (Value.int (0)) :: st, s, k) := zev_go rfl rfl
theorem zr_X6_markFollowers_72 (ls : zLs) (st : List zAV) (s : zAS) (k : Nat × Nat) (o i : Nat) (x : Int32) (h : zpok zEC 4 11 true o i x) : zev zk_X6_markFollowers (72, ls, Sum.inl (Value.int x) :: Sum.inr (o, i) :: st, s, k) = zev zk_X6_markFollowers (75, ls, st, (zup s.1 o i 11 x, s.2), k) := zf_put rfl h
theorem zr_X6_markFollowers_75 (a0 a1 a3 : Option zAV) (st : List zAV) (s : zAS) (k : Nat × Nat) (x : Int32) : zev zk_X6_markFollowers (75, [a0, a1, some (Sum.inl (Value.int x)), a3], st, s, k) = zev zk_X6_markFollowers (78, [a0, zk1 a1, some (Sum.inl (Value.int (x + (1)))), a3], st, s, k) := zev_go rfl rfl
theorem zr_X6_markFollowers_78 (ls : zLs) (st : List zAV) (s : zAS) (k : Nat × Nat) : zev zk_X6_markFollowers (78, ls, st, s, k) = zev zk_X6_markFollowers (2, ls, st, s, k) := zev_go rfl rfl
theorem zr_X6_markFollowers_81 (ls : zLs) (s : zAS) (k : Nat × Nat) : zev zk_X6_markFollowers (81, ls, [], s, k) = some (.inl none, s) := zev_end rfl rfl
/-! X6_setWanted: PrimePlane$Row.setWanted(Z)V -/
abbrev zR_X6_setWanted : Room := ({ frames := 1, cells := 0, slots := 0, locals := 22 } : Room)
noncomputable def zl_X6_setWanted : List (Nat × zOp) := [(0, z_ic (0) 1), (1, z_sti 2 2), (2, z_ldi 2 3), (3, z_lda 0 4), (4, z_get zEC 6 2 7), (7, z_cmp (fun x y => decide (y ≤ x)) 25 10), (10, z_lda 0 11), (11, z_ldi 2 12), (12, z_callV zEC 6 m_X6_at 1 0 0 (zR_X6_setWanted).cells (zR_X6_setWanted).slots 15), (15, z_ldi 1 16), (16, z_put zEC 4 12 true 19), (19, z_iinc 2 (1) 22), (22, z_goto 2), (25, z_retv)]
noncomputable def zk_X6_setWanted (pc : Nat) : Option zOp := zlook zl_X6_setWanted pc
noncomputable def m_X6_setWanted : List zAV → zAS → Option zOut := zmeth zk_X6_setWanted 3
set_option maxRecDepth 100000 in
set_option maxHeartbeats 4000000 in
theorem zcs_X6_setWanted {R : Room} (hR : R = zR_X6_setWanted) : ∀ q ∈ zl_X6_setWanted, zS zEC yX6_setWanted.cls cX6_setWanted 3 wsX6_setWanted none R q.1 q.2 := by
  subst hR
  have hin4 : ∀ w ∈ wsX40, w ∈ wsX6_setWanted := fun w h => List.mem_cons_of_mem _ (List.mem_append_right _ h)
  have hin6 : ∀ w ∈ wsX60, w ∈ wsX6_setWanted := fun w h => List.mem_cons_of_mem _ (List.mem_append_left _ (List.mem_append_right _ h))
  refine List.forall_mem_cons.mpr ⟨zs_iconst dX6_setWanted_0 (by decide), ?_⟩
  refine List.forall_mem_cons.mpr ⟨zs_istore_n dX6_setWanted_1 rfl, ?_⟩
  refine List.forall_mem_cons.mpr ⟨zs_iload_n dX6_setWanted_2 rfl, ?_⟩
  refine List.forall_mem_cons.mpr ⟨zs_aload_n dX6_setWanted_3 rfl, ?_⟩
  refine List.forall_mem_cons.mpr ⟨zs_get (ci := 6) (j := 2) (N := 3) (C := RX6) (T := TX6) (index := 24) rfl (by decide) hin6 (List.mem_of_getElem? (i := 1) rfl) dX6_setWanted_4, ?_⟩
  refine List.forall_mem_cons.mpr ⟨zs_icge dX6_setWanted_7 (by decide), ?_⟩
  refine List.forall_mem_cons.mpr ⟨zs_aload_n dX6_setWanted_10 rfl, ?_⟩
  refine List.forall_mem_cons.mpr ⟨zs_iload_n dX6_setWanted_11 rfl, ?_⟩
  refine List.forall_mem_cons.mpr ⟨zs_callV (ci := 6) (rm := zR_X6_at) (n := 1) rfl zM_X6_at gX6_setWanted_X6_at rfl (by decide +kernel) ⟨by decide, by decide⟩ dX6_setWanted_12, ?_⟩
  refine List.forall_mem_cons.mpr ⟨zs_iload_n dX6_setWanted_15 rfl, ?_⟩
  refine List.forall_mem_cons.mpr ⟨zs_put (ci := 4) (j := 12) (N := 13) (C := RX4) (T := TX4) (index := 58) (b := true) .boolean tyX4 rfl (by decide) hin4 tyX4_ok nmX4 (List.mem_of_getElem? (i := 2) rfl) rfl (by decide +kernel) znz dX6_setWanted_16, ?_⟩
  refine List.forall_mem_cons.mpr ⟨zs_iinc dX6_setWanted_19 (by decide), ?_⟩
  refine List.forall_mem_cons.mpr ⟨zs_goto dX6_setWanted_22 (by decide), ?_⟩
  refine List.forall_mem_cons.mpr ⟨zs_retv rfl dX6_setWanted_25, ?_⟩
  exact fun _ h => absurd h List.not_mem_nil
theorem zM_X6_setWanted : zMeets zEC yX6_setWanted wsX6_setWanted zR_X6_setWanted m_X6_setWanted := zmeth_M zECok (zlook_all (zcs_X6_setWanted rfl)) (by decide +kernel) rfl
theorem zr_X6_setWanted_0 (ls : zLs) (st : List zAV) (s : zAS) (k : Nat × Nat) : zev zk_X6_setWanted (0, ls, st, s, k) = zev zk_X6_setWanted (1, ls, Sum.inl (Value.int (0)) :: st, s, k) := zev_go rfl rfl
theorem zr_X6_setWanted_1 (a0 a1 a2 : Option zAV) (st : List zAV) (s : zAS) (k : Nat × Nat) (x : Int32) : zev zk_X6_setWanted (1, [a0, a1, a2], Sum.inl (Value.int x) :: st, s, k) = zev zk_X6_setWanted (2, [a0, zk1 a1, some (Sum.inl (Value.int x))], st, s, k) := zev_go rfl rfl
theorem zr_X6_setWanted_2 (a0 a1 : Option zAV) (st : List zAV) (s : zAS) (k : Nat × Nat) (x : Int32) : zev zk_X6_setWanted (2, [a0, a1, some (Sum.inl (Value.int x))], st, s, k) = zev zk_X6_setWanted (3, [a0, a1, some (Sum.inl (Value.int x))], Sum.inl (Value.int x) :: st, s, k) := zev_go rfl rfl
theorem zr_X6_setWanted_3 (a1 a2 : Option zAV) (st : List zAV) (s : zAS) (k : Nat × Nat) (o : Nat × Nat) : zev zk_X6_setWanted (3, [some (Sum.inr o), a1, a2], st, s, k) = zev zk_X6_setWanted (4, [some (Sum.inr o), a1, a2], Sum.inr o :: st, s, k) := zev_go rfl rfl
theorem zr_X6_setWanted_4 (ls : zLs) (st : List zAV) (s : zAS) (k : Nat × Nat) (o i : Nat) : zev zk_X6_setWanted (4, ls, Sum.inr (o, i) :: st, s, k) = zpush zk_X6_setWanted 7 ls st s k (zgv zEC 6 2 o i s.1) := zf_get rfl
theorem zr_X6_setWanted_7 (ls : zLs) (st : List zAV) (s : zAS) (k : Nat × Nat) (x y : Int32) : zev zk_X6_setWanted (7, ls, Sum.inl (Value.int y) :: Sum.inl (Value.int x) :: st, s, k) = if decide (y ≤ x) = true then zev zk_X6_setWanted (25, ls, st, s, k) else zev zk_X6_setWanted (10, ls, st, s, k) := zf_cmp (f := fun x y => decide (y ≤ x)) rfl
theorem zr_X6_setWanted_10 (a1 a2 : Option zAV) (st : List zAV) (s : zAS) (k : Nat × Nat) (o : Nat × Nat) : zev zk_X6_setWanted (10, [some (Sum.inr o), a1, a2], st, s, k) = zev zk_X6_setWanted (11, [some (Sum.inr o), a1, a2], Sum.inr o :: st, s, k) := zev_go rfl rfl
theorem zr_X6_setWanted_11 (a0 a1 : Option zAV) (st : List zAV) (s : zAS) (k : Nat × Nat) (x : Int32) : zev zk_X6_setWanted (11, [a0, a1, some (Sum.inl (Value.int x))], st, s, k) = zev zk_X6_setWanted (12, [a0, a1, some (Sum.inl (Value.int x))], Sum.inl (Value.int x) :: st, s, k) := zev_go rfl rfl
theorem zr_X6_setWanted_12 (ls : zLs) (st : List zAV) (s : zAS) (k : Nat × Nat) (r v0 : zAV) (h : zcok zEC 6 0 0 (zR_X6_setWanted).cells (zR_X6_setWanted).slots r st k) : zev zk_X6_setWanted (12, ls, v0 :: r :: st, s, k) = zret zk_X6_setWanted 15 ls st (k.1 + 0, k.2 + 0) (m_X6_at [r, v0] s) := zf_callV (as := [v0]) 1 rfl rfl h
theorem zr_X6_setWanted_15 (a0 a2 : Option zAV) (st : List zAV) (s : zAS) (k : Nat × Nat) (x : Int32) : zev zk_X6_setWanted (15, [a0, some (Sum.inl (Value.int x)), a2], st, s, k) = zev zk_X6_setWanted (16, [a0, some (Sum.inl (Value.int x)), a2], Sum.inl (Value.int x) :: st, s, k) := zev_go rfl rfl
theorem zr_X6_setWanted_16 (ls : zLs) (st : List zAV) (s : zAS) (k : Nat × Nat) (o i : Nat) (x : Int32) (h : zpok zEC 4 12 true o i x) : zev zk_X6_setWanted (16, ls, Sum.inl (Value.int x) :: Sum.inr (o, i) :: st, s, k) = zev zk_X6_setWanted (19, ls, st, (zup s.1 o i 12 x, s.2), k) := zf_put rfl h
theorem zr_X6_setWanted_19 (a0 a1 : Option zAV) (st : List zAV) (s : zAS) (k : Nat × Nat) (x : Int32) : zev zk_X6_setWanted (19, [a0, a1, some (Sum.inl (Value.int x))], st, s, k) = zev zk_X6_setWanted (22, [a0, zk1 a1, some (Sum.inl (Value.int (x + (1))))], st, s, k) := zev_go rfl rfl
theorem zr_X6_setWanted_22 (ls : zLs) (st : List zAV) (s : zAS) (k : Nat × Nat) : zev zk_X6_setWanted (22, ls, st, s, k) = zev zk_X6_setWanted (2, ls, st, s, k) := zev_go rfl rfl
theorem zr_X6_setWanted_25 (ls : zLs) (s : zAS) (k : Nat × Nat) : zev zk_X6_setWanted (25, ls, [], s, k) = some (.inl none, s) := zev_end rfl rfl
/-! X6_wantAll: PrimePlane$Row.wantAll()V -/
abbrev zR_X6_wantAll : Room := ({ frames := 2, cells := 0, slots := 0, locals := 44 } : Room)
noncomputable def zl_X6_wantAll : List (Nat × zOp) := [(0, z_lda 0 1), (1, z_ic (1) 2), (2, z_callV zEC 6 m_X6_setWanted 1 0 0 (zR_X6_wantAll).cells (zR_X6_wantAll).slots 5), (5, z_retv)]
noncomputable def zk_X6_wantAll (pc : Nat) : Option zOp := zlook zl_X6_wantAll pc
noncomputable def m_X6_wantAll : List zAV → zAS → Option zOut := zmeth zk_X6_wantAll 1
set_option maxRecDepth 100000 in
set_option maxHeartbeats 4000000 in
theorem zcs_X6_wantAll {R : Room} (hR : R = zR_X6_wantAll) : ∀ q ∈ zl_X6_wantAll, zS zEC yX6_wantAll.cls cX6_wantAll 1 wsX6_wantAll none R q.1 q.2 := by
  subst hR
  refine List.forall_mem_cons.mpr ⟨zs_aload_n dX6_wantAll_0 rfl, ?_⟩
  refine List.forall_mem_cons.mpr ⟨zs_iconst dX6_wantAll_1 (by decide), ?_⟩
  refine List.forall_mem_cons.mpr ⟨zs_callV (ci := 6) (rm := zR_X6_setWanted) (n := 1) rfl zM_X6_setWanted gX6_wantAll_X6_setWanted rfl (by decide +kernel) ⟨by decide, by decide⟩ dX6_wantAll_2, ?_⟩
  refine List.forall_mem_cons.mpr ⟨zs_retv rfl dX6_wantAll_5, ?_⟩
  exact fun _ h => absurd h List.not_mem_nil
theorem zM_X6_wantAll : zMeets zEC yX6_wantAll wsX6_wantAll zR_X6_wantAll m_X6_wantAll := zmeth_M zECok (zlook_all (zcs_X6_wantAll rfl)) (by decide +kernel) rfl
theorem zr_X6_wantAll_0 (st : List zAV) (s : zAS) (k : Nat × Nat) (o : Nat × Nat) : zev zk_X6_wantAll (0, [some (Sum.inr o)], st, s, k) = zev zk_X6_wantAll (1, [some (Sum.inr o)], Sum.inr o :: st, s, k) := zev_go rfl rfl
theorem zr_X6_wantAll_1 (ls : zLs) (st : List zAV) (s : zAS) (k : Nat × Nat) : zev zk_X6_wantAll (1, ls, st, s, k) = zev zk_X6_wantAll (2, ls, Sum.inl (Value.int (1)) :: st, s, k) := zev_go rfl rfl
theorem zr_X6_wantAll_2 (ls : zLs) (st : List zAV) (s : zAS) (k : Nat × Nat) (r v0 : zAV) (h : zcok zEC 6 0 0 (zR_X6_wantAll).cells (zR_X6_wantAll).slots r st k) : zev zk_X6_wantAll (2, ls, v0 :: r :: st, s, k) = zret zk_X6_wantAll 5 ls st (k.1 + 0, k.2 + 0) (m_X6_setWanted [r, v0] s) := zf_callV (as := [v0]) 1 rfl rfl h
theorem zr_X6_wantAll_5 (ls : zLs) (s : zAS) (k : Nat × Nat) : zev zk_X6_wantAll (5, ls, [], s, k) = some (.inl none, s) := zev_end rfl rfl
/-! X6_wantParents: PrimePlane$Row.wantParents()V -/
abbrev zR_X6_wantParents : Room := ({ frames := 1, cells := 0, slots := 0, locals := 22 } : Room)
noncomputable def zl_X6_wantParents : List (Nat × zOp) := [(0, z_lda 0 1), (1, z_get zEC 6 2 4), (4, z_ic (1) 5), (5, z_bin (fun x y => x - y) 6), (6, z_sti 1 7), (7, z_ldi 1 8), (8, z_if (fun x => decide (x < 0)) 66 11), (11, z_lda 0 12), (12, z_ldi 1 13), (13, z_callV zEC 6 m_X6_at 1 0 0 (zR_X6_wantParents).cells (zR_X6_wantParents).slots 16), (16, z_sta 2 17), (17, z_lda 2 18), (18, z_get zEC 4 12 21), (21, z_if (fun x => decide (x = 0)) 60 24), (24, z_lda 0 25), (25, z_lda 2 26), (26, z_get zEC 4 2 29), (29, z_callV zEC 6 m_X6_at 1 0 0 (zR_X6_wantParents).cells (zR_X6_wantParents).slots 32), (32, z_ic (1) 33), (33, z_put zEC 4 12 true 36), (36, z_lda 0 37), (37, z_lda 2 38), (38, z_get zEC 4 3 41), (41, z_callV zEC 6 m_X6_at 1 0 0 (zR_X6_wantParents).cells (zR_X6_wantParents).slots 44), (44, z_ic (1) 45), (45, z_put zEC 4 12 true 48), (48, z_lda 0 49), (49, z_lda 2 50), (50, z_get zEC 4 4 53), (53, z_callV zEC 6 m_X6_at 1 0 0 (zR_X6_wantParents).cells (zR_X6_wantParents).slots 56), (56, z_ic (1) 57), (57, z_put zEC 4 12 true 60), (60, z_iinc 1 (-1) 63), (63, z_goto 7), (66, z_retv)]
noncomputable def zk_X6_wantParents (pc : Nat) : Option zOp := zlook zl_X6_wantParents pc
noncomputable def m_X6_wantParents : List zAV → zAS → Option zOut := zmeth zk_X6_wantParents 3
set_option maxRecDepth 100000 in
set_option maxHeartbeats 4000000 in
theorem zcs_X6_wantParents {R : Room} (hR : R = zR_X6_wantParents) : ∀ q ∈ zl_X6_wantParents, zS zEC yX6_wantParents.cls cX6_wantParents 3 wsX6_wantParents none R q.1 q.2 := by
  subst hR
  have hin4 : ∀ w ∈ wsX40, w ∈ wsX6_wantParents := fun w h => List.mem_cons_of_mem _ (List.mem_append_right _ h)
  have hin6 : ∀ w ∈ wsX60, w ∈ wsX6_wantParents := fun w h => List.mem_cons_of_mem _ (List.mem_append_left _ (List.mem_append_right _ h))
  refine List.forall_mem_cons.mpr ⟨zs_aload_n dX6_wantParents_0 rfl, ?_⟩
  refine List.forall_mem_cons.mpr ⟨zs_get (ci := 6) (j := 2) (N := 3) (C := RX6) (T := TX6) (index := 24) rfl (by decide) hin6 (List.mem_of_getElem? (i := 1) rfl) dX6_wantParents_1, ?_⟩
  refine List.forall_mem_cons.mpr ⟨zs_iconst dX6_wantParents_4 (by decide), ?_⟩
  refine List.forall_mem_cons.mpr ⟨zs_isub dX6_wantParents_5, ?_⟩
  refine List.forall_mem_cons.mpr ⟨zs_istore_n dX6_wantParents_6 rfl, ?_⟩
  refine List.forall_mem_cons.mpr ⟨zs_iload_n dX6_wantParents_7 rfl, ?_⟩
  refine List.forall_mem_cons.mpr ⟨zs_iflt dX6_wantParents_8 (by decide), ?_⟩
  refine List.forall_mem_cons.mpr ⟨zs_aload_n dX6_wantParents_11 rfl, ?_⟩
  refine List.forall_mem_cons.mpr ⟨zs_iload_n dX6_wantParents_12 rfl, ?_⟩
  refine List.forall_mem_cons.mpr ⟨zs_callV (ci := 6) (rm := zR_X6_at) (n := 1) rfl zM_X6_at gX6_wantParents_X6_at rfl (by decide +kernel) ⟨by decide, by decide⟩ dX6_wantParents_13, ?_⟩
  refine List.forall_mem_cons.mpr ⟨zs_astore_n dX6_wantParents_16 rfl, ?_⟩
  refine List.forall_mem_cons.mpr ⟨zs_aload_n dX6_wantParents_17 rfl, ?_⟩
  refine List.forall_mem_cons.mpr ⟨zs_get (ci := 4) (j := 12) (N := 13) (C := RX4) (T := TX4) (index := 58) rfl (by decide) hin4 (List.mem_of_getElem? (i := 2) rfl) dX6_wantParents_18, ?_⟩
  refine List.forall_mem_cons.mpr ⟨zs_ifeq dX6_wantParents_21 (by decide), ?_⟩
  refine List.forall_mem_cons.mpr ⟨zs_aload_n dX6_wantParents_24 rfl, ?_⟩
  refine List.forall_mem_cons.mpr ⟨zs_aload_n dX6_wantParents_25 rfl, ?_⟩
  refine List.forall_mem_cons.mpr ⟨zs_get (ci := 4) (j := 2) (N := 13) (C := RX4) (T := TX4) (index := 42) rfl (by decide) hin4 (List.mem_of_getElem? (i := 3) rfl) dX6_wantParents_26, ?_⟩
  refine List.forall_mem_cons.mpr ⟨zs_callV (ci := 6) (rm := zR_X6_at) (n := 1) rfl zM_X6_at gX6_wantParents_X6_at rfl (by decide +kernel) ⟨by decide, by decide⟩ dX6_wantParents_29, ?_⟩
  refine List.forall_mem_cons.mpr ⟨zs_iconst dX6_wantParents_32 (by decide), ?_⟩
  refine List.forall_mem_cons.mpr ⟨zs_put (ci := 4) (j := 12) (N := 13) (C := RX4) (T := TX4) (index := 58) (b := true) .boolean tyX4 rfl (by decide) hin4 tyX4_ok nmX4 (List.mem_of_getElem? (i := 2) rfl) rfl (by decide +kernel) znz dX6_wantParents_33, ?_⟩
  refine List.forall_mem_cons.mpr ⟨zs_aload_n dX6_wantParents_36 rfl, ?_⟩
  refine List.forall_mem_cons.mpr ⟨zs_aload_n dX6_wantParents_37 rfl, ?_⟩
  refine List.forall_mem_cons.mpr ⟨zs_get (ci := 4) (j := 3) (N := 13) (C := RX4) (T := TX4) (index := 48) rfl (by decide) hin4 (List.mem_of_getElem? (i := 4) rfl) dX6_wantParents_38, ?_⟩
  refine List.forall_mem_cons.mpr ⟨zs_callV (ci := 6) (rm := zR_X6_at) (n := 1) rfl zM_X6_at gX6_wantParents_X6_at rfl (by decide +kernel) ⟨by decide, by decide⟩ dX6_wantParents_41, ?_⟩
  refine List.forall_mem_cons.mpr ⟨zs_iconst dX6_wantParents_44 (by decide), ?_⟩
  refine List.forall_mem_cons.mpr ⟨zs_put (ci := 4) (j := 12) (N := 13) (C := RX4) (T := TX4) (index := 58) (b := true) .boolean tyX4 rfl (by decide) hin4 tyX4_ok nmX4 (List.mem_of_getElem? (i := 2) rfl) rfl (by decide +kernel) znz dX6_wantParents_45, ?_⟩
  refine List.forall_mem_cons.mpr ⟨zs_aload_n dX6_wantParents_48 rfl, ?_⟩
  refine List.forall_mem_cons.mpr ⟨zs_aload_n dX6_wantParents_49 rfl, ?_⟩
  refine List.forall_mem_cons.mpr ⟨zs_get (ci := 4) (j := 4) (N := 13) (C := RX4) (T := TX4) (index := 51) rfl (by decide) hin4 (List.mem_of_getElem? (i := 5) rfl) dX6_wantParents_50, ?_⟩
  refine List.forall_mem_cons.mpr ⟨zs_callV (ci := 6) (rm := zR_X6_at) (n := 1) rfl zM_X6_at gX6_wantParents_X6_at rfl (by decide +kernel) ⟨by decide, by decide⟩ dX6_wantParents_53, ?_⟩
  refine List.forall_mem_cons.mpr ⟨zs_iconst dX6_wantParents_56 (by decide), ?_⟩
  refine List.forall_mem_cons.mpr ⟨zs_put (ci := 4) (j := 12) (N := 13) (C := RX4) (T := TX4) (index := 58) (b := true) .boolean tyX4 rfl (by decide) hin4 tyX4_ok nmX4 (List.mem_of_getElem? (i := 2) rfl) rfl (by decide +kernel) znz dX6_wantParents_57, ?_⟩
  refine List.forall_mem_cons.mpr ⟨zs_iinc dX6_wantParents_60 (by decide), ?_⟩
  refine List.forall_mem_cons.mpr ⟨zs_goto dX6_wantParents_63 (by decide), ?_⟩
  refine List.forall_mem_cons.mpr ⟨zs_retv rfl dX6_wantParents_66, ?_⟩
  exact fun _ h => absurd h List.not_mem_nil
theorem zM_X6_wantParents : zMeets zEC yX6_wantParents wsX6_wantParents zR_X6_wantParents m_X6_wantParents := zmeth_M zECok (zlook_all (zcs_X6_wantParents rfl)) (by decide +kernel) rfl
theorem zr_X6_wantParents_0 (a1 a2 : Option zAV) (st : List zAV) (s : zAS) (k : Nat × Nat) (o : Nat × Nat) : zev zk_X6_wantParents (0, [some (Sum.inr o), a1, a2], st, s, k) = zev zk_X6_wantParents (1, [some (Sum.inr o), a1, a2], Sum.inr o :: st, s, k) := zev_go rfl rfl
theorem zr_X6_wantParents_1 (ls : zLs) (st : List zAV) (s : zAS) (k : Nat × Nat) (o i : Nat) : zev zk_X6_wantParents (1, ls, Sum.inr (o, i) :: st, s, k) = zpush zk_X6_wantParents 4 ls st s k (zgv zEC 6 2 o i s.1) := zf_get rfl
theorem zr_X6_wantParents_4 (ls : zLs) (st : List zAV) (s : zAS) (k : Nat × Nat) : zev zk_X6_wantParents (4, ls, st, s, k) = zev zk_X6_wantParents (5, ls, Sum.inl (Value.int (1)) :: st, s, k) := zev_go rfl rfl
theorem zr_X6_wantParents_5 (ls : zLs) (st : List zAV) (s : zAS) (k : Nat × Nat) (x y : Int32) : zev zk_X6_wantParents (5, ls, Sum.inl (Value.int y) :: Sum.inl (Value.int x) :: st, s, k) = zev zk_X6_wantParents (6, ls, Sum.inl (Value.int (x - y)) :: st, s, k) := zev_go rfl rfl
theorem zr_X6_wantParents_6 (a0 a1 a2 : Option zAV) (st : List zAV) (s : zAS) (k : Nat × Nat) (x : Int32) : zev zk_X6_wantParents (6, [a0, a1, a2], Sum.inl (Value.int x) :: st, s, k) = zev zk_X6_wantParents (7, [zk1 a0, some (Sum.inl (Value.int x)), a2], st, s, k) := zev_go rfl rfl
theorem zr_X6_wantParents_7 (a0 a2 : Option zAV) (st : List zAV) (s : zAS) (k : Nat × Nat) (x : Int32) : zev zk_X6_wantParents (7, [a0, some (Sum.inl (Value.int x)), a2], st, s, k) = zev zk_X6_wantParents (8, [a0, some (Sum.inl (Value.int x)), a2], Sum.inl (Value.int x) :: st, s, k) := zev_go rfl rfl
theorem zr_X6_wantParents_8 (ls : zLs) (st : List zAV) (s : zAS) (k : Nat × Nat) (x : Int32) : zev zk_X6_wantParents (8, ls, Sum.inl (Value.int x) :: st, s, k) = if decide (x < 0) = true then zev zk_X6_wantParents (66, ls, st, s, k) else zev zk_X6_wantParents (11, ls, st, s, k) := zf_if (f := fun x => decide (x < 0)) rfl
theorem zr_X6_wantParents_11 (a1 a2 : Option zAV) (st : List zAV) (s : zAS) (k : Nat × Nat) (o : Nat × Nat) : zev zk_X6_wantParents (11, [some (Sum.inr o), a1, a2], st, s, k) = zev zk_X6_wantParents (12, [some (Sum.inr o), a1, a2], Sum.inr o :: st, s, k) := zev_go rfl rfl
theorem zr_X6_wantParents_12 (a0 a2 : Option zAV) (st : List zAV) (s : zAS) (k : Nat × Nat) (x : Int32) : zev zk_X6_wantParents (12, [a0, some (Sum.inl (Value.int x)), a2], st, s, k) = zev zk_X6_wantParents (13, [a0, some (Sum.inl (Value.int x)), a2], Sum.inl (Value.int x) :: st, s, k) := zev_go rfl rfl
theorem zr_X6_wantParents_13 (ls : zLs) (st : List zAV) (s : zAS) (k : Nat × Nat) (r v0 : zAV) (h : zcok zEC 6 0 0 (zR_X6_wantParents).cells (zR_X6_wantParents).slots r st k) : zev zk_X6_wantParents (13, ls, v0 :: r :: st, s, k) = zret zk_X6_wantParents 16 ls st (k.1 + 0, k.2 + 0) (m_X6_at [r, v0] s) := zf_callV (as := [v0]) 1 rfl rfl h
theorem zr_X6_wantParents_16 (a0 a1 a2 : Option zAV) (st : List zAV) (s : zAS) (k : Nat × Nat) (o : Nat × Nat) : zev zk_X6_wantParents (16, [a0, a1, a2], Sum.inr o :: st, s, k) = zev zk_X6_wantParents (17, [a0, zk1 a1, some (Sum.inr o)], st, s, k) := zev_go rfl rfl
theorem zr_X6_wantParents_17 (a0 a1 : Option zAV) (st : List zAV) (s : zAS) (k : Nat × Nat) (o : Nat × Nat) : zev zk_X6_wantParents (17, [a0, a1, some (Sum.inr o)], st, s, k) = zev zk_X6_wantParents (18, [a0, a1, some (Sum.inr o)], Sum.inr o :: st, s, k) := zev_go rfl rfl
theorem zr_X6_wantParents_18 (ls : zLs) (st : List zAV) (s : zAS) (k : Nat × Nat) (o i : Nat) : zev zk_X6_wantParents (18, ls, Sum.inr (o, i) :: st, s, k) = zpush zk_X6_wantParents 21 ls st s k (zgv zEC 4 12 o i s.1) := zf_get rfl
theorem zr_X6_wantParents_21 (ls : zLs) (st : List zAV) (s : zAS) (k : Nat × Nat) (x : Int32) : zev zk_X6_wantParents (21, ls, Sum.inl (Value.int x) :: st, s, k) = if decide (x = 0) = true then zev zk_X6_wantParents (60, ls, st, s, k) else zev zk_X6_wantParents (24, ls, st, s, k) := zf_if (f := fun x => decide (x = 0)) rfl
theorem zr_X6_wantParents_24 (a1 a2 : Option zAV) (st : List zAV) (s : zAS) (k : Nat × Nat) (o : Nat × Nat) : zev zk_X6_wantParents (24, [some (Sum.inr o), a1, a2], st, s, k) = zev zk_X6_wantParents (25, [some (Sum.inr o), a1, a2], Sum.inr o :: st, s, k) := zev_go rfl rfl
theorem zr_X6_wantParents_25 (a0 a1 : Option zAV) (st : List zAV) (s : zAS) (k : Nat × Nat) (o : Nat × Nat) : zev zk_X6_wantParents (25, [a0, a1, some (Sum.inr o)], st, s, k) = zev zk_X6_wantParents (26, [a0, a1, some (Sum.inr o)], Sum.inr o :: st, s, k) := zev_go rfl rfl
theorem zr_X6_wantParents_26 (ls : zLs) (st : List zAV) (s : zAS) (k : Nat × Nat) (o i : Nat) : zev zk_X6_wantParents (26, ls, Sum.inr (o, i) :: st, s, k) = zpush zk_X6_wantParents 29 ls st s k (zgv zEC 4 2 o i s.1) := zf_get rfl
theorem zr_X6_wantParents_29 (ls : zLs) (st : List zAV) (s : zAS) (k : Nat × Nat) (r v0 : zAV) (h : zcok zEC 6 0 0 (zR_X6_wantParents).cells (zR_X6_wantParents).slots r st k) : zev zk_X6_wantParents (29, ls, v0 :: r :: st, s, k) = zret zk_X6_wantParents 32 ls st (k.1 + 0, k.2 + 0) (m_X6_at [r, v0] s) := zf_callV (as := [v0]) 1 rfl rfl h
theorem zr_X6_wantParents_32 (ls : zLs) (st : List zAV) (s : zAS) (k : Nat × Nat) : zev zk_X6_wantParents (32, ls, st, s, k) = zev zk_X6_wantParents (33, ls, Sum.inl (Value.int (1)) :: st, s, k) := zev_go rfl rfl
theorem zr_X6_wantParents_33 (ls : zLs) (st : List zAV) (s : zAS) (k : Nat × Nat) (o i : Nat) (x : Int32) (h : zpok zEC 4 12 true o i x) : zev zk_X6_wantParents (33, ls, Sum.inl (Value.int x) :: Sum.inr (o, i) :: st, s, k) = zev zk_X6_wantParents (36, ls, st, (zup s.1 o i 12 x, s.2), k) := zf_put rfl h
theorem zr_X6_wantParents_36 (a1 a2 : Option zAV) (st : List zAV) (s : zAS) (k : Nat × Nat) (o : Nat × Nat) : zev zk_X6_wantParents (36, [some (Sum.inr o), a1, a2], st, s, k) = zev zk_X6_wantParents (37, [some (Sum.inr o), a1, a2], Sum.inr o :: st, s, k) := zev_go rfl rfl
theorem zr_X6_wantParents_37 (a0 a1 : Option zAV) (st : List zAV) (s : zAS) (k : Nat × Nat) (o : Nat × Nat) : zev zk_X6_wantParents (37, [a0, a1, some (Sum.inr o)], st, s, k) = zev zk_X6_wantParents (38, [a0, a1, some (Sum.inr o)], Sum.inr o :: st, s, k) := zev_go rfl rfl
theorem zr_X6_wantParents_38 (ls : zLs) (st : List zAV) (s : zAS) (k : Nat × Nat) (o i : Nat) : zev zk_X6_wantParents (38, ls, Sum.inr (o, i) :: st, s, k) = zpush zk_X6_wantParents 41 ls st s k (zgv zEC 4 3 o i s.1) := zf_get rfl
theorem zr_X6_wantParents_41 (ls : zLs) (st : List zAV) (s : zAS) (k : Nat × Nat) (r v0 : zAV) (h : zcok zEC 6 0 0 (zR_X6_wantParents).cells (zR_X6_wantParents).slots r st k) : zev zk_X6_wantParents (41, ls, v0 :: r :: st, s, k) = zret zk_X6_wantParents 44 ls st (k.1 + 0, k.2 + 0) (m_X6_at [r, v0] s) := zf_callV (as := [v0]) 1 rfl rfl h
theorem zr_X6_wantParents_44 (ls : zLs) (st : List zAV) (s : zAS) (k : Nat × Nat) : zev zk_X6_wantParents (44, ls, st, s, k) = zev zk_X6_wantParents (45, ls, Sum.inl (Value.int (1)) :: st, s, k) := zev_go rfl rfl
theorem zr_X6_wantParents_45 (ls : zLs) (st : List zAV) (s : zAS) (k : Nat × Nat) (o i : Nat) (x : Int32) (h : zpok zEC 4 12 true o i x) : zev zk_X6_wantParents (45, ls, Sum.inl (Value.int x) :: Sum.inr (o, i) :: st, s, k) = zev zk_X6_wantParents (48, ls, st, (zup s.1 o i 12 x, s.2), k) := zf_put rfl h
theorem zr_X6_wantParents_48 (a1 a2 : Option zAV) (st : List zAV) (s : zAS) (k : Nat × Nat) (o : Nat × Nat) : zev zk_X6_wantParents (48, [some (Sum.inr o), a1, a2], st, s, k) = zev zk_X6_wantParents (49, [some (Sum.inr o), a1, a2], Sum.inr o :: st, s, k) := zev_go rfl rfl
theorem zr_X6_wantParents_49 (a0 a1 : Option zAV) (st : List zAV) (s : zAS) (k : Nat × Nat) (o : Nat × Nat) : zev zk_X6_wantParents (49, [a0, a1, some (Sum.inr o)], st, s, k) = zev zk_X6_wantParents (50, [a0, a1, some (Sum.inr o)], Sum.inr o :: st, s, k) := zev_go rfl rfl
theorem zr_X6_wantParents_50 (ls : zLs) (st : List zAV) (s : zAS) (k : Nat × Nat) (o i : Nat) : zev zk_X6_wantParents (50, ls, Sum.inr (o, i) :: st, s, k) = zpush zk_X6_wantParents 53 ls st s k (zgv zEC 4 4 o i s.1) := zf_get rfl
theorem zr_X6_wantParents_53 (ls : zLs) (st : List zAV) (s : zAS) (k : Nat × Nat) (r v0 : zAV) (h : zcok zEC 6 0 0 (zR_X6_wantParents).cells (zR_X6_wantParents).slots r st k) : zev zk_X6_wantParents (53, ls, v0 :: r :: st, s, k) = zret zk_X6_wantParents 56 ls st (k.1 + 0, k.2 + 0) (m_X6_at [r, v0] s) := zf_callV (as := [v0]) 1 rfl rfl h
theorem zr_X6_wantParents_56 (ls : zLs) (st : List zAV) (s : zAS) (k : Nat × Nat) : zev zk_X6_wantParents (56, ls, st, s, k) = zev zk_X6_wantParents (57, ls, Sum.inl (Value.int (1)) :: st, s, k) := zev_go rfl rfl
theorem zr_X6_wantParents_57 (ls : zLs) (st : List zAV) (s : zAS) (k : Nat × Nat) (o i : Nat) (x : Int32) (h : zpok zEC 4 12 true o i x) : zev zk_X6_wantParents (57, ls, Sum.inl (Value.int x) :: Sum.inr (o, i) :: st, s, k) = zev zk_X6_wantParents (60, ls, st, (zup s.1 o i 12 x, s.2), k) := zf_put rfl h
theorem zr_X6_wantParents_60 (a0 a2 : Option zAV) (st : List zAV) (s : zAS) (k : Nat × Nat) (x : Int32) : zev zk_X6_wantParents (60, [a0, some (Sum.inl (Value.int x)), a2], st, s, k) = zev zk_X6_wantParents (63, [zk1 a0, some (Sum.inl (Value.int (x + (-1)))), a2], st, s, k) := zev_go rfl rfl
theorem zr_X6_wantParents_63 (ls : zLs) (st : List zAV) (s : zAS) (k : Nat × Nat) : zev zk_X6_wantParents (63, ls, st, s, k) = zev zk_X6_wantParents (7, ls, st, s, k) := zev_go rfl rfl
theorem zr_X6_wantParents_66 (ls : zLs) (s : zAS) (k : Nat × Nat) : zev zk_X6_wantParents (66, ls, [], s, k) = some (.inl none, s) := zev_end rfl rfl
/-! X6_wantFor: PrimePlane$Row.wantFor(LPrimePlane$Figure;)V -/
abbrev zR_X6_wantFor : Room := ({ frames := 2, cells := 0, slots := 0, locals := 44 } : Room)
noncomputable def zl_X6_wantFor : List (Nat × zOp) := [(0, z_lda 0 1), (1, z_ic (0) 2), (2, z_callV zEC 6 m_X6_setWanted 1 0 0 (zR_X6_wantFor).cells (zR_X6_wantFor).slots 5), (5, z_lda 1 6), (6, z_ic (1) 7), (7, z_put zEC 4 12 true 10), (10, z_lda 0 11), (11, z_callV zEC 6 m_X6_wantParents 0 0 0 (zR_X6_wantFor).cells (zR_X6_wantFor).slots 14), (14, z_retv)]
noncomputable def zk_X6_wantFor (pc : Nat) : Option zOp := zlook zl_X6_wantFor pc
noncomputable def m_X6_wantFor : List zAV → zAS → Option zOut := zmeth zk_X6_wantFor 2
set_option maxRecDepth 100000 in
set_option maxHeartbeats 4000000 in
theorem zcs_X6_wantFor {R : Room} (hR : R = zR_X6_wantFor) : ∀ q ∈ zl_X6_wantFor, zS zEC yX6_wantFor.cls cX6_wantFor 2 wsX6_wantFor none R q.1 q.2 := by
  subst hR
  have hin4 : ∀ w ∈ wsX40, w ∈ wsX6_wantFor := fun w h => List.mem_cons_of_mem _ (List.mem_append_left _ (List.mem_append_right _ h))
  refine List.forall_mem_cons.mpr ⟨zs_aload_n dX6_wantFor_0 rfl, ?_⟩
  refine List.forall_mem_cons.mpr ⟨zs_iconst dX6_wantFor_1 (by decide), ?_⟩
  refine List.forall_mem_cons.mpr ⟨zs_callV (ci := 6) (rm := zR_X6_setWanted) (n := 1) rfl zM_X6_setWanted gX6_wantFor_X6_setWanted rfl (by decide +kernel) ⟨by decide, by decide⟩ dX6_wantFor_2, ?_⟩
  refine List.forall_mem_cons.mpr ⟨zs_aload_n dX6_wantFor_5 rfl, ?_⟩
  refine List.forall_mem_cons.mpr ⟨zs_iconst dX6_wantFor_6 (by decide), ?_⟩
  refine List.forall_mem_cons.mpr ⟨zs_put (ci := 4) (j := 12) (N := 13) (C := RX4) (T := TX4) (index := 58) (b := true) .boolean tyX4 rfl (by decide) hin4 tyX4_ok nmX4 (List.mem_of_getElem? (i := 1) rfl) rfl (by decide +kernel) znz dX6_wantFor_7, ?_⟩
  refine List.forall_mem_cons.mpr ⟨zs_aload_n dX6_wantFor_10 rfl, ?_⟩
  refine List.forall_mem_cons.mpr ⟨zs_callV (ci := 6) (rm := zR_X6_wantParents) (n := 0) rfl zM_X6_wantParents gX6_wantFor_X6_wantParents rfl (by decide +kernel) ⟨by decide, by decide⟩ dX6_wantFor_11, ?_⟩
  refine List.forall_mem_cons.mpr ⟨zs_retv rfl dX6_wantFor_14, ?_⟩
  exact fun _ h => absurd h List.not_mem_nil
theorem zM_X6_wantFor : zMeets zEC yX6_wantFor wsX6_wantFor zR_X6_wantFor m_X6_wantFor := zmeth_M zECok (zlook_all (zcs_X6_wantFor rfl)) (by decide +kernel) rfl
theorem zr_X6_wantFor_0 (a1 : Option zAV) (st : List zAV) (s : zAS) (k : Nat × Nat) (o : Nat × Nat) : zev zk_X6_wantFor (0, [some (Sum.inr o), a1], st, s, k) = zev zk_X6_wantFor (1, [some (Sum.inr o), a1], Sum.inr o :: st, s, k) := zev_go rfl rfl
theorem zr_X6_wantFor_1 (ls : zLs) (st : List zAV) (s : zAS) (k : Nat × Nat) : zev zk_X6_wantFor (1, ls, st, s, k) = zev zk_X6_wantFor (2, ls, Sum.inl (Value.int (0)) :: st, s, k) := zev_go rfl rfl
theorem zr_X6_wantFor_2 (ls : zLs) (st : List zAV) (s : zAS) (k : Nat × Nat) (r v0 : zAV) (h : zcok zEC 6 0 0 (zR_X6_wantFor).cells (zR_X6_wantFor).slots r st k) : zev zk_X6_wantFor (2, ls, v0 :: r :: st, s, k) = zret zk_X6_wantFor 5 ls st (k.1 + 0, k.2 + 0) (m_X6_setWanted [r, v0] s) := zf_callV (as := [v0]) 1 rfl rfl h
theorem zr_X6_wantFor_5 (a0 : Option zAV) (st : List zAV) (s : zAS) (k : Nat × Nat) (o : Nat × Nat) : zev zk_X6_wantFor (5, [a0, some (Sum.inr o)], st, s, k) = zev zk_X6_wantFor (6, [a0, some (Sum.inr o)], Sum.inr o :: st, s, k) := zev_go rfl rfl
theorem zr_X6_wantFor_6 (ls : zLs) (st : List zAV) (s : zAS) (k : Nat × Nat) : zev zk_X6_wantFor (6, ls, st, s, k) = zev zk_X6_wantFor (7, ls, Sum.inl (Value.int (1)) :: st, s, k) := zev_go rfl rfl
theorem zr_X6_wantFor_7 (ls : zLs) (st : List zAV) (s : zAS) (k : Nat × Nat) (o i : Nat) (x : Int32) (h : zpok zEC 4 12 true o i x) : zev zk_X6_wantFor (7, ls, Sum.inl (Value.int x) :: Sum.inr (o, i) :: st, s, k) = zev zk_X6_wantFor (10, ls, st, (zup s.1 o i 12 x, s.2), k) := zf_put rfl h
theorem zr_X6_wantFor_10 (a1 : Option zAV) (st : List zAV) (s : zAS) (k : Nat × Nat) (o : Nat × Nat) : zev zk_X6_wantFor (10, [some (Sum.inr o), a1], st, s, k) = zev zk_X6_wantFor (11, [some (Sum.inr o), a1], Sum.inr o :: st, s, k) := zev_go rfl rfl
theorem zr_X6_wantFor_11 (ls : zLs) (st : List zAV) (s : zAS) (k : Nat × Nat) (r : zAV) (h : zcok zEC 6 0 0 (zR_X6_wantFor).cells (zR_X6_wantFor).slots r st k) : zev zk_X6_wantFor (11, ls, r :: st, s, k) = zret zk_X6_wantFor 14 ls st (k.1 + 0, k.2 + 0) (m_X6_wantParents [r] s) := zf_callV (as := []) 0 rfl rfl h
theorem zr_X6_wantFor_14 (ls : zLs) (s : zAS) (k : Nat × Nat) : zev zk_X6_wantFor (14, ls, [], s, k) = some (.inl none, s) := zev_end rfl rfl
/-! X6_wantFor_: PrimePlane$Row.wantFor(LPrimePlane$Claim;)V -/
abbrev zR_X6_wantFor_ : Room := ({ frames := 2, cells := 0, slots := 0, locals := 44 } : Room)
noncomputable def zl_X6_wantFor_ : List (Nat × zOp) := [(0, z_lda 0 1), (1, z_ic (0) 2), (2, z_callV zEC 6 m_X6_setWanted 1 0 0 (zR_X6_wantFor_).cells (zR_X6_wantFor_).slots 5), (5, z_lda 0 6), (6, z_lda 1 7), (7, z_get zEC 0 1 10), (10, z_callV zEC 6 m_X6_at 1 0 0 (zR_X6_wantFor_).cells (zR_X6_wantFor_).slots 13), (13, z_ic (1) 14), (14, z_put zEC 4 12 true 17), (17, z_lda 0 18), (18, z_lda 1 19), (19, z_get zEC 0 2 22), (22, z_callV zEC 6 m_X6_at 1 0 0 (zR_X6_wantFor_).cells (zR_X6_wantFor_).slots 25), (25, z_ic (1) 26), (26, z_put zEC 4 12 true 29), (29, z_lda 0 30), (30, z_lda 1 31), (31, z_get zEC 0 3 34), (34, z_callV zEC 6 m_X6_at 1 0 0 (zR_X6_wantFor_).cells (zR_X6_wantFor_).slots 37), (37, z_ic (1) 38), (38, z_put zEC 4 12 true 41), (41, z_lda 0 42), (42, z_lda 1 43), (43, z_get zEC 0 4 46), (46, z_callV zEC 6 m_X6_at 1 0 0 (zR_X6_wantFor_).cells (zR_X6_wantFor_).slots 49), (49, z_ic (1) 50), (50, z_put zEC 4 12 true 53), (53, z_lda 0 54), (54, z_callV zEC 6 m_X6_wantParents 0 0 0 (zR_X6_wantFor_).cells (zR_X6_wantFor_).slots 57), (57, z_retv)]
noncomputable def zk_X6_wantFor_ (pc : Nat) : Option zOp := zlook zl_X6_wantFor_ pc
noncomputable def m_X6_wantFor_ : List zAV → zAS → Option zOut := zmeth zk_X6_wantFor_ 2
set_option maxRecDepth 100000 in
set_option maxHeartbeats 4000000 in
theorem zcs_X6_wantFor_ {R : Room} (hR : R = zR_X6_wantFor_) : ∀ q ∈ zl_X6_wantFor_, zS zEC yX6_wantFor_.cls cX6_wantFor_ 2 wsX6_wantFor_ none R q.1 q.2 := by
  subst hR
  have hin0 : ∀ w ∈ wsX00, w ∈ wsX6_wantFor_ := fun w h => List.mem_cons_of_mem _ (List.mem_append_left _ (List.mem_append_left _ (List.mem_append_right _ h)))
  have hin4 : ∀ w ∈ wsX40, w ∈ wsX6_wantFor_ := fun w h => List.mem_cons_of_mem _ (List.mem_append_left _ (List.mem_append_right _ h))
  refine List.forall_mem_cons.mpr ⟨zs_aload_n dX6_wantFor__0 rfl, ?_⟩
  refine List.forall_mem_cons.mpr ⟨zs_iconst dX6_wantFor__1 (by decide), ?_⟩
  refine List.forall_mem_cons.mpr ⟨zs_callV (ci := 6) (rm := zR_X6_setWanted) (n := 1) rfl zM_X6_setWanted gX6_wantFor__X6_setWanted rfl (by decide +kernel) ⟨by decide, by decide⟩ dX6_wantFor__2, ?_⟩
  refine List.forall_mem_cons.mpr ⟨zs_aload_n dX6_wantFor__5 rfl, ?_⟩
  refine List.forall_mem_cons.mpr ⟨zs_aload_n dX6_wantFor__6 rfl, ?_⟩
  refine List.forall_mem_cons.mpr ⟨zs_get (ci := 0) (j := 1) (N := 5) (C := RX0) (T := TX0) (index := 64) rfl (by decide) hin0 (List.mem_of_getElem? (i := 1) rfl) dX6_wantFor__7, ?_⟩
  refine List.forall_mem_cons.mpr ⟨zs_callV (ci := 6) (rm := zR_X6_at) (n := 1) rfl zM_X6_at gX6_wantFor__X6_at rfl (by decide +kernel) ⟨by decide, by decide⟩ dX6_wantFor__10, ?_⟩
  refine List.forall_mem_cons.mpr ⟨zs_iconst dX6_wantFor__13 (by decide), ?_⟩
  refine List.forall_mem_cons.mpr ⟨zs_put (ci := 4) (j := 12) (N := 13) (C := RX4) (T := TX4) (index := 58) (b := true) .boolean tyX4 rfl (by decide) hin4 tyX4_ok nmX4 (List.mem_of_getElem? (i := 2) rfl) rfl (by decide +kernel) znz dX6_wantFor__14, ?_⟩
  refine List.forall_mem_cons.mpr ⟨zs_aload_n dX6_wantFor__17 rfl, ?_⟩
  refine List.forall_mem_cons.mpr ⟨zs_aload_n dX6_wantFor__18 rfl, ?_⟩
  refine List.forall_mem_cons.mpr ⟨zs_get (ci := 0) (j := 2) (N := 5) (C := RX0) (T := TX0) (index := 67) rfl (by decide) hin0 (List.mem_of_getElem? (i := 3) rfl) dX6_wantFor__19, ?_⟩
  refine List.forall_mem_cons.mpr ⟨zs_callV (ci := 6) (rm := zR_X6_at) (n := 1) rfl zM_X6_at gX6_wantFor__X6_at rfl (by decide +kernel) ⟨by decide, by decide⟩ dX6_wantFor__22, ?_⟩
  refine List.forall_mem_cons.mpr ⟨zs_iconst dX6_wantFor__25 (by decide), ?_⟩
  refine List.forall_mem_cons.mpr ⟨zs_put (ci := 4) (j := 12) (N := 13) (C := RX4) (T := TX4) (index := 58) (b := true) .boolean tyX4 rfl (by decide) hin4 tyX4_ok nmX4 (List.mem_of_getElem? (i := 2) rfl) rfl (by decide +kernel) znz dX6_wantFor__26, ?_⟩
  refine List.forall_mem_cons.mpr ⟨zs_aload_n dX6_wantFor__29 rfl, ?_⟩
  refine List.forall_mem_cons.mpr ⟨zs_aload_n dX6_wantFor__30 rfl, ?_⟩
  refine List.forall_mem_cons.mpr ⟨zs_get (ci := 0) (j := 3) (N := 5) (C := RX0) (T := TX0) (index := 68) rfl (by decide) hin0 (List.mem_of_getElem? (i := 4) rfl) dX6_wantFor__31, ?_⟩
  refine List.forall_mem_cons.mpr ⟨zs_callV (ci := 6) (rm := zR_X6_at) (n := 1) rfl zM_X6_at gX6_wantFor__X6_at rfl (by decide +kernel) ⟨by decide, by decide⟩ dX6_wantFor__34, ?_⟩
  refine List.forall_mem_cons.mpr ⟨zs_iconst dX6_wantFor__37 (by decide), ?_⟩
  refine List.forall_mem_cons.mpr ⟨zs_put (ci := 4) (j := 12) (N := 13) (C := RX4) (T := TX4) (index := 58) (b := true) .boolean tyX4 rfl (by decide) hin4 tyX4_ok nmX4 (List.mem_of_getElem? (i := 2) rfl) rfl (by decide +kernel) znz dX6_wantFor__38, ?_⟩
  refine List.forall_mem_cons.mpr ⟨zs_aload_n dX6_wantFor__41 rfl, ?_⟩
  refine List.forall_mem_cons.mpr ⟨zs_aload_n dX6_wantFor__42 rfl, ?_⟩
  refine List.forall_mem_cons.mpr ⟨zs_get (ci := 0) (j := 4) (N := 5) (C := RX0) (T := TX0) (index := 69) rfl (by decide) hin0 (List.mem_of_getElem? (i := 5) rfl) dX6_wantFor__43, ?_⟩
  refine List.forall_mem_cons.mpr ⟨zs_callV (ci := 6) (rm := zR_X6_at) (n := 1) rfl zM_X6_at gX6_wantFor__X6_at rfl (by decide +kernel) ⟨by decide, by decide⟩ dX6_wantFor__46, ?_⟩
  refine List.forall_mem_cons.mpr ⟨zs_iconst dX6_wantFor__49 (by decide), ?_⟩
  refine List.forall_mem_cons.mpr ⟨zs_put (ci := 4) (j := 12) (N := 13) (C := RX4) (T := TX4) (index := 58) (b := true) .boolean tyX4 rfl (by decide) hin4 tyX4_ok nmX4 (List.mem_of_getElem? (i := 2) rfl) rfl (by decide +kernel) znz dX6_wantFor__50, ?_⟩
  refine List.forall_mem_cons.mpr ⟨zs_aload_n dX6_wantFor__53 rfl, ?_⟩
  refine List.forall_mem_cons.mpr ⟨zs_callV (ci := 6) (rm := zR_X6_wantParents) (n := 0) rfl zM_X6_wantParents gX6_wantFor__X6_wantParents rfl (by decide +kernel) ⟨by decide, by decide⟩ dX6_wantFor__54, ?_⟩
  refine List.forall_mem_cons.mpr ⟨zs_retv rfl dX6_wantFor__57, ?_⟩
  exact fun _ h => absurd h List.not_mem_nil
theorem zM_X6_wantFor_ : zMeets zEC yX6_wantFor_ wsX6_wantFor_ zR_X6_wantFor_ m_X6_wantFor_ := zmeth_M zECok (zlook_all (zcs_X6_wantFor_ rfl)) (by decide +kernel) rfl
theorem zr_X6_wantFor__0 (a1 : Option zAV) (st : List zAV) (s : zAS) (k : Nat × Nat) (o : Nat × Nat) : zev zk_X6_wantFor_ (0, [some (Sum.inr o), a1], st, s, k) = zev zk_X6_wantFor_ (1, [some (Sum.inr o), a1], Sum.inr o :: st, s, k) := zev_go rfl rfl
theorem zr_X6_wantFor__1 (ls : zLs) (st : List zAV) (s : zAS) (k : Nat × Nat) : zev zk_X6_wantFor_ (1, ls, st, s, k) = zev zk_X6_wantFor_ (2, ls, Sum.inl (Value.int (0)) :: st, s, k) := zev_go rfl rfl
theorem zr_X6_wantFor__2 (ls : zLs) (st : List zAV) (s : zAS) (k : Nat × Nat) (r v0 : zAV) (h : zcok zEC 6 0 0 (zR_X6_wantFor_).cells (zR_X6_wantFor_).slots r st k) : zev zk_X6_wantFor_ (2, ls, v0 :: r :: st, s, k) = zret zk_X6_wantFor_ 5 ls st (k.1 + 0, k.2 + 0) (m_X6_setWanted [r, v0] s) := zf_callV (as := [v0]) 1 rfl rfl h
theorem zr_X6_wantFor__5 (a1 : Option zAV) (st : List zAV) (s : zAS) (k : Nat × Nat) (o : Nat × Nat) : zev zk_X6_wantFor_ (5, [some (Sum.inr o), a1], st, s, k) = zev zk_X6_wantFor_ (6, [some (Sum.inr o), a1], Sum.inr o :: st, s, k) := zev_go rfl rfl
theorem zr_X6_wantFor__6 (a0 : Option zAV) (st : List zAV) (s : zAS) (k : Nat × Nat) (o : Nat × Nat) : zev zk_X6_wantFor_ (6, [a0, some (Sum.inr o)], st, s, k) = zev zk_X6_wantFor_ (7, [a0, some (Sum.inr o)], Sum.inr o :: st, s, k) := zev_go rfl rfl
theorem zr_X6_wantFor__7 (ls : zLs) (st : List zAV) (s : zAS) (k : Nat × Nat) (o i : Nat) : zev zk_X6_wantFor_ (7, ls, Sum.inr (o, i) :: st, s, k) = zpush zk_X6_wantFor_ 10 ls st s k (zgv zEC 0 1 o i s.1) := zf_get rfl
theorem zr_X6_wantFor__10 (ls : zLs) (st : List zAV) (s : zAS) (k : Nat × Nat) (r v0 : zAV) (h : zcok zEC 6 0 0 (zR_X6_wantFor_).cells (zR_X6_wantFor_).slots r st k) : zev zk_X6_wantFor_ (10, ls, v0 :: r :: st, s, k) = zret zk_X6_wantFor_ 13 ls st (k.1 + 0, k.2 + 0) (m_X6_at [r, v0] s) := zf_callV (as := [v0]) 1 rfl rfl h
theorem zr_X6_wantFor__13 (ls : zLs) (st : List zAV) (s : zAS) (k : Nat × Nat) : zev zk_X6_wantFor_ (13, ls, st, s, k) = zev zk_X6_wantFor_ (14, ls, Sum.inl (Value.int (1)) :: st, s, k) := zev_go rfl rfl
theorem zr_X6_wantFor__14 (ls : zLs) (st : List zAV) (s : zAS) (k : Nat × Nat) (o i : Nat) (x : Int32) (h : zpok zEC 4 12 true o i x) : zev zk_X6_wantFor_ (14, ls, Sum.inl (Value.int x) :: Sum.inr (o, i) :: st, s, k) = zev zk_X6_wantFor_ (17, ls, st, (zup s.1 o i 12 x, s.2), k) := zf_put rfl h
theorem zr_X6_wantFor__17 (a1 : Option zAV) (st : List zAV) (s : zAS) (k : Nat × Nat) (o : Nat × Nat) : zev zk_X6_wantFor_ (17, [some (Sum.inr o), a1], st, s, k) = zev zk_X6_wantFor_ (18, [some (Sum.inr o), a1], Sum.inr o :: st, s, k) := zev_go rfl rfl
theorem zr_X6_wantFor__18 (a0 : Option zAV) (st : List zAV) (s : zAS) (k : Nat × Nat) (o : Nat × Nat) : zev zk_X6_wantFor_ (18, [a0, some (Sum.inr o)], st, s, k) = zev zk_X6_wantFor_ (19, [a0, some (Sum.inr o)], Sum.inr o :: st, s, k) := zev_go rfl rfl
theorem zr_X6_wantFor__19 (ls : zLs) (st : List zAV) (s : zAS) (k : Nat × Nat) (o i : Nat) : zev zk_X6_wantFor_ (19, ls, Sum.inr (o, i) :: st, s, k) = zpush zk_X6_wantFor_ 22 ls st s k (zgv zEC 0 2 o i s.1) := zf_get rfl
theorem zr_X6_wantFor__22 (ls : zLs) (st : List zAV) (s : zAS) (k : Nat × Nat) (r v0 : zAV) (h : zcok zEC 6 0 0 (zR_X6_wantFor_).cells (zR_X6_wantFor_).slots r st k) : zev zk_X6_wantFor_ (22, ls, v0 :: r :: st, s, k) = zret zk_X6_wantFor_ 25 ls st (k.1 + 0, k.2 + 0) (m_X6_at [r, v0] s) := zf_callV (as := [v0]) 1 rfl rfl h
theorem zr_X6_wantFor__25 (ls : zLs) (st : List zAV) (s : zAS) (k : Nat × Nat) : zev zk_X6_wantFor_ (25, ls, st, s, k) = zev zk_X6_wantFor_ (26, ls, Sum.inl (Value.int (1)) :: st, s, k) := zev_go rfl rfl
theorem zr_X6_wantFor__26 (ls : zLs) (st : List zAV) (s : zAS) (k : Nat × Nat) (o i : Nat) (x : Int32) (h : zpok zEC 4 12 true o i x) : zev zk_X6_wantFor_ (26, ls, Sum.inl (Value.int x) :: Sum.inr (o, i) :: st, s, k) = zev zk_X6_wantFor_ (29, ls, st, (zup s.1 o i 12 x, s.2), k) := zf_put rfl h
theorem zr_X6_wantFor__29 (a1 : Option zAV) (st : List zAV) (s : zAS) (k : Nat × Nat) (o : Nat × Nat) : zev zk_X6_wantFor_ (29, [some (Sum.inr o), a1], st, s, k) = zev zk_X6_wantFor_ (30, [some (Sum.inr o), a1], Sum.inr o :: st, s, k) := zev_go rfl rfl
theorem zr_X6_wantFor__30 (a0 : Option zAV) (st : List zAV) (s : zAS) (k : Nat × Nat) (o : Nat × Nat) : zev zk_X6_wantFor_ (30, [a0, some (Sum.inr o)], st, s, k) = zev zk_X6_wantFor_ (31, [a0, some (Sum.inr o)], Sum.inr o :: st, s, k) := zev_go rfl rfl
theorem zr_X6_wantFor__31 (ls : zLs) (st : List zAV) (s : zAS) (k : Nat × Nat) (o i : Nat) : zev zk_X6_wantFor_ (31, ls, Sum.inr (o, i) :: st, s, k) = zpush zk_X6_wantFor_ 34 ls st s k (zgv zEC 0 3 o i s.1) := zf_get rfl
theorem zr_X6_wantFor__34 (ls : zLs) (st : List zAV) (s : zAS) (k : Nat × Nat) (r v0 : zAV) (h : zcok zEC 6 0 0 (zR_X6_wantFor_).cells (zR_X6_wantFor_).slots r st k) : zev zk_X6_wantFor_ (34, ls, v0 :: r :: st, s, k) = zret zk_X6_wantFor_ 37 ls st (k.1 + 0, k.2 + 0) (m_X6_at [r, v0] s) := zf_callV (as := [v0]) 1 rfl rfl h
theorem zr_X6_wantFor__37 (ls : zLs) (st : List zAV) (s : zAS) (k : Nat × Nat) : zev zk_X6_wantFor_ (37, ls, st, s, k) = zev zk_X6_wantFor_ (38, ls, Sum.inl (Value.int (1)) :: st, s, k) := zev_go rfl rfl
theorem zr_X6_wantFor__38 (ls : zLs) (st : List zAV) (s : zAS) (k : Nat × Nat) (o i : Nat) (x : Int32) (h : zpok zEC 4 12 true o i x) : zev zk_X6_wantFor_ (38, ls, Sum.inl (Value.int x) :: Sum.inr (o, i) :: st, s, k) = zev zk_X6_wantFor_ (41, ls, st, (zup s.1 o i 12 x, s.2), k) := zf_put rfl h
theorem zr_X6_wantFor__41 (a1 : Option zAV) (st : List zAV) (s : zAS) (k : Nat × Nat) (o : Nat × Nat) : zev zk_X6_wantFor_ (41, [some (Sum.inr o), a1], st, s, k) = zev zk_X6_wantFor_ (42, [some (Sum.inr o), a1], Sum.inr o :: st, s, k) := zev_go rfl rfl
theorem zr_X6_wantFor__42 (a0 : Option zAV) (st : List zAV) (s : zAS) (k : Nat × Nat) (o : Nat × Nat) : zev zk_X6_wantFor_ (42, [a0, some (Sum.inr o)], st, s, k) = zev zk_X6_wantFor_ (43, [a0, some (Sum.inr o)], Sum.inr o :: st, s, k) := zev_go rfl rfl
theorem zr_X6_wantFor__43 (ls : zLs) (st : List zAV) (s : zAS) (k : Nat × Nat) (o i : Nat) : zev zk_X6_wantFor_ (43, ls, Sum.inr (o, i) :: st, s, k) = zpush zk_X6_wantFor_ 46 ls st s k (zgv zEC 0 4 o i s.1) := zf_get rfl
theorem zr_X6_wantFor__46 (ls : zLs) (st : List zAV) (s : zAS) (k : Nat × Nat) (r v0 : zAV) (h : zcok zEC 6 0 0 (zR_X6_wantFor_).cells (zR_X6_wantFor_).slots r st k) : zev zk_X6_wantFor_ (46, ls, v0 :: r :: st, s, k) = zret zk_X6_wantFor_ 49 ls st (k.1 + 0, k.2 + 0) (m_X6_at [r, v0] s) := zf_callV (as := [v0]) 1 rfl rfl h
theorem zr_X6_wantFor__49 (ls : zLs) (st : List zAV) (s : zAS) (k : Nat × Nat) : zev zk_X6_wantFor_ (49, ls, st, s, k) = zev zk_X6_wantFor_ (50, ls, Sum.inl (Value.int (1)) :: st, s, k) := zev_go rfl rfl
theorem zr_X6_wantFor__50 (ls : zLs) (st : List zAV) (s : zAS) (k : Nat × Nat) (o i : Nat) (x : Int32) (h : zpok zEC 4 12 true o i x) : zev zk_X6_wantFor_ (50, ls, Sum.inl (Value.int x) :: Sum.inr (o, i) :: st, s, k) = zev zk_X6_wantFor_ (53, ls, st, (zup s.1 o i 12 x, s.2), k) := zf_put rfl h
theorem zr_X6_wantFor__53 (a1 : Option zAV) (st : List zAV) (s : zAS) (k : Nat × Nat) (o : Nat × Nat) : zev zk_X6_wantFor_ (53, [some (Sum.inr o), a1], st, s, k) = zev zk_X6_wantFor_ (54, [some (Sum.inr o), a1], Sum.inr o :: st, s, k) := zev_go rfl rfl
theorem zr_X6_wantFor__54 (ls : zLs) (st : List zAV) (s : zAS) (k : Nat × Nat) (r : zAV) (h : zcok zEC 6 0 0 (zR_X6_wantFor_).cells (zR_X6_wantFor_).slots r st k) : zev zk_X6_wantFor_ (54, ls, r :: st, s, k) = zret zk_X6_wantFor_ 57 ls st (k.1 + 0, k.2 + 0) (m_X6_wantParents [r] s) := zf_callV (as := []) 0 rfl rfl h
theorem zr_X6_wantFor__57 (ls : zLs) (s : zAS) (k : Nat × Nat) : zev zk_X6_wantFor_ (57, ls, [], s, k) = some (.inl none, s) := zev_end rfl rfl
/-! X7_clear: PrimePlane$Trail.clear()V -/
abbrev zR_X7_clear : Room := ({ frames := 0, cells := 0, slots := 0, locals := 0 } : Room)
noncomputable def zl_X7_clear : List (Nat × zOp) := [(0, z_lda 0 1), (1, z_get zEC 7 0 4), (4, z_ic (0) 5), (5, z_put zEC 6 2 false 8), (8, z_lda 0 9), (9, z_ic (0) 10), (10, z_put zEC 7 1 false 13), (13, z_retv)]
noncomputable def zk_X7_clear (pc : Nat) : Option zOp := zlook zl_X7_clear pc
noncomputable def m_X7_clear : List zAV → zAS → Option zOut := zmeth zk_X7_clear 1
set_option maxRecDepth 100000 in
set_option maxHeartbeats 4000000 in
theorem zcs_X7_clear {R : Room} (hR : R = zR_X7_clear) : ∀ q ∈ zl_X7_clear, zS zEC yX7_clear.cls cX7_clear 1 wsX7_clear none R q.1 q.2 := by
  subst hR
  have hin6 : ∀ w ∈ wsX60, w ∈ wsX7_clear := fun w h => List.mem_cons_of_mem _ (List.mem_append_right _ h)
  have hin7 : ∀ w ∈ wsX70, w ∈ wsX7_clear := fun w h => List.mem_cons_of_mem _ (List.mem_append_left _ (List.mem_append_right _ h))
  refine List.forall_mem_cons.mpr ⟨zs_aload_n dX7_clear_0 rfl, ?_⟩
  refine List.forall_mem_cons.mpr ⟨zs_get (ci := 7) (j := 0) (N := 2) (C := RX7) (T := TX7) (index := 10) rfl (by decide) hin7 (List.mem_of_getElem? (i := 1) rfl) dX7_clear_1, ?_⟩
  refine List.forall_mem_cons.mpr ⟨zs_iconst dX7_clear_4 (by decide), ?_⟩
  refine List.forall_mem_cons.mpr ⟨zs_put (ci := 6) (j := 2) (N := 3) (C := RX6) (T := TX6) (index := 16) (b := false) .int tyX6 rfl (by decide) hin6 tyX6_ok nmX6 (List.mem_of_getElem? (i := 2) rfl) rfl (by decide +kernel) zni dX7_clear_5, ?_⟩
  refine List.forall_mem_cons.mpr ⟨zs_aload_n dX7_clear_8 rfl, ?_⟩
  refine List.forall_mem_cons.mpr ⟨zs_iconst dX7_clear_9 (by decide), ?_⟩
  refine List.forall_mem_cons.mpr ⟨zs_put (ci := 7) (j := 1) (N := 2) (C := RX7) (T := TX7) (index := 20) (b := false) .int tyX7 rfl (by decide) hin7 tyX7_ok nmX7 (List.mem_of_getElem? (i := 3) rfl) rfl (by decide +kernel) zni dX7_clear_10, ?_⟩
  refine List.forall_mem_cons.mpr ⟨zs_retv rfl dX7_clear_13, ?_⟩
  exact fun _ h => absurd h List.not_mem_nil
theorem zM_X7_clear : zMeets zEC yX7_clear wsX7_clear zR_X7_clear m_X7_clear := zmeth_M zECok (zlook_all (zcs_X7_clear rfl)) (by decide +kernel) rfl
theorem zr_X7_clear_0 (st : List zAV) (s : zAS) (k : Nat × Nat) (o : Nat × Nat) : zev zk_X7_clear (0, [some (Sum.inr o)], st, s, k) = zev zk_X7_clear (1, [some (Sum.inr o)], Sum.inr o :: st, s, k) := zev_go rfl rfl
theorem zr_X7_clear_1 (ls : zLs) (st : List zAV) (s : zAS) (k : Nat × Nat) (o i : Nat) : zev zk_X7_clear (1, ls, Sum.inr (o, i) :: st, s, k) = zpush zk_X7_clear 4 ls st s k (zgv zEC 7 0 o i s.1) := zf_get rfl
theorem zr_X7_clear_4 (ls : zLs) (st : List zAV) (s : zAS) (k : Nat × Nat) : zev zk_X7_clear (4, ls, st, s, k) = zev zk_X7_clear (5, ls, Sum.inl (Value.int (0)) :: st, s, k) := zev_go rfl rfl
theorem zr_X7_clear_5 (ls : zLs) (st : List zAV) (s : zAS) (k : Nat × Nat) (o i : Nat) (x : Int32) (h : zpok zEC 6 2 false o i x) : zev zk_X7_clear (5, ls, Sum.inl (Value.int x) :: Sum.inr (o, i) :: st, s, k) = zev zk_X7_clear (8, ls, st, (zup s.1 o i 2 x, s.2), k) := zf_put rfl h
theorem zr_X7_clear_8 (st : List zAV) (s : zAS) (k : Nat × Nat) (o : Nat × Nat) : zev zk_X7_clear (8, [some (Sum.inr o)], st, s, k) = zev zk_X7_clear (9, [some (Sum.inr o)], Sum.inr o :: st, s, k) := zev_go rfl rfl
theorem zr_X7_clear_9 (ls : zLs) (st : List zAV) (s : zAS) (k : Nat × Nat) : zev zk_X7_clear (9, ls, st, s, k) = zev zk_X7_clear (10, ls, Sum.inl (Value.int (0)) :: st, s, k) := zev_go rfl rfl
theorem zr_X7_clear_10 (ls : zLs) (st : List zAV) (s : zAS) (k : Nat × Nat) (o i : Nat) (x : Int32) (h : zpok zEC 7 1 false o i x) : zev zk_X7_clear (10, ls, Sum.inl (Value.int x) :: Sum.inr (o, i) :: st, s, k) = zev zk_X7_clear (13, ls, st, (zup s.1 o i 1 x, s.2), k) := zf_put rfl h
theorem zr_X7_clear_13 (ls : zLs) (s : zAS) (k : Nat × Nat) : zev zk_X7_clear (13, ls, [], s, k) = some (.inl none, s) := zev_end rfl rfl
/-! X7_knows: PrimePlane$Trail.knows(LPrimePlane$Figure;)Z -/
abbrev zR_X7_knows : Room := ({ frames := 1, cells := 0, slots := 0, locals := 22 } : Room)
noncomputable def zl_X7_knows : List (Nat × zOp) := [(0, z_ic (0) 1), (1, z_sti 2 2), (2, z_ldi 2 3), (3, z_lda 0 4), (4, z_get zEC 7 0 7), (7, z_get zEC 6 2 10), (10, z_cmp (fun x y => decide (y ≤ x)) 36 13), (13, z_lda 0 14), (14, z_get zEC 7 0 17), (17, z_ldi 2 18), (18, z_callV zEC 6 m_X6_at 1 0 0 (zR_X7_knows).cells (zR_X7_knows).slots 21), (21, z_lda 1 22), (22, z_callV zEC 4 m_X4_isLike 1 0 0 (zR_X7_knows).cells (zR_X7_knows).slots 25), (25, z_if (fun x => decide (x = 0)) 30 28), (28, z_ic (1) 29), (29, z_reti true), (30, z_iinc 2 (1) 33), (33, z_goto 2), (36, z_ic (0) 37), (37, z_reti true)]
noncomputable def zk_X7_knows (pc : Nat) : Option zOp := zlook zl_X7_knows pc
noncomputable def m_X7_knows : List zAV → zAS → Option zOut := zmeth zk_X7_knows 3
set_option maxRecDepth 100000 in
set_option maxHeartbeats 4000000 in
theorem zcs_X7_knows {R : Room} (hR : R = zR_X7_knows) : ∀ q ∈ zl_X7_knows, zS zEC yX7_knows.cls cX7_knows 3 wsX7_knows (some .boolean) R q.1 q.2 := by
  subst hR
  have hin6 : ∀ w ∈ wsX60, w ∈ wsX7_knows := fun w h => List.mem_cons_of_mem _ (List.mem_append_left _ (List.mem_append_right _ h))
  have hin7 : ∀ w ∈ wsX70, w ∈ wsX7_knows := fun w h => List.mem_cons_of_mem _ (List.mem_append_left _ (List.mem_append_left _ (List.mem_append_right _ h)))
  refine List.forall_mem_cons.mpr ⟨zs_iconst dX7_knows_0 (by decide), ?_⟩
  refine List.forall_mem_cons.mpr ⟨zs_istore_n dX7_knows_1 rfl, ?_⟩
  refine List.forall_mem_cons.mpr ⟨zs_iload_n dX7_knows_2 rfl, ?_⟩
  refine List.forall_mem_cons.mpr ⟨zs_aload_n dX7_knows_3 rfl, ?_⟩
  refine List.forall_mem_cons.mpr ⟨zs_get (ci := 7) (j := 0) (N := 2) (C := RX7) (T := TX7) (index := 10) rfl (by decide) hin7 (List.mem_of_getElem? (i := 1) rfl) dX7_knows_4, ?_⟩
  refine List.forall_mem_cons.mpr ⟨zs_get (ci := 6) (j := 2) (N := 3) (C := RX6) (T := TX6) (index := 16) rfl (by decide) hin6 (List.mem_of_getElem? (i := 2) rfl) dX7_knows_7, ?_⟩
  refine List.forall_mem_cons.mpr ⟨zs_icge dX7_knows_10 (by decide), ?_⟩
  refine List.forall_mem_cons.mpr ⟨zs_aload_n dX7_knows_13 rfl, ?_⟩
  refine List.forall_mem_cons.mpr ⟨zs_get (ci := 7) (j := 0) (N := 2) (C := RX7) (T := TX7) (index := 10) rfl (by decide) hin7 (List.mem_of_getElem? (i := 1) rfl) dX7_knows_14, ?_⟩
  refine List.forall_mem_cons.mpr ⟨zs_iload_n dX7_knows_17 rfl, ?_⟩
  refine List.forall_mem_cons.mpr ⟨zs_callV (ci := 6) (rm := zR_X6_at) (n := 1) rfl zM_X6_at gX7_knows_X6_at rfl (by decide +kernel) ⟨by decide, by decide⟩ dX7_knows_18, ?_⟩
  refine List.forall_mem_cons.mpr ⟨zs_aload_n dX7_knows_21 rfl, ?_⟩
  refine List.forall_mem_cons.mpr ⟨zs_callV (ci := 4) (rm := zR_X4_isLike) (n := 1) rfl zM_X4_isLike gX7_knows_X4_isLike rfl (by decide +kernel) ⟨by decide, by decide⟩ dX7_knows_22, ?_⟩
  refine List.forall_mem_cons.mpr ⟨zs_ifeq dX7_knows_25 (by decide), ?_⟩
  refine List.forall_mem_cons.mpr ⟨zs_iconst dX7_knows_28 (by decide), ?_⟩
  refine List.forall_mem_cons.mpr ⟨zs_reti (ty := .boolean) rfl (fun x h => (znz x h).1) dX7_knows_29, ?_⟩
  refine List.forall_mem_cons.mpr ⟨zs_iinc dX7_knows_30 (by decide), ?_⟩
  refine List.forall_mem_cons.mpr ⟨zs_goto dX7_knows_33 (by decide), ?_⟩
  refine List.forall_mem_cons.mpr ⟨zs_iconst dX7_knows_36 (by decide), ?_⟩
  refine List.forall_mem_cons.mpr ⟨zs_reti (ty := .boolean) rfl (fun x h => (znz x h).1) dX7_knows_37, ?_⟩
  exact fun _ h => absurd h List.not_mem_nil
theorem zM_X7_knows : zMeets zEC yX7_knows wsX7_knows zR_X7_knows m_X7_knows := zmeth_M zECok (zlook_all (zcs_X7_knows rfl)) (by decide +kernel) rfl
theorem zr_X7_knows_0 (ls : zLs) (st : List zAV) (s : zAS) (k : Nat × Nat) : zev zk_X7_knows (0, ls, st, s, k) = zev zk_X7_knows (1, ls, Sum.inl (Value.int (0)) :: st, s, k) := zev_go rfl rfl
theorem zr_X7_knows_1 (a0 a1 a2 : Option zAV) (st : List zAV) (s : zAS) (k : Nat × Nat) (x : Int32) : zev zk_X7_knows (1, [a0, a1, a2], Sum.inl (Value.int x) :: st, s, k) = zev zk_X7_knows (2, [a0, zk1 a1, some (Sum.inl (Value.int x))], st, s, k) := zev_go rfl rfl
theorem zr_X7_knows_2 (a0 a1 : Option zAV) (st : List zAV) (s : zAS) (k : Nat × Nat) (x : Int32) : zev zk_X7_knows (2, [a0, a1, some (Sum.inl (Value.int x))], st, s, k) = zev zk_X7_knows (3, [a0, a1, some (Sum.inl (Value.int x))], Sum.inl (Value.int x) :: st, s, k) := zev_go rfl rfl
theorem zr_X7_knows_3 (a1 a2 : Option zAV) (st : List zAV) (s : zAS) (k : Nat × Nat) (o : Nat × Nat) : zev zk_X7_knows (3, [some (Sum.inr o), a1, a2], st, s, k) = zev zk_X7_knows (4, [some (Sum.inr o), a1, a2], Sum.inr o :: st, s, k) := zev_go rfl rfl
theorem zr_X7_knows_4 (ls : zLs) (st : List zAV) (s : zAS) (k : Nat × Nat) (o i : Nat) : zev zk_X7_knows (4, ls, Sum.inr (o, i) :: st, s, k) = zpush zk_X7_knows 7 ls st s k (zgv zEC 7 0 o i s.1) := zf_get rfl
theorem zr_X7_knows_7 (ls : zLs) (st : List zAV) (s : zAS) (k : Nat × Nat) (o i : Nat) : zev zk_X7_knows (7, ls, Sum.inr (o, i) :: st, s, k) = zpush zk_X7_knows 10 ls st s k (zgv zEC 6 2 o i s.1) := zf_get rfl
theorem zr_X7_knows_10 (ls : zLs) (st : List zAV) (s : zAS) (k : Nat × Nat) (x y : Int32) : zev zk_X7_knows (10, ls, Sum.inl (Value.int y) :: Sum.inl (Value.int x) :: st, s, k) = if decide (y ≤ x) = true then zev zk_X7_knows (36, ls, st, s, k) else zev zk_X7_knows (13, ls, st, s, k) := zf_cmp (f := fun x y => decide (y ≤ x)) rfl
theorem zr_X7_knows_13 (a1 a2 : Option zAV) (st : List zAV) (s : zAS) (k : Nat × Nat) (o : Nat × Nat) : zev zk_X7_knows (13, [some (Sum.inr o), a1, a2], st, s, k) = zev zk_X7_knows (14, [some (Sum.inr o), a1, a2], Sum.inr o :: st, s, k) := zev_go rfl rfl
theorem zr_X7_knows_14 (ls : zLs) (st : List zAV) (s : zAS) (k : Nat × Nat) (o i : Nat) : zev zk_X7_knows (14, ls, Sum.inr (o, i) :: st, s, k) = zpush zk_X7_knows 17 ls st s k (zgv zEC 7 0 o i s.1) := zf_get rfl
theorem zr_X7_knows_17 (a0 a1 : Option zAV) (st : List zAV) (s : zAS) (k : Nat × Nat) (x : Int32) : zev zk_X7_knows (17, [a0, a1, some (Sum.inl (Value.int x))], st, s, k) = zev zk_X7_knows (18, [a0, a1, some (Sum.inl (Value.int x))], Sum.inl (Value.int x) :: st, s, k) := zev_go rfl rfl
theorem zr_X7_knows_18 (ls : zLs) (st : List zAV) (s : zAS) (k : Nat × Nat) (r v0 : zAV) (h : zcok zEC 6 0 0 (zR_X7_knows).cells (zR_X7_knows).slots r st k) : zev zk_X7_knows (18, ls, v0 :: r :: st, s, k) = zret zk_X7_knows 21 ls st (k.1 + 0, k.2 + 0) (m_X6_at [r, v0] s) := zf_callV (as := [v0]) 1 rfl rfl h
theorem zr_X7_knows_21 (a0 a2 : Option zAV) (st : List zAV) (s : zAS) (k : Nat × Nat) (o : Nat × Nat) : zev zk_X7_knows (21, [a0, some (Sum.inr o), a2], st, s, k) = zev zk_X7_knows (22, [a0, some (Sum.inr o), a2], Sum.inr o :: st, s, k) := zev_go rfl rfl
theorem zr_X7_knows_22 (ls : zLs) (st : List zAV) (s : zAS) (k : Nat × Nat) (r v0 : zAV) (h : zcok zEC 4 0 0 (zR_X7_knows).cells (zR_X7_knows).slots r st k) : zev zk_X7_knows (22, ls, v0 :: r :: st, s, k) = zret zk_X7_knows 25 ls st (k.1 + 0, k.2 + 0) (m_X4_isLike [r, v0] s) := zf_callV (as := [v0]) 1 rfl rfl h
theorem zr_X7_knows_25 (ls : zLs) (st : List zAV) (s : zAS) (k : Nat × Nat) (x : Int32) : zev zk_X7_knows (25, ls, Sum.inl (Value.int x) :: st, s, k) = if decide (x = 0) = true then zev zk_X7_knows (30, ls, st, s, k) else zev zk_X7_knows (28, ls, st, s, k) := zf_if (f := fun x => decide (x = 0)) rfl
theorem zr_X7_knows_28 (ls : zLs) (st : List zAV) (s : zAS) (k : Nat × Nat) : zev zk_X7_knows (28, ls, st, s, k) = zev zk_X7_knows (29, ls, Sum.inl (Value.int (1)) :: st, s, k) := zev_go rfl rfl
theorem zr_X7_knows_29 (ls : zLs) (s : zAS) (k : Nat × Nat) (x : Int32) (hx : x = 0 ∨ x = 1) : zev zk_X7_knows (29, ls, [Sum.inl (Value.int x)], s, k) = some (.inl (some (Sum.inl (Value.int x))), s) := zf_retz rfl hx
theorem zr_X7_knows_30 (a0 a1 : Option zAV) (st : List zAV) (s : zAS) (k : Nat × Nat) (x : Int32) : zev zk_X7_knows (30, [a0, a1, some (Sum.inl (Value.int x))], st, s, k) = zev zk_X7_knows (33, [a0, zk1 a1, some (Sum.inl (Value.int (x + (1))))], st, s, k) := zev_go rfl rfl
theorem zr_X7_knows_33 (ls : zLs) (st : List zAV) (s : zAS) (k : Nat × Nat) : zev zk_X7_knows (33, ls, st, s, k) = zev zk_X7_knows (2, ls, st, s, k) := zev_go rfl rfl
theorem zr_X7_knows_36 (ls : zLs) (st : List zAV) (s : zAS) (k : Nat × Nat) : zev zk_X7_knows (36, ls, st, s, k) = zev zk_X7_knows (37, ls, Sum.inl (Value.int (0)) :: st, s, k) := zev_go rfl rfl
theorem zr_X7_knows_37 (ls : zLs) (s : zAS) (k : Nat × Nat) (x : Int32) (hx : x = 0 ∨ x = 1) : zev zk_X7_knows (37, ls, [Sum.inl (Value.int x)], s, k) = some (.inl (some (Sum.inl (Value.int x))), s) := zf_retz rfl hx
/-! X7_look: PrimePlane$Trail.look(LPrimePlane$Figure;)V -/
abbrev zR_X7_look : Room := ({ frames := 2, cells := 0, slots := 0, locals := 44 } : Room)
noncomputable def zl_X7_look : List (Nat × zOp) := [(0, z_lda 1 1), (1, z_get zEC 4 7 4), (4, z_if (fun x => decide (x = 0)) 20 7), (7, z_lda 0 8), (8, z_dup 9), (9, z_get zEC 7 1 12), (12, z_ic (1) 13), (13, z_bin (fun x y => x + y) 14), (14, z_put zEC 7 1 false 17), (17, z_goto 47), (20, z_lda 0 21), (21, z_lda 1 22), (22, z_callV zEC 7 m_X7_knows 1 0 0 (zR_X7_look).cells (zR_X7_look).slots 25), (25, z_if (fun x => decide (¬ x = 0)) 47 28), (28, z_lda 0 29), (29, z_get zEC 7 0 32), (32, z_callV zEC 6 m_X6_next 0 0 0 (zR_X7_look).cells (zR_X7_look).slots 35), (35, z_lda 1 36), (36, z_get zEC 4 8 39), (39, z_lda 1 40), (40, z_get zEC 4 9 43), (43, z_ic (0) 44), (44, z_callV zEC 4 m_X4_put 3 0 0 (zR_X7_look).cells (zR_X7_look).slots 47), (47, z_retv)]
noncomputable def zk_X7_look (pc : Nat) : Option zOp := zlook zl_X7_look pc
noncomputable def m_X7_look : List zAV → zAS → Option zOut := zmeth zk_X7_look 2
set_option maxRecDepth 100000 in
set_option maxHeartbeats 4000000 in
theorem zcs_X7_look {R : Room} (hR : R = zR_X7_look) : ∀ q ∈ zl_X7_look, zS zEC yX7_look.cls cX7_look 2 wsX7_look none R q.1 q.2 := by
  subst hR
  have hin4 : ∀ w ∈ wsX40, w ∈ wsX7_look := fun w h => List.mem_cons_of_mem _ (List.mem_append_left _ (List.mem_append_left _ (List.mem_append_right _ h)))
  have hin7 : ∀ w ∈ wsX70, w ∈ wsX7_look := fun w h => List.mem_cons_of_mem _ (List.mem_append_left _ (List.mem_append_right _ h))
  refine List.forall_mem_cons.mpr ⟨zs_aload_n dX7_look_0 rfl, ?_⟩
  refine List.forall_mem_cons.mpr ⟨zs_get (ci := 4) (j := 7) (N := 13) (C := RX4) (T := TX4) (index := 23) rfl (by decide) hin4 (List.mem_of_getElem? (i := 1) rfl) dX7_look_1, ?_⟩
  refine List.forall_mem_cons.mpr ⟨zs_ifeq dX7_look_4 (by decide), ?_⟩
  refine List.forall_mem_cons.mpr ⟨zs_aload_n dX7_look_7 rfl, ?_⟩
  refine List.forall_mem_cons.mpr ⟨zs_dup dX7_look_8, ?_⟩
  refine List.forall_mem_cons.mpr ⟨zs_get (ci := 7) (j := 1) (N := 2) (C := RX7) (T := TX7) (index := 20) rfl (by decide) hin7 (List.mem_of_getElem? (i := 2) rfl) dX7_look_9, ?_⟩
  refine List.forall_mem_cons.mpr ⟨zs_iconst dX7_look_12 (by decide), ?_⟩
  refine List.forall_mem_cons.mpr ⟨zs_iadd dX7_look_13, ?_⟩
  refine List.forall_mem_cons.mpr ⟨zs_put (ci := 7) (j := 1) (N := 2) (C := RX7) (T := TX7) (index := 20) (b := false) .int tyX7 rfl (by decide) hin7 tyX7_ok nmX7 (List.mem_of_getElem? (i := 2) rfl) rfl (by decide +kernel) zni dX7_look_14, ?_⟩
  refine List.forall_mem_cons.mpr ⟨zs_goto dX7_look_17 (by decide), ?_⟩
  refine List.forall_mem_cons.mpr ⟨zs_aload_n dX7_look_20 rfl, ?_⟩
  refine List.forall_mem_cons.mpr ⟨zs_aload_n dX7_look_21 rfl, ?_⟩
  refine List.forall_mem_cons.mpr ⟨zs_callV (ci := 7) (rm := zR_X7_knows) (n := 1) rfl zM_X7_knows gX7_look_X7_knows rfl (by decide +kernel) ⟨by decide, by decide⟩ dX7_look_22, ?_⟩
  refine List.forall_mem_cons.mpr ⟨zs_ifne dX7_look_25 (by decide), ?_⟩
  refine List.forall_mem_cons.mpr ⟨zs_aload_n dX7_look_28 rfl, ?_⟩
  refine List.forall_mem_cons.mpr ⟨zs_get (ci := 7) (j := 0) (N := 2) (C := RX7) (T := TX7) (index := 10) rfl (by decide) hin7 (List.mem_of_getElem? (i := 3) rfl) dX7_look_29, ?_⟩
  refine List.forall_mem_cons.mpr ⟨zs_callV (ci := 6) (rm := zR_X6_next) (n := 0) rfl zM_X6_next gX7_look_X6_next rfl (by decide +kernel) ⟨by decide, by decide⟩ dX7_look_32, ?_⟩
  refine List.forall_mem_cons.mpr ⟨zs_aload_n dX7_look_35 rfl, ?_⟩
  refine List.forall_mem_cons.mpr ⟨zs_get (ci := 4) (j := 8) (N := 13) (C := RX4) (T := TX4) (index := 37) rfl (by decide) hin4 (List.mem_of_getElem? (i := 4) rfl) dX7_look_36, ?_⟩
  refine List.forall_mem_cons.mpr ⟨zs_aload_n dX7_look_39 rfl, ?_⟩
  refine List.forall_mem_cons.mpr ⟨zs_get (ci := 4) (j := 9) (N := 13) (C := RX4) (T := TX4) (index := 40) rfl (by decide) hin4 (List.mem_of_getElem? (i := 5) rfl) dX7_look_40, ?_⟩
  refine List.forall_mem_cons.mpr ⟨zs_iconst dX7_look_43 (by decide), ?_⟩
  refine List.forall_mem_cons.mpr ⟨zs_callV (ci := 4) (rm := zR_X4_put) (n := 3) rfl zM_X4_put gX7_look_X4_put rfl (by decide +kernel) ⟨by decide, by decide⟩ dX7_look_44, ?_⟩
  refine List.forall_mem_cons.mpr ⟨zs_retv rfl dX7_look_47, ?_⟩
  exact fun _ h => absurd h List.not_mem_nil
theorem zM_X7_look : zMeets zEC yX7_look wsX7_look zR_X7_look m_X7_look := zmeth_M zECok (zlook_all (zcs_X7_look rfl)) (by decide +kernel) rfl
theorem zr_X7_look_0 (a0 : Option zAV) (st : List zAV) (s : zAS) (k : Nat × Nat) (o : Nat × Nat) : zev zk_X7_look (0, [a0, some (Sum.inr o)], st, s, k) = zev zk_X7_look (1, [a0, some (Sum.inr o)], Sum.inr o :: st, s, k) := zev_go rfl rfl
theorem zr_X7_look_1 (ls : zLs) (st : List zAV) (s : zAS) (k : Nat × Nat) (o i : Nat) : zev zk_X7_look (1, ls, Sum.inr (o, i) :: st, s, k) = zpush zk_X7_look 4 ls st s k (zgv zEC 4 7 o i s.1) := zf_get rfl
theorem zr_X7_look_4 (ls : zLs) (st : List zAV) (s : zAS) (k : Nat × Nat) (x : Int32) : zev zk_X7_look (4, ls, Sum.inl (Value.int x) :: st, s, k) = if decide (x = 0) = true then zev zk_X7_look (20, ls, st, s, k) else zev zk_X7_look (7, ls, st, s, k) := zf_if (f := fun x => decide (x = 0)) rfl
theorem zr_X7_look_7 (a1 : Option zAV) (st : List zAV) (s : zAS) (k : Nat × Nat) (o : Nat × Nat) : zev zk_X7_look (7, [some (Sum.inr o), a1], st, s, k) = zev zk_X7_look (8, [some (Sum.inr o), a1], Sum.inr o :: st, s, k) := zev_go rfl rfl
theorem zr_X7_look_8 (ls : zLs) (st : List zAV) (s : zAS) (k : Nat × Nat) (v : zAV) (hv : zc1 v = true) : zev zk_X7_look (8, ls, v :: st, s, k) = zev zk_X7_look (9, ls, v :: v :: st, s, k) := zf_dup rfl hv
theorem zr_X7_look_9 (ls : zLs) (st : List zAV) (s : zAS) (k : Nat × Nat) (o i : Nat) : zev zk_X7_look (9, ls, Sum.inr (o, i) :: st, s, k) = zpush zk_X7_look 12 ls st s k (zgv zEC 7 1 o i s.1) := zf_get rfl
theorem zr_X7_look_12 (ls : zLs) (st : List zAV) (s : zAS) (k : Nat × Nat) : zev zk_X7_look (12, ls, st, s, k) = zev zk_X7_look (13, ls, Sum.inl (Value.int (1)) :: st, s, k) := zev_go rfl rfl
theorem zr_X7_look_13 (ls : zLs) (st : List zAV) (s : zAS) (k : Nat × Nat) (x y : Int32) : zev zk_X7_look (13, ls, Sum.inl (Value.int y) :: Sum.inl (Value.int x) :: st, s, k) = zev zk_X7_look (14, ls, Sum.inl (Value.int (x + y)) :: st, s, k) := zev_go rfl rfl
theorem zr_X7_look_14 (ls : zLs) (st : List zAV) (s : zAS) (k : Nat × Nat) (o i : Nat) (x : Int32) (h : zpok zEC 7 1 false o i x) : zev zk_X7_look (14, ls, Sum.inl (Value.int x) :: Sum.inr (o, i) :: st, s, k) = zev zk_X7_look (17, ls, st, (zup s.1 o i 1 x, s.2), k) := zf_put rfl h
theorem zr_X7_look_17 (ls : zLs) (st : List zAV) (s : zAS) (k : Nat × Nat) : zev zk_X7_look (17, ls, st, s, k) = zev zk_X7_look (47, ls, st, s, k) := zev_go rfl rfl
theorem zr_X7_look_20 (a1 : Option zAV) (st : List zAV) (s : zAS) (k : Nat × Nat) (o : Nat × Nat) : zev zk_X7_look (20, [some (Sum.inr o), a1], st, s, k) = zev zk_X7_look (21, [some (Sum.inr o), a1], Sum.inr o :: st, s, k) := zev_go rfl rfl
theorem zr_X7_look_21 (a0 : Option zAV) (st : List zAV) (s : zAS) (k : Nat × Nat) (o : Nat × Nat) : zev zk_X7_look (21, [a0, some (Sum.inr o)], st, s, k) = zev zk_X7_look (22, [a0, some (Sum.inr o)], Sum.inr o :: st, s, k) := zev_go rfl rfl
theorem zr_X7_look_22 (ls : zLs) (st : List zAV) (s : zAS) (k : Nat × Nat) (r v0 : zAV) (h : zcok zEC 7 0 0 (zR_X7_look).cells (zR_X7_look).slots r st k) : zev zk_X7_look (22, ls, v0 :: r :: st, s, k) = zret zk_X7_look 25 ls st (k.1 + 0, k.2 + 0) (m_X7_knows [r, v0] s) := zf_callV (as := [v0]) 1 rfl rfl h
theorem zr_X7_look_25 (ls : zLs) (st : List zAV) (s : zAS) (k : Nat × Nat) (x : Int32) : zev zk_X7_look (25, ls, Sum.inl (Value.int x) :: st, s, k) = if decide (¬ x = 0) = true then zev zk_X7_look (47, ls, st, s, k) else zev zk_X7_look (28, ls, st, s, k) := zf_if (f := fun x => decide (¬ x = 0)) rfl
theorem zr_X7_look_28 (a1 : Option zAV) (st : List zAV) (s : zAS) (k : Nat × Nat) (o : Nat × Nat) : zev zk_X7_look (28, [some (Sum.inr o), a1], st, s, k) = zev zk_X7_look (29, [some (Sum.inr o), a1], Sum.inr o :: st, s, k) := zev_go rfl rfl
theorem zr_X7_look_29 (ls : zLs) (st : List zAV) (s : zAS) (k : Nat × Nat) (o i : Nat) : zev zk_X7_look (29, ls, Sum.inr (o, i) :: st, s, k) = zpush zk_X7_look 32 ls st s k (zgv zEC 7 0 o i s.1) := zf_get rfl
theorem zr_X7_look_32 (ls : zLs) (st : List zAV) (s : zAS) (k : Nat × Nat) (r : zAV) (h : zcok zEC 6 0 0 (zR_X7_look).cells (zR_X7_look).slots r st k) : zev zk_X7_look (32, ls, r :: st, s, k) = zret zk_X7_look 35 ls st (k.1 + 0, k.2 + 0) (m_X6_next [r] s) := zf_callV (as := []) 0 rfl rfl h
theorem zr_X7_look_35 (a0 : Option zAV) (st : List zAV) (s : zAS) (k : Nat × Nat) (o : Nat × Nat) : zev zk_X7_look (35, [a0, some (Sum.inr o)], st, s, k) = zev zk_X7_look (36, [a0, some (Sum.inr o)], Sum.inr o :: st, s, k) := zev_go rfl rfl
theorem zr_X7_look_36 (ls : zLs) (st : List zAV) (s : zAS) (k : Nat × Nat) (o i : Nat) : zev zk_X7_look (36, ls, Sum.inr (o, i) :: st, s, k) = zpush zk_X7_look 39 ls st s k (zgv zEC 4 8 o i s.1) := zf_get rfl
theorem zr_X7_look_39 (a0 : Option zAV) (st : List zAV) (s : zAS) (k : Nat × Nat) (o : Nat × Nat) : zev zk_X7_look (39, [a0, some (Sum.inr o)], st, s, k) = zev zk_X7_look (40, [a0, some (Sum.inr o)], Sum.inr o :: st, s, k) := zev_go rfl rfl
theorem zr_X7_look_40 (ls : zLs) (st : List zAV) (s : zAS) (k : Nat × Nat) (o i : Nat) : zev zk_X7_look (40, ls, Sum.inr (o, i) :: st, s, k) = zpush zk_X7_look 43 ls st s k (zgv zEC 4 9 o i s.1) := zf_get rfl
theorem zr_X7_look_43 (ls : zLs) (st : List zAV) (s : zAS) (k : Nat × Nat) : zev zk_X7_look (43, ls, st, s, k) = zev zk_X7_look (44, ls, Sum.inl (Value.int (0)) :: st, s, k) := zev_go rfl rfl
theorem zr_X7_look_44 (ls : zLs) (st : List zAV) (s : zAS) (k : Nat × Nat) (r v0 v1 v2 : zAV) (h : zcok zEC 4 0 0 (zR_X7_look).cells (zR_X7_look).slots r st k) : zev zk_X7_look (44, ls, v2 :: v1 :: v0 :: r :: st, s, k) = zret zk_X7_look 47 ls st (k.1 + 0, k.2 + 0) (m_X4_put [r, v0, v1, v2] s) := zf_callV (as := [v2, v1, v0]) 3 rfl rfl h
theorem zr_X7_look_47 (ls : zLs) (s : zAS) (k : Nat × Nat) : zev zk_X7_look (47, ls, [], s, k) = some (.inl none, s) := zev_end rfl rfl
/-! X7_sum: PrimePlane$Trail.sum(I)I -/
abbrev zR_X7_sum : Room := ({ frames := 1, cells := 0, slots := 0, locals := 22 } : Room)
noncomputable def zl_X7_sum : List (Nat × zOp) := [(0, z_ic (0) 1), (1, z_sti 2 2), (2, z_ic (0) 3), (3, z_sti 3 4), (4, z_ldi 3 5), (5, z_lda 0 6), (6, z_get zEC 7 0 9), (9, z_get zEC 6 2 12), (12, z_cmp (fun x y => decide (y ≤ x)) 47 15), (15, z_lda 0 16), (16, z_get zEC 7 0 19), (19, z_ldi 3 20), (20, z_callV zEC 6 m_X6_at 1 0 0 (zR_X7_sum).cells (zR_X7_sum).slots 23), (23, z_sta 4 25), (25, z_ldi 2 26), (26, z_ldi 1 27), (27, z_lda 4 29), (29, z_get zEC 4 8 32), (32, z_bin (fun x y => x * y) 33), (33, z_lda 4 35), (35, z_get zEC 4 9 38), (38, z_bin (fun x y => x + y) 39), (39, z_bin (fun x y => x + y) 40), (40, z_sti 2 41), (41, z_iinc 3 (1) 44), (44, z_goto 4), (47, z_ldi 2 48), (48, z_reti false)]
noncomputable def zk_X7_sum (pc : Nat) : Option zOp := zlook zl_X7_sum pc
noncomputable def m_X7_sum : List zAV → zAS → Option zOut := zmeth zk_X7_sum 5
set_option maxRecDepth 100000 in
set_option maxHeartbeats 4000000 in
theorem zcs_X7_sum {R : Room} (hR : R = zR_X7_sum) : ∀ q ∈ zl_X7_sum, zS zEC yX7_sum.cls cX7_sum 5 wsX7_sum (some .int) R q.1 q.2 := by
  subst hR
  have hin4 : ∀ w ∈ wsX40, w ∈ wsX7_sum := fun w h => List.mem_cons_of_mem _ (List.mem_append_right _ h)
  have hin6 : ∀ w ∈ wsX60, w ∈ wsX7_sum := fun w h => List.mem_cons_of_mem _ (List.mem_append_left _ (List.mem_append_right _ h))
  have hin7 : ∀ w ∈ wsX70, w ∈ wsX7_sum := fun w h => List.mem_cons_of_mem _ (List.mem_append_left _ (List.mem_append_left _ (List.mem_append_right _ h)))
  refine List.forall_mem_cons.mpr ⟨zs_iconst dX7_sum_0 (by decide), ?_⟩
  refine List.forall_mem_cons.mpr ⟨zs_istore_n dX7_sum_1 rfl, ?_⟩
  refine List.forall_mem_cons.mpr ⟨zs_iconst dX7_sum_2 (by decide), ?_⟩
  refine List.forall_mem_cons.mpr ⟨zs_istore_n dX7_sum_3 rfl, ?_⟩
  refine List.forall_mem_cons.mpr ⟨zs_iload_n dX7_sum_4 rfl, ?_⟩
  refine List.forall_mem_cons.mpr ⟨zs_aload_n dX7_sum_5 rfl, ?_⟩
  refine List.forall_mem_cons.mpr ⟨zs_get (ci := 7) (j := 0) (N := 2) (C := RX7) (T := TX7) (index := 10) rfl (by decide) hin7 (List.mem_of_getElem? (i := 1) rfl) dX7_sum_6, ?_⟩
  refine List.forall_mem_cons.mpr ⟨zs_get (ci := 6) (j := 2) (N := 3) (C := RX6) (T := TX6) (index := 16) rfl (by decide) hin6 (List.mem_of_getElem? (i := 2) rfl) dX7_sum_9, ?_⟩
  refine List.forall_mem_cons.mpr ⟨zs_icge dX7_sum_12 (by decide), ?_⟩
  refine List.forall_mem_cons.mpr ⟨zs_aload_n dX7_sum_15 rfl, ?_⟩
  refine List.forall_mem_cons.mpr ⟨zs_get (ci := 7) (j := 0) (N := 2) (C := RX7) (T := TX7) (index := 10) rfl (by decide) hin7 (List.mem_of_getElem? (i := 1) rfl) dX7_sum_16, ?_⟩
  refine List.forall_mem_cons.mpr ⟨zs_iload_n dX7_sum_19 rfl, ?_⟩
  refine List.forall_mem_cons.mpr ⟨zs_callV (ci := 6) (rm := zR_X6_at) (n := 1) rfl zM_X6_at gX7_sum_X6_at rfl (by decide +kernel) ⟨by decide, by decide⟩ dX7_sum_20, ?_⟩
  refine List.forall_mem_cons.mpr ⟨zs_astore dX7_sum_23, ?_⟩
  refine List.forall_mem_cons.mpr ⟨zs_iload_n dX7_sum_25 rfl, ?_⟩
  refine List.forall_mem_cons.mpr ⟨zs_iload_n dX7_sum_26 rfl, ?_⟩
  refine List.forall_mem_cons.mpr ⟨zs_aload dX7_sum_27, ?_⟩
  refine List.forall_mem_cons.mpr ⟨zs_get (ci := 4) (j := 8) (N := 13) (C := RX4) (T := TX4) (index := 37) rfl (by decide) hin4 (List.mem_of_getElem? (i := 3) rfl) dX7_sum_29, ?_⟩
  refine List.forall_mem_cons.mpr ⟨zs_imul dX7_sum_32, ?_⟩
  refine List.forall_mem_cons.mpr ⟨zs_aload dX7_sum_33, ?_⟩
  refine List.forall_mem_cons.mpr ⟨zs_get (ci := 4) (j := 9) (N := 13) (C := RX4) (T := TX4) (index := 40) rfl (by decide) hin4 (List.mem_of_getElem? (i := 4) rfl) dX7_sum_35, ?_⟩
  refine List.forall_mem_cons.mpr ⟨zs_iadd dX7_sum_38, ?_⟩
  refine List.forall_mem_cons.mpr ⟨zs_iadd dX7_sum_39, ?_⟩
  refine List.forall_mem_cons.mpr ⟨zs_istore_n dX7_sum_40 rfl, ?_⟩
  refine List.forall_mem_cons.mpr ⟨zs_iinc dX7_sum_41 (by decide), ?_⟩
  refine List.forall_mem_cons.mpr ⟨zs_goto dX7_sum_44 (by decide), ?_⟩
  refine List.forall_mem_cons.mpr ⟨zs_iload_n dX7_sum_47 rfl, ?_⟩
  refine List.forall_mem_cons.mpr ⟨zs_reti (ty := .int) rfl (fun x h => (zni x h).1) dX7_sum_48, ?_⟩
  exact fun _ h => absurd h List.not_mem_nil
theorem zM_X7_sum : zMeets zEC yX7_sum wsX7_sum zR_X7_sum m_X7_sum := zmeth_M zECok (zlook_all (zcs_X7_sum rfl)) (by decide +kernel) rfl
theorem zr_X7_sum_0 (ls : zLs) (st : List zAV) (s : zAS) (k : Nat × Nat) : zev zk_X7_sum (0, ls, st, s, k) = zev zk_X7_sum (1, ls, Sum.inl (Value.int (0)) :: st, s, k) := zev_go rfl rfl
theorem zr_X7_sum_1 (a0 a1 a2 a3 a4 : Option zAV) (st : List zAV) (s : zAS) (k : Nat × Nat) (x : Int32) : zev zk_X7_sum (1, [a0, a1, a2, a3, a4], Sum.inl (Value.int x) :: st, s, k) = zev zk_X7_sum (2, [a0, zk1 a1, some (Sum.inl (Value.int x)), a3, a4], st, s, k) := zev_go rfl rfl
theorem zr_X7_sum_2 (ls : zLs) (st : List zAV) (s : zAS) (k : Nat × Nat) : zev zk_X7_sum (2, ls, st, s, k) = zev zk_X7_sum (3, ls, Sum.inl (Value.int (0)) :: st, s, k) := zev_go rfl rfl
theorem zr_X7_sum_3 (a0 a1 a2 a3 a4 : Option zAV) (st : List zAV) (s : zAS) (k : Nat × Nat) (x : Int32) : zev zk_X7_sum (3, [a0, a1, a2, a3, a4], Sum.inl (Value.int x) :: st, s, k) = zev zk_X7_sum (4, [a0, a1, zk1 a2, some (Sum.inl (Value.int x)), a4], st, s, k) := zev_go rfl rfl
theorem zr_X7_sum_4 (a0 a1 a2 a4 : Option zAV) (st : List zAV) (s : zAS) (k : Nat × Nat) (x : Int32) : zev zk_X7_sum (4, [a0, a1, a2, some (Sum.inl (Value.int x)), a4], st, s, k) = zev zk_X7_sum (5, [a0, a1, a2, some (Sum.inl (Value.int x)), a4], Sum.inl (Value.int x) :: st, s, k) := zev_go rfl rfl
theorem zr_X7_sum_5 (a1 a2 a3 a4 : Option zAV) (st : List zAV) (s : zAS) (k : Nat × Nat) (o : Nat × Nat) : zev zk_X7_sum (5, [some (Sum.inr o), a1, a2, a3, a4], st, s, k) = zev zk_X7_sum (6, [some (Sum.inr o), a1, a2, a3, a4], Sum.inr o :: st, s, k) := zev_go rfl rfl
theorem zr_X7_sum_6 (ls : zLs) (st : List zAV) (s : zAS) (k : Nat × Nat) (o i : Nat) : zev zk_X7_sum (6, ls, Sum.inr (o, i) :: st, s, k) = zpush zk_X7_sum 9 ls st s k (zgv zEC 7 0 o i s.1) := zf_get rfl
theorem zr_X7_sum_9 (ls : zLs) (st : List zAV) (s : zAS) (k : Nat × Nat) (o i : Nat) : zev zk_X7_sum (9, ls, Sum.inr (o, i) :: st, s, k) = zpush zk_X7_sum 12 ls st s k (zgv zEC 6 2 o i s.1) := zf_get rfl
theorem zr_X7_sum_12 (ls : zLs) (st : List zAV) (s : zAS) (k : Nat × Nat) (x y : Int32) : zev zk_X7_sum (12, ls, Sum.inl (Value.int y) :: Sum.inl (Value.int x) :: st, s, k) = if decide (y ≤ x) = true then zev zk_X7_sum (47, ls, st, s, k) else zev zk_X7_sum (15, ls, st, s, k) := zf_cmp (f := fun x y => decide (y ≤ x)) rfl
theorem zr_X7_sum_15 (a1 a2 a3 a4 : Option zAV) (st : List zAV) (s : zAS) (k : Nat × Nat) (o : Nat × Nat) : zev zk_X7_sum (15, [some (Sum.inr o), a1, a2, a3, a4], st, s, k) = zev zk_X7_sum (16, [some (Sum.inr o), a1, a2, a3, a4], Sum.inr o :: st, s, k) := zev_go rfl rfl
theorem zr_X7_sum_16 (ls : zLs) (st : List zAV) (s : zAS) (k : Nat × Nat) (o i : Nat) : zev zk_X7_sum (16, ls, Sum.inr (o, i) :: st, s, k) = zpush zk_X7_sum 19 ls st s k (zgv zEC 7 0 o i s.1) := zf_get rfl
theorem zr_X7_sum_19 (a0 a1 a2 a4 : Option zAV) (st : List zAV) (s : zAS) (k : Nat × Nat) (x : Int32) : zev zk_X7_sum (19, [a0, a1, a2, some (Sum.inl (Value.int x)), a4], st, s, k) = zev zk_X7_sum (20, [a0, a1, a2, some (Sum.inl (Value.int x)), a4], Sum.inl (Value.int x) :: st, s, k) := zev_go rfl rfl
theorem zr_X7_sum_20 (ls : zLs) (st : List zAV) (s : zAS) (k : Nat × Nat) (r v0 : zAV) (h : zcok zEC 6 0 0 (zR_X7_sum).cells (zR_X7_sum).slots r st k) : zev zk_X7_sum (20, ls, v0 :: r :: st, s, k) = zret zk_X7_sum 23 ls st (k.1 + 0, k.2 + 0) (m_X6_at [r, v0] s) := zf_callV (as := [v0]) 1 rfl rfl h
theorem zr_X7_sum_23 (a0 a1 a2 a3 a4 : Option zAV) (st : List zAV) (s : zAS) (k : Nat × Nat) (o : Nat × Nat) : zev zk_X7_sum (23, [a0, a1, a2, a3, a4], Sum.inr o :: st, s, k) = zev zk_X7_sum (25, [a0, a1, a2, zk1 a3, some (Sum.inr o)], st, s, k) := zev_go rfl rfl
theorem zr_X7_sum_25 (a0 a1 a3 a4 : Option zAV) (st : List zAV) (s : zAS) (k : Nat × Nat) (x : Int32) : zev zk_X7_sum (25, [a0, a1, some (Sum.inl (Value.int x)), a3, a4], st, s, k) = zev zk_X7_sum (26, [a0, a1, some (Sum.inl (Value.int x)), a3, a4], Sum.inl (Value.int x) :: st, s, k) := zev_go rfl rfl
theorem zr_X7_sum_26 (a0 a2 a3 a4 : Option zAV) (st : List zAV) (s : zAS) (k : Nat × Nat) (x : Int32) : zev zk_X7_sum (26, [a0, some (Sum.inl (Value.int x)), a2, a3, a4], st, s, k) = zev zk_X7_sum (27, [a0, some (Sum.inl (Value.int x)), a2, a3, a4], Sum.inl (Value.int x) :: st, s, k) := zev_go rfl rfl
theorem zr_X7_sum_27 (a0 a1 a2 a3 : Option zAV) (st : List zAV) (s : zAS) (k : Nat × Nat) (o : Nat × Nat) : zev zk_X7_sum (27, [a0, a1, a2, a3, some (Sum.inr o)], st, s, k) = zev zk_X7_sum (29, [a0, a1, a2, a3, some (Sum.inr o)], Sum.inr o :: st, s, k) := zev_go rfl rfl
theorem zr_X7_sum_29 (ls : zLs) (st : List zAV) (s : zAS) (k : Nat × Nat) (o i : Nat) : zev zk_X7_sum (29, ls, Sum.inr (o, i) :: st, s, k) = zpush zk_X7_sum 32 ls st s k (zgv zEC 4 8 o i s.1) := zf_get rfl
theorem zr_X7_sum_32 (ls : zLs) (st : List zAV) (s : zAS) (k : Nat × Nat) (x y : Int32) : zev zk_X7_sum (32, ls, Sum.inl (Value.int y) :: Sum.inl (Value.int x) :: st, s, k) = zev zk_X7_sum (33, ls, Sum.inl (Value.int (x * y)) :: st, s, k) := zev_go rfl rfl
theorem zr_X7_sum_33 (a0 a1 a2 a3 : Option zAV) (st : List zAV) (s : zAS) (k : Nat × Nat) (o : Nat × Nat) : zev zk_X7_sum (33, [a0, a1, a2, a3, some (Sum.inr o)], st, s, k) = zev zk_X7_sum (35, [a0, a1, a2, a3, some (Sum.inr o)], Sum.inr o :: st, s, k) := zev_go rfl rfl
theorem zr_X7_sum_35 (ls : zLs) (st : List zAV) (s : zAS) (k : Nat × Nat) (o i : Nat) : zev zk_X7_sum (35, ls, Sum.inr (o, i) :: st, s, k) = zpush zk_X7_sum 38 ls st s k (zgv zEC 4 9 o i s.1) := zf_get rfl
theorem zr_X7_sum_38 (ls : zLs) (st : List zAV) (s : zAS) (k : Nat × Nat) (x y : Int32) : zev zk_X7_sum (38, ls, Sum.inl (Value.int y) :: Sum.inl (Value.int x) :: st, s, k) = zev zk_X7_sum (39, ls, Sum.inl (Value.int (x + y)) :: st, s, k) := zev_go rfl rfl
theorem zr_X7_sum_39 (ls : zLs) (st : List zAV) (s : zAS) (k : Nat × Nat) (x y : Int32) : zev zk_X7_sum (39, ls, Sum.inl (Value.int y) :: Sum.inl (Value.int x) :: st, s, k) = zev zk_X7_sum (40, ls, Sum.inl (Value.int (x + y)) :: st, s, k) := zev_go rfl rfl
theorem zr_X7_sum_40 (a0 a1 a2 a3 a4 : Option zAV) (st : List zAV) (s : zAS) (k : Nat × Nat) (x : Int32) : zev zk_X7_sum (40, [a0, a1, a2, a3, a4], Sum.inl (Value.int x) :: st, s, k) = zev zk_X7_sum (41, [a0, zk1 a1, some (Sum.inl (Value.int x)), a3, a4], st, s, k) := zev_go rfl rfl
theorem zr_X7_sum_41 (a0 a1 a2 a4 : Option zAV) (st : List zAV) (s : zAS) (k : Nat × Nat) (x : Int32) : zev zk_X7_sum (41, [a0, a1, a2, some (Sum.inl (Value.int x)), a4], st, s, k) = zev zk_X7_sum (44, [a0, a1, zk1 a2, some (Sum.inl (Value.int (x + (1)))), a4], st, s, k) := zev_go rfl rfl
theorem zr_X7_sum_44 (ls : zLs) (st : List zAV) (s : zAS) (k : Nat × Nat) : zev zk_X7_sum (44, ls, st, s, k) = zev zk_X7_sum (4, ls, st, s, k) := zev_go rfl rfl
theorem zr_X7_sum_47 (a0 a1 a3 a4 : Option zAV) (st : List zAV) (s : zAS) (k : Nat × Nat) (x : Int32) : zev zk_X7_sum (47, [a0, a1, some (Sum.inl (Value.int x)), a3, a4], st, s, k) = zev zk_X7_sum (48, [a0, a1, some (Sum.inl (Value.int x)), a3, a4], Sum.inl (Value.int x) :: st, s, k) := zev_go rfl rfl
theorem zr_X7_sum_48 (ls : zLs) (s : zAS) (k : Nat × Nat) (x : Int32) : zev zk_X7_sum (48, ls, [Sum.inl (Value.int x)], s, k) = some (.inl (some (Sum.inl (Value.int x))), s) := zf_reti rfl
