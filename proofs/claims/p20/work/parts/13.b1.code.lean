/-! X2_mirror: PrimePlane$Compass.mirror(LPrimePlane$Figure;LPrimePlane$Figure;LPrimePlane$Figure;)Z -/
abbrev zR_X2_mirror : Room := ({ frames := 3, cells := 0, slots := 0, locals := 66 } : Room)
noncomputable def zl_X2_mirror : List (Nat × zOp) := [(0, z_lda 0 1), (1, z_get zEC 2 0 4), (4, z_ic (2) 5), (5, z_lda 0 6), (6, z_lda 2 7), (7, z_lda 3 8), (8, z_callV zEC 2 m_X2_power 2 0 0 (zR_X2_mirror).cells (zR_X2_mirror).slots 11), (11, z_bin (fun x y => x * y) 12), (12, z_lda 3 13), (13, z_get zEC 4 8 16), (16, z_lda 3 17), (17, z_get zEC 4 8 20), (20, z_bin (fun x y => x * y) 21), (21, z_lda 3 22), (22, z_get zEC 4 9 25), (25, z_lda 3 26), (26, z_get zEC 4 9 29), (29, z_bin (fun x y => x * y) 30), (30, z_bin (fun x y => x + y) 31), (31, z_callV zEC 3 m_X3_ratio 2 0 0 (zR_X2_mirror).cells (zR_X2_mirror).slots 34), (34, z_sti 4 36), (36, z_lda 0 37), (37, z_lda 1 38), (38, z_lda 2 39), (39, z_get zEC 4 8 42), (42, z_ldi 4 44), (44, z_lda 3 45), (45, z_get zEC 4 8 48), (48, z_bin (fun x y => x * y) 49), (49, z_bin (fun x y => x - y) 50), (50, z_lda 2 51), (51, z_get zEC 4 9 54), (54, z_ldi 4 56), (56, z_lda 3 57), (57, z_get zEC 4 9 60), (60, z_bin (fun x y => x * y) 61), (61, z_bin (fun x y => x - y) 62), (62, z_callV zEC 2 m_X2_putPoint 3 0 0 (zR_X2_mirror).cells (zR_X2_mirror).slots 65), (65, z_reti true)]
noncomputable def zk_X2_mirror (pc : Nat) : Option zOp := zlook zl_X2_mirror pc
noncomputable def m_X2_mirror : List zAV → zAS → Option zOut := zmeth zk_X2_mirror 5
set_option maxRecDepth 100000 in
set_option maxHeartbeats 4000000 in
theorem zcs_X2_mirror {R : Room} (hR : R = zR_X2_mirror) : ∀ q ∈ zl_X2_mirror, zS zEC yX2_mirror.cls cX2_mirror 5 wsX2_mirror (some .boolean) R q.1 q.2 := by
  subst hR
  have hin2 : ∀ w ∈ wsX20, w ∈ wsX2_mirror := fun w h => List.mem_cons_of_mem _ (List.mem_append_left _ (List.mem_append_left _ (List.mem_append_right _ h)))
  have hin4 : ∀ w ∈ wsX40, w ∈ wsX2_mirror := fun w h => List.mem_cons_of_mem _ (List.mem_append_left _ (List.mem_append_right _ h))
  refine List.forall_mem_cons.mpr ⟨zs_aload_n dX2_mirror_0 rfl, ?_⟩
  refine List.forall_mem_cons.mpr ⟨zs_get (ci := 2) (j := 0) (N := 2) (C := RX2) (T := TX2) (index := 12) rfl (by decide) hin2 (List.mem_of_getElem? (i := 1) rfl) dX2_mirror_1, ?_⟩
  refine List.forall_mem_cons.mpr ⟨zs_iconst dX2_mirror_4 (by decide), ?_⟩
  refine List.forall_mem_cons.mpr ⟨zs_aload_n dX2_mirror_5 rfl, ?_⟩
  refine List.forall_mem_cons.mpr ⟨zs_aload_n dX2_mirror_6 rfl, ?_⟩
  refine List.forall_mem_cons.mpr ⟨zs_aload_n dX2_mirror_7 rfl, ?_⟩
  refine List.forall_mem_cons.mpr ⟨zs_callV (ci := 2) (rm := zR_X2_power) (n := 2) rfl zM_X2_power gX2_mirror_X2_power rfl (by decide +kernel) ⟨by decide, by decide⟩ dX2_mirror_8, ?_⟩
  refine List.forall_mem_cons.mpr ⟨zs_imul dX2_mirror_11, ?_⟩
  refine List.forall_mem_cons.mpr ⟨zs_aload_n dX2_mirror_12 rfl, ?_⟩
  refine List.forall_mem_cons.mpr ⟨zs_get (ci := 4) (j := 8) (N := 13) (C := RX4) (T := TX4) (index := 64) rfl (by decide) hin4 (List.mem_of_getElem? (i := 2) rfl) dX2_mirror_13, ?_⟩
  refine List.forall_mem_cons.mpr ⟨zs_aload_n dX2_mirror_16 rfl, ?_⟩
  refine List.forall_mem_cons.mpr ⟨zs_get (ci := 4) (j := 8) (N := 13) (C := RX4) (T := TX4) (index := 64) rfl (by decide) hin4 (List.mem_of_getElem? (i := 2) rfl) dX2_mirror_17, ?_⟩
  refine List.forall_mem_cons.mpr ⟨zs_imul dX2_mirror_20, ?_⟩
  refine List.forall_mem_cons.mpr ⟨zs_aload_n dX2_mirror_21 rfl, ?_⟩
  refine List.forall_mem_cons.mpr ⟨zs_get (ci := 4) (j := 9) (N := 13) (C := RX4) (T := TX4) (index := 67) rfl (by decide) hin4 (List.mem_of_getElem? (i := 3) rfl) dX2_mirror_22, ?_⟩
  refine List.forall_mem_cons.mpr ⟨zs_aload_n dX2_mirror_25 rfl, ?_⟩
  refine List.forall_mem_cons.mpr ⟨zs_get (ci := 4) (j := 9) (N := 13) (C := RX4) (T := TX4) (index := 67) rfl (by decide) hin4 (List.mem_of_getElem? (i := 3) rfl) dX2_mirror_26, ?_⟩
  refine List.forall_mem_cons.mpr ⟨zs_imul dX2_mirror_29, ?_⟩
  refine List.forall_mem_cons.mpr ⟨zs_iadd dX2_mirror_30, ?_⟩
  refine List.forall_mem_cons.mpr ⟨zs_callV (ci := 3) (rm := zR_X3_ratio) (n := 2) rfl zM_X3_ratio gX2_mirror_X3_ratio rfl (by decide +kernel) ⟨by decide, by decide⟩ dX2_mirror_31, ?_⟩
  refine List.forall_mem_cons.mpr ⟨zs_istore dX2_mirror_34, ?_⟩
  refine List.forall_mem_cons.mpr ⟨zs_aload_n dX2_mirror_36 rfl, ?_⟩
  refine List.forall_mem_cons.mpr ⟨zs_aload_n dX2_mirror_37 rfl, ?_⟩
  refine List.forall_mem_cons.mpr ⟨zs_aload_n dX2_mirror_38 rfl, ?_⟩
  refine List.forall_mem_cons.mpr ⟨zs_get (ci := 4) (j := 8) (N := 13) (C := RX4) (T := TX4) (index := 64) rfl (by decide) hin4 (List.mem_of_getElem? (i := 2) rfl) dX2_mirror_39, ?_⟩
  refine List.forall_mem_cons.mpr ⟨zs_iload dX2_mirror_42, ?_⟩
  refine List.forall_mem_cons.mpr ⟨zs_aload_n dX2_mirror_44 rfl, ?_⟩
  refine List.forall_mem_cons.mpr ⟨zs_get (ci := 4) (j := 8) (N := 13) (C := RX4) (T := TX4) (index := 64) rfl (by decide) hin4 (List.mem_of_getElem? (i := 2) rfl) dX2_mirror_45, ?_⟩
  refine List.forall_mem_cons.mpr ⟨zs_imul dX2_mirror_48, ?_⟩
  refine List.forall_mem_cons.mpr ⟨zs_isub dX2_mirror_49, ?_⟩
  refine List.forall_mem_cons.mpr ⟨zs_aload_n dX2_mirror_50 rfl, ?_⟩
  refine List.forall_mem_cons.mpr ⟨zs_get (ci := 4) (j := 9) (N := 13) (C := RX4) (T := TX4) (index := 67) rfl (by decide) hin4 (List.mem_of_getElem? (i := 3) rfl) dX2_mirror_51, ?_⟩
  refine List.forall_mem_cons.mpr ⟨zs_iload dX2_mirror_54, ?_⟩
  refine List.forall_mem_cons.mpr ⟨zs_aload_n dX2_mirror_56 rfl, ?_⟩
  refine List.forall_mem_cons.mpr ⟨zs_get (ci := 4) (j := 9) (N := 13) (C := RX4) (T := TX4) (index := 67) rfl (by decide) hin4 (List.mem_of_getElem? (i := 3) rfl) dX2_mirror_57, ?_⟩
  refine List.forall_mem_cons.mpr ⟨zs_imul dX2_mirror_60, ?_⟩
  refine List.forall_mem_cons.mpr ⟨zs_isub dX2_mirror_61, ?_⟩
  refine List.forall_mem_cons.mpr ⟨zs_callV (ci := 2) (rm := zR_X2_putPoint) (n := 3) rfl zM_X2_putPoint gX2_mirror_X2_putPoint rfl (by decide +kernel) ⟨by decide, by decide⟩ dX2_mirror_62, ?_⟩
  refine List.forall_mem_cons.mpr ⟨zs_reti (ty := .boolean) rfl (fun x h => (znz x h).1) dX2_mirror_65, ?_⟩
  exact fun _ h => absurd h List.not_mem_nil
theorem zM_X2_mirror : zMeets zEC yX2_mirror wsX2_mirror zR_X2_mirror m_X2_mirror := zmeth_M zECok (zlook_all (zcs_X2_mirror rfl)) (by decide +kernel) rfl
theorem zr_X2_mirror_0 (a1 a2 a3 a4 : Option zAV) (st : List zAV) (s : zAS) (k : Nat × Nat) (o : Nat × Nat) : zev zk_X2_mirror (0, [some (Sum.inr o), a1, a2, a3, a4], st, s, k) = zev zk_X2_mirror (1, [some (Sum.inr o), a1, a2, a3, a4], Sum.inr o :: st, s, k) := zev_go rfl rfl
theorem zr_X2_mirror_1 (ls : zLs) (st : List zAV) (s : zAS) (k : Nat × Nat) (o i : Nat) : zev zk_X2_mirror (1, ls, Sum.inr (o, i) :: st, s, k) = zpush zk_X2_mirror 4 ls st s k (zgv zEC 2 0 o i s.1) := zf_get rfl
theorem zr_X2_mirror_4 (ls : zLs) (st : List zAV) (s : zAS) (k : Nat × Nat) : zev zk_X2_mirror (4, ls, st, s, k) = zev zk_X2_mirror (5, ls, Sum.inl (Value.int (2)) :: st, s, k) := zev_go rfl rfl
theorem zr_X2_mirror_5 (a1 a2 a3 a4 : Option zAV) (st : List zAV) (s : zAS) (k : Nat × Nat) (o : Nat × Nat) : zev zk_X2_mirror (5, [some (Sum.inr o), a1, a2, a3, a4], st, s, k) = zev zk_X2_mirror (6, [some (Sum.inr o), a1, a2, a3, a4], Sum.inr o :: st, s, k) := zev_go rfl rfl
theorem zr_X2_mirror_6 (a0 a1 a3 a4 : Option zAV) (st : List zAV) (s : zAS) (k : Nat × Nat) (o : Nat × Nat) : zev zk_X2_mirror (6, [a0, a1, some (Sum.inr o), a3, a4], st, s, k) = zev zk_X2_mirror (7, [a0, a1, some (Sum.inr o), a3, a4], Sum.inr o :: st, s, k) := zev_go rfl rfl
theorem zr_X2_mirror_7 (a0 a1 a2 a4 : Option zAV) (st : List zAV) (s : zAS) (k : Nat × Nat) (o : Nat × Nat) : zev zk_X2_mirror (7, [a0, a1, a2, some (Sum.inr o), a4], st, s, k) = zev zk_X2_mirror (8, [a0, a1, a2, some (Sum.inr o), a4], Sum.inr o :: st, s, k) := zev_go rfl rfl
theorem zr_X2_mirror_8 (ls : zLs) (st : List zAV) (s : zAS) (k : Nat × Nat) (r v0 v1 : zAV) (h : zcok zEC 2 0 0 (zR_X2_mirror).cells (zR_X2_mirror).slots r st k) : zev zk_X2_mirror (8, ls, v1 :: v0 :: r :: st, s, k) = zret zk_X2_mirror 11 ls st (k.1 + 0, k.2 + 0) (m_X2_power [r, v0, v1] s) := zf_callV (as := [v1, v0]) 2 rfl rfl h
theorem zr_X2_mirror_11 (ls : zLs) (st : List zAV) (s : zAS) (k : Nat × Nat) (x y : Int32) : zev zk_X2_mirror (11, ls, Sum.inl (Value.int y) :: Sum.inl (Value.int x) :: st, s, k) = zev zk_X2_mirror (12, ls, Sum.inl (Value.int (x * y)) :: st, s, k) := zev_go rfl rfl
theorem zr_X2_mirror_12 (a0 a1 a2 a4 : Option zAV) (st : List zAV) (s : zAS) (k : Nat × Nat) (o : Nat × Nat) : zev zk_X2_mirror (12, [a0, a1, a2, some (Sum.inr o), a4], st, s, k) = zev zk_X2_mirror (13, [a0, a1, a2, some (Sum.inr o), a4], Sum.inr o :: st, s, k) := zev_go rfl rfl
theorem zr_X2_mirror_13 (ls : zLs) (st : List zAV) (s : zAS) (k : Nat × Nat) (o i : Nat) : zev zk_X2_mirror (13, ls, Sum.inr (o, i) :: st, s, k) = zpush zk_X2_mirror 16 ls st s k (zgv zEC 4 8 o i s.1) := zf_get rfl
theorem zr_X2_mirror_16 (a0 a1 a2 a4 : Option zAV) (st : List zAV) (s : zAS) (k : Nat × Nat) (o : Nat × Nat) : zev zk_X2_mirror (16, [a0, a1, a2, some (Sum.inr o), a4], st, s, k) = zev zk_X2_mirror (17, [a0, a1, a2, some (Sum.inr o), a4], Sum.inr o :: st, s, k) := zev_go rfl rfl
theorem zr_X2_mirror_17 (ls : zLs) (st : List zAV) (s : zAS) (k : Nat × Nat) (o i : Nat) : zev zk_X2_mirror (17, ls, Sum.inr (o, i) :: st, s, k) = zpush zk_X2_mirror 20 ls st s k (zgv zEC 4 8 o i s.1) := zf_get rfl
theorem zr_X2_mirror_20 (ls : zLs) (st : List zAV) (s : zAS) (k : Nat × Nat) (x y : Int32) : zev zk_X2_mirror (20, ls, Sum.inl (Value.int y) :: Sum.inl (Value.int x) :: st, s, k) = zev zk_X2_mirror (21, ls, Sum.inl (Value.int (x * y)) :: st, s, k) := zev_go rfl rfl
theorem zr_X2_mirror_21 (a0 a1 a2 a4 : Option zAV) (st : List zAV) (s : zAS) (k : Nat × Nat) (o : Nat × Nat) : zev zk_X2_mirror (21, [a0, a1, a2, some (Sum.inr o), a4], st, s, k) = zev zk_X2_mirror (22, [a0, a1, a2, some (Sum.inr o), a4], Sum.inr o :: st, s, k) := zev_go rfl rfl
theorem zr_X2_mirror_22 (ls : zLs) (st : List zAV) (s : zAS) (k : Nat × Nat) (o i : Nat) : zev zk_X2_mirror (22, ls, Sum.inr (o, i) :: st, s, k) = zpush zk_X2_mirror 25 ls st s k (zgv zEC 4 9 o i s.1) := zf_get rfl
theorem zr_X2_mirror_25 (a0 a1 a2 a4 : Option zAV) (st : List zAV) (s : zAS) (k : Nat × Nat) (o : Nat × Nat) : zev zk_X2_mirror (25, [a0, a1, a2, some (Sum.inr o), a4], st, s, k) = zev zk_X2_mirror (26, [a0, a1, a2, some (Sum.inr o), a4], Sum.inr o :: st, s, k) := zev_go rfl rfl
theorem zr_X2_mirror_26 (ls : zLs) (st : List zAV) (s : zAS) (k : Nat × Nat) (o i : Nat) : zev zk_X2_mirror (26, ls, Sum.inr (o, i) :: st, s, k) = zpush zk_X2_mirror 29 ls st s k (zgv zEC 4 9 o i s.1) := zf_get rfl
theorem zr_X2_mirror_29 (ls : zLs) (st : List zAV) (s : zAS) (k : Nat × Nat) (x y : Int32) : zev zk_X2_mirror (29, ls, Sum.inl (Value.int y) :: Sum.inl (Value.int x) :: st, s, k) = zev zk_X2_mirror (30, ls, Sum.inl (Value.int (x * y)) :: st, s, k) := zev_go rfl rfl
theorem zr_X2_mirror_30 (ls : zLs) (st : List zAV) (s : zAS) (k : Nat × Nat) (x y : Int32) : zev zk_X2_mirror (30, ls, Sum.inl (Value.int y) :: Sum.inl (Value.int x) :: st, s, k) = zev zk_X2_mirror (31, ls, Sum.inl (Value.int (x + y)) :: st, s, k) := zev_go rfl rfl
theorem zr_X2_mirror_31 (ls : zLs) (st : List zAV) (s : zAS) (k : Nat × Nat) (r v0 v1 : zAV) (h : zcok zEC 3 0 0 (zR_X2_mirror).cells (zR_X2_mirror).slots r st k) : zev zk_X2_mirror (31, ls, v1 :: v0 :: r :: st, s, k) = zret zk_X2_mirror 34 ls st (k.1 + 0, k.2 + 0) (m_X3_ratio [r, v0, v1] s) := zf_callV (as := [v1, v0]) 2 rfl rfl h
theorem zr_X2_mirror_34 (a0 a1 a2 a3 a4 : Option zAV) (st : List zAV) (s : zAS) (k : Nat × Nat) (x : Int32) : zev zk_X2_mirror (34, [a0, a1, a2, a3, a4], Sum.inl (Value.int x) :: st, s, k) = zev zk_X2_mirror (36, [a0, a1, a2, zk1 a3, some (Sum.inl (Value.int x))], st, s, k) := zev_go rfl rfl
theorem zr_X2_mirror_36 (a1 a2 a3 a4 : Option zAV) (st : List zAV) (s : zAS) (k : Nat × Nat) (o : Nat × Nat) : zev zk_X2_mirror (36, [some (Sum.inr o), a1, a2, a3, a4], st, s, k) = zev zk_X2_mirror (37, [some (Sum.inr o), a1, a2, a3, a4], Sum.inr o :: st, s, k) := zev_go rfl rfl
theorem zr_X2_mirror_37 (a0 a2 a3 a4 : Option zAV) (st : List zAV) (s : zAS) (k : Nat × Nat) (o : Nat × Nat) : zev zk_X2_mirror (37, [a0, some (Sum.inr o), a2, a3, a4], st, s, k) = zev zk_X2_mirror (38, [a0, some (Sum.inr o), a2, a3, a4], Sum.inr o :: st, s, k) := zev_go rfl rfl
theorem zr_X2_mirror_38 (a0 a1 a3 a4 : Option zAV) (st : List zAV) (s : zAS) (k : Nat × Nat) (o : Nat × Nat) : zev zk_X2_mirror (38, [a0, a1, some (Sum.inr o), a3, a4], st, s, k) = zev zk_X2_mirror (39, [a0, a1, some (Sum.inr o), a3, a4], Sum.inr o :: st, s, k) := zev_go rfl rfl
theorem zr_X2_mirror_39 (ls : zLs) (st : List zAV) (s : zAS) (k : Nat × Nat) (o i : Nat) : zev zk_X2_mirror (39, ls, Sum.inr (o, i) :: st, s, k) = zpush zk_X2_mirror 42 ls st s k (zgv zEC 4 8 o i s.1) := zf_get rfl
theorem zr_X2_mirror_42 (a0 a1 a2 a3 : Option zAV) (st : List zAV) (s : zAS) (k : Nat × Nat) (x : Int32) : zev zk_X2_mirror (42, [a0, a1, a2, a3, some (Sum.inl (Value.int x))], st, s, k) = zev zk_X2_mirror (44, [a0, a1, a2, a3, some (Sum.inl (Value.int x))], Sum.inl (Value.int x) :: st, s, k) := zev_go rfl rfl
theorem zr_X2_mirror_44 (a0 a1 a2 a4 : Option zAV) (st : List zAV) (s : zAS) (k : Nat × Nat) (o : Nat × Nat) : zev zk_X2_mirror (44, [a0, a1, a2, some (Sum.inr o), a4], st, s, k) = zev zk_X2_mirror (45, [a0, a1, a2, some (Sum.inr o), a4], Sum.inr o :: st, s, k) := zev_go rfl rfl
theorem zr_X2_mirror_45 (ls : zLs) (st : List zAV) (s : zAS) (k : Nat × Nat) (o i : Nat) : zev zk_X2_mirror (45, ls, Sum.inr (o, i) :: st, s, k) = zpush zk_X2_mirror 48 ls st s k (zgv zEC 4 8 o i s.1) := zf_get rfl
theorem zr_X2_mirror_48 (ls : zLs) (st : List zAV) (s : zAS) (k : Nat × Nat) (x y : Int32) : zev zk_X2_mirror (48, ls, Sum.inl (Value.int y) :: Sum.inl (Value.int x) :: st, s, k) = zev zk_X2_mirror (49, ls, Sum.inl (Value.int (x * y)) :: st, s, k) := zev_go rfl rfl
theorem zr_X2_mirror_49 (ls : zLs) (st : List zAV) (s : zAS) (k : Nat × Nat) (x y : Int32) : zev zk_X2_mirror (49, ls, Sum.inl (Value.int y) :: Sum.inl (Value.int x) :: st, s, k) = zev zk_X2_mirror (50, ls, Sum.inl (Value.int (x - y)) :: st, s, k) := zev_go rfl rfl
theorem zr_X2_mirror_50 (a0 a1 a3 a4 : Option zAV) (st : List zAV) (s : zAS) (k : Nat × Nat) (o : Nat × Nat) : zev zk_X2_mirror (50, [a0, a1, some (Sum.inr o), a3, a4], st, s, k) = zev zk_X2_mirror (51, [a0, a1, some (Sum.inr o), a3, a4], Sum.inr o :: st, s, k) := zev_go rfl rfl
theorem zr_X2_mirror_51 (ls : zLs) (st : List zAV) (s : zAS) (k : Nat × Nat) (o i : Nat) : zev zk_X2_mirror (51, ls, Sum.inr (o, i) :: st, s, k) = zpush zk_X2_mirror 54 ls st s k (zgv zEC 4 9 o i s.1) := zf_get rfl
theorem zr_X2_mirror_54 (a0 a1 a2 a3 : Option zAV) (st : List zAV) (s : zAS) (k : Nat × Nat) (x : Int32) : zev zk_X2_mirror (54, [a0, a1, a2, a3, some (Sum.inl (Value.int x))], st, s, k) = zev zk_X2_mirror (56, [a0, a1, a2, a3, some (Sum.inl (Value.int x))], Sum.inl (Value.int x) :: st, s, k) := zev_go rfl rfl
theorem zr_X2_mirror_56 (a0 a1 a2 a4 : Option zAV) (st : List zAV) (s : zAS) (k : Nat × Nat) (o : Nat × Nat) : zev zk_X2_mirror (56, [a0, a1, a2, some (Sum.inr o), a4], st, s, k) = zev zk_X2_mirror (57, [a0, a1, a2, some (Sum.inr o), a4], Sum.inr o :: st, s, k) := zev_go rfl rfl
theorem zr_X2_mirror_57 (ls : zLs) (st : List zAV) (s : zAS) (k : Nat × Nat) (o i : Nat) : zev zk_X2_mirror (57, ls, Sum.inr (o, i) :: st, s, k) = zpush zk_X2_mirror 60 ls st s k (zgv zEC 4 9 o i s.1) := zf_get rfl
theorem zr_X2_mirror_60 (ls : zLs) (st : List zAV) (s : zAS) (k : Nat × Nat) (x y : Int32) : zev zk_X2_mirror (60, ls, Sum.inl (Value.int y) :: Sum.inl (Value.int x) :: st, s, k) = zev zk_X2_mirror (61, ls, Sum.inl (Value.int (x * y)) :: st, s, k) := zev_go rfl rfl
theorem zr_X2_mirror_61 (ls : zLs) (st : List zAV) (s : zAS) (k : Nat × Nat) (x y : Int32) : zev zk_X2_mirror (61, ls, Sum.inl (Value.int y) :: Sum.inl (Value.int x) :: st, s, k) = zev zk_X2_mirror (62, ls, Sum.inl (Value.int (x - y)) :: st, s, k) := zev_go rfl rfl
theorem zr_X2_mirror_62 (ls : zLs) (st : List zAV) (s : zAS) (k : Nat × Nat) (r v0 v1 v2 : zAV) (h : zcok zEC 2 0 0 (zR_X2_mirror).cells (zR_X2_mirror).slots r st k) : zev zk_X2_mirror (62, ls, v2 :: v1 :: v0 :: r :: st, s, k) = zret zk_X2_mirror 65 ls st (k.1 + 0, k.2 + 0) (m_X2_putPoint [r, v0, v1, v2] s) := zf_callV (as := [v2, v1, v0]) 3 rfl rfl h
theorem zr_X2_mirror_65 (ls : zLs) (s : zAS) (k : Nat × Nat) (x : Int32) (hx : x = 0 ∨ x = 1) : zev zk_X2_mirror (65, ls, [Sum.inl (Value.int x)], s, k) = some (.inl (some (Sum.inl (Value.int x))), s) := zf_retz rfl hx
/-! X2_lineThrough: PrimePlane$Compass.lineThrough(LPrimePlane$Figure;LPrimePlane$Figure;LPrimePlane$Figure;)Z -/
abbrev zR_X2_lineThrough : Room := ({ frames := 3, cells := 0, slots := 0, locals := 69 } : Room)
noncomputable def zl_X2_lineThrough : List (Nat × zOp) := [(0, z_lda 0 1), (1, z_lda 1 2), (2, z_lda 2 3), (3, z_get zEC 4 9 6), (6, z_lda 3 7), (7, z_get zEC 4 9 10), (10, z_bin (fun x y => x - y) 11), (11, z_lda 3 12), (12, z_get zEC 4 8 15), (15, z_lda 2 16), (16, z_get zEC 4 8 19), (19, z_bin (fun x y => x - y) 20), (20, z_lda 2 21), (21, z_get zEC 4 8 24), (24, z_lda 3 25), (25, z_get zEC 4 9 28), (28, z_bin (fun x y => x * y) 29), (29, z_lda 3 30), (30, z_get zEC 4 8 33), (33, z_lda 2 34), (34, z_get zEC 4 9 37), (37, z_bin (fun x y => x * y) 38), (38, z_bin (fun x y => x - y) 39), (39, z_callV zEC 2 m_X2_putLine 4 0 0 (zR_X2_lineThrough).cells (zR_X2_lineThrough).slots 42), (42, z_reti true)]
noncomputable def zk_X2_lineThrough (pc : Nat) : Option zOp := zlook zl_X2_lineThrough pc
noncomputable def m_X2_lineThrough : List zAV → zAS → Option zOut := zmeth zk_X2_lineThrough 4
set_option maxRecDepth 100000 in
set_option maxHeartbeats 4000000 in
theorem zcs_X2_lineThrough {R : Room} (hR : R = zR_X2_lineThrough) : ∀ q ∈ zl_X2_lineThrough, zS zEC yX2_lineThrough.cls cX2_lineThrough 4 wsX2_lineThrough (some .boolean) R q.1 q.2 := by
  subst hR
  have hin4 : ∀ w ∈ wsX40, w ∈ wsX2_lineThrough := fun w h => List.mem_cons_of_mem _ (List.mem_append_left _ (List.mem_append_left _ (List.mem_append_right _ h)))
  refine List.forall_mem_cons.mpr ⟨zs_aload_n dX2_lineThrough_0 rfl, ?_⟩
  refine List.forall_mem_cons.mpr ⟨zs_aload_n dX2_lineThrough_1 rfl, ?_⟩
  refine List.forall_mem_cons.mpr ⟨zs_aload_n dX2_lineThrough_2 rfl, ?_⟩
  refine List.forall_mem_cons.mpr ⟨zs_get (ci := 4) (j := 9) (N := 13) (C := RX4) (T := TX4) (index := 67) rfl (by decide) hin4 (List.mem_of_getElem? (i := 1) rfl) dX2_lineThrough_3, ?_⟩
  refine List.forall_mem_cons.mpr ⟨zs_aload_n dX2_lineThrough_6 rfl, ?_⟩
  refine List.forall_mem_cons.mpr ⟨zs_get (ci := 4) (j := 9) (N := 13) (C := RX4) (T := TX4) (index := 67) rfl (by decide) hin4 (List.mem_of_getElem? (i := 1) rfl) dX2_lineThrough_7, ?_⟩
  refine List.forall_mem_cons.mpr ⟨zs_isub dX2_lineThrough_10, ?_⟩
  refine List.forall_mem_cons.mpr ⟨zs_aload_n dX2_lineThrough_11 rfl, ?_⟩
  refine List.forall_mem_cons.mpr ⟨zs_get (ci := 4) (j := 8) (N := 13) (C := RX4) (T := TX4) (index := 64) rfl (by decide) hin4 (List.mem_of_getElem? (i := 2) rfl) dX2_lineThrough_12, ?_⟩
  refine List.forall_mem_cons.mpr ⟨zs_aload_n dX2_lineThrough_15 rfl, ?_⟩
  refine List.forall_mem_cons.mpr ⟨zs_get (ci := 4) (j := 8) (N := 13) (C := RX4) (T := TX4) (index := 64) rfl (by decide) hin4 (List.mem_of_getElem? (i := 2) rfl) dX2_lineThrough_16, ?_⟩
  refine List.forall_mem_cons.mpr ⟨zs_isub dX2_lineThrough_19, ?_⟩
  refine List.forall_mem_cons.mpr ⟨zs_aload_n dX2_lineThrough_20 rfl, ?_⟩
  refine List.forall_mem_cons.mpr ⟨zs_get (ci := 4) (j := 8) (N := 13) (C := RX4) (T := TX4) (index := 64) rfl (by decide) hin4 (List.mem_of_getElem? (i := 2) rfl) dX2_lineThrough_21, ?_⟩
  refine List.forall_mem_cons.mpr ⟨zs_aload_n dX2_lineThrough_24 rfl, ?_⟩
  refine List.forall_mem_cons.mpr ⟨zs_get (ci := 4) (j := 9) (N := 13) (C := RX4) (T := TX4) (index := 67) rfl (by decide) hin4 (List.mem_of_getElem? (i := 1) rfl) dX2_lineThrough_25, ?_⟩
  refine List.forall_mem_cons.mpr ⟨zs_imul dX2_lineThrough_28, ?_⟩
  refine List.forall_mem_cons.mpr ⟨zs_aload_n dX2_lineThrough_29 rfl, ?_⟩
  refine List.forall_mem_cons.mpr ⟨zs_get (ci := 4) (j := 8) (N := 13) (C := RX4) (T := TX4) (index := 64) rfl (by decide) hin4 (List.mem_of_getElem? (i := 2) rfl) dX2_lineThrough_30, ?_⟩
  refine List.forall_mem_cons.mpr ⟨zs_aload_n dX2_lineThrough_33 rfl, ?_⟩
  refine List.forall_mem_cons.mpr ⟨zs_get (ci := 4) (j := 9) (N := 13) (C := RX4) (T := TX4) (index := 67) rfl (by decide) hin4 (List.mem_of_getElem? (i := 1) rfl) dX2_lineThrough_34, ?_⟩
  refine List.forall_mem_cons.mpr ⟨zs_imul dX2_lineThrough_37, ?_⟩
  refine List.forall_mem_cons.mpr ⟨zs_isub dX2_lineThrough_38, ?_⟩
  refine List.forall_mem_cons.mpr ⟨zs_callV (ci := 2) (rm := zR_X2_putLine) (n := 4) rfl zM_X2_putLine gX2_lineThrough_X2_putLine rfl (by decide +kernel) ⟨by decide, by decide⟩ dX2_lineThrough_39, ?_⟩
  refine List.forall_mem_cons.mpr ⟨zs_reti (ty := .boolean) rfl (fun x h => (znz x h).1) dX2_lineThrough_42, ?_⟩
  exact fun _ h => absurd h List.not_mem_nil
theorem zM_X2_lineThrough : zMeets zEC yX2_lineThrough wsX2_lineThrough zR_X2_lineThrough m_X2_lineThrough := zmeth_M zECok (zlook_all (zcs_X2_lineThrough rfl)) (by decide +kernel) rfl
theorem zr_X2_lineThrough_0 (a1 a2 a3 : Option zAV) (st : List zAV) (s : zAS) (k : Nat × Nat) (o : Nat × Nat) : zev zk_X2_lineThrough (0, [some (Sum.inr o), a1, a2, a3], st, s, k) = zev zk_X2_lineThrough (1, [some (Sum.inr o), a1, a2, a3], Sum.inr o :: st, s, k) := zev_go rfl rfl
theorem zr_X2_lineThrough_1 (a0 a2 a3 : Option zAV) (st : List zAV) (s : zAS) (k : Nat × Nat) (o : Nat × Nat) : zev zk_X2_lineThrough (1, [a0, some (Sum.inr o), a2, a3], st, s, k) = zev zk_X2_lineThrough (2, [a0, some (Sum.inr o), a2, a3], Sum.inr o :: st, s, k) := zev_go rfl rfl
theorem zr_X2_lineThrough_2 (a0 a1 a3 : Option zAV) (st : List zAV) (s : zAS) (k : Nat × Nat) (o : Nat × Nat) : zev zk_X2_lineThrough (2, [a0, a1, some (Sum.inr o), a3], st, s, k) = zev zk_X2_lineThrough (3, [a0, a1, some (Sum.inr o), a3], Sum.inr o :: st, s, k) := zev_go rfl rfl
theorem zr_X2_lineThrough_3 (ls : zLs) (st : List zAV) (s : zAS) (k : Nat × Nat) (o i : Nat) : zev zk_X2_lineThrough (3, ls, Sum.inr (o, i) :: st, s, k) = zpush zk_X2_lineThrough 6 ls st s k (zgv zEC 4 9 o i s.1) := zf_get rfl
theorem zr_X2_lineThrough_6 (a0 a1 a2 : Option zAV) (st : List zAV) (s : zAS) (k : Nat × Nat) (o : Nat × Nat) : zev zk_X2_lineThrough (6, [a0, a1, a2, some (Sum.inr o)], st, s, k) = zev zk_X2_lineThrough (7, [a0, a1, a2, some (Sum.inr o)], Sum.inr o :: st, s, k) := zev_go rfl rfl
theorem zr_X2_lineThrough_7 (ls : zLs) (st : List zAV) (s : zAS) (k : Nat × Nat) (o i : Nat) : zev zk_X2_lineThrough (7, ls, Sum.inr (o, i) :: st, s, k) = zpush zk_X2_lineThrough 10 ls st s k (zgv zEC 4 9 o i s.1) := zf_get rfl
theorem zr_X2_lineThrough_10 (ls : zLs) (st : List zAV) (s : zAS) (k : Nat × Nat) (x y : Int32) : zev zk_X2_lineThrough (10, ls, Sum.inl (Value.int y) :: Sum.inl (Value.int x) :: st, s, k) = zev zk_X2_lineThrough (11, ls, Sum.inl (Value.int (x - y)) :: st, s, k) := zev_go rfl rfl
theorem zr_X2_lineThrough_11 (a0 a1 a2 : Option zAV) (st : List zAV) (s : zAS) (k : Nat × Nat) (o : Nat × Nat) : zev zk_X2_lineThrough (11, [a0, a1, a2, some (Sum.inr o)], st, s, k) = zev zk_X2_lineThrough (12, [a0, a1, a2, some (Sum.inr o)], Sum.inr o :: st, s, k) := zev_go rfl rfl
theorem zr_X2_lineThrough_12 (ls : zLs) (st : List zAV) (s : zAS) (k : Nat × Nat) (o i : Nat) : zev zk_X2_lineThrough (12, ls, Sum.inr (o, i) :: st, s, k) = zpush zk_X2_lineThrough 15 ls st s k (zgv zEC 4 8 o i s.1) := zf_get rfl
theorem zr_X2_lineThrough_15 (a0 a1 a3 : Option zAV) (st : List zAV) (s : zAS) (k : Nat × Nat) (o : Nat × Nat) : zev zk_X2_lineThrough (15, [a0, a1, some (Sum.inr o), a3], st, s, k) = zev zk_X2_lineThrough (16, [a0, a1, some (Sum.inr o), a3], Sum.inr o :: st, s, k) := zev_go rfl rfl
theorem zr_X2_lineThrough_16 (ls : zLs) (st : List zAV) (s : zAS) (k : Nat × Nat) (o i : Nat) : zev zk_X2_lineThrough (16, ls, Sum.inr (o, i) :: st, s, k) = zpush zk_X2_lineThrough 19 ls st s k (zgv zEC 4 8 o i s.1) := zf_get rfl
theorem zr_X2_lineThrough_19 (ls : zLs) (st : List zAV) (s : zAS) (k : Nat × Nat) (x y : Int32) : zev zk_X2_lineThrough (19, ls, Sum.inl (Value.int y) :: Sum.inl (Value.int x) :: st, s, k) = zev zk_X2_lineThrough (20, ls, Sum.inl (Value.int (x - y)) :: st, s, k) := zev_go rfl rfl
theorem zr_X2_lineThrough_20 (a0 a1 a3 : Option zAV) (st : List zAV) (s : zAS) (k : Nat × Nat) (o : Nat × Nat) : zev zk_X2_lineThrough (20, [a0, a1, some (Sum.inr o), a3], st, s, k) = zev zk_X2_lineThrough (21, [a0, a1, some (Sum.inr o), a3], Sum.inr o :: st, s, k) := zev_go rfl rfl
theorem zr_X2_lineThrough_21 (ls : zLs) (st : List zAV) (s : zAS) (k : Nat × Nat) (o i : Nat) : zev zk_X2_lineThrough (21, ls, Sum.inr (o, i) :: st, s, k) = zpush zk_X2_lineThrough 24 ls st s k (zgv zEC 4 8 o i s.1) := zf_get rfl
theorem zr_X2_lineThrough_24 (a0 a1 a2 : Option zAV) (st : List zAV) (s : zAS) (k : Nat × Nat) (o : Nat × Nat) : zev zk_X2_lineThrough (24, [a0, a1, a2, some (Sum.inr o)], st, s, k) = zev zk_X2_lineThrough (25, [a0, a1, a2, some (Sum.inr o)], Sum.inr o :: st, s, k) := zev_go rfl rfl
theorem zr_X2_lineThrough_25 (ls : zLs) (st : List zAV) (s : zAS) (k : Nat × Nat) (o i : Nat) : zev zk_X2_lineThrough (25, ls, Sum.inr (o, i) :: st, s, k) = zpush zk_X2_lineThrough 28 ls st s k (zgv zEC 4 9 o i s.1) := zf_get rfl
theorem zr_X2_lineThrough_28 (ls : zLs) (st : List zAV) (s : zAS) (k : Nat × Nat) (x y : Int32) : zev zk_X2_lineThrough (28, ls, Sum.inl (Value.int y) :: Sum.inl (Value.int x) :: st, s, k) = zev zk_X2_lineThrough (29, ls, Sum.inl (Value.int (x * y)) :: st, s, k) := zev_go rfl rfl
theorem zr_X2_lineThrough_29 (a0 a1 a2 : Option zAV) (st : List zAV) (s : zAS) (k : Nat × Nat) (o : Nat × Nat) : zev zk_X2_lineThrough (29, [a0, a1, a2, some (Sum.inr o)], st, s, k) = zev zk_X2_lineThrough (30, [a0, a1, a2, some (Sum.inr o)], Sum.inr o :: st, s, k) := zev_go rfl rfl
theorem zr_X2_lineThrough_30 (ls : zLs) (st : List zAV) (s : zAS) (k : Nat × Nat) (o i : Nat) : zev zk_X2_lineThrough (30, ls, Sum.inr (o, i) :: st, s, k) = zpush zk_X2_lineThrough 33 ls st s k (zgv zEC 4 8 o i s.1) := zf_get rfl
theorem zr_X2_lineThrough_33 (a0 a1 a3 : Option zAV) (st : List zAV) (s : zAS) (k : Nat × Nat) (o : Nat × Nat) : zev zk_X2_lineThrough (33, [a0, a1, some (Sum.inr o), a3], st, s, k) = zev zk_X2_lineThrough (34, [a0, a1, some (Sum.inr o), a3], Sum.inr o :: st, s, k) := zev_go rfl rfl
theorem zr_X2_lineThrough_34 (ls : zLs) (st : List zAV) (s : zAS) (k : Nat × Nat) (o i : Nat) : zev zk_X2_lineThrough (34, ls, Sum.inr (o, i) :: st, s, k) = zpush zk_X2_lineThrough 37 ls st s k (zgv zEC 4 9 o i s.1) := zf_get rfl
theorem zr_X2_lineThrough_37 (ls : zLs) (st : List zAV) (s : zAS) (k : Nat × Nat) (x y : Int32) : zev zk_X2_lineThrough (37, ls, Sum.inl (Value.int y) :: Sum.inl (Value.int x) :: st, s, k) = zev zk_X2_lineThrough (38, ls, Sum.inl (Value.int (x * y)) :: st, s, k) := zev_go rfl rfl
theorem zr_X2_lineThrough_38 (ls : zLs) (st : List zAV) (s : zAS) (k : Nat × Nat) (x y : Int32) : zev zk_X2_lineThrough (38, ls, Sum.inl (Value.int y) :: Sum.inl (Value.int x) :: st, s, k) = zev zk_X2_lineThrough (39, ls, Sum.inl (Value.int (x - y)) :: st, s, k) := zev_go rfl rfl
theorem zr_X2_lineThrough_39 (ls : zLs) (st : List zAV) (s : zAS) (k : Nat × Nat) (r v0 v1 v2 v3 : zAV) (h : zcok zEC 2 0 0 (zR_X2_lineThrough).cells (zR_X2_lineThrough).slots r st k) : zev zk_X2_lineThrough (39, ls, v3 :: v2 :: v1 :: v0 :: r :: st, s, k) = zret zk_X2_lineThrough 42 ls st (k.1 + 0, k.2 + 0) (m_X2_putLine [r, v0, v1, v2, v3] s) := zf_callV (as := [v3, v2, v1, v0]) 4 rfl rfl h
theorem zr_X2_lineThrough_42 (ls : zLs) (s : zAS) (k : Nat × Nat) (x : Int32) (hx : x = 0 ∨ x = 1) : zev zk_X2_lineThrough (42, ls, [Sum.inl (Value.int x)], s, k) = some (.inl (some (Sum.inl (Value.int x))), s) := zf_retz rfl hx
/-! X2_lineAlong: PrimePlane$Compass.lineAlong(LPrimePlane$Figure;LPrimePlane$Figure;II)Z -/
abbrev zR_X2_lineAlong : Room := ({ frames := 3, cells := 0, slots := 0, locals := 69 } : Room)
noncomputable def zl_X2_lineAlong : List (Nat × zOp) := [(0, z_lda 0 1), (1, z_lda 1 2), (2, z_ldi 3 3), (3, z_ldi 4 5), (5, z_ldi 3 6), (6, z_lda 2 7), (7, z_get zEC 4 8 10), (10, z_bin (fun x y => x * y) 11), (11, z_ldi 4 13), (13, z_lda 2 14), (14, z_get zEC 4 9 17), (17, z_bin (fun x y => x * y) 18), (18, z_bin (fun x y => x + y) 19), (19, z_neg 20), (20, z_callV zEC 2 m_X2_putLine 4 0 0 (zR_X2_lineAlong).cells (zR_X2_lineAlong).slots 23), (23, z_reti true)]
noncomputable def zk_X2_lineAlong (pc : Nat) : Option zOp := zlook zl_X2_lineAlong pc
noncomputable def m_X2_lineAlong : List zAV → zAS → Option zOut := zmeth zk_X2_lineAlong 5
set_option maxRecDepth 100000 in
set_option maxHeartbeats 4000000 in
theorem zcs_X2_lineAlong {R : Room} (hR : R = zR_X2_lineAlong) : ∀ q ∈ zl_X2_lineAlong, zS zEC yX2_lineAlong.cls cX2_lineAlong 5 wsX2_lineAlong (some .boolean) R q.1 q.2 := by
  subst hR
  have hin4 : ∀ w ∈ wsX40, w ∈ wsX2_lineAlong := fun w h => List.mem_cons_of_mem _ (List.mem_append_left _ (List.mem_append_left _ (List.mem_append_right _ h)))
  refine List.forall_mem_cons.mpr ⟨zs_aload_n dX2_lineAlong_0 rfl, ?_⟩
  refine List.forall_mem_cons.mpr ⟨zs_aload_n dX2_lineAlong_1 rfl, ?_⟩
  refine List.forall_mem_cons.mpr ⟨zs_iload_n dX2_lineAlong_2 rfl, ?_⟩
  refine List.forall_mem_cons.mpr ⟨zs_iload dX2_lineAlong_3, ?_⟩
  refine List.forall_mem_cons.mpr ⟨zs_iload_n dX2_lineAlong_5 rfl, ?_⟩
  refine List.forall_mem_cons.mpr ⟨zs_aload_n dX2_lineAlong_6 rfl, ?_⟩
  refine List.forall_mem_cons.mpr ⟨zs_get (ci := 4) (j := 8) (N := 13) (C := RX4) (T := TX4) (index := 64) rfl (by decide) hin4 (List.mem_of_getElem? (i := 1) rfl) dX2_lineAlong_7, ?_⟩
  refine List.forall_mem_cons.mpr ⟨zs_imul dX2_lineAlong_10, ?_⟩
  refine List.forall_mem_cons.mpr ⟨zs_iload dX2_lineAlong_11, ?_⟩
  refine List.forall_mem_cons.mpr ⟨zs_aload_n dX2_lineAlong_13 rfl, ?_⟩
  refine List.forall_mem_cons.mpr ⟨zs_get (ci := 4) (j := 9) (N := 13) (C := RX4) (T := TX4) (index := 67) rfl (by decide) hin4 (List.mem_of_getElem? (i := 2) rfl) dX2_lineAlong_14, ?_⟩
  refine List.forall_mem_cons.mpr ⟨zs_imul dX2_lineAlong_17, ?_⟩
  refine List.forall_mem_cons.mpr ⟨zs_iadd dX2_lineAlong_18, ?_⟩
  refine List.forall_mem_cons.mpr ⟨zs_ineg dX2_lineAlong_19, ?_⟩
  refine List.forall_mem_cons.mpr ⟨zs_callV (ci := 2) (rm := zR_X2_putLine) (n := 4) rfl zM_X2_putLine gX2_lineAlong_X2_putLine rfl (by decide +kernel) ⟨by decide, by decide⟩ dX2_lineAlong_20, ?_⟩
  refine List.forall_mem_cons.mpr ⟨zs_reti (ty := .boolean) rfl (fun x h => (znz x h).1) dX2_lineAlong_23, ?_⟩
  exact fun _ h => absurd h List.not_mem_nil
theorem zM_X2_lineAlong : zMeets zEC yX2_lineAlong wsX2_lineAlong zR_X2_lineAlong m_X2_lineAlong := zmeth_M zECok (zlook_all (zcs_X2_lineAlong rfl)) (by decide +kernel) rfl
theorem zr_X2_lineAlong_0 (a1 a2 a3 a4 : Option zAV) (st : List zAV) (s : zAS) (k : Nat × Nat) (o : Nat × Nat) : zev zk_X2_lineAlong (0, [some (Sum.inr o), a1, a2, a3, a4], st, s, k) = zev zk_X2_lineAlong (1, [some (Sum.inr o), a1, a2, a3, a4], Sum.inr o :: st, s, k) := zev_go rfl rfl
theorem zr_X2_lineAlong_1 (a0 a2 a3 a4 : Option zAV) (st : List zAV) (s : zAS) (k : Nat × Nat) (o : Nat × Nat) : zev zk_X2_lineAlong (1, [a0, some (Sum.inr o), a2, a3, a4], st, s, k) = zev zk_X2_lineAlong (2, [a0, some (Sum.inr o), a2, a3, a4], Sum.inr o :: st, s, k) := zev_go rfl rfl
theorem zr_X2_lineAlong_2 (a0 a1 a2 a4 : Option zAV) (st : List zAV) (s : zAS) (k : Nat × Nat) (x : Int32) : zev zk_X2_lineAlong (2, [a0, a1, a2, some (Sum.inl (Value.int x)), a4], st, s, k) = zev zk_X2_lineAlong (3, [a0, a1, a2, some (Sum.inl (Value.int x)), a4], Sum.inl (Value.int x) :: st, s, k) := zev_go rfl rfl
theorem zr_X2_lineAlong_3 (a0 a1 a2 a3 : Option zAV) (st : List zAV) (s : zAS) (k : Nat × Nat) (x : Int32) : zev zk_X2_lineAlong (3, [a0, a1, a2, a3, some (Sum.inl (Value.int x))], st, s, k) = zev zk_X2_lineAlong (5, [a0, a1, a2, a3, some (Sum.inl (Value.int x))], Sum.inl (Value.int x) :: st, s, k) := zev_go rfl rfl
theorem zr_X2_lineAlong_5 (a0 a1 a2 a4 : Option zAV) (st : List zAV) (s : zAS) (k : Nat × Nat) (x : Int32) : zev zk_X2_lineAlong (5, [a0, a1, a2, some (Sum.inl (Value.int x)), a4], st, s, k) = zev zk_X2_lineAlong (6, [a0, a1, a2, some (Sum.inl (Value.int x)), a4], Sum.inl (Value.int x) :: st, s, k) := zev_go rfl rfl
theorem zr_X2_lineAlong_6 (a0 a1 a3 a4 : Option zAV) (st : List zAV) (s : zAS) (k : Nat × Nat) (o : Nat × Nat) : zev zk_X2_lineAlong (6, [a0, a1, some (Sum.inr o), a3, a4], st, s, k) = zev zk_X2_lineAlong (7, [a0, a1, some (Sum.inr o), a3, a4], Sum.inr o :: st, s, k) := zev_go rfl rfl
theorem zr_X2_lineAlong_7 (ls : zLs) (st : List zAV) (s : zAS) (k : Nat × Nat) (o i : Nat) : zev zk_X2_lineAlong (7, ls, Sum.inr (o, i) :: st, s, k) = zpush zk_X2_lineAlong 10 ls st s k (zgv zEC 4 8 o i s.1) := zf_get rfl
theorem zr_X2_lineAlong_10 (ls : zLs) (st : List zAV) (s : zAS) (k : Nat × Nat) (x y : Int32) : zev zk_X2_lineAlong (10, ls, Sum.inl (Value.int y) :: Sum.inl (Value.int x) :: st, s, k) = zev zk_X2_lineAlong (11, ls, Sum.inl (Value.int (x * y)) :: st, s, k) := zev_go rfl rfl
theorem zr_X2_lineAlong_11 (a0 a1 a2 a3 : Option zAV) (st : List zAV) (s : zAS) (k : Nat × Nat) (x : Int32) : zev zk_X2_lineAlong (11, [a0, a1, a2, a3, some (Sum.inl (Value.int x))], st, s, k) = zev zk_X2_lineAlong (13, [a0, a1, a2, a3, some (Sum.inl (Value.int x))], Sum.inl (Value.int x) :: st, s, k) := zev_go rfl rfl
theorem zr_X2_lineAlong_13 (a0 a1 a3 a4 : Option zAV) (st : List zAV) (s : zAS) (k : Nat × Nat) (o : Nat × Nat) : zev zk_X2_lineAlong (13, [a0, a1, some (Sum.inr o), a3, a4], st, s, k) = zev zk_X2_lineAlong (14, [a0, a1, some (Sum.inr o), a3, a4], Sum.inr o :: st, s, k) := zev_go rfl rfl
theorem zr_X2_lineAlong_14 (ls : zLs) (st : List zAV) (s : zAS) (k : Nat × Nat) (o i : Nat) : zev zk_X2_lineAlong (14, ls, Sum.inr (o, i) :: st, s, k) = zpush zk_X2_lineAlong 17 ls st s k (zgv zEC 4 9 o i s.1) := zf_get rfl
theorem zr_X2_lineAlong_17 (ls : zLs) (st : List zAV) (s : zAS) (k : Nat × Nat) (x y : Int32) : zev zk_X2_lineAlong (17, ls, Sum.inl (Value.int y) :: Sum.inl (Value.int x) :: st, s, k) = zev zk_X2_lineAlong (18, ls, Sum.inl (Value.int (x * y)) :: st, s, k) := zev_go rfl rfl
theorem zr_X2_lineAlong_18 (ls : zLs) (st : List zAV) (s : zAS) (k : Nat × Nat) (x y : Int32) : zev zk_X2_lineAlong (18, ls, Sum.inl (Value.int y) :: Sum.inl (Value.int x) :: st, s, k) = zev zk_X2_lineAlong (19, ls, Sum.inl (Value.int (x + y)) :: st, s, k) := zev_go rfl rfl
theorem zr_X2_lineAlong_19 (ls : zLs) (st : List zAV) (s : zAS) (k : Nat × Nat) (x : Int32) : zev zk_X2_lineAlong (19, ls, Sum.inl (Value.int x) :: st, s, k) = zev zk_X2_lineAlong (20, ls, Sum.inl (Value.int (-x)) :: st, s, k) := zev_go rfl rfl
theorem zr_X2_lineAlong_20 (ls : zLs) (st : List zAV) (s : zAS) (k : Nat × Nat) (r v0 v1 v2 v3 : zAV) (h : zcok zEC 2 0 0 (zR_X2_lineAlong).cells (zR_X2_lineAlong).slots r st k) : zev zk_X2_lineAlong (20, ls, v3 :: v2 :: v1 :: v0 :: r :: st, s, k) = zret zk_X2_lineAlong 23 ls st (k.1 + 0, k.2 + 0) (m_X2_putLine [r, v0, v1, v2, v3] s) := zf_callV (as := [v3, v2, v1, v0]) 4 rfl rfl h
theorem zr_X2_lineAlong_23 (ls : zLs) (s : zAS) (k : Nat × Nat) (x : Int32) (hx : x = 0 ∨ x = 1) : zev zk_X2_lineAlong (23, ls, [Sum.inl (Value.int x)], s, k) = some (.inl (some (Sum.inl (Value.int x))), s) := zf_retz rfl hx
/-! X2_lineBetween: PrimePlane$Compass.lineBetween(LPrimePlane$Figure;LPrimePlane$Figure;LPrimePlane$Figure;)Z -/
abbrev zR_X2_lineBetween : Room := ({ frames := 3, cells := 0, slots := 0, locals := 69 } : Room)
noncomputable def zl_X2_lineBetween : List (Nat × zOp) := [(0, z_lda 2 1), (1, z_get zEC 4 8 4), (4, z_lda 2 5), (5, z_get zEC 4 8 8), (8, z_bin (fun x y => x * y) 9), (9, z_lda 2 10), (10, z_get zEC 4 9 13), (13, z_lda 2 14), (14, z_get zEC 4 9 17), (17, z_bin (fun x y => x * y) 18), (18, z_bin (fun x y => x + y) 19), (19, z_lda 3 20), (20, z_get zEC 4 8 23), (23, z_lda 3 24), (24, z_get zEC 4 8 27), (27, z_bin (fun x y => x * y) 28), (28, z_bin (fun x y => x - y) 29), (29, z_lda 3 30), (30, z_get zEC 4 9 33), (33, z_lda 3 34), (34, z_get zEC 4 9 37), (37, z_bin (fun x y => x * y) 38), (38, z_bin (fun x y => x - y) 39), (39, z_sti 4 41), (41, z_lda 0 42), (42, z_lda 1 43), (43, z_ic (2) 44), (44, z_lda 3 45), (45, z_get zEC 4 8 48), (48, z_lda 2 49), (49, z_get zEC 4 8 52), (52, z_bin (fun x y => x - y) 53), (53, z_bin (fun x y => x * y) 54), (54, z_ic (2) 55), (55, z_lda 3 56), (56, z_get zEC 4 9 59), (59, z_lda 2 60), (60, z_get zEC 4 9 63), (63, z_bin (fun x y => x - y) 64), (64, z_bin (fun x y => x * y) 65), (65, z_ldi 4 67), (67, z_callV zEC 2 m_X2_putLine 4 0 0 (zR_X2_lineBetween).cells (zR_X2_lineBetween).slots 70), (70, z_reti true)]
noncomputable def zk_X2_lineBetween (pc : Nat) : Option zOp := zlook zl_X2_lineBetween pc
noncomputable def m_X2_lineBetween : List zAV → zAS → Option zOut := zmeth zk_X2_lineBetween 5
set_option maxRecDepth 100000 in
set_option maxHeartbeats 4000000 in
theorem zcs_X2_lineBetween {R : Room} (hR : R = zR_X2_lineBetween) : ∀ q ∈ zl_X2_lineBetween, zS zEC yX2_lineBetween.cls cX2_lineBetween 5 wsX2_lineBetween (some .boolean) R q.1 q.2 := by
  subst hR
  have hin4 : ∀ w ∈ wsX40, w ∈ wsX2_lineBetween := fun w h => List.mem_cons_of_mem _ (List.mem_append_left _ (List.mem_append_left _ (List.mem_append_right _ h)))
  refine List.forall_mem_cons.mpr ⟨zs_aload_n dX2_lineBetween_0 rfl, ?_⟩
  refine List.forall_mem_cons.mpr ⟨zs_get (ci := 4) (j := 8) (N := 13) (C := RX4) (T := TX4) (index := 64) rfl (by decide) hin4 (List.mem_of_getElem? (i := 1) rfl) dX2_lineBetween_1, ?_⟩
  refine List.forall_mem_cons.mpr ⟨zs_aload_n dX2_lineBetween_4 rfl, ?_⟩
  refine List.forall_mem_cons.mpr ⟨zs_get (ci := 4) (j := 8) (N := 13) (C := RX4) (T := TX4) (index := 64) rfl (by decide) hin4 (List.mem_of_getElem? (i := 1) rfl) dX2_lineBetween_5, ?_⟩
  refine List.forall_mem_cons.mpr ⟨zs_imul dX2_lineBetween_8, ?_⟩
  refine List.forall_mem_cons.mpr ⟨zs_aload_n dX2_lineBetween_9 rfl, ?_⟩
  refine List.forall_mem_cons.mpr ⟨zs_get (ci := 4) (j := 9) (N := 13) (C := RX4) (T := TX4) (index := 67) rfl (by decide) hin4 (List.mem_of_getElem? (i := 2) rfl) dX2_lineBetween_10, ?_⟩
  refine List.forall_mem_cons.mpr ⟨zs_aload_n dX2_lineBetween_13 rfl, ?_⟩
  refine List.forall_mem_cons.mpr ⟨zs_get (ci := 4) (j := 9) (N := 13) (C := RX4) (T := TX4) (index := 67) rfl (by decide) hin4 (List.mem_of_getElem? (i := 2) rfl) dX2_lineBetween_14, ?_⟩
  refine List.forall_mem_cons.mpr ⟨zs_imul dX2_lineBetween_17, ?_⟩
  refine List.forall_mem_cons.mpr ⟨zs_iadd dX2_lineBetween_18, ?_⟩
  refine List.forall_mem_cons.mpr ⟨zs_aload_n dX2_lineBetween_19 rfl, ?_⟩
  refine List.forall_mem_cons.mpr ⟨zs_get (ci := 4) (j := 8) (N := 13) (C := RX4) (T := TX4) (index := 64) rfl (by decide) hin4 (List.mem_of_getElem? (i := 1) rfl) dX2_lineBetween_20, ?_⟩
  refine List.forall_mem_cons.mpr ⟨zs_aload_n dX2_lineBetween_23 rfl, ?_⟩
  refine List.forall_mem_cons.mpr ⟨zs_get (ci := 4) (j := 8) (N := 13) (C := RX4) (T := TX4) (index := 64) rfl (by decide) hin4 (List.mem_of_getElem? (i := 1) rfl) dX2_lineBetween_24, ?_⟩
  refine List.forall_mem_cons.mpr ⟨zs_imul dX2_lineBetween_27, ?_⟩
  refine List.forall_mem_cons.mpr ⟨zs_isub dX2_lineBetween_28, ?_⟩
  refine List.forall_mem_cons.mpr ⟨zs_aload_n dX2_lineBetween_29 rfl, ?_⟩
  refine List.forall_mem_cons.mpr ⟨zs_get (ci := 4) (j := 9) (N := 13) (C := RX4) (T := TX4) (index := 67) rfl (by decide) hin4 (List.mem_of_getElem? (i := 2) rfl) dX2_lineBetween_30, ?_⟩
  refine List.forall_mem_cons.mpr ⟨zs_aload_n dX2_lineBetween_33 rfl, ?_⟩
  refine List.forall_mem_cons.mpr ⟨zs_get (ci := 4) (j := 9) (N := 13) (C := RX4) (T := TX4) (index := 67) rfl (by decide) hin4 (List.mem_of_getElem? (i := 2) rfl) dX2_lineBetween_34, ?_⟩
  refine List.forall_mem_cons.mpr ⟨zs_imul dX2_lineBetween_37, ?_⟩
  refine List.forall_mem_cons.mpr ⟨zs_isub dX2_lineBetween_38, ?_⟩
  refine List.forall_mem_cons.mpr ⟨zs_istore dX2_lineBetween_39, ?_⟩
  refine List.forall_mem_cons.mpr ⟨zs_aload_n dX2_lineBetween_41 rfl, ?_⟩
  refine List.forall_mem_cons.mpr ⟨zs_aload_n dX2_lineBetween_42 rfl, ?_⟩
  refine List.forall_mem_cons.mpr ⟨zs_iconst dX2_lineBetween_43 (by decide), ?_⟩
  refine List.forall_mem_cons.mpr ⟨zs_aload_n dX2_lineBetween_44 rfl, ?_⟩
  refine List.forall_mem_cons.mpr ⟨zs_get (ci := 4) (j := 8) (N := 13) (C := RX4) (T := TX4) (index := 64) rfl (by decide) hin4 (List.mem_of_getElem? (i := 1) rfl) dX2_lineBetween_45, ?_⟩
  refine List.forall_mem_cons.mpr ⟨zs_aload_n dX2_lineBetween_48 rfl, ?_⟩
  refine List.forall_mem_cons.mpr ⟨zs_get (ci := 4) (j := 8) (N := 13) (C := RX4) (T := TX4) (index := 64) rfl (by decide) hin4 (List.mem_of_getElem? (i := 1) rfl) dX2_lineBetween_49, ?_⟩
  refine List.forall_mem_cons.mpr ⟨zs_isub dX2_lineBetween_52, ?_⟩
  refine List.forall_mem_cons.mpr ⟨zs_imul dX2_lineBetween_53, ?_⟩
  refine List.forall_mem_cons.mpr ⟨zs_iconst dX2_lineBetween_54 (by decide), ?_⟩
  refine List.forall_mem_cons.mpr ⟨zs_aload_n dX2_lineBetween_55 rfl, ?_⟩
  refine List.forall_mem_cons.mpr ⟨zs_get (ci := 4) (j := 9) (N := 13) (C := RX4) (T := TX4) (index := 67) rfl (by decide) hin4 (List.mem_of_getElem? (i := 2) rfl) dX2_lineBetween_56, ?_⟩
  refine List.forall_mem_cons.mpr ⟨zs_aload_n dX2_lineBetween_59 rfl, ?_⟩
  refine List.forall_mem_cons.mpr ⟨zs_get (ci := 4) (j := 9) (N := 13) (C := RX4) (T := TX4) (index := 67) rfl (by decide) hin4 (List.mem_of_getElem? (i := 2) rfl) dX2_lineBetween_60, ?_⟩
  refine List.forall_mem_cons.mpr ⟨zs_isub dX2_lineBetween_63, ?_⟩
  refine List.forall_mem_cons.mpr ⟨zs_imul dX2_lineBetween_64, ?_⟩
  refine List.forall_mem_cons.mpr ⟨zs_iload dX2_lineBetween_65, ?_⟩
  refine List.forall_mem_cons.mpr ⟨zs_callV (ci := 2) (rm := zR_X2_putLine) (n := 4) rfl zM_X2_putLine gX2_lineBetween_X2_putLine rfl (by decide +kernel) ⟨by decide, by decide⟩ dX2_lineBetween_67, ?_⟩
  refine List.forall_mem_cons.mpr ⟨zs_reti (ty := .boolean) rfl (fun x h => (znz x h).1) dX2_lineBetween_70, ?_⟩
  exact fun _ h => absurd h List.not_mem_nil
theorem zM_X2_lineBetween : zMeets zEC yX2_lineBetween wsX2_lineBetween zR_X2_lineBetween m_X2_lineBetween := zmeth_M zECok (zlook_all (zcs_X2_lineBetween rfl)) (by decide +kernel) rfl
theorem zr_X2_lineBetween_0 (a0 a1 a3 a4 : Option zAV) (st : List zAV) (s : zAS) (k : Nat × Nat) (o : Nat × Nat) : zev zk_X2_lineBetween (0, [a0, a1, some (Sum.inr o), a3, a4], st, s, k) = zev zk_X2_lineBetween (1, [a0, a1, some (Sum.inr o), a3, a4], Sum.inr o :: st, s, k) := zev_go rfl rfl
theorem zr_X2_lineBetween_1 (ls : zLs) (st : List zAV) (s : zAS) (k : Nat × Nat) (o i : Nat) : zev zk_X2_lineBetween (1, ls, Sum.inr (o, i) :: st, s, k) = zpush zk_X2_lineBetween 4 ls st s k (zgv zEC 4 8 o i s.1) := zf_get rfl
theorem zr_X2_lineBetween_4 (a0 a1 a3 a4 : Option zAV) (st : List zAV) (s : zAS) (k : Nat × Nat) (o : Nat × Nat) : zev zk_X2_lineBetween (4, [a0, a1, some (Sum.inr o), a3, a4], st, s, k) = zev zk_X2_lineBetween (5, [a0, a1, some (Sum.inr o), a3, a4], Sum.inr o :: st, s, k) := zev_go rfl rfl
theorem zr_X2_lineBetween_5 (ls : zLs) (st : List zAV) (s : zAS) (k : Nat × Nat) (o i : Nat) : zev zk_X2_lineBetween (5, ls, Sum.inr (o, i) :: st, s, k) = zpush zk_X2_lineBetween 8 ls st s k (zgv zEC 4 8 o i s.1) := zf_get rfl
theorem zr_X2_lineBetween_8 (ls : zLs) (st : List zAV) (s : zAS) (k : Nat × Nat) (x y : Int32) : zev zk_X2_lineBetween (8, ls, Sum.inl (Value.int y) :: Sum.inl (Value.int x) :: st, s, k) = zev zk_X2_lineBetween (9, ls, Sum.inl (Value.int (x * y)) :: st, s, k) := zev_go rfl rfl
theorem zr_X2_lineBetween_9 (a0 a1 a3 a4 : Option zAV) (st : List zAV) (s : zAS) (k : Nat × Nat) (o : Nat × Nat) : zev zk_X2_lineBetween (9, [a0, a1, some (Sum.inr o), a3, a4], st, s, k) = zev zk_X2_lineBetween (10, [a0, a1, some (Sum.inr o), a3, a4], Sum.inr o :: st, s, k) := zev_go rfl rfl
theorem zr_X2_lineBetween_10 (ls : zLs) (st : List zAV) (s : zAS) (k : Nat × Nat) (o i : Nat) : zev zk_X2_lineBetween (10, ls, Sum.inr (o, i) :: st, s, k) = zpush zk_X2_lineBetween 13 ls st s k (zgv zEC 4 9 o i s.1) := zf_get rfl
theorem zr_X2_lineBetween_13 (a0 a1 a3 a4 : Option zAV) (st : List zAV) (s : zAS) (k : Nat × Nat) (o : Nat × Nat) : zev zk_X2_lineBetween (13, [a0, a1, some (Sum.inr o), a3, a4], st, s, k) = zev zk_X2_lineBetween (14, [a0, a1, some (Sum.inr o), a3, a4], Sum.inr o :: st, s, k) := zev_go rfl rfl
theorem zr_X2_lineBetween_14 (ls : zLs) (st : List zAV) (s : zAS) (k : Nat × Nat) (o i : Nat) : zev zk_X2_lineBetween (14, ls, Sum.inr (o, i) :: st, s, k) = zpush zk_X2_lineBetween 17 ls st s k (zgv zEC 4 9 o i s.1) := zf_get rfl
theorem zr_X2_lineBetween_17 (ls : zLs) (st : List zAV) (s : zAS) (k : Nat × Nat) (x y : Int32) : zev zk_X2_lineBetween (17, ls, Sum.inl (Value.int y) :: Sum.inl (Value.int x) :: st, s, k) = zev zk_X2_lineBetween (18, ls, Sum.inl (Value.int (x * y)) :: st, s, k) := zev_go rfl rfl
theorem zr_X2_lineBetween_18 (ls : zLs) (st : List zAV) (s : zAS) (k : Nat × Nat) (x y : Int32) : zev zk_X2_lineBetween (18, ls, Sum.inl (Value.int y) :: Sum.inl (Value.int x) :: st, s, k) = zev zk_X2_lineBetween (19, ls, Sum.inl (Value.int (x + y)) :: st, s, k) := zev_go rfl rfl
theorem zr_X2_lineBetween_19 (a0 a1 a2 a4 : Option zAV) (st : List zAV) (s : zAS) (k : Nat × Nat) (o : Nat × Nat) : zev zk_X2_lineBetween (19, [a0, a1, a2, some (Sum.inr o), a4], st, s, k) = zev zk_X2_lineBetween (20, [a0, a1, a2, some (Sum.inr o), a4], Sum.inr o :: st, s, k) := zev_go rfl rfl
theorem zr_X2_lineBetween_20 (ls : zLs) (st : List zAV) (s : zAS) (k : Nat × Nat) (o i : Nat) : zev zk_X2_lineBetween (20, ls, Sum.inr (o, i) :: st, s, k) = zpush zk_X2_lineBetween 23 ls st s k (zgv zEC 4 8 o i s.1) := zf_get rfl
theorem zr_X2_lineBetween_23 (a0 a1 a2 a4 : Option zAV) (st : List zAV) (s : zAS) (k : Nat × Nat) (o : Nat × Nat) : zev zk_X2_lineBetween (23, [a0, a1, a2, some (Sum.inr o), a4], st, s, k) = zev zk_X2_lineBetween (24, [a0, a1, a2, some (Sum.inr o), a4], Sum.inr o :: st, s, k) := zev_go rfl rfl
theorem zr_X2_lineBetween_24 (ls : zLs) (st : List zAV) (s : zAS) (k : Nat × Nat) (o i : Nat) : zev zk_X2_lineBetween (24, ls, Sum.inr (o, i) :: st, s, k) = zpush zk_X2_lineBetween 27 ls st s k (zgv zEC 4 8 o i s.1) := zf_get rfl
theorem zr_X2_lineBetween_27 (ls : zLs) (st : List zAV) (s : zAS) (k : Nat × Nat) (x y : Int32) : zev zk_X2_lineBetween (27, ls, Sum.inl (Value.int y) :: Sum.inl (Value.int x) :: st, s, k) = zev zk_X2_lineBetween (28, ls, Sum.inl (Value.int (x * y)) :: st, s, k) := zev_go rfl rfl
theorem zr_X2_lineBetween_28 (ls : zLs) (st : List zAV) (s : zAS) (k : Nat × Nat) (x y : Int32) : zev zk_X2_lineBetween (28, ls, Sum.inl (Value.int y) :: Sum.inl (Value.int x) :: st, s, k) = zev zk_X2_lineBetween (29, ls, Sum.inl (Value.int (x - y)) :: st, s, k) := zev_go rfl rfl
theorem zr_X2_lineBetween_29 (a0 a1 a2 a4 : Option zAV) (st : List zAV) (s : zAS) (k : Nat × Nat) (o : Nat × Nat) : zev zk_X2_lineBetween (29, [a0, a1, a2, some (Sum.inr o), a4], st, s, k) = zev zk_X2_lineBetween (30, [a0, a1, a2, some (Sum.inr o), a4], Sum.inr o :: st, s, k) := zev_go rfl rfl
theorem zr_X2_lineBetween_30 (ls : zLs) (st : List zAV) (s : zAS) (k : Nat × Nat) (o i : Nat) : zev zk_X2_lineBetween (30, ls, Sum.inr (o, i) :: st, s, k) = zpush zk_X2_lineBetween 33 ls st s k (zgv zEC 4 9 o i s.1) := zf_get rfl
theorem zr_X2_lineBetween_33 (a0 a1 a2 a4 : Option zAV) (st : List zAV) (s : zAS) (k : Nat × Nat) (o : Nat × Nat) : zev zk_X2_lineBetween (33, [a0, a1, a2, some (Sum.inr o), a4], st, s, k) = zev zk_X2_lineBetween (34, [a0, a1, a2, some (Sum.inr o), a4], Sum.inr o :: st, s, k) := zev_go rfl rfl
theorem zr_X2_lineBetween_34 (ls : zLs) (st : List zAV) (s : zAS) (k : Nat × Nat) (o i : Nat) : zev zk_X2_lineBetween (34, ls, Sum.inr (o, i) :: st, s, k) = zpush zk_X2_lineBetween 37 ls st s k (zgv zEC 4 9 o i s.1) := zf_get rfl
theorem zr_X2_lineBetween_37 (ls : zLs) (st : List zAV) (s : zAS) (k : Nat × Nat) (x y : Int32) : zev zk_X2_lineBetween (37, ls, Sum.inl (Value.int y) :: Sum.inl (Value.int x) :: st, s, k) = zev zk_X2_lineBetween (38, ls, Sum.inl (Value.int (x * y)) :: st, s, k) := zev_go rfl rfl
theorem zr_X2_lineBetween_38 (ls : zLs) (st : List zAV) (s : zAS) (k : Nat × Nat) (x y : Int32) : zev zk_X2_lineBetween (38, ls, Sum.inl (Value.int y) :: Sum.inl (Value.int x) :: st, s, k) = zev zk_X2_lineBetween (39, ls, Sum.inl (Value.int (x - y)) :: st, s, k) := zev_go rfl rfl
theorem zr_X2_lineBetween_39 (a0 a1 a2 a3 a4 : Option zAV) (st : List zAV) (s : zAS) (k : Nat × Nat) (x : Int32) : zev zk_X2_lineBetween (39, [a0, a1, a2, a3, a4], Sum.inl (Value.int x) :: st, s, k) = zev zk_X2_lineBetween (41, [a0, a1, a2, zk1 a3, some (Sum.inl (Value.int x))], st, s, k) := zev_go rfl rfl
theorem zr_X2_lineBetween_41 (a1 a2 a3 a4 : Option zAV) (st : List zAV) (s : zAS) (k : Nat × Nat) (o : Nat × Nat) : zev zk_X2_lineBetween (41, [some (Sum.inr o), a1, a2, a3, a4], st, s, k) = zev zk_X2_lineBetween (42, [some (Sum.inr o), a1, a2, a3, a4], Sum.inr o :: st, s, k) := zev_go rfl rfl
theorem zr_X2_lineBetween_42 (a0 a2 a3 a4 : Option zAV) (st : List zAV) (s : zAS) (k : Nat × Nat) (o : Nat × Nat) : zev zk_X2_lineBetween (42, [a0, some (Sum.inr o), a2, a3, a4], st, s, k) = zev zk_X2_lineBetween (43, [a0, some (Sum.inr o), a2, a3, a4], Sum.inr o :: st, s, k) := zev_go rfl rfl
theorem zr_X2_lineBetween_43 (ls : zLs) (st : List zAV) (s : zAS) (k : Nat × Nat) : zev zk_X2_lineBetween (43, ls, st, s, k) = zev zk_X2_lineBetween (44, ls, Sum.inl (Value.int (2)) :: st, s, k) := zev_go rfl rfl
theorem zr_X2_lineBetween_44 (a0 a1 a2 a4 : Option zAV) (st : List zAV) (s : zAS) (k : Nat × Nat) (o : Nat × Nat) : zev zk_X2_lineBetween (44, [a0, a1, a2, some (Sum.inr o), a4], st, s, k) = zev zk_X2_lineBetween (45, [a0, a1, a2, some (Sum.inr o), a4], Sum.inr o :: st, s, k) := zev_go rfl rfl
theorem zr_X2_lineBetween_45 (ls : zLs) (st : List zAV) (s : zAS) (k : Nat × Nat) (o i : Nat) : zev zk_X2_lineBetween (45, ls, Sum.inr (o, i) :: st, s, k) = zpush zk_X2_lineBetween 48 ls st s k (zgv zEC 4 8 o i s.1) := zf_get rfl
theorem zr_X2_lineBetween_48 (a0 a1 a3 a4 : Option zAV) (st : List zAV) (s : zAS) (k : Nat × Nat) (o : Nat × Nat) : zev zk_X2_lineBetween (48, [a0, a1, some (Sum.inr o), a3, a4], st, s, k) = zev zk_X2_lineBetween (49, [a0, a1, some (Sum.inr o), a3, a4], Sum.inr o :: st, s, k) := zev_go rfl rfl
theorem zr_X2_lineBetween_49 (ls : zLs) (st : List zAV) (s : zAS) (k : Nat × Nat) (o i : Nat) : zev zk_X2_lineBetween (49, ls, Sum.inr (o, i) :: st, s, k) = zpush zk_X2_lineBetween 52 ls st s k (zgv zEC 4 8 o i s.1) := zf_get rfl
theorem zr_X2_lineBetween_52 (ls : zLs) (st : List zAV) (s : zAS) (k : Nat × Nat) (x y : Int32) : zev zk_X2_lineBetween (52, ls, Sum.inl (Value.int y) :: Sum.inl (Value.int x) :: st, s, k) = zev zk_X2_lineBetween (53, ls, Sum.inl (Value.int (x - y)) :: st, s, k) := zev_go rfl rfl
theorem zr_X2_lineBetween_53 (ls : zLs) (st : List zAV) (s : zAS) (k : Nat × Nat) (x y : Int32) : zev zk_X2_lineBetween (53, ls, Sum.inl (Value.int y) :: Sum.inl (Value.int x) :: st, s, k) = zev zk_X2_lineBetween (54, ls, Sum.inl (Value.int (x * y)) :: st, s, k) := zev_go rfl rfl
theorem zr_X2_lineBetween_54 (ls : zLs) (st : List zAV) (s : zAS) (k : Nat × Nat) : zev zk_X2_lineBetween (54, ls, st, s, k) = zev zk_X2_lineBetween (55, ls, Sum.inl (Value.int (2)) :: st, s, k) := zev_go rfl rfl
theorem zr_X2_lineBetween_55 (a0 a1 a2 a4 : Option zAV) (st : List zAV) (s : zAS) (k : Nat × Nat) (o : Nat × Nat) : zev zk_X2_lineBetween (55, [a0, a1, a2, some (Sum.inr o), a4], st, s, k) = zev zk_X2_lineBetween (56, [a0, a1, a2, some (Sum.inr o), a4], Sum.inr o :: st, s, k) := zev_go rfl rfl
theorem zr_X2_lineBetween_56 (ls : zLs) (st : List zAV) (s : zAS) (k : Nat × Nat) (o i : Nat) : zev zk_X2_lineBetween (56, ls, Sum.inr (o, i) :: st, s, k) = zpush zk_X2_lineBetween 59 ls st s k (zgv zEC 4 9 o i s.1) := zf_get rfl
theorem zr_X2_lineBetween_59 (a0 a1 a3 a4 : Option zAV) (st : List zAV) (s : zAS) (k : Nat × Nat) (o : Nat × Nat) : zev zk_X2_lineBetween (59, [a0, a1, some (Sum.inr o), a3, a4], st, s, k) = zev zk_X2_lineBetween (60, [a0, a1, some (Sum.inr o), a3, a4], Sum.inr o :: st, s, k) := zev_go rfl rfl
theorem zr_X2_lineBetween_60 (ls : zLs) (st : List zAV) (s : zAS) (k : Nat × Nat) (o i : Nat) : zev zk_X2_lineBetween (60, ls, Sum.inr (o, i) :: st, s, k) = zpush zk_X2_lineBetween 63 ls st s k (zgv zEC 4 9 o i s.1) := zf_get rfl
theorem zr_X2_lineBetween_63 (ls : zLs) (st : List zAV) (s : zAS) (k : Nat × Nat) (x y : Int32) : zev zk_X2_lineBetween (63, ls, Sum.inl (Value.int y) :: Sum.inl (Value.int x) :: st, s, k) = zev zk_X2_lineBetween (64, ls, Sum.inl (Value.int (x - y)) :: st, s, k) := zev_go rfl rfl
theorem zr_X2_lineBetween_64 (ls : zLs) (st : List zAV) (s : zAS) (k : Nat × Nat) (x y : Int32) : zev zk_X2_lineBetween (64, ls, Sum.inl (Value.int y) :: Sum.inl (Value.int x) :: st, s, k) = zev zk_X2_lineBetween (65, ls, Sum.inl (Value.int (x * y)) :: st, s, k) := zev_go rfl rfl
theorem zr_X2_lineBetween_65 (a0 a1 a2 a3 : Option zAV) (st : List zAV) (s : zAS) (k : Nat × Nat) (x : Int32) : zev zk_X2_lineBetween (65, [a0, a1, a2, a3, some (Sum.inl (Value.int x))], st, s, k) = zev zk_X2_lineBetween (67, [a0, a1, a2, a3, some (Sum.inl (Value.int x))], Sum.inl (Value.int x) :: st, s, k) := zev_go rfl rfl
theorem zr_X2_lineBetween_67 (ls : zLs) (st : List zAV) (s : zAS) (k : Nat × Nat) (r v0 v1 v2 v3 : zAV) (h : zcok zEC 2 0 0 (zR_X2_lineBetween).cells (zR_X2_lineBetween).slots r st k) : zev zk_X2_lineBetween (67, ls, v3 :: v2 :: v1 :: v0 :: r :: st, s, k) = zret zk_X2_lineBetween 70 ls st (k.1 + 0, k.2 + 0) (m_X2_putLine [r, v0, v1, v2, v3] s) := zf_callV (as := [v3, v2, v1, v0]) 4 rfl rfl h
theorem zr_X2_lineBetween_70 (ls : zLs) (s : zAS) (k : Nat × Nat) (x : Int32) (hx : x = 0 ∨ x = 1) : zev zk_X2_lineBetween (70, ls, [Sum.inl (Value.int x)], s, k) = some (.inl (some (Sum.inl (Value.int x))), s) := zf_retz rfl hx
/-! X2_squareOf: PrimePlane$Compass.squareOf(LPrimePlane$Figure;LPrimePlane$Figure;)I -/
abbrev zR_X2_squareOf : Room := ({ frames := 2, cells := 0, slots := 0, locals := 43 } : Room)
noncomputable def zl_X2_squareOf : List (Nat × zOp) := [(0, z_lda 1 1), (1, z_get zEC 4 8 4), (4, z_lda 2 5), (5, z_get zEC 4 8 8), (8, z_bin (fun x y => x - y) 9), (9, z_sti 3 10), (10, z_lda 1 11), (11, z_get zEC 4 9 14), (14, z_lda 2 15), (15, z_get zEC 4 9 18), (18, z_bin (fun x y => x - y) 19), (19, z_sti 4 21), (21, z_lda 0 22), (22, z_get zEC 2 0 25), (25, z_ldi 3 26), (26, z_ldi 3 27), (27, z_bin (fun x y => x * y) 28), (28, z_ldi 4 30), (30, z_ldi 4 32), (32, z_bin (fun x y => x * y) 33), (33, z_bin (fun x y => x + y) 34), (34, z_callV zEC 3 m_X3_rest 1 0 0 (zR_X2_squareOf).cells (zR_X2_squareOf).slots 37), (37, z_reti false)]
noncomputable def zk_X2_squareOf (pc : Nat) : Option zOp := zlook zl_X2_squareOf pc
noncomputable def m_X2_squareOf : List zAV → zAS → Option zOut := zmeth zk_X2_squareOf 5
set_option maxRecDepth 100000 in
set_option maxHeartbeats 4000000 in
theorem zcs_X2_squareOf {R : Room} (hR : R = zR_X2_squareOf) : ∀ q ∈ zl_X2_squareOf, zS zEC yX2_squareOf.cls cX2_squareOf 5 wsX2_squareOf (some .int) R q.1 q.2 := by
  subst hR
  have hin2 : ∀ w ∈ wsX20, w ∈ wsX2_squareOf := fun w h => List.mem_cons_of_mem _ (List.mem_append_left _ (List.mem_append_right _ h))
  have hin4 : ∀ w ∈ wsX40, w ∈ wsX2_squareOf := fun w h => List.mem_cons_of_mem _ (List.mem_append_left _ (List.mem_append_left _ (List.mem_append_right _ h)))
  refine List.forall_mem_cons.mpr ⟨zs_aload_n dX2_squareOf_0 rfl, ?_⟩
  refine List.forall_mem_cons.mpr ⟨zs_get (ci := 4) (j := 8) (N := 13) (C := RX4) (T := TX4) (index := 64) rfl (by decide) hin4 (List.mem_of_getElem? (i := 1) rfl) dX2_squareOf_1, ?_⟩
  refine List.forall_mem_cons.mpr ⟨zs_aload_n dX2_squareOf_4 rfl, ?_⟩
  refine List.forall_mem_cons.mpr ⟨zs_get (ci := 4) (j := 8) (N := 13) (C := RX4) (T := TX4) (index := 64) rfl (by decide) hin4 (List.mem_of_getElem? (i := 1) rfl) dX2_squareOf_5, ?_⟩
  refine List.forall_mem_cons.mpr ⟨zs_isub dX2_squareOf_8, ?_⟩
  refine List.forall_mem_cons.mpr ⟨zs_istore_n dX2_squareOf_9 rfl, ?_⟩
  refine List.forall_mem_cons.mpr ⟨zs_aload_n dX2_squareOf_10 rfl, ?_⟩
  refine List.forall_mem_cons.mpr ⟨zs_get (ci := 4) (j := 9) (N := 13) (C := RX4) (T := TX4) (index := 67) rfl (by decide) hin4 (List.mem_of_getElem? (i := 2) rfl) dX2_squareOf_11, ?_⟩
  refine List.forall_mem_cons.mpr ⟨zs_aload_n dX2_squareOf_14 rfl, ?_⟩
  refine List.forall_mem_cons.mpr ⟨zs_get (ci := 4) (j := 9) (N := 13) (C := RX4) (T := TX4) (index := 67) rfl (by decide) hin4 (List.mem_of_getElem? (i := 2) rfl) dX2_squareOf_15, ?_⟩
  refine List.forall_mem_cons.mpr ⟨zs_isub dX2_squareOf_18, ?_⟩
  refine List.forall_mem_cons.mpr ⟨zs_istore dX2_squareOf_19, ?_⟩
  refine List.forall_mem_cons.mpr ⟨zs_aload_n dX2_squareOf_21 rfl, ?_⟩
  refine List.forall_mem_cons.mpr ⟨zs_get (ci := 2) (j := 0) (N := 2) (C := RX2) (T := TX2) (index := 12) rfl (by decide) hin2 (List.mem_of_getElem? (i := 3) rfl) dX2_squareOf_22, ?_⟩
  refine List.forall_mem_cons.mpr ⟨zs_iload_n dX2_squareOf_25 rfl, ?_⟩
  refine List.forall_mem_cons.mpr ⟨zs_iload_n dX2_squareOf_26 rfl, ?_⟩
  refine List.forall_mem_cons.mpr ⟨zs_imul dX2_squareOf_27, ?_⟩
  refine List.forall_mem_cons.mpr ⟨zs_iload dX2_squareOf_28, ?_⟩
  refine List.forall_mem_cons.mpr ⟨zs_iload dX2_squareOf_30, ?_⟩
  refine List.forall_mem_cons.mpr ⟨zs_imul dX2_squareOf_32, ?_⟩
  refine List.forall_mem_cons.mpr ⟨zs_iadd dX2_squareOf_33, ?_⟩
  refine List.forall_mem_cons.mpr ⟨zs_callV (ci := 3) (rm := zR_X3_rest) (n := 1) rfl zM_X3_rest gX2_squareOf_X3_rest rfl (by decide +kernel) ⟨by decide, by decide⟩ dX2_squareOf_34, ?_⟩
  refine List.forall_mem_cons.mpr ⟨zs_reti (ty := .int) rfl (fun x h => (zni x h).1) dX2_squareOf_37, ?_⟩
  exact fun _ h => absurd h List.not_mem_nil
theorem zM_X2_squareOf : zMeets zEC yX2_squareOf wsX2_squareOf zR_X2_squareOf m_X2_squareOf := zmeth_M zECok (zlook_all (zcs_X2_squareOf rfl)) (by decide +kernel) rfl
theorem zr_X2_squareOf_0 (a0 a2 a3 a4 : Option zAV) (st : List zAV) (s : zAS) (k : Nat × Nat) (o : Nat × Nat) : zev zk_X2_squareOf (0, [a0, some (Sum.inr o), a2, a3, a4], st, s, k) = zev zk_X2_squareOf (1, [a0, some (Sum.inr o), a2, a3, a4], Sum.inr o :: st, s, k) := zev_go rfl rfl
theorem zr_X2_squareOf_1 (ls : zLs) (st : List zAV) (s : zAS) (k : Nat × Nat) (o i : Nat) : zev zk_X2_squareOf (1, ls, Sum.inr (o, i) :: st, s, k) = zpush zk_X2_squareOf 4 ls st s k (zgv zEC 4 8 o i s.1) := zf_get rfl
theorem zr_X2_squareOf_4 (a0 a1 a3 a4 : Option zAV) (st : List zAV) (s : zAS) (k : Nat × Nat) (o : Nat × Nat) : zev zk_X2_squareOf (4, [a0, a1, some (Sum.inr o), a3, a4], st, s, k) = zev zk_X2_squareOf (5, [a0, a1, some (Sum.inr o), a3, a4], Sum.inr o :: st, s, k) := zev_go rfl rfl
theorem zr_X2_squareOf_5 (ls : zLs) (st : List zAV) (s : zAS) (k : Nat × Nat) (o i : Nat) : zev zk_X2_squareOf (5, ls, Sum.inr (o, i) :: st, s, k) = zpush zk_X2_squareOf 8 ls st s k (zgv zEC 4 8 o i s.1) := zf_get rfl
theorem zr_X2_squareOf_8 (ls : zLs) (st : List zAV) (s : zAS) (k : Nat × Nat) (x y : Int32) : zev zk_X2_squareOf (8, ls, Sum.inl (Value.int y) :: Sum.inl (Value.int x) :: st, s, k) = zev zk_X2_squareOf (9, ls, Sum.inl (Value.int (x - y)) :: st, s, k) := zev_go rfl rfl
theorem zr_X2_squareOf_9 (a0 a1 a2 a3 a4 : Option zAV) (st : List zAV) (s : zAS) (k : Nat × Nat) (x : Int32) : zev zk_X2_squareOf (9, [a0, a1, a2, a3, a4], Sum.inl (Value.int x) :: st, s, k) = zev zk_X2_squareOf (10, [a0, a1, zk1 a2, some (Sum.inl (Value.int x)), a4], st, s, k) := zev_go rfl rfl
theorem zr_X2_squareOf_10 (a0 a2 a3 a4 : Option zAV) (st : List zAV) (s : zAS) (k : Nat × Nat) (o : Nat × Nat) : zev zk_X2_squareOf (10, [a0, some (Sum.inr o), a2, a3, a4], st, s, k) = zev zk_X2_squareOf (11, [a0, some (Sum.inr o), a2, a3, a4], Sum.inr o :: st, s, k) := zev_go rfl rfl
theorem zr_X2_squareOf_11 (ls : zLs) (st : List zAV) (s : zAS) (k : Nat × Nat) (o i : Nat) : zev zk_X2_squareOf (11, ls, Sum.inr (o, i) :: st, s, k) = zpush zk_X2_squareOf 14 ls st s k (zgv zEC 4 9 o i s.1) := zf_get rfl
theorem zr_X2_squareOf_14 (a0 a1 a3 a4 : Option zAV) (st : List zAV) (s : zAS) (k : Nat × Nat) (o : Nat × Nat) : zev zk_X2_squareOf (14, [a0, a1, some (Sum.inr o), a3, a4], st, s, k) = zev zk_X2_squareOf (15, [a0, a1, some (Sum.inr o), a3, a4], Sum.inr o :: st, s, k) := zev_go rfl rfl
theorem zr_X2_squareOf_15 (ls : zLs) (st : List zAV) (s : zAS) (k : Nat × Nat) (o i : Nat) : zev zk_X2_squareOf (15, ls, Sum.inr (o, i) :: st, s, k) = zpush zk_X2_squareOf 18 ls st s k (zgv zEC 4 9 o i s.1) := zf_get rfl
theorem zr_X2_squareOf_18 (ls : zLs) (st : List zAV) (s : zAS) (k : Nat × Nat) (x y : Int32) : zev zk_X2_squareOf (18, ls, Sum.inl (Value.int y) :: Sum.inl (Value.int x) :: st, s, k) = zev zk_X2_squareOf (19, ls, Sum.inl (Value.int (x - y)) :: st, s, k) := zev_go rfl rfl
theorem zr_X2_squareOf_19 (a0 a1 a2 a3 a4 : Option zAV) (st : List zAV) (s : zAS) (k : Nat × Nat) (x : Int32) : zev zk_X2_squareOf (19, [a0, a1, a2, a3, a4], Sum.inl (Value.int x) :: st, s, k) = zev zk_X2_squareOf (21, [a0, a1, a2, zk1 a3, some (Sum.inl (Value.int x))], st, s, k) := zev_go rfl rfl
theorem zr_X2_squareOf_21 (a1 a2 a3 a4 : Option zAV) (st : List zAV) (s : zAS) (k : Nat × Nat) (o : Nat × Nat) : zev zk_X2_squareOf (21, [some (Sum.inr o), a1, a2, a3, a4], st, s, k) = zev zk_X2_squareOf (22, [some (Sum.inr o), a1, a2, a3, a4], Sum.inr o :: st, s, k) := zev_go rfl rfl
theorem zr_X2_squareOf_22 (ls : zLs) (st : List zAV) (s : zAS) (k : Nat × Nat) (o i : Nat) : zev zk_X2_squareOf (22, ls, Sum.inr (o, i) :: st, s, k) = zpush zk_X2_squareOf 25 ls st s k (zgv zEC 2 0 o i s.1) := zf_get rfl
theorem zr_X2_squareOf_25 (a0 a1 a2 a4 : Option zAV) (st : List zAV) (s : zAS) (k : Nat × Nat) (x : Int32) : zev zk_X2_squareOf (25, [a0, a1, a2, some (Sum.inl (Value.int x)), a4], st, s, k) = zev zk_X2_squareOf (26, [a0, a1, a2, some (Sum.inl (Value.int x)), a4], Sum.inl (Value.int x) :: st, s, k) := zev_go rfl rfl
theorem zr_X2_squareOf_26 (a0 a1 a2 a4 : Option zAV) (st : List zAV) (s : zAS) (k : Nat × Nat) (x : Int32) : zev zk_X2_squareOf (26, [a0, a1, a2, some (Sum.inl (Value.int x)), a4], st, s, k) = zev zk_X2_squareOf (27, [a0, a1, a2, some (Sum.inl (Value.int x)), a4], Sum.inl (Value.int x) :: st, s, k) := zev_go rfl rfl
theorem zr_X2_squareOf_27 (ls : zLs) (st : List zAV) (s : zAS) (k : Nat × Nat) (x y : Int32) : zev zk_X2_squareOf (27, ls, Sum.inl (Value.int y) :: Sum.inl (Value.int x) :: st, s, k) = zev zk_X2_squareOf (28, ls, Sum.inl (Value.int (x * y)) :: st, s, k) := zev_go rfl rfl
theorem zr_X2_squareOf_28 (a0 a1 a2 a3 : Option zAV) (st : List zAV) (s : zAS) (k : Nat × Nat) (x : Int32) : zev zk_X2_squareOf (28, [a0, a1, a2, a3, some (Sum.inl (Value.int x))], st, s, k) = zev zk_X2_squareOf (30, [a0, a1, a2, a3, some (Sum.inl (Value.int x))], Sum.inl (Value.int x) :: st, s, k) := zev_go rfl rfl
theorem zr_X2_squareOf_30 (a0 a1 a2 a3 : Option zAV) (st : List zAV) (s : zAS) (k : Nat × Nat) (x : Int32) : zev zk_X2_squareOf (30, [a0, a1, a2, a3, some (Sum.inl (Value.int x))], st, s, k) = zev zk_X2_squareOf (32, [a0, a1, a2, a3, some (Sum.inl (Value.int x))], Sum.inl (Value.int x) :: st, s, k) := zev_go rfl rfl
theorem zr_X2_squareOf_32 (ls : zLs) (st : List zAV) (s : zAS) (k : Nat × Nat) (x y : Int32) : zev zk_X2_squareOf (32, ls, Sum.inl (Value.int y) :: Sum.inl (Value.int x) :: st, s, k) = zev zk_X2_squareOf (33, ls, Sum.inl (Value.int (x * y)) :: st, s, k) := zev_go rfl rfl
theorem zr_X2_squareOf_33 (ls : zLs) (st : List zAV) (s : zAS) (k : Nat × Nat) (x y : Int32) : zev zk_X2_squareOf (33, ls, Sum.inl (Value.int y) :: Sum.inl (Value.int x) :: st, s, k) = zev zk_X2_squareOf (34, ls, Sum.inl (Value.int (x + y)) :: st, s, k) := zev_go rfl rfl
theorem zr_X2_squareOf_34 (ls : zLs) (st : List zAV) (s : zAS) (k : Nat × Nat) (r v0 : zAV) (h : zcok zEC 3 0 0 (zR_X2_squareOf).cells (zR_X2_squareOf).slots r st k) : zev zk_X2_squareOf (34, ls, v0 :: r :: st, s, k) = zret zk_X2_squareOf 37 ls st (k.1 + 0, k.2 + 0) (m_X3_rest [r, v0] s) := zf_callV (as := [v0]) 1 rfl rfl h
theorem zr_X2_squareOf_37 (ls : zLs) (s : zAS) (k : Nat × Nat) (x : Int32) : zev zk_X2_squareOf (37, ls, [Sum.inl (Value.int x)], s, k) = some (.inl (some (Sum.inl (Value.int x))), s) := zf_reti rfl
/-! X2_putCircle: PrimePlane$Compass.putCircle(LPrimePlane$Figure;III)Z -/
abbrev zR_X2_putCircle : Room := ({ frames := 2, cells := 0, slots := 0, locals := 43 } : Room)
noncomputable def zl_X2_putCircle : List (Nat × zOp) := [(0, z_lda 1 1), (1, z_lda 0 2), (2, z_get zEC 2 0 5), (5, z_ldi 2 6), (6, z_callV zEC 3 m_X3_rest 1 0 0 (zR_X2_putCircle).cells (zR_X2_putCircle).slots 9), (9, z_lda 0 10), (10, z_get zEC 2 0 13), (13, z_ldi 3 14), (14, z_callV zEC 3 m_X3_rest 1 0 0 (zR_X2_putCircle).cells (zR_X2_putCircle).slots 17), (17, z_lda 0 18), (18, z_get zEC 2 0 21), (21, z_ldi 4 23), (23, z_callV zEC 3 m_X3_rest 1 0 0 (zR_X2_putCircle).cells (zR_X2_putCircle).slots 26), (26, z_callV zEC 4 m_X4_put 3 0 0 (zR_X2_putCircle).cells (zR_X2_putCircle).slots 29), (29, z_lda 1 30), (30, z_get zEC 4 10 33), (33, z_if (fun x => decide (x = 0)) 40 36), (36, z_ic (1) 37), (37, z_goto 41), (40, z_ic (0) 41), (41, z_reti true)]
noncomputable def zk_X2_putCircle (pc : Nat) : Option zOp := zlook zl_X2_putCircle pc
noncomputable def m_X2_putCircle : List zAV → zAS → Option zOut := zmeth zk_X2_putCircle 5
set_option maxRecDepth 100000 in
set_option maxHeartbeats 4000000 in
theorem zcs_X2_putCircle {R : Room} (hR : R = zR_X2_putCircle) : ∀ q ∈ zl_X2_putCircle, zS zEC yX2_putCircle.cls cX2_putCircle 5 wsX2_putCircle (some .boolean) R q.1 q.2 := by
  subst hR
  have hin2 : ∀ w ∈ wsX20, w ∈ wsX2_putCircle := fun w h => List.mem_cons_of_mem _ (List.mem_append_left _ (List.mem_append_left _ (List.mem_append_right _ h)))
  have hin4 : ∀ w ∈ wsX40, w ∈ wsX2_putCircle := fun w h => List.mem_cons_of_mem _ (List.mem_append_left _ (List.mem_append_right _ h))
  refine List.forall_mem_cons.mpr ⟨zs_aload_n dX2_putCircle_0 rfl, ?_⟩
  refine List.forall_mem_cons.mpr ⟨zs_aload_n dX2_putCircle_1 rfl, ?_⟩
  refine List.forall_mem_cons.mpr ⟨zs_get (ci := 2) (j := 0) (N := 2) (C := RX2) (T := TX2) (index := 12) rfl (by decide) hin2 (List.mem_of_getElem? (i := 1) rfl) dX2_putCircle_2, ?_⟩
  refine List.forall_mem_cons.mpr ⟨zs_iload_n dX2_putCircle_5 rfl, ?_⟩
  refine List.forall_mem_cons.mpr ⟨zs_callV (ci := 3) (rm := zR_X3_rest) (n := 1) rfl zM_X3_rest gX2_putCircle_X3_rest rfl (by decide +kernel) ⟨by decide, by decide⟩ dX2_putCircle_6, ?_⟩
  refine List.forall_mem_cons.mpr ⟨zs_aload_n dX2_putCircle_9 rfl, ?_⟩
  refine List.forall_mem_cons.mpr ⟨zs_get (ci := 2) (j := 0) (N := 2) (C := RX2) (T := TX2) (index := 12) rfl (by decide) hin2 (List.mem_of_getElem? (i := 1) rfl) dX2_putCircle_10, ?_⟩
  refine List.forall_mem_cons.mpr ⟨zs_iload_n dX2_putCircle_13 rfl, ?_⟩
  refine List.forall_mem_cons.mpr ⟨zs_callV (ci := 3) (rm := zR_X3_rest) (n := 1) rfl zM_X3_rest gX2_putCircle_X3_rest rfl (by decide +kernel) ⟨by decide, by decide⟩ dX2_putCircle_14, ?_⟩
  refine List.forall_mem_cons.mpr ⟨zs_aload_n dX2_putCircle_17 rfl, ?_⟩
  refine List.forall_mem_cons.mpr ⟨zs_get (ci := 2) (j := 0) (N := 2) (C := RX2) (T := TX2) (index := 12) rfl (by decide) hin2 (List.mem_of_getElem? (i := 1) rfl) dX2_putCircle_18, ?_⟩
  refine List.forall_mem_cons.mpr ⟨zs_iload dX2_putCircle_21, ?_⟩
  refine List.forall_mem_cons.mpr ⟨zs_callV (ci := 3) (rm := zR_X3_rest) (n := 1) rfl zM_X3_rest gX2_putCircle_X3_rest rfl (by decide +kernel) ⟨by decide, by decide⟩ dX2_putCircle_23, ?_⟩
  refine List.forall_mem_cons.mpr ⟨zs_callV (ci := 4) (rm := zR_X4_put) (n := 3) rfl zM_X4_put gX2_putCircle_X4_put rfl (by decide +kernel) ⟨by decide, by decide⟩ dX2_putCircle_26, ?_⟩
  refine List.forall_mem_cons.mpr ⟨zs_aload_n dX2_putCircle_29 rfl, ?_⟩
  refine List.forall_mem_cons.mpr ⟨zs_get (ci := 4) (j := 10) (N := 13) (C := RX4) (T := TX4) (index := 100) rfl (by decide) hin4 (List.mem_of_getElem? (i := 2) rfl) dX2_putCircle_30, ?_⟩
  refine List.forall_mem_cons.mpr ⟨zs_ifeq dX2_putCircle_33 (by decide), ?_⟩
  refine List.forall_mem_cons.mpr ⟨zs_iconst dX2_putCircle_36 (by decide), ?_⟩
  refine List.forall_mem_cons.mpr ⟨zs_goto dX2_putCircle_37 (by decide), ?_⟩
  refine List.forall_mem_cons.mpr ⟨zs_iconst dX2_putCircle_40 (by decide), ?_⟩
  refine List.forall_mem_cons.mpr ⟨zs_reti (ty := .boolean) rfl (fun x h => (znz x h).1) dX2_putCircle_41, ?_⟩
  exact fun _ h => absurd h List.not_mem_nil
theorem zM_X2_putCircle : zMeets zEC yX2_putCircle wsX2_putCircle zR_X2_putCircle m_X2_putCircle := zmeth_M zECok (zlook_all (zcs_X2_putCircle rfl)) (by decide +kernel) rfl
theorem zr_X2_putCircle_0 (a0 a2 a3 a4 : Option zAV) (st : List zAV) (s : zAS) (k : Nat × Nat) (o : Nat × Nat) : zev zk_X2_putCircle (0, [a0, some (Sum.inr o), a2, a3, a4], st, s, k) = zev zk_X2_putCircle (1, [a0, some (Sum.inr o), a2, a3, a4], Sum.inr o :: st, s, k) := zev_go rfl rfl
theorem zr_X2_putCircle_1 (a1 a2 a3 a4 : Option zAV) (st : List zAV) (s : zAS) (k : Nat × Nat) (o : Nat × Nat) : zev zk_X2_putCircle (1, [some (Sum.inr o), a1, a2, a3, a4], st, s, k) = zev zk_X2_putCircle (2, [some (Sum.inr o), a1, a2, a3, a4], Sum.inr o :: st, s, k) := zev_go rfl rfl
theorem zr_X2_putCircle_2 (ls : zLs) (st : List zAV) (s : zAS) (k : Nat × Nat) (o i : Nat) : zev zk_X2_putCircle (2, ls, Sum.inr (o, i) :: st, s, k) = zpush zk_X2_putCircle 5 ls st s k (zgv zEC 2 0 o i s.1) := zf_get rfl
theorem zr_X2_putCircle_5 (a0 a1 a3 a4 : Option zAV) (st : List zAV) (s : zAS) (k : Nat × Nat) (x : Int32) : zev zk_X2_putCircle (5, [a0, a1, some (Sum.inl (Value.int x)), a3, a4], st, s, k) = zev zk_X2_putCircle (6, [a0, a1, some (Sum.inl (Value.int x)), a3, a4], Sum.inl (Value.int x) :: st, s, k) := zev_go rfl rfl
theorem zr_X2_putCircle_6 (ls : zLs) (st : List zAV) (s : zAS) (k : Nat × Nat) (r v0 : zAV) (h : zcok zEC 3 0 0 (zR_X2_putCircle).cells (zR_X2_putCircle).slots r st k) : zev zk_X2_putCircle (6, ls, v0 :: r :: st, s, k) = zret zk_X2_putCircle 9 ls st (k.1 + 0, k.2 + 0) (m_X3_rest [r, v0] s) := zf_callV (as := [v0]) 1 rfl rfl h
theorem zr_X2_putCircle_9 (a1 a2 a3 a4 : Option zAV) (st : List zAV) (s : zAS) (k : Nat × Nat) (o : Nat × Nat) : zev zk_X2_putCircle (9, [some (Sum.inr o), a1, a2, a3, a4], st, s, k) = zev zk_X2_putCircle (10, [some (Sum.inr o), a1, a2, a3, a4], Sum.inr o :: st, s, k) := zev_go rfl rfl
theorem zr_X2_putCircle_10 (ls : zLs) (st : List zAV) (s : zAS) (k : Nat × Nat) (o i : Nat) : zev zk_X2_putCircle (10, ls, Sum.inr (o, i) :: st, s, k) = zpush zk_X2_putCircle 13 ls st s k (zgv zEC 2 0 o i s.1) := zf_get rfl
theorem zr_X2_putCircle_13 (a0 a1 a2 a4 : Option zAV) (st : List zAV) (s : zAS) (k : Nat × Nat) (x : Int32) : zev zk_X2_putCircle (13, [a0, a1, a2, some (Sum.inl (Value.int x)), a4], st, s, k) = zev zk_X2_putCircle (14, [a0, a1, a2, some (Sum.inl (Value.int x)), a4], Sum.inl (Value.int x) :: st, s, k) := zev_go rfl rfl
theorem zr_X2_putCircle_14 (ls : zLs) (st : List zAV) (s : zAS) (k : Nat × Nat) (r v0 : zAV) (h : zcok zEC 3 0 0 (zR_X2_putCircle).cells (zR_X2_putCircle).slots r st k) : zev zk_X2_putCircle (14, ls, v0 :: r :: st, s, k) = zret zk_X2_putCircle 17 ls st (k.1 + 0, k.2 + 0) (m_X3_rest [r, v0] s) := zf_callV (as := [v0]) 1 rfl rfl h
theorem zr_X2_putCircle_17 (a1 a2 a3 a4 : Option zAV) (st : List zAV) (s : zAS) (k : Nat × Nat) (o : Nat × Nat) : zev zk_X2_putCircle (17, [some (Sum.inr o), a1, a2, a3, a4], st, s, k) = zev zk_X2_putCircle (18, [some (Sum.inr o), a1, a2, a3, a4], Sum.inr o :: st, s, k) := zev_go rfl rfl
theorem zr_X2_putCircle_18 (ls : zLs) (st : List zAV) (s : zAS) (k : Nat × Nat) (o i : Nat) : zev zk_X2_putCircle (18, ls, Sum.inr (o, i) :: st, s, k) = zpush zk_X2_putCircle 21 ls st s k (zgv zEC 2 0 o i s.1) := zf_get rfl
theorem zr_X2_putCircle_21 (a0 a1 a2 a3 : Option zAV) (st : List zAV) (s : zAS) (k : Nat × Nat) (x : Int32) : zev zk_X2_putCircle (21, [a0, a1, a2, a3, some (Sum.inl (Value.int x))], st, s, k) = zev zk_X2_putCircle (23, [a0, a1, a2, a3, some (Sum.inl (Value.int x))], Sum.inl (Value.int x) :: st, s, k) := zev_go rfl rfl
theorem zr_X2_putCircle_23 (ls : zLs) (st : List zAV) (s : zAS) (k : Nat × Nat) (r v0 : zAV) (h : zcok zEC 3 0 0 (zR_X2_putCircle).cells (zR_X2_putCircle).slots r st k) : zev zk_X2_putCircle (23, ls, v0 :: r :: st, s, k) = zret zk_X2_putCircle 26 ls st (k.1 + 0, k.2 + 0) (m_X3_rest [r, v0] s) := zf_callV (as := [v0]) 1 rfl rfl h
theorem zr_X2_putCircle_26 (ls : zLs) (st : List zAV) (s : zAS) (k : Nat × Nat) (r v0 v1 v2 : zAV) (h : zcok zEC 4 0 0 (zR_X2_putCircle).cells (zR_X2_putCircle).slots r st k) : zev zk_X2_putCircle (26, ls, v2 :: v1 :: v0 :: r :: st, s, k) = zret zk_X2_putCircle 29 ls st (k.1 + 0, k.2 + 0) (m_X4_put [r, v0, v1, v2] s) := zf_callV (as := [v2, v1, v0]) 3 rfl rfl h
theorem zr_X2_putCircle_29 (a0 a2 a3 a4 : Option zAV) (st : List zAV) (s : zAS) (k : Nat × Nat) (o : Nat × Nat) : zev zk_X2_putCircle (29, [a0, some (Sum.inr o), a2, a3, a4], st, s, k) = zev zk_X2_putCircle (30, [a0, some (Sum.inr o), a2, a3, a4], Sum.inr o :: st, s, k) := zev_go rfl rfl
theorem zr_X2_putCircle_30 (ls : zLs) (st : List zAV) (s : zAS) (k : Nat × Nat) (o i : Nat) : zev zk_X2_putCircle (30, ls, Sum.inr (o, i) :: st, s, k) = zpush zk_X2_putCircle 33 ls st s k (zgv zEC 4 10 o i s.1) := zf_get rfl
theorem zr_X2_putCircle_33 (ls : zLs) (st : List zAV) (s : zAS) (k : Nat × Nat) (x : Int32) : zev zk_X2_putCircle (33, ls, Sum.inl (Value.int x) :: st, s, k) = if decide (x = 0) = true then zev zk_X2_putCircle (40, ls, st, s, k) else zev zk_X2_putCircle (36, ls, st, s, k) := zf_if (f := fun x => decide (x = 0)) rfl
theorem zr_X2_putCircle_36 (ls : zLs) (st : List zAV) (s : zAS) (k : Nat × Nat) : zev zk_X2_putCircle (36, ls, st, s, k) = zev zk_X2_putCircle (37, ls, Sum.inl (Value.int (1)) :: st, s, k) := zev_go rfl rfl
theorem zr_X2_putCircle_37 (ls : zLs) (st : List zAV) (s : zAS) (k : Nat × Nat) : zev zk_X2_putCircle (37, ls, st, s, k) = zev zk_X2_putCircle (41, ls, st, s, k) := zev_go rfl rfl
theorem zr_X2_putCircle_40 (ls : zLs) (st : List zAV) (s : zAS) (k : Nat × Nat) : zev zk_X2_putCircle (40, ls, st, s, k) = zev zk_X2_putCircle (41, ls, Sum.inl (Value.int (0)) :: st, s, k) := zev_go rfl rfl
theorem zr_X2_putCircle_41 (ls : zLs) (s : zAS) (k : Nat × Nat) (x : Int32) (hx : x = 0 ∨ x = 1) : zev zk_X2_putCircle (41, ls, [Sum.inl (Value.int x)], s, k) = some (.inl (some (Sum.inl (Value.int x))), s) := zf_retz rfl hx
/-! X2_circleThrough: PrimePlane$Compass.circleThrough(LPrimePlane$Figure;LPrimePlane$Figure;LPrimePlane$Figure;LPrimePlane$Figure;)Z -/
abbrev zR_X2_circleThrough : Room := ({ frames := 3, cells := 0, slots := 0, locals := 67 } : Room)
noncomputable def zl_X2_circleThrough : List (Nat × zOp) := [(0, z_lda 3 1), (1, z_get zEC 4 8 4), (4, z_lda 2 5), (5, z_get zEC 4 8 8), (8, z_bin (fun x y => x - y) 9), (9, z_sti 5 11), (11, z_lda 3 12), (12, z_get zEC 4 9 15), (15, z_lda 2 16), (16, z_get zEC 4 9 19), (19, z_bin (fun x y => x - y) 20), (20, z_sti 6 22), (22, z_lda 4 24), (24, z_get zEC 4 8 27), (27, z_lda 2 28), (28, z_get zEC 4 8 31), (31, z_bin (fun x y => x - y) 32), (32, z_sti 7 34), (34, z_lda 4 36), (36, z_get zEC 4 9 39), (39, z_lda 2 40), (40, z_get zEC 4 9 43), (43, z_bin (fun x y => x - y) 44), (44, z_sti 8 46), (46, z_lda 0 47), (47, z_get zEC 2 0 50), (50, z_ic (2) 51), (51, z_ldi 5 53), (53, z_ldi 8 55), (55, z_bin (fun x y => x * y) 56), (56, z_ldi 7 58), (58, z_ldi 6 60), (60, z_bin (fun x y => x * y) 61), (61, z_bin (fun x y => x - y) 62), (62, z_bin (fun x y => x * y) 63), (63, z_callV zEC 3 m_X3_rest 1 0 0 (zR_X2_circleThrough).cells (zR_X2_circleThrough).slots 66), (66, z_sti 9 68), (68, z_ldi 9 70), (70, z_if (fun x => decide (¬ x = 0)) 75 73), (73, z_ic (0) 74), (74, z_reti true), (75, z_ldi 5 77), (77, z_ldi 5 79), (79, z_bin (fun x y => x * y) 80), (80, z_ldi 6 82), (82, z_ldi 6 84), (84, z_bin (fun x y => x * y) 85), (85, z_bin (fun x y => x + y) 86), (86, z_sti 10 88), (88, z_ldi 7 90), (90, z_ldi 7 92), (92, z_bin (fun x y => x * y) 93), (93, z_ldi 8 95), (95, z_ldi 8 97), (97, z_bin (fun x y => x * y) 98), (98, z_bin (fun x y => x + y) 99), (99, z_sti 11 101), (101, z_lda 0 102), (102, z_get zEC 2 0 105), (105, z_ldi 8 107), (107, z_ldi 10 109), (109, z_bin (fun x y => x * y) 110), (110, z_ldi 6 112), (112, z_ldi 11 114), (114, z_bin (fun x y => x * y) 115), (115, z_bin (fun x y => x - y) 116), (116, z_ldi 9 118), (118, z_callV zEC 3 m_X3_ratio 2 0 0 (zR_X2_circleThrough).cells (zR_X2_circleThrough).slots 121), (121, z_sti 12 123), (123, z_lda 0 124), (124, z_get zEC 2 0 127), (127, z_ldi 5 129), (129, z_ldi 11 131), (131, z_bin (fun x y => x * y) 132), (132, z_ldi 7 134), (134, z_ldi 10 136), (136, z_bin (fun x y => x * y) 137), (137, z_bin (fun x y => x - y) 138), (138, z_ldi 9 140), (140, z_callV zEC 3 m_X3_ratio 2 0 0 (zR_X2_circleThrough).cells (zR_X2_circleThrough).slots 143), (143, z_sti 13 145), (145, z_lda 0 146), (146, z_lda 1 147), (147, z_lda 2 148), (148, z_get zEC 4 8 151), (151, z_ldi 12 153), (153, z_bin (fun x y => x + y) 154), (154, z_lda 2 155), (155, z_get zEC 4 9 158), (158, z_ldi 13 160), (160, z_bin (fun x y => x + y) 161), (161, z_ldi 12 163), (163, z_ldi 12 165), (165, z_bin (fun x y => x * y) 166), (166, z_ldi 13 168), (168, z_ldi 13 170), (170, z_bin (fun x y => x * y) 171), (171, z_bin (fun x y => x + y) 172), (172, z_callV zEC 2 m_X2_putCircle 4 0 0 (zR_X2_circleThrough).cells (zR_X2_circleThrough).slots 175), (175, z_reti true)]
noncomputable def zk_X2_circleThrough (pc : Nat) : Option zOp := zlook zl_X2_circleThrough pc
noncomputable def m_X2_circleThrough : List zAV → zAS → Option zOut := zmeth zk_X2_circleThrough 14
set_option maxRecDepth 100000 in
set_option maxHeartbeats 4000000 in
theorem zcs_X2_circleThrough {R : Room} (hR : R = zR_X2_circleThrough) : ∀ q ∈ zl_X2_circleThrough, zS zEC yX2_circleThrough.cls cX2_circleThrough 14 wsX2_circleThrough (some .boolean) R q.1 q.2 := by
  subst hR
  have hin2 : ∀ w ∈ wsX20, w ∈ wsX2_circleThrough := fun w h => List.mem_cons_of_mem _ (List.mem_append_left _ (List.mem_append_right _ h))
  have hin4 : ∀ w ∈ wsX40, w ∈ wsX2_circleThrough := fun w h => List.mem_cons_of_mem _ (List.mem_append_left _ (List.mem_append_left _ (List.mem_append_right _ h)))
  refine List.forall_mem_cons.mpr ⟨zs_aload_n dX2_circleThrough_0 rfl, ?_⟩
  refine List.forall_mem_cons.mpr ⟨zs_get (ci := 4) (j := 8) (N := 13) (C := RX4) (T := TX4) (index := 64) rfl (by decide) hin4 (List.mem_of_getElem? (i := 1) rfl) dX2_circleThrough_1, ?_⟩
  refine List.forall_mem_cons.mpr ⟨zs_aload_n dX2_circleThrough_4 rfl, ?_⟩
  refine List.forall_mem_cons.mpr ⟨zs_get (ci := 4) (j := 8) (N := 13) (C := RX4) (T := TX4) (index := 64) rfl (by decide) hin4 (List.mem_of_getElem? (i := 1) rfl) dX2_circleThrough_5, ?_⟩
  refine List.forall_mem_cons.mpr ⟨zs_isub dX2_circleThrough_8, ?_⟩
  refine List.forall_mem_cons.mpr ⟨zs_istore dX2_circleThrough_9, ?_⟩
  refine List.forall_mem_cons.mpr ⟨zs_aload_n dX2_circleThrough_11 rfl, ?_⟩
  refine List.forall_mem_cons.mpr ⟨zs_get (ci := 4) (j := 9) (N := 13) (C := RX4) (T := TX4) (index := 67) rfl (by decide) hin4 (List.mem_of_getElem? (i := 2) rfl) dX2_circleThrough_12, ?_⟩
  refine List.forall_mem_cons.mpr ⟨zs_aload_n dX2_circleThrough_15 rfl, ?_⟩
  refine List.forall_mem_cons.mpr ⟨zs_get (ci := 4) (j := 9) (N := 13) (C := RX4) (T := TX4) (index := 67) rfl (by decide) hin4 (List.mem_of_getElem? (i := 2) rfl) dX2_circleThrough_16, ?_⟩
  refine List.forall_mem_cons.mpr ⟨zs_isub dX2_circleThrough_19, ?_⟩
  refine List.forall_mem_cons.mpr ⟨zs_istore dX2_circleThrough_20, ?_⟩
  refine List.forall_mem_cons.mpr ⟨zs_aload dX2_circleThrough_22, ?_⟩
  refine List.forall_mem_cons.mpr ⟨zs_get (ci := 4) (j := 8) (N := 13) (C := RX4) (T := TX4) (index := 64) rfl (by decide) hin4 (List.mem_of_getElem? (i := 1) rfl) dX2_circleThrough_24, ?_⟩
  refine List.forall_mem_cons.mpr ⟨zs_aload_n dX2_circleThrough_27 rfl, ?_⟩
  refine List.forall_mem_cons.mpr ⟨zs_get (ci := 4) (j := 8) (N := 13) (C := RX4) (T := TX4) (index := 64) rfl (by decide) hin4 (List.mem_of_getElem? (i := 1) rfl) dX2_circleThrough_28, ?_⟩
  refine List.forall_mem_cons.mpr ⟨zs_isub dX2_circleThrough_31, ?_⟩
  refine List.forall_mem_cons.mpr ⟨zs_istore dX2_circleThrough_32, ?_⟩
  refine List.forall_mem_cons.mpr ⟨zs_aload dX2_circleThrough_34, ?_⟩
  refine List.forall_mem_cons.mpr ⟨zs_get (ci := 4) (j := 9) (N := 13) (C := RX4) (T := TX4) (index := 67) rfl (by decide) hin4 (List.mem_of_getElem? (i := 2) rfl) dX2_circleThrough_36, ?_⟩
  refine List.forall_mem_cons.mpr ⟨zs_aload_n dX2_circleThrough_39 rfl, ?_⟩
  refine List.forall_mem_cons.mpr ⟨zs_get (ci := 4) (j := 9) (N := 13) (C := RX4) (T := TX4) (index := 67) rfl (by decide) hin4 (List.mem_of_getElem? (i := 2) rfl) dX2_circleThrough_40, ?_⟩
  refine List.forall_mem_cons.mpr ⟨zs_isub dX2_circleThrough_43, ?_⟩
  refine List.forall_mem_cons.mpr ⟨zs_istore dX2_circleThrough_44, ?_⟩
  refine List.forall_mem_cons.mpr ⟨zs_aload_n dX2_circleThrough_46 rfl, ?_⟩
  refine List.forall_mem_cons.mpr ⟨zs_get (ci := 2) (j := 0) (N := 2) (C := RX2) (T := TX2) (index := 12) rfl (by decide) hin2 (List.mem_of_getElem? (i := 3) rfl) dX2_circleThrough_47, ?_⟩
  refine List.forall_mem_cons.mpr ⟨zs_iconst dX2_circleThrough_50 (by decide), ?_⟩
  refine List.forall_mem_cons.mpr ⟨zs_iload dX2_circleThrough_51, ?_⟩
  refine List.forall_mem_cons.mpr ⟨zs_iload dX2_circleThrough_53, ?_⟩
  refine List.forall_mem_cons.mpr ⟨zs_imul dX2_circleThrough_55, ?_⟩
  refine List.forall_mem_cons.mpr ⟨zs_iload dX2_circleThrough_56, ?_⟩
  refine List.forall_mem_cons.mpr ⟨zs_iload dX2_circleThrough_58, ?_⟩
  refine List.forall_mem_cons.mpr ⟨zs_imul dX2_circleThrough_60, ?_⟩
  refine List.forall_mem_cons.mpr ⟨zs_isub dX2_circleThrough_61, ?_⟩
  refine List.forall_mem_cons.mpr ⟨zs_imul dX2_circleThrough_62, ?_⟩
  refine List.forall_mem_cons.mpr ⟨zs_callV (ci := 3) (rm := zR_X3_rest) (n := 1) rfl zM_X3_rest gX2_circleThrough_X3_rest rfl (by decide +kernel) ⟨by decide, by decide⟩ dX2_circleThrough_63, ?_⟩
  refine List.forall_mem_cons.mpr ⟨zs_istore dX2_circleThrough_66, ?_⟩
  refine List.forall_mem_cons.mpr ⟨zs_iload dX2_circleThrough_68, ?_⟩
  refine List.forall_mem_cons.mpr ⟨zs_ifne dX2_circleThrough_70 (by decide), ?_⟩
  refine List.forall_mem_cons.mpr ⟨zs_iconst dX2_circleThrough_73 (by decide), ?_⟩
  refine List.forall_mem_cons.mpr ⟨zs_reti (ty := .boolean) rfl (fun x h => (znz x h).1) dX2_circleThrough_74, ?_⟩
  refine List.forall_mem_cons.mpr ⟨zs_iload dX2_circleThrough_75, ?_⟩
  refine List.forall_mem_cons.mpr ⟨zs_iload dX2_circleThrough_77, ?_⟩
  refine List.forall_mem_cons.mpr ⟨zs_imul dX2_circleThrough_79, ?_⟩
  refine List.forall_mem_cons.mpr ⟨zs_iload dX2_circleThrough_80, ?_⟩
  refine List.forall_mem_cons.mpr ⟨zs_iload dX2_circleThrough_82, ?_⟩
  refine List.forall_mem_cons.mpr ⟨zs_imul dX2_circleThrough_84, ?_⟩
  refine List.forall_mem_cons.mpr ⟨zs_iadd dX2_circleThrough_85, ?_⟩
  refine List.forall_mem_cons.mpr ⟨zs_istore dX2_circleThrough_86, ?_⟩
  refine List.forall_mem_cons.mpr ⟨zs_iload dX2_circleThrough_88, ?_⟩
  refine List.forall_mem_cons.mpr ⟨zs_iload dX2_circleThrough_90, ?_⟩
  refine List.forall_mem_cons.mpr ⟨zs_imul dX2_circleThrough_92, ?_⟩
  refine List.forall_mem_cons.mpr ⟨zs_iload dX2_circleThrough_93, ?_⟩
  refine List.forall_mem_cons.mpr ⟨zs_iload dX2_circleThrough_95, ?_⟩
  refine List.forall_mem_cons.mpr ⟨zs_imul dX2_circleThrough_97, ?_⟩
  refine List.forall_mem_cons.mpr ⟨zs_iadd dX2_circleThrough_98, ?_⟩
  refine List.forall_mem_cons.mpr ⟨zs_istore dX2_circleThrough_99, ?_⟩
  refine List.forall_mem_cons.mpr ⟨zs_aload_n dX2_circleThrough_101 rfl, ?_⟩
  refine List.forall_mem_cons.mpr ⟨zs_get (ci := 2) (j := 0) (N := 2) (C := RX2) (T := TX2) (index := 12) rfl (by decide) hin2 (List.mem_of_getElem? (i := 3) rfl) dX2_circleThrough_102, ?_⟩
  refine List.forall_mem_cons.mpr ⟨zs_iload dX2_circleThrough_105, ?_⟩
  refine List.forall_mem_cons.mpr ⟨zs_iload dX2_circleThrough_107, ?_⟩
  refine List.forall_mem_cons.mpr ⟨zs_imul dX2_circleThrough_109, ?_⟩
  refine List.forall_mem_cons.mpr ⟨zs_iload dX2_circleThrough_110, ?_⟩
  refine List.forall_mem_cons.mpr ⟨zs_iload dX2_circleThrough_112, ?_⟩
  refine List.forall_mem_cons.mpr ⟨zs_imul dX2_circleThrough_114, ?_⟩
  refine List.forall_mem_cons.mpr ⟨zs_isub dX2_circleThrough_115, ?_⟩
  refine List.forall_mem_cons.mpr ⟨zs_iload dX2_circleThrough_116, ?_⟩
  refine List.forall_mem_cons.mpr ⟨zs_callV (ci := 3) (rm := zR_X3_ratio) (n := 2) rfl zM_X3_ratio gX2_circleThrough_X3_ratio rfl (by decide +kernel) ⟨by decide, by decide⟩ dX2_circleThrough_118, ?_⟩
  refine List.forall_mem_cons.mpr ⟨zs_istore dX2_circleThrough_121, ?_⟩
  refine List.forall_mem_cons.mpr ⟨zs_aload_n dX2_circleThrough_123 rfl, ?_⟩
  refine List.forall_mem_cons.mpr ⟨zs_get (ci := 2) (j := 0) (N := 2) (C := RX2) (T := TX2) (index := 12) rfl (by decide) hin2 (List.mem_of_getElem? (i := 3) rfl) dX2_circleThrough_124, ?_⟩
  refine List.forall_mem_cons.mpr ⟨zs_iload dX2_circleThrough_127, ?_⟩
  refine List.forall_mem_cons.mpr ⟨zs_iload dX2_circleThrough_129, ?_⟩
  refine List.forall_mem_cons.mpr ⟨zs_imul dX2_circleThrough_131, ?_⟩
  refine List.forall_mem_cons.mpr ⟨zs_iload dX2_circleThrough_132, ?_⟩
  refine List.forall_mem_cons.mpr ⟨zs_iload dX2_circleThrough_134, ?_⟩
  refine List.forall_mem_cons.mpr ⟨zs_imul dX2_circleThrough_136, ?_⟩
  refine List.forall_mem_cons.mpr ⟨zs_isub dX2_circleThrough_137, ?_⟩
  refine List.forall_mem_cons.mpr ⟨zs_iload dX2_circleThrough_138, ?_⟩
  refine List.forall_mem_cons.mpr ⟨zs_callV (ci := 3) (rm := zR_X3_ratio) (n := 2) rfl zM_X3_ratio gX2_circleThrough_X3_ratio rfl (by decide +kernel) ⟨by decide, by decide⟩ dX2_circleThrough_140, ?_⟩
  refine List.forall_mem_cons.mpr ⟨zs_istore dX2_circleThrough_143, ?_⟩
  refine List.forall_mem_cons.mpr ⟨zs_aload_n dX2_circleThrough_145 rfl, ?_⟩
  refine List.forall_mem_cons.mpr ⟨zs_aload_n dX2_circleThrough_146 rfl, ?_⟩
  refine List.forall_mem_cons.mpr ⟨zs_aload_n dX2_circleThrough_147 rfl, ?_⟩
  refine List.forall_mem_cons.mpr ⟨zs_get (ci := 4) (j := 8) (N := 13) (C := RX4) (T := TX4) (index := 64) rfl (by decide) hin4 (List.mem_of_getElem? (i := 1) rfl) dX2_circleThrough_148, ?_⟩
  refine List.forall_mem_cons.mpr ⟨zs_iload dX2_circleThrough_151, ?_⟩
  refine List.forall_mem_cons.mpr ⟨zs_iadd dX2_circleThrough_153, ?_⟩
  refine List.forall_mem_cons.mpr ⟨zs_aload_n dX2_circleThrough_154 rfl, ?_⟩
  refine List.forall_mem_cons.mpr ⟨zs_get (ci := 4) (j := 9) (N := 13) (C := RX4) (T := TX4) (index := 67) rfl (by decide) hin4 (List.mem_of_getElem? (i := 2) rfl) dX2_circleThrough_155, ?_⟩
  refine List.forall_mem_cons.mpr ⟨zs_iload dX2_circleThrough_158, ?_⟩
  refine List.forall_mem_cons.mpr ⟨zs_iadd dX2_circleThrough_160, ?_⟩
  refine List.forall_mem_cons.mpr ⟨zs_iload dX2_circleThrough_161, ?_⟩
  refine List.forall_mem_cons.mpr ⟨zs_iload dX2_circleThrough_163, ?_⟩
  refine List.forall_mem_cons.mpr ⟨zs_imul dX2_circleThrough_165, ?_⟩
  refine List.forall_mem_cons.mpr ⟨zs_iload dX2_circleThrough_166, ?_⟩
  refine List.forall_mem_cons.mpr ⟨zs_iload dX2_circleThrough_168, ?_⟩
  refine List.forall_mem_cons.mpr ⟨zs_imul dX2_circleThrough_170, ?_⟩
  refine List.forall_mem_cons.mpr ⟨zs_iadd dX2_circleThrough_171, ?_⟩
  refine List.forall_mem_cons.mpr ⟨zs_callV (ci := 2) (rm := zR_X2_putCircle) (n := 4) rfl zM_X2_putCircle gX2_circleThrough_X2_putCircle rfl (by decide +kernel) ⟨by decide, by decide⟩ dX2_circleThrough_172, ?_⟩
  refine List.forall_mem_cons.mpr ⟨zs_reti (ty := .boolean) rfl (fun x h => (znz x h).1) dX2_circleThrough_175, ?_⟩
  exact fun _ h => absurd h List.not_mem_nil
theorem zM_X2_circleThrough : zMeets zEC yX2_circleThrough wsX2_circleThrough zR_X2_circleThrough m_X2_circleThrough := zmeth_M zECok (zlook_all (zcs_X2_circleThrough rfl)) (by decide +kernel) rfl
theorem zr_X2_circleThrough_0 (a0 a1 a2 a4 a5 a6 a7 a8 a9 a10 a11 a12 a13 : Option zAV) (st : List zAV) (s : zAS) (k : Nat × Nat) (o : Nat × Nat) : zev zk_X2_circleThrough (0, [a0, a1, a2, some (Sum.inr o), a4, a5, a6, a7, a8, a9, a10, a11, a12, a13], st, s, k) = zev zk_X2_circleThrough (1, [a0, a1, a2, some (Sum.inr o), a4, a5, a6, a7, a8, a9, a10, a11, a12, a13], Sum.inr o :: st, s, k) := zev_go rfl rfl
theorem zr_X2_circleThrough_1 (ls : zLs) (st : List zAV) (s : zAS) (k : Nat × Nat) (o i : Nat) : zev zk_X2_circleThrough (1, ls, Sum.inr (o, i) :: st, s, k) = zpush zk_X2_circleThrough 4 ls st s k (zgv zEC 4 8 o i s.1) := zf_get rfl
theorem zr_X2_circleThrough_4 (a0 a1 a3 a4 a5 a6 a7 a8 a9 a10 a11 a12 a13 : Option zAV) (st : List zAV) (s : zAS) (k : Nat × Nat) (o : Nat × Nat) : zev zk_X2_circleThrough (4, [a0, a1, some (Sum.inr o), a3, a4, a5, a6, a7, a8, a9, a10, a11, a12, a13], st, s, k) = zev zk_X2_circleThrough (5, [a0, a1, some (Sum.inr o), a3, a4, a5, a6, a7, a8, a9, a10, a11, a12, a13], Sum.inr o :: st, s, k) := zev_go rfl rfl
theorem zr_X2_circleThrough_5 (ls : zLs) (st : List zAV) (s : zAS) (k : Nat × Nat) (o i : Nat) : zev zk_X2_circleThrough (5, ls, Sum.inr (o, i) :: st, s, k) = zpush zk_X2_circleThrough 8 ls st s k (zgv zEC 4 8 o i s.1) := zf_get rfl
theorem zr_X2_circleThrough_8 (ls : zLs) (st : List zAV) (s : zAS) (k : Nat × Nat) (x y : Int32) : zev zk_X2_circleThrough (8, ls, Sum.inl (Value.int y) :: Sum.inl (Value.int x) :: st, s, k) = zev zk_X2_circleThrough (9, ls, Sum.inl (Value.int (x - y)) :: st, s, k) := zev_go rfl rfl
theorem zr_X2_circleThrough_9 (a0 a1 a2 a3 a4 a5 a6 a7 a8 a9 a10 a11 a12 a13 : Option zAV) (st : List zAV) (s : zAS) (k : Nat × Nat) (x : Int32) : zev zk_X2_circleThrough (9, [a0, a1, a2, a3, a4, a5, a6, a7, a8, a9, a10, a11, a12, a13], Sum.inl (Value.int x) :: st, s, k) = zev zk_X2_circleThrough (11, [a0, a1, a2, a3, zk1 a4, some (Sum.inl (Value.int x)), a6, a7, a8, a9, a10, a11, a12, a13], st, s, k) := zev_go rfl rfl
theorem zr_X2_circleThrough_11 (a0 a1 a2 a4 a5 a6 a7 a8 a9 a10 a11 a12 a13 : Option zAV) (st : List zAV) (s : zAS) (k : Nat × Nat) (o : Nat × Nat) : zev zk_X2_circleThrough (11, [a0, a1, a2, some (Sum.inr o), a4, a5, a6, a7, a8, a9, a10, a11, a12, a13], st, s, k) = zev zk_X2_circleThrough (12, [a0, a1, a2, some (Sum.inr o), a4, a5, a6, a7, a8, a9, a10, a11, a12, a13], Sum.inr o :: st, s, k) := zev_go rfl rfl
theorem zr_X2_circleThrough_12 (ls : zLs) (st : List zAV) (s : zAS) (k : Nat × Nat) (o i : Nat) : zev zk_X2_circleThrough (12, ls, Sum.inr (o, i) :: st, s, k) = zpush zk_X2_circleThrough 15 ls st s k (zgv zEC 4 9 o i s.1) := zf_get rfl
theorem zr_X2_circleThrough_15 (a0 a1 a3 a4 a5 a6 a7 a8 a9 a10 a11 a12 a13 : Option zAV) (st : List zAV) (s : zAS) (k : Nat × Nat) (o : Nat × Nat) : zev zk_X2_circleThrough (15, [a0, a1, some (Sum.inr o), a3, a4, a5, a6, a7, a8, a9, a10, a11, a12, a13], st, s, k) = zev zk_X2_circleThrough (16, [a0, a1, some (Sum.inr o), a3, a4, a5, a6, a7, a8, a9, a10, a11, a12, a13], Sum.inr o :: st, s, k) := zev_go rfl rfl
theorem zr_X2_circleThrough_16 (ls : zLs) (st : List zAV) (s : zAS) (k : Nat × Nat) (o i : Nat) : zev zk_X2_circleThrough (16, ls, Sum.inr (o, i) :: st, s, k) = zpush zk_X2_circleThrough 19 ls st s k (zgv zEC 4 9 o i s.1) := zf_get rfl
theorem zr_X2_circleThrough_19 (ls : zLs) (st : List zAV) (s : zAS) (k : Nat × Nat) (x y : Int32) : zev zk_X2_circleThrough (19, ls, Sum.inl (Value.int y) :: Sum.inl (Value.int x) :: st, s, k) = zev zk_X2_circleThrough (20, ls, Sum.inl (Value.int (x - y)) :: st, s, k) := zev_go rfl rfl
theorem zr_X2_circleThrough_20 (a0 a1 a2 a3 a4 a5 a6 a7 a8 a9 a10 a11 a12 a13 : Option zAV) (st : List zAV) (s : zAS) (k : Nat × Nat) (x : Int32) : zev zk_X2_circleThrough (20, [a0, a1, a2, a3, a4, a5, a6, a7, a8, a9, a10, a11, a12, a13], Sum.inl (Value.int x) :: st, s, k) = zev zk_X2_circleThrough (22, [a0, a1, a2, a3, a4, zk1 a5, some (Sum.inl (Value.int x)), a7, a8, a9, a10, a11, a12, a13], st, s, k) := zev_go rfl rfl
theorem zr_X2_circleThrough_22 (a0 a1 a2 a3 a5 a6 a7 a8 a9 a10 a11 a12 a13 : Option zAV) (st : List zAV) (s : zAS) (k : Nat × Nat) (o : Nat × Nat) : zev zk_X2_circleThrough (22, [a0, a1, a2, a3, some (Sum.inr o), a5, a6, a7, a8, a9, a10, a11, a12, a13], st, s, k) = zev zk_X2_circleThrough (24, [a0, a1, a2, a3, some (Sum.inr o), a5, a6, a7, a8, a9, a10, a11, a12, a13], Sum.inr o :: st, s, k) := zev_go rfl rfl
theorem zr_X2_circleThrough_24 (ls : zLs) (st : List zAV) (s : zAS) (k : Nat × Nat) (o i : Nat) : zev zk_X2_circleThrough (24, ls, Sum.inr (o, i) :: st, s, k) = zpush zk_X2_circleThrough 27 ls st s k (zgv zEC 4 8 o i s.1) := zf_get rfl
theorem zr_X2_circleThrough_27 (a0 a1 a3 a4 a5 a6 a7 a8 a9 a10 a11 a12 a13 : Option zAV) (st : List zAV) (s : zAS) (k : Nat × Nat) (o : Nat × Nat) : zev zk_X2_circleThrough (27, [a0, a1, some (Sum.inr o), a3, a4, a5, a6, a7, a8, a9, a10, a11, a12, a13], st, s, k) = zev zk_X2_circleThrough (28, [a0, a1, some (Sum.inr o), a3, a4, a5, a6, a7, a8, a9, a10, a11, a12, a13], Sum.inr o :: st, s, k) := zev_go rfl rfl
theorem zr_X2_circleThrough_28 (ls : zLs) (st : List zAV) (s : zAS) (k : Nat × Nat) (o i : Nat) : zev zk_X2_circleThrough (28, ls, Sum.inr (o, i) :: st, s, k) = zpush zk_X2_circleThrough 31 ls st s k (zgv zEC 4 8 o i s.1) := zf_get rfl
theorem zr_X2_circleThrough_31 (ls : zLs) (st : List zAV) (s : zAS) (k : Nat × Nat) (x y : Int32) : zev zk_X2_circleThrough (31, ls, Sum.inl (Value.int y) :: Sum.inl (Value.int x) :: st, s, k) = zev zk_X2_circleThrough (32, ls, Sum.inl (Value.int (x - y)) :: st, s, k) := zev_go rfl rfl
theorem zr_X2_circleThrough_32 (a0 a1 a2 a3 a4 a5 a6 a7 a8 a9 a10 a11 a12 a13 : Option zAV) (st : List zAV) (s : zAS) (k : Nat × Nat) (x : Int32) : zev zk_X2_circleThrough (32, [a0, a1, a2, a3, a4, a5, a6, a7, a8, a9, a10, a11, a12, a13], Sum.inl (Value.int x) :: st, s, k) = zev zk_X2_circleThrough (34, [a0, a1, a2, a3, a4, a5, zk1 a6, some (Sum.inl (Value.int x)), a8, a9, a10, a11, a12, a13], st, s, k) := zev_go rfl rfl
theorem zr_X2_circleThrough_34 (a0 a1 a2 a3 a5 a6 a7 a8 a9 a10 a11 a12 a13 : Option zAV) (st : List zAV) (s : zAS) (k : Nat × Nat) (o : Nat × Nat) : zev zk_X2_circleThrough (34, [a0, a1, a2, a3, some (Sum.inr o), a5, a6, a7, a8, a9, a10, a11, a12, a13], st, s, k) = zev zk_X2_circleThrough (36, [a0, a1, a2, a3, some (Sum.inr o), a5, a6, a7, a8, a9, a10, a11, a12, a13], Sum.inr o :: st, s, k) := zev_go rfl rfl
theorem zr_X2_circleThrough_36 (ls : zLs) (st : List zAV) (s : zAS) (k : Nat × Nat) (o i : Nat) : zev zk_X2_circleThrough (36, ls, Sum.inr (o, i) :: st, s, k) = zpush zk_X2_circleThrough 39 ls st s k (zgv zEC 4 9 o i s.1) := zf_get rfl
theorem zr_X2_circleThrough_39 (a0 a1 a3 a4 a5 a6 a7 a8 a9 a10 a11 a12 a13 : Option zAV) (st : List zAV) (s : zAS) (k : Nat × Nat) (o : Nat × Nat) : zev zk_X2_circleThrough (39, [a0, a1, some (Sum.inr o), a3, a4, a5, a6, a7, a8, a9, a10, a11, a12, a13], st, s, k) = zev zk_X2_circleThrough (40, [a0, a1, some (Sum.inr o), a3, a4, a5, a6, a7, a8, a9, a10, a11, a12, a13], Sum.inr o :: st, s, k) := zev_go rfl rfl
theorem zr_X2_circleThrough_40 (ls : zLs) (st : List zAV) (s : zAS) (k : Nat × Nat) (o i : Nat) : zev zk_X2_circleThrough (40, ls, Sum.inr (o, i) :: st, s, k) = zpush zk_X2_circleThrough 43 ls st s k (zgv zEC 4 9 o i s.1) := zf_get rfl
theorem zr_X2_circleThrough_43 (ls : zLs) (st : List zAV) (s : zAS) (k : Nat × Nat) (x y : Int32) : zev zk_X2_circleThrough (43, ls, Sum.inl (Value.int y) :: Sum.inl (Value.int x) :: st, s, k) = zev zk_X2_circleThrough (44, ls, Sum.inl (Value.int (x - y)) :: st, s, k) := zev_go rfl rfl
theorem zr_X2_circleThrough_44 (a0 a1 a2 a3 a4 a5 a6 a7 a8 a9 a10 a11 a12 a13 : Option zAV) (st : List zAV) (s : zAS) (k : Nat × Nat) (x : Int32) : zev zk_X2_circleThrough (44, [a0, a1, a2, a3, a4, a5, a6, a7, a8, a9, a10, a11, a12, a13], Sum.inl (Value.int x) :: st, s, k) = zev zk_X2_circleThrough (46, [a0, a1, a2, a3, a4, a5, a6, zk1 a7, some (Sum.inl (Value.int x)), a9, a10, a11, a12, a13], st, s, k) := zev_go rfl rfl
theorem zr_X2_circleThrough_46 (a1 a2 a3 a4 a5 a6 a7 a8 a9 a10 a11 a12 a13 : Option zAV) (st : List zAV) (s : zAS) (k : Nat × Nat) (o : Nat × Nat) : zev zk_X2_circleThrough (46, [some (Sum.inr o), a1, a2, a3, a4, a5, a6, a7, a8, a9, a10, a11, a12, a13], st, s, k) = zev zk_X2_circleThrough (47, [some (Sum.inr o), a1, a2, a3, a4, a5, a6, a7, a8, a9, a10, a11, a12, a13], Sum.inr o :: st, s, k) := zev_go rfl rfl
theorem zr_X2_circleThrough_47 (ls : zLs) (st : List zAV) (s : zAS) (k : Nat × Nat) (o i : Nat) : zev zk_X2_circleThrough (47, ls, Sum.inr (o, i) :: st, s, k) = zpush zk_X2_circleThrough 50 ls st s k (zgv zEC 2 0 o i s.1) := zf_get rfl
theorem zr_X2_circleThrough_50 (ls : zLs) (st : List zAV) (s : zAS) (k : Nat × Nat) : zev zk_X2_circleThrough (50, ls, st, s, k) = zev zk_X2_circleThrough (51, ls, Sum.inl (Value.int (2)) :: st, s, k) := zev_go rfl rfl
theorem zr_X2_circleThrough_51 (a0 a1 a2 a3 a4 a6 a7 a8 a9 a10 a11 a12 a13 : Option zAV) (st : List zAV) (s : zAS) (k : Nat × Nat) (x : Int32) : zev zk_X2_circleThrough (51, [a0, a1, a2, a3, a4, some (Sum.inl (Value.int x)), a6, a7, a8, a9, a10, a11, a12, a13], st, s, k) = zev zk_X2_circleThrough (53, [a0, a1, a2, a3, a4, some (Sum.inl (Value.int x)), a6, a7, a8, a9, a10, a11, a12, a13], Sum.inl (Value.int x) :: st, s, k) := zev_go rfl rfl
theorem zr_X2_circleThrough_53 (a0 a1 a2 a3 a4 a5 a6 a7 a9 a10 a11 a12 a13 : Option zAV) (st : List zAV) (s : zAS) (k : Nat × Nat) (x : Int32) : zev zk_X2_circleThrough (53, [a0, a1, a2, a3, a4, a5, a6, a7, some (Sum.inl (Value.int x)), a9, a10, a11, a12, a13], st, s, k) = zev zk_X2_circleThrough (55, [a0, a1, a2, a3, a4, a5, a6, a7, some (Sum.inl (Value.int x)), a9, a10, a11, a12, a13], Sum.inl (Value.int x) :: st, s, k) := zev_go rfl rfl
theorem zr_X2_circleThrough_55 (ls : zLs) (st : List zAV) (s : zAS) (k : Nat × Nat) (x y : Int32) : zev zk_X2_circleThrough (55, ls, Sum.inl (Value.int y) :: Sum.inl (Value.int x) :: st, s, k) = zev zk_X2_circleThrough (56, ls, Sum.inl (Value.int (x * y)) :: st, s, k) := zev_go rfl rfl
theorem zr_X2_circleThrough_56 (a0 a1 a2 a3 a4 a5 a6 a8 a9 a10 a11 a12 a13 : Option zAV) (st : List zAV) (s : zAS) (k : Nat × Nat) (x : Int32) : zev zk_X2_circleThrough (56, [a0, a1, a2, a3, a4, a5, a6, some (Sum.inl (Value.int x)), a8, a9, a10, a11, a12, a13], st, s, k) = zev zk_X2_circleThrough (58, [a0, a1, a2, a3, a4, a5, a6, some (Sum.inl (Value.int x)), a8, a9, a10, a11, a12, a13], Sum.inl (Value.int x) :: st, s, k) := zev_go rfl rfl
theorem zr_X2_circleThrough_58 (a0 a1 a2 a3 a4 a5 a7 a8 a9 a10 a11 a12 a13 : Option zAV) (st : List zAV) (s : zAS) (k : Nat × Nat) (x : Int32) : zev zk_X2_circleThrough (58, [a0, a1, a2, a3, a4, a5, some (Sum.inl (Value.int x)), a7, a8, a9, a10, a11, a12, a13], st, s, k) = zev zk_X2_circleThrough (60, [a0, a1, a2, a3, a4, a5, some (Sum.inl (Value.int x)), a7, a8, a9, a10, a11, a12, a13], Sum.inl (Value.int x) :: st, s, k) := zev_go rfl rfl
theorem zr_X2_circleThrough_60 (ls : zLs) (st : List zAV) (s : zAS) (k : Nat × Nat) (x y : Int32) : zev zk_X2_circleThrough (60, ls, Sum.inl (Value.int y) :: Sum.inl (Value.int x) :: st, s, k) = zev zk_X2_circleThrough (61, ls, Sum.inl (Value.int (x * y)) :: st, s, k) := zev_go rfl rfl
theorem zr_X2_circleThrough_61 (ls : zLs) (st : List zAV) (s : zAS) (k : Nat × Nat) (x y : Int32) : zev zk_X2_circleThrough (61, ls, Sum.inl (Value.int y) :: Sum.inl (Value.int x) :: st, s, k) = zev zk_X2_circleThrough (62, ls, Sum.inl (Value.int (x - y)) :: st, s, k) := zev_go rfl rfl
theorem zr_X2_circleThrough_62 (ls : zLs) (st : List zAV) (s : zAS) (k : Nat × Nat) (x y : Int32) : zev zk_X2_circleThrough (62, ls, Sum.inl (Value.int y) :: Sum.inl (Value.int x) :: st, s, k) = zev zk_X2_circleThrough (63, ls, Sum.inl (Value.int (x * y)) :: st, s, k) := zev_go rfl rfl
theorem zr_X2_circleThrough_63 (ls : zLs) (st : List zAV) (s : zAS) (k : Nat × Nat) (r v0 : zAV) (h : zcok zEC 3 0 0 (zR_X2_circleThrough).cells (zR_X2_circleThrough).slots r st k) : zev zk_X2_circleThrough (63, ls, v0 :: r :: st, s, k) = zret zk_X2_circleThrough 66 ls st (k.1 + 0, k.2 + 0) (m_X3_rest [r, v0] s) := zf_callV (as := [v0]) 1 rfl rfl h
theorem zr_X2_circleThrough_66 (a0 a1 a2 a3 a4 a5 a6 a7 a8 a9 a10 a11 a12 a13 : Option zAV) (st : List zAV) (s : zAS) (k : Nat × Nat) (x : Int32) : zev zk_X2_circleThrough (66, [a0, a1, a2, a3, a4, a5, a6, a7, a8, a9, a10, a11, a12, a13], Sum.inl (Value.int x) :: st, s, k) = zev zk_X2_circleThrough (68, [a0, a1, a2, a3, a4, a5, a6, a7, zk1 a8, some (Sum.inl (Value.int x)), a10, a11, a12, a13], st, s, k) := zev_go rfl rfl
theorem zr_X2_circleThrough_68 (a0 a1 a2 a3 a4 a5 a6 a7 a8 a10 a11 a12 a13 : Option zAV) (st : List zAV) (s : zAS) (k : Nat × Nat) (x : Int32) : zev zk_X2_circleThrough (68, [a0, a1, a2, a3, a4, a5, a6, a7, a8, some (Sum.inl (Value.int x)), a10, a11, a12, a13], st, s, k) = zev zk_X2_circleThrough (70, [a0, a1, a2, a3, a4, a5, a6, a7, a8, some (Sum.inl (Value.int x)), a10, a11, a12, a13], Sum.inl (Value.int x) :: st, s, k) := zev_go rfl rfl
theorem zr_X2_circleThrough_70 (ls : zLs) (st : List zAV) (s : zAS) (k : Nat × Nat) (x : Int32) : zev zk_X2_circleThrough (70, ls, Sum.inl (Value.int x) :: st, s, k) = if decide (¬ x = 0) = true then zev zk_X2_circleThrough (75, ls, st, s, k) else zev zk_X2_circleThrough (73, ls, st, s, k) := zf_if (f := fun x => decide (¬ x = 0)) rfl
theorem zr_X2_circleThrough_73 (ls : zLs) (st : List zAV) (s : zAS) (k : Nat × Nat) : zev zk_X2_circleThrough (73, ls, st, s, k) = zev zk_X2_circleThrough (74, ls, Sum.inl (Value.int (0)) :: st, s, k) := zev_go rfl rfl
theorem zr_X2_circleThrough_74 (ls : zLs) (s : zAS) (k : Nat × Nat) (x : Int32) (hx : x = 0 ∨ x = 1) : zev zk_X2_circleThrough (74, ls, [Sum.inl (Value.int x)], s, k) = some (.inl (some (Sum.inl (Value.int x))), s) := zf_retz rfl hx
theorem zr_X2_circleThrough_75 (a0 a1 a2 a3 a4 a6 a7 a8 a9 a10 a11 a12 a13 : Option zAV) (st : List zAV) (s : zAS) (k : Nat × Nat) (x : Int32) : zev zk_X2_circleThrough (75, [a0, a1, a2, a3, a4, some (Sum.inl (Value.int x)), a6, a7, a8, a9, a10, a11, a12, a13], st, s, k) = zev zk_X2_circleThrough (77, [a0, a1, a2, a3, a4, some (Sum.inl (Value.int x)), a6, a7, a8, a9, a10, a11, a12, a13], Sum.inl (Value.int x) :: st, s, k) := zev_go rfl rfl
theorem zr_X2_circleThrough_77 (a0 a1 a2 a3 a4 a6 a7 a8 a9 a10 a11 a12 a13 : Option zAV) (st : List zAV) (s : zAS) (k : Nat × Nat) (x : Int32) : zev zk_X2_circleThrough (77, [a0, a1, a2, a3, a4, some (Sum.inl (Value.int x)), a6, a7, a8, a9, a10, a11, a12, a13], st, s, k) = zev zk_X2_circleThrough (79, [a0, a1, a2, a3, a4, some (Sum.inl (Value.int x)), a6, a7, a8, a9, a10, a11, a12, a13], Sum.inl (Value.int x) :: st, s, k) := zev_go rfl rfl
theorem zr_X2_circleThrough_79 (ls : zLs) (st : List zAV) (s : zAS) (k : Nat × Nat) (x y : Int32) : zev zk_X2_circleThrough (79, ls, Sum.inl (Value.int y) :: Sum.inl (Value.int x) :: st, s, k) = zev zk_X2_circleThrough (80, ls, Sum.inl (Value.int (x * y)) :: st, s, k) := zev_go rfl rfl
theorem zr_X2_circleThrough_80 (a0 a1 a2 a3 a4 a5 a7 a8 a9 a10 a11 a12 a13 : Option zAV) (st : List zAV) (s : zAS) (k : Nat × Nat) (x : Int32) : zev zk_X2_circleThrough (80, [a0, a1, a2, a3, a4, a5, some (Sum.inl (Value.int x)), a7, a8, a9, a10, a11, a12, a13], st, s, k) = zev zk_X2_circleThrough (82, [a0, a1, a2, a3, a4, a5, some (Sum.inl (Value.int x)), a7, a8, a9, a10, a11, a12, a13], Sum.inl (Value.int x) :: st, s, k) := zev_go rfl rfl
theorem zr_X2_circleThrough_82 (a0 a1 a2 a3 a4 a5 a7 a8 a9 a10 a11 a12 a13 : Option zAV) (st : List zAV) (s : zAS) (k : Nat × Nat) (x : Int32) : zev zk_X2_circleThrough (82, [a0, a1, a2, a3, a4, a5, some (Sum.inl (Value.int x)), a7, a8, a9, a10, a11, a12, a13], st, s, k) = zev zk_X2_circleThrough (84, [a0, a1, a2, a3, a4, a5, some (Sum.inl (Value.int x)), a7, a8, a9, a10, a11, a12, a13], Sum.inl (Value.int x) :: st, s, k) := zev_go rfl rfl
theorem zr_X2_circleThrough_84 (ls : zLs) (st : List zAV) (s : zAS) (k : Nat × Nat) (x y : Int32) : zev zk_X2_circleThrough (84, ls, Sum.inl (Value.int y) :: Sum.inl (Value.int x) :: st, s, k) = zev zk_X2_circleThrough (85, ls, Sum.inl (Value.int (x * y)) :: st, s, k) := zev_go rfl rfl
theorem zr_X2_circleThrough_85 (ls : zLs) (st : List zAV) (s : zAS) (k : Nat × Nat) (x y : Int32) : zev zk_X2_circleThrough (85, ls, Sum.inl (Value.int y) :: Sum.inl (Value.int x) :: st, s, k) = zev zk_X2_circleThrough (86, ls, Sum.inl (Value.int (x + y)) :: st, s, k) := zev_go rfl rfl
theorem zr_X2_circleThrough_86 (a0 a1 a2 a3 a4 a5 a6 a7 a8 a9 a10 a11 a12 a13 : Option zAV) (st : List zAV) (s : zAS) (k : Nat × Nat) (x : Int32) : zev zk_X2_circleThrough (86, [a0, a1, a2, a3, a4, a5, a6, a7, a8, a9, a10, a11, a12, a13], Sum.inl (Value.int x) :: st, s, k) = zev zk_X2_circleThrough (88, [a0, a1, a2, a3, a4, a5, a6, a7, a8, zk1 a9, some (Sum.inl (Value.int x)), a11, a12, a13], st, s, k) := zev_go rfl rfl
theorem zr_X2_circleThrough_88 (a0 a1 a2 a3 a4 a5 a6 a8 a9 a10 a11 a12 a13 : Option zAV) (st : List zAV) (s : zAS) (k : Nat × Nat) (x : Int32) : zev zk_X2_circleThrough (88, [a0, a1, a2, a3, a4, a5, a6, some (Sum.inl (Value.int x)), a8, a9, a10, a11, a12, a13], st, s, k) = zev zk_X2_circleThrough (90, [a0, a1, a2, a3, a4, a5, a6, some (Sum.inl (Value.int x)), a8, a9, a10, a11, a12, a13], Sum.inl (Value.int x) :: st, s, k) := zev_go rfl rfl
theorem zr_X2_circleThrough_90 (a0 a1 a2 a3 a4 a5 a6 a8 a9 a10 a11 a12 a13 : Option zAV) (st : List zAV) (s : zAS) (k : Nat × Nat) (x : Int32) : zev zk_X2_circleThrough (90, [a0, a1, a2, a3, a4, a5, a6, some (Sum.inl (Value.int x)), a8, a9, a10, a11, a12, a13], st, s, k) = zev zk_X2_circleThrough (92, [a0, a1, a2, a3, a4, a5, a6, some (Sum.inl (Value.int x)), a8, a9, a10, a11, a12, a13], Sum.inl (Value.int x) :: st, s, k) := zev_go rfl rfl
theorem zr_X2_circleThrough_92 (ls : zLs) (st : List zAV) (s : zAS) (k : Nat × Nat) (x y : Int32) : zev zk_X2_circleThrough (92, ls, Sum.inl (Value.int y) :: Sum.inl (Value.int x) :: st, s, k) = zev zk_X2_circleThrough (93, ls, Sum.inl (Value.int (x * y)) :: st, s, k) := zev_go rfl rfl
theorem zr_X2_circleThrough_93 (a0 a1 a2 a3 a4 a5 a6 a7 a9 a10 a11 a12 a13 : Option zAV) (st : List zAV) (s : zAS) (k : Nat × Nat) (x : Int32) : zev zk_X2_circleThrough (93, [a0, a1, a2, a3, a4, a5, a6, a7, some (Sum.inl (Value.int x)), a9, a10, a11, a12, a13], st, s, k) = zev zk_X2_circleThrough (95, [a0, a1, a2, a3, a4, a5, a6, a7, some (Sum.inl (Value.int x)), a9, a10, a11, a12, a13], Sum.inl (Value.int x) :: st, s, k) := zev_go rfl rfl
theorem zr_X2_circleThrough_95 (a0 a1 a2 a3 a4 a5 a6 a7 a9 a10 a11 a12 a13 : Option zAV) (st : List zAV) (s : zAS) (k : Nat × Nat) (x : Int32) : zev zk_X2_circleThrough (95, [a0, a1, a2, a3, a4, a5, a6, a7, some (Sum.inl (Value.int x)), a9, a10, a11, a12, a13], st, s, k) = zev zk_X2_circleThrough (97, [a0, a1, a2, a3, a4, a5, a6, a7, some (Sum.inl (Value.int x)), a9, a10, a11, a12, a13], Sum.inl (Value.int x) :: st, s, k) := zev_go rfl rfl
theorem zr_X2_circleThrough_97 (ls : zLs) (st : List zAV) (s : zAS) (k : Nat × Nat) (x y : Int32) : zev zk_X2_circleThrough (97, ls, Sum.inl (Value.int y) :: Sum.inl (Value.int x) :: st, s, k) = zev zk_X2_circleThrough (98, ls, Sum.inl (Value.int (x * y)) :: st, s, k) := zev_go rfl rfl
theorem zr_X2_circleThrough_98 (ls : zLs) (st : List zAV) (s : zAS) (k : Nat × Nat) (x y : Int32) : zev zk_X2_circleThrough (98, ls, Sum.inl (Value.int y) :: Sum.inl (Value.int x) :: st, s, k) = zev zk_X2_circleThrough (99, ls, Sum.inl (Value.int (x + y)) :: st, s, k) := zev_go rfl rfl
theorem zr_X2_circleThrough_99 (a0 a1 a2 a3 a4 a5 a6 a7 a8 a9 a10 a11 a12 a13 : Option zAV) (st : List zAV) (s : zAS) (k : Nat × Nat) (x : Int32) : zev zk_X2_circleThrough (99, [a0, a1, a2, a3, a4, a5, a6, a7, a8, a9, a10, a11, a12, a13], Sum.inl (Value.int x) :: st, s, k) = zev zk_X2_circleThrough (101, [a0, a1, a2, a3, a4, a5, a6, a7, a8, a9, zk1 a10, some (Sum.inl (Value.int x)), a12, a13], st, s, k) := zev_go rfl rfl
theorem zr_X2_circleThrough_101 (a1 a2 a3 a4 a5 a6 a7 a8 a9 a10 a11 a12 a13 : Option zAV) (st : List zAV) (s : zAS) (k : Nat × Nat) (o : Nat × Nat) : zev zk_X2_circleThrough (101, [some (Sum.inr o), a1, a2, a3, a4, a5, a6, a7, a8, a9, a10, a11, a12, a13], st, s, k) = zev zk_X2_circleThrough (102, [some (Sum.inr o), a1, a2, a3, a4, a5, a6, a7, a8, a9, a10, a11, a12, a13], Sum.inr o :: st, s, k) := zev_go rfl rfl
theorem zr_X2_circleThrough_102 (ls : zLs) (st : List zAV) (s : zAS) (k : Nat × Nat) (o i : Nat) : zev zk_X2_circleThrough (102, ls, Sum.inr (o, i) :: st, s, k) = zpush zk_X2_circleThrough 105 ls st s k (zgv zEC 2 0 o i s.1) := zf_get rfl
theorem zr_X2_circleThrough_105 (a0 a1 a2 a3 a4 a5 a6 a7 a9 a10 a11 a12 a13 : Option zAV) (st : List zAV) (s : zAS) (k : Nat × Nat) (x : Int32) : zev zk_X2_circleThrough (105, [a0, a1, a2, a3, a4, a5, a6, a7, some (Sum.inl (Value.int x)), a9, a10, a11, a12, a13], st, s, k) = zev zk_X2_circleThrough (107, [a0, a1, a2, a3, a4, a5, a6, a7, some (Sum.inl (Value.int x)), a9, a10, a11, a12, a13], Sum.inl (Value.int x) :: st, s, k) := zev_go rfl rfl
theorem zr_X2_circleThrough_107 (a0 a1 a2 a3 a4 a5 a6 a7 a8 a9 a11 a12 a13 : Option zAV) (st : List zAV) (s : zAS) (k : Nat × Nat) (x : Int32) : zev zk_X2_circleThrough (107, [a0, a1, a2, a3, a4, a5, a6, a7, a8, a9, some (Sum.inl (Value.int x)), a11, a12, a13], st, s, k) = zev zk_X2_circleThrough (109, [a0, a1, a2, a3, a4, a5, a6, a7, a8, a9, some (Sum.inl (Value.int x)), a11, a12, a13], Sum.inl (Value.int x) :: st, s, k) := zev_go rfl rfl
theorem zr_X2_circleThrough_109 (ls : zLs) (st : List zAV) (s : zAS) (k : Nat × Nat) (x y : Int32) : zev zk_X2_circleThrough (109, ls, Sum.inl (Value.int y) :: Sum.inl (Value.int x) :: st, s, k) = zev zk_X2_circleThrough (110, ls, Sum.inl (Value.int (x * y)) :: st, s, k) := zev_go rfl rfl
theorem zr_X2_circleThrough_110 (a0 a1 a2 a3 a4 a5 a7 a8 a9 a10 a11 a12 a13 : Option zAV) (st : List zAV) (s : zAS) (k : Nat × Nat) (x : Int32) : zev zk_X2_circleThrough (110, [a0, a1, a2, a3, a4, a5, some (Sum.inl (Value.int x)), a7, a8, a9, a10, a11, a12, a13], st, s, k) = zev zk_X2_circleThrough (112, [a0, a1, a2, a3, a4, a5, some (Sum.inl (Value.int x)), a7, a8, a9, a10, a11, a12, a13], Sum.inl (Value.int x) :: st, s, k) := zev_go rfl rfl
theorem zr_X2_circleThrough_112 (a0 a1 a2 a3 a4 a5 a6 a7 a8 a9 a10 a12 a13 : Option zAV) (st : List zAV) (s : zAS) (k : Nat × Nat) (x : Int32) : zev zk_X2_circleThrough (112, [a0, a1, a2, a3, a4, a5, a6, a7, a8, a9, a10, some (Sum.inl (Value.int x)), a12, a13], st, s, k) = zev zk_X2_circleThrough (114, [a0, a1, a2, a3, a4, a5, a6, a7, a8, a9, a10, some (Sum.inl (Value.int x)), a12, a13], Sum.inl (Value.int x) :: st, s, k) := zev_go rfl rfl
theorem zr_X2_circleThrough_114 (ls : zLs) (st : List zAV) (s : zAS) (k : Nat × Nat) (x y : Int32) : zev zk_X2_circleThrough (114, ls, Sum.inl (Value.int y) :: Sum.inl (Value.int x) :: st, s, k) = zev zk_X2_circleThrough (115, ls, Sum.inl (Value.int (x * y)) :: st, s, k) := zev_go rfl rfl
theorem zr_X2_circleThrough_115 (ls : zLs) (st : List zAV) (s : zAS) (k : Nat × Nat) (x y : Int32) : zev zk_X2_circleThrough (115, ls, Sum.inl (Value.int y) :: Sum.inl (Value.int x) :: st, s, k) = zev zk_X2_circleThrough (116, ls, Sum.inl (Value.int (x - y)) :: st, s, k) := zev_go rfl rfl
theorem zr_X2_circleThrough_116 (a0 a1 a2 a3 a4 a5 a6 a7 a8 a10 a11 a12 a13 : Option zAV) (st : List zAV) (s : zAS) (k : Nat × Nat) (x : Int32) : zev zk_X2_circleThrough (116, [a0, a1, a2, a3, a4, a5, a6, a7, a8, some (Sum.inl (Value.int x)), a10, a11, a12, a13], st, s, k) = zev zk_X2_circleThrough (118, [a0, a1, a2, a3, a4, a5, a6, a7, a8, some (Sum.inl (Value.int x)), a10, a11, a12, a13], Sum.inl (Value.int x) :: st, s, k) := zev_go rfl rfl
theorem zr_X2_circleThrough_118 (ls : zLs) (st : List zAV) (s : zAS) (k : Nat × Nat) (r v0 v1 : zAV) (h : zcok zEC 3 0 0 (zR_X2_circleThrough).cells (zR_X2_circleThrough).slots r st k) : zev zk_X2_circleThrough (118, ls, v1 :: v0 :: r :: st, s, k) = zret zk_X2_circleThrough 121 ls st (k.1 + 0, k.2 + 0) (m_X3_ratio [r, v0, v1] s) := zf_callV (as := [v1, v0]) 2 rfl rfl h
theorem zr_X2_circleThrough_121 (a0 a1 a2 a3 a4 a5 a6 a7 a8 a9 a10 a11 a12 a13 : Option zAV) (st : List zAV) (s : zAS) (k : Nat × Nat) (x : Int32) : zev zk_X2_circleThrough (121, [a0, a1, a2, a3, a4, a5, a6, a7, a8, a9, a10, a11, a12, a13], Sum.inl (Value.int x) :: st, s, k) = zev zk_X2_circleThrough (123, [a0, a1, a2, a3, a4, a5, a6, a7, a8, a9, a10, zk1 a11, some (Sum.inl (Value.int x)), a13], st, s, k) := zev_go rfl rfl
theorem zr_X2_circleThrough_123 (a1 a2 a3 a4 a5 a6 a7 a8 a9 a10 a11 a12 a13 : Option zAV) (st : List zAV) (s : zAS) (k : Nat × Nat) (o : Nat × Nat) : zev zk_X2_circleThrough (123, [some (Sum.inr o), a1, a2, a3, a4, a5, a6, a7, a8, a9, a10, a11, a12, a13], st, s, k) = zev zk_X2_circleThrough (124, [some (Sum.inr o), a1, a2, a3, a4, a5, a6, a7, a8, a9, a10, a11, a12, a13], Sum.inr o :: st, s, k) := zev_go rfl rfl
theorem zr_X2_circleThrough_124 (ls : zLs) (st : List zAV) (s : zAS) (k : Nat × Nat) (o i : Nat) : zev zk_X2_circleThrough (124, ls, Sum.inr (o, i) :: st, s, k) = zpush zk_X2_circleThrough 127 ls st s k (zgv zEC 2 0 o i s.1) := zf_get rfl
theorem zr_X2_circleThrough_127 (a0 a1 a2 a3 a4 a6 a7 a8 a9 a10 a11 a12 a13 : Option zAV) (st : List zAV) (s : zAS) (k : Nat × Nat) (x : Int32) : zev zk_X2_circleThrough (127, [a0, a1, a2, a3, a4, some (Sum.inl (Value.int x)), a6, a7, a8, a9, a10, a11, a12, a13], st, s, k) = zev zk_X2_circleThrough (129, [a0, a1, a2, a3, a4, some (Sum.inl (Value.int x)), a6, a7, a8, a9, a10, a11, a12, a13], Sum.inl (Value.int x) :: st, s, k) := zev_go rfl rfl
theorem zr_X2_circleThrough_129 (a0 a1 a2 a3 a4 a5 a6 a7 a8 a9 a10 a12 a13 : Option zAV) (st : List zAV) (s : zAS) (k : Nat × Nat) (x : Int32) : zev zk_X2_circleThrough (129, [a0, a1, a2, a3, a4, a5, a6, a7, a8, a9, a10, some (Sum.inl (Value.int x)), a12, a13], st, s, k) = zev zk_X2_circleThrough (131, [a0, a1, a2, a3, a4, a5, a6, a7, a8, a9, a10, some (Sum.inl (Value.int x)), a12, a13], Sum.inl (Value.int x) :: st, s, k) := zev_go rfl rfl
theorem zr_X2_circleThrough_131 (ls : zLs) (st : List zAV) (s : zAS) (k : Nat × Nat) (x y : Int32) : zev zk_X2_circleThrough (131, ls, Sum.inl (Value.int y) :: Sum.inl (Value.int x) :: st, s, k) = zev zk_X2_circleThrough (132, ls, Sum.inl (Value.int (x * y)) :: st, s, k) := zev_go rfl rfl
theorem zr_X2_circleThrough_132 (a0 a1 a2 a3 a4 a5 a6 a8 a9 a10 a11 a12 a13 : Option zAV) (st : List zAV) (s : zAS) (k : Nat × Nat) (x : Int32) : zev zk_X2_circleThrough (132, [a0, a1, a2, a3, a4, a5, a6, some (Sum.inl (Value.int x)), a8, a9, a10, a11, a12, a13], st, s, k) = zev zk_X2_circleThrough (134, [a0, a1, a2, a3, a4, a5, a6, some (Sum.inl (Value.int x)), a8, a9, a10, a11, a12, a13], Sum.inl (Value.int x) :: st, s, k) := zev_go rfl rfl
theorem zr_X2_circleThrough_134 (a0 a1 a2 a3 a4 a5 a6 a7 a8 a9 a11 a12 a13 : Option zAV) (st : List zAV) (s : zAS) (k : Nat × Nat) (x : Int32) : zev zk_X2_circleThrough (134, [a0, a1, a2, a3, a4, a5, a6, a7, a8, a9, some (Sum.inl (Value.int x)), a11, a12, a13], st, s, k) = zev zk_X2_circleThrough (136, [a0, a1, a2, a3, a4, a5, a6, a7, a8, a9, some (Sum.inl (Value.int x)), a11, a12, a13], Sum.inl (Value.int x) :: st, s, k) := zev_go rfl rfl
theorem zr_X2_circleThrough_136 (ls : zLs) (st : List zAV) (s : zAS) (k : Nat × Nat) (x y : Int32) : zev zk_X2_circleThrough (136, ls, Sum.inl (Value.int y) :: Sum.inl (Value.int x) :: st, s, k) = zev zk_X2_circleThrough (137, ls, Sum.inl (Value.int (x * y)) :: st, s, k) := zev_go rfl rfl
theorem zr_X2_circleThrough_137 (ls : zLs) (st : List zAV) (s : zAS) (k : Nat × Nat) (x y : Int32) : zev zk_X2_circleThrough (137, ls, Sum.inl (Value.int y) :: Sum.inl (Value.int x) :: st, s, k) = zev zk_X2_circleThrough (138, ls, Sum.inl (Value.int (x - y)) :: st, s, k) := zev_go rfl rfl
theorem zr_X2_circleThrough_138 (a0 a1 a2 a3 a4 a5 a6 a7 a8 a10 a11 a12 a13 : Option zAV) (st : List zAV) (s : zAS) (k : Nat × Nat) (x : Int32) : zev zk_X2_circleThrough (138, [a0, a1, a2, a3, a4, a5, a6, a7, a8, some (Sum.inl (Value.int x)), a10, a11, a12, a13], st, s, k) = zev zk_X2_circleThrough (140, [a0, a1, a2, a3, a4, a5, a6, a7, a8, some (Sum.inl (Value.int x)), a10, a11, a12, a13], Sum.inl (Value.int x) :: st, s, k) := zev_go rfl rfl
theorem zr_X2_circleThrough_140 (ls : zLs) (st : List zAV) (s : zAS) (k : Nat × Nat) (r v0 v1 : zAV) (h : zcok zEC 3 0 0 (zR_X2_circleThrough).cells (zR_X2_circleThrough).slots r st k) : zev zk_X2_circleThrough (140, ls, v1 :: v0 :: r :: st, s, k) = zret zk_X2_circleThrough 143 ls st (k.1 + 0, k.2 + 0) (m_X3_ratio [r, v0, v1] s) := zf_callV (as := [v1, v0]) 2 rfl rfl h
theorem zr_X2_circleThrough_143 (a0 a1 a2 a3 a4 a5 a6 a7 a8 a9 a10 a11 a12 a13 : Option zAV) (st : List zAV) (s : zAS) (k : Nat × Nat) (x : Int32) : zev zk_X2_circleThrough (143, [a0, a1, a2, a3, a4, a5, a6, a7, a8, a9, a10, a11, a12, a13], Sum.inl (Value.int x) :: st, s, k) = zev zk_X2_circleThrough (145, [a0, a1, a2, a3, a4, a5, a6, a7, a8, a9, a10, a11, zk1 a12, some (Sum.inl (Value.int x))], st, s, k) := zev_go rfl rfl
theorem zr_X2_circleThrough_145 (a1 a2 a3 a4 a5 a6 a7 a8 a9 a10 a11 a12 a13 : Option zAV) (st : List zAV) (s : zAS) (k : Nat × Nat) (o : Nat × Nat) : zev zk_X2_circleThrough (145, [some (Sum.inr o), a1, a2, a3, a4, a5, a6, a7, a8, a9, a10, a11, a12, a13], st, s, k) = zev zk_X2_circleThrough (146, [some (Sum.inr o), a1, a2, a3, a4, a5, a6, a7, a8, a9, a10, a11, a12, a13], Sum.inr o :: st, s, k) := zev_go rfl rfl
theorem zr_X2_circleThrough_146 (a0 a2 a3 a4 a5 a6 a7 a8 a9 a10 a11 a12 a13 : Option zAV) (st : List zAV) (s : zAS) (k : Nat × Nat) (o : Nat × Nat) : zev zk_X2_circleThrough (146, [a0, some (Sum.inr o), a2, a3, a4, a5, a6, a7, a8, a9, a10, a11, a12, a13], st, s, k) = zev zk_X2_circleThrough (147, [a0, some (Sum.inr o), a2, a3, a4, a5, a6, a7, a8, a9, a10, a11, a12, a13], Sum.inr o :: st, s, k) := zev_go rfl rfl
theorem zr_X2_circleThrough_147 (a0 a1 a3 a4 a5 a6 a7 a8 a9 a10 a11 a12 a13 : Option zAV) (st : List zAV) (s : zAS) (k : Nat × Nat) (o : Nat × Nat) : zev zk_X2_circleThrough (147, [a0, a1, some (Sum.inr o), a3, a4, a5, a6, a7, a8, a9, a10, a11, a12, a13], st, s, k) = zev zk_X2_circleThrough (148, [a0, a1, some (Sum.inr o), a3, a4, a5, a6, a7, a8, a9, a10, a11, a12, a13], Sum.inr o :: st, s, k) := zev_go rfl rfl
theorem zr_X2_circleThrough_148 (ls : zLs) (st : List zAV) (s : zAS) (k : Nat × Nat) (o i : Nat) : zev zk_X2_circleThrough (148, ls, Sum.inr (o, i) :: st, s, k) = zpush zk_X2_circleThrough 151 ls st s k (zgv zEC 4 8 o i s.1) := zf_get rfl
theorem zr_X2_circleThrough_151 (a0 a1 a2 a3 a4 a5 a6 a7 a8 a9 a10 a11 a13 : Option zAV) (st : List zAV) (s : zAS) (k : Nat × Nat) (x : Int32) : zev zk_X2_circleThrough (151, [a0, a1, a2, a3, a4, a5, a6, a7, a8, a9, a10, a11, some (Sum.inl (Value.int x)), a13], st, s, k) = zev zk_X2_circleThrough (153, [a0, a1, a2, a3, a4, a5, a6, a7, a8, a9, a10, a11, some (Sum.inl (Value.int x)), a13], Sum.inl (Value.int x) :: st, s, k) := zev_go rfl rfl
theorem zr_X2_circleThrough_153 (ls : zLs) (st : List zAV) (s : zAS) (k : Nat × Nat) (x y : Int32) : zev zk_X2_circleThrough (153, ls, Sum.inl (Value.int y) :: Sum.inl (Value.int x) :: st, s, k) = zev zk_X2_circleThrough (154, ls, Sum.inl (Value.int (x + y)) :: st, s, k) := zev_go rfl rfl
theorem zr_X2_circleThrough_154 (a0 a1 a3 a4 a5 a6 a7 a8 a9 a10 a11 a12 a13 : Option zAV) (st : List zAV) (s : zAS) (k : Nat × Nat) (o : Nat × Nat) : zev zk_X2_circleThrough (154, [a0, a1, some (Sum.inr o), a3, a4, a5, a6, a7, a8, a9, a10, a11, a12, a13], st, s, k) = zev zk_X2_circleThrough (155, [a0, a1, some (Sum.inr o), a3, a4, a5, a6, a7, a8, a9, a10, a11, a12, a13], Sum.inr o :: st, s, k) := zev_go rfl rfl
theorem zr_X2_circleThrough_155 (ls : zLs) (st : List zAV) (s : zAS) (k : Nat × Nat) (o i : Nat) : zev zk_X2_circleThrough (155, ls, Sum.inr (o, i) :: st, s, k) = zpush zk_X2_circleThrough 158 ls st s k (zgv zEC 4 9 o i s.1) := zf_get rfl
theorem zr_X2_circleThrough_158 (a0 a1 a2 a3 a4 a5 a6 a7 a8 a9 a10 a11 a12 : Option zAV) (st : List zAV) (s : zAS) (k : Nat × Nat) (x : Int32) : zev zk_X2_circleThrough (158, [a0, a1, a2, a3, a4, a5, a6, a7, a8, a9, a10, a11, a12, some (Sum.inl (Value.int x))], st, s, k) = zev zk_X2_circleThrough (160, [a0, a1, a2, a3, a4, a5, a6, a7, a8, a9, a10, a11, a12, some (Sum.inl (Value.int x))], Sum.inl (Value.int x) :: st, s, k) := zev_go rfl rfl
theorem zr_X2_circleThrough_160 (ls : zLs) (st : List zAV) (s : zAS) (k : Nat × Nat) (x y : Int32) : zev zk_X2_circleThrough (160, ls, Sum.inl (Value.int y) :: Sum.inl (Value.int x) :: st, s, k) = zev zk_X2_circleThrough (161, ls, Sum.inl (Value.int (x + y)) :: st, s, k) := zev_go rfl rfl
theorem zr_X2_circleThrough_161 (a0 a1 a2 a3 a4 a5 a6 a7 a8 a9 a10 a11 a13 : Option zAV) (st : List zAV) (s : zAS) (k : Nat × Nat) (x : Int32) : zev zk_X2_circleThrough (161, [a0, a1, a2, a3, a4, a5, a6, a7, a8, a9, a10, a11, some (Sum.inl (Value.int x)), a13], st, s, k) = zev zk_X2_circleThrough (163, [a0, a1, a2, a3, a4, a5, a6, a7, a8, a9, a10, a11, some (Sum.inl (Value.int x)), a13], Sum.inl (Value.int x) :: st, s, k) := zev_go rfl rfl
theorem zr_X2_circleThrough_163 (a0 a1 a2 a3 a4 a5 a6 a7 a8 a9 a10 a11 a13 : Option zAV) (st : List zAV) (s : zAS) (k : Nat × Nat) (x : Int32) : zev zk_X2_circleThrough (163, [a0, a1, a2, a3, a4, a5, a6, a7, a8, a9, a10, a11, some (Sum.inl (Value.int x)), a13], st, s, k) = zev zk_X2_circleThrough (165, [a0, a1, a2, a3, a4, a5, a6, a7, a8, a9, a10, a11, some (Sum.inl (Value.int x)), a13], Sum.inl (Value.int x) :: st, s, k) := zev_go rfl rfl
theorem zr_X2_circleThrough_165 (ls : zLs) (st : List zAV) (s : zAS) (k : Nat × Nat) (x y : Int32) : zev zk_X2_circleThrough (165, ls, Sum.inl (Value.int y) :: Sum.inl (Value.int x) :: st, s, k) = zev zk_X2_circleThrough (166, ls, Sum.inl (Value.int (x * y)) :: st, s, k) := zev_go rfl rfl
theorem zr_X2_circleThrough_166 (a0 a1 a2 a3 a4 a5 a6 a7 a8 a9 a10 a11 a12 : Option zAV) (st : List zAV) (s : zAS) (k : Nat × Nat) (x : Int32) : zev zk_X2_circleThrough (166, [a0, a1, a2, a3, a4, a5, a6, a7, a8, a9, a10, a11, a12, some (Sum.inl (Value.int x))], st, s, k) = zev zk_X2_circleThrough (168, [a0, a1, a2, a3, a4, a5, a6, a7, a8, a9, a10, a11, a12, some (Sum.inl (Value.int x))], Sum.inl (Value.int x) :: st, s, k) := zev_go rfl rfl
theorem zr_X2_circleThrough_168 (a0 a1 a2 a3 a4 a5 a6 a7 a8 a9 a10 a11 a12 : Option zAV) (st : List zAV) (s : zAS) (k : Nat × Nat) (x : Int32) : zev zk_X2_circleThrough (168, [a0, a1, a2, a3, a4, a5, a6, a7, a8, a9, a10, a11, a12, some (Sum.inl (Value.int x))], st, s, k) = zev zk_X2_circleThrough (170, [a0, a1, a2, a3, a4, a5, a6, a7, a8, a9, a10, a11, a12, some (Sum.inl (Value.int x))], Sum.inl (Value.int x) :: st, s, k) := zev_go rfl rfl
theorem zr_X2_circleThrough_170 (ls : zLs) (st : List zAV) (s : zAS) (k : Nat × Nat) (x y : Int32) : zev zk_X2_circleThrough (170, ls, Sum.inl (Value.int y) :: Sum.inl (Value.int x) :: st, s, k) = zev zk_X2_circleThrough (171, ls, Sum.inl (Value.int (x * y)) :: st, s, k) := zev_go rfl rfl
theorem zr_X2_circleThrough_171 (ls : zLs) (st : List zAV) (s : zAS) (k : Nat × Nat) (x y : Int32) : zev zk_X2_circleThrough (171, ls, Sum.inl (Value.int y) :: Sum.inl (Value.int x) :: st, s, k) = zev zk_X2_circleThrough (172, ls, Sum.inl (Value.int (x + y)) :: st, s, k) := zev_go rfl rfl
theorem zr_X2_circleThrough_172 (ls : zLs) (st : List zAV) (s : zAS) (k : Nat × Nat) (r v0 v1 v2 v3 : zAV) (h : zcok zEC 2 0 0 (zR_X2_circleThrough).cells (zR_X2_circleThrough).slots r st k) : zev zk_X2_circleThrough (172, ls, v3 :: v2 :: v1 :: v0 :: r :: st, s, k) = zret zk_X2_circleThrough 175 ls st (k.1 + 0, k.2 + 0) (m_X2_putCircle [r, v0, v1, v2, v3] s) := zf_callV (as := [v3, v2, v1, v0]) 4 rfl rfl h
theorem zr_X2_circleThrough_175 (ls : zLs) (s : zAS) (k : Nat × Nat) (x : Int32) (hx : x = 0 ∨ x = 1) : zev zk_X2_circleThrough (175, ls, [Sum.inl (Value.int x)], s, k) = some (.inl (some (Sum.inl (Value.int x))), s) := zf_retz rfl hx
/-! X2_draw: PrimePlane$Compass.draw(LPrimePlane$Figure;LPrimePlane$Figure;LPrimePlane$Figure;LPrimePlane$Figure;)Z -/
abbrev zR_X2_draw : Room := ({ frames := 4, cells := 0, slots := 0, locals := 100 } : Room)
noncomputable def zl_X2_draw : List (Nat × zOp) := [(0, z_lda 1 1), (1, z_get zEC 4 1 4), (4, z_tsw 0 22 [112, 126, 137, 145, 145, 153, 153, 185, 193, 299, 201, 209, 224, 240, 299, 299, 299, 299, 299, 299, 248, 268, 289] 299), (112, z_lda 0 113), (113, z_lda 1 114), (114, z_lda 1 115), (115, z_get zEC 4 5 118), (118, z_lda 1 119), (119, z_get zEC 4 6 122), (122, z_callV zEC 2 m_X2_putPoint 3 0 0 (zR_X2_draw).cells (zR_X2_draw).slots 125), (125, z_reti true), (126, z_lda 0 127), (127, z_lda 1 128), (128, z_lda 2 129), (129, z_lda 1 130), (130, z_get zEC 4 5 133), (133, z_callV zEC 2 m_X2_pointOnLine 3 0 0 (zR_X2_draw).cells (zR_X2_draw).slots 136), (136, z_reti true), (137, z_lda 0 138), (138, z_lda 1 139), (139, z_lda 2 140), (140, z_lda 3 141), (141, z_callV zEC 2 m_X2_intersection 3 0 0 (zR_X2_draw).cells (zR_X2_draw).slots 144), (144, z_reti true), (145, z_lda 0 146), (146, z_lda 1 147), (147, z_lda 2 148), (148, z_lda 3 149), (149, z_callV zEC 2 m_X2_lineAndCircle 3 0 0 (zR_X2_draw).cells (zR_X2_draw).slots 152), (152, z_reti true), (153, z_lda 0 154), (154, z_lda 0 155), (155, z_get zEC 2 1 158), (158, z_lda 2 159), (159, z_lda 3 160), (160, z_callV zEC 2 m_X2_equalPowers 3 0 0 (zR_X2_draw).cells (zR_X2_draw).slots 163), (163, z_if (fun x => decide (x = 0)) 183 166), (166, z_lda 0 167), (167, z_lda 1 168), (168, z_lda 0 169), (169, z_get zEC 2 1 172), (172, z_lda 2 173), (173, z_callV zEC 2 m_X2_lineAndCircle 3 0 0 (zR_X2_draw).cells (zR_X2_draw).slots 176), (176, z_if (fun x => decide (x = 0)) 183 179), (179, z_ic (1) 180), (180, z_goto 184), (183, z_ic (0) 184), (184, z_reti true), (185, z_lda 0 186), (186, z_lda 1 187), (187, z_lda 2 188), (188, z_lda 3 189), (189, z_callV zEC 2 m_X2_middle 3 0 0 (zR_X2_draw).cells (zR_X2_draw).slots 192), (192, z_reti true), (193, z_lda 0 194), (194, z_lda 1 195), (195, z_lda 2 196), (196, z_lda 3 197), (197, z_callV zEC 2 m_X2_mirror 3 0 0 (zR_X2_draw).cells (zR_X2_draw).slots 200), (200, z_reti true), (201, z_lda 0 202), (202, z_lda 1 203), (203, z_lda 2 204), (204, z_lda 3 205), (205, z_callV zEC 2 m_X2_lineThrough 3 0 0 (zR_X2_draw).cells (zR_X2_draw).slots 208), (208, z_reti true), (209, z_lda 0 210), (210, z_lda 1 211), (211, z_lda 2 212), (212, z_lda 3 213), (213, z_get zEC 4 8 216), (216, z_lda 3 217), (217, z_get zEC 4 9 220), (220, z_callV zEC 2 m_X2_lineAlong 4 0 0 (zR_X2_draw).cells (zR_X2_draw).slots 223), (223, z_reti true), (224, z_lda 0 225), (225, z_lda 1 226), (226, z_lda 2 227), (227, z_lda 3 228), (228, z_get zEC 4 9 231), (231, z_neg 232), (232, z_lda 3 233), (233, z_get zEC 4 8 236), (236, z_callV zEC 2 m_X2_lineAlong 4 0 0 (zR_X2_draw).cells (zR_X2_draw).slots 239), (239, z_reti true), (240, z_lda 0 241), (241, z_lda 1 242), (242, z_lda 2 243), (243, z_lda 3 244), (244, z_callV zEC 2 m_X2_lineBetween 3 0 0 (zR_X2_draw).cells (zR_X2_draw).slots 247), (247, z_reti true), (248, z_lda 0 249), (249, z_lda 1 250), (250, z_lda 2 251), (251, z_get zEC 4 8 254), (254, z_lda 2 255), (255, z_get zEC 4 9 258), (258, z_lda 0 259), (259, z_lda 2 260), (260, z_lda 3 261), (261, z_callV zEC 2 m_X2_squareOf 2 0 0 (zR_X2_draw).cells (zR_X2_draw).slots 264), (264, z_callV zEC 2 m_X2_putCircle 4 0 0 (zR_X2_draw).cells (zR_X2_draw).slots 267), (267, z_reti true), (268, z_lda 0 269), (269, z_lda 1 270), (270, z_lda 2 271), (271, z_get zEC 4 8 274), (274, z_lda 2 275), (275, z_get zEC 4 9 278), (278, z_lda 0 279), (279, z_lda 3 280), (280, z_lda 4 282), (282, z_callV zEC 2 m_X2_squareOf 2 0 0 (zR_X2_draw).cells (zR_X2_draw).slots 285), (285, z_callV zEC 2 m_X2_putCircle 4 0 0 (zR_X2_draw).cells (zR_X2_draw).slots 288), (288, z_reti true), (289, z_lda 0 290), (290, z_lda 1 291), (291, z_lda 2 292), (292, z_lda 3 293), (293, z_lda 4 295), (295, z_callV zEC 2 m_X2_circleThrough 4 0 0 (zR_X2_draw).cells (zR_X2_draw).slots 298), (298, z_reti true), (299, z_ic (0) 300), (300, z_reti true)]
noncomputable def zk_X2_draw (pc : Nat) : Option zOp := zlook zl_X2_draw pc
noncomputable def m_X2_draw : List zAV → zAS → Option zOut := zmeth zk_X2_draw 5
set_option maxRecDepth 100000 in
set_option maxHeartbeats 4000000 in
theorem zcs_X2_draw {R : Room} (hR : R = zR_X2_draw) : ∀ q ∈ zl_X2_draw, zS zEC yX2_draw.cls cX2_draw 5 wsX2_draw (some .boolean) R q.1 q.2 := by
  subst hR
  have hin2 : ∀ w ∈ wsX20, w ∈ wsX2_draw := fun w h => List.mem_cons_of_mem _ (List.mem_append_left _ (List.mem_append_right _ h))
  have hin4 : ∀ w ∈ wsX40, w ∈ wsX2_draw := fun w h => List.mem_cons_of_mem _ (List.mem_append_left _ (List.mem_append_left _ (List.mem_append_right _ h)))
  refine List.forall_mem_cons.mpr ⟨zs_aload_n dX2_draw_0 rfl, ?_⟩
  refine List.forall_mem_cons.mpr ⟨zs_get (ci := 4) (j := 1) (N := 13) (C := RX4) (T := TX4) (index := 27) rfl (by decide) hin4 (List.mem_of_getElem? (i := 1) rfl) dX2_draw_1, ?_⟩
  refine List.forall_mem_cons.mpr ⟨zs_tsw dX2_draw_4 (by decide) (by decide), ?_⟩
  refine List.forall_mem_cons.mpr ⟨zs_aload_n dX2_draw_112 rfl, ?_⟩
  refine List.forall_mem_cons.mpr ⟨zs_aload_n dX2_draw_113 rfl, ?_⟩
  refine List.forall_mem_cons.mpr ⟨zs_aload_n dX2_draw_114 rfl, ?_⟩
  refine List.forall_mem_cons.mpr ⟨zs_get (ci := 4) (j := 5) (N := 13) (C := RX4) (T := TX4) (index := 31) rfl (by decide) hin4 (List.mem_of_getElem? (i := 2) rfl) dX2_draw_115, ?_⟩
  refine List.forall_mem_cons.mpr ⟨zs_aload_n dX2_draw_118 rfl, ?_⟩
  refine List.forall_mem_cons.mpr ⟨zs_get (ci := 4) (j := 6) (N := 13) (C := RX4) (T := TX4) (index := 34) rfl (by decide) hin4 (List.mem_of_getElem? (i := 3) rfl) dX2_draw_119, ?_⟩
  refine List.forall_mem_cons.mpr ⟨zs_callV (ci := 2) (rm := zR_X2_putPoint) (n := 3) rfl zM_X2_putPoint gX2_draw_X2_putPoint rfl (by decide +kernel) ⟨by decide, by decide⟩ dX2_draw_122, ?_⟩
  refine List.forall_mem_cons.mpr ⟨zs_reti (ty := .boolean) rfl (fun x h => (znz x h).1) dX2_draw_125, ?_⟩
  refine List.forall_mem_cons.mpr ⟨zs_aload_n dX2_draw_126 rfl, ?_⟩
  refine List.forall_mem_cons.mpr ⟨zs_aload_n dX2_draw_127 rfl, ?_⟩
  refine List.forall_mem_cons.mpr ⟨zs_aload_n dX2_draw_128 rfl, ?_⟩
  refine List.forall_mem_cons.mpr ⟨zs_aload_n dX2_draw_129 rfl, ?_⟩
  refine List.forall_mem_cons.mpr ⟨zs_get (ci := 4) (j := 5) (N := 13) (C := RX4) (T := TX4) (index := 31) rfl (by decide) hin4 (List.mem_of_getElem? (i := 2) rfl) dX2_draw_130, ?_⟩
  refine List.forall_mem_cons.mpr ⟨zs_callV (ci := 2) (rm := zR_X2_pointOnLine) (n := 3) rfl zM_X2_pointOnLine gX2_draw_X2_pointOnLine rfl (by decide +kernel) ⟨by decide, by decide⟩ dX2_draw_133, ?_⟩
  refine List.forall_mem_cons.mpr ⟨zs_reti (ty := .boolean) rfl (fun x h => (znz x h).1) dX2_draw_136, ?_⟩
  refine List.forall_mem_cons.mpr ⟨zs_aload_n dX2_draw_137 rfl, ?_⟩
  refine List.forall_mem_cons.mpr ⟨zs_aload_n dX2_draw_138 rfl, ?_⟩
  refine List.forall_mem_cons.mpr ⟨zs_aload_n dX2_draw_139 rfl, ?_⟩
  refine List.forall_mem_cons.mpr ⟨zs_aload_n dX2_draw_140 rfl, ?_⟩
  refine List.forall_mem_cons.mpr ⟨zs_callV (ci := 2) (rm := zR_X2_intersection) (n := 3) rfl zM_X2_intersection gX2_draw_X2_intersection rfl (by decide +kernel) ⟨by decide, by decide⟩ dX2_draw_141, ?_⟩
  refine List.forall_mem_cons.mpr ⟨zs_reti (ty := .boolean) rfl (fun x h => (znz x h).1) dX2_draw_144, ?_⟩
  refine List.forall_mem_cons.mpr ⟨zs_aload_n dX2_draw_145 rfl, ?_⟩
  refine List.forall_mem_cons.mpr ⟨zs_aload_n dX2_draw_146 rfl, ?_⟩
  refine List.forall_mem_cons.mpr ⟨zs_aload_n dX2_draw_147 rfl, ?_⟩
  refine List.forall_mem_cons.mpr ⟨zs_aload_n dX2_draw_148 rfl, ?_⟩
  refine List.forall_mem_cons.mpr ⟨zs_callV (ci := 2) (rm := zR_X2_lineAndCircle) (n := 3) rfl zM_X2_lineAndCircle gX2_draw_X2_lineAndCircle rfl (by decide +kernel) ⟨by decide, by decide⟩ dX2_draw_149, ?_⟩
  refine List.forall_mem_cons.mpr ⟨zs_reti (ty := .boolean) rfl (fun x h => (znz x h).1) dX2_draw_152, ?_⟩
  refine List.forall_mem_cons.mpr ⟨zs_aload_n dX2_draw_153 rfl, ?_⟩
  refine List.forall_mem_cons.mpr ⟨zs_aload_n dX2_draw_154 rfl, ?_⟩
  refine List.forall_mem_cons.mpr ⟨zs_get (ci := 2) (j := 1) (N := 2) (C := RX2) (T := TX2) (index := 23) rfl (by decide) hin2 (List.mem_of_getElem? (i := 4) rfl) dX2_draw_155, ?_⟩
  refine List.forall_mem_cons.mpr ⟨zs_aload_n dX2_draw_158 rfl, ?_⟩
  refine List.forall_mem_cons.mpr ⟨zs_aload_n dX2_draw_159 rfl, ?_⟩
  refine List.forall_mem_cons.mpr ⟨zs_callV (ci := 2) (rm := zR_X2_equalPowers) (n := 3) rfl zM_X2_equalPowers gX2_draw_X2_equalPowers rfl (by decide +kernel) ⟨by decide, by decide⟩ dX2_draw_160, ?_⟩
  refine List.forall_mem_cons.mpr ⟨zs_ifeq dX2_draw_163 (by decide), ?_⟩
  refine List.forall_mem_cons.mpr ⟨zs_aload_n dX2_draw_166 rfl, ?_⟩
  refine List.forall_mem_cons.mpr ⟨zs_aload_n dX2_draw_167 rfl, ?_⟩
  refine List.forall_mem_cons.mpr ⟨zs_aload_n dX2_draw_168 rfl, ?_⟩
  refine List.forall_mem_cons.mpr ⟨zs_get (ci := 2) (j := 1) (N := 2) (C := RX2) (T := TX2) (index := 23) rfl (by decide) hin2 (List.mem_of_getElem? (i := 4) rfl) dX2_draw_169, ?_⟩
  refine List.forall_mem_cons.mpr ⟨zs_aload_n dX2_draw_172 rfl, ?_⟩
  refine List.forall_mem_cons.mpr ⟨zs_callV (ci := 2) (rm := zR_X2_lineAndCircle) (n := 3) rfl zM_X2_lineAndCircle gX2_draw_X2_lineAndCircle rfl (by decide +kernel) ⟨by decide, by decide⟩ dX2_draw_173, ?_⟩
  refine List.forall_mem_cons.mpr ⟨zs_ifeq dX2_draw_176 (by decide), ?_⟩
  refine List.forall_mem_cons.mpr ⟨zs_iconst dX2_draw_179 (by decide), ?_⟩
  refine List.forall_mem_cons.mpr ⟨zs_goto dX2_draw_180 (by decide), ?_⟩
  refine List.forall_mem_cons.mpr ⟨zs_iconst dX2_draw_183 (by decide), ?_⟩
  refine List.forall_mem_cons.mpr ⟨zs_reti (ty := .boolean) rfl (fun x h => (znz x h).1) dX2_draw_184, ?_⟩
  refine List.forall_mem_cons.mpr ⟨zs_aload_n dX2_draw_185 rfl, ?_⟩
  refine List.forall_mem_cons.mpr ⟨zs_aload_n dX2_draw_186 rfl, ?_⟩
  refine List.forall_mem_cons.mpr ⟨zs_aload_n dX2_draw_187 rfl, ?_⟩
  refine List.forall_mem_cons.mpr ⟨zs_aload_n dX2_draw_188 rfl, ?_⟩
  refine List.forall_mem_cons.mpr ⟨zs_callV (ci := 2) (rm := zR_X2_middle) (n := 3) rfl zM_X2_middle gX2_draw_X2_middle rfl (by decide +kernel) ⟨by decide, by decide⟩ dX2_draw_189, ?_⟩
  refine List.forall_mem_cons.mpr ⟨zs_reti (ty := .boolean) rfl (fun x h => (znz x h).1) dX2_draw_192, ?_⟩
  refine List.forall_mem_cons.mpr ⟨zs_aload_n dX2_draw_193 rfl, ?_⟩
  refine List.forall_mem_cons.mpr ⟨zs_aload_n dX2_draw_194 rfl, ?_⟩
  refine List.forall_mem_cons.mpr ⟨zs_aload_n dX2_draw_195 rfl, ?_⟩
  refine List.forall_mem_cons.mpr ⟨zs_aload_n dX2_draw_196 rfl, ?_⟩
  refine List.forall_mem_cons.mpr ⟨zs_callV (ci := 2) (rm := zR_X2_mirror) (n := 3) rfl zM_X2_mirror gX2_draw_X2_mirror rfl (by decide +kernel) ⟨by decide, by decide⟩ dX2_draw_197, ?_⟩
  refine List.forall_mem_cons.mpr ⟨zs_reti (ty := .boolean) rfl (fun x h => (znz x h).1) dX2_draw_200, ?_⟩
  refine List.forall_mem_cons.mpr ⟨zs_aload_n dX2_draw_201 rfl, ?_⟩
  refine List.forall_mem_cons.mpr ⟨zs_aload_n dX2_draw_202 rfl, ?_⟩
  refine List.forall_mem_cons.mpr ⟨zs_aload_n dX2_draw_203 rfl, ?_⟩
  refine List.forall_mem_cons.mpr ⟨zs_aload_n dX2_draw_204 rfl, ?_⟩
  refine List.forall_mem_cons.mpr ⟨zs_callV (ci := 2) (rm := zR_X2_lineThrough) (n := 3) rfl zM_X2_lineThrough gX2_draw_X2_lineThrough rfl (by decide +kernel) ⟨by decide, by decide⟩ dX2_draw_205, ?_⟩
  refine List.forall_mem_cons.mpr ⟨zs_reti (ty := .boolean) rfl (fun x h => (znz x h).1) dX2_draw_208, ?_⟩
  refine List.forall_mem_cons.mpr ⟨zs_aload_n dX2_draw_209 rfl, ?_⟩
  refine List.forall_mem_cons.mpr ⟨zs_aload_n dX2_draw_210 rfl, ?_⟩
  refine List.forall_mem_cons.mpr ⟨zs_aload_n dX2_draw_211 rfl, ?_⟩
  refine List.forall_mem_cons.mpr ⟨zs_aload_n dX2_draw_212 rfl, ?_⟩
  refine List.forall_mem_cons.mpr ⟨zs_get (ci := 4) (j := 8) (N := 13) (C := RX4) (T := TX4) (index := 64) rfl (by decide) hin4 (List.mem_of_getElem? (i := 5) rfl) dX2_draw_213, ?_⟩
  refine List.forall_mem_cons.mpr ⟨zs_aload_n dX2_draw_216 rfl, ?_⟩
  refine List.forall_mem_cons.mpr ⟨zs_get (ci := 4) (j := 9) (N := 13) (C := RX4) (T := TX4) (index := 67) rfl (by decide) hin4 (List.mem_of_getElem? (i := 6) rfl) dX2_draw_217, ?_⟩
  refine List.forall_mem_cons.mpr ⟨zs_callV (ci := 2) (rm := zR_X2_lineAlong) (n := 4) rfl zM_X2_lineAlong gX2_draw_X2_lineAlong rfl (by decide +kernel) ⟨by decide, by decide⟩ dX2_draw_220, ?_⟩
  refine List.forall_mem_cons.mpr ⟨zs_reti (ty := .boolean) rfl (fun x h => (znz x h).1) dX2_draw_223, ?_⟩
  refine List.forall_mem_cons.mpr ⟨zs_aload_n dX2_draw_224 rfl, ?_⟩
  refine List.forall_mem_cons.mpr ⟨zs_aload_n dX2_draw_225 rfl, ?_⟩
  refine List.forall_mem_cons.mpr ⟨zs_aload_n dX2_draw_226 rfl, ?_⟩
  refine List.forall_mem_cons.mpr ⟨zs_aload_n dX2_draw_227 rfl, ?_⟩
  refine List.forall_mem_cons.mpr ⟨zs_get (ci := 4) (j := 9) (N := 13) (C := RX4) (T := TX4) (index := 67) rfl (by decide) hin4 (List.mem_of_getElem? (i := 6) rfl) dX2_draw_228, ?_⟩
  refine List.forall_mem_cons.mpr ⟨zs_ineg dX2_draw_231, ?_⟩
  refine List.forall_mem_cons.mpr ⟨zs_aload_n dX2_draw_232 rfl, ?_⟩
  refine List.forall_mem_cons.mpr ⟨zs_get (ci := 4) (j := 8) (N := 13) (C := RX4) (T := TX4) (index := 64) rfl (by decide) hin4 (List.mem_of_getElem? (i := 5) rfl) dX2_draw_233, ?_⟩
  refine List.forall_mem_cons.mpr ⟨zs_callV (ci := 2) (rm := zR_X2_lineAlong) (n := 4) rfl zM_X2_lineAlong gX2_draw_X2_lineAlong rfl (by decide +kernel) ⟨by decide, by decide⟩ dX2_draw_236, ?_⟩
  refine List.forall_mem_cons.mpr ⟨zs_reti (ty := .boolean) rfl (fun x h => (znz x h).1) dX2_draw_239, ?_⟩
  refine List.forall_mem_cons.mpr ⟨zs_aload_n dX2_draw_240 rfl, ?_⟩
  refine List.forall_mem_cons.mpr ⟨zs_aload_n dX2_draw_241 rfl, ?_⟩
  refine List.forall_mem_cons.mpr ⟨zs_aload_n dX2_draw_242 rfl, ?_⟩
  refine List.forall_mem_cons.mpr ⟨zs_aload_n dX2_draw_243 rfl, ?_⟩
  refine List.forall_mem_cons.mpr ⟨zs_callV (ci := 2) (rm := zR_X2_lineBetween) (n := 3) rfl zM_X2_lineBetween gX2_draw_X2_lineBetween rfl (by decide +kernel) ⟨by decide, by decide⟩ dX2_draw_244, ?_⟩
  refine List.forall_mem_cons.mpr ⟨zs_reti (ty := .boolean) rfl (fun x h => (znz x h).1) dX2_draw_247, ?_⟩
  refine List.forall_mem_cons.mpr ⟨zs_aload_n dX2_draw_248 rfl, ?_⟩
  refine List.forall_mem_cons.mpr ⟨zs_aload_n dX2_draw_249 rfl, ?_⟩
  refine List.forall_mem_cons.mpr ⟨zs_aload_n dX2_draw_250 rfl, ?_⟩
  refine List.forall_mem_cons.mpr ⟨zs_get (ci := 4) (j := 8) (N := 13) (C := RX4) (T := TX4) (index := 64) rfl (by decide) hin4 (List.mem_of_getElem? (i := 5) rfl) dX2_draw_251, ?_⟩
  refine List.forall_mem_cons.mpr ⟨zs_aload_n dX2_draw_254 rfl, ?_⟩
  refine List.forall_mem_cons.mpr ⟨zs_get (ci := 4) (j := 9) (N := 13) (C := RX4) (T := TX4) (index := 67) rfl (by decide) hin4 (List.mem_of_getElem? (i := 6) rfl) dX2_draw_255, ?_⟩
  refine List.forall_mem_cons.mpr ⟨zs_aload_n dX2_draw_258 rfl, ?_⟩
  refine List.forall_mem_cons.mpr ⟨zs_aload_n dX2_draw_259 rfl, ?_⟩
  refine List.forall_mem_cons.mpr ⟨zs_aload_n dX2_draw_260 rfl, ?_⟩
  refine List.forall_mem_cons.mpr ⟨zs_callV (ci := 2) (rm := zR_X2_squareOf) (n := 2) rfl zM_X2_squareOf gX2_draw_X2_squareOf rfl (by decide +kernel) ⟨by decide, by decide⟩ dX2_draw_261, ?_⟩
  refine List.forall_mem_cons.mpr ⟨zs_callV (ci := 2) (rm := zR_X2_putCircle) (n := 4) rfl zM_X2_putCircle gX2_draw_X2_putCircle rfl (by decide +kernel) ⟨by decide, by decide⟩ dX2_draw_264, ?_⟩
  refine List.forall_mem_cons.mpr ⟨zs_reti (ty := .boolean) rfl (fun x h => (znz x h).1) dX2_draw_267, ?_⟩
  refine List.forall_mem_cons.mpr ⟨zs_aload_n dX2_draw_268 rfl, ?_⟩
  refine List.forall_mem_cons.mpr ⟨zs_aload_n dX2_draw_269 rfl, ?_⟩
  refine List.forall_mem_cons.mpr ⟨zs_aload_n dX2_draw_270 rfl, ?_⟩
  refine List.forall_mem_cons.mpr ⟨zs_get (ci := 4) (j := 8) (N := 13) (C := RX4) (T := TX4) (index := 64) rfl (by decide) hin4 (List.mem_of_getElem? (i := 5) rfl) dX2_draw_271, ?_⟩
  refine List.forall_mem_cons.mpr ⟨zs_aload_n dX2_draw_274 rfl, ?_⟩
  refine List.forall_mem_cons.mpr ⟨zs_get (ci := 4) (j := 9) (N := 13) (C := RX4) (T := TX4) (index := 67) rfl (by decide) hin4 (List.mem_of_getElem? (i := 6) rfl) dX2_draw_275, ?_⟩
  refine List.forall_mem_cons.mpr ⟨zs_aload_n dX2_draw_278 rfl, ?_⟩
  refine List.forall_mem_cons.mpr ⟨zs_aload_n dX2_draw_279 rfl, ?_⟩
  refine List.forall_mem_cons.mpr ⟨zs_aload dX2_draw_280, ?_⟩
  refine List.forall_mem_cons.mpr ⟨zs_callV (ci := 2) (rm := zR_X2_squareOf) (n := 2) rfl zM_X2_squareOf gX2_draw_X2_squareOf rfl (by decide +kernel) ⟨by decide, by decide⟩ dX2_draw_282, ?_⟩
  refine List.forall_mem_cons.mpr ⟨zs_callV (ci := 2) (rm := zR_X2_putCircle) (n := 4) rfl zM_X2_putCircle gX2_draw_X2_putCircle rfl (by decide +kernel) ⟨by decide, by decide⟩ dX2_draw_285, ?_⟩
  refine List.forall_mem_cons.mpr ⟨zs_reti (ty := .boolean) rfl (fun x h => (znz x h).1) dX2_draw_288, ?_⟩
  refine List.forall_mem_cons.mpr ⟨zs_aload_n dX2_draw_289 rfl, ?_⟩
  refine List.forall_mem_cons.mpr ⟨zs_aload_n dX2_draw_290 rfl, ?_⟩
  refine List.forall_mem_cons.mpr ⟨zs_aload_n dX2_draw_291 rfl, ?_⟩
  refine List.forall_mem_cons.mpr ⟨zs_aload_n dX2_draw_292 rfl, ?_⟩
  refine List.forall_mem_cons.mpr ⟨zs_aload dX2_draw_293, ?_⟩
  refine List.forall_mem_cons.mpr ⟨zs_callV (ci := 2) (rm := zR_X2_circleThrough) (n := 4) rfl zM_X2_circleThrough gX2_draw_X2_circleThrough rfl (by decide +kernel) ⟨by decide, by decide⟩ dX2_draw_295, ?_⟩
  refine List.forall_mem_cons.mpr ⟨zs_reti (ty := .boolean) rfl (fun x h => (znz x h).1) dX2_draw_298, ?_⟩
  refine List.forall_mem_cons.mpr ⟨zs_iconst dX2_draw_299 (by decide), ?_⟩
  refine List.forall_mem_cons.mpr ⟨zs_reti (ty := .boolean) rfl (fun x h => (znz x h).1) dX2_draw_300, ?_⟩
  exact fun _ h => absurd h List.not_mem_nil
theorem zM_X2_draw : zMeets zEC yX2_draw wsX2_draw zR_X2_draw m_X2_draw := zmeth_M zECok (zlook_all (zcs_X2_draw rfl)) (by decide +kernel) rfl
theorem zr_X2_draw_0 (a0 a2 a3 a4 : Option zAV) (st : List zAV) (s : zAS) (k : Nat × Nat) (o : Nat × Nat) : zev zk_X2_draw (0, [a0, some (Sum.inr o), a2, a3, a4], st, s, k) = zev zk_X2_draw (1, [a0, some (Sum.inr o), a2, a3, a4], Sum.inr o :: st, s, k) := zev_go rfl rfl
theorem zr_X2_draw_1 (ls : zLs) (st : List zAV) (s : zAS) (k : Nat × Nat) (o i : Nat) : zev zk_X2_draw (1, ls, Sum.inr (o, i) :: st, s, k) = zpush zk_X2_draw 4 ls st s k (zgv zEC 4 1 o i s.1) := zf_get rfl
theorem zr_X2_draw_4 (ls : zLs) (st : List zAV) (s : zAS) (k : Nat × Nat) (x : Int32) : zev zk_X2_draw (4, ls, Sum.inl (Value.int x) :: st, s, k) = if x.toInt < 0 ∨ 22 < x.toInt then zev zk_X2_draw (299, ls, st, s, k) else match ([112, 126, 137, 145, 145, 153, 153, 185, 193, 299, 201, 209, 224, 240, 299, 299, 299, 299, 299, 299, 248, 268, 289] : List Nat)[(x.toInt - 0).toNat]? with
    | some t => zev zk_X2_draw (t, ls, st, s, k)
    | none => none := zf_tsw rfl
theorem zr_X2_draw_112 (a1 a2 a3 a4 : Option zAV) (st : List zAV) (s : zAS) (k : Nat × Nat) (o : Nat × Nat) : zev zk_X2_draw (112, [some (Sum.inr o), a1, a2, a3, a4], st, s, k) = zev zk_X2_draw (113, [some (Sum.inr o), a1, a2, a3, a4], Sum.inr o :: st, s, k) := zev_go rfl rfl
theorem zr_X2_draw_113 (a0 a2 a3 a4 : Option zAV) (st : List zAV) (s : zAS) (k : Nat × Nat) (o : Nat × Nat) : zev zk_X2_draw (113, [a0, some (Sum.inr o), a2, a3, a4], st, s, k) = zev zk_X2_draw (114, [a0, some (Sum.inr o), a2, a3, a4], Sum.inr o :: st, s, k) := zev_go rfl rfl
theorem zr_X2_draw_114 (a0 a2 a3 a4 : Option zAV) (st : List zAV) (s : zAS) (k : Nat × Nat) (o : Nat × Nat) : zev zk_X2_draw (114, [a0, some (Sum.inr o), a2, a3, a4], st, s, k) = zev zk_X2_draw (115, [a0, some (Sum.inr o), a2, a3, a4], Sum.inr o :: st, s, k) := zev_go rfl rfl
theorem zr_X2_draw_115 (ls : zLs) (st : List zAV) (s : zAS) (k : Nat × Nat) (o i : Nat) : zev zk_X2_draw (115, ls, Sum.inr (o, i) :: st, s, k) = zpush zk_X2_draw 118 ls st s k (zgv zEC 4 5 o i s.1) := zf_get rfl
theorem zr_X2_draw_118 (a0 a2 a3 a4 : Option zAV) (st : List zAV) (s : zAS) (k : Nat × Nat) (o : Nat × Nat) : zev zk_X2_draw (118, [a0, some (Sum.inr o), a2, a3, a4], st, s, k) = zev zk_X2_draw (119, [a0, some (Sum.inr o), a2, a3, a4], Sum.inr o :: st, s, k) := zev_go rfl rfl
theorem zr_X2_draw_119 (ls : zLs) (st : List zAV) (s : zAS) (k : Nat × Nat) (o i : Nat) : zev zk_X2_draw (119, ls, Sum.inr (o, i) :: st, s, k) = zpush zk_X2_draw 122 ls st s k (zgv zEC 4 6 o i s.1) := zf_get rfl
theorem zr_X2_draw_122 (ls : zLs) (st : List zAV) (s : zAS) (k : Nat × Nat) (r v0 v1 v2 : zAV) (h : zcok zEC 2 0 0 (zR_X2_draw).cells (zR_X2_draw).slots r st k) : zev zk_X2_draw (122, ls, v2 :: v1 :: v0 :: r :: st, s, k) = zret zk_X2_draw 125 ls st (k.1 + 0, k.2 + 0) (m_X2_putPoint [r, v0, v1, v2] s) := zf_callV (as := [v2, v1, v0]) 3 rfl rfl h
theorem zr_X2_draw_125 (ls : zLs) (s : zAS) (k : Nat × Nat) (x : Int32) (hx : x = 0 ∨ x = 1) : zev zk_X2_draw (125, ls, [Sum.inl (Value.int x)], s, k) = some (.inl (some (Sum.inl (Value.int x))), s) := zf_retz rfl hx
theorem zr_X2_draw_126 (a1 a2 a3 a4 : Option zAV) (st : List zAV) (s : zAS) (k : Nat × Nat) (o : Nat × Nat) : zev zk_X2_draw (126, [some (Sum.inr o), a1, a2, a3, a4], st, s, k) = zev zk_X2_draw (127, [some (Sum.inr o), a1, a2, a3, a4], Sum.inr o :: st, s, k) := zev_go rfl rfl
theorem zr_X2_draw_127 (a0 a2 a3 a4 : Option zAV) (st : List zAV) (s : zAS) (k : Nat × Nat) (o : Nat × Nat) : zev zk_X2_draw (127, [a0, some (Sum.inr o), a2, a3, a4], st, s, k) = zev zk_X2_draw (128, [a0, some (Sum.inr o), a2, a3, a4], Sum.inr o :: st, s, k) := zev_go rfl rfl
theorem zr_X2_draw_128 (a0 a1 a3 a4 : Option zAV) (st : List zAV) (s : zAS) (k : Nat × Nat) (o : Nat × Nat) : zev zk_X2_draw (128, [a0, a1, some (Sum.inr o), a3, a4], st, s, k) = zev zk_X2_draw (129, [a0, a1, some (Sum.inr o), a3, a4], Sum.inr o :: st, s, k) := zev_go rfl rfl
theorem zr_X2_draw_129 (a0 a2 a3 a4 : Option zAV) (st : List zAV) (s : zAS) (k : Nat × Nat) (o : Nat × Nat) : zev zk_X2_draw (129, [a0, some (Sum.inr o), a2, a3, a4], st, s, k) = zev zk_X2_draw (130, [a0, some (Sum.inr o), a2, a3, a4], Sum.inr o :: st, s, k) := zev_go rfl rfl
theorem zr_X2_draw_130 (ls : zLs) (st : List zAV) (s : zAS) (k : Nat × Nat) (o i : Nat) : zev zk_X2_draw (130, ls, Sum.inr (o, i) :: st, s, k) = zpush zk_X2_draw 133 ls st s k (zgv zEC 4 5 o i s.1) := zf_get rfl
theorem zr_X2_draw_133 (ls : zLs) (st : List zAV) (s : zAS) (k : Nat × Nat) (r v0 v1 v2 : zAV) (h : zcok zEC 2 0 0 (zR_X2_draw).cells (zR_X2_draw).slots r st k) : zev zk_X2_draw (133, ls, v2 :: v1 :: v0 :: r :: st, s, k) = zret zk_X2_draw 136 ls st (k.1 + 0, k.2 + 0) (m_X2_pointOnLine [r, v0, v1, v2] s) := zf_callV (as := [v2, v1, v0]) 3 rfl rfl h
theorem zr_X2_draw_136 (ls : zLs) (s : zAS) (k : Nat × Nat) (x : Int32) (hx : x = 0 ∨ x = 1) : zev zk_X2_draw (136, ls, [Sum.inl (Value.int x)], s, k) = some (.inl (some (Sum.inl (Value.int x))), s) := zf_retz rfl hx
theorem zr_X2_draw_137 (a1 a2 a3 a4 : Option zAV) (st : List zAV) (s : zAS) (k : Nat × Nat) (o : Nat × Nat) : zev zk_X2_draw (137, [some (Sum.inr o), a1, a2, a3, a4], st, s, k) = zev zk_X2_draw (138, [some (Sum.inr o), a1, a2, a3, a4], Sum.inr o :: st, s, k) := zev_go rfl rfl
theorem zr_X2_draw_138 (a0 a2 a3 a4 : Option zAV) (st : List zAV) (s : zAS) (k : Nat × Nat) (o : Nat × Nat) : zev zk_X2_draw (138, [a0, some (Sum.inr o), a2, a3, a4], st, s, k) = zev zk_X2_draw (139, [a0, some (Sum.inr o), a2, a3, a4], Sum.inr o :: st, s, k) := zev_go rfl rfl
theorem zr_X2_draw_139 (a0 a1 a3 a4 : Option zAV) (st : List zAV) (s : zAS) (k : Nat × Nat) (o : Nat × Nat) : zev zk_X2_draw (139, [a0, a1, some (Sum.inr o), a3, a4], st, s, k) = zev zk_X2_draw (140, [a0, a1, some (Sum.inr o), a3, a4], Sum.inr o :: st, s, k) := zev_go rfl rfl
theorem zr_X2_draw_140 (a0 a1 a2 a4 : Option zAV) (st : List zAV) (s : zAS) (k : Nat × Nat) (o : Nat × Nat) : zev zk_X2_draw (140, [a0, a1, a2, some (Sum.inr o), a4], st, s, k) = zev zk_X2_draw (141, [a0, a1, a2, some (Sum.inr o), a4], Sum.inr o :: st, s, k) := zev_go rfl rfl
theorem zr_X2_draw_141 (ls : zLs) (st : List zAV) (s : zAS) (k : Nat × Nat) (r v0 v1 v2 : zAV) (h : zcok zEC 2 0 0 (zR_X2_draw).cells (zR_X2_draw).slots r st k) : zev zk_X2_draw (141, ls, v2 :: v1 :: v0 :: r :: st, s, k) = zret zk_X2_draw 144 ls st (k.1 + 0, k.2 + 0) (m_X2_intersection [r, v0, v1, v2] s) := zf_callV (as := [v2, v1, v0]) 3 rfl rfl h
theorem zr_X2_draw_144 (ls : zLs) (s : zAS) (k : Nat × Nat) (x : Int32) (hx : x = 0 ∨ x = 1) : zev zk_X2_draw (144, ls, [Sum.inl (Value.int x)], s, k) = some (.inl (some (Sum.inl (Value.int x))), s) := zf_retz rfl hx
theorem zr_X2_draw_145 (a1 a2 a3 a4 : Option zAV) (st : List zAV) (s : zAS) (k : Nat × Nat) (o : Nat × Nat) : zev zk_X2_draw (145, [some (Sum.inr o), a1, a2, a3, a4], st, s, k) = zev zk_X2_draw (146, [some (Sum.inr o), a1, a2, a3, a4], Sum.inr o :: st, s, k) := zev_go rfl rfl
theorem zr_X2_draw_146 (a0 a2 a3 a4 : Option zAV) (st : List zAV) (s : zAS) (k : Nat × Nat) (o : Nat × Nat) : zev zk_X2_draw (146, [a0, some (Sum.inr o), a2, a3, a4], st, s, k) = zev zk_X2_draw (147, [a0, some (Sum.inr o), a2, a3, a4], Sum.inr o :: st, s, k) := zev_go rfl rfl
theorem zr_X2_draw_147 (a0 a1 a3 a4 : Option zAV) (st : List zAV) (s : zAS) (k : Nat × Nat) (o : Nat × Nat) : zev zk_X2_draw (147, [a0, a1, some (Sum.inr o), a3, a4], st, s, k) = zev zk_X2_draw (148, [a0, a1, some (Sum.inr o), a3, a4], Sum.inr o :: st, s, k) := zev_go rfl rfl
theorem zr_X2_draw_148 (a0 a1 a2 a4 : Option zAV) (st : List zAV) (s : zAS) (k : Nat × Nat) (o : Nat × Nat) : zev zk_X2_draw (148, [a0, a1, a2, some (Sum.inr o), a4], st, s, k) = zev zk_X2_draw (149, [a0, a1, a2, some (Sum.inr o), a4], Sum.inr o :: st, s, k) := zev_go rfl rfl
theorem zr_X2_draw_149 (ls : zLs) (st : List zAV) (s : zAS) (k : Nat × Nat) (r v0 v1 v2 : zAV) (h : zcok zEC 2 0 0 (zR_X2_draw).cells (zR_X2_draw).slots r st k) : zev zk_X2_draw (149, ls, v2 :: v1 :: v0 :: r :: st, s, k) = zret zk_X2_draw 152 ls st (k.1 + 0, k.2 + 0) (m_X2_lineAndCircle [r, v0, v1, v2] s) := zf_callV (as := [v2, v1, v0]) 3 rfl rfl h
theorem zr_X2_draw_152 (ls : zLs) (s : zAS) (k : Nat × Nat) (x : Int32) (hx : x = 0 ∨ x = 1) : zev zk_X2_draw (152, ls, [Sum.inl (Value.int x)], s, k) = some (.inl (some (Sum.inl (Value.int x))), s) := zf_retz rfl hx
theorem zr_X2_draw_153 (a1 a2 a3 a4 : Option zAV) (st : List zAV) (s : zAS) (k : Nat × Nat) (o : Nat × Nat) : zev zk_X2_draw (153, [some (Sum.inr o), a1, a2, a3, a4], st, s, k) = zev zk_X2_draw (154, [some (Sum.inr o), a1, a2, a3, a4], Sum.inr o :: st, s, k) := zev_go rfl rfl
theorem zr_X2_draw_154 (a1 a2 a3 a4 : Option zAV) (st : List zAV) (s : zAS) (k : Nat × Nat) (o : Nat × Nat) : zev zk_X2_draw (154, [some (Sum.inr o), a1, a2, a3, a4], st, s, k) = zev zk_X2_draw (155, [some (Sum.inr o), a1, a2, a3, a4], Sum.inr o :: st, s, k) := zev_go rfl rfl
theorem zr_X2_draw_155 (ls : zLs) (st : List zAV) (s : zAS) (k : Nat × Nat) (o i : Nat) : zev zk_X2_draw (155, ls, Sum.inr (o, i) :: st, s, k) = zpush zk_X2_draw 158 ls st s k (zgv zEC 2 1 o i s.1) := zf_get rfl
theorem zr_X2_draw_158 (a0 a1 a3 a4 : Option zAV) (st : List zAV) (s : zAS) (k : Nat × Nat) (o : Nat × Nat) : zev zk_X2_draw (158, [a0, a1, some (Sum.inr o), a3, a4], st, s, k) = zev zk_X2_draw (159, [a0, a1, some (Sum.inr o), a3, a4], Sum.inr o :: st, s, k) := zev_go rfl rfl
theorem zr_X2_draw_159 (a0 a1 a2 a4 : Option zAV) (st : List zAV) (s : zAS) (k : Nat × Nat) (o : Nat × Nat) : zev zk_X2_draw (159, [a0, a1, a2, some (Sum.inr o), a4], st, s, k) = zev zk_X2_draw (160, [a0, a1, a2, some (Sum.inr o), a4], Sum.inr o :: st, s, k) := zev_go rfl rfl
theorem zr_X2_draw_160 (ls : zLs) (st : List zAV) (s : zAS) (k : Nat × Nat) (r v0 v1 v2 : zAV) (h : zcok zEC 2 0 0 (zR_X2_draw).cells (zR_X2_draw).slots r st k) : zev zk_X2_draw (160, ls, v2 :: v1 :: v0 :: r :: st, s, k) = zret zk_X2_draw 163 ls st (k.1 + 0, k.2 + 0) (m_X2_equalPowers [r, v0, v1, v2] s) := zf_callV (as := [v2, v1, v0]) 3 rfl rfl h
theorem zr_X2_draw_163 (ls : zLs) (st : List zAV) (s : zAS) (k : Nat × Nat) (x : Int32) : zev zk_X2_draw (163, ls, Sum.inl (Value.int x) :: st, s, k) = if decide (x = 0) = true then zev zk_X2_draw (183, ls, st, s, k) else zev zk_X2_draw (166, ls, st, s, k) := zf_if (f := fun x => decide (x = 0)) rfl
theorem zr_X2_draw_166 (a1 a2 a3 a4 : Option zAV) (st : List zAV) (s : zAS) (k : Nat × Nat) (o : Nat × Nat) : zev zk_X2_draw (166, [some (Sum.inr o), a1, a2, a3, a4], st, s, k) = zev zk_X2_draw (167, [some (Sum.inr o), a1, a2, a3, a4], Sum.inr o :: st, s, k) := zev_go rfl rfl
theorem zr_X2_draw_167 (a0 a2 a3 a4 : Option zAV) (st : List zAV) (s : zAS) (k : Nat × Nat) (o : Nat × Nat) : zev zk_X2_draw (167, [a0, some (Sum.inr o), a2, a3, a4], st, s, k) = zev zk_X2_draw (168, [a0, some (Sum.inr o), a2, a3, a4], Sum.inr o :: st, s, k) := zev_go rfl rfl
theorem zr_X2_draw_168 (a1 a2 a3 a4 : Option zAV) (st : List zAV) (s : zAS) (k : Nat × Nat) (o : Nat × Nat) : zev zk_X2_draw (168, [some (Sum.inr o), a1, a2, a3, a4], st, s, k) = zev zk_X2_draw (169, [some (Sum.inr o), a1, a2, a3, a4], Sum.inr o :: st, s, k) := zev_go rfl rfl
theorem zr_X2_draw_169 (ls : zLs) (st : List zAV) (s : zAS) (k : Nat × Nat) (o i : Nat) : zev zk_X2_draw (169, ls, Sum.inr (o, i) :: st, s, k) = zpush zk_X2_draw 172 ls st s k (zgv zEC 2 1 o i s.1) := zf_get rfl
theorem zr_X2_draw_172 (a0 a1 a3 a4 : Option zAV) (st : List zAV) (s : zAS) (k : Nat × Nat) (o : Nat × Nat) : zev zk_X2_draw (172, [a0, a1, some (Sum.inr o), a3, a4], st, s, k) = zev zk_X2_draw (173, [a0, a1, some (Sum.inr o), a3, a4], Sum.inr o :: st, s, k) := zev_go rfl rfl
theorem zr_X2_draw_173 (ls : zLs) (st : List zAV) (s : zAS) (k : Nat × Nat) (r v0 v1 v2 : zAV) (h : zcok zEC 2 0 0 (zR_X2_draw).cells (zR_X2_draw).slots r st k) : zev zk_X2_draw (173, ls, v2 :: v1 :: v0 :: r :: st, s, k) = zret zk_X2_draw 176 ls st (k.1 + 0, k.2 + 0) (m_X2_lineAndCircle [r, v0, v1, v2] s) := zf_callV (as := [v2, v1, v0]) 3 rfl rfl h
theorem zr_X2_draw_176 (ls : zLs) (st : List zAV) (s : zAS) (k : Nat × Nat) (x : Int32) : zev zk_X2_draw (176, ls, Sum.inl (Value.int x) :: st, s, k) = if decide (x = 0) = true then zev zk_X2_draw (183, ls, st, s, k) else zev zk_X2_draw (179, ls, st, s, k) := zf_if (f := fun x => decide (x = 0)) rfl
theorem zr_X2_draw_179 (ls : zLs) (st : List zAV) (s : zAS) (k : Nat × Nat) : zev zk_X2_draw (179, ls, st, s, k) = zev zk_X2_draw (180, ls, Sum.inl (Value.int (1)) :: st, s, k) := zev_go rfl rfl
theorem zr_X2_draw_180 (ls : zLs) (st : List zAV) (s : zAS) (k : Nat × Nat) : zev zk_X2_draw (180, ls, st, s, k) = zev zk_X2_draw (184, ls, st, s, k) := zev_go rfl rfl
theorem zr_X2_draw_183 (ls : zLs) (st : List zAV) (s : zAS) (k : Nat × Nat) : zev zk_X2_draw (183, ls, st, s, k) = zev zk_X2_draw (184, ls, Sum.inl (Value.int (0)) :: st, s, k) := zev_go rfl rfl
theorem zr_X2_draw_184 (ls : zLs) (s : zAS) (k : Nat × Nat) (x : Int32) (hx : x = 0 ∨ x = 1) : zev zk_X2_draw (184, ls, [Sum.inl (Value.int x)], s, k) = some (.inl (some (Sum.inl (Value.int x))), s) := zf_retz rfl hx
theorem zr_X2_draw_185 (a1 a2 a3 a4 : Option zAV) (st : List zAV) (s : zAS) (k : Nat × Nat) (o : Nat × Nat) : zev zk_X2_draw (185, [some (Sum.inr o), a1, a2, a3, a4], st, s, k) = zev zk_X2_draw (186, [some (Sum.inr o), a1, a2, a3, a4], Sum.inr o :: st, s, k) := zev_go rfl rfl
theorem zr_X2_draw_186 (a0 a2 a3 a4 : Option zAV) (st : List zAV) (s : zAS) (k : Nat × Nat) (o : Nat × Nat) : zev zk_X2_draw (186, [a0, some (Sum.inr o), a2, a3, a4], st, s, k) = zev zk_X2_draw (187, [a0, some (Sum.inr o), a2, a3, a4], Sum.inr o :: st, s, k) := zev_go rfl rfl
theorem zr_X2_draw_187 (a0 a1 a3 a4 : Option zAV) (st : List zAV) (s : zAS) (k : Nat × Nat) (o : Nat × Nat) : zev zk_X2_draw (187, [a0, a1, some (Sum.inr o), a3, a4], st, s, k) = zev zk_X2_draw (188, [a0, a1, some (Sum.inr o), a3, a4], Sum.inr o :: st, s, k) := zev_go rfl rfl
theorem zr_X2_draw_188 (a0 a1 a2 a4 : Option zAV) (st : List zAV) (s : zAS) (k : Nat × Nat) (o : Nat × Nat) : zev zk_X2_draw (188, [a0, a1, a2, some (Sum.inr o), a4], st, s, k) = zev zk_X2_draw (189, [a0, a1, a2, some (Sum.inr o), a4], Sum.inr o :: st, s, k) := zev_go rfl rfl
theorem zr_X2_draw_189 (ls : zLs) (st : List zAV) (s : zAS) (k : Nat × Nat) (r v0 v1 v2 : zAV) (h : zcok zEC 2 0 0 (zR_X2_draw).cells (zR_X2_draw).slots r st k) : zev zk_X2_draw (189, ls, v2 :: v1 :: v0 :: r :: st, s, k) = zret zk_X2_draw 192 ls st (k.1 + 0, k.2 + 0) (m_X2_middle [r, v0, v1, v2] s) := zf_callV (as := [v2, v1, v0]) 3 rfl rfl h
theorem zr_X2_draw_192 (ls : zLs) (s : zAS) (k : Nat × Nat) (x : Int32) (hx : x = 0 ∨ x = 1) : zev zk_X2_draw (192, ls, [Sum.inl (Value.int x)], s, k) = some (.inl (some (Sum.inl (Value.int x))), s) := zf_retz rfl hx
theorem zr_X2_draw_193 (a1 a2 a3 a4 : Option zAV) (st : List zAV) (s : zAS) (k : Nat × Nat) (o : Nat × Nat) : zev zk_X2_draw (193, [some (Sum.inr o), a1, a2, a3, a4], st, s, k) = zev zk_X2_draw (194, [some (Sum.inr o), a1, a2, a3, a4], Sum.inr o :: st, s, k) := zev_go rfl rfl
theorem zr_X2_draw_194 (a0 a2 a3 a4 : Option zAV) (st : List zAV) (s : zAS) (k : Nat × Nat) (o : Nat × Nat) : zev zk_X2_draw (194, [a0, some (Sum.inr o), a2, a3, a4], st, s, k) = zev zk_X2_draw (195, [a0, some (Sum.inr o), a2, a3, a4], Sum.inr o :: st, s, k) := zev_go rfl rfl
theorem zr_X2_draw_195 (a0 a1 a3 a4 : Option zAV) (st : List zAV) (s : zAS) (k : Nat × Nat) (o : Nat × Nat) : zev zk_X2_draw (195, [a0, a1, some (Sum.inr o), a3, a4], st, s, k) = zev zk_X2_draw (196, [a0, a1, some (Sum.inr o), a3, a4], Sum.inr o :: st, s, k) := zev_go rfl rfl
theorem zr_X2_draw_196 (a0 a1 a2 a4 : Option zAV) (st : List zAV) (s : zAS) (k : Nat × Nat) (o : Nat × Nat) : zev zk_X2_draw (196, [a0, a1, a2, some (Sum.inr o), a4], st, s, k) = zev zk_X2_draw (197, [a0, a1, a2, some (Sum.inr o), a4], Sum.inr o :: st, s, k) := zev_go rfl rfl
theorem zr_X2_draw_197 (ls : zLs) (st : List zAV) (s : zAS) (k : Nat × Nat) (r v0 v1 v2 : zAV) (h : zcok zEC 2 0 0 (zR_X2_draw).cells (zR_X2_draw).slots r st k) : zev zk_X2_draw (197, ls, v2 :: v1 :: v0 :: r :: st, s, k) = zret zk_X2_draw 200 ls st (k.1 + 0, k.2 + 0) (m_X2_mirror [r, v0, v1, v2] s) := zf_callV (as := [v2, v1, v0]) 3 rfl rfl h
theorem zr_X2_draw_200 (ls : zLs) (s : zAS) (k : Nat × Nat) (x : Int32) (hx : x = 0 ∨ x = 1) : zev zk_X2_draw (200, ls, [Sum.inl (Value.int x)], s, k) = some (.inl (some (Sum.inl (Value.int x))), s) := zf_retz rfl hx
theorem zr_X2_draw_201 (a1 a2 a3 a4 : Option zAV) (st : List zAV) (s : zAS) (k : Nat × Nat) (o : Nat × Nat) : zev zk_X2_draw (201, [some (Sum.inr o), a1, a2, a3, a4], st, s, k) = zev zk_X2_draw (202, [some (Sum.inr o), a1, a2, a3, a4], Sum.inr o :: st, s, k) := zev_go rfl rfl
theorem zr_X2_draw_202 (a0 a2 a3 a4 : Option zAV) (st : List zAV) (s : zAS) (k : Nat × Nat) (o : Nat × Nat) : zev zk_X2_draw (202, [a0, some (Sum.inr o), a2, a3, a4], st, s, k) = zev zk_X2_draw (203, [a0, some (Sum.inr o), a2, a3, a4], Sum.inr o :: st, s, k) := zev_go rfl rfl
theorem zr_X2_draw_203 (a0 a1 a3 a4 : Option zAV) (st : List zAV) (s : zAS) (k : Nat × Nat) (o : Nat × Nat) : zev zk_X2_draw (203, [a0, a1, some (Sum.inr o), a3, a4], st, s, k) = zev zk_X2_draw (204, [a0, a1, some (Sum.inr o), a3, a4], Sum.inr o :: st, s, k) := zev_go rfl rfl
theorem zr_X2_draw_204 (a0 a1 a2 a4 : Option zAV) (st : List zAV) (s : zAS) (k : Nat × Nat) (o : Nat × Nat) : zev zk_X2_draw (204, [a0, a1, a2, some (Sum.inr o), a4], st, s, k) = zev zk_X2_draw (205, [a0, a1, a2, some (Sum.inr o), a4], Sum.inr o :: st, s, k) := zev_go rfl rfl
theorem zr_X2_draw_205 (ls : zLs) (st : List zAV) (s : zAS) (k : Nat × Nat) (r v0 v1 v2 : zAV) (h : zcok zEC 2 0 0 (zR_X2_draw).cells (zR_X2_draw).slots r st k) : zev zk_X2_draw (205, ls, v2 :: v1 :: v0 :: r :: st, s, k) = zret zk_X2_draw 208 ls st (k.1 + 0, k.2 + 0) (m_X2_lineThrough [r, v0, v1, v2] s) := zf_callV (as := [v2, v1, v0]) 3 rfl rfl h
theorem zr_X2_draw_208 (ls : zLs) (s : zAS) (k : Nat × Nat) (x : Int32) (hx : x = 0 ∨ x = 1) : zev zk_X2_draw (208, ls, [Sum.inl (Value.int x)], s, k) = some (.inl (some (Sum.inl (Value.int x))), s) := zf_retz rfl hx
theorem zr_X2_draw_209 (a1 a2 a3 a4 : Option zAV) (st : List zAV) (s : zAS) (k : Nat × Nat) (o : Nat × Nat) : zev zk_X2_draw (209, [some (Sum.inr o), a1, a2, a3, a4], st, s, k) = zev zk_X2_draw (210, [some (Sum.inr o), a1, a2, a3, a4], Sum.inr o :: st, s, k) := zev_go rfl rfl
theorem zr_X2_draw_210 (a0 a2 a3 a4 : Option zAV) (st : List zAV) (s : zAS) (k : Nat × Nat) (o : Nat × Nat) : zev zk_X2_draw (210, [a0, some (Sum.inr o), a2, a3, a4], st, s, k) = zev zk_X2_draw (211, [a0, some (Sum.inr o), a2, a3, a4], Sum.inr o :: st, s, k) := zev_go rfl rfl
theorem zr_X2_draw_211 (a0 a1 a3 a4 : Option zAV) (st : List zAV) (s : zAS) (k : Nat × Nat) (o : Nat × Nat) : zev zk_X2_draw (211, [a0, a1, some (Sum.inr o), a3, a4], st, s, k) = zev zk_X2_draw (212, [a0, a1, some (Sum.inr o), a3, a4], Sum.inr o :: st, s, k) := zev_go rfl rfl
theorem zr_X2_draw_212 (a0 a1 a2 a4 : Option zAV) (st : List zAV) (s : zAS) (k : Nat × Nat) (o : Nat × Nat) : zev zk_X2_draw (212, [a0, a1, a2, some (Sum.inr o), a4], st, s, k) = zev zk_X2_draw (213, [a0, a1, a2, some (Sum.inr o), a4], Sum.inr o :: st, s, k) := zev_go rfl rfl
theorem zr_X2_draw_213 (ls : zLs) (st : List zAV) (s : zAS) (k : Nat × Nat) (o i : Nat) : zev zk_X2_draw (213, ls, Sum.inr (o, i) :: st, s, k) = zpush zk_X2_draw 216 ls st s k (zgv zEC 4 8 o i s.1) := zf_get rfl
theorem zr_X2_draw_216 (a0 a1 a2 a4 : Option zAV) (st : List zAV) (s : zAS) (k : Nat × Nat) (o : Nat × Nat) : zev zk_X2_draw (216, [a0, a1, a2, some (Sum.inr o), a4], st, s, k) = zev zk_X2_draw (217, [a0, a1, a2, some (Sum.inr o), a4], Sum.inr o :: st, s, k) := zev_go rfl rfl
theorem zr_X2_draw_217 (ls : zLs) (st : List zAV) (s : zAS) (k : Nat × Nat) (o i : Nat) : zev zk_X2_draw (217, ls, Sum.inr (o, i) :: st, s, k) = zpush zk_X2_draw 220 ls st s k (zgv zEC 4 9 o i s.1) := zf_get rfl
theorem zr_X2_draw_220 (ls : zLs) (st : List zAV) (s : zAS) (k : Nat × Nat) (r v0 v1 v2 v3 : zAV) (h : zcok zEC 2 0 0 (zR_X2_draw).cells (zR_X2_draw).slots r st k) : zev zk_X2_draw (220, ls, v3 :: v2 :: v1 :: v0 :: r :: st, s, k) = zret zk_X2_draw 223 ls st (k.1 + 0, k.2 + 0) (m_X2_lineAlong [r, v0, v1, v2, v3] s) := zf_callV (as := [v3, v2, v1, v0]) 4 rfl rfl h
theorem zr_X2_draw_223 (ls : zLs) (s : zAS) (k : Nat × Nat) (x : Int32) (hx : x = 0 ∨ x = 1) : zev zk_X2_draw (223, ls, [Sum.inl (Value.int x)], s, k) = some (.inl (some (Sum.inl (Value.int x))), s) := zf_retz rfl hx
theorem zr_X2_draw_224 (a1 a2 a3 a4 : Option zAV) (st : List zAV) (s : zAS) (k : Nat × Nat) (o : Nat × Nat) : zev zk_X2_draw (224, [some (Sum.inr o), a1, a2, a3, a4], st, s, k) = zev zk_X2_draw (225, [some (Sum.inr o), a1, a2, a3, a4], Sum.inr o :: st, s, k) := zev_go rfl rfl
theorem zr_X2_draw_225 (a0 a2 a3 a4 : Option zAV) (st : List zAV) (s : zAS) (k : Nat × Nat) (o : Nat × Nat) : zev zk_X2_draw (225, [a0, some (Sum.inr o), a2, a3, a4], st, s, k) = zev zk_X2_draw (226, [a0, some (Sum.inr o), a2, a3, a4], Sum.inr o :: st, s, k) := zev_go rfl rfl
theorem zr_X2_draw_226 (a0 a1 a3 a4 : Option zAV) (st : List zAV) (s : zAS) (k : Nat × Nat) (o : Nat × Nat) : zev zk_X2_draw (226, [a0, a1, some (Sum.inr o), a3, a4], st, s, k) = zev zk_X2_draw (227, [a0, a1, some (Sum.inr o), a3, a4], Sum.inr o :: st, s, k) := zev_go rfl rfl
theorem zr_X2_draw_227 (a0 a1 a2 a4 : Option zAV) (st : List zAV) (s : zAS) (k : Nat × Nat) (o : Nat × Nat) : zev zk_X2_draw (227, [a0, a1, a2, some (Sum.inr o), a4], st, s, k) = zev zk_X2_draw (228, [a0, a1, a2, some (Sum.inr o), a4], Sum.inr o :: st, s, k) := zev_go rfl rfl
theorem zr_X2_draw_228 (ls : zLs) (st : List zAV) (s : zAS) (k : Nat × Nat) (o i : Nat) : zev zk_X2_draw (228, ls, Sum.inr (o, i) :: st, s, k) = zpush zk_X2_draw 231 ls st s k (zgv zEC 4 9 o i s.1) := zf_get rfl
theorem zr_X2_draw_231 (ls : zLs) (st : List zAV) (s : zAS) (k : Nat × Nat) (x : Int32) : zev zk_X2_draw (231, ls, Sum.inl (Value.int x) :: st, s, k) = zev zk_X2_draw (232, ls, Sum.inl (Value.int (-x)) :: st, s, k) := zev_go rfl rfl
theorem zr_X2_draw_232 (a0 a1 a2 a4 : Option zAV) (st : List zAV) (s : zAS) (k : Nat × Nat) (o : Nat × Nat) : zev zk_X2_draw (232, [a0, a1, a2, some (Sum.inr o), a4], st, s, k) = zev zk_X2_draw (233, [a0, a1, a2, some (Sum.inr o), a4], Sum.inr o :: st, s, k) := zev_go rfl rfl
theorem zr_X2_draw_233 (ls : zLs) (st : List zAV) (s : zAS) (k : Nat × Nat) (o i : Nat) : zev zk_X2_draw (233, ls, Sum.inr (o, i) :: st, s, k) = zpush zk_X2_draw 236 ls st s k (zgv zEC 4 8 o i s.1) := zf_get rfl
theorem zr_X2_draw_236 (ls : zLs) (st : List zAV) (s : zAS) (k : Nat × Nat) (r v0 v1 v2 v3 : zAV) (h : zcok zEC 2 0 0 (zR_X2_draw).cells (zR_X2_draw).slots r st k) : zev zk_X2_draw (236, ls, v3 :: v2 :: v1 :: v0 :: r :: st, s, k) = zret zk_X2_draw 239 ls st (k.1 + 0, k.2 + 0) (m_X2_lineAlong [r, v0, v1, v2, v3] s) := zf_callV (as := [v3, v2, v1, v0]) 4 rfl rfl h
theorem zr_X2_draw_239 (ls : zLs) (s : zAS) (k : Nat × Nat) (x : Int32) (hx : x = 0 ∨ x = 1) : zev zk_X2_draw (239, ls, [Sum.inl (Value.int x)], s, k) = some (.inl (some (Sum.inl (Value.int x))), s) := zf_retz rfl hx
theorem zr_X2_draw_240 (a1 a2 a3 a4 : Option zAV) (st : List zAV) (s : zAS) (k : Nat × Nat) (o : Nat × Nat) : zev zk_X2_draw (240, [some (Sum.inr o), a1, a2, a3, a4], st, s, k) = zev zk_X2_draw (241, [some (Sum.inr o), a1, a2, a3, a4], Sum.inr o :: st, s, k) := zev_go rfl rfl
theorem zr_X2_draw_241 (a0 a2 a3 a4 : Option zAV) (st : List zAV) (s : zAS) (k : Nat × Nat) (o : Nat × Nat) : zev zk_X2_draw (241, [a0, some (Sum.inr o), a2, a3, a4], st, s, k) = zev zk_X2_draw (242, [a0, some (Sum.inr o), a2, a3, a4], Sum.inr o :: st, s, k) := zev_go rfl rfl
theorem zr_X2_draw_242 (a0 a1 a3 a4 : Option zAV) (st : List zAV) (s : zAS) (k : Nat × Nat) (o : Nat × Nat) : zev zk_X2_draw (242, [a0, a1, some (Sum.inr o), a3, a4], st, s, k) = zev zk_X2_draw (243, [a0, a1, some (Sum.inr o), a3, a4], Sum.inr o :: st, s, k) := zev_go rfl rfl
theorem zr_X2_draw_243 (a0 a1 a2 a4 : Option zAV) (st : List zAV) (s : zAS) (k : Nat × Nat) (o : Nat × Nat) : zev zk_X2_draw (243, [a0, a1, a2, some (Sum.inr o), a4], st, s, k) = zev zk_X2_draw (244, [a0, a1, a2, some (Sum.inr o), a4], Sum.inr o :: st, s, k) := zev_go rfl rfl
theorem zr_X2_draw_244 (ls : zLs) (st : List zAV) (s : zAS) (k : Nat × Nat) (r v0 v1 v2 : zAV) (h : zcok zEC 2 0 0 (zR_X2_draw).cells (zR_X2_draw).slots r st k) : zev zk_X2_draw (244, ls, v2 :: v1 :: v0 :: r :: st, s, k) = zret zk_X2_draw 247 ls st (k.1 + 0, k.2 + 0) (m_X2_lineBetween [r, v0, v1, v2] s) := zf_callV (as := [v2, v1, v0]) 3 rfl rfl h
theorem zr_X2_draw_247 (ls : zLs) (s : zAS) (k : Nat × Nat) (x : Int32) (hx : x = 0 ∨ x = 1) : zev zk_X2_draw (247, ls, [Sum.inl (Value.int x)], s, k) = some (.inl (some (Sum.inl (Value.int x))), s) := zf_retz rfl hx
theorem zr_X2_draw_248 (a1 a2 a3 a4 : Option zAV) (st : List zAV) (s : zAS) (k : Nat × Nat) (o : Nat × Nat) : zev zk_X2_draw (248, [some (Sum.inr o), a1, a2, a3, a4], st, s, k) = zev zk_X2_draw (249, [some (Sum.inr o), a1, a2, a3, a4], Sum.inr o :: st, s, k) := zev_go rfl rfl
theorem zr_X2_draw_249 (a0 a2 a3 a4 : Option zAV) (st : List zAV) (s : zAS) (k : Nat × Nat) (o : Nat × Nat) : zev zk_X2_draw (249, [a0, some (Sum.inr o), a2, a3, a4], st, s, k) = zev zk_X2_draw (250, [a0, some (Sum.inr o), a2, a3, a4], Sum.inr o :: st, s, k) := zev_go rfl rfl
theorem zr_X2_draw_250 (a0 a1 a3 a4 : Option zAV) (st : List zAV) (s : zAS) (k : Nat × Nat) (o : Nat × Nat) : zev zk_X2_draw (250, [a0, a1, some (Sum.inr o), a3, a4], st, s, k) = zev zk_X2_draw (251, [a0, a1, some (Sum.inr o), a3, a4], Sum.inr o :: st, s, k) := zev_go rfl rfl
theorem zr_X2_draw_251 (ls : zLs) (st : List zAV) (s : zAS) (k : Nat × Nat) (o i : Nat) : zev zk_X2_draw (251, ls, Sum.inr (o, i) :: st, s, k) = zpush zk_X2_draw 254 ls st s k (zgv zEC 4 8 o i s.1) := zf_get rfl
theorem zr_X2_draw_254 (a0 a1 a3 a4 : Option zAV) (st : List zAV) (s : zAS) (k : Nat × Nat) (o : Nat × Nat) : zev zk_X2_draw (254, [a0, a1, some (Sum.inr o), a3, a4], st, s, k) = zev zk_X2_draw (255, [a0, a1, some (Sum.inr o), a3, a4], Sum.inr o :: st, s, k) := zev_go rfl rfl
theorem zr_X2_draw_255 (ls : zLs) (st : List zAV) (s : zAS) (k : Nat × Nat) (o i : Nat) : zev zk_X2_draw (255, ls, Sum.inr (o, i) :: st, s, k) = zpush zk_X2_draw 258 ls st s k (zgv zEC 4 9 o i s.1) := zf_get rfl
theorem zr_X2_draw_258 (a1 a2 a3 a4 : Option zAV) (st : List zAV) (s : zAS) (k : Nat × Nat) (o : Nat × Nat) : zev zk_X2_draw (258, [some (Sum.inr o), a1, a2, a3, a4], st, s, k) = zev zk_X2_draw (259, [some (Sum.inr o), a1, a2, a3, a4], Sum.inr o :: st, s, k) := zev_go rfl rfl
theorem zr_X2_draw_259 (a0 a1 a3 a4 : Option zAV) (st : List zAV) (s : zAS) (k : Nat × Nat) (o : Nat × Nat) : zev zk_X2_draw (259, [a0, a1, some (Sum.inr o), a3, a4], st, s, k) = zev zk_X2_draw (260, [a0, a1, some (Sum.inr o), a3, a4], Sum.inr o :: st, s, k) := zev_go rfl rfl
theorem zr_X2_draw_260 (a0 a1 a2 a4 : Option zAV) (st : List zAV) (s : zAS) (k : Nat × Nat) (o : Nat × Nat) : zev zk_X2_draw (260, [a0, a1, a2, some (Sum.inr o), a4], st, s, k) = zev zk_X2_draw (261, [a0, a1, a2, some (Sum.inr o), a4], Sum.inr o :: st, s, k) := zev_go rfl rfl
theorem zr_X2_draw_261 (ls : zLs) (st : List zAV) (s : zAS) (k : Nat × Nat) (r v0 v1 : zAV) (h : zcok zEC 2 0 0 (zR_X2_draw).cells (zR_X2_draw).slots r st k) : zev zk_X2_draw (261, ls, v1 :: v0 :: r :: st, s, k) = zret zk_X2_draw 264 ls st (k.1 + 0, k.2 + 0) (m_X2_squareOf [r, v0, v1] s) := zf_callV (as := [v1, v0]) 2 rfl rfl h
theorem zr_X2_draw_264 (ls : zLs) (st : List zAV) (s : zAS) (k : Nat × Nat) (r v0 v1 v2 v3 : zAV) (h : zcok zEC 2 0 0 (zR_X2_draw).cells (zR_X2_draw).slots r st k) : zev zk_X2_draw (264, ls, v3 :: v2 :: v1 :: v0 :: r :: st, s, k) = zret zk_X2_draw 267 ls st (k.1 + 0, k.2 + 0) (m_X2_putCircle [r, v0, v1, v2, v3] s) := zf_callV (as := [v3, v2, v1, v0]) 4 rfl rfl h
theorem zr_X2_draw_267 (ls : zLs) (s : zAS) (k : Nat × Nat) (x : Int32) (hx : x = 0 ∨ x = 1) : zev zk_X2_draw (267, ls, [Sum.inl (Value.int x)], s, k) = some (.inl (some (Sum.inl (Value.int x))), s) := zf_retz rfl hx
theorem zr_X2_draw_268 (a1 a2 a3 a4 : Option zAV) (st : List zAV) (s : zAS) (k : Nat × Nat) (o : Nat × Nat) : zev zk_X2_draw (268, [some (Sum.inr o), a1, a2, a3, a4], st, s, k) = zev zk_X2_draw (269, [some (Sum.inr o), a1, a2, a3, a4], Sum.inr o :: st, s, k) := zev_go rfl rfl
theorem zr_X2_draw_269 (a0 a2 a3 a4 : Option zAV) (st : List zAV) (s : zAS) (k : Nat × Nat) (o : Nat × Nat) : zev zk_X2_draw (269, [a0, some (Sum.inr o), a2, a3, a4], st, s, k) = zev zk_X2_draw (270, [a0, some (Sum.inr o), a2, a3, a4], Sum.inr o :: st, s, k) := zev_go rfl rfl
theorem zr_X2_draw_270 (a0 a1 a3 a4 : Option zAV) (st : List zAV) (s : zAS) (k : Nat × Nat) (o : Nat × Nat) : zev zk_X2_draw (270, [a0, a1, some (Sum.inr o), a3, a4], st, s, k) = zev zk_X2_draw (271, [a0, a1, some (Sum.inr o), a3, a4], Sum.inr o :: st, s, k) := zev_go rfl rfl
theorem zr_X2_draw_271 (ls : zLs) (st : List zAV) (s : zAS) (k : Nat × Nat) (o i : Nat) : zev zk_X2_draw (271, ls, Sum.inr (o, i) :: st, s, k) = zpush zk_X2_draw 274 ls st s k (zgv zEC 4 8 o i s.1) := zf_get rfl
theorem zr_X2_draw_274 (a0 a1 a3 a4 : Option zAV) (st : List zAV) (s : zAS) (k : Nat × Nat) (o : Nat × Nat) : zev zk_X2_draw (274, [a0, a1, some (Sum.inr o), a3, a4], st, s, k) = zev zk_X2_draw (275, [a0, a1, some (Sum.inr o), a3, a4], Sum.inr o :: st, s, k) := zev_go rfl rfl
theorem zr_X2_draw_275 (ls : zLs) (st : List zAV) (s : zAS) (k : Nat × Nat) (o i : Nat) : zev zk_X2_draw (275, ls, Sum.inr (o, i) :: st, s, k) = zpush zk_X2_draw 278 ls st s k (zgv zEC 4 9 o i s.1) := zf_get rfl
theorem zr_X2_draw_278 (a1 a2 a3 a4 : Option zAV) (st : List zAV) (s : zAS) (k : Nat × Nat) (o : Nat × Nat) : zev zk_X2_draw (278, [some (Sum.inr o), a1, a2, a3, a4], st, s, k) = zev zk_X2_draw (279, [some (Sum.inr o), a1, a2, a3, a4], Sum.inr o :: st, s, k) := zev_go rfl rfl
theorem zr_X2_draw_279 (a0 a1 a2 a4 : Option zAV) (st : List zAV) (s : zAS) (k : Nat × Nat) (o : Nat × Nat) : zev zk_X2_draw (279, [a0, a1, a2, some (Sum.inr o), a4], st, s, k) = zev zk_X2_draw (280, [a0, a1, a2, some (Sum.inr o), a4], Sum.inr o :: st, s, k) := zev_go rfl rfl
theorem zr_X2_draw_280 (a0 a1 a2 a3 : Option zAV) (st : List zAV) (s : zAS) (k : Nat × Nat) (o : Nat × Nat) : zev zk_X2_draw (280, [a0, a1, a2, a3, some (Sum.inr o)], st, s, k) = zev zk_X2_draw (282, [a0, a1, a2, a3, some (Sum.inr o)], Sum.inr o :: st, s, k) := zev_go rfl rfl
theorem zr_X2_draw_282 (ls : zLs) (st : List zAV) (s : zAS) (k : Nat × Nat) (r v0 v1 : zAV) (h : zcok zEC 2 0 0 (zR_X2_draw).cells (zR_X2_draw).slots r st k) : zev zk_X2_draw (282, ls, v1 :: v0 :: r :: st, s, k) = zret zk_X2_draw 285 ls st (k.1 + 0, k.2 + 0) (m_X2_squareOf [r, v0, v1] s) := zf_callV (as := [v1, v0]) 2 rfl rfl h
theorem zr_X2_draw_285 (ls : zLs) (st : List zAV) (s : zAS) (k : Nat × Nat) (r v0 v1 v2 v3 : zAV) (h : zcok zEC 2 0 0 (zR_X2_draw).cells (zR_X2_draw).slots r st k) : zev zk_X2_draw (285, ls, v3 :: v2 :: v1 :: v0 :: r :: st, s, k) = zret zk_X2_draw 288 ls st (k.1 + 0, k.2 + 0) (m_X2_putCircle [r, v0, v1, v2, v3] s) := zf_callV (as := [v3, v2, v1, v0]) 4 rfl rfl h
theorem zr_X2_draw_288 (ls : zLs) (s : zAS) (k : Nat × Nat) (x : Int32) (hx : x = 0 ∨ x = 1) : zev zk_X2_draw (288, ls, [Sum.inl (Value.int x)], s, k) = some (.inl (some (Sum.inl (Value.int x))), s) := zf_retz rfl hx
theorem zr_X2_draw_289 (a1 a2 a3 a4 : Option zAV) (st : List zAV) (s : zAS) (k : Nat × Nat) (o : Nat × Nat) : zev zk_X2_draw (289, [some (Sum.inr o), a1, a2, a3, a4], st, s, k) = zev zk_X2_draw (290, [some (Sum.inr o), a1, a2, a3, a4], Sum.inr o :: st, s, k) := zev_go rfl rfl
theorem zr_X2_draw_290 (a0 a2 a3 a4 : Option zAV) (st : List zAV) (s : zAS) (k : Nat × Nat) (o : Nat × Nat) : zev zk_X2_draw (290, [a0, some (Sum.inr o), a2, a3, a4], st, s, k) = zev zk_X2_draw (291, [a0, some (Sum.inr o), a2, a3, a4], Sum.inr o :: st, s, k) := zev_go rfl rfl
theorem zr_X2_draw_291 (a0 a1 a3 a4 : Option zAV) (st : List zAV) (s : zAS) (k : Nat × Nat) (o : Nat × Nat) : zev zk_X2_draw (291, [a0, a1, some (Sum.inr o), a3, a4], st, s, k) = zev zk_X2_draw (292, [a0, a1, some (Sum.inr o), a3, a4], Sum.inr o :: st, s, k) := zev_go rfl rfl
theorem zr_X2_draw_292 (a0 a1 a2 a4 : Option zAV) (st : List zAV) (s : zAS) (k : Nat × Nat) (o : Nat × Nat) : zev zk_X2_draw (292, [a0, a1, a2, some (Sum.inr o), a4], st, s, k) = zev zk_X2_draw (293, [a0, a1, a2, some (Sum.inr o), a4], Sum.inr o :: st, s, k) := zev_go rfl rfl
theorem zr_X2_draw_293 (a0 a1 a2 a3 : Option zAV) (st : List zAV) (s : zAS) (k : Nat × Nat) (o : Nat × Nat) : zev zk_X2_draw (293, [a0, a1, a2, a3, some (Sum.inr o)], st, s, k) = zev zk_X2_draw (295, [a0, a1, a2, a3, some (Sum.inr o)], Sum.inr o :: st, s, k) := zev_go rfl rfl
theorem zr_X2_draw_295 (ls : zLs) (st : List zAV) (s : zAS) (k : Nat × Nat) (r v0 v1 v2 v3 : zAV) (h : zcok zEC 2 0 0 (zR_X2_draw).cells (zR_X2_draw).slots r st k) : zev zk_X2_draw (295, ls, v3 :: v2 :: v1 :: v0 :: r :: st, s, k) = zret zk_X2_draw 298 ls st (k.1 + 0, k.2 + 0) (m_X2_circleThrough [r, v0, v1, v2, v3] s) := zf_callV (as := [v3, v2, v1, v0]) 4 rfl rfl h
theorem zr_X2_draw_298 (ls : zLs) (s : zAS) (k : Nat × Nat) (x : Int32) (hx : x = 0 ∨ x = 1) : zev zk_X2_draw (298, ls, [Sum.inl (Value.int x)], s, k) = some (.inl (some (Sum.inl (Value.int x))), s) := zf_retz rfl hx
theorem zr_X2_draw_299 (ls : zLs) (st : List zAV) (s : zAS) (k : Nat × Nat) : zev zk_X2_draw (299, ls, st, s, k) = zev zk_X2_draw (300, ls, Sum.inl (Value.int (0)) :: st, s, k) := zev_go rfl rfl
theorem zr_X2_draw_300 (ls : zLs) (s : zAS) (k : Nat × Nat) (x : Int32) (hx : x = 0 ∨ x = 1) : zev zk_X2_draw (300, ls, [Sum.inl (Value.int x)], s, k) = some (.inl (some (Sum.inl (Value.int x))), s) := zf_retz rfl hx
