/-! X5_isOnCircle: PrimePlane$Judge.isOnCircle(LPrimePlane$Figure;LPrimePlane$Figure;)Z -/
abbrev zR_X5_isOnCircle : Room := ({ frames := 3, cells := 0, slots := 0, locals := 67 } : Room)
noncomputable def zl_X5_isOnCircle : List (Nat × zOp) := [(0, z_lda 0 1), (1, z_get zEC 5 0 4), (4, z_lda 1 5), (5, z_lda 2 6), (6, z_callV zEC 2 m_X2_squareOf 2 0 0 (zR_X5_isOnCircle).cells (zR_X5_isOnCircle).slots 9), (9, z_lda 2 10), (10, z_get zEC 4 10 13), (13, z_cmp (fun x y => decide (¬ x = y)) 20 16), (16, z_ic (1) 17), (17, z_goto 21), (20, z_ic (0) 21), (21, z_reti true)]
noncomputable def zk_X5_isOnCircle (pc : Nat) : Option zOp := zlook zl_X5_isOnCircle pc
noncomputable def m_X5_isOnCircle : List zAV → zAS → Option zOut := zmeth zk_X5_isOnCircle 3
set_option maxRecDepth 100000 in
set_option maxHeartbeats 4000000 in
theorem zcs_X5_isOnCircle {R : Room} (hR : R = zR_X5_isOnCircle) : ∀ q ∈ zl_X5_isOnCircle, zS zEC yX5_isOnCircle.cls cX5_isOnCircle 3 wsX5_isOnCircle (some .boolean) R q.1 q.2 := by
  subst hR
  have hin4 : ∀ w ∈ wsX40, w ∈ wsX5_isOnCircle := fun w h => List.mem_cons_of_mem _ (List.mem_append_left _ (List.mem_append_left _ (List.mem_append_right _ h)))
  have hin5 : ∀ w ∈ wsX50, w ∈ wsX5_isOnCircle := fun w h => List.mem_cons_of_mem _ (List.mem_append_left _ (List.mem_append_left _ (List.mem_append_left _ (List.mem_append_right _ h))))
  refine List.forall_mem_cons.mpr ⟨zs_aload_n dX5_isOnCircle_0 rfl, ?_⟩
  refine List.forall_mem_cons.mpr ⟨zs_get (ci := 5) (j := 0) (N := 4) (C := RX5) (T := TX5) (index := 12) rfl (by decide) hin5 (List.mem_of_getElem? (i := 1) rfl) dX5_isOnCircle_1, ?_⟩
  refine List.forall_mem_cons.mpr ⟨zs_aload_n dX5_isOnCircle_4 rfl, ?_⟩
  refine List.forall_mem_cons.mpr ⟨zs_aload_n dX5_isOnCircle_5 rfl, ?_⟩
  refine List.forall_mem_cons.mpr ⟨zs_callV (ci := 2) (rm := zR_X2_squareOf) (n := 2) rfl zM_X2_squareOf gX5_isOnCircle_X2_squareOf rfl (by decide +kernel) ⟨by decide, by decide⟩ dX5_isOnCircle_6, ?_⟩
  refine List.forall_mem_cons.mpr ⟨zs_aload_n dX5_isOnCircle_9 rfl, ?_⟩
  refine List.forall_mem_cons.mpr ⟨zs_get (ci := 4) (j := 10) (N := 13) (C := RX4) (T := TX4) (index := 73) rfl (by decide) hin4 (List.mem_of_getElem? (i := 2) rfl) dX5_isOnCircle_10, ?_⟩
  refine List.forall_mem_cons.mpr ⟨zs_icne dX5_isOnCircle_13 (by decide), ?_⟩
  refine List.forall_mem_cons.mpr ⟨zs_iconst dX5_isOnCircle_16 (by decide), ?_⟩
  refine List.forall_mem_cons.mpr ⟨zs_goto dX5_isOnCircle_17 (by decide), ?_⟩
  refine List.forall_mem_cons.mpr ⟨zs_iconst dX5_isOnCircle_20 (by decide), ?_⟩
  refine List.forall_mem_cons.mpr ⟨zs_reti (ty := .boolean) rfl (fun x h => (znz x h).1) dX5_isOnCircle_21, ?_⟩
  exact fun _ h => absurd h List.not_mem_nil
theorem zM_X5_isOnCircle : zMeets zEC yX5_isOnCircle wsX5_isOnCircle zR_X5_isOnCircle m_X5_isOnCircle := zmeth_M zECok (zlook_all (zcs_X5_isOnCircle rfl)) (by decide +kernel) rfl
theorem zr_X5_isOnCircle_0 (a1 a2 : Option zAV) (st : List zAV) (s : zAS) (k : Nat × Nat) (o : Nat × Nat) : zev zk_X5_isOnCircle (0, [some (Sum.inr o), a1, a2], st, s, k) = zev zk_X5_isOnCircle (1, [some (Sum.inr o), a1, a2], Sum.inr o :: st, s, k) := zev_go rfl rfl
theorem zr_X5_isOnCircle_1 (ls : zLs) (st : List zAV) (s : zAS) (k : Nat × Nat) (o i : Nat) : zev zk_X5_isOnCircle (1, ls, Sum.inr (o, i) :: st, s, k) = zpush zk_X5_isOnCircle 4 ls st s k (zgv zEC 5 0 o i s.1) := zf_get rfl
theorem zr_X5_isOnCircle_4 (a0 a2 : Option zAV) (st : List zAV) (s : zAS) (k : Nat × Nat) (o : Nat × Nat) : zev zk_X5_isOnCircle (4, [a0, some (Sum.inr o), a2], st, s, k) = zev zk_X5_isOnCircle (5, [a0, some (Sum.inr o), a2], Sum.inr o :: st, s, k) := zev_go rfl rfl
theorem zr_X5_isOnCircle_5 (a0 a1 : Option zAV) (st : List zAV) (s : zAS) (k : Nat × Nat) (o : Nat × Nat) : zev zk_X5_isOnCircle (5, [a0, a1, some (Sum.inr o)], st, s, k) = zev zk_X5_isOnCircle (6, [a0, a1, some (Sum.inr o)], Sum.inr o :: st, s, k) := zev_go rfl rfl
theorem zr_X5_isOnCircle_6 (ls : zLs) (st : List zAV) (s : zAS) (k : Nat × Nat) (r v0 v1 : zAV) (h : zcok zEC 2 0 0 (zR_X5_isOnCircle).cells (zR_X5_isOnCircle).slots r st k) : zev zk_X5_isOnCircle (6, ls, v1 :: v0 :: r :: st, s, k) = zret zk_X5_isOnCircle 9 ls st (k.1 + 0, k.2 + 0) (m_X2_squareOf [r, v0, v1] s) := zf_callV (as := [v1, v0]) 2 rfl rfl h
theorem zr_X5_isOnCircle_9 (a0 a1 : Option zAV) (st : List zAV) (s : zAS) (k : Nat × Nat) (o : Nat × Nat) : zev zk_X5_isOnCircle (9, [a0, a1, some (Sum.inr o)], st, s, k) = zev zk_X5_isOnCircle (10, [a0, a1, some (Sum.inr o)], Sum.inr o :: st, s, k) := zev_go rfl rfl
theorem zr_X5_isOnCircle_10 (ls : zLs) (st : List zAV) (s : zAS) (k : Nat × Nat) (o i : Nat) : zev zk_X5_isOnCircle (10, ls, Sum.inr (o, i) :: st, s, k) = zpush zk_X5_isOnCircle 13 ls st s k (zgv zEC 4 10 o i s.1) := zf_get rfl
theorem zr_X5_isOnCircle_13 (ls : zLs) (st : List zAV) (s : zAS) (k : Nat × Nat) (x y : Int32) : zev zk_X5_isOnCircle (13, ls, Sum.inl (Value.int y) :: Sum.inl (Value.int x) :: st, s, k) = if decide (¬ x = y) = true then zev zk_X5_isOnCircle (20, ls, st, s, k) else zev zk_X5_isOnCircle (16, ls, st, s, k) := zf_cmp (f := fun x y => decide (¬ x = y)) rfl
theorem zr_X5_isOnCircle_16 (ls : zLs) (st : List zAV) (s : zAS) (k : Nat × Nat) : zev zk_X5_isOnCircle (16, ls, st, s, k) = zev zk_X5_isOnCircle (17, ls, Sum.inl (Value.int (1)) :: st, s, k) := zev_go rfl rfl
theorem zr_X5_isOnCircle_17 (ls : zLs) (st : List zAV) (s : zAS) (k : Nat × Nat) : zev zk_X5_isOnCircle (17, ls, st, s, k) = zev zk_X5_isOnCircle (21, ls, st, s, k) := zev_go rfl rfl
theorem zr_X5_isOnCircle_20 (ls : zLs) (st : List zAV) (s : zAS) (k : Nat × Nat) : zev zk_X5_isOnCircle (20, ls, st, s, k) = zev zk_X5_isOnCircle (21, ls, Sum.inl (Value.int (0)) :: st, s, k) := zev_go rfl rfl
theorem zr_X5_isOnCircle_21 (ls : zLs) (s : zAS) (k : Nat × Nat) (x : Int32) (hx : x = 0 ∨ x = 1) : zev zk_X5_isOnCircle (21, ls, [Sum.inl (Value.int x)], s, k) = some (.inl (some (Sum.inl (Value.int x))), s) := zf_retz rfl hx
/-! X5_areInLine: PrimePlane$Judge.areInLine(LPrimePlane$Figure;LPrimePlane$Figure;LPrimePlane$Figure;)Z -/
abbrev zR_X5_areInLine : Room := ({ frames := 2, cells := 0, slots := 0, locals := 43 } : Room)
noncomputable def zl_X5_areInLine : List (Nat × zOp) := [(0, z_lda 0 1), (1, z_get zEC 5 1 4), (4, z_lda 2 5), (5, z_get zEC 4 8 8), (8, z_lda 1 9), (9, z_get zEC 4 8 12), (12, z_bin (fun x y => x - y) 13), (13, z_lda 3 14), (14, z_get zEC 4 9 17), (17, z_lda 1 18), (18, z_get zEC 4 9 21), (21, z_bin (fun x y => x - y) 22), (22, z_bin (fun x y => x * y) 23), (23, z_lda 3 24), (24, z_get zEC 4 8 27), (27, z_lda 1 28), (28, z_get zEC 4 8 31), (31, z_bin (fun x y => x - y) 32), (32, z_lda 2 33), (33, z_get zEC 4 9 36), (36, z_lda 1 37), (37, z_get zEC 4 9 40), (40, z_bin (fun x y => x - y) 41), (41, z_bin (fun x y => x * y) 42), (42, z_bin (fun x y => x - y) 43), (43, z_callV zEC 3 m_X3_rest 1 0 0 (zR_X5_areInLine).cells (zR_X5_areInLine).slots 46), (46, z_if (fun x => decide (¬ x = 0)) 53 49), (49, z_ic (1) 50), (50, z_goto 54), (53, z_ic (0) 54), (54, z_reti true)]
noncomputable def zk_X5_areInLine (pc : Nat) : Option zOp := zlook zl_X5_areInLine pc
noncomputable def m_X5_areInLine : List zAV → zAS → Option zOut := zmeth zk_X5_areInLine 4
set_option maxRecDepth 100000 in
set_option maxHeartbeats 4000000 in
theorem zcs_X5_areInLine {R : Room} (hR : R = zR_X5_areInLine) : ∀ q ∈ zl_X5_areInLine, zS zEC yX5_areInLine.cls cX5_areInLine 4 wsX5_areInLine (some .boolean) R q.1 q.2 := by
  subst hR
  have hin4 : ∀ w ∈ wsX40, w ∈ wsX5_areInLine := fun w h => List.mem_cons_of_mem _ (List.mem_append_left _ (List.mem_append_right _ h))
  have hin5 : ∀ w ∈ wsX50, w ∈ wsX5_areInLine := fun w h => List.mem_cons_of_mem _ (List.mem_append_left _ (List.mem_append_left _ (List.mem_append_right _ h)))
  refine List.forall_mem_cons.mpr ⟨zs_aload_n dX5_areInLine_0 rfl, ?_⟩
  refine List.forall_mem_cons.mpr ⟨zs_get (ci := 5) (j := 1) (N := 4) (C := RX5) (T := TX5) (index := 22) rfl (by decide) hin5 (List.mem_of_getElem? (i := 1) rfl) dX5_areInLine_1, ?_⟩
  refine List.forall_mem_cons.mpr ⟨zs_aload_n dX5_areInLine_4 rfl, ?_⟩
  refine List.forall_mem_cons.mpr ⟨zs_get (ci := 4) (j := 8) (N := 13) (C := RX4) (T := TX4) (index := 50) rfl (by decide) hin4 (List.mem_of_getElem? (i := 2) rfl) dX5_areInLine_5, ?_⟩
  refine List.forall_mem_cons.mpr ⟨zs_aload_n dX5_areInLine_8 rfl, ?_⟩
  refine List.forall_mem_cons.mpr ⟨zs_get (ci := 4) (j := 8) (N := 13) (C := RX4) (T := TX4) (index := 50) rfl (by decide) hin4 (List.mem_of_getElem? (i := 2) rfl) dX5_areInLine_9, ?_⟩
  refine List.forall_mem_cons.mpr ⟨zs_isub dX5_areInLine_12, ?_⟩
  refine List.forall_mem_cons.mpr ⟨zs_aload_n dX5_areInLine_13 rfl, ?_⟩
  refine List.forall_mem_cons.mpr ⟨zs_get (ci := 4) (j := 9) (N := 13) (C := RX4) (T := TX4) (index := 54) rfl (by decide) hin4 (List.mem_of_getElem? (i := 3) rfl) dX5_areInLine_14, ?_⟩
  refine List.forall_mem_cons.mpr ⟨zs_aload_n dX5_areInLine_17 rfl, ?_⟩
  refine List.forall_mem_cons.mpr ⟨zs_get (ci := 4) (j := 9) (N := 13) (C := RX4) (T := TX4) (index := 54) rfl (by decide) hin4 (List.mem_of_getElem? (i := 3) rfl) dX5_areInLine_18, ?_⟩
  refine List.forall_mem_cons.mpr ⟨zs_isub dX5_areInLine_21, ?_⟩
  refine List.forall_mem_cons.mpr ⟨zs_imul dX5_areInLine_22, ?_⟩
  refine List.forall_mem_cons.mpr ⟨zs_aload_n dX5_areInLine_23 rfl, ?_⟩
  refine List.forall_mem_cons.mpr ⟨zs_get (ci := 4) (j := 8) (N := 13) (C := RX4) (T := TX4) (index := 50) rfl (by decide) hin4 (List.mem_of_getElem? (i := 2) rfl) dX5_areInLine_24, ?_⟩
  refine List.forall_mem_cons.mpr ⟨zs_aload_n dX5_areInLine_27 rfl, ?_⟩
  refine List.forall_mem_cons.mpr ⟨zs_get (ci := 4) (j := 8) (N := 13) (C := RX4) (T := TX4) (index := 50) rfl (by decide) hin4 (List.mem_of_getElem? (i := 2) rfl) dX5_areInLine_28, ?_⟩
  refine List.forall_mem_cons.mpr ⟨zs_isub dX5_areInLine_31, ?_⟩
  refine List.forall_mem_cons.mpr ⟨zs_aload_n dX5_areInLine_32 rfl, ?_⟩
  refine List.forall_mem_cons.mpr ⟨zs_get (ci := 4) (j := 9) (N := 13) (C := RX4) (T := TX4) (index := 54) rfl (by decide) hin4 (List.mem_of_getElem? (i := 3) rfl) dX5_areInLine_33, ?_⟩
  refine List.forall_mem_cons.mpr ⟨zs_aload_n dX5_areInLine_36 rfl, ?_⟩
  refine List.forall_mem_cons.mpr ⟨zs_get (ci := 4) (j := 9) (N := 13) (C := RX4) (T := TX4) (index := 54) rfl (by decide) hin4 (List.mem_of_getElem? (i := 3) rfl) dX5_areInLine_37, ?_⟩
  refine List.forall_mem_cons.mpr ⟨zs_isub dX5_areInLine_40, ?_⟩
  refine List.forall_mem_cons.mpr ⟨zs_imul dX5_areInLine_41, ?_⟩
  refine List.forall_mem_cons.mpr ⟨zs_isub dX5_areInLine_42, ?_⟩
  refine List.forall_mem_cons.mpr ⟨zs_callV (ci := 3) (rm := zR_X3_rest) (n := 1) rfl zM_X3_rest gX5_areInLine_X3_rest rfl (by decide +kernel) ⟨by decide, by decide⟩ dX5_areInLine_43, ?_⟩
  refine List.forall_mem_cons.mpr ⟨zs_ifne dX5_areInLine_46 (by decide), ?_⟩
  refine List.forall_mem_cons.mpr ⟨zs_iconst dX5_areInLine_49 (by decide), ?_⟩
  refine List.forall_mem_cons.mpr ⟨zs_goto dX5_areInLine_50 (by decide), ?_⟩
  refine List.forall_mem_cons.mpr ⟨zs_iconst dX5_areInLine_53 (by decide), ?_⟩
  refine List.forall_mem_cons.mpr ⟨zs_reti (ty := .boolean) rfl (fun x h => (znz x h).1) dX5_areInLine_54, ?_⟩
  exact fun _ h => absurd h List.not_mem_nil
theorem zM_X5_areInLine : zMeets zEC yX5_areInLine wsX5_areInLine zR_X5_areInLine m_X5_areInLine := zmeth_M zECok (zlook_all (zcs_X5_areInLine rfl)) (by decide +kernel) rfl
theorem zr_X5_areInLine_0 (a1 a2 a3 : Option zAV) (st : List zAV) (s : zAS) (k : Nat × Nat) (o : Nat × Nat) : zev zk_X5_areInLine (0, [some (Sum.inr o), a1, a2, a3], st, s, k) = zev zk_X5_areInLine (1, [some (Sum.inr o), a1, a2, a3], Sum.inr o :: st, s, k) := zev_go rfl rfl
theorem zr_X5_areInLine_1 (ls : zLs) (st : List zAV) (s : zAS) (k : Nat × Nat) (o i : Nat) : zev zk_X5_areInLine (1, ls, Sum.inr (o, i) :: st, s, k) = zpush zk_X5_areInLine 4 ls st s k (zgv zEC 5 1 o i s.1) := zf_get rfl
theorem zr_X5_areInLine_4 (a0 a1 a3 : Option zAV) (st : List zAV) (s : zAS) (k : Nat × Nat) (o : Nat × Nat) : zev zk_X5_areInLine (4, [a0, a1, some (Sum.inr o), a3], st, s, k) = zev zk_X5_areInLine (5, [a0, a1, some (Sum.inr o), a3], Sum.inr o :: st, s, k) := zev_go rfl rfl
theorem zr_X5_areInLine_5 (ls : zLs) (st : List zAV) (s : zAS) (k : Nat × Nat) (o i : Nat) : zev zk_X5_areInLine (5, ls, Sum.inr (o, i) :: st, s, k) = zpush zk_X5_areInLine 8 ls st s k (zgv zEC 4 8 o i s.1) := zf_get rfl
theorem zr_X5_areInLine_8 (a0 a2 a3 : Option zAV) (st : List zAV) (s : zAS) (k : Nat × Nat) (o : Nat × Nat) : zev zk_X5_areInLine (8, [a0, some (Sum.inr o), a2, a3], st, s, k) = zev zk_X5_areInLine (9, [a0, some (Sum.inr o), a2, a3], Sum.inr o :: st, s, k) := zev_go rfl rfl
theorem zr_X5_areInLine_9 (ls : zLs) (st : List zAV) (s : zAS) (k : Nat × Nat) (o i : Nat) : zev zk_X5_areInLine (9, ls, Sum.inr (o, i) :: st, s, k) = zpush zk_X5_areInLine 12 ls st s k (zgv zEC 4 8 o i s.1) := zf_get rfl
theorem zr_X5_areInLine_12 (ls : zLs) (st : List zAV) (s : zAS) (k : Nat × Nat) (x y : Int32) : zev zk_X5_areInLine (12, ls, Sum.inl (Value.int y) :: Sum.inl (Value.int x) :: st, s, k) = zev zk_X5_areInLine (13, ls, Sum.inl (Value.int (x - y)) :: st, s, k) := zev_go rfl rfl
theorem zr_X5_areInLine_13 (a0 a1 a2 : Option zAV) (st : List zAV) (s : zAS) (k : Nat × Nat) (o : Nat × Nat) : zev zk_X5_areInLine (13, [a0, a1, a2, some (Sum.inr o)], st, s, k) = zev zk_X5_areInLine (14, [a0, a1, a2, some (Sum.inr o)], Sum.inr o :: st, s, k) := zev_go rfl rfl
theorem zr_X5_areInLine_14 (ls : zLs) (st : List zAV) (s : zAS) (k : Nat × Nat) (o i : Nat) : zev zk_X5_areInLine (14, ls, Sum.inr (o, i) :: st, s, k) = zpush zk_X5_areInLine 17 ls st s k (zgv zEC 4 9 o i s.1) := zf_get rfl
theorem zr_X5_areInLine_17 (a0 a2 a3 : Option zAV) (st : List zAV) (s : zAS) (k : Nat × Nat) (o : Nat × Nat) : zev zk_X5_areInLine (17, [a0, some (Sum.inr o), a2, a3], st, s, k) = zev zk_X5_areInLine (18, [a0, some (Sum.inr o), a2, a3], Sum.inr o :: st, s, k) := zev_go rfl rfl
theorem zr_X5_areInLine_18 (ls : zLs) (st : List zAV) (s : zAS) (k : Nat × Nat) (o i : Nat) : zev zk_X5_areInLine (18, ls, Sum.inr (o, i) :: st, s, k) = zpush zk_X5_areInLine 21 ls st s k (zgv zEC 4 9 o i s.1) := zf_get rfl
theorem zr_X5_areInLine_21 (ls : zLs) (st : List zAV) (s : zAS) (k : Nat × Nat) (x y : Int32) : zev zk_X5_areInLine (21, ls, Sum.inl (Value.int y) :: Sum.inl (Value.int x) :: st, s, k) = zev zk_X5_areInLine (22, ls, Sum.inl (Value.int (x - y)) :: st, s, k) := zev_go rfl rfl
theorem zr_X5_areInLine_22 (ls : zLs) (st : List zAV) (s : zAS) (k : Nat × Nat) (x y : Int32) : zev zk_X5_areInLine (22, ls, Sum.inl (Value.int y) :: Sum.inl (Value.int x) :: st, s, k) = zev zk_X5_areInLine (23, ls, Sum.inl (Value.int (x * y)) :: st, s, k) := zev_go rfl rfl
theorem zr_X5_areInLine_23 (a0 a1 a2 : Option zAV) (st : List zAV) (s : zAS) (k : Nat × Nat) (o : Nat × Nat) : zev zk_X5_areInLine (23, [a0, a1, a2, some (Sum.inr o)], st, s, k) = zev zk_X5_areInLine (24, [a0, a1, a2, some (Sum.inr o)], Sum.inr o :: st, s, k) := zev_go rfl rfl
theorem zr_X5_areInLine_24 (ls : zLs) (st : List zAV) (s : zAS) (k : Nat × Nat) (o i : Nat) : zev zk_X5_areInLine (24, ls, Sum.inr (o, i) :: st, s, k) = zpush zk_X5_areInLine 27 ls st s k (zgv zEC 4 8 o i s.1) := zf_get rfl
theorem zr_X5_areInLine_27 (a0 a2 a3 : Option zAV) (st : List zAV) (s : zAS) (k : Nat × Nat) (o : Nat × Nat) : zev zk_X5_areInLine (27, [a0, some (Sum.inr o), a2, a3], st, s, k) = zev zk_X5_areInLine (28, [a0, some (Sum.inr o), a2, a3], Sum.inr o :: st, s, k) := zev_go rfl rfl
theorem zr_X5_areInLine_28 (ls : zLs) (st : List zAV) (s : zAS) (k : Nat × Nat) (o i : Nat) : zev zk_X5_areInLine (28, ls, Sum.inr (o, i) :: st, s, k) = zpush zk_X5_areInLine 31 ls st s k (zgv zEC 4 8 o i s.1) := zf_get rfl
theorem zr_X5_areInLine_31 (ls : zLs) (st : List zAV) (s : zAS) (k : Nat × Nat) (x y : Int32) : zev zk_X5_areInLine (31, ls, Sum.inl (Value.int y) :: Sum.inl (Value.int x) :: st, s, k) = zev zk_X5_areInLine (32, ls, Sum.inl (Value.int (x - y)) :: st, s, k) := zev_go rfl rfl
theorem zr_X5_areInLine_32 (a0 a1 a3 : Option zAV) (st : List zAV) (s : zAS) (k : Nat × Nat) (o : Nat × Nat) : zev zk_X5_areInLine (32, [a0, a1, some (Sum.inr o), a3], st, s, k) = zev zk_X5_areInLine (33, [a0, a1, some (Sum.inr o), a3], Sum.inr o :: st, s, k) := zev_go rfl rfl
theorem zr_X5_areInLine_33 (ls : zLs) (st : List zAV) (s : zAS) (k : Nat × Nat) (o i : Nat) : zev zk_X5_areInLine (33, ls, Sum.inr (o, i) :: st, s, k) = zpush zk_X5_areInLine 36 ls st s k (zgv zEC 4 9 o i s.1) := zf_get rfl
theorem zr_X5_areInLine_36 (a0 a2 a3 : Option zAV) (st : List zAV) (s : zAS) (k : Nat × Nat) (o : Nat × Nat) : zev zk_X5_areInLine (36, [a0, some (Sum.inr o), a2, a3], st, s, k) = zev zk_X5_areInLine (37, [a0, some (Sum.inr o), a2, a3], Sum.inr o :: st, s, k) := zev_go rfl rfl
theorem zr_X5_areInLine_37 (ls : zLs) (st : List zAV) (s : zAS) (k : Nat × Nat) (o i : Nat) : zev zk_X5_areInLine (37, ls, Sum.inr (o, i) :: st, s, k) = zpush zk_X5_areInLine 40 ls st s k (zgv zEC 4 9 o i s.1) := zf_get rfl
theorem zr_X5_areInLine_40 (ls : zLs) (st : List zAV) (s : zAS) (k : Nat × Nat) (x y : Int32) : zev zk_X5_areInLine (40, ls, Sum.inl (Value.int y) :: Sum.inl (Value.int x) :: st, s, k) = zev zk_X5_areInLine (41, ls, Sum.inl (Value.int (x - y)) :: st, s, k) := zev_go rfl rfl
theorem zr_X5_areInLine_41 (ls : zLs) (st : List zAV) (s : zAS) (k : Nat × Nat) (x y : Int32) : zev zk_X5_areInLine (41, ls, Sum.inl (Value.int y) :: Sum.inl (Value.int x) :: st, s, k) = zev zk_X5_areInLine (42, ls, Sum.inl (Value.int (x * y)) :: st, s, k) := zev_go rfl rfl
theorem zr_X5_areInLine_42 (ls : zLs) (st : List zAV) (s : zAS) (k : Nat × Nat) (x y : Int32) : zev zk_X5_areInLine (42, ls, Sum.inl (Value.int y) :: Sum.inl (Value.int x) :: st, s, k) = zev zk_X5_areInLine (43, ls, Sum.inl (Value.int (x - y)) :: st, s, k) := zev_go rfl rfl
theorem zr_X5_areInLine_43 (ls : zLs) (st : List zAV) (s : zAS) (k : Nat × Nat) (r v0 : zAV) (h : zcok zEC 3 0 0 (zR_X5_areInLine).cells (zR_X5_areInLine).slots r st k) : zev zk_X5_areInLine (43, ls, v0 :: r :: st, s, k) = zret zk_X5_areInLine 46 ls st (k.1 + 0, k.2 + 0) (m_X3_rest [r, v0] s) := zf_callV (as := [v0]) 1 rfl rfl h
theorem zr_X5_areInLine_46 (ls : zLs) (st : List zAV) (s : zAS) (k : Nat × Nat) (x : Int32) : zev zk_X5_areInLine (46, ls, Sum.inl (Value.int x) :: st, s, k) = if decide (¬ x = 0) = true then zev zk_X5_areInLine (53, ls, st, s, k) else zev zk_X5_areInLine (49, ls, st, s, k) := zf_if (f := fun x => decide (¬ x = 0)) rfl
theorem zr_X5_areInLine_49 (ls : zLs) (st : List zAV) (s : zAS) (k : Nat × Nat) : zev zk_X5_areInLine (49, ls, st, s, k) = zev zk_X5_areInLine (50, ls, Sum.inl (Value.int (1)) :: st, s, k) := zev_go rfl rfl
theorem zr_X5_areInLine_50 (ls : zLs) (st : List zAV) (s : zAS) (k : Nat × Nat) : zev zk_X5_areInLine (50, ls, st, s, k) = zev zk_X5_areInLine (54, ls, st, s, k) := zev_go rfl rfl
theorem zr_X5_areInLine_53 (ls : zLs) (st : List zAV) (s : zAS) (k : Nat × Nat) : zev zk_X5_areInLine (53, ls, st, s, k) = zev zk_X5_areInLine (54, ls, Sum.inl (Value.int (0)) :: st, s, k) := zev_go rfl rfl
theorem zr_X5_areInLine_54 (ls : zLs) (s : zAS) (k : Nat × Nat) (x : Int32) (hx : x = 0 ∨ x = 1) : zev zk_X5_areInLine (54, ls, [Sum.inl (Value.int x)], s, k) = some (.inl (some (Sum.inl (Value.int x))), s) := zf_retz rfl hx
/-! X5_areParallel: PrimePlane$Judge.areParallel(LPrimePlane$Figure;LPrimePlane$Figure;)Z -/
abbrev zR_X5_areParallel : Room := ({ frames := 0, cells := 0, slots := 0, locals := 0 } : Room)
noncomputable def zl_X5_areParallel : List (Nat × zOp) := [(0, z_lda 0 1), (1, z_get zEC 4 8 4), (4, z_lda 1 5), (5, z_get zEC 4 8 8), (8, z_cmp (fun x y => decide (¬ x = y)) 26 11), (11, z_lda 0 12), (12, z_get zEC 4 9 15), (15, z_lda 1 16), (16, z_get zEC 4 9 19), (19, z_cmp (fun x y => decide (¬ x = y)) 26 22), (22, z_ic (1) 23), (23, z_goto 27), (26, z_ic (0) 27), (27, z_reti true)]
noncomputable def zk_X5_areParallel (pc : Nat) : Option zOp := zlook zl_X5_areParallel pc
noncomputable def m_X5_areParallel : List zAV → zAS → Option zOut := zmeth zk_X5_areParallel 2
set_option maxRecDepth 100000 in
set_option maxHeartbeats 4000000 in
theorem zcs_X5_areParallel {R : Room} (hR : R = zR_X5_areParallel) : ∀ q ∈ zl_X5_areParallel, zS zEC yX5_areParallel.cls cX5_areParallel 2 wsX5_areParallel (some .boolean) R q.1 q.2 := by
  subst hR
  have hin4 : ∀ w ∈ wsX40, w ∈ wsX5_areParallel := fun w h => List.mem_cons_of_mem _ (List.mem_append_right _ h)
  refine List.forall_mem_cons.mpr ⟨zs_aload_n dX5_areParallel_0 rfl, ?_⟩
  refine List.forall_mem_cons.mpr ⟨zs_get (ci := 4) (j := 8) (N := 13) (C := RX4) (T := TX4) (index := 50) rfl (by decide) hin4 (List.mem_of_getElem? (i := 1) rfl) dX5_areParallel_1, ?_⟩
  refine List.forall_mem_cons.mpr ⟨zs_aload_n dX5_areParallel_4 rfl, ?_⟩
  refine List.forall_mem_cons.mpr ⟨zs_get (ci := 4) (j := 8) (N := 13) (C := RX4) (T := TX4) (index := 50) rfl (by decide) hin4 (List.mem_of_getElem? (i := 1) rfl) dX5_areParallel_5, ?_⟩
  refine List.forall_mem_cons.mpr ⟨zs_icne dX5_areParallel_8 (by decide), ?_⟩
  refine List.forall_mem_cons.mpr ⟨zs_aload_n dX5_areParallel_11 rfl, ?_⟩
  refine List.forall_mem_cons.mpr ⟨zs_get (ci := 4) (j := 9) (N := 13) (C := RX4) (T := TX4) (index := 54) rfl (by decide) hin4 (List.mem_of_getElem? (i := 2) rfl) dX5_areParallel_12, ?_⟩
  refine List.forall_mem_cons.mpr ⟨zs_aload_n dX5_areParallel_15 rfl, ?_⟩
  refine List.forall_mem_cons.mpr ⟨zs_get (ci := 4) (j := 9) (N := 13) (C := RX4) (T := TX4) (index := 54) rfl (by decide) hin4 (List.mem_of_getElem? (i := 2) rfl) dX5_areParallel_16, ?_⟩
  refine List.forall_mem_cons.mpr ⟨zs_icne dX5_areParallel_19 (by decide), ?_⟩
  refine List.forall_mem_cons.mpr ⟨zs_iconst dX5_areParallel_22 (by decide), ?_⟩
  refine List.forall_mem_cons.mpr ⟨zs_goto dX5_areParallel_23 (by decide), ?_⟩
  refine List.forall_mem_cons.mpr ⟨zs_iconst dX5_areParallel_26 (by decide), ?_⟩
  refine List.forall_mem_cons.mpr ⟨zs_reti (ty := .boolean) rfl (fun x h => (znz x h).1) dX5_areParallel_27, ?_⟩
  exact fun _ h => absurd h List.not_mem_nil
theorem zM_X5_areParallel : zMeets zEC yX5_areParallel wsX5_areParallel zR_X5_areParallel m_X5_areParallel := zmeth_M zECok (zlook_all (zcs_X5_areParallel rfl)) (by decide +kernel) rfl
theorem zr_X5_areParallel_0 (a1 : Option zAV) (st : List zAV) (s : zAS) (k : Nat × Nat) (o : Nat × Nat) : zev zk_X5_areParallel (0, [some (Sum.inr o), a1], st, s, k) = zev zk_X5_areParallel (1, [some (Sum.inr o), a1], Sum.inr o :: st, s, k) := zev_go rfl rfl
theorem zr_X5_areParallel_1 (ls : zLs) (st : List zAV) (s : zAS) (k : Nat × Nat) (o i : Nat) : zev zk_X5_areParallel (1, ls, Sum.inr (o, i) :: st, s, k) = zpush zk_X5_areParallel 4 ls st s k (zgv zEC 4 8 o i s.1) := zf_get rfl
theorem zr_X5_areParallel_4 (a0 : Option zAV) (st : List zAV) (s : zAS) (k : Nat × Nat) (o : Nat × Nat) : zev zk_X5_areParallel (4, [a0, some (Sum.inr o)], st, s, k) = zev zk_X5_areParallel (5, [a0, some (Sum.inr o)], Sum.inr o :: st, s, k) := zev_go rfl rfl
theorem zr_X5_areParallel_5 (ls : zLs) (st : List zAV) (s : zAS) (k : Nat × Nat) (o i : Nat) : zev zk_X5_areParallel (5, ls, Sum.inr (o, i) :: st, s, k) = zpush zk_X5_areParallel 8 ls st s k (zgv zEC 4 8 o i s.1) := zf_get rfl
theorem zr_X5_areParallel_8 (ls : zLs) (st : List zAV) (s : zAS) (k : Nat × Nat) (x y : Int32) : zev zk_X5_areParallel (8, ls, Sum.inl (Value.int y) :: Sum.inl (Value.int x) :: st, s, k) = if decide (¬ x = y) = true then zev zk_X5_areParallel (26, ls, st, s, k) else zev zk_X5_areParallel (11, ls, st, s, k) := zf_cmp (f := fun x y => decide (¬ x = y)) rfl
theorem zr_X5_areParallel_11 (a1 : Option zAV) (st : List zAV) (s : zAS) (k : Nat × Nat) (o : Nat × Nat) : zev zk_X5_areParallel (11, [some (Sum.inr o), a1], st, s, k) = zev zk_X5_areParallel (12, [some (Sum.inr o), a1], Sum.inr o :: st, s, k) := zev_go rfl rfl
theorem zr_X5_areParallel_12 (ls : zLs) (st : List zAV) (s : zAS) (k : Nat × Nat) (o i : Nat) : zev zk_X5_areParallel (12, ls, Sum.inr (o, i) :: st, s, k) = zpush zk_X5_areParallel 15 ls st s k (zgv zEC 4 9 o i s.1) := zf_get rfl
theorem zr_X5_areParallel_15 (a0 : Option zAV) (st : List zAV) (s : zAS) (k : Nat × Nat) (o : Nat × Nat) : zev zk_X5_areParallel (15, [a0, some (Sum.inr o)], st, s, k) = zev zk_X5_areParallel (16, [a0, some (Sum.inr o)], Sum.inr o :: st, s, k) := zev_go rfl rfl
theorem zr_X5_areParallel_16 (ls : zLs) (st : List zAV) (s : zAS) (k : Nat × Nat) (o i : Nat) : zev zk_X5_areParallel (16, ls, Sum.inr (o, i) :: st, s, k) = zpush zk_X5_areParallel 19 ls st s k (zgv zEC 4 9 o i s.1) := zf_get rfl
theorem zr_X5_areParallel_19 (ls : zLs) (st : List zAV) (s : zAS) (k : Nat × Nat) (x y : Int32) : zev zk_X5_areParallel (19, ls, Sum.inl (Value.int y) :: Sum.inl (Value.int x) :: st, s, k) = if decide (¬ x = y) = true then zev zk_X5_areParallel (26, ls, st, s, k) else zev zk_X5_areParallel (22, ls, st, s, k) := zf_cmp (f := fun x y => decide (¬ x = y)) rfl
theorem zr_X5_areParallel_22 (ls : zLs) (st : List zAV) (s : zAS) (k : Nat × Nat) : zev zk_X5_areParallel (22, ls, st, s, k) = zev zk_X5_areParallel (23, ls, Sum.inl (Value.int (1)) :: st, s, k) := zev_go rfl rfl
theorem zr_X5_areParallel_23 (ls : zLs) (st : List zAV) (s : zAS) (k : Nat × Nat) : zev zk_X5_areParallel (23, ls, st, s, k) = zev zk_X5_areParallel (27, ls, st, s, k) := zev_go rfl rfl
theorem zr_X5_areParallel_26 (ls : zLs) (st : List zAV) (s : zAS) (k : Nat × Nat) : zev zk_X5_areParallel (26, ls, st, s, k) = zev zk_X5_areParallel (27, ls, Sum.inl (Value.int (0)) :: st, s, k) := zev_go rfl rfl
theorem zr_X5_areParallel_27 (ls : zLs) (s : zAS) (k : Nat × Nat) (x : Int32) (hx : x = 0 ∨ x = 1) : zev zk_X5_areParallel (27, ls, [Sum.inl (Value.int x)], s, k) = some (.inl (some (Sum.inl (Value.int x))), s) := zf_retz rfl hx
/-! X5_shareAPlace: PrimePlane$Judge.shareAPlace(LPrimePlane$Figure;LPrimePlane$Figure;LPrimePlane$Figure;)Z -/
abbrev zR_X5_shareAPlace : Room := ({ frames := 4, cells := 0, slots := 0, locals := 90 } : Room)
noncomputable def zl_X5_shareAPlace : List (Nat × zOp) := [(0, z_lda 1 1), (1, z_lda 2 2), (2, z_callS m_X5_areParallel 2 0 0 (zR_X5_shareAPlace).cells (zR_X5_shareAPlace).slots 5), (5, z_if (fun x => decide (x = 0)) 38 8), (8, z_lda 1 9), (9, z_lda 2 10), (10, z_callV zEC 4 m_X4_isLike 1 0 0 (zR_X5_shareAPlace).cells (zR_X5_shareAPlace).slots 13), (13, z_if (fun x => decide (x = 0)) 36 16), (16, z_lda 1 17), (17, z_lda 3 18), (18, z_callS m_X5_areParallel 2 0 0 (zR_X5_shareAPlace).cells (zR_X5_shareAPlace).slots 21), (21, z_if (fun x => decide (x = 0)) 32 24), (24, z_lda 1 25), (25, z_lda 3 26), (26, z_callV zEC 4 m_X4_isLike 1 0 0 (zR_X5_shareAPlace).cells (zR_X5_shareAPlace).slots 29), (29, z_if (fun x => decide (x = 0)) 36 32), (32, z_ic (1) 33), (33, z_goto 37), (36, z_ic (0) 37), (37, z_reti true), (38, z_lda 0 39), (39, z_get zEC 5 0 42), (42, z_lda 0 43), (43, z_get zEC 5 2 46), (46, z_lda 1 47), (47, z_lda 2 48), (48, z_callV zEC 2 m_X2_intersection 3 0 0 (zR_X5_shareAPlace).cells (zR_X5_shareAPlace).slots 51), (51, z_if (fun x => decide (x = 0)) 73 54), (54, z_lda 0 55), (55, z_get zEC 5 0 58), (58, z_lda 0 59), (59, z_get zEC 5 2 62), (62, z_lda 3 63), (63, z_callV zEC 2 m_X2_power 2 0 0 (zR_X5_shareAPlace).cells (zR_X5_shareAPlace).slots 66), (66, z_if (fun x => decide (¬ x = 0)) 73 69), (69, z_ic (1) 70), (70, z_goto 74), (73, z_ic (0) 74), (74, z_reti true)]
noncomputable def zk_X5_shareAPlace (pc : Nat) : Option zOp := zlook zl_X5_shareAPlace pc
noncomputable def m_X5_shareAPlace : List zAV → zAS → Option zOut := zmeth zk_X5_shareAPlace 4
set_option maxRecDepth 100000 in
set_option maxHeartbeats 4000000 in
theorem zcs_X5_shareAPlace {R : Room} (hR : R = zR_X5_shareAPlace) : ∀ q ∈ zl_X5_shareAPlace, zS zEC yX5_shareAPlace.cls cX5_shareAPlace 4 wsX5_shareAPlace (some .boolean) R q.1 q.2 := by
  subst hR
  have hin5 : ∀ w ∈ wsX50, w ∈ wsX5_shareAPlace := fun w h => List.mem_cons_of_mem _ (List.mem_append_left _ (List.mem_append_left _ (List.mem_append_left _ (List.mem_append_right _ h))))
  refine List.forall_mem_cons.mpr ⟨zs_aload_n dX5_shareAPlace_0 rfl, ?_⟩
  refine List.forall_mem_cons.mpr ⟨zs_aload_n dX5_shareAPlace_1 rfl, ?_⟩
  refine List.forall_mem_cons.mpr ⟨zs_callS (rm := zR_X5_areParallel) (n := 2) zM_X5_areParallel gX5_shareAPlace_X5_areParallel rfl (by decide +kernel) ⟨by decide, by decide⟩ dX5_shareAPlace_2, ?_⟩
  refine List.forall_mem_cons.mpr ⟨zs_ifeq dX5_shareAPlace_5 (by decide), ?_⟩
  refine List.forall_mem_cons.mpr ⟨zs_aload_n dX5_shareAPlace_8 rfl, ?_⟩
  refine List.forall_mem_cons.mpr ⟨zs_aload_n dX5_shareAPlace_9 rfl, ?_⟩
  refine List.forall_mem_cons.mpr ⟨zs_callV (ci := 4) (rm := zR_X4_isLike) (n := 1) rfl zM_X4_isLike gX5_shareAPlace_X4_isLike rfl (by decide +kernel) ⟨by decide, by decide⟩ dX5_shareAPlace_10, ?_⟩
  refine List.forall_mem_cons.mpr ⟨zs_ifeq dX5_shareAPlace_13 (by decide), ?_⟩
  refine List.forall_mem_cons.mpr ⟨zs_aload_n dX5_shareAPlace_16 rfl, ?_⟩
  refine List.forall_mem_cons.mpr ⟨zs_aload_n dX5_shareAPlace_17 rfl, ?_⟩
  refine List.forall_mem_cons.mpr ⟨zs_callS (rm := zR_X5_areParallel) (n := 2) zM_X5_areParallel gX5_shareAPlace_X5_areParallel rfl (by decide +kernel) ⟨by decide, by decide⟩ dX5_shareAPlace_18, ?_⟩
  refine List.forall_mem_cons.mpr ⟨zs_ifeq dX5_shareAPlace_21 (by decide), ?_⟩
  refine List.forall_mem_cons.mpr ⟨zs_aload_n dX5_shareAPlace_24 rfl, ?_⟩
  refine List.forall_mem_cons.mpr ⟨zs_aload_n dX5_shareAPlace_25 rfl, ?_⟩
  refine List.forall_mem_cons.mpr ⟨zs_callV (ci := 4) (rm := zR_X4_isLike) (n := 1) rfl zM_X4_isLike gX5_shareAPlace_X4_isLike rfl (by decide +kernel) ⟨by decide, by decide⟩ dX5_shareAPlace_26, ?_⟩
  refine List.forall_mem_cons.mpr ⟨zs_ifeq dX5_shareAPlace_29 (by decide), ?_⟩
  refine List.forall_mem_cons.mpr ⟨zs_iconst dX5_shareAPlace_32 (by decide), ?_⟩
  refine List.forall_mem_cons.mpr ⟨zs_goto dX5_shareAPlace_33 (by decide), ?_⟩
  refine List.forall_mem_cons.mpr ⟨zs_iconst dX5_shareAPlace_36 (by decide), ?_⟩
  refine List.forall_mem_cons.mpr ⟨zs_reti (ty := .boolean) rfl (fun x h => (znz x h).1) dX5_shareAPlace_37, ?_⟩
  refine List.forall_mem_cons.mpr ⟨zs_aload_n dX5_shareAPlace_38 rfl, ?_⟩
  refine List.forall_mem_cons.mpr ⟨zs_get (ci := 5) (j := 0) (N := 4) (C := RX5) (T := TX5) (index := 12) rfl (by decide) hin5 (List.mem_of_getElem? (i := 1) rfl) dX5_shareAPlace_39, ?_⟩
  refine List.forall_mem_cons.mpr ⟨zs_aload_n dX5_shareAPlace_42 rfl, ?_⟩
  refine List.forall_mem_cons.mpr ⟨zs_get (ci := 5) (j := 2) (N := 4) (C := RX5) (T := TX5) (index := 28) rfl (by decide) hin5 (List.mem_of_getElem? (i := 2) rfl) dX5_shareAPlace_43, ?_⟩
  refine List.forall_mem_cons.mpr ⟨zs_aload_n dX5_shareAPlace_46 rfl, ?_⟩
  refine List.forall_mem_cons.mpr ⟨zs_aload_n dX5_shareAPlace_47 rfl, ?_⟩
  refine List.forall_mem_cons.mpr ⟨zs_callV (ci := 2) (rm := zR_X2_intersection) (n := 3) rfl zM_X2_intersection gX5_shareAPlace_X2_intersection rfl (by decide +kernel) ⟨by decide, by decide⟩ dX5_shareAPlace_48, ?_⟩
  refine List.forall_mem_cons.mpr ⟨zs_ifeq dX5_shareAPlace_51 (by decide), ?_⟩
  refine List.forall_mem_cons.mpr ⟨zs_aload_n dX5_shareAPlace_54 rfl, ?_⟩
  refine List.forall_mem_cons.mpr ⟨zs_get (ci := 5) (j := 0) (N := 4) (C := RX5) (T := TX5) (index := 12) rfl (by decide) hin5 (List.mem_of_getElem? (i := 1) rfl) dX5_shareAPlace_55, ?_⟩
  refine List.forall_mem_cons.mpr ⟨zs_aload_n dX5_shareAPlace_58 rfl, ?_⟩
  refine List.forall_mem_cons.mpr ⟨zs_get (ci := 5) (j := 2) (N := 4) (C := RX5) (T := TX5) (index := 28) rfl (by decide) hin5 (List.mem_of_getElem? (i := 2) rfl) dX5_shareAPlace_59, ?_⟩
  refine List.forall_mem_cons.mpr ⟨zs_aload_n dX5_shareAPlace_62 rfl, ?_⟩
  refine List.forall_mem_cons.mpr ⟨zs_callV (ci := 2) (rm := zR_X2_power) (n := 2) rfl zM_X2_power gX5_shareAPlace_X2_power rfl (by decide +kernel) ⟨by decide, by decide⟩ dX5_shareAPlace_63, ?_⟩
  refine List.forall_mem_cons.mpr ⟨zs_ifne dX5_shareAPlace_66 (by decide), ?_⟩
  refine List.forall_mem_cons.mpr ⟨zs_iconst dX5_shareAPlace_69 (by decide), ?_⟩
  refine List.forall_mem_cons.mpr ⟨zs_goto dX5_shareAPlace_70 (by decide), ?_⟩
  refine List.forall_mem_cons.mpr ⟨zs_iconst dX5_shareAPlace_73 (by decide), ?_⟩
  refine List.forall_mem_cons.mpr ⟨zs_reti (ty := .boolean) rfl (fun x h => (znz x h).1) dX5_shareAPlace_74, ?_⟩
  exact fun _ h => absurd h List.not_mem_nil
theorem zM_X5_shareAPlace : zMeets zEC yX5_shareAPlace wsX5_shareAPlace zR_X5_shareAPlace m_X5_shareAPlace := zmeth_M zECok (zlook_all (zcs_X5_shareAPlace rfl)) (by decide +kernel) rfl
theorem zr_X5_shareAPlace_0 (a0 a2 a3 : Option zAV) (st : List zAV) (s : zAS) (k : Nat × Nat) (o : Nat × Nat) : zev zk_X5_shareAPlace (0, [a0, some (Sum.inr o), a2, a3], st, s, k) = zev zk_X5_shareAPlace (1, [a0, some (Sum.inr o), a2, a3], Sum.inr o :: st, s, k) := zev_go rfl rfl
theorem zr_X5_shareAPlace_1 (a0 a1 a3 : Option zAV) (st : List zAV) (s : zAS) (k : Nat × Nat) (o : Nat × Nat) : zev zk_X5_shareAPlace (1, [a0, a1, some (Sum.inr o), a3], st, s, k) = zev zk_X5_shareAPlace (2, [a0, a1, some (Sum.inr o), a3], Sum.inr o :: st, s, k) := zev_go rfl rfl
theorem zr_X5_shareAPlace_2 (ls : zLs) (st : List zAV) (s : zAS) (k : Nat × Nat) (v0 v1 : zAV) (h : (st.map zcat).sum ≤ 8 ∧ k.1 + 0 ≤ (zR_X5_shareAPlace).cells ∧ k.2 + 0 ≤ (zR_X5_shareAPlace).slots) : zev zk_X5_shareAPlace (2, ls, v1 :: v0 :: st, s, k) = zret zk_X5_shareAPlace 5 ls st (k.1 + 0, k.2 + 0) (m_X5_areParallel [v0, v1] s) := zf_callS (as := [v1, v0]) 2 rfl rfl h
theorem zr_X5_shareAPlace_5 (ls : zLs) (st : List zAV) (s : zAS) (k : Nat × Nat) (x : Int32) : zev zk_X5_shareAPlace (5, ls, Sum.inl (Value.int x) :: st, s, k) = if decide (x = 0) = true then zev zk_X5_shareAPlace (38, ls, st, s, k) else zev zk_X5_shareAPlace (8, ls, st, s, k) := zf_if (f := fun x => decide (x = 0)) rfl
theorem zr_X5_shareAPlace_8 (a0 a2 a3 : Option zAV) (st : List zAV) (s : zAS) (k : Nat × Nat) (o : Nat × Nat) : zev zk_X5_shareAPlace (8, [a0, some (Sum.inr o), a2, a3], st, s, k) = zev zk_X5_shareAPlace (9, [a0, some (Sum.inr o), a2, a3], Sum.inr o :: st, s, k) := zev_go rfl rfl
theorem zr_X5_shareAPlace_9 (a0 a1 a3 : Option zAV) (st : List zAV) (s : zAS) (k : Nat × Nat) (o : Nat × Nat) : zev zk_X5_shareAPlace (9, [a0, a1, some (Sum.inr o), a3], st, s, k) = zev zk_X5_shareAPlace (10, [a0, a1, some (Sum.inr o), a3], Sum.inr o :: st, s, k) := zev_go rfl rfl
theorem zr_X5_shareAPlace_10 (ls : zLs) (st : List zAV) (s : zAS) (k : Nat × Nat) (r v0 : zAV) (h : zcok zEC 4 0 0 (zR_X5_shareAPlace).cells (zR_X5_shareAPlace).slots r st k) : zev zk_X5_shareAPlace (10, ls, v0 :: r :: st, s, k) = zret zk_X5_shareAPlace 13 ls st (k.1 + 0, k.2 + 0) (m_X4_isLike [r, v0] s) := zf_callV (as := [v0]) 1 rfl rfl h
theorem zr_X5_shareAPlace_13 (ls : zLs) (st : List zAV) (s : zAS) (k : Nat × Nat) (x : Int32) : zev zk_X5_shareAPlace (13, ls, Sum.inl (Value.int x) :: st, s, k) = if decide (x = 0) = true then zev zk_X5_shareAPlace (36, ls, st, s, k) else zev zk_X5_shareAPlace (16, ls, st, s, k) := zf_if (f := fun x => decide (x = 0)) rfl
theorem zr_X5_shareAPlace_16 (a0 a2 a3 : Option zAV) (st : List zAV) (s : zAS) (k : Nat × Nat) (o : Nat × Nat) : zev zk_X5_shareAPlace (16, [a0, some (Sum.inr o), a2, a3], st, s, k) = zev zk_X5_shareAPlace (17, [a0, some (Sum.inr o), a2, a3], Sum.inr o :: st, s, k) := zev_go rfl rfl
theorem zr_X5_shareAPlace_17 (a0 a1 a2 : Option zAV) (st : List zAV) (s : zAS) (k : Nat × Nat) (o : Nat × Nat) : zev zk_X5_shareAPlace (17, [a0, a1, a2, some (Sum.inr o)], st, s, k) = zev zk_X5_shareAPlace (18, [a0, a1, a2, some (Sum.inr o)], Sum.inr o :: st, s, k) := zev_go rfl rfl
theorem zr_X5_shareAPlace_18 (ls : zLs) (st : List zAV) (s : zAS) (k : Nat × Nat) (v0 v1 : zAV) (h : (st.map zcat).sum ≤ 8 ∧ k.1 + 0 ≤ (zR_X5_shareAPlace).cells ∧ k.2 + 0 ≤ (zR_X5_shareAPlace).slots) : zev zk_X5_shareAPlace (18, ls, v1 :: v0 :: st, s, k) = zret zk_X5_shareAPlace 21 ls st (k.1 + 0, k.2 + 0) (m_X5_areParallel [v0, v1] s) := zf_callS (as := [v1, v0]) 2 rfl rfl h
theorem zr_X5_shareAPlace_21 (ls : zLs) (st : List zAV) (s : zAS) (k : Nat × Nat) (x : Int32) : zev zk_X5_shareAPlace (21, ls, Sum.inl (Value.int x) :: st, s, k) = if decide (x = 0) = true then zev zk_X5_shareAPlace (32, ls, st, s, k) else zev zk_X5_shareAPlace (24, ls, st, s, k) := zf_if (f := fun x => decide (x = 0)) rfl
theorem zr_X5_shareAPlace_24 (a0 a2 a3 : Option zAV) (st : List zAV) (s : zAS) (k : Nat × Nat) (o : Nat × Nat) : zev zk_X5_shareAPlace (24, [a0, some (Sum.inr o), a2, a3], st, s, k) = zev zk_X5_shareAPlace (25, [a0, some (Sum.inr o), a2, a3], Sum.inr o :: st, s, k) := zev_go rfl rfl
theorem zr_X5_shareAPlace_25 (a0 a1 a2 : Option zAV) (st : List zAV) (s : zAS) (k : Nat × Nat) (o : Nat × Nat) : zev zk_X5_shareAPlace (25, [a0, a1, a2, some (Sum.inr o)], st, s, k) = zev zk_X5_shareAPlace (26, [a0, a1, a2, some (Sum.inr o)], Sum.inr o :: st, s, k) := zev_go rfl rfl
theorem zr_X5_shareAPlace_26 (ls : zLs) (st : List zAV) (s : zAS) (k : Nat × Nat) (r v0 : zAV) (h : zcok zEC 4 0 0 (zR_X5_shareAPlace).cells (zR_X5_shareAPlace).slots r st k) : zev zk_X5_shareAPlace (26, ls, v0 :: r :: st, s, k) = zret zk_X5_shareAPlace 29 ls st (k.1 + 0, k.2 + 0) (m_X4_isLike [r, v0] s) := zf_callV (as := [v0]) 1 rfl rfl h
theorem zr_X5_shareAPlace_29 (ls : zLs) (st : List zAV) (s : zAS) (k : Nat × Nat) (x : Int32) : zev zk_X5_shareAPlace (29, ls, Sum.inl (Value.int x) :: st, s, k) = if decide (x = 0) = true then zev zk_X5_shareAPlace (36, ls, st, s, k) else zev zk_X5_shareAPlace (32, ls, st, s, k) := zf_if (f := fun x => decide (x = 0)) rfl
theorem zr_X5_shareAPlace_32 (ls : zLs) (st : List zAV) (s : zAS) (k : Nat × Nat) : zev zk_X5_shareAPlace (32, ls, st, s, k) = zev zk_X5_shareAPlace (33, ls, Sum.inl (Value.int (1)) :: st, s, k) := zev_go rfl rfl
theorem zr_X5_shareAPlace_33 (ls : zLs) (st : List zAV) (s : zAS) (k : Nat × Nat) : zev zk_X5_shareAPlace (33, ls, st, s, k) = zev zk_X5_shareAPlace (37, ls, st, s, k) := zev_go rfl rfl
theorem zr_X5_shareAPlace_36 (ls : zLs) (st : List zAV) (s : zAS) (k : Nat × Nat) : zev zk_X5_shareAPlace (36, ls, st, s, k) = zev zk_X5_shareAPlace (37, ls, Sum.inl (Value.int (0)) :: st, s, k) := zev_go rfl rfl
theorem zr_X5_shareAPlace_37 (ls : zLs) (s : zAS) (k : Nat × Nat) (x : Int32) (hx : x = 0 ∨ x = 1) : zev zk_X5_shareAPlace (37, ls, [Sum.inl (Value.int x)], s, k) = some (.inl (some (Sum.inl (Value.int x))), s) := zf_retz rfl hx
theorem zr_X5_shareAPlace_38 (a1 a2 a3 : Option zAV) (st : List zAV) (s : zAS) (k : Nat × Nat) (o : Nat × Nat) : zev zk_X5_shareAPlace (38, [some (Sum.inr o), a1, a2, a3], st, s, k) = zev zk_X5_shareAPlace (39, [some (Sum.inr o), a1, a2, a3], Sum.inr o :: st, s, k) := zev_go rfl rfl
theorem zr_X5_shareAPlace_39 (ls : zLs) (st : List zAV) (s : zAS) (k : Nat × Nat) (o i : Nat) : zev zk_X5_shareAPlace (39, ls, Sum.inr (o, i) :: st, s, k) = zpush zk_X5_shareAPlace 42 ls st s k (zgv zEC 5 0 o i s.1) := zf_get rfl
theorem zr_X5_shareAPlace_42 (a1 a2 a3 : Option zAV) (st : List zAV) (s : zAS) (k : Nat × Nat) (o : Nat × Nat) : zev zk_X5_shareAPlace (42, [some (Sum.inr o), a1, a2, a3], st, s, k) = zev zk_X5_shareAPlace (43, [some (Sum.inr o), a1, a2, a3], Sum.inr o :: st, s, k) := zev_go rfl rfl
theorem zr_X5_shareAPlace_43 (ls : zLs) (st : List zAV) (s : zAS) (k : Nat × Nat) (o i : Nat) : zev zk_X5_shareAPlace (43, ls, Sum.inr (o, i) :: st, s, k) = zpush zk_X5_shareAPlace 46 ls st s k (zgv zEC 5 2 o i s.1) := zf_get rfl
theorem zr_X5_shareAPlace_46 (a0 a2 a3 : Option zAV) (st : List zAV) (s : zAS) (k : Nat × Nat) (o : Nat × Nat) : zev zk_X5_shareAPlace (46, [a0, some (Sum.inr o), a2, a3], st, s, k) = zev zk_X5_shareAPlace (47, [a0, some (Sum.inr o), a2, a3], Sum.inr o :: st, s, k) := zev_go rfl rfl
theorem zr_X5_shareAPlace_47 (a0 a1 a3 : Option zAV) (st : List zAV) (s : zAS) (k : Nat × Nat) (o : Nat × Nat) : zev zk_X5_shareAPlace (47, [a0, a1, some (Sum.inr o), a3], st, s, k) = zev zk_X5_shareAPlace (48, [a0, a1, some (Sum.inr o), a3], Sum.inr o :: st, s, k) := zev_go rfl rfl
theorem zr_X5_shareAPlace_48 (ls : zLs) (st : List zAV) (s : zAS) (k : Nat × Nat) (r v0 v1 v2 : zAV) (h : zcok zEC 2 0 0 (zR_X5_shareAPlace).cells (zR_X5_shareAPlace).slots r st k) : zev zk_X5_shareAPlace (48, ls, v2 :: v1 :: v0 :: r :: st, s, k) = zret zk_X5_shareAPlace 51 ls st (k.1 + 0, k.2 + 0) (m_X2_intersection [r, v0, v1, v2] s) := zf_callV (as := [v2, v1, v0]) 3 rfl rfl h
theorem zr_X5_shareAPlace_51 (ls : zLs) (st : List zAV) (s : zAS) (k : Nat × Nat) (x : Int32) : zev zk_X5_shareAPlace (51, ls, Sum.inl (Value.int x) :: st, s, k) = if decide (x = 0) = true then zev zk_X5_shareAPlace (73, ls, st, s, k) else zev zk_X5_shareAPlace (54, ls, st, s, k) := zf_if (f := fun x => decide (x = 0)) rfl
theorem zr_X5_shareAPlace_54 (a1 a2 a3 : Option zAV) (st : List zAV) (s : zAS) (k : Nat × Nat) (o : Nat × Nat) : zev zk_X5_shareAPlace (54, [some (Sum.inr o), a1, a2, a3], st, s, k) = zev zk_X5_shareAPlace (55, [some (Sum.inr o), a1, a2, a3], Sum.inr o :: st, s, k) := zev_go rfl rfl
theorem zr_X5_shareAPlace_55 (ls : zLs) (st : List zAV) (s : zAS) (k : Nat × Nat) (o i : Nat) : zev zk_X5_shareAPlace (55, ls, Sum.inr (o, i) :: st, s, k) = zpush zk_X5_shareAPlace 58 ls st s k (zgv zEC 5 0 o i s.1) := zf_get rfl
theorem zr_X5_shareAPlace_58 (a1 a2 a3 : Option zAV) (st : List zAV) (s : zAS) (k : Nat × Nat) (o : Nat × Nat) : zev zk_X5_shareAPlace (58, [some (Sum.inr o), a1, a2, a3], st, s, k) = zev zk_X5_shareAPlace (59, [some (Sum.inr o), a1, a2, a3], Sum.inr o :: st, s, k) := zev_go rfl rfl
theorem zr_X5_shareAPlace_59 (ls : zLs) (st : List zAV) (s : zAS) (k : Nat × Nat) (o i : Nat) : zev zk_X5_shareAPlace (59, ls, Sum.inr (o, i) :: st, s, k) = zpush zk_X5_shareAPlace 62 ls st s k (zgv zEC 5 2 o i s.1) := zf_get rfl
theorem zr_X5_shareAPlace_62 (a0 a1 a2 : Option zAV) (st : List zAV) (s : zAS) (k : Nat × Nat) (o : Nat × Nat) : zev zk_X5_shareAPlace (62, [a0, a1, a2, some (Sum.inr o)], st, s, k) = zev zk_X5_shareAPlace (63, [a0, a1, a2, some (Sum.inr o)], Sum.inr o :: st, s, k) := zev_go rfl rfl
theorem zr_X5_shareAPlace_63 (ls : zLs) (st : List zAV) (s : zAS) (k : Nat × Nat) (r v0 v1 : zAV) (h : zcok zEC 2 0 0 (zR_X5_shareAPlace).cells (zR_X5_shareAPlace).slots r st k) : zev zk_X5_shareAPlace (63, ls, v1 :: v0 :: r :: st, s, k) = zret zk_X5_shareAPlace 66 ls st (k.1 + 0, k.2 + 0) (m_X2_power [r, v0, v1] s) := zf_callV (as := [v1, v0]) 2 rfl rfl h
theorem zr_X5_shareAPlace_66 (ls : zLs) (st : List zAV) (s : zAS) (k : Nat × Nat) (x : Int32) : zev zk_X5_shareAPlace (66, ls, Sum.inl (Value.int x) :: st, s, k) = if decide (¬ x = 0) = true then zev zk_X5_shareAPlace (73, ls, st, s, k) else zev zk_X5_shareAPlace (69, ls, st, s, k) := zf_if (f := fun x => decide (¬ x = 0)) rfl
theorem zr_X5_shareAPlace_69 (ls : zLs) (st : List zAV) (s : zAS) (k : Nat × Nat) : zev zk_X5_shareAPlace (69, ls, st, s, k) = zev zk_X5_shareAPlace (70, ls, Sum.inl (Value.int (1)) :: st, s, k) := zev_go rfl rfl
theorem zr_X5_shareAPlace_70 (ls : zLs) (st : List zAV) (s : zAS) (k : Nat × Nat) : zev zk_X5_shareAPlace (70, ls, st, s, k) = zev zk_X5_shareAPlace (74, ls, st, s, k) := zev_go rfl rfl
theorem zr_X5_shareAPlace_73 (ls : zLs) (st : List zAV) (s : zAS) (k : Nat × Nat) : zev zk_X5_shareAPlace (73, ls, st, s, k) = zev zk_X5_shareAPlace (74, ls, Sum.inl (Value.int (0)) :: st, s, k) := zev_go rfl rfl
theorem zr_X5_shareAPlace_74 (ls : zLs) (s : zAS) (k : Nat × Nat) (x : Int32) (hx : x = 0 ∨ x = 1) : zev zk_X5_shareAPlace (74, ls, [Sum.inl (Value.int x)], s, k) = some (.inl (some (Sum.inl (Value.int x))), s) := zf_retz rfl hx
/-! X5_isTrue: PrimePlane$Judge.isTrue(ILPrimePlane$Figure;LPrimePlane$Figure;LPrimePlane$Figure;LPrimePlane$Figure;)Z -/
abbrev zR_X5_isTrue : Room := ({ frames := 5, cells := 0, slots := 0, locals := 113 } : Room)
noncomputable def zl_X5_isTrue : List (Nat × zOp) := [(0, z_ldi 1 1), (1, z_tsw 0 7 [48, 66, 73, 82, 88, 123, 152, 158] 167), (48, z_lda 0 49), (49, z_get zEC 5 0 52), (52, z_lda 2 53), (53, z_lda 3 54), (54, z_callV zEC 2 m_X2_power 2 0 0 (zR_X5_isTrue).cells (zR_X5_isTrue).slots 57), (57, z_if (fun x => decide (¬ x = 0)) 64 60), (60, z_ic (1) 61), (61, z_goto 65), (64, z_ic (0) 65), (65, z_reti true), (66, z_lda 0 67), (67, z_lda 2 68), (68, z_lda 3 69), (69, z_callV zEC 5 m_X5_isOnCircle 2 0 0 (zR_X5_isTrue).cells (zR_X5_isTrue).slots 72), (72, z_reti true), (73, z_lda 0 74), (74, z_lda 2 75), (75, z_lda 3 76), (76, z_lda 4 78), (78, z_callV zEC 5 m_X5_areInLine 3 0 0 (zR_X5_isTrue).cells (zR_X5_isTrue).slots 81), (81, z_reti true), (82, z_lda 2 83), (83, z_lda 3 84), (84, z_callS m_X5_areParallel 2 0 0 (zR_X5_isTrue).cells (zR_X5_isTrue).slots 87), (87, z_reti true), (88, z_lda 0 89), (89, z_get zEC 5 1 92), (92, z_lda 2 93), (93, z_get zEC 4 8 96), (96, z_lda 3 97), (97, z_get zEC 4 8 100), (100, z_bin (fun x y => x * y) 101), (101, z_lda 2 102), (102, z_get zEC 4 9 105), (105, z_lda 3 106), (106, z_get zEC 4 9 109), (109, z_bin (fun x y => x * y) 110), (110, z_bin (fun x y => x + y) 111), (111, z_callV zEC 3 m_X3_rest 1 0 0 (zR_X5_isTrue).cells (zR_X5_isTrue).slots 114), (114, z_if (fun x => decide (¬ x = 0)) 121 117), (117, z_ic (1) 118), (118, z_goto 122), (121, z_ic (0) 122), (122, z_reti true), (123, z_lda 0 124), (124, z_get zEC 5 0 127), (127, z_lda 2 128), (128, z_lda 3 129), (129, z_callV zEC 2 m_X2_squareOf 2 0 0 (zR_X5_isTrue).cells (zR_X5_isTrue).slots 132), (132, z_lda 0 133), (133, z_get zEC 5 0 136), (136, z_lda 4 138), (138, z_lda 5 140), (140, z_callV zEC 2 m_X2_squareOf 2 0 0 (zR_X5_isTrue).cells (zR_X5_isTrue).slots 143), (143, z_cmp (fun x y => decide (¬ x = y)) 150 146), (146, z_ic (1) 147), (147, z_goto 151), (150, z_ic (0) 151), (151, z_reti true), (152, z_lda 2 153), (153, z_lda 3 154), (154, z_callV zEC 4 m_X4_isLike 1 0 0 (zR_X5_isTrue).cells (zR_X5_isTrue).slots 157), (157, z_reti true), (158, z_lda 0 159), (159, z_lda 2 160), (160, z_lda 3 161), (161, z_lda 4 163), (163, z_callV zEC 5 m_X5_shareAPlace 3 0 0 (zR_X5_isTrue).cells (zR_X5_isTrue).slots 166), (166, z_reti true), (167, z_ic (0) 168), (168, z_reti true)]
noncomputable def zk_X5_isTrue (pc : Nat) : Option zOp := zlook zl_X5_isTrue pc
noncomputable def m_X5_isTrue : List zAV → zAS → Option zOut := zmeth zk_X5_isTrue 6
set_option maxRecDepth 100000 in
set_option maxHeartbeats 4000000 in
theorem zcs_X5_isTrue {R : Room} (hR : R = zR_X5_isTrue) : ∀ q ∈ zl_X5_isTrue, zS zEC yX5_isTrue.cls cX5_isTrue 6 wsX5_isTrue (some .boolean) R q.1 q.2 := by
  subst hR
  have hin4 : ∀ w ∈ wsX40, w ∈ wsX5_isTrue := fun w h => List.mem_cons_of_mem _ (List.mem_append_left _ (List.mem_append_left _ (List.mem_append_right _ h)))
  have hin5 : ∀ w ∈ wsX50, w ∈ wsX5_isTrue := fun w h => List.mem_cons_of_mem _ (List.mem_append_left _ (List.mem_append_left _ (List.mem_append_left _ (List.mem_append_right _ h))))
  refine List.forall_mem_cons.mpr ⟨zs_iload_n dX5_isTrue_0 rfl, ?_⟩
  refine List.forall_mem_cons.mpr ⟨zs_tsw dX5_isTrue_1 (by decide) (by decide), ?_⟩
  refine List.forall_mem_cons.mpr ⟨zs_aload_n dX5_isTrue_48 rfl, ?_⟩
  refine List.forall_mem_cons.mpr ⟨zs_get (ci := 5) (j := 0) (N := 4) (C := RX5) (T := TX5) (index := 12) rfl (by decide) hin5 (List.mem_of_getElem? (i := 1) rfl) dX5_isTrue_49, ?_⟩
  refine List.forall_mem_cons.mpr ⟨zs_aload_n dX5_isTrue_52 rfl, ?_⟩
  refine List.forall_mem_cons.mpr ⟨zs_aload_n dX5_isTrue_53 rfl, ?_⟩
  refine List.forall_mem_cons.mpr ⟨zs_callV (ci := 2) (rm := zR_X2_power) (n := 2) rfl zM_X2_power gX5_isTrue_X2_power rfl (by decide +kernel) ⟨by decide, by decide⟩ dX5_isTrue_54, ?_⟩
  refine List.forall_mem_cons.mpr ⟨zs_ifne dX5_isTrue_57 (by decide), ?_⟩
  refine List.forall_mem_cons.mpr ⟨zs_iconst dX5_isTrue_60 (by decide), ?_⟩
  refine List.forall_mem_cons.mpr ⟨zs_goto dX5_isTrue_61 (by decide), ?_⟩
  refine List.forall_mem_cons.mpr ⟨zs_iconst dX5_isTrue_64 (by decide), ?_⟩
  refine List.forall_mem_cons.mpr ⟨zs_reti (ty := .boolean) rfl (fun x h => (znz x h).1) dX5_isTrue_65, ?_⟩
  refine List.forall_mem_cons.mpr ⟨zs_aload_n dX5_isTrue_66 rfl, ?_⟩
  refine List.forall_mem_cons.mpr ⟨zs_aload_n dX5_isTrue_67 rfl, ?_⟩
  refine List.forall_mem_cons.mpr ⟨zs_aload_n dX5_isTrue_68 rfl, ?_⟩
  refine List.forall_mem_cons.mpr ⟨zs_callV (ci := 5) (rm := zR_X5_isOnCircle) (n := 2) rfl zM_X5_isOnCircle gX5_isTrue_X5_isOnCircle rfl (by decide +kernel) ⟨by decide, by decide⟩ dX5_isTrue_69, ?_⟩
  refine List.forall_mem_cons.mpr ⟨zs_reti (ty := .boolean) rfl (fun x h => (znz x h).1) dX5_isTrue_72, ?_⟩
  refine List.forall_mem_cons.mpr ⟨zs_aload_n dX5_isTrue_73 rfl, ?_⟩
  refine List.forall_mem_cons.mpr ⟨zs_aload_n dX5_isTrue_74 rfl, ?_⟩
  refine List.forall_mem_cons.mpr ⟨zs_aload_n dX5_isTrue_75 rfl, ?_⟩
  refine List.forall_mem_cons.mpr ⟨zs_aload dX5_isTrue_76, ?_⟩
  refine List.forall_mem_cons.mpr ⟨zs_callV (ci := 5) (rm := zR_X5_areInLine) (n := 3) rfl zM_X5_areInLine gX5_isTrue_X5_areInLine rfl (by decide +kernel) ⟨by decide, by decide⟩ dX5_isTrue_78, ?_⟩
  refine List.forall_mem_cons.mpr ⟨zs_reti (ty := .boolean) rfl (fun x h => (znz x h).1) dX5_isTrue_81, ?_⟩
  refine List.forall_mem_cons.mpr ⟨zs_aload_n dX5_isTrue_82 rfl, ?_⟩
  refine List.forall_mem_cons.mpr ⟨zs_aload_n dX5_isTrue_83 rfl, ?_⟩
  refine List.forall_mem_cons.mpr ⟨zs_callS (rm := zR_X5_areParallel) (n := 2) zM_X5_areParallel gX5_isTrue_X5_areParallel rfl (by decide +kernel) ⟨by decide, by decide⟩ dX5_isTrue_84, ?_⟩
  refine List.forall_mem_cons.mpr ⟨zs_reti (ty := .boolean) rfl (fun x h => (znz x h).1) dX5_isTrue_87, ?_⟩
  refine List.forall_mem_cons.mpr ⟨zs_aload_n dX5_isTrue_88 rfl, ?_⟩
  refine List.forall_mem_cons.mpr ⟨zs_get (ci := 5) (j := 1) (N := 4) (C := RX5) (T := TX5) (index := 22) rfl (by decide) hin5 (List.mem_of_getElem? (i := 2) rfl) dX5_isTrue_89, ?_⟩
  refine List.forall_mem_cons.mpr ⟨zs_aload_n dX5_isTrue_92 rfl, ?_⟩
  refine List.forall_mem_cons.mpr ⟨zs_get (ci := 4) (j := 8) (N := 13) (C := RX4) (T := TX4) (index := 50) rfl (by decide) hin4 (List.mem_of_getElem? (i := 3) rfl) dX5_isTrue_93, ?_⟩
  refine List.forall_mem_cons.mpr ⟨zs_aload_n dX5_isTrue_96 rfl, ?_⟩
  refine List.forall_mem_cons.mpr ⟨zs_get (ci := 4) (j := 8) (N := 13) (C := RX4) (T := TX4) (index := 50) rfl (by decide) hin4 (List.mem_of_getElem? (i := 3) rfl) dX5_isTrue_97, ?_⟩
  refine List.forall_mem_cons.mpr ⟨zs_imul dX5_isTrue_100, ?_⟩
  refine List.forall_mem_cons.mpr ⟨zs_aload_n dX5_isTrue_101 rfl, ?_⟩
  refine List.forall_mem_cons.mpr ⟨zs_get (ci := 4) (j := 9) (N := 13) (C := RX4) (T := TX4) (index := 54) rfl (by decide) hin4 (List.mem_of_getElem? (i := 4) rfl) dX5_isTrue_102, ?_⟩
  refine List.forall_mem_cons.mpr ⟨zs_aload_n dX5_isTrue_105 rfl, ?_⟩
  refine List.forall_mem_cons.mpr ⟨zs_get (ci := 4) (j := 9) (N := 13) (C := RX4) (T := TX4) (index := 54) rfl (by decide) hin4 (List.mem_of_getElem? (i := 4) rfl) dX5_isTrue_106, ?_⟩
  refine List.forall_mem_cons.mpr ⟨zs_imul dX5_isTrue_109, ?_⟩
  refine List.forall_mem_cons.mpr ⟨zs_iadd dX5_isTrue_110, ?_⟩
  refine List.forall_mem_cons.mpr ⟨zs_callV (ci := 3) (rm := zR_X3_rest) (n := 1) rfl zM_X3_rest gX5_isTrue_X3_rest rfl (by decide +kernel) ⟨by decide, by decide⟩ dX5_isTrue_111, ?_⟩
  refine List.forall_mem_cons.mpr ⟨zs_ifne dX5_isTrue_114 (by decide), ?_⟩
  refine List.forall_mem_cons.mpr ⟨zs_iconst dX5_isTrue_117 (by decide), ?_⟩
  refine List.forall_mem_cons.mpr ⟨zs_goto dX5_isTrue_118 (by decide), ?_⟩
  refine List.forall_mem_cons.mpr ⟨zs_iconst dX5_isTrue_121 (by decide), ?_⟩
  refine List.forall_mem_cons.mpr ⟨zs_reti (ty := .boolean) rfl (fun x h => (znz x h).1) dX5_isTrue_122, ?_⟩
  refine List.forall_mem_cons.mpr ⟨zs_aload_n dX5_isTrue_123 rfl, ?_⟩
  refine List.forall_mem_cons.mpr ⟨zs_get (ci := 5) (j := 0) (N := 4) (C := RX5) (T := TX5) (index := 12) rfl (by decide) hin5 (List.mem_of_getElem? (i := 1) rfl) dX5_isTrue_124, ?_⟩
  refine List.forall_mem_cons.mpr ⟨zs_aload_n dX5_isTrue_127 rfl, ?_⟩
  refine List.forall_mem_cons.mpr ⟨zs_aload_n dX5_isTrue_128 rfl, ?_⟩
  refine List.forall_mem_cons.mpr ⟨zs_callV (ci := 2) (rm := zR_X2_squareOf) (n := 2) rfl zM_X2_squareOf gX5_isTrue_X2_squareOf rfl (by decide +kernel) ⟨by decide, by decide⟩ dX5_isTrue_129, ?_⟩
  refine List.forall_mem_cons.mpr ⟨zs_aload_n dX5_isTrue_132 rfl, ?_⟩
  refine List.forall_mem_cons.mpr ⟨zs_get (ci := 5) (j := 0) (N := 4) (C := RX5) (T := TX5) (index := 12) rfl (by decide) hin5 (List.mem_of_getElem? (i := 1) rfl) dX5_isTrue_133, ?_⟩
  refine List.forall_mem_cons.mpr ⟨zs_aload dX5_isTrue_136, ?_⟩
  refine List.forall_mem_cons.mpr ⟨zs_aload dX5_isTrue_138, ?_⟩
  refine List.forall_mem_cons.mpr ⟨zs_callV (ci := 2) (rm := zR_X2_squareOf) (n := 2) rfl zM_X2_squareOf gX5_isTrue_X2_squareOf rfl (by decide +kernel) ⟨by decide, by decide⟩ dX5_isTrue_140, ?_⟩
  refine List.forall_mem_cons.mpr ⟨zs_icne dX5_isTrue_143 (by decide), ?_⟩
  refine List.forall_mem_cons.mpr ⟨zs_iconst dX5_isTrue_146 (by decide), ?_⟩
  refine List.forall_mem_cons.mpr ⟨zs_goto dX5_isTrue_147 (by decide), ?_⟩
  refine List.forall_mem_cons.mpr ⟨zs_iconst dX5_isTrue_150 (by decide), ?_⟩
  refine List.forall_mem_cons.mpr ⟨zs_reti (ty := .boolean) rfl (fun x h => (znz x h).1) dX5_isTrue_151, ?_⟩
  refine List.forall_mem_cons.mpr ⟨zs_aload_n dX5_isTrue_152 rfl, ?_⟩
  refine List.forall_mem_cons.mpr ⟨zs_aload_n dX5_isTrue_153 rfl, ?_⟩
  refine List.forall_mem_cons.mpr ⟨zs_callV (ci := 4) (rm := zR_X4_isLike) (n := 1) rfl zM_X4_isLike gX5_isTrue_X4_isLike rfl (by decide +kernel) ⟨by decide, by decide⟩ dX5_isTrue_154, ?_⟩
  refine List.forall_mem_cons.mpr ⟨zs_reti (ty := .boolean) rfl (fun x h => (znz x h).1) dX5_isTrue_157, ?_⟩
  refine List.forall_mem_cons.mpr ⟨zs_aload_n dX5_isTrue_158 rfl, ?_⟩
  refine List.forall_mem_cons.mpr ⟨zs_aload_n dX5_isTrue_159 rfl, ?_⟩
  refine List.forall_mem_cons.mpr ⟨zs_aload_n dX5_isTrue_160 rfl, ?_⟩
  refine List.forall_mem_cons.mpr ⟨zs_aload dX5_isTrue_161, ?_⟩
  refine List.forall_mem_cons.mpr ⟨zs_callV (ci := 5) (rm := zR_X5_shareAPlace) (n := 3) rfl zM_X5_shareAPlace gX5_isTrue_X5_shareAPlace rfl (by decide +kernel) ⟨by decide, by decide⟩ dX5_isTrue_163, ?_⟩
  refine List.forall_mem_cons.mpr ⟨zs_reti (ty := .boolean) rfl (fun x h => (znz x h).1) dX5_isTrue_166, ?_⟩
  refine List.forall_mem_cons.mpr ⟨zs_iconst dX5_isTrue_167 (by decide), ?_⟩
  refine List.forall_mem_cons.mpr ⟨zs_reti (ty := .boolean) rfl (fun x h => (znz x h).1) dX5_isTrue_168, ?_⟩
  exact fun _ h => absurd h List.not_mem_nil
theorem zM_X5_isTrue : zMeets zEC yX5_isTrue wsX5_isTrue zR_X5_isTrue m_X5_isTrue := zmeth_M zECok (zlook_all (zcs_X5_isTrue rfl)) (by decide +kernel) rfl
theorem zr_X5_isTrue_0 (a0 a2 a3 a4 a5 : Option zAV) (st : List zAV) (s : zAS) (k : Nat × Nat) (x : Int32) : zev zk_X5_isTrue (0, [a0, some (Sum.inl (Value.int x)), a2, a3, a4, a5], st, s, k) = zev zk_X5_isTrue (1, [a0, some (Sum.inl (Value.int x)), a2, a3, a4, a5], Sum.inl (Value.int x) :: st, s, k) := zev_go rfl rfl
theorem zr_X5_isTrue_1 (ls : zLs) (st : List zAV) (s : zAS) (k : Nat × Nat) (x : Int32) : zev zk_X5_isTrue (1, ls, Sum.inl (Value.int x) :: st, s, k) = if x.toInt < 0 ∨ 7 < x.toInt then zev zk_X5_isTrue (167, ls, st, s, k) else match ([48, 66, 73, 82, 88, 123, 152, 158] : List Nat)[(x.toInt - 0).toNat]? with
    | some t => zev zk_X5_isTrue (t, ls, st, s, k)
    | none => none := zf_tsw rfl
theorem zr_X5_isTrue_48 (a1 a2 a3 a4 a5 : Option zAV) (st : List zAV) (s : zAS) (k : Nat × Nat) (o : Nat × Nat) : zev zk_X5_isTrue (48, [some (Sum.inr o), a1, a2, a3, a4, a5], st, s, k) = zev zk_X5_isTrue (49, [some (Sum.inr o), a1, a2, a3, a4, a5], Sum.inr o :: st, s, k) := zev_go rfl rfl
theorem zr_X5_isTrue_49 (ls : zLs) (st : List zAV) (s : zAS) (k : Nat × Nat) (o i : Nat) : zev zk_X5_isTrue (49, ls, Sum.inr (o, i) :: st, s, k) = zpush zk_X5_isTrue 52 ls st s k (zgv zEC 5 0 o i s.1) := zf_get rfl
theorem zr_X5_isTrue_52 (a0 a1 a3 a4 a5 : Option zAV) (st : List zAV) (s : zAS) (k : Nat × Nat) (o : Nat × Nat) : zev zk_X5_isTrue (52, [a0, a1, some (Sum.inr o), a3, a4, a5], st, s, k) = zev zk_X5_isTrue (53, [a0, a1, some (Sum.inr o), a3, a4, a5], Sum.inr o :: st, s, k) := zev_go rfl rfl
theorem zr_X5_isTrue_53 (a0 a1 a2 a4 a5 : Option zAV) (st : List zAV) (s : zAS) (k : Nat × Nat) (o : Nat × Nat) : zev zk_X5_isTrue (53, [a0, a1, a2, some (Sum.inr o), a4, a5], st, s, k) = zev zk_X5_isTrue (54, [a0, a1, a2, some (Sum.inr o), a4, a5], Sum.inr o :: st, s, k) := zev_go rfl rfl
theorem zr_X5_isTrue_54 (ls : zLs) (st : List zAV) (s : zAS) (k : Nat × Nat) (r v0 v1 : zAV) (h : zcok zEC 2 0 0 (zR_X5_isTrue).cells (zR_X5_isTrue).slots r st k) : zev zk_X5_isTrue (54, ls, v1 :: v0 :: r :: st, s, k) = zret zk_X5_isTrue 57 ls st (k.1 + 0, k.2 + 0) (m_X2_power [r, v0, v1] s) := zf_callV (as := [v1, v0]) 2 rfl rfl h
theorem zr_X5_isTrue_57 (ls : zLs) (st : List zAV) (s : zAS) (k : Nat × Nat) (x : Int32) : zev zk_X5_isTrue (57, ls, Sum.inl (Value.int x) :: st, s, k) = if decide (¬ x = 0) = true then zev zk_X5_isTrue (64, ls, st, s, k) else zev zk_X5_isTrue (60, ls, st, s, k) := zf_if (f := fun x => decide (¬ x = 0)) rfl
theorem zr_X5_isTrue_60 (ls : zLs) (st : List zAV) (s : zAS) (k : Nat × Nat) : zev zk_X5_isTrue (60, ls, st, s, k) = zev zk_X5_isTrue (61, ls, Sum.inl (Value.int (1)) :: st, s, k) := zev_go rfl rfl
theorem zr_X5_isTrue_61 (ls : zLs) (st : List zAV) (s : zAS) (k : Nat × Nat) : zev zk_X5_isTrue (61, ls, st, s, k) = zev zk_X5_isTrue (65, ls, st, s, k) := zev_go rfl rfl
theorem zr_X5_isTrue_64 (ls : zLs) (st : List zAV) (s : zAS) (k : Nat × Nat) : zev zk_X5_isTrue (64, ls, st, s, k) = zev zk_X5_isTrue (65, ls, Sum.inl (Value.int (0)) :: st, s, k) := zev_go rfl rfl
theorem zr_X5_isTrue_65 (ls : zLs) (s : zAS) (k : Nat × Nat) (x : Int32) (hx : x = 0 ∨ x = 1) : zev zk_X5_isTrue (65, ls, [Sum.inl (Value.int x)], s, k) = some (.inl (some (Sum.inl (Value.int x))), s) := zf_retz rfl hx
theorem zr_X5_isTrue_66 (a1 a2 a3 a4 a5 : Option zAV) (st : List zAV) (s : zAS) (k : Nat × Nat) (o : Nat × Nat) : zev zk_X5_isTrue (66, [some (Sum.inr o), a1, a2, a3, a4, a5], st, s, k) = zev zk_X5_isTrue (67, [some (Sum.inr o), a1, a2, a3, a4, a5], Sum.inr o :: st, s, k) := zev_go rfl rfl
theorem zr_X5_isTrue_67 (a0 a1 a3 a4 a5 : Option zAV) (st : List zAV) (s : zAS) (k : Nat × Nat) (o : Nat × Nat) : zev zk_X5_isTrue (67, [a0, a1, some (Sum.inr o), a3, a4, a5], st, s, k) = zev zk_X5_isTrue (68, [a0, a1, some (Sum.inr o), a3, a4, a5], Sum.inr o :: st, s, k) := zev_go rfl rfl
theorem zr_X5_isTrue_68 (a0 a1 a2 a4 a5 : Option zAV) (st : List zAV) (s : zAS) (k : Nat × Nat) (o : Nat × Nat) : zev zk_X5_isTrue (68, [a0, a1, a2, some (Sum.inr o), a4, a5], st, s, k) = zev zk_X5_isTrue (69, [a0, a1, a2, some (Sum.inr o), a4, a5], Sum.inr o :: st, s, k) := zev_go rfl rfl
theorem zr_X5_isTrue_69 (ls : zLs) (st : List zAV) (s : zAS) (k : Nat × Nat) (r v0 v1 : zAV) (h : zcok zEC 5 0 0 (zR_X5_isTrue).cells (zR_X5_isTrue).slots r st k) : zev zk_X5_isTrue (69, ls, v1 :: v0 :: r :: st, s, k) = zret zk_X5_isTrue 72 ls st (k.1 + 0, k.2 + 0) (m_X5_isOnCircle [r, v0, v1] s) := zf_callV (as := [v1, v0]) 2 rfl rfl h
theorem zr_X5_isTrue_72 (ls : zLs) (s : zAS) (k : Nat × Nat) (x : Int32) (hx : x = 0 ∨ x = 1) : zev zk_X5_isTrue (72, ls, [Sum.inl (Value.int x)], s, k) = some (.inl (some (Sum.inl (Value.int x))), s) := zf_retz rfl hx
theorem zr_X5_isTrue_73 (a1 a2 a3 a4 a5 : Option zAV) (st : List zAV) (s : zAS) (k : Nat × Nat) (o : Nat × Nat) : zev zk_X5_isTrue (73, [some (Sum.inr o), a1, a2, a3, a4, a5], st, s, k) = zev zk_X5_isTrue (74, [some (Sum.inr o), a1, a2, a3, a4, a5], Sum.inr o :: st, s, k) := zev_go rfl rfl
theorem zr_X5_isTrue_74 (a0 a1 a3 a4 a5 : Option zAV) (st : List zAV) (s : zAS) (k : Nat × Nat) (o : Nat × Nat) : zev zk_X5_isTrue (74, [a0, a1, some (Sum.inr o), a3, a4, a5], st, s, k) = zev zk_X5_isTrue (75, [a0, a1, some (Sum.inr o), a3, a4, a5], Sum.inr o :: st, s, k) := zev_go rfl rfl
theorem zr_X5_isTrue_75 (a0 a1 a2 a4 a5 : Option zAV) (st : List zAV) (s : zAS) (k : Nat × Nat) (o : Nat × Nat) : zev zk_X5_isTrue (75, [a0, a1, a2, some (Sum.inr o), a4, a5], st, s, k) = zev zk_X5_isTrue (76, [a0, a1, a2, some (Sum.inr o), a4, a5], Sum.inr o :: st, s, k) := zev_go rfl rfl
theorem zr_X5_isTrue_76 (a0 a1 a2 a3 a5 : Option zAV) (st : List zAV) (s : zAS) (k : Nat × Nat) (o : Nat × Nat) : zev zk_X5_isTrue (76, [a0, a1, a2, a3, some (Sum.inr o), a5], st, s, k) = zev zk_X5_isTrue (78, [a0, a1, a2, a3, some (Sum.inr o), a5], Sum.inr o :: st, s, k) := zev_go rfl rfl
theorem zr_X5_isTrue_78 (ls : zLs) (st : List zAV) (s : zAS) (k : Nat × Nat) (r v0 v1 v2 : zAV) (h : zcok zEC 5 0 0 (zR_X5_isTrue).cells (zR_X5_isTrue).slots r st k) : zev zk_X5_isTrue (78, ls, v2 :: v1 :: v0 :: r :: st, s, k) = zret zk_X5_isTrue 81 ls st (k.1 + 0, k.2 + 0) (m_X5_areInLine [r, v0, v1, v2] s) := zf_callV (as := [v2, v1, v0]) 3 rfl rfl h
theorem zr_X5_isTrue_81 (ls : zLs) (s : zAS) (k : Nat × Nat) (x : Int32) (hx : x = 0 ∨ x = 1) : zev zk_X5_isTrue (81, ls, [Sum.inl (Value.int x)], s, k) = some (.inl (some (Sum.inl (Value.int x))), s) := zf_retz rfl hx
theorem zr_X5_isTrue_82 (a0 a1 a3 a4 a5 : Option zAV) (st : List zAV) (s : zAS) (k : Nat × Nat) (o : Nat × Nat) : zev zk_X5_isTrue (82, [a0, a1, some (Sum.inr o), a3, a4, a5], st, s, k) = zev zk_X5_isTrue (83, [a0, a1, some (Sum.inr o), a3, a4, a5], Sum.inr o :: st, s, k) := zev_go rfl rfl
theorem zr_X5_isTrue_83 (a0 a1 a2 a4 a5 : Option zAV) (st : List zAV) (s : zAS) (k : Nat × Nat) (o : Nat × Nat) : zev zk_X5_isTrue (83, [a0, a1, a2, some (Sum.inr o), a4, a5], st, s, k) = zev zk_X5_isTrue (84, [a0, a1, a2, some (Sum.inr o), a4, a5], Sum.inr o :: st, s, k) := zev_go rfl rfl
theorem zr_X5_isTrue_84 (ls : zLs) (st : List zAV) (s : zAS) (k : Nat × Nat) (v0 v1 : zAV) (h : (st.map zcat).sum ≤ 8 ∧ k.1 + 0 ≤ (zR_X5_isTrue).cells ∧ k.2 + 0 ≤ (zR_X5_isTrue).slots) : zev zk_X5_isTrue (84, ls, v1 :: v0 :: st, s, k) = zret zk_X5_isTrue 87 ls st (k.1 + 0, k.2 + 0) (m_X5_areParallel [v0, v1] s) := zf_callS (as := [v1, v0]) 2 rfl rfl h
theorem zr_X5_isTrue_87 (ls : zLs) (s : zAS) (k : Nat × Nat) (x : Int32) (hx : x = 0 ∨ x = 1) : zev zk_X5_isTrue (87, ls, [Sum.inl (Value.int x)], s, k) = some (.inl (some (Sum.inl (Value.int x))), s) := zf_retz rfl hx
theorem zr_X5_isTrue_88 (a1 a2 a3 a4 a5 : Option zAV) (st : List zAV) (s : zAS) (k : Nat × Nat) (o : Nat × Nat) : zev zk_X5_isTrue (88, [some (Sum.inr o), a1, a2, a3, a4, a5], st, s, k) = zev zk_X5_isTrue (89, [some (Sum.inr o), a1, a2, a3, a4, a5], Sum.inr o :: st, s, k) := zev_go rfl rfl
theorem zr_X5_isTrue_89 (ls : zLs) (st : List zAV) (s : zAS) (k : Nat × Nat) (o i : Nat) : zev zk_X5_isTrue (89, ls, Sum.inr (o, i) :: st, s, k) = zpush zk_X5_isTrue 92 ls st s k (zgv zEC 5 1 o i s.1) := zf_get rfl
theorem zr_X5_isTrue_92 (a0 a1 a3 a4 a5 : Option zAV) (st : List zAV) (s : zAS) (k : Nat × Nat) (o : Nat × Nat) : zev zk_X5_isTrue (92, [a0, a1, some (Sum.inr o), a3, a4, a5], st, s, k) = zev zk_X5_isTrue (93, [a0, a1, some (Sum.inr o), a3, a4, a5], Sum.inr o :: st, s, k) := zev_go rfl rfl
theorem zr_X5_isTrue_93 (ls : zLs) (st : List zAV) (s : zAS) (k : Nat × Nat) (o i : Nat) : zev zk_X5_isTrue (93, ls, Sum.inr (o, i) :: st, s, k) = zpush zk_X5_isTrue 96 ls st s k (zgv zEC 4 8 o i s.1) := zf_get rfl
theorem zr_X5_isTrue_96 (a0 a1 a2 a4 a5 : Option zAV) (st : List zAV) (s : zAS) (k : Nat × Nat) (o : Nat × Nat) : zev zk_X5_isTrue (96, [a0, a1, a2, some (Sum.inr o), a4, a5], st, s, k) = zev zk_X5_isTrue (97, [a0, a1, a2, some (Sum.inr o), a4, a5], Sum.inr o :: st, s, k) := zev_go rfl rfl
theorem zr_X5_isTrue_97 (ls : zLs) (st : List zAV) (s : zAS) (k : Nat × Nat) (o i : Nat) : zev zk_X5_isTrue (97, ls, Sum.inr (o, i) :: st, s, k) = zpush zk_X5_isTrue 100 ls st s k (zgv zEC 4 8 o i s.1) := zf_get rfl
theorem zr_X5_isTrue_100 (ls : zLs) (st : List zAV) (s : zAS) (k : Nat × Nat) (x y : Int32) : zev zk_X5_isTrue (100, ls, Sum.inl (Value.int y) :: Sum.inl (Value.int x) :: st, s, k) = zev zk_X5_isTrue (101, ls, Sum.inl (Value.int (x * y)) :: st, s, k) := zev_go rfl rfl
theorem zr_X5_isTrue_101 (a0 a1 a3 a4 a5 : Option zAV) (st : List zAV) (s : zAS) (k : Nat × Nat) (o : Nat × Nat) : zev zk_X5_isTrue (101, [a0, a1, some (Sum.inr o), a3, a4, a5], st, s, k) = zev zk_X5_isTrue (102, [a0, a1, some (Sum.inr o), a3, a4, a5], Sum.inr o :: st, s, k) := zev_go rfl rfl
theorem zr_X5_isTrue_102 (ls : zLs) (st : List zAV) (s : zAS) (k : Nat × Nat) (o i : Nat) : zev zk_X5_isTrue (102, ls, Sum.inr (o, i) :: st, s, k) = zpush zk_X5_isTrue 105 ls st s k (zgv zEC 4 9 o i s.1) := zf_get rfl
theorem zr_X5_isTrue_105 (a0 a1 a2 a4 a5 : Option zAV) (st : List zAV) (s : zAS) (k : Nat × Nat) (o : Nat × Nat) : zev zk_X5_isTrue (105, [a0, a1, a2, some (Sum.inr o), a4, a5], st, s, k) = zev zk_X5_isTrue (106, [a0, a1, a2, some (Sum.inr o), a4, a5], Sum.inr o :: st, s, k) := zev_go rfl rfl
theorem zr_X5_isTrue_106 (ls : zLs) (st : List zAV) (s : zAS) (k : Nat × Nat) (o i : Nat) : zev zk_X5_isTrue (106, ls, Sum.inr (o, i) :: st, s, k) = zpush zk_X5_isTrue 109 ls st s k (zgv zEC 4 9 o i s.1) := zf_get rfl
theorem zr_X5_isTrue_109 (ls : zLs) (st : List zAV) (s : zAS) (k : Nat × Nat) (x y : Int32) : zev zk_X5_isTrue (109, ls, Sum.inl (Value.int y) :: Sum.inl (Value.int x) :: st, s, k) = zev zk_X5_isTrue (110, ls, Sum.inl (Value.int (x * y)) :: st, s, k) := zev_go rfl rfl
theorem zr_X5_isTrue_110 (ls : zLs) (st : List zAV) (s : zAS) (k : Nat × Nat) (x y : Int32) : zev zk_X5_isTrue (110, ls, Sum.inl (Value.int y) :: Sum.inl (Value.int x) :: st, s, k) = zev zk_X5_isTrue (111, ls, Sum.inl (Value.int (x + y)) :: st, s, k) := zev_go rfl rfl
theorem zr_X5_isTrue_111 (ls : zLs) (st : List zAV) (s : zAS) (k : Nat × Nat) (r v0 : zAV) (h : zcok zEC 3 0 0 (zR_X5_isTrue).cells (zR_X5_isTrue).slots r st k) : zev zk_X5_isTrue (111, ls, v0 :: r :: st, s, k) = zret zk_X5_isTrue 114 ls st (k.1 + 0, k.2 + 0) (m_X3_rest [r, v0] s) := zf_callV (as := [v0]) 1 rfl rfl h
theorem zr_X5_isTrue_114 (ls : zLs) (st : List zAV) (s : zAS) (k : Nat × Nat) (x : Int32) : zev zk_X5_isTrue (114, ls, Sum.inl (Value.int x) :: st, s, k) = if decide (¬ x = 0) = true then zev zk_X5_isTrue (121, ls, st, s, k) else zev zk_X5_isTrue (117, ls, st, s, k) := zf_if (f := fun x => decide (¬ x = 0)) rfl
theorem zr_X5_isTrue_117 (ls : zLs) (st : List zAV) (s : zAS) (k : Nat × Nat) : zev zk_X5_isTrue (117, ls, st, s, k) = zev zk_X5_isTrue (118, ls, Sum.inl (Value.int (1)) :: st, s, k) := zev_go rfl rfl
theorem zr_X5_isTrue_118 (ls : zLs) (st : List zAV) (s : zAS) (k : Nat × Nat) : zev zk_X5_isTrue (118, ls, st, s, k) = zev zk_X5_isTrue (122, ls, st, s, k) := zev_go rfl rfl
theorem zr_X5_isTrue_121 (ls : zLs) (st : List zAV) (s : zAS) (k : Nat × Nat) : zev zk_X5_isTrue (121, ls, st, s, k) = zev zk_X5_isTrue (122, ls, Sum.inl (Value.int (0)) :: st, s, k) := zev_go rfl rfl
theorem zr_X5_isTrue_122 (ls : zLs) (s : zAS) (k : Nat × Nat) (x : Int32) (hx : x = 0 ∨ x = 1) : zev zk_X5_isTrue (122, ls, [Sum.inl (Value.int x)], s, k) = some (.inl (some (Sum.inl (Value.int x))), s) := zf_retz rfl hx
theorem zr_X5_isTrue_123 (a1 a2 a3 a4 a5 : Option zAV) (st : List zAV) (s : zAS) (k : Nat × Nat) (o : Nat × Nat) : zev zk_X5_isTrue (123, [some (Sum.inr o), a1, a2, a3, a4, a5], st, s, k) = zev zk_X5_isTrue (124, [some (Sum.inr o), a1, a2, a3, a4, a5], Sum.inr o :: st, s, k) := zev_go rfl rfl
theorem zr_X5_isTrue_124 (ls : zLs) (st : List zAV) (s : zAS) (k : Nat × Nat) (o i : Nat) : zev zk_X5_isTrue (124, ls, Sum.inr (o, i) :: st, s, k) = zpush zk_X5_isTrue 127 ls st s k (zgv zEC 5 0 o i s.1) := zf_get rfl
theorem zr_X5_isTrue_127 (a0 a1 a3 a4 a5 : Option zAV) (st : List zAV) (s : zAS) (k : Nat × Nat) (o : Nat × Nat) : zev zk_X5_isTrue (127, [a0, a1, some (Sum.inr o), a3, a4, a5], st, s, k) = zev zk_X5_isTrue (128, [a0, a1, some (Sum.inr o), a3, a4, a5], Sum.inr o :: st, s, k) := zev_go rfl rfl
theorem zr_X5_isTrue_128 (a0 a1 a2 a4 a5 : Option zAV) (st : List zAV) (s : zAS) (k : Nat × Nat) (o : Nat × Nat) : zev zk_X5_isTrue (128, [a0, a1, a2, some (Sum.inr o), a4, a5], st, s, k) = zev zk_X5_isTrue (129, [a0, a1, a2, some (Sum.inr o), a4, a5], Sum.inr o :: st, s, k) := zev_go rfl rfl
theorem zr_X5_isTrue_129 (ls : zLs) (st : List zAV) (s : zAS) (k : Nat × Nat) (r v0 v1 : zAV) (h : zcok zEC 2 0 0 (zR_X5_isTrue).cells (zR_X5_isTrue).slots r st k) : zev zk_X5_isTrue (129, ls, v1 :: v0 :: r :: st, s, k) = zret zk_X5_isTrue 132 ls st (k.1 + 0, k.2 + 0) (m_X2_squareOf [r, v0, v1] s) := zf_callV (as := [v1, v0]) 2 rfl rfl h
theorem zr_X5_isTrue_132 (a1 a2 a3 a4 a5 : Option zAV) (st : List zAV) (s : zAS) (k : Nat × Nat) (o : Nat × Nat) : zev zk_X5_isTrue (132, [some (Sum.inr o), a1, a2, a3, a4, a5], st, s, k) = zev zk_X5_isTrue (133, [some (Sum.inr o), a1, a2, a3, a4, a5], Sum.inr o :: st, s, k) := zev_go rfl rfl
theorem zr_X5_isTrue_133 (ls : zLs) (st : List zAV) (s : zAS) (k : Nat × Nat) (o i : Nat) : zev zk_X5_isTrue (133, ls, Sum.inr (o, i) :: st, s, k) = zpush zk_X5_isTrue 136 ls st s k (zgv zEC 5 0 o i s.1) := zf_get rfl
theorem zr_X5_isTrue_136 (a0 a1 a2 a3 a5 : Option zAV) (st : List zAV) (s : zAS) (k : Nat × Nat) (o : Nat × Nat) : zev zk_X5_isTrue (136, [a0, a1, a2, a3, some (Sum.inr o), a5], st, s, k) = zev zk_X5_isTrue (138, [a0, a1, a2, a3, some (Sum.inr o), a5], Sum.inr o :: st, s, k) := zev_go rfl rfl
theorem zr_X5_isTrue_138 (a0 a1 a2 a3 a4 : Option zAV) (st : List zAV) (s : zAS) (k : Nat × Nat) (o : Nat × Nat) : zev zk_X5_isTrue (138, [a0, a1, a2, a3, a4, some (Sum.inr o)], st, s, k) = zev zk_X5_isTrue (140, [a0, a1, a2, a3, a4, some (Sum.inr o)], Sum.inr o :: st, s, k) := zev_go rfl rfl
theorem zr_X5_isTrue_140 (ls : zLs) (st : List zAV) (s : zAS) (k : Nat × Nat) (r v0 v1 : zAV) (h : zcok zEC 2 0 0 (zR_X5_isTrue).cells (zR_X5_isTrue).slots r st k) : zev zk_X5_isTrue (140, ls, v1 :: v0 :: r :: st, s, k) = zret zk_X5_isTrue 143 ls st (k.1 + 0, k.2 + 0) (m_X2_squareOf [r, v0, v1] s) := zf_callV (as := [v1, v0]) 2 rfl rfl h
theorem zr_X5_isTrue_143 (ls : zLs) (st : List zAV) (s : zAS) (k : Nat × Nat) (x y : Int32) : zev zk_X5_isTrue (143, ls, Sum.inl (Value.int y) :: Sum.inl (Value.int x) :: st, s, k) = if decide (¬ x = y) = true then zev zk_X5_isTrue (150, ls, st, s, k) else zev zk_X5_isTrue (146, ls, st, s, k) := zf_cmp (f := fun x y => decide (¬ x = y)) rfl
theorem zr_X5_isTrue_146 (ls : zLs) (st : List zAV) (s : zAS) (k : Nat × Nat) : zev zk_X5_isTrue (146, ls, st, s, k) = zev zk_X5_isTrue (147, ls, Sum.inl (Value.int (1)) :: st, s, k) := zev_go rfl rfl
theorem zr_X5_isTrue_147 (ls : zLs) (st : List zAV) (s : zAS) (k : Nat × Nat) : zev zk_X5_isTrue (147, ls, st, s, k) = zev zk_X5_isTrue (151, ls, st, s, k) := zev_go rfl rfl
theorem zr_X5_isTrue_150 (ls : zLs) (st : List zAV) (s : zAS) (k : Nat × Nat) : zev zk_X5_isTrue (150, ls, st, s, k) = zev zk_X5_isTrue (151, ls, Sum.inl (Value.int (0)) :: st, s, k) := zev_go rfl rfl
theorem zr_X5_isTrue_151 (ls : zLs) (s : zAS) (k : Nat × Nat) (x : Int32) (hx : x = 0 ∨ x = 1) : zev zk_X5_isTrue (151, ls, [Sum.inl (Value.int x)], s, k) = some (.inl (some (Sum.inl (Value.int x))), s) := zf_retz rfl hx
theorem zr_X5_isTrue_152 (a0 a1 a3 a4 a5 : Option zAV) (st : List zAV) (s : zAS) (k : Nat × Nat) (o : Nat × Nat) : zev zk_X5_isTrue (152, [a0, a1, some (Sum.inr o), a3, a4, a5], st, s, k) = zev zk_X5_isTrue (153, [a0, a1, some (Sum.inr o), a3, a4, a5], Sum.inr o :: st, s, k) := zev_go rfl rfl
theorem zr_X5_isTrue_153 (a0 a1 a2 a4 a5 : Option zAV) (st : List zAV) (s : zAS) (k : Nat × Nat) (o : Nat × Nat) : zev zk_X5_isTrue (153, [a0, a1, a2, some (Sum.inr o), a4, a5], st, s, k) = zev zk_X5_isTrue (154, [a0, a1, a2, some (Sum.inr o), a4, a5], Sum.inr o :: st, s, k) := zev_go rfl rfl
theorem zr_X5_isTrue_154 (ls : zLs) (st : List zAV) (s : zAS) (k : Nat × Nat) (r v0 : zAV) (h : zcok zEC 4 0 0 (zR_X5_isTrue).cells (zR_X5_isTrue).slots r st k) : zev zk_X5_isTrue (154, ls, v0 :: r :: st, s, k) = zret zk_X5_isTrue 157 ls st (k.1 + 0, k.2 + 0) (m_X4_isLike [r, v0] s) := zf_callV (as := [v0]) 1 rfl rfl h
theorem zr_X5_isTrue_157 (ls : zLs) (s : zAS) (k : Nat × Nat) (x : Int32) (hx : x = 0 ∨ x = 1) : zev zk_X5_isTrue (157, ls, [Sum.inl (Value.int x)], s, k) = some (.inl (some (Sum.inl (Value.int x))), s) := zf_retz rfl hx
theorem zr_X5_isTrue_158 (a1 a2 a3 a4 a5 : Option zAV) (st : List zAV) (s : zAS) (k : Nat × Nat) (o : Nat × Nat) : zev zk_X5_isTrue (158, [some (Sum.inr o), a1, a2, a3, a4, a5], st, s, k) = zev zk_X5_isTrue (159, [some (Sum.inr o), a1, a2, a3, a4, a5], Sum.inr o :: st, s, k) := zev_go rfl rfl
theorem zr_X5_isTrue_159 (a0 a1 a3 a4 a5 : Option zAV) (st : List zAV) (s : zAS) (k : Nat × Nat) (o : Nat × Nat) : zev zk_X5_isTrue (159, [a0, a1, some (Sum.inr o), a3, a4, a5], st, s, k) = zev zk_X5_isTrue (160, [a0, a1, some (Sum.inr o), a3, a4, a5], Sum.inr o :: st, s, k) := zev_go rfl rfl
theorem zr_X5_isTrue_160 (a0 a1 a2 a4 a5 : Option zAV) (st : List zAV) (s : zAS) (k : Nat × Nat) (o : Nat × Nat) : zev zk_X5_isTrue (160, [a0, a1, a2, some (Sum.inr o), a4, a5], st, s, k) = zev zk_X5_isTrue (161, [a0, a1, a2, some (Sum.inr o), a4, a5], Sum.inr o :: st, s, k) := zev_go rfl rfl
theorem zr_X5_isTrue_161 (a0 a1 a2 a3 a5 : Option zAV) (st : List zAV) (s : zAS) (k : Nat × Nat) (o : Nat × Nat) : zev zk_X5_isTrue (161, [a0, a1, a2, a3, some (Sum.inr o), a5], st, s, k) = zev zk_X5_isTrue (163, [a0, a1, a2, a3, some (Sum.inr o), a5], Sum.inr o :: st, s, k) := zev_go rfl rfl
theorem zr_X5_isTrue_163 (ls : zLs) (st : List zAV) (s : zAS) (k : Nat × Nat) (r v0 v1 v2 : zAV) (h : zcok zEC 5 0 0 (zR_X5_isTrue).cells (zR_X5_isTrue).slots r st k) : zev zk_X5_isTrue (163, ls, v2 :: v1 :: v0 :: r :: st, s, k) = zret zk_X5_isTrue 166 ls st (k.1 + 0, k.2 + 0) (m_X5_shareAPlace [r, v0, v1, v2] s) := zf_callV (as := [v2, v1, v0]) 3 rfl rfl h
theorem zr_X5_isTrue_166 (ls : zLs) (s : zAS) (k : Nat × Nat) (x : Int32) (hx : x = 0 ∨ x = 1) : zev zk_X5_isTrue (166, ls, [Sum.inl (Value.int x)], s, k) = some (.inl (some (Sum.inl (Value.int x))), s) := zf_retz rfl hx
theorem zr_X5_isTrue_167 (ls : zLs) (st : List zAV) (s : zAS) (k : Nat × Nat) : zev zk_X5_isTrue (167, ls, st, s, k) = zev zk_X5_isTrue (168, ls, Sum.inl (Value.int (0)) :: st, s, k) := zev_go rfl rfl
theorem zr_X5_isTrue_168 (ls : zLs) (s : zAS) (k : Nat × Nat) (x : Int32) (hx : x = 0 ∨ x = 1) : zev zk_X5_isTrue (168, ls, [Sum.inl (Value.int x)], s, k) = some (.inl (some (Sum.inl (Value.int x))), s) := zf_retz rfl hx
/-! X5_allAreInLine: PrimePlane$Judge.allAreInLine(LPrimePlane$Row;)Z -/
abbrev zR_X5_allAreInLine : Room := ({ frames := 3, cells := 0, slots := 0, locals := 66 } : Room)
noncomputable def zl_X5_allAreInLine : List (Nat × zOp) := [(0, z_ic (2) 1), (1, z_sti 2 2), (2, z_ldi 2 3), (3, z_lda 1 4), (4, z_get zEC 6 2 7), (7, z_cmp (fun x y => decide (y ≤ x)) 40 10), (10, z_lda 0 11), (11, z_lda 1 12), (12, z_ic (0) 13), (13, z_callV zEC 6 m_X6_at 1 0 0 (zR_X5_allAreInLine).cells (zR_X5_allAreInLine).slots 16), (16, z_lda 1 17), (17, z_ic (1) 18), (18, z_callV zEC 6 m_X6_at 1 0 0 (zR_X5_allAreInLine).cells (zR_X5_allAreInLine).slots 21), (21, z_lda 1 22), (22, z_ldi 2 23), (23, z_callV zEC 6 m_X6_at 1 0 0 (zR_X5_allAreInLine).cells (zR_X5_allAreInLine).slots 26), (26, z_callV zEC 5 m_X5_areInLine 3 0 0 (zR_X5_allAreInLine).cells (zR_X5_allAreInLine).slots 29), (29, z_if (fun x => decide (¬ x = 0)) 34 32), (32, z_ic (0) 33), (33, z_reti true), (34, z_iinc 2 (1) 37), (37, z_goto 2), (40, z_ic (1) 41), (41, z_reti true)]
noncomputable def zk_X5_allAreInLine (pc : Nat) : Option zOp := zlook zl_X5_allAreInLine pc
noncomputable def m_X5_allAreInLine : List zAV → zAS → Option zOut := zmeth zk_X5_allAreInLine 3
set_option maxRecDepth 100000 in
set_option maxHeartbeats 4000000 in
theorem zcs_X5_allAreInLine {R : Room} (hR : R = zR_X5_allAreInLine) : ∀ q ∈ zl_X5_allAreInLine, zS zEC yX5_allAreInLine.cls cX5_allAreInLine 3 wsX5_allAreInLine (some .boolean) R q.1 q.2 := by
  subst hR
  have hin6 : ∀ w ∈ wsX60, w ∈ wsX5_allAreInLine := fun w h => List.mem_cons_of_mem _ (List.mem_append_left _ (List.mem_append_left _ (List.mem_append_left _ (List.mem_append_right _ h))))
  refine List.forall_mem_cons.mpr ⟨zs_iconst dX5_allAreInLine_0 (by decide), ?_⟩
  refine List.forall_mem_cons.mpr ⟨zs_istore_n dX5_allAreInLine_1 rfl, ?_⟩
  refine List.forall_mem_cons.mpr ⟨zs_iload_n dX5_allAreInLine_2 rfl, ?_⟩
  refine List.forall_mem_cons.mpr ⟨zs_aload_n dX5_allAreInLine_3 rfl, ?_⟩
  refine List.forall_mem_cons.mpr ⟨zs_get (ci := 6) (j := 2) (N := 3) (C := RX6) (T := TX6) (index := 79) rfl (by decide) hin6 (List.mem_of_getElem? (i := 1) rfl) dX5_allAreInLine_4, ?_⟩
  refine List.forall_mem_cons.mpr ⟨zs_icge dX5_allAreInLine_7 (by decide), ?_⟩
  refine List.forall_mem_cons.mpr ⟨zs_aload_n dX5_allAreInLine_10 rfl, ?_⟩
  refine List.forall_mem_cons.mpr ⟨zs_aload_n dX5_allAreInLine_11 rfl, ?_⟩
  refine List.forall_mem_cons.mpr ⟨zs_iconst dX5_allAreInLine_12 (by decide), ?_⟩
  refine List.forall_mem_cons.mpr ⟨zs_callV (ci := 6) (rm := zR_X6_at) (n := 1) rfl zM_X6_at gX5_allAreInLine_X6_at rfl (by decide +kernel) ⟨by decide, by decide⟩ dX5_allAreInLine_13, ?_⟩
  refine List.forall_mem_cons.mpr ⟨zs_aload_n dX5_allAreInLine_16 rfl, ?_⟩
  refine List.forall_mem_cons.mpr ⟨zs_iconst dX5_allAreInLine_17 (by decide), ?_⟩
  refine List.forall_mem_cons.mpr ⟨zs_callV (ci := 6) (rm := zR_X6_at) (n := 1) rfl zM_X6_at gX5_allAreInLine_X6_at rfl (by decide +kernel) ⟨by decide, by decide⟩ dX5_allAreInLine_18, ?_⟩
  refine List.forall_mem_cons.mpr ⟨zs_aload_n dX5_allAreInLine_21 rfl, ?_⟩
  refine List.forall_mem_cons.mpr ⟨zs_iload_n dX5_allAreInLine_22 rfl, ?_⟩
  refine List.forall_mem_cons.mpr ⟨zs_callV (ci := 6) (rm := zR_X6_at) (n := 1) rfl zM_X6_at gX5_allAreInLine_X6_at rfl (by decide +kernel) ⟨by decide, by decide⟩ dX5_allAreInLine_23, ?_⟩
  refine List.forall_mem_cons.mpr ⟨zs_callV (ci := 5) (rm := zR_X5_areInLine) (n := 3) rfl zM_X5_areInLine gX5_allAreInLine_X5_areInLine rfl (by decide +kernel) ⟨by decide, by decide⟩ dX5_allAreInLine_26, ?_⟩
  refine List.forall_mem_cons.mpr ⟨zs_ifne dX5_allAreInLine_29 (by decide), ?_⟩
  refine List.forall_mem_cons.mpr ⟨zs_iconst dX5_allAreInLine_32 (by decide), ?_⟩
  refine List.forall_mem_cons.mpr ⟨zs_reti (ty := .boolean) rfl (fun x h => (znz x h).1) dX5_allAreInLine_33, ?_⟩
  refine List.forall_mem_cons.mpr ⟨zs_iinc dX5_allAreInLine_34 (by decide), ?_⟩
  refine List.forall_mem_cons.mpr ⟨zs_goto dX5_allAreInLine_37 (by decide), ?_⟩
  refine List.forall_mem_cons.mpr ⟨zs_iconst dX5_allAreInLine_40 (by decide), ?_⟩
  refine List.forall_mem_cons.mpr ⟨zs_reti (ty := .boolean) rfl (fun x h => (znz x h).1) dX5_allAreInLine_41, ?_⟩
  exact fun _ h => absurd h List.not_mem_nil
theorem zM_X5_allAreInLine : zMeets zEC yX5_allAreInLine wsX5_allAreInLine zR_X5_allAreInLine m_X5_allAreInLine := zmeth_M zECok (zlook_all (zcs_X5_allAreInLine rfl)) (by decide +kernel) rfl
theorem zr_X5_allAreInLine_0 (ls : zLs) (st : List zAV) (s : zAS) (k : Nat × Nat) : zev zk_X5_allAreInLine (0, ls, st, s, k) = zev zk_X5_allAreInLine (1, ls, Sum.inl (Value.int (2)) :: st, s, k) := zev_go rfl rfl
theorem zr_X5_allAreInLine_1 (a0 a1 a2 : Option zAV) (st : List zAV) (s : zAS) (k : Nat × Nat) (x : Int32) : zev zk_X5_allAreInLine (1, [a0, a1, a2], Sum.inl (Value.int x) :: st, s, k) = zev zk_X5_allAreInLine (2, [a0, zk1 a1, some (Sum.inl (Value.int x))], st, s, k) := zev_go rfl rfl
theorem zr_X5_allAreInLine_2 (a0 a1 : Option zAV) (st : List zAV) (s : zAS) (k : Nat × Nat) (x : Int32) : zev zk_X5_allAreInLine (2, [a0, a1, some (Sum.inl (Value.int x))], st, s, k) = zev zk_X5_allAreInLine (3, [a0, a1, some (Sum.inl (Value.int x))], Sum.inl (Value.int x) :: st, s, k) := zev_go rfl rfl
theorem zr_X5_allAreInLine_3 (a0 a2 : Option zAV) (st : List zAV) (s : zAS) (k : Nat × Nat) (o : Nat × Nat) : zev zk_X5_allAreInLine (3, [a0, some (Sum.inr o), a2], st, s, k) = zev zk_X5_allAreInLine (4, [a0, some (Sum.inr o), a2], Sum.inr o :: st, s, k) := zev_go rfl rfl
theorem zr_X5_allAreInLine_4 (ls : zLs) (st : List zAV) (s : zAS) (k : Nat × Nat) (o i : Nat) : zev zk_X5_allAreInLine (4, ls, Sum.inr (o, i) :: st, s, k) = zpush zk_X5_allAreInLine 7 ls st s k (zgv zEC 6 2 o i s.1) := zf_get rfl
theorem zr_X5_allAreInLine_7 (ls : zLs) (st : List zAV) (s : zAS) (k : Nat × Nat) (x y : Int32) : zev zk_X5_allAreInLine (7, ls, Sum.inl (Value.int y) :: Sum.inl (Value.int x) :: st, s, k) = if decide (y ≤ x) = true then zev zk_X5_allAreInLine (40, ls, st, s, k) else zev zk_X5_allAreInLine (10, ls, st, s, k) := zf_cmp (f := fun x y => decide (y ≤ x)) rfl
theorem zr_X5_allAreInLine_10 (a1 a2 : Option zAV) (st : List zAV) (s : zAS) (k : Nat × Nat) (o : Nat × Nat) : zev zk_X5_allAreInLine (10, [some (Sum.inr o), a1, a2], st, s, k) = zev zk_X5_allAreInLine (11, [some (Sum.inr o), a1, a2], Sum.inr o :: st, s, k) := zev_go rfl rfl
theorem zr_X5_allAreInLine_11 (a0 a2 : Option zAV) (st : List zAV) (s : zAS) (k : Nat × Nat) (o : Nat × Nat) : zev zk_X5_allAreInLine (11, [a0, some (Sum.inr o), a2], st, s, k) = zev zk_X5_allAreInLine (12, [a0, some (Sum.inr o), a2], Sum.inr o :: st, s, k) := zev_go rfl rfl
theorem zr_X5_allAreInLine_12 (ls : zLs) (st : List zAV) (s : zAS) (k : Nat × Nat) : zev zk_X5_allAreInLine (12, ls, st, s, k) = zev zk_X5_allAreInLine (13, ls, Sum.inl (Value.int (0)) :: st, s, k) := zev_go rfl rfl
theorem zr_X5_allAreInLine_13 (ls : zLs) (st : List zAV) (s : zAS) (k : Nat × Nat) (r v0 : zAV) (h : zcok zEC 6 0 0 (zR_X5_allAreInLine).cells (zR_X5_allAreInLine).slots r st k) : zev zk_X5_allAreInLine (13, ls, v0 :: r :: st, s, k) = zret zk_X5_allAreInLine 16 ls st (k.1 + 0, k.2 + 0) (m_X6_at [r, v0] s) := zf_callV (as := [v0]) 1 rfl rfl h
theorem zr_X5_allAreInLine_16 (a0 a2 : Option zAV) (st : List zAV) (s : zAS) (k : Nat × Nat) (o : Nat × Nat) : zev zk_X5_allAreInLine (16, [a0, some (Sum.inr o), a2], st, s, k) = zev zk_X5_allAreInLine (17, [a0, some (Sum.inr o), a2], Sum.inr o :: st, s, k) := zev_go rfl rfl
theorem zr_X5_allAreInLine_17 (ls : zLs) (st : List zAV) (s : zAS) (k : Nat × Nat) : zev zk_X5_allAreInLine (17, ls, st, s, k) = zev zk_X5_allAreInLine (18, ls, Sum.inl (Value.int (1)) :: st, s, k) := zev_go rfl rfl
theorem zr_X5_allAreInLine_18 (ls : zLs) (st : List zAV) (s : zAS) (k : Nat × Nat) (r v0 : zAV) (h : zcok zEC 6 0 0 (zR_X5_allAreInLine).cells (zR_X5_allAreInLine).slots r st k) : zev zk_X5_allAreInLine (18, ls, v0 :: r :: st, s, k) = zret zk_X5_allAreInLine 21 ls st (k.1 + 0, k.2 + 0) (m_X6_at [r, v0] s) := zf_callV (as := [v0]) 1 rfl rfl h
theorem zr_X5_allAreInLine_21 (a0 a2 : Option zAV) (st : List zAV) (s : zAS) (k : Nat × Nat) (o : Nat × Nat) : zev zk_X5_allAreInLine (21, [a0, some (Sum.inr o), a2], st, s, k) = zev zk_X5_allAreInLine (22, [a0, some (Sum.inr o), a2], Sum.inr o :: st, s, k) := zev_go rfl rfl
theorem zr_X5_allAreInLine_22 (a0 a1 : Option zAV) (st : List zAV) (s : zAS) (k : Nat × Nat) (x : Int32) : zev zk_X5_allAreInLine (22, [a0, a1, some (Sum.inl (Value.int x))], st, s, k) = zev zk_X5_allAreInLine (23, [a0, a1, some (Sum.inl (Value.int x))], Sum.inl (Value.int x) :: st, s, k) := zev_go rfl rfl
theorem zr_X5_allAreInLine_23 (ls : zLs) (st : List zAV) (s : zAS) (k : Nat × Nat) (r v0 : zAV) (h : zcok zEC 6 0 0 (zR_X5_allAreInLine).cells (zR_X5_allAreInLine).slots r st k) : zev zk_X5_allAreInLine (23, ls, v0 :: r :: st, s, k) = zret zk_X5_allAreInLine 26 ls st (k.1 + 0, k.2 + 0) (m_X6_at [r, v0] s) := zf_callV (as := [v0]) 1 rfl rfl h
theorem zr_X5_allAreInLine_26 (ls : zLs) (st : List zAV) (s : zAS) (k : Nat × Nat) (r v0 v1 v2 : zAV) (h : zcok zEC 5 0 0 (zR_X5_allAreInLine).cells (zR_X5_allAreInLine).slots r st k) : zev zk_X5_allAreInLine (26, ls, v2 :: v1 :: v0 :: r :: st, s, k) = zret zk_X5_allAreInLine 29 ls st (k.1 + 0, k.2 + 0) (m_X5_areInLine [r, v0, v1, v2] s) := zf_callV (as := [v2, v1, v0]) 3 rfl rfl h
theorem zr_X5_allAreInLine_29 (ls : zLs) (st : List zAV) (s : zAS) (k : Nat × Nat) (x : Int32) : zev zk_X5_allAreInLine (29, ls, Sum.inl (Value.int x) :: st, s, k) = if decide (¬ x = 0) = true then zev zk_X5_allAreInLine (34, ls, st, s, k) else zev zk_X5_allAreInLine (32, ls, st, s, k) := zf_if (f := fun x => decide (¬ x = 0)) rfl
theorem zr_X5_allAreInLine_32 (ls : zLs) (st : List zAV) (s : zAS) (k : Nat × Nat) : zev zk_X5_allAreInLine (32, ls, st, s, k) = zev zk_X5_allAreInLine (33, ls, Sum.inl (Value.int (0)) :: st, s, k) := zev_go rfl rfl
theorem zr_X5_allAreInLine_33 (ls : zLs) (s : zAS) (k : Nat × Nat) (x : Int32) (hx : x = 0 ∨ x = 1) : zev zk_X5_allAreInLine (33, ls, [Sum.inl (Value.int x)], s, k) = some (.inl (some (Sum.inl (Value.int x))), s) := zf_retz rfl hx
theorem zr_X5_allAreInLine_34 (a0 a1 : Option zAV) (st : List zAV) (s : zAS) (k : Nat × Nat) (x : Int32) : zev zk_X5_allAreInLine (34, [a0, a1, some (Sum.inl (Value.int x))], st, s, k) = zev zk_X5_allAreInLine (37, [a0, zk1 a1, some (Sum.inl (Value.int (x + (1))))], st, s, k) := zev_go rfl rfl
theorem zr_X5_allAreInLine_37 (ls : zLs) (st : List zAV) (s : zAS) (k : Nat × Nat) : zev zk_X5_allAreInLine (37, ls, st, s, k) = zev zk_X5_allAreInLine (2, ls, st, s, k) := zev_go rfl rfl
theorem zr_X5_allAreInLine_40 (ls : zLs) (st : List zAV) (s : zAS) (k : Nat × Nat) : zev zk_X5_allAreInLine (40, ls, st, s, k) = zev zk_X5_allAreInLine (41, ls, Sum.inl (Value.int (1)) :: st, s, k) := zev_go rfl rfl
theorem zr_X5_allAreInLine_41 (ls : zLs) (s : zAS) (k : Nat × Nat) (x : Int32) (hx : x = 0 ∨ x = 1) : zev zk_X5_allAreInLine (41, ls, [Sum.inl (Value.int x)], s, k) = some (.inl (some (Sum.inl (Value.int x))), s) := zf_retz rfl hx
/-! X5_allAreOnCircle: PrimePlane$Judge.allAreOnCircle(LPrimePlane$Row;)Z -/
abbrev zR_X5_allAreOnCircle : Room := ({ frames := 4, cells := 0, slots := 0, locals := 100 } : Room)
noncomputable def zl_X5_allAreOnCircle : List (Nat × zOp) := [(0, z_lda 0 1), (1, z_get zEC 5 0 4), (4, z_lda 0 5), (5, z_get zEC 5 3 8), (8, z_lda 1 9), (9, z_ic (0) 10), (10, z_callV zEC 6 m_X6_at 1 0 0 (zR_X5_allAreOnCircle).cells (zR_X5_allAreOnCircle).slots 13), (13, z_lda 1 14), (14, z_ic (1) 15), (15, z_callV zEC 6 m_X6_at 1 0 0 (zR_X5_allAreOnCircle).cells (zR_X5_allAreOnCircle).slots 18), (18, z_lda 1 19), (19, z_ic (2) 20), (20, z_callV zEC 6 m_X6_at 1 0 0 (zR_X5_allAreOnCircle).cells (zR_X5_allAreOnCircle).slots 23), (23, z_callV zEC 2 m_X2_circleThrough 4 0 0 (zR_X5_allAreOnCircle).cells (zR_X5_allAreOnCircle).slots 26), (26, z_if (fun x => decide (¬ x = 0)) 31 29), (29, z_ic (0) 30), (30, z_reti true), (31, z_ic (3) 32), (32, z_sti 2 33), (33, z_ldi 2 34), (34, z_lda 1 35), (35, z_get zEC 6 2 38), (38, z_cmp (fun x y => decide (y ≤ x)) 65 41), (41, z_lda 0 42), (42, z_lda 1 43), (43, z_ldi 2 44), (44, z_callV zEC 6 m_X6_at 1 0 0 (zR_X5_allAreOnCircle).cells (zR_X5_allAreOnCircle).slots 47), (47, z_lda 0 48), (48, z_get zEC 5 3 51), (51, z_callV zEC 5 m_X5_isOnCircle 2 0 0 (zR_X5_allAreOnCircle).cells (zR_X5_allAreOnCircle).slots 54), (54, z_if (fun x => decide (¬ x = 0)) 59 57), (57, z_ic (0) 58), (58, z_reti true), (59, z_iinc 2 (1) 62), (62, z_goto 33), (65, z_ic (1) 66), (66, z_reti true)]
noncomputable def zk_X5_allAreOnCircle (pc : Nat) : Option zOp := zlook zl_X5_allAreOnCircle pc
noncomputable def m_X5_allAreOnCircle : List zAV → zAS → Option zOut := zmeth zk_X5_allAreOnCircle 3
set_option maxRecDepth 100000 in
set_option maxHeartbeats 4000000 in
theorem zcs_X5_allAreOnCircle {R : Room} (hR : R = zR_X5_allAreOnCircle) : ∀ q ∈ zl_X5_allAreOnCircle, zS zEC yX5_allAreOnCircle.cls cX5_allAreOnCircle 3 wsX5_allAreOnCircle (some .boolean) R q.1 q.2 := by
  subst hR
  have hin5 : ∀ w ∈ wsX50, w ∈ wsX5_allAreOnCircle := fun w h => List.mem_cons_of_mem _ (List.mem_append_left _ (List.mem_append_left _ (List.mem_append_left _ (List.mem_append_left _ (List.mem_append_right _ h)))))
  have hin6 : ∀ w ∈ wsX60, w ∈ wsX5_allAreOnCircle := fun w h => List.mem_cons_of_mem _ (List.mem_append_left _ (List.mem_append_left _ (List.mem_append_left _ (List.mem_append_right _ h))))
  refine List.forall_mem_cons.mpr ⟨zs_aload_n dX5_allAreOnCircle_0 rfl, ?_⟩
  refine List.forall_mem_cons.mpr ⟨zs_get (ci := 5) (j := 0) (N := 4) (C := RX5) (T := TX5) (index := 12) rfl (by decide) hin5 (List.mem_of_getElem? (i := 1) rfl) dX5_allAreOnCircle_1, ?_⟩
  refine List.forall_mem_cons.mpr ⟨zs_aload_n dX5_allAreOnCircle_4 rfl, ?_⟩
  refine List.forall_mem_cons.mpr ⟨zs_get (ci := 5) (j := 3) (N := 4) (C := RX5) (T := TX5) (index := 32) rfl (by decide) hin5 (List.mem_of_getElem? (i := 2) rfl) dX5_allAreOnCircle_5, ?_⟩
  refine List.forall_mem_cons.mpr ⟨zs_aload_n dX5_allAreOnCircle_8 rfl, ?_⟩
  refine List.forall_mem_cons.mpr ⟨zs_iconst dX5_allAreOnCircle_9 (by decide), ?_⟩
  refine List.forall_mem_cons.mpr ⟨zs_callV (ci := 6) (rm := zR_X6_at) (n := 1) rfl zM_X6_at gX5_allAreOnCircle_X6_at rfl (by decide +kernel) ⟨by decide, by decide⟩ dX5_allAreOnCircle_10, ?_⟩
  refine List.forall_mem_cons.mpr ⟨zs_aload_n dX5_allAreOnCircle_13 rfl, ?_⟩
  refine List.forall_mem_cons.mpr ⟨zs_iconst dX5_allAreOnCircle_14 (by decide), ?_⟩
  refine List.forall_mem_cons.mpr ⟨zs_callV (ci := 6) (rm := zR_X6_at) (n := 1) rfl zM_X6_at gX5_allAreOnCircle_X6_at rfl (by decide +kernel) ⟨by decide, by decide⟩ dX5_allAreOnCircle_15, ?_⟩
  refine List.forall_mem_cons.mpr ⟨zs_aload_n dX5_allAreOnCircle_18 rfl, ?_⟩
  refine List.forall_mem_cons.mpr ⟨zs_iconst dX5_allAreOnCircle_19 (by decide), ?_⟩
  refine List.forall_mem_cons.mpr ⟨zs_callV (ci := 6) (rm := zR_X6_at) (n := 1) rfl zM_X6_at gX5_allAreOnCircle_X6_at rfl (by decide +kernel) ⟨by decide, by decide⟩ dX5_allAreOnCircle_20, ?_⟩
  refine List.forall_mem_cons.mpr ⟨zs_callV (ci := 2) (rm := zR_X2_circleThrough) (n := 4) rfl zM_X2_circleThrough gX5_allAreOnCircle_X2_circleThrough rfl (by decide +kernel) ⟨by decide, by decide⟩ dX5_allAreOnCircle_23, ?_⟩
  refine List.forall_mem_cons.mpr ⟨zs_ifne dX5_allAreOnCircle_26 (by decide), ?_⟩
  refine List.forall_mem_cons.mpr ⟨zs_iconst dX5_allAreOnCircle_29 (by decide), ?_⟩
  refine List.forall_mem_cons.mpr ⟨zs_reti (ty := .boolean) rfl (fun x h => (znz x h).1) dX5_allAreOnCircle_30, ?_⟩
  refine List.forall_mem_cons.mpr ⟨zs_iconst dX5_allAreOnCircle_31 (by decide), ?_⟩
  refine List.forall_mem_cons.mpr ⟨zs_istore_n dX5_allAreOnCircle_32 rfl, ?_⟩
  refine List.forall_mem_cons.mpr ⟨zs_iload_n dX5_allAreOnCircle_33 rfl, ?_⟩
  refine List.forall_mem_cons.mpr ⟨zs_aload_n dX5_allAreOnCircle_34 rfl, ?_⟩
  refine List.forall_mem_cons.mpr ⟨zs_get (ci := 6) (j := 2) (N := 3) (C := RX6) (T := TX6) (index := 79) rfl (by decide) hin6 (List.mem_of_getElem? (i := 3) rfl) dX5_allAreOnCircle_35, ?_⟩
  refine List.forall_mem_cons.mpr ⟨zs_icge dX5_allAreOnCircle_38 (by decide), ?_⟩
  refine List.forall_mem_cons.mpr ⟨zs_aload_n dX5_allAreOnCircle_41 rfl, ?_⟩
  refine List.forall_mem_cons.mpr ⟨zs_aload_n dX5_allAreOnCircle_42 rfl, ?_⟩
  refine List.forall_mem_cons.mpr ⟨zs_iload_n dX5_allAreOnCircle_43 rfl, ?_⟩
  refine List.forall_mem_cons.mpr ⟨zs_callV (ci := 6) (rm := zR_X6_at) (n := 1) rfl zM_X6_at gX5_allAreOnCircle_X6_at rfl (by decide +kernel) ⟨by decide, by decide⟩ dX5_allAreOnCircle_44, ?_⟩
  refine List.forall_mem_cons.mpr ⟨zs_aload_n dX5_allAreOnCircle_47 rfl, ?_⟩
  refine List.forall_mem_cons.mpr ⟨zs_get (ci := 5) (j := 3) (N := 4) (C := RX5) (T := TX5) (index := 32) rfl (by decide) hin5 (List.mem_of_getElem? (i := 2) rfl) dX5_allAreOnCircle_48, ?_⟩
  refine List.forall_mem_cons.mpr ⟨zs_callV (ci := 5) (rm := zR_X5_isOnCircle) (n := 2) rfl zM_X5_isOnCircle gX5_allAreOnCircle_X5_isOnCircle rfl (by decide +kernel) ⟨by decide, by decide⟩ dX5_allAreOnCircle_51, ?_⟩
  refine List.forall_mem_cons.mpr ⟨zs_ifne dX5_allAreOnCircle_54 (by decide), ?_⟩
  refine List.forall_mem_cons.mpr ⟨zs_iconst dX5_allAreOnCircle_57 (by decide), ?_⟩
  refine List.forall_mem_cons.mpr ⟨zs_reti (ty := .boolean) rfl (fun x h => (znz x h).1) dX5_allAreOnCircle_58, ?_⟩
  refine List.forall_mem_cons.mpr ⟨zs_iinc dX5_allAreOnCircle_59 (by decide), ?_⟩
  refine List.forall_mem_cons.mpr ⟨zs_goto dX5_allAreOnCircle_62 (by decide), ?_⟩
  refine List.forall_mem_cons.mpr ⟨zs_iconst dX5_allAreOnCircle_65 (by decide), ?_⟩
  refine List.forall_mem_cons.mpr ⟨zs_reti (ty := .boolean) rfl (fun x h => (znz x h).1) dX5_allAreOnCircle_66, ?_⟩
  exact fun _ h => absurd h List.not_mem_nil
theorem zM_X5_allAreOnCircle : zMeets zEC yX5_allAreOnCircle wsX5_allAreOnCircle zR_X5_allAreOnCircle m_X5_allAreOnCircle := zmeth_M zECok (zlook_all (zcs_X5_allAreOnCircle rfl)) (by decide +kernel) rfl
theorem zr_X5_allAreOnCircle_0 (a1 a2 : Option zAV) (st : List zAV) (s : zAS) (k : Nat × Nat) (o : Nat × Nat) : zev zk_X5_allAreOnCircle (0, [some (Sum.inr o), a1, a2], st, s, k) = zev zk_X5_allAreOnCircle (1, [some (Sum.inr o), a1, a2], Sum.inr o :: st, s, k) := zev_go rfl rfl
theorem zr_X5_allAreOnCircle_1 (ls : zLs) (st : List zAV) (s : zAS) (k : Nat × Nat) (o i : Nat) : zev zk_X5_allAreOnCircle (1, ls, Sum.inr (o, i) :: st, s, k) = zpush zk_X5_allAreOnCircle 4 ls st s k (zgv zEC 5 0 o i s.1) := zf_get rfl
theorem zr_X5_allAreOnCircle_4 (a1 a2 : Option zAV) (st : List zAV) (s : zAS) (k : Nat × Nat) (o : Nat × Nat) : zev zk_X5_allAreOnCircle (4, [some (Sum.inr o), a1, a2], st, s, k) = zev zk_X5_allAreOnCircle (5, [some (Sum.inr o), a1, a2], Sum.inr o :: st, s, k) := zev_go rfl rfl
theorem zr_X5_allAreOnCircle_5 (ls : zLs) (st : List zAV) (s : zAS) (k : Nat × Nat) (o i : Nat) : zev zk_X5_allAreOnCircle (5, ls, Sum.inr (o, i) :: st, s, k) = zpush zk_X5_allAreOnCircle 8 ls st s k (zgv zEC 5 3 o i s.1) := zf_get rfl
theorem zr_X5_allAreOnCircle_8 (a0 a2 : Option zAV) (st : List zAV) (s : zAS) (k : Nat × Nat) (o : Nat × Nat) : zev zk_X5_allAreOnCircle (8, [a0, some (Sum.inr o), a2], st, s, k) = zev zk_X5_allAreOnCircle (9, [a0, some (Sum.inr o), a2], Sum.inr o :: st, s, k) := zev_go rfl rfl
theorem zr_X5_allAreOnCircle_9 (ls : zLs) (st : List zAV) (s : zAS) (k : Nat × Nat) : zev zk_X5_allAreOnCircle (9, ls, st, s, k) = zev zk_X5_allAreOnCircle (10, ls, Sum.inl (Value.int (0)) :: st, s, k) := zev_go rfl rfl
theorem zr_X5_allAreOnCircle_10 (ls : zLs) (st : List zAV) (s : zAS) (k : Nat × Nat) (r v0 : zAV) (h : zcok zEC 6 0 0 (zR_X5_allAreOnCircle).cells (zR_X5_allAreOnCircle).slots r st k) : zev zk_X5_allAreOnCircle (10, ls, v0 :: r :: st, s, k) = zret zk_X5_allAreOnCircle 13 ls st (k.1 + 0, k.2 + 0) (m_X6_at [r, v0] s) := zf_callV (as := [v0]) 1 rfl rfl h
theorem zr_X5_allAreOnCircle_13 (a0 a2 : Option zAV) (st : List zAV) (s : zAS) (k : Nat × Nat) (o : Nat × Nat) : zev zk_X5_allAreOnCircle (13, [a0, some (Sum.inr o), a2], st, s, k) = zev zk_X5_allAreOnCircle (14, [a0, some (Sum.inr o), a2], Sum.inr o :: st, s, k) := zev_go rfl rfl
theorem zr_X5_allAreOnCircle_14 (ls : zLs) (st : List zAV) (s : zAS) (k : Nat × Nat) : zev zk_X5_allAreOnCircle (14, ls, st, s, k) = zev zk_X5_allAreOnCircle (15, ls, Sum.inl (Value.int (1)) :: st, s, k) := zev_go rfl rfl
theorem zr_X5_allAreOnCircle_15 (ls : zLs) (st : List zAV) (s : zAS) (k : Nat × Nat) (r v0 : zAV) (h : zcok zEC 6 0 0 (zR_X5_allAreOnCircle).cells (zR_X5_allAreOnCircle).slots r st k) : zev zk_X5_allAreOnCircle (15, ls, v0 :: r :: st, s, k) = zret zk_X5_allAreOnCircle 18 ls st (k.1 + 0, k.2 + 0) (m_X6_at [r, v0] s) := zf_callV (as := [v0]) 1 rfl rfl h
theorem zr_X5_allAreOnCircle_18 (a0 a2 : Option zAV) (st : List zAV) (s : zAS) (k : Nat × Nat) (o : Nat × Nat) : zev zk_X5_allAreOnCircle (18, [a0, some (Sum.inr o), a2], st, s, k) = zev zk_X5_allAreOnCircle (19, [a0, some (Sum.inr o), a2], Sum.inr o :: st, s, k) := zev_go rfl rfl
theorem zr_X5_allAreOnCircle_19 (ls : zLs) (st : List zAV) (s : zAS) (k : Nat × Nat) : zev zk_X5_allAreOnCircle (19, ls, st, s, k) = zev zk_X5_allAreOnCircle (20, ls, Sum.inl (Value.int (2)) :: st, s, k) := zev_go rfl rfl
theorem zr_X5_allAreOnCircle_20 (ls : zLs) (st : List zAV) (s : zAS) (k : Nat × Nat) (r v0 : zAV) (h : zcok zEC 6 0 0 (zR_X5_allAreOnCircle).cells (zR_X5_allAreOnCircle).slots r st k) : zev zk_X5_allAreOnCircle (20, ls, v0 :: r :: st, s, k) = zret zk_X5_allAreOnCircle 23 ls st (k.1 + 0, k.2 + 0) (m_X6_at [r, v0] s) := zf_callV (as := [v0]) 1 rfl rfl h
theorem zr_X5_allAreOnCircle_23 (ls : zLs) (st : List zAV) (s : zAS) (k : Nat × Nat) (r v0 v1 v2 v3 : zAV) (h : zcok zEC 2 0 0 (zR_X5_allAreOnCircle).cells (zR_X5_allAreOnCircle).slots r st k) : zev zk_X5_allAreOnCircle (23, ls, v3 :: v2 :: v1 :: v0 :: r :: st, s, k) = zret zk_X5_allAreOnCircle 26 ls st (k.1 + 0, k.2 + 0) (m_X2_circleThrough [r, v0, v1, v2, v3] s) := zf_callV (as := [v3, v2, v1, v0]) 4 rfl rfl h
theorem zr_X5_allAreOnCircle_26 (ls : zLs) (st : List zAV) (s : zAS) (k : Nat × Nat) (x : Int32) : zev zk_X5_allAreOnCircle (26, ls, Sum.inl (Value.int x) :: st, s, k) = if decide (¬ x = 0) = true then zev zk_X5_allAreOnCircle (31, ls, st, s, k) else zev zk_X5_allAreOnCircle (29, ls, st, s, k) := zf_if (f := fun x => decide (¬ x = 0)) rfl
theorem zr_X5_allAreOnCircle_29 (ls : zLs) (st : List zAV) (s : zAS) (k : Nat × Nat) : zev zk_X5_allAreOnCircle (29, ls, st, s, k) = zev zk_X5_allAreOnCircle (30, ls, Sum.inl (Value.int (0)) :: st, s, k) := zev_go rfl rfl
theorem zr_X5_allAreOnCircle_30 (ls : zLs) (s : zAS) (k : Nat × Nat) (x : Int32) (hx : x = 0 ∨ x = 1) : zev zk_X5_allAreOnCircle (30, ls, [Sum.inl (Value.int x)], s, k) = some (.inl (some (Sum.inl (Value.int x))), s) := zf_retz rfl hx
theorem zr_X5_allAreOnCircle_31 (ls : zLs) (st : List zAV) (s : zAS) (k : Nat × Nat) : zev zk_X5_allAreOnCircle (31, ls, st, s, k) = zev zk_X5_allAreOnCircle (32, ls, Sum.inl (Value.int (3)) :: st, s, k) := zev_go rfl rfl
theorem zr_X5_allAreOnCircle_32 (a0 a1 a2 : Option zAV) (st : List zAV) (s : zAS) (k : Nat × Nat) (x : Int32) : zev zk_X5_allAreOnCircle (32, [a0, a1, a2], Sum.inl (Value.int x) :: st, s, k) = zev zk_X5_allAreOnCircle (33, [a0, zk1 a1, some (Sum.inl (Value.int x))], st, s, k) := zev_go rfl rfl
theorem zr_X5_allAreOnCircle_33 (a0 a1 : Option zAV) (st : List zAV) (s : zAS) (k : Nat × Nat) (x : Int32) : zev zk_X5_allAreOnCircle (33, [a0, a1, some (Sum.inl (Value.int x))], st, s, k) = zev zk_X5_allAreOnCircle (34, [a0, a1, some (Sum.inl (Value.int x))], Sum.inl (Value.int x) :: st, s, k) := zev_go rfl rfl
theorem zr_X5_allAreOnCircle_34 (a0 a2 : Option zAV) (st : List zAV) (s : zAS) (k : Nat × Nat) (o : Nat × Nat) : zev zk_X5_allAreOnCircle (34, [a0, some (Sum.inr o), a2], st, s, k) = zev zk_X5_allAreOnCircle (35, [a0, some (Sum.inr o), a2], Sum.inr o :: st, s, k) := zev_go rfl rfl
theorem zr_X5_allAreOnCircle_35 (ls : zLs) (st : List zAV) (s : zAS) (k : Nat × Nat) (o i : Nat) : zev zk_X5_allAreOnCircle (35, ls, Sum.inr (o, i) :: st, s, k) = zpush zk_X5_allAreOnCircle 38 ls st s k (zgv zEC 6 2 o i s.1) := zf_get rfl
theorem zr_X5_allAreOnCircle_38 (ls : zLs) (st : List zAV) (s : zAS) (k : Nat × Nat) (x y : Int32) : zev zk_X5_allAreOnCircle (38, ls, Sum.inl (Value.int y) :: Sum.inl (Value.int x) :: st, s, k) = if decide (y ≤ x) = true then zev zk_X5_allAreOnCircle (65, ls, st, s, k) else zev zk_X5_allAreOnCircle (41, ls, st, s, k) := zf_cmp (f := fun x y => decide (y ≤ x)) rfl
theorem zr_X5_allAreOnCircle_41 (a1 a2 : Option zAV) (st : List zAV) (s : zAS) (k : Nat × Nat) (o : Nat × Nat) : zev zk_X5_allAreOnCircle (41, [some (Sum.inr o), a1, a2], st, s, k) = zev zk_X5_allAreOnCircle (42, [some (Sum.inr o), a1, a2], Sum.inr o :: st, s, k) := zev_go rfl rfl
theorem zr_X5_allAreOnCircle_42 (a0 a2 : Option zAV) (st : List zAV) (s : zAS) (k : Nat × Nat) (o : Nat × Nat) : zev zk_X5_allAreOnCircle (42, [a0, some (Sum.inr o), a2], st, s, k) = zev zk_X5_allAreOnCircle (43, [a0, some (Sum.inr o), a2], Sum.inr o :: st, s, k) := zev_go rfl rfl
theorem zr_X5_allAreOnCircle_43 (a0 a1 : Option zAV) (st : List zAV) (s : zAS) (k : Nat × Nat) (x : Int32) : zev zk_X5_allAreOnCircle (43, [a0, a1, some (Sum.inl (Value.int x))], st, s, k) = zev zk_X5_allAreOnCircle (44, [a0, a1, some (Sum.inl (Value.int x))], Sum.inl (Value.int x) :: st, s, k) := zev_go rfl rfl
theorem zr_X5_allAreOnCircle_44 (ls : zLs) (st : List zAV) (s : zAS) (k : Nat × Nat) (r v0 : zAV) (h : zcok zEC 6 0 0 (zR_X5_allAreOnCircle).cells (zR_X5_allAreOnCircle).slots r st k) : zev zk_X5_allAreOnCircle (44, ls, v0 :: r :: st, s, k) = zret zk_X5_allAreOnCircle 47 ls st (k.1 + 0, k.2 + 0) (m_X6_at [r, v0] s) := zf_callV (as := [v0]) 1 rfl rfl h
theorem zr_X5_allAreOnCircle_47 (a1 a2 : Option zAV) (st : List zAV) (s : zAS) (k : Nat × Nat) (o : Nat × Nat) : zev zk_X5_allAreOnCircle (47, [some (Sum.inr o), a1, a2], st, s, k) = zev zk_X5_allAreOnCircle (48, [some (Sum.inr o), a1, a2], Sum.inr o :: st, s, k) := zev_go rfl rfl
theorem zr_X5_allAreOnCircle_48 (ls : zLs) (st : List zAV) (s : zAS) (k : Nat × Nat) (o i : Nat) : zev zk_X5_allAreOnCircle (48, ls, Sum.inr (o, i) :: st, s, k) = zpush zk_X5_allAreOnCircle 51 ls st s k (zgv zEC 5 3 o i s.1) := zf_get rfl
theorem zr_X5_allAreOnCircle_51 (ls : zLs) (st : List zAV) (s : zAS) (k : Nat × Nat) (r v0 v1 : zAV) (h : zcok zEC 5 0 0 (zR_X5_allAreOnCircle).cells (zR_X5_allAreOnCircle).slots r st k) : zev zk_X5_allAreOnCircle (51, ls, v1 :: v0 :: r :: st, s, k) = zret zk_X5_allAreOnCircle 54 ls st (k.1 + 0, k.2 + 0) (m_X5_isOnCircle [r, v0, v1] s) := zf_callV (as := [v1, v0]) 2 rfl rfl h
theorem zr_X5_allAreOnCircle_54 (ls : zLs) (st : List zAV) (s : zAS) (k : Nat × Nat) (x : Int32) : zev zk_X5_allAreOnCircle (54, ls, Sum.inl (Value.int x) :: st, s, k) = if decide (¬ x = 0) = true then zev zk_X5_allAreOnCircle (59, ls, st, s, k) else zev zk_X5_allAreOnCircle (57, ls, st, s, k) := zf_if (f := fun x => decide (¬ x = 0)) rfl
theorem zr_X5_allAreOnCircle_57 (ls : zLs) (st : List zAV) (s : zAS) (k : Nat × Nat) : zev zk_X5_allAreOnCircle (57, ls, st, s, k) = zev zk_X5_allAreOnCircle (58, ls, Sum.inl (Value.int (0)) :: st, s, k) := zev_go rfl rfl
theorem zr_X5_allAreOnCircle_58 (ls : zLs) (s : zAS) (k : Nat × Nat) (x : Int32) (hx : x = 0 ∨ x = 1) : zev zk_X5_allAreOnCircle (58, ls, [Sum.inl (Value.int x)], s, k) = some (.inl (some (Sum.inl (Value.int x))), s) := zf_retz rfl hx
theorem zr_X5_allAreOnCircle_59 (a0 a1 : Option zAV) (st : List zAV) (s : zAS) (k : Nat × Nat) (x : Int32) : zev zk_X5_allAreOnCircle (59, [a0, a1, some (Sum.inl (Value.int x))], st, s, k) = zev zk_X5_allAreOnCircle (62, [a0, zk1 a1, some (Sum.inl (Value.int (x + (1))))], st, s, k) := zev_go rfl rfl
theorem zr_X5_allAreOnCircle_62 (ls : zLs) (st : List zAV) (s : zAS) (k : Nat × Nat) : zev zk_X5_allAreOnCircle (62, ls, st, s, k) = zev zk_X5_allAreOnCircle (33, ls, st, s, k) := zev_go rfl rfl
theorem zr_X5_allAreOnCircle_65 (ls : zLs) (st : List zAV) (s : zAS) (k : Nat × Nat) : zev zk_X5_allAreOnCircle (65, ls, st, s, k) = zev zk_X5_allAreOnCircle (66, ls, Sum.inl (Value.int (1)) :: st, s, k) := zev_go rfl rfl
theorem zr_X5_allAreOnCircle_66 (ls : zLs) (s : zAS) (k : Nat × Nat) (x : Int32) (hx : x = 0 ∨ x = 1) : zev zk_X5_allAreOnCircle (66, ls, [Sum.inl (Value.int x)], s, k) = some (.inl (some (Sum.inl (Value.int x))), s) := zf_retz rfl hx
/-! X5_shapeOf: PrimePlane$Judge.shapeOf(LPrimePlane$Row;)I -/
abbrev zR_X5_shapeOf : Room := ({ frames := 5, cells := 0, slots := 0, locals := 122 } : Room)
noncomputable def zl_X5_shapeOf : List (Nat × zOp) := [(0, z_lda 1 1), (1, z_get zEC 6 2 4), (4, z_ic (2) 5), (5, z_cmp (fun x y => decide (y < x)) 10 8), (8, z_ic (0) 9), (9, z_reti false), (10, z_lda 0 11), (11, z_lda 1 12), (12, z_callV zEC 5 m_X5_allAreInLine 1 0 0 (zR_X5_shapeOf).cells (zR_X5_shapeOf).slots 15), (15, z_if (fun x => decide (x = 0)) 20 18), (18, z_ic (1) 19), (19, z_reti false), (20, z_lda 0 21), (21, z_lda 1 22), (22, z_callV zEC 5 m_X5_allAreOnCircle 1 0 0 (zR_X5_shapeOf).cells (zR_X5_shapeOf).slots 25), (25, z_if (fun x => decide (x = 0)) 32 28), (28, z_ic (2) 29), (29, z_goto 33), (32, z_ic (3) 33), (33, z_reti false)]
noncomputable def zk_X5_shapeOf (pc : Nat) : Option zOp := zlook zl_X5_shapeOf pc
noncomputable def m_X5_shapeOf : List zAV → zAS → Option zOut := zmeth zk_X5_shapeOf 2
set_option maxRecDepth 100000 in
set_option maxHeartbeats 4000000 in
theorem zcs_X5_shapeOf {R : Room} (hR : R = zR_X5_shapeOf) : ∀ q ∈ zl_X5_shapeOf, zS zEC yX5_shapeOf.cls cX5_shapeOf 2 wsX5_shapeOf (some .int) R q.1 q.2 := by
  subst hR
  have hin6 : ∀ w ∈ wsX60, w ∈ wsX5_shapeOf := fun w h => List.mem_cons_of_mem _ (List.mem_append_left _ (List.mem_append_left _ (List.mem_append_left _ (List.mem_append_left _ (List.mem_append_right _ h)))))
  refine List.forall_mem_cons.mpr ⟨zs_aload_n dX5_shapeOf_0 rfl, ?_⟩
  refine List.forall_mem_cons.mpr ⟨zs_get (ci := 6) (j := 2) (N := 3) (C := RX6) (T := TX6) (index := 79) rfl (by decide) hin6 (List.mem_of_getElem? (i := 1) rfl) dX5_shapeOf_1, ?_⟩
  refine List.forall_mem_cons.mpr ⟨zs_iconst dX5_shapeOf_4 (by decide), ?_⟩
  refine List.forall_mem_cons.mpr ⟨zs_icgt dX5_shapeOf_5 (by decide), ?_⟩
  refine List.forall_mem_cons.mpr ⟨zs_iconst dX5_shapeOf_8 (by decide), ?_⟩
  refine List.forall_mem_cons.mpr ⟨zs_reti (ty := .int) rfl (fun x h => (zni x h).1) dX5_shapeOf_9, ?_⟩
  refine List.forall_mem_cons.mpr ⟨zs_aload_n dX5_shapeOf_10 rfl, ?_⟩
  refine List.forall_mem_cons.mpr ⟨zs_aload_n dX5_shapeOf_11 rfl, ?_⟩
  refine List.forall_mem_cons.mpr ⟨zs_callV (ci := 5) (rm := zR_X5_allAreInLine) (n := 1) rfl zM_X5_allAreInLine gX5_shapeOf_X5_allAreInLine rfl (by decide +kernel) ⟨by decide, by decide⟩ dX5_shapeOf_12, ?_⟩
  refine List.forall_mem_cons.mpr ⟨zs_ifeq dX5_shapeOf_15 (by decide), ?_⟩
  refine List.forall_mem_cons.mpr ⟨zs_iconst dX5_shapeOf_18 (by decide), ?_⟩
  refine List.forall_mem_cons.mpr ⟨zs_reti (ty := .int) rfl (fun x h => (zni x h).1) dX5_shapeOf_19, ?_⟩
  refine List.forall_mem_cons.mpr ⟨zs_aload_n dX5_shapeOf_20 rfl, ?_⟩
  refine List.forall_mem_cons.mpr ⟨zs_aload_n dX5_shapeOf_21 rfl, ?_⟩
  refine List.forall_mem_cons.mpr ⟨zs_callV (ci := 5) (rm := zR_X5_allAreOnCircle) (n := 1) rfl zM_X5_allAreOnCircle gX5_shapeOf_X5_allAreOnCircle rfl (by decide +kernel) ⟨by decide, by decide⟩ dX5_shapeOf_22, ?_⟩
  refine List.forall_mem_cons.mpr ⟨zs_ifeq dX5_shapeOf_25 (by decide), ?_⟩
  refine List.forall_mem_cons.mpr ⟨zs_iconst dX5_shapeOf_28 (by decide), ?_⟩
  refine List.forall_mem_cons.mpr ⟨zs_goto dX5_shapeOf_29 (by decide), ?_⟩
  refine List.forall_mem_cons.mpr ⟨zs_iconst dX5_shapeOf_32 (by decide), ?_⟩
  refine List.forall_mem_cons.mpr ⟨zs_reti (ty := .int) rfl (fun x h => (zni x h).1) dX5_shapeOf_33, ?_⟩
  exact fun _ h => absurd h List.not_mem_nil
theorem zM_X5_shapeOf : zMeets zEC yX5_shapeOf wsX5_shapeOf zR_X5_shapeOf m_X5_shapeOf := zmeth_M zECok (zlook_all (zcs_X5_shapeOf rfl)) (by decide +kernel) rfl
theorem zr_X5_shapeOf_0 (a0 : Option zAV) (st : List zAV) (s : zAS) (k : Nat × Nat) (o : Nat × Nat) : zev zk_X5_shapeOf (0, [a0, some (Sum.inr o)], st, s, k) = zev zk_X5_shapeOf (1, [a0, some (Sum.inr o)], Sum.inr o :: st, s, k) := zev_go rfl rfl
theorem zr_X5_shapeOf_1 (ls : zLs) (st : List zAV) (s : zAS) (k : Nat × Nat) (o i : Nat) : zev zk_X5_shapeOf (1, ls, Sum.inr (o, i) :: st, s, k) = zpush zk_X5_shapeOf 4 ls st s k (zgv zEC 6 2 o i s.1) := zf_get rfl
theorem zr_X5_shapeOf_4 (ls : zLs) (st : List zAV) (s : zAS) (k : Nat × Nat) : zev zk_X5_shapeOf (4, ls, st, s, k) = zev zk_X5_shapeOf (5, ls, Sum.inl (Value.int (2)) :: st, s, k) := zev_go rfl rfl
theorem zr_X5_shapeOf_5 (ls : zLs) (st : List zAV) (s : zAS) (k : Nat × Nat) (x y : Int32) : zev zk_X5_shapeOf (5, ls, Sum.inl (Value.int y) :: Sum.inl (Value.int x) :: st, s, k) = if decide (y < x) = true then zev zk_X5_shapeOf (10, ls, st, s, k) else zev zk_X5_shapeOf (8, ls, st, s, k) := zf_cmp (f := fun x y => decide (y < x)) rfl
theorem zr_X5_shapeOf_8 (ls : zLs) (st : List zAV) (s : zAS) (k : Nat × Nat) : zev zk_X5_shapeOf (8, ls, st, s, k) = zev zk_X5_shapeOf (9, ls, Sum.inl (Value.int (0)) :: st, s, k) := zev_go rfl rfl
theorem zr_X5_shapeOf_9 (ls : zLs) (s : zAS) (k : Nat × Nat) (x : Int32) : zev zk_X5_shapeOf (9, ls, [Sum.inl (Value.int x)], s, k) = some (.inl (some (Sum.inl (Value.int x))), s) := zf_reti rfl
theorem zr_X5_shapeOf_10 (a1 : Option zAV) (st : List zAV) (s : zAS) (k : Nat × Nat) (o : Nat × Nat) : zev zk_X5_shapeOf (10, [some (Sum.inr o), a1], st, s, k) = zev zk_X5_shapeOf (11, [some (Sum.inr o), a1], Sum.inr o :: st, s, k) := zev_go rfl rfl
theorem zr_X5_shapeOf_11 (a0 : Option zAV) (st : List zAV) (s : zAS) (k : Nat × Nat) (o : Nat × Nat) : zev zk_X5_shapeOf (11, [a0, some (Sum.inr o)], st, s, k) = zev zk_X5_shapeOf (12, [a0, some (Sum.inr o)], Sum.inr o :: st, s, k) := zev_go rfl rfl
theorem zr_X5_shapeOf_12 (ls : zLs) (st : List zAV) (s : zAS) (k : Nat × Nat) (r v0 : zAV) (h : zcok zEC 5 0 0 (zR_X5_shapeOf).cells (zR_X5_shapeOf).slots r st k) : zev zk_X5_shapeOf (12, ls, v0 :: r :: st, s, k) = zret zk_X5_shapeOf 15 ls st (k.1 + 0, k.2 + 0) (m_X5_allAreInLine [r, v0] s) := zf_callV (as := [v0]) 1 rfl rfl h
theorem zr_X5_shapeOf_15 (ls : zLs) (st : List zAV) (s : zAS) (k : Nat × Nat) (x : Int32) : zev zk_X5_shapeOf (15, ls, Sum.inl (Value.int x) :: st, s, k) = if decide (x = 0) = true then zev zk_X5_shapeOf (20, ls, st, s, k) else zev zk_X5_shapeOf (18, ls, st, s, k) := zf_if (f := fun x => decide (x = 0)) rfl
theorem zr_X5_shapeOf_18 (ls : zLs) (st : List zAV) (s : zAS) (k : Nat × Nat) : zev zk_X5_shapeOf (18, ls, st, s, k) = zev zk_X5_shapeOf (19, ls, Sum.inl (Value.int (1)) :: st, s, k) := zev_go rfl rfl
theorem zr_X5_shapeOf_19 (ls : zLs) (s : zAS) (k : Nat × Nat) (x : Int32) : zev zk_X5_shapeOf (19, ls, [Sum.inl (Value.int x)], s, k) = some (.inl (some (Sum.inl (Value.int x))), s) := zf_reti rfl
theorem zr_X5_shapeOf_20 (a1 : Option zAV) (st : List zAV) (s : zAS) (k : Nat × Nat) (o : Nat × Nat) : zev zk_X5_shapeOf (20, [some (Sum.inr o), a1], st, s, k) = zev zk_X5_shapeOf (21, [some (Sum.inr o), a1], Sum.inr o :: st, s, k) := zev_go rfl rfl
theorem zr_X5_shapeOf_21 (a0 : Option zAV) (st : List zAV) (s : zAS) (k : Nat × Nat) (o : Nat × Nat) : zev zk_X5_shapeOf (21, [a0, some (Sum.inr o)], st, s, k) = zev zk_X5_shapeOf (22, [a0, some (Sum.inr o)], Sum.inr o :: st, s, k) := zev_go rfl rfl
theorem zr_X5_shapeOf_22 (ls : zLs) (st : List zAV) (s : zAS) (k : Nat × Nat) (r v0 : zAV) (h : zcok zEC 5 0 0 (zR_X5_shapeOf).cells (zR_X5_shapeOf).slots r st k) : zev zk_X5_shapeOf (22, ls, v0 :: r :: st, s, k) = zret zk_X5_shapeOf 25 ls st (k.1 + 0, k.2 + 0) (m_X5_allAreOnCircle [r, v0] s) := zf_callV (as := [v0]) 1 rfl rfl h
theorem zr_X5_shapeOf_25 (ls : zLs) (st : List zAV) (s : zAS) (k : Nat × Nat) (x : Int32) : zev zk_X5_shapeOf (25, ls, Sum.inl (Value.int x) :: st, s, k) = if decide (x = 0) = true then zev zk_X5_shapeOf (32, ls, st, s, k) else zev zk_X5_shapeOf (28, ls, st, s, k) := zf_if (f := fun x => decide (x = 0)) rfl
theorem zr_X5_shapeOf_28 (ls : zLs) (st : List zAV) (s : zAS) (k : Nat × Nat) : zev zk_X5_shapeOf (28, ls, st, s, k) = zev zk_X5_shapeOf (29, ls, Sum.inl (Value.int (2)) :: st, s, k) := zev_go rfl rfl
theorem zr_X5_shapeOf_29 (ls : zLs) (st : List zAV) (s : zAS) (k : Nat × Nat) : zev zk_X5_shapeOf (29, ls, st, s, k) = zev zk_X5_shapeOf (33, ls, st, s, k) := zev_go rfl rfl
theorem zr_X5_shapeOf_32 (ls : zLs) (st : List zAV) (s : zAS) (k : Nat × Nat) : zev zk_X5_shapeOf (32, ls, st, s, k) = zev zk_X5_shapeOf (33, ls, Sum.inl (Value.int (3)) :: st, s, k) := zev_go rfl rfl
theorem zr_X5_shapeOf_33 (ls : zLs) (s : zAS) (k : Nat × Nat) (x : Int32) : zev zk_X5_shapeOf (33, ls, [Sum.inl (Value.int x)], s, k) = some (.inl (some (Sum.inl (Value.int x))), s) := zf_reti rfl
