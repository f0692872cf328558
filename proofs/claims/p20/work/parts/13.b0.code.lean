/-! X2_putPoint: PrimePlane$Compass.putPoint(LPrimePlane$Figure;II)Z -/
abbrev zR_X2_putPoint : Room := ({ frames := 2, cells := 0, slots := 0, locals := 43 } : Room)
noncomputable def zl_X2_putPoint : List (Nat × zOp) := [(0, z_lda 1 1), (1, z_lda 0 2), (2, z_get zEC 2 0 5), (5, z_ldi 2 6), (6, z_callV zEC 3 m_X3_rest 1 0 0 (zR_X2_putPoint).cells (zR_X2_putPoint).slots 9), (9, z_lda 0 10), (10, z_get zEC 2 0 13), (13, z_ldi 3 14), (14, z_callV zEC 3 m_X3_rest 1 0 0 (zR_X2_putPoint).cells (zR_X2_putPoint).slots 17), (17, z_ic (0) 18), (18, z_callV zEC 4 m_X4_put 3 0 0 (zR_X2_putPoint).cells (zR_X2_putPoint).slots 21), (21, z_ic (1) 22), (22, z_reti true)]
noncomputable def zk_X2_putPoint (pc : Nat) : Option zOp := zlook zl_X2_putPoint pc
noncomputable def m_X2_putPoint : List zAV → zAS → Option zOut := zmeth zk_X2_putPoint 4
set_option maxRecDepth 100000 in
set_option maxHeartbeats 4000000 in
theorem zcs_X2_putPoint {R : Room} (hR : R = zR_X2_putPoint) : ∀ q ∈ zl_X2_putPoint, zS zEC yX2_putPoint.cls cX2_putPoint 4 wsX2_putPoint (some .boolean) R q.1 q.2 := by
  subst hR
  have hin2 : ∀ w ∈ wsX20, w ∈ wsX2_putPoint := fun w h => List.mem_cons_of_mem _ (List.mem_append_left _ (List.mem_append_left _ (List.mem_append_right _ h)))
  refine List.forall_mem_cons.mpr ⟨zs_aload_n dX2_putPoint_0 rfl, ?_⟩
  refine List.forall_mem_cons.mpr ⟨zs_aload_n dX2_putPoint_1 rfl, ?_⟩
  refine List.forall_mem_cons.mpr ⟨zs_get (ci := 2) (j := 0) (N := 2) (C := RX2) (T := TX2) (index := 12) rfl (by decide) hin2 (List.mem_of_getElem? (i := 1) rfl) dX2_putPoint_2, ?_⟩
  refine List.forall_mem_cons.mpr ⟨zs_iload_n dX2_putPoint_5 rfl, ?_⟩
  refine List.forall_mem_cons.mpr ⟨zs_callV (ci := 3) (rm := zR_X3_rest) (n := 1) rfl zM_X3_rest gX2_putPoint_X3_rest rfl (by decide +kernel) ⟨by decide, by decide⟩ dX2_putPoint_6, ?_⟩
  refine List.forall_mem_cons.mpr ⟨zs_aload_n dX2_putPoint_9 rfl, ?_⟩
  refine List.forall_mem_cons.mpr ⟨zs_get (ci := 2) (j := 0) (N := 2) (C := RX2) (T := TX2) (index := 12) rfl (by decide) hin2 (List.mem_of_getElem? (i := 1) rfl) dX2_putPoint_10, ?_⟩
  refine List.forall_mem_cons.mpr ⟨zs_iload_n dX2_putPoint_13 rfl, ?_⟩
  refine List.forall_mem_cons.mpr ⟨zs_callV (ci := 3) (rm := zR_X3_rest) (n := 1) rfl zM_X3_rest gX2_putPoint_X3_rest rfl (by decide +kernel) ⟨by decide, by decide⟩ dX2_putPoint_14, ?_⟩
  refine List.forall_mem_cons.mpr ⟨zs_iconst dX2_putPoint_17 (by decide), ?_⟩
  refine List.forall_mem_cons.mpr ⟨zs_callV (ci := 4) (rm := zR_X4_put) (n := 3) rfl zM_X4_put gX2_putPoint_X4_put rfl (by decide +kernel) ⟨by decide, by decide⟩ dX2_putPoint_18, ?_⟩
  refine List.forall_mem_cons.mpr ⟨zs_iconst dX2_putPoint_21 (by decide), ?_⟩
  refine List.forall_mem_cons.mpr ⟨zs_reti (ty := .boolean) rfl (fun x h => (znz x h).1) dX2_putPoint_22, ?_⟩
  exact fun _ h => absurd h List.not_mem_nil
theorem zM_X2_putPoint : zMeets zEC yX2_putPoint wsX2_putPoint zR_X2_putPoint m_X2_putPoint := zmeth_M zECok (zlook_all (zcs_X2_putPoint rfl)) (by decide +kernel) rfl
theorem zr_X2_putPoint_0 (a0 a2 a3 : Option zAV) (st : List zAV) (s : zAS) (k : Nat × Nat) (o : Nat × Nat) : zev zk_X2_putPoint (0, [a0, some (Sum.inr o), a2, a3], st, s, k) = zev zk_X2_putPoint (1, [a0, some (Sum.inr o), a2, a3], Sum.inr o :: st, s, k) := zev_go rfl rfl
theorem zr_X2_putPoint_1 (a1 a2 a3 : Option zAV) (st : List zAV) (s : zAS) (k : Nat × Nat) (o : Nat × Nat) : zev zk_X2_putPoint (1, [some (Sum.inr o), a1, a2, a3], st, s, k) = zev zk_X2_putPoint (2, [some (Sum.inr o), a1, a2, a3], Sum.inr o :: st, s, k) := zev_go rfl rfl
theorem zr_X2_putPoint_2 (ls : zLs) (st : List zAV) (s : zAS) (k : Nat × Nat) (o i : Nat) : zev zk_X2_putPoint (2, ls, Sum.inr (o, i) :: st, s, k) = zpush zk_X2_putPoint 5 ls st s k (zgv zEC 2 0 o i s.1) := zf_get rfl
theorem zr_X2_putPoint_5 (a0 a1 a3 : Option zAV) (st : List zAV) (s : zAS) (k : Nat × Nat) (x : Int32) : zev zk_X2_putPoint (5, [a0, a1, some (Sum.inl (Value.int x)), a3], st, s, k) = zev zk_X2_putPoint (6, [a0, a1, some (Sum.inl (Value.int x)), a3], Sum.inl (Value.int x) :: st, s, k) := zev_go rfl rfl
theorem zr_X2_putPoint_6 (ls : zLs) (st : List zAV) (s : zAS) (k : Nat × Nat) (r v0 : zAV) (h : zcok zEC 3 0 0 (zR_X2_putPoint).cells (zR_X2_putPoint).slots r st k) : zev zk_X2_putPoint (6, ls, v0 :: r :: st, s, k) = zret zk_X2_putPoint 9 ls st (k.1 + 0, k.2 + 0) (m_X3_rest [r, v0] s) := zf_callV (as := [v0]) 1 rfl rfl h
theorem zr_X2_putPoint_9 (a1 a2 a3 : Option zAV) (st : List zAV) (s : zAS) (k : Nat × Nat) (o : Nat × Nat) : zev zk_X2_putPoint (9, [some (Sum.inr o), a1, a2, a3], st, s, k) = zev zk_X2_putPoint (10, [some (Sum.inr o), a1, a2, a3], Sum.inr o :: st, s, k) := zev_go rfl rfl
theorem zr_X2_putPoint_10 (ls : zLs) (st : List zAV) (s : zAS) (k : Nat × Nat) (o i : Nat) : zev zk_X2_putPoint (10, ls, Sum.inr (o, i) :: st, s, k) = zpush zk_X2_putPoint 13 ls st s k (zgv zEC 2 0 o i s.1) := zf_get rfl
theorem zr_X2_putPoint_13 (a0 a1 a2 : Option zAV) (st : List zAV) (s : zAS) (k : Nat × Nat) (x : Int32) : zev zk_X2_putPoint (13, [a0, a1, a2, some (Sum.inl (Value.int x))], st, s, k) = zev zk_X2_putPoint (14, [a0, a1, a2, some (Sum.inl (Value.int x))], Sum.inl (Value.int x) :: st, s, k) := zev_go rfl rfl
theorem zr_X2_putPoint_14 (ls : zLs) (st : List zAV) (s : zAS) (k : Nat × Nat) (r v0 : zAV) (h : zcok zEC 3 0 0 (zR_X2_putPoint).cells (zR_X2_putPoint).slots r st k) : zev zk_X2_putPoint (14, ls, v0 :: r :: st, s, k) = zret zk_X2_putPoint 17 ls st (k.1 + 0, k.2 + 0) (m_X3_rest [r, v0] s) := zf_callV (as := [v0]) 1 rfl rfl h
theorem zr_X2_putPoint_17 (ls : zLs) (st : List zAV) (s : zAS) (k : Nat × Nat) : zev zk_X2_putPoint (17, ls, st, s, k) = zev zk_X2_putPoint (18, ls, Sum.inl (Value.int (0)) :: st, s, k) := zev_go rfl rfl
theorem zr_X2_putPoint_18 (ls : zLs) (st : List zAV) (s : zAS) (k : Nat × Nat) (r v0 v1 v2 : zAV) (h : zcok zEC 4 0 0 (zR_X2_putPoint).cells (zR_X2_putPoint).slots r st k) : zev zk_X2_putPoint (18, ls, v2 :: v1 :: v0 :: r :: st, s, k) = zret zk_X2_putPoint 21 ls st (k.1 + 0, k.2 + 0) (m_X4_put [r, v0, v1, v2] s) := zf_callV (as := [v2, v1, v0]) 3 rfl rfl h
theorem zr_X2_putPoint_21 (ls : zLs) (st : List zAV) (s : zAS) (k : Nat × Nat) : zev zk_X2_putPoint (21, ls, st, s, k) = zev zk_X2_putPoint (22, ls, Sum.inl (Value.int (1)) :: st, s, k) := zev_go rfl rfl
theorem zr_X2_putPoint_22 (ls : zLs) (s : zAS) (k : Nat × Nat) (x : Int32) (hx : x = 0 ∨ x = 1) : zev zk_X2_putPoint (22, ls, [Sum.inl (Value.int x)], s, k) = some (.inl (some (Sum.inl (Value.int x))), s) := zf_retz rfl hx
/-! X2_pointOnLine: PrimePlane$Compass.pointOnLine(LPrimePlane$Figure;LPrimePlane$Figure;I)Z -/
abbrev zR_X2_pointOnLine : Room := ({ frames := 3, cells := 0, slots := 0, locals := 66 } : Room)
noncomputable def zl_X2_pointOnLine : List (Nat × zOp) := [(0, z_lda 2 1), (1, z_get zEC 4 9 4), (4, z_if (fun x => decide (¬ x = 0)) 19 7), (7, z_lda 0 8), (8, z_lda 1 9), (9, z_lda 2 10), (10, z_get zEC 4 10 13), (13, z_neg 14), (14, z_ldi 3 15), (15, z_callV zEC 2 m_X2_putPoint 3 0 0 (zR_X2_pointOnLine).cells (zR_X2_pointOnLine).slots 18), (18, z_reti true), (19, z_lda 0 20), (20, z_lda 1 21), (21, z_ldi 3 22), (22, z_lda 0 23), (23, z_get zEC 2 0 26), (26, z_lda 2 27), (27, z_get zEC 4 8 30), (30, z_ldi 3 31), (31, z_bin (fun x y => x * y) 32), (32, z_lda 2 33), (33, z_get zEC 4 10 36), (36, z_bin (fun x y => x + y) 37), (37, z_neg 38), (38, z_lda 2 39), (39, z_get zEC 4 9 42), (42, z_callV zEC 3 m_X3_ratio 2 0 0 (zR_X2_pointOnLine).cells (zR_X2_pointOnLine).slots 45), (45, z_callV zEC 2 m_X2_putPoint 3 0 0 (zR_X2_pointOnLine).cells (zR_X2_pointOnLine).slots 48), (48, z_reti true)]
noncomputable def zk_X2_pointOnLine (pc : Nat) : Option zOp := zlook zl_X2_pointOnLine pc
noncomputable def m_X2_pointOnLine : List zAV → zAS → Option zOut := zmeth zk_X2_pointOnLine 4
set_option maxRecDepth 100000 in
set_option maxHeartbeats 4000000 in
theorem zcs_X2_pointOnLine {R : Room} (hR : R = zR_X2_pointOnLine) : ∀ q ∈ zl_X2_pointOnLine, zS zEC yX2_pointOnLine.cls cX2_pointOnLine 4 wsX2_pointOnLine (some .boolean) R q.1 q.2 := by
  subst hR
  have hin2 : ∀ w ∈ wsX20, w ∈ wsX2_pointOnLine := fun w h => List.mem_cons_of_mem _ (List.mem_append_left _ (List.mem_append_right _ h))
  have hin4 : ∀ w ∈ wsX40, w ∈ wsX2_pointOnLine := fun w h => List.mem_cons_of_mem _ (List.mem_append_left _ (List.mem_append_left _ (List.mem_append_right _ h)))
  refine List.forall_mem_cons.mpr ⟨zs_aload_n dX2_pointOnLine_0 rfl, ?_⟩
  refine List.forall_mem_cons.mpr ⟨zs_get (ci := 4) (j := 9) (N := 13) (C := RX4) (T := TX4) (index := 67) rfl (by decide) hin4 (List.mem_of_getElem? (i := 1) rfl) dX2_pointOnLine_1, ?_⟩
  refine List.forall_mem_cons.mpr ⟨zs_ifne dX2_pointOnLine_4 (by decide), ?_⟩
  refine List.forall_mem_cons.mpr ⟨zs_aload_n dX2_pointOnLine_7 rfl, ?_⟩
  refine List.forall_mem_cons.mpr ⟨zs_aload_n dX2_pointOnLine_8 rfl, ?_⟩
  refine List.forall_mem_cons.mpr ⟨zs_aload_n dX2_pointOnLine_9 rfl, ?_⟩
  refine List.forall_mem_cons.mpr ⟨zs_get (ci := 4) (j := 10) (N := 13) (C := RX4) (T := TX4) (index := 100) rfl (by decide) hin4 (List.mem_of_getElem? (i := 2) rfl) dX2_pointOnLine_10, ?_⟩
  refine List.forall_mem_cons.mpr ⟨zs_ineg dX2_pointOnLine_13, ?_⟩
  refine List.forall_mem_cons.mpr ⟨zs_iload_n dX2_pointOnLine_14 rfl, ?_⟩
  refine List.forall_mem_cons.mpr ⟨zs_callV (ci := 2) (rm := zR_X2_putPoint) (n := 3) rfl zM_X2_putPoint gX2_pointOnLine_X2_putPoint rfl (by decide +kernel) ⟨by decide, by decide⟩ dX2_pointOnLine_15, ?_⟩
  refine List.forall_mem_cons.mpr ⟨zs_reti (ty := .boolean) rfl (fun x h => (znz x h).1) dX2_pointOnLine_18, ?_⟩
  refine List.forall_mem_cons.mpr ⟨zs_aload_n dX2_pointOnLine_19 rfl, ?_⟩
  refine List.forall_mem_cons.mpr ⟨zs_aload_n dX2_pointOnLine_20 rfl, ?_⟩
  refine List.forall_mem_cons.mpr ⟨zs_iload_n dX2_pointOnLine_21 rfl, ?_⟩
  refine List.forall_mem_cons.mpr ⟨zs_aload_n dX2_pointOnLine_22 rfl, ?_⟩
  refine List.forall_mem_cons.mpr ⟨zs_get (ci := 2) (j := 0) (N := 2) (C := RX2) (T := TX2) (index := 12) rfl (by decide) hin2 (List.mem_of_getElem? (i := 3) rfl) dX2_pointOnLine_23, ?_⟩
  refine List.forall_mem_cons.mpr ⟨zs_aload_n dX2_pointOnLine_26 rfl, ?_⟩
  refine List.forall_mem_cons.mpr ⟨zs_get (ci := 4) (j := 8) (N := 13) (C := RX4) (T := TX4) (index := 64) rfl (by decide) hin4 (List.mem_of_getElem? (i := 4) rfl) dX2_pointOnLine_27, ?_⟩
  refine List.forall_mem_cons.mpr ⟨zs_iload_n dX2_pointOnLine_30 rfl, ?_⟩
  refine List.forall_mem_cons.mpr ⟨zs_imul dX2_pointOnLine_31, ?_⟩
  refine List.forall_mem_cons.mpr ⟨zs_aload_n dX2_pointOnLine_32 rfl, ?_⟩
  refine List.forall_mem_cons.mpr ⟨zs_get (ci := 4) (j := 10) (N := 13) (C := RX4) (T := TX4) (index := 100) rfl (by decide) hin4 (List.mem_of_getElem? (i := 2) rfl) dX2_pointOnLine_33, ?_⟩
  refine List.forall_mem_cons.mpr ⟨zs_iadd dX2_pointOnLine_36, ?_⟩
  refine List.forall_mem_cons.mpr ⟨zs_ineg dX2_pointOnLine_37, ?_⟩
  refine List.forall_mem_cons.mpr ⟨zs_aload_n dX2_pointOnLine_38 rfl, ?_⟩
  refine List.forall_mem_cons.mpr ⟨zs_get (ci := 4) (j := 9) (N := 13) (C := RX4) (T := TX4) (index := 67) rfl (by decide) hin4 (List.mem_of_getElem? (i := 1) rfl) dX2_pointOnLine_39, ?_⟩
  refine List.forall_mem_cons.mpr ⟨zs_callV (ci := 3) (rm := zR_X3_ratio) (n := 2) rfl zM_X3_ratio gX2_pointOnLine_X3_ratio rfl (by decide +kernel) ⟨by decide, by decide⟩ dX2_pointOnLine_42, ?_⟩
  refine List.forall_mem_cons.mpr ⟨zs_callV (ci := 2) (rm := zR_X2_putPoint) (n := 3) rfl zM_X2_putPoint gX2_pointOnLine_X2_putPoint rfl (by decide +kernel) ⟨by decide, by decide⟩ dX2_pointOnLine_45, ?_⟩
  refine List.forall_mem_cons.mpr ⟨zs_reti (ty := .boolean) rfl (fun x h => (znz x h).1) dX2_pointOnLine_48, ?_⟩
  exact fun _ h => absurd h List.not_mem_nil
theorem zM_X2_pointOnLine : zMeets zEC yX2_pointOnLine wsX2_pointOnLine zR_X2_pointOnLine m_X2_pointOnLine := zmeth_M zECok (zlook_all (zcs_X2_pointOnLine rfl)) (by decide +kernel) rfl
theorem zr_X2_pointOnLine_0 (a0 a1 a3 : Option zAV) (st : List zAV) (s : zAS) (k : Nat × Nat) (o : Nat × Nat) : zev zk_X2_pointOnLine (0, [a0, a1, some (Sum.inr o), a3], st, s, k) = zev zk_X2_pointOnLine (1, [a0, a1, some (Sum.inr o), a3], Sum.inr o :: st, s, k) := zev_go rfl rfl
theorem zr_X2_pointOnLine_1 (ls : zLs) (st : List zAV) (s : zAS) (k : Nat × Nat) (o i : Nat) : zev zk_X2_pointOnLine (1, ls, Sum.inr (o, i) :: st, s, k) = zpush zk_X2_pointOnLine 4 ls st s k (zgv zEC 4 9 o i s.1) := zf_get rfl
theorem zr_X2_pointOnLine_4 (ls : zLs) (st : List zAV) (s : zAS) (k : Nat × Nat) (x : Int32) : zev zk_X2_pointOnLine (4, ls, Sum.inl (Value.int x) :: st, s, k) = if decide (¬ x = 0) = true then zev zk_X2_pointOnLine (19, ls, st, s, k) else zev zk_X2_pointOnLine (7, ls, st, s, k) := zf_if (f := fun x => decide (¬ x = 0)) rfl
theorem zr_X2_pointOnLine_7 (a1 a2 a3 : Option zAV) (st : List zAV) (s : zAS) (k : Nat × Nat) (o : Nat × Nat) : zev zk_X2_pointOnLine (7, [some (Sum.inr o), a1, a2, a3], st, s, k) = zev zk_X2_pointOnLine (8, [some (Sum.inr o), a1, a2, a3], Sum.inr o :: st, s, k) := zev_go rfl rfl
theorem zr_X2_pointOnLine_8 (a0 a2 a3 : Option zAV) (st : List zAV) (s : zAS) (k : Nat × Nat) (o : Nat × Nat) : zev zk_X2_pointOnLine (8, [a0, some (Sum.inr o), a2, a3], st, s, k) = zev zk_X2_pointOnLine (9, [a0, some (Sum.inr o), a2, a3], Sum.inr o :: st, s, k) := zev_go rfl rfl
theorem zr_X2_pointOnLine_9 (a0 a1 a3 : Option zAV) (st : List zAV) (s : zAS) (k : Nat × Nat) (o : Nat × Nat) : zev zk_X2_pointOnLine (9, [a0, a1, some (Sum.inr o), a3], st, s, k) = zev zk_X2_pointOnLine (10, [a0, a1, some (Sum.inr o), a3], Sum.inr o :: st, s, k) := zev_go rfl rfl
theorem zr_X2_pointOnLine_10 (ls : zLs) (st : List zAV) (s : zAS) (k : Nat × Nat) (o i : Nat) : zev zk_X2_pointOnLine (10, ls, Sum.inr (o, i) :: st, s, k) = zpush zk_X2_pointOnLine 13 ls st s k (zgv zEC 4 10 o i s.1) := zf_get rfl
theorem zr_X2_pointOnLine_13 (ls : zLs) (st : List zAV) (s : zAS) (k : Nat × Nat) (x : Int32) : zev zk_X2_pointOnLine (13, ls, Sum.inl (Value.int x) :: st, s, k) = zev zk_X2_pointOnLine (14, ls, Sum.inl (Value.int (-x)) :: st, s, k) := zev_go rfl rfl
theorem zr_X2_pointOnLine_14 (a0 a1 a2 : Option zAV) (st : List zAV) (s : zAS) (k : Nat × Nat) (x : Int32) : zev zk_X2_pointOnLine (14, [a0, a1, a2, some (Sum.inl (Value.int x))], st, s, k) = zev zk_X2_pointOnLine (15, [a0, a1, a2, some (Sum.inl (Value.int x))], Sum.inl (Value.int x) :: st, s, k) := zev_go rfl rfl
theorem zr_X2_pointOnLine_15 (ls : zLs) (st : List zAV) (s : zAS) (k : Nat × Nat) (r v0 v1 v2 : zAV) (h : zcok zEC 2 0 0 (zR_X2_pointOnLine).cells (zR_X2_pointOnLine).slots r st k) : zev zk_X2_pointOnLine (15, ls, v2 :: v1 :: v0 :: r :: st, s, k) = zret zk_X2_pointOnLine 18 ls st (k.1 + 0, k.2 + 0) (m_X2_putPoint [r, v0, v1, v2] s) := zf_callV (as := [v2, v1, v0]) 3 rfl rfl h
theorem zr_X2_pointOnLine_18 (ls : zLs) (s : zAS) (k : Nat × Nat) (x : Int32) (hx : x = 0 ∨ x = 1) : zev zk_X2_pointOnLine (18, ls, [Sum.inl (Value.int x)], s, k) = some (.inl (some (Sum.inl (Value.int x))), s) := zf_retz rfl hx
theorem zr_X2_pointOnLine_19 (a1 a2 a3 : Option zAV) (st : List zAV) (s : zAS) (k : Nat × Nat) (o : Nat × Nat) : zev zk_X2_pointOnLine (19, [some (Sum.inr o), a1, a2, a3], st, s, k) = zev zk_X2_pointOnLine (20, [some (Sum.inr o), a1, a2, a3], Sum.inr o :: st, s, k) := zev_go rfl rfl
theorem zr_X2_pointOnLine_20 (a0 a2 a3 : Option zAV) (st : List zAV) (s : zAS) (k : Nat × Nat) (o : Nat × Nat) : zev zk_X2_pointOnLine (20, [a0, some (Sum.inr o), a2, a3], st, s, k) = zev zk_X2_pointOnLine (21, [a0, some (Sum.inr o), a2, a3], Sum.inr o :: st, s, k) := zev_go rfl rfl
theorem zr_X2_pointOnLine_21 (a0 a1 a2 : Option zAV) (st : List zAV) (s : zAS) (k : Nat × Nat) (x : Int32) : zev zk_X2_pointOnLine (21, [a0, a1, a2, some (Sum.inl (Value.int x))], st, s, k) = zev zk_X2_pointOnLine (22, [a0, a1, a2, some (Sum.inl (Value.int x))], Sum.inl (Value.int x) :: st, s, k) := zev_go rfl rfl
theorem zr_X2_pointOnLine_22 (a1 a2 a3 : Option zAV) (st : List zAV) (s : zAS) (k : Nat × Nat) (o : Nat × Nat) : zev zk_X2_pointOnLine (22, [some (Sum.inr o), a1, a2, a3], st, s, k) = zev zk_X2_pointOnLine (23, [some (Sum.inr o), a1, a2, a3], Sum.inr o :: st, s, k) := zev_go rfl rfl
theorem zr_X2_pointOnLine_23 (ls : zLs) (st : List zAV) (s : zAS) (k : Nat × Nat) (o i : Nat) : zev zk_X2_pointOnLine (23, ls, Sum.inr (o, i) :: st, s, k) = zpush zk_X2_pointOnLine 26 ls st s k (zgv zEC 2 0 o i s.1) := zf_get rfl
theorem zr_X2_pointOnLine_26 (a0 a1 a3 : Option zAV) (st : List zAV) (s : zAS) (k : Nat × Nat) (o : Nat × Nat) : zev zk_X2_pointOnLine (26, [a0, a1, some (Sum.inr o), a3], st, s, k) = zev zk_X2_pointOnLine (27, [a0, a1, some (Sum.inr o), a3], Sum.inr o :: st, s, k) := zev_go rfl rfl
theorem zr_X2_pointOnLine_27 (ls : zLs) (st : List zAV) (s : zAS) (k : Nat × Nat) (o i : Nat) : zev zk_X2_pointOnLine (27, ls, Sum.inr (o, i) :: st, s, k) = zpush zk_X2_pointOnLine 30 ls st s k (zgv zEC 4 8 o i s.1) := zf_get rfl
theorem zr_X2_pointOnLine_30 (a0 a1 a2 : Option zAV) (st : List zAV) (s : zAS) (k : Nat × Nat) (x : Int32) : zev zk_X2_pointOnLine (30, [a0, a1, a2, some (Sum.inl (Value.int x))], st, s, k) = zev zk_X2_pointOnLine (31, [a0, a1, a2, some (Sum.inl (Value.int x))], Sum.inl (Value.int x) :: st, s, k) := zev_go rfl rfl
theorem zr_X2_pointOnLine_31 (ls : zLs) (st : List zAV) (s : zAS) (k : Nat × Nat) (x y : Int32) : zev zk_X2_pointOnLine (31, ls, Sum.inl (Value.int y) :: Sum.inl (Value.int x) :: st, s, k) = zev zk_X2_pointOnLine (32, ls, Sum.inl (Value.int (x * y)) :: st, s, k) := zev_go rfl rfl
theorem zr_X2_pointOnLine_32 (a0 a1 a3 : Option zAV) (st : List zAV) (s : zAS) (k : Nat × Nat) (o : Nat × Nat) : zev zk_X2_pointOnLine (32, [a0, a1, some (Sum.inr o), a3], st, s, k) = zev zk_X2_pointOnLine (33, [a0, a1, some (Sum.inr o), a3], Sum.inr o :: st, s, k) := zev_go rfl rfl
theorem zr_X2_pointOnLine_33 (ls : zLs) (st : List zAV) (s : zAS) (k : Nat × Nat) (o i : Nat) : zev zk_X2_pointOnLine (33, ls, Sum.inr (o, i) :: st, s, k) = zpush zk_X2_pointOnLine 36 ls st s k (zgv zEC 4 10 o i s.1) := zf_get rfl
theorem zr_X2_pointOnLine_36 (ls : zLs) (st : List zAV) (s : zAS) (k : Nat × Nat) (x y : Int32) : zev zk_X2_pointOnLine (36, ls, Sum.inl (Value.int y) :: Sum.inl (Value.int x) :: st, s, k) = zev zk_X2_pointOnLine (37, ls, Sum.inl (Value.int (x + y)) :: st, s, k) := zev_go rfl rfl
theorem zr_X2_pointOnLine_37 (ls : zLs) (st : List zAV) (s : zAS) (k : Nat × Nat) (x : Int32) : zev zk_X2_pointOnLine (37, ls, Sum.inl (Value.int x) :: st, s, k) = zev zk_X2_pointOnLine (38, ls, Sum.inl (Value.int (-x)) :: st, s, k) := zev_go rfl rfl
theorem zr_X2_pointOnLine_38 (a0 a1 a3 : Option zAV) (st : List zAV) (s : zAS) (k : Nat × Nat) (o : Nat × Nat) : zev zk_X2_pointOnLine (38, [a0, a1, some (Sum.inr o), a3], st, s, k) = zev zk_X2_pointOnLine (39, [a0, a1, some (Sum.inr o), a3], Sum.inr o :: st, s, k) := zev_go rfl rfl
theorem zr_X2_pointOnLine_39 (ls : zLs) (st : List zAV) (s : zAS) (k : Nat × Nat) (o i : Nat) : zev zk_X2_pointOnLine (39, ls, Sum.inr (o, i) :: st, s, k) = zpush zk_X2_pointOnLine 42 ls st s k (zgv zEC 4 9 o i s.1) := zf_get rfl
theorem zr_X2_pointOnLine_42 (ls : zLs) (st : List zAV) (s : zAS) (k : Nat × Nat) (r v0 v1 : zAV) (h : zcok zEC 3 0 0 (zR_X2_pointOnLine).cells (zR_X2_pointOnLine).slots r st k) : zev zk_X2_pointOnLine (42, ls, v1 :: v0 :: r :: st, s, k) = zret zk_X2_pointOnLine 45 ls st (k.1 + 0, k.2 + 0) (m_X3_ratio [r, v0, v1] s) := zf_callV (as := [v1, v0]) 2 rfl rfl h
theorem zr_X2_pointOnLine_45 (ls : zLs) (st : List zAV) (s : zAS) (k : Nat × Nat) (r v0 v1 v2 : zAV) (h : zcok zEC 2 0 0 (zR_X2_pointOnLine).cells (zR_X2_pointOnLine).slots r st k) : zev zk_X2_pointOnLine (45, ls, v2 :: v1 :: v0 :: r :: st, s, k) = zret zk_X2_pointOnLine 48 ls st (k.1 + 0, k.2 + 0) (m_X2_putPoint [r, v0, v1, v2] s) := zf_callV (as := [v2, v1, v0]) 3 rfl rfl h
theorem zr_X2_pointOnLine_48 (ls : zLs) (s : zAS) (k : Nat × Nat) (x : Int32) (hx : x = 0 ∨ x = 1) : zev zk_X2_pointOnLine (48, ls, [Sum.inl (Value.int x)], s, k) = some (.inl (some (Sum.inl (Value.int x))), s) := zf_retz rfl hx
/-! X2_intersection: PrimePlane$Compass.intersection(LPrimePlane$Figure;LPrimePlane$Figure;LPrimePlane$Figure;)Z -/
abbrev zR_X2_intersection : Room := ({ frames := 3, cells := 0, slots := 0, locals := 66 } : Room)
noncomputable def zl_X2_intersection : List (Nat × zOp) := [(0, z_lda 0 1), (1, z_get zEC 2 0 4), (4, z_lda 2 5), (5, z_get zEC 4 8 8), (8, z_lda 3 9), (9, z_get zEC 4 9 12), (12, z_bin (fun x y => x * y) 13), (13, z_lda 3 14), (14, z_get zEC 4 8 17), (17, z_lda 2 18), (18, z_get zEC 4 9 21), (21, z_bin (fun x y => x * y) 22), (22, z_bin (fun x y => x - y) 23), (23, z_callV zEC 3 m_X3_rest 1 0 0 (zR_X2_intersection).cells (zR_X2_intersection).slots 26), (26, z_sti 4 28), (28, z_ldi 4 30), (30, z_if (fun x => decide (¬ x = 0)) 35 33), (33, z_ic (0) 34), (34, z_reti true), (35, z_lda 0 36), (36, z_lda 1 37), (37, z_lda 0 38), (38, z_get zEC 2 0 41), (41, z_lda 2 42), (42, z_get zEC 4 9 45), (45, z_lda 3 46), (46, z_get zEC 4 10 49), (49, z_bin (fun x y => x * y) 50), (50, z_lda 3 51), (51, z_get zEC 4 9 54), (54, z_lda 2 55), (55, z_get zEC 4 10 58), (58, z_bin (fun x y => x * y) 59), (59, z_bin (fun x y => x - y) 60), (60, z_ldi 4 62), (62, z_callV zEC 3 m_X3_ratio 2 0 0 (zR_X2_intersection).cells (zR_X2_intersection).slots 65), (65, z_lda 0 66), (66, z_get zEC 2 0 69), (69, z_lda 3 70), (70, z_get zEC 4 8 73), (73, z_lda 2 74), (74, z_get zEC 4 10 77), (77, z_bin (fun x y => x * y) 78), (78, z_lda 2 79), (79, z_get zEC 4 8 82), (82, z_lda 3 83), (83, z_get zEC 4 10 86), (86, z_bin (fun x y => x * y) 87), (87, z_bin (fun x y => x - y) 88), (88, z_ldi 4 90), (90, z_callV zEC 3 m_X3_ratio 2 0 0 (zR_X2_intersection).cells (zR_X2_intersection).slots 93), (93, z_callV zEC 2 m_X2_putPoint 3 0 0 (zR_X2_intersection).cells (zR_X2_intersection).slots 96), (96, z_reti true)]
noncomputable def zk_X2_intersection (pc : Nat) : Option zOp := zlook zl_X2_intersection pc
noncomputable def m_X2_intersection : List zAV → zAS → Option zOut := zmeth zk_X2_intersection 5
set_option maxRecDepth 100000 in
set_option maxHeartbeats 4000000 in
theorem zcs_X2_intersection {R : Room} (hR : R = zR_X2_intersection) : ∀ q ∈ zl_X2_intersection, zS zEC yX2_intersection.cls cX2_intersection 5 wsX2_intersection (some .boolean) R q.1 q.2 := by
  subst hR
  have hin2 : ∀ w ∈ wsX20, w ∈ wsX2_intersection := fun w h => List.mem_cons_of_mem _ (List.mem_append_left _ (List.mem_append_left _ (List.mem_append_right _ h)))
  have hin4 : ∀ w ∈ wsX40, w ∈ wsX2_intersection := fun w h => List.mem_cons_of_mem _ (List.mem_append_left _ (List.mem_append_right _ h))
  refine List.forall_mem_cons.mpr ⟨zs_aload_n dX2_intersection_0 rfl, ?_⟩
  refine List.forall_mem_cons.mpr ⟨zs_get (ci := 2) (j := 0) (N := 2) (C := RX2) (T := TX2) (index := 12) rfl (by decide) hin2 (List.mem_of_getElem? (i := 1) rfl) dX2_intersection_1, ?_⟩
  refine List.forall_mem_cons.mpr ⟨zs_aload_n dX2_intersection_4 rfl, ?_⟩
  refine List.forall_mem_cons.mpr ⟨zs_get (ci := 4) (j := 8) (N := 13) (C := RX4) (T := TX4) (index := 64) rfl (by decide) hin4 (List.mem_of_getElem? (i := 2) rfl) dX2_intersection_5, ?_⟩
  refine List.forall_mem_cons.mpr ⟨zs_aload_n dX2_intersection_8 rfl, ?_⟩
  refine List.forall_mem_cons.mpr ⟨zs_get (ci := 4) (j := 9) (N := 13) (C := RX4) (T := TX4) (index := 67) rfl (by decide) hin4 (List.mem_of_getElem? (i := 3) rfl) dX2_intersection_9, ?_⟩
  refine List.forall_mem_cons.mpr ⟨zs_imul dX2_intersection_12, ?_⟩
  refine List.forall_mem_cons.mpr ⟨zs_aload_n dX2_intersection_13 rfl, ?_⟩
  refine List.forall_mem_cons.mpr ⟨zs_get (ci := 4) (j := 8) (N := 13) (C := RX4) (T := TX4) (index := 64) rfl (by decide) hin4 (List.mem_of_getElem? (i := 2) rfl) dX2_intersection_14, ?_⟩
  refine List.forall_mem_cons.mpr ⟨zs_aload_n dX2_intersection_17 rfl, ?_⟩
  refine List.forall_mem_cons.mpr ⟨zs_get (ci := 4) (j := 9) (N := 13) (C := RX4) (T := TX4) (index := 67) rfl (by decide) hin4 (List.mem_of_getElem? (i := 3) rfl) dX2_intersection_18, ?_⟩
  refine List.forall_mem_cons.mpr ⟨zs_imul dX2_intersection_21, ?_⟩
  refine List.forall_mem_cons.mpr ⟨zs_isub dX2_intersection_22, ?_⟩
  refine List.forall_mem_cons.mpr ⟨zs_callV (ci := 3) (rm := zR_X3_rest) (n := 1) rfl zM_X3_rest gX2_intersection_X3_rest rfl (by decide +kernel) ⟨by decide, by decide⟩ dX2_intersection_23, ?_⟩
  refine List.forall_mem_cons.mpr ⟨zs_istore dX2_intersection_26, ?_⟩
  refine List.forall_mem_cons.mpr ⟨zs_iload dX2_intersection_28, ?_⟩
  refine List.forall_mem_cons.mpr ⟨zs_ifne dX2_intersection_30 (by decide), ?_⟩
  refine List.forall_mem_cons.mpr ⟨zs_iconst dX2_intersection_33 (by decide), ?_⟩
  refine List.forall_mem_cons.mpr ⟨zs_reti (ty := .boolean) rfl (fun x h => (znz x h).1) dX2_intersection_34, ?_⟩
  refine List.forall_mem_cons.mpr ⟨zs_aload_n dX2_intersection_35 rfl, ?_⟩
  refine List.forall_mem_cons.mpr ⟨zs_aload_n dX2_intersection_36 rfl, ?_⟩
  refine List.forall_mem_cons.mpr ⟨zs_aload_n dX2_intersection_37 rfl, ?_⟩
  refine List.forall_mem_cons.mpr ⟨zs_get (ci := 2) (j := 0) (N := 2) (C := RX2) (T := TX2) (index := 12) rfl (by decide) hin2 (List.mem_of_getElem? (i := 1) rfl) dX2_intersection_38, ?_⟩
  refine List.forall_mem_cons.mpr ⟨zs_aload_n dX2_intersection_41 rfl, ?_⟩
  refine List.forall_mem_cons.mpr ⟨zs_get (ci := 4) (j := 9) (N := 13) (C := RX4) (T := TX4) (index := 67) rfl (by decide) hin4 (List.mem_of_getElem? (i := 3) rfl) dX2_intersection_42, ?_⟩
  refine List.forall_mem_cons.mpr ⟨zs_aload_n dX2_intersection_45 rfl, ?_⟩
  refine List.forall_mem_cons.mpr ⟨zs_get (ci := 4) (j := 10) (N := 13) (C := RX4) (T := TX4) (index := 100) rfl (by decide) hin4 (List.mem_of_getElem? (i := 4) rfl) dX2_intersection_46, ?_⟩
  refine List.forall_mem_cons.mpr ⟨zs_imul dX2_intersection_49, ?_⟩
  refine List.forall_mem_cons.mpr ⟨zs_aload_n dX2_intersection_50 rfl, ?_⟩
  refine List.forall_mem_cons.mpr ⟨zs_get (ci := 4) (j := 9) (N := 13) (C := RX4) (T := TX4) (index := 67) rfl (by decide) hin4 (List.mem_of_getElem? (i := 3) rfl) dX2_intersection_51, ?_⟩
  refine List.forall_mem_cons.mpr ⟨zs_aload_n dX2_intersection_54 rfl, ?_⟩
  refine List.forall_mem_cons.mpr ⟨zs_get (ci := 4) (j := 10) (N := 13) (C := RX4) (T := TX4) (index := 100) rfl (by decide) hin4 (List.mem_of_getElem? (i := 4) rfl) dX2_intersection_55, ?_⟩
  refine List.forall_mem_cons.mpr ⟨zs_imul dX2_intersection_58, ?_⟩
  refine List.forall_mem_cons.mpr ⟨zs_isub dX2_intersection_59, ?_⟩
  refine List.forall_mem_cons.mpr ⟨zs_iload dX2_intersection_60, ?_⟩
  refine List.forall_mem_cons.mpr ⟨zs_callV (ci := 3) (rm := zR_X3_ratio) (n := 2) rfl zM_X3_ratio gX2_intersection_X3_ratio rfl (by decide +kernel) ⟨by decide, by decide⟩ dX2_intersection_62, ?_⟩
  refine List.forall_mem_cons.mpr ⟨zs_aload_n dX2_intersection_65 rfl, ?_⟩
  refine List.forall_mem_cons.mpr ⟨zs_get (ci := 2) (j := 0) (N := 2) (C := RX2) (T := TX2) (index := 12) rfl (by decide) hin2 (List.mem_of_getElem? (i := 1) rfl) dX2_intersection_66, ?_⟩
  refine List.forall_mem_cons.mpr ⟨zs_aload_n dX2_intersection_69 rfl, ?_⟩
  refine List.forall_mem_cons.mpr ⟨zs_get (ci := 4) (j := 8) (N := 13) (C := RX4) (T := TX4) (index := 64) rfl (by decide) hin4 (List.mem_of_getElem? (i := 2) rfl) dX2_intersection_70, ?_⟩
  refine List.forall_mem_cons.mpr ⟨zs_aload_n dX2_intersection_73 rfl, ?_⟩
  refine List.forall_mem_cons.mpr ⟨zs_get (ci := 4) (j := 10) (N := 13) (C := RX4) (T := TX4) (index := 100) rfl (by decide) hin4 (List.mem_of_getElem? (i := 4) rfl) dX2_intersection_74, ?_⟩
  refine List.forall_mem_cons.mpr ⟨zs_imul dX2_intersection_77, ?_⟩
  refine List.forall_mem_cons.mpr ⟨zs_aload_n dX2_intersection_78 rfl, ?_⟩
  refine List.forall_mem_cons.mpr ⟨zs_get (ci := 4) (j := 8) (N := 13) (C := RX4) (T := TX4) (index := 64) rfl (by decide) hin4 (List.mem_of_getElem? (i := 2) rfl) dX2_intersection_79, ?_⟩
  refine List.forall_mem_cons.mpr ⟨zs_aload_n dX2_intersection_82 rfl, ?_⟩
  refine List.forall_mem_cons.mpr ⟨zs_get (ci := 4) (j := 10) (N := 13) (C := RX4) (T := TX4) (index := 100) rfl (by decide) hin4 (List.mem_of_getElem? (i := 4) rfl) dX2_intersection_83, ?_⟩
  refine List.forall_mem_cons.mpr ⟨zs_imul dX2_intersection_86, ?_⟩
  refine List.forall_mem_cons.mpr ⟨zs_isub dX2_intersection_87, ?_⟩
  refine List.forall_mem_cons.mpr ⟨zs_iload dX2_intersection_88, ?_⟩
  refine List.forall_mem_cons.mpr ⟨zs_callV (ci := 3) (rm := zR_X3_ratio) (n := 2) rfl zM_X3_ratio gX2_intersection_X3_ratio rfl (by decide +kernel) ⟨by decide, by decide⟩ dX2_intersection_90, ?_⟩
  refine List.forall_mem_cons.mpr ⟨zs_callV (ci := 2) (rm := zR_X2_putPoint) (n := 3) rfl zM_X2_putPoint gX2_intersection_X2_putPoint rfl (by decide +kernel) ⟨by decide, by decide⟩ dX2_intersection_93, ?_⟩
  refine List.forall_mem_cons.mpr ⟨zs_reti (ty := .boolean) rfl (fun x h => (znz x h).1) dX2_intersection_96, ?_⟩
  exact fun _ h => absurd h List.not_mem_nil
theorem zM_X2_intersection : zMeets zEC yX2_intersection wsX2_intersection zR_X2_intersection m_X2_intersection := zmeth_M zECok (zlook_all (zcs_X2_intersection rfl)) (by decide +kernel) rfl
theorem zr_X2_intersection_0 (a1 a2 a3 a4 : Option zAV) (st : List zAV) (s : zAS) (k : Nat × Nat) (o : Nat × Nat) : zev zk_X2_intersection (0, [some (Sum.inr o), a1, a2, a3, a4], st, s, k) = zev zk_X2_intersection (1, [some (Sum.inr o), a1, a2, a3, a4], Sum.inr o :: st, s, k) := zev_go rfl rfl
theorem zr_X2_intersection_1 (ls : zLs) (st : List zAV) (s : zAS) (k : Nat × Nat) (o i : Nat) : zev zk_X2_intersection (1, ls, Sum.inr (o, i) :: st, s, k) = zpush zk_X2_intersection 4 ls st s k (zgv zEC 2 0 o i s.1) := zf_get rfl
theorem zr_X2_intersection_4 (a0 a1 a3 a4 : Option zAV) (st : List zAV) (s : zAS) (k : Nat × Nat) (o : Nat × Nat) : zev zk_X2_intersection (4, [a0, a1, some (Sum.inr o), a3, a4], st, s, k) = zev zk_X2_intersection (5, [a0, a1, some (Sum.inr o), a3, a4], Sum.inr o :: st, s, k) := zev_go rfl rfl
theorem zr_X2_intersection_5 (ls : zLs) (st : List zAV) (s : zAS) (k : Nat × Nat) (o i : Nat) : zev zk_X2_intersection (5, ls, Sum.inr (o, i) :: st, s, k) = zpush zk_X2_intersection 8 ls st s k (zgv zEC 4 8 o i s.1) := zf_get rfl
theorem zr_X2_intersection_8 (a0 a1 a2 a4 : Option zAV) (st : List zAV) (s : zAS) (k : Nat × Nat) (o : Nat × Nat) : zev zk_X2_intersection (8, [a0, a1, a2, some (Sum.inr o), a4], st, s, k) = zev zk_X2_intersection (9, [a0, a1, a2, some (Sum.inr o), a4], Sum.inr o :: st, s, k) := zev_go rfl rfl
theorem zr_X2_intersection_9 (ls : zLs) (st : List zAV) (s : zAS) (k : Nat × Nat) (o i : Nat) : zev zk_X2_intersection (9, ls, Sum.inr (o, i) :: st, s, k) = zpush zk_X2_intersection 12 ls st s k (zgv zEC 4 9 o i s.1) := zf_get rfl
theorem zr_X2_intersection_12 (ls : zLs) (st : List zAV) (s : zAS) (k : Nat × Nat) (x y : Int32) : zev zk_X2_intersection (12, ls, Sum.inl (Value.int y) :: Sum.inl (Value.int x) :: st, s, k) = zev zk_X2_intersection (13, ls, Sum.inl (Value.int (x * y)) :: st, s, k) := zev_go rfl rfl
theorem zr_X2_intersection_13 (a0 a1 a2 a4 : Option zAV) (st : List zAV) (s : zAS) (k : Nat × Nat) (o : Nat × Nat) : zev zk_X2_intersection (13, [a0, a1, a2, some (Sum.inr o), a4], st, s, k) = zev zk_X2_intersection (14, [a0, a1, a2, some (Sum.inr o), a4], Sum.inr o :: st, s, k) := zev_go rfl rfl
theorem zr_X2_intersection_14 (ls : zLs) (st : List zAV) (s : zAS) (k : Nat × Nat) (o i : Nat) : zev zk_X2_intersection (14, ls, Sum.inr (o, i) :: st, s, k) = zpush zk_X2_intersection 17 ls st s k (zgv zEC 4 8 o i s.1) := zf_get rfl
theorem zr_X2_intersection_17 (a0 a1 a3 a4 : Option zAV) (st : List zAV) (s : zAS) (k : Nat × Nat) (o : Nat × Nat) : zev zk_X2_intersection (17, [a0, a1, some (Sum.inr o), a3, a4], st, s, k) = zev zk_X2_intersection (18, [a0, a1, some (Sum.inr o), a3, a4], Sum.inr o :: st, s, k) := zev_go rfl rfl
theorem zr_X2_intersection_18 (ls : zLs) (st : List zAV) (s : zAS) (k : Nat × Nat) (o i : Nat) : zev zk_X2_intersection (18, ls, Sum.inr (o, i) :: st, s, k) = zpush zk_X2_intersection 21 ls st s k (zgv zEC 4 9 o i s.1) := zf_get rfl
theorem zr_X2_intersection_21 (ls : zLs) (st : List zAV) (s : zAS) (k : Nat × Nat) (x y : Int32) : zev zk_X2_intersection (21, ls, Sum.inl (Value.int y) :: Sum.inl (Value.int x) :: st, s, k) = zev zk_X2_intersection (22, ls, Sum.inl (Value.int (x * y)) :: st, s, k) := zev_go rfl rfl
theorem zr_X2_intersection_22 (ls : zLs) (st : List zAV) (s : zAS) (k : Nat × Nat) (x y : Int32) : zev zk_X2_intersection (22, ls, Sum.inl (Value.int y) :: Sum.inl (Value.int x) :: st, s, k) = zev zk_X2_intersection (23, ls, Sum.inl (Value.int (x - y)) :: st, s, k) := zev_go rfl rfl
theorem zr_X2_intersection_23 (ls : zLs) (st : List zAV) (s : zAS) (k : Nat × Nat) (r v0 : zAV) (h : zcok zEC 3 0 0 (zR_X2_intersection).cells (zR_X2_intersection).slots r st k) : zev zk_X2_intersection (23, ls, v0 :: r :: st, s, k) = zret zk_X2_intersection 26 ls st (k.1 + 0, k.2 + 0) (m_X3_rest [r, v0] s) := zf_callV (as := [v0]) 1 rfl rfl h
theorem zr_X2_intersection_26 (a0 a1 a2 a3 a4 : Option zAV) (st : List zAV) (s : zAS) (k : Nat × Nat) (x : Int32) : zev zk_X2_intersection (26, [a0, a1, a2, a3, a4], Sum.inl (Value.int x) :: st, s, k) = zev zk_X2_intersection (28, [a0, a1, a2, zk1 a3, some (Sum.inl (Value.int x))], st, s, k) := zev_go rfl rfl
theorem zr_X2_intersection_28 (a0 a1 a2 a3 : Option zAV) (st : List zAV) (s : zAS) (k : Nat × Nat) (x : Int32) : zev zk_X2_intersection (28, [a0, a1, a2, a3, some (Sum.inl (Value.int x))], st, s, k) = zev zk_X2_intersection (30, [a0, a1, a2, a3, some (Sum.inl (Value.int x))], Sum.inl (Value.int x) :: st, s, k) := zev_go rfl rfl
theorem zr_X2_intersection_30 (ls : zLs) (st : List zAV) (s : zAS) (k : Nat × Nat) (x : Int32) : zev zk_X2_intersection (30, ls, Sum.inl (Value.int x) :: st, s, k) = if decide (¬ x = 0) = true then zev zk_X2_intersection (35, ls, st, s, k) else zev zk_X2_intersection (33, ls, st, s, k) := zf_if (f := fun x => decide (¬ x = 0)) rfl
theorem zr_X2_intersection_33 (ls : zLs) (st : List zAV) (s : zAS) (k : Nat × Nat) : zev zk_X2_intersection (33, ls, st, s, k) = zev zk_X2_intersection (34, ls, Sum.inl (Value.int (0)) :: st, s, k) := zev_go rfl rfl
theorem zr_X2_intersection_34 (ls : zLs) (s : zAS) (k : Nat × Nat) (x : Int32) (hx : x = 0 ∨ x = 1) : zev zk_X2_intersection (34, ls, [Sum.inl (Value.int x)], s, k) = some (.inl (some (Sum.inl (Value.int x))), s) := zf_retz rfl hx
theorem zr_X2_intersection_35 (a1 a2 a3 a4 : Option zAV) (st : List zAV) (s : zAS) (k : Nat × Nat) (o : Nat × Nat) : zev zk_X2_intersection (35, [some (Sum.inr o), a1, a2, a3, a4], st, s, k) = zev zk_X2_intersection (36, [some (Sum.inr o), a1, a2, a3, a4], Sum.inr o :: st, s, k) := zev_go rfl rfl
theorem zr_X2_intersection_36 (a0 a2 a3 a4 : Option zAV) (st : List zAV) (s : zAS) (k : Nat × Nat) (o : Nat × Nat) : zev zk_X2_intersection (36, [a0, some (Sum.inr o), a2, a3, a4], st, s, k) = zev zk_X2_intersection (37, [a0, some (Sum.inr o), a2, a3, a4], Sum.inr o :: st, s, k) := zev_go rfl rfl
theorem zr_X2_intersection_37 (a1 a2 a3 a4 : Option zAV) (st : List zAV) (s : zAS) (k : Nat × Nat) (o : Nat × Nat) : zev zk_X2_intersection (37, [some (Sum.inr o), a1, a2, a3, a4], st, s, k) = zev zk_X2_intersection (38, [some (Sum.inr o), a1, a2, a3, a4], Sum.inr o :: st, s, k) := zev_go rfl rfl
theorem zr_X2_intersection_38 (ls : zLs) (st : List zAV) (s : zAS) (k : Nat × Nat) (o i : Nat) : zev zk_X2_intersection (38, ls, Sum.inr (o, i) :: st, s, k) = zpush zk_X2_intersection 41 ls st s k (zgv zEC 2 0 o i s.1) := zf_get rfl
theorem zr_X2_intersection_41 (a0 a1 a3 a4 : Option zAV) (st : List zAV) (s : zAS) (k : Nat × Nat) (o : Nat × Nat) : zev zk_X2_intersection (41, [a0, a1, some (Sum.inr o), a3, a4], st, s, k) = zev zk_X2_intersection (42, [a0, a1, some (Sum.inr o), a3, a4], Sum.inr o :: st, s, k) := zev_go rfl rfl
theorem zr_X2_intersection_42 (ls : zLs) (st : List zAV) (s : zAS) (k : Nat × Nat) (o i : Nat) : zev zk_X2_intersection (42, ls, Sum.inr (o, i) :: st, s, k) = zpush zk_X2_intersection 45 ls st s k (zgv zEC 4 9 o i s.1) := zf_get rfl
theorem zr_X2_intersection_45 (a0 a1 a2 a4 : Option zAV) (st : List zAV) (s : zAS) (k : Nat × Nat) (o : Nat × Nat) : zev zk_X2_intersection (45, [a0, a1, a2, some (Sum.inr o), a4], st, s, k) = zev zk_X2_intersection (46, [a0, a1, a2, some (Sum.inr o), a4], Sum.inr o :: st, s, k) := zev_go rfl rfl
theorem zr_X2_intersection_46 (ls : zLs) (st : List zAV) (s : zAS) (k : Nat × Nat) (o i : Nat) : zev zk_X2_intersection (46, ls, Sum.inr (o, i) :: st, s, k) = zpush zk_X2_intersection 49 ls st s k (zgv zEC 4 10 o i s.1) := zf_get rfl
theorem zr_X2_intersection_49 (ls : zLs) (st : List zAV) (s : zAS) (k : Nat × Nat) (x y : Int32) : zev zk_X2_intersection (49, ls, Sum.inl (Value.int y) :: Sum.inl (Value.int x) :: st, s, k) = zev zk_X2_intersection (50, ls, Sum.inl (Value.int (x * y)) :: st, s, k) := zev_go rfl rfl
theorem zr_X2_intersection_50 (a0 a1 a2 a4 : Option zAV) (st : List zAV) (s : zAS) (k : Nat × Nat) (o : Nat × Nat) : zev zk_X2_intersection (50, [a0, a1, a2, some (Sum.inr o), a4], st, s, k) = zev zk_X2_intersection (51, [a0, a1, a2, some (Sum.inr o), a4], Sum.inr o :: st, s, k) := zev_go rfl rfl
theorem zr_X2_intersection_51 (ls : zLs) (st : List zAV) (s : zAS) (k : Nat × Nat) (o i : Nat) : zev zk_X2_intersection (51, ls, Sum.inr (o, i) :: st, s, k) = zpush zk_X2_intersection 54 ls st s k (zgv zEC 4 9 o i s.1) := zf_get rfl
theorem zr_X2_intersection_54 (a0 a1 a3 a4 : Option zAV) (st : List zAV) (s : zAS) (k : Nat × Nat) (o : Nat × Nat) : zev zk_X2_intersection (54, [a0, a1, some (Sum.inr o), a3, a4], st, s, k) = zev zk_X2_intersection (55, [a0, a1, some (Sum.inr o), a3, a4], Sum.inr o :: st, s, k) := zev_go rfl rfl
theorem zr_X2_intersection_55 (ls : zLs) (st : List zAV) (s : zAS) (k : Nat × Nat) (o i : Nat) : zev zk_X2_intersection (55, ls, Sum.inr (o, i) :: st, s, k) = zpush zk_X2_intersection 58 ls st s k (zgv zEC 4 10 o i s.1) := zf_get rfl
theorem zr_X2_intersection_58 (ls : zLs) (st : List zAV) (s : zAS) (k : Nat × Nat) (x y : Int32) : zev zk_X2_intersection (58, ls, Sum.inl (Value.int y) :: Sum.inl (Value.int x) :: st, s, k) = zev zk_X2_intersection (59, ls, Sum.inl (Value.int (x * y)) :: st, s, k) := zev_go rfl rfl
theorem zr_X2_intersection_59 (ls : zLs) (st : List zAV) (s : zAS) (k : Nat × Nat) (x y : Int32) : zev zk_X2_intersection (59, ls, Sum.inl (Value.int y) :: Sum.inl (Value.int x) :: st, s, k) = zev zk_X2_intersection (60, ls, Sum.inl (Value.int (x - y)) :: st, s, k) := zev_go rfl rfl
theorem zr_X2_intersection_60 (a0 a1 a2 a3 : Option zAV) (st : List zAV) (s : zAS) (k : Nat × Nat) (x : Int32) : zev zk_X2_intersection (60, [a0, a1, a2, a3, some (Sum.inl (Value.int x))], st, s, k) = zev zk_X2_intersection (62, [a0, a1, a2, a3, some (Sum.inl (Value.int x))], Sum.inl (Value.int x) :: st, s, k) := zev_go rfl rfl
theorem zr_X2_intersection_62 (ls : zLs) (st : List zAV) (s : zAS) (k : Nat × Nat) (r v0 v1 : zAV) (h : zcok zEC 3 0 0 (zR_X2_intersection).cells (zR_X2_intersection).slots r st k) : zev zk_X2_intersection (62, ls, v1 :: v0 :: r :: st, s, k) = zret zk_X2_intersection 65 ls st (k.1 + 0, k.2 + 0) (m_X3_ratio [r, v0, v1] s) := zf_callV (as := [v1, v0]) 2 rfl rfl h
theorem zr_X2_intersection_65 (a1 a2 a3 a4 : Option zAV) (st : List zAV) (s : zAS) (k : Nat × Nat) (o : Nat × Nat) : zev zk_X2_intersection (65, [some (Sum.inr o), a1, a2, a3, a4], st, s, k) = zev zk_X2_intersection (66, [some (Sum.inr o), a1, a2, a3, a4], Sum.inr o :: st, s, k) := zev_go rfl rfl
theorem zr_X2_intersection_66 (ls : zLs) (st : List zAV) (s : zAS) (k : Nat × Nat) (o i : Nat) : zev zk_X2_intersection (66, ls, Sum.inr (o, i) :: st, s, k) = zpush zk_X2_intersection 69 ls st s k (zgv zEC 2 0 o i s.1) := zf_get rfl
theorem zr_X2_intersection_69 (a0 a1 a2 a4 : Option zAV) (st : List zAV) (s : zAS) (k : Nat × Nat) (o : Nat × Nat) : zev zk_X2_intersection (69, [a0, a1, a2, some (Sum.inr o), a4], st, s, k) = zev zk_X2_intersection (70, [a0, a1, a2, some (Sum.inr o), a4], Sum.inr o :: st, s, k) := zev_go rfl rfl
theorem zr_X2_intersection_70 (ls : zLs) (st : List zAV) (s : zAS) (k : Nat × Nat) (o i : Nat) : zev zk_X2_intersection (70, ls, Sum.inr (o, i) :: st, s, k) = zpush zk_X2_intersection 73 ls st s k (zgv zEC 4 8 o i s.1) := zf_get rfl
theorem zr_X2_intersection_73 (a0 a1 a3 a4 : Option zAV) (st : List zAV) (s : zAS) (k : Nat × Nat) (o : Nat × Nat) : zev zk_X2_intersection (73, [a0, a1, some (Sum.inr o), a3, a4], st, s, k) = zev zk_X2_intersection (74, [a0, a1, some (Sum.inr o), a3, a4], Sum.inr o :: st, s, k) := zev_go rfl rfl
theorem zr_X2_intersection_74 (ls : zLs) (st : List zAV) (s : zAS) (k : Nat × Nat) (o i : Nat) : zev zk_X2_intersection (74, ls, Sum.inr (o, i) :: st, s, k) = zpush zk_X2_intersection 77 ls st s k (zgv zEC 4 10 o i s.1) := zf_get rfl
theorem zr_X2_intersection_77 (ls : zLs) (st : List zAV) (s : zAS) (k : Nat × Nat) (x y : Int32) : zev zk_X2_intersection (77, ls, Sum.inl (Value.int y) :: Sum.inl (Value.int x) :: st, s, k) = zev zk_X2_intersection (78, ls, Sum.inl (Value.int (x * y)) :: st, s, k) := zev_go rfl rfl
theorem zr_X2_intersection_78 (a0 a1 a3 a4 : Option zAV) (st : List zAV) (s : zAS) (k : Nat × Nat) (o : Nat × Nat) : zev zk_X2_intersection (78, [a0, a1, some (Sum.inr o), a3, a4], st, s, k) = zev zk_X2_intersection (79, [a0, a1, some (Sum.inr o), a3, a4], Sum.inr o :: st, s, k) := zev_go rfl rfl
theorem zr_X2_intersection_79 (ls : zLs) (st : List zAV) (s : zAS) (k : Nat × Nat) (o i : Nat) : zev zk_X2_intersection (79, ls, Sum.inr (o, i) :: st, s, k) = zpush zk_X2_intersection 82 ls st s k (zgv zEC 4 8 o i s.1) := zf_get rfl
theorem zr_X2_intersection_82 (a0 a1 a2 a4 : Option zAV) (st : List zAV) (s : zAS) (k : Nat × Nat) (o : Nat × Nat) : zev zk_X2_intersection (82, [a0, a1, a2, some (Sum.inr o), a4], st, s, k) = zev zk_X2_intersection (83, [a0, a1, a2, some (Sum.inr o), a4], Sum.inr o :: st, s, k) := zev_go rfl rfl
theorem zr_X2_intersection_83 (ls : zLs) (st : List zAV) (s : zAS) (k : Nat × Nat) (o i : Nat) : zev zk_X2_intersection (83, ls, Sum.inr (o, i) :: st, s, k) = zpush zk_X2_intersection 86 ls st s k (zgv zEC 4 10 o i s.1) := zf_get rfl
theorem zr_X2_intersection_86 (ls : zLs) (st : List zAV) (s : zAS) (k : Nat × Nat) (x y : Int32) : zev zk_X2_intersection (86, ls, Sum.inl (Value.int y) :: Sum.inl (Value.int x) :: st, s, k) = zev zk_X2_intersection (87, ls, Sum.inl (Value.int (x * y)) :: st, s, k) := zev_go rfl rfl
theorem zr_X2_intersection_87 (ls : zLs) (st : List zAV) (s : zAS) (k : Nat × Nat) (x y : Int32) : zev zk_X2_intersection (87, ls, Sum.inl (Value.int y) :: Sum.inl (Value.int x) :: st, s, k) = zev zk_X2_intersection (88, ls, Sum.inl (Value.int (x - y)) :: st, s, k) := zev_go rfl rfl
theorem zr_X2_intersection_88 (a0 a1 a2 a3 : Option zAV) (st : List zAV) (s : zAS) (k : Nat × Nat) (x : Int32) : zev zk_X2_intersection (88, [a0, a1, a2, a3, some (Sum.inl (Value.int x))], st, s, k) = zev zk_X2_intersection (90, [a0, a1, a2, a3, some (Sum.inl (Value.int x))], Sum.inl (Value.int x) :: st, s, k) := zev_go rfl rfl
theorem zr_X2_intersection_90 (ls : zLs) (st : List zAV) (s : zAS) (k : Nat × Nat) (r v0 v1 : zAV) (h : zcok zEC 3 0 0 (zR_X2_intersection).cells (zR_X2_intersection).slots r st k) : zev zk_X2_intersection (90, ls, v1 :: v0 :: r :: st, s, k) = zret zk_X2_intersection 93 ls st (k.1 + 0, k.2 + 0) (m_X3_ratio [r, v0, v1] s) := zf_callV (as := [v1, v0]) 2 rfl rfl h
theorem zr_X2_intersection_93 (ls : zLs) (st : List zAV) (s : zAS) (k : Nat × Nat) (r v0 v1 v2 : zAV) (h : zcok zEC 2 0 0 (zR_X2_intersection).cells (zR_X2_intersection).slots r st k) : zev zk_X2_intersection (93, ls, v2 :: v1 :: v0 :: r :: st, s, k) = zret zk_X2_intersection 96 ls st (k.1 + 0, k.2 + 0) (m_X2_putPoint [r, v0, v1, v2] s) := zf_callV (as := [v2, v1, v0]) 3 rfl rfl h
theorem zr_X2_intersection_96 (ls : zLs) (s : zAS) (k : Nat × Nat) (x : Int32) (hx : x = 0 ∨ x = 1) : zev zk_X2_intersection (96, ls, [Sum.inl (Value.int x)], s, k) = some (.inl (some (Sum.inl (Value.int x))), s) := zf_retz rfl hx
/-! X2_power: PrimePlane$Compass.power(LPrimePlane$Figure;LPrimePlane$Figure;)I -/
abbrev zR_X2_power : Room := ({ frames := 2, cells := 0, slots := 0, locals := 43 } : Room)
noncomputable def zl_X2_power : List (Nat × zOp) := [(0, z_lda 0 1), (1, z_get zEC 2 0 4), (4, z_lda 2 5), (5, z_get zEC 4 8 8), (8, z_lda 1 9), (9, z_get zEC 4 8 12), (12, z_bin (fun x y => x * y) 13), (13, z_lda 2 14), (14, z_get zEC 4 9 17), (17, z_lda 1 18), (18, z_get zEC 4 9 21), (21, z_bin (fun x y => x * y) 22), (22, z_bin (fun x y => x + y) 23), (23, z_lda 2 24), (24, z_get zEC 4 10 27), (27, z_bin (fun x y => x + y) 28), (28, z_callV zEC 3 m_X3_rest 1 0 0 (zR_X2_power).cells (zR_X2_power).slots 31), (31, z_reti false)]
noncomputable def zk_X2_power (pc : Nat) : Option zOp := zlook zl_X2_power pc
noncomputable def m_X2_power : List zAV → zAS → Option zOut := zmeth zk_X2_power 3
set_option maxRecDepth 100000 in
set_option maxHeartbeats 4000000 in
theorem zcs_X2_power {R : Room} (hR : R = zR_X2_power) : ∀ q ∈ zl_X2_power, zS zEC yX2_power.cls cX2_power 3 wsX2_power (some .int) R q.1 q.2 := by
  subst hR
  have hin2 : ∀ w ∈ wsX20, w ∈ wsX2_power := fun w h => List.mem_cons_of_mem _ (List.mem_append_left _ (List.mem_append_left _ (List.mem_append_right _ h)))
  have hin4 : ∀ w ∈ wsX40, w ∈ wsX2_power := fun w h => List.mem_cons_of_mem _ (List.mem_append_left _ (List.mem_append_right _ h))
  refine List.forall_mem_cons.mpr ⟨zs_aload_n dX2_power_0 rfl, ?_⟩
  refine List.forall_mem_cons.mpr ⟨zs_get (ci := 2) (j := 0) (N := 2) (C := RX2) (T := TX2) (index := 12) rfl (by decide) hin2 (List.mem_of_getElem? (i := 1) rfl) dX2_power_1, ?_⟩
  refine List.forall_mem_cons.mpr ⟨zs_aload_n dX2_power_4 rfl, ?_⟩
  refine List.forall_mem_cons.mpr ⟨zs_get (ci := 4) (j := 8) (N := 13) (C := RX4) (T := TX4) (index := 64) rfl (by decide) hin4 (List.mem_of_getElem? (i := 2) rfl) dX2_power_5, ?_⟩
  refine List.forall_mem_cons.mpr ⟨zs_aload_n dX2_power_8 rfl, ?_⟩
  refine List.forall_mem_cons.mpr ⟨zs_get (ci := 4) (j := 8) (N := 13) (C := RX4) (T := TX4) (index := 64) rfl (by decide) hin4 (List.mem_of_getElem? (i := 2) rfl) dX2_power_9, ?_⟩
  refine List.forall_mem_cons.mpr ⟨zs_imul dX2_power_12, ?_⟩
  refine List.forall_mem_cons.mpr ⟨zs_aload_n dX2_power_13 rfl, ?_⟩
  refine List.forall_mem_cons.mpr ⟨zs_get (ci := 4) (j := 9) (N := 13) (C := RX4) (T := TX4) (index := 67) rfl (by decide) hin4 (List.mem_of_getElem? (i := 3) rfl) dX2_power_14, ?_⟩
  refine List.forall_mem_cons.mpr ⟨zs_aload_n dX2_power_17 rfl, ?_⟩
  refine List.forall_mem_cons.mpr ⟨zs_get (ci := 4) (j := 9) (N := 13) (C := RX4) (T := TX4) (index := 67) rfl (by decide) hin4 (List.mem_of_getElem? (i := 3) rfl) dX2_power_18, ?_⟩
  refine List.forall_mem_cons.mpr ⟨zs_imul dX2_power_21, ?_⟩
  refine List.forall_mem_cons.mpr ⟨zs_iadd dX2_power_22, ?_⟩
  refine List.forall_mem_cons.mpr ⟨zs_aload_n dX2_power_23 rfl, ?_⟩
  refine List.forall_mem_cons.mpr ⟨zs_get (ci := 4) (j := 10) (N := 13) (C := RX4) (T := TX4) (index := 100) rfl (by decide) hin4 (List.mem_of_getElem? (i := 4) rfl) dX2_power_24, ?_⟩
  refine List.forall_mem_cons.mpr ⟨zs_iadd dX2_power_27, ?_⟩
  refine List.forall_mem_cons.mpr ⟨zs_callV (ci := 3) (rm := zR_X3_rest) (n := 1) rfl zM_X3_rest gX2_power_X3_rest rfl (by decide +kernel) ⟨by decide, by decide⟩ dX2_power_28, ?_⟩
  refine List.forall_mem_cons.mpr ⟨zs_reti (ty := .int) rfl (fun x h => (zni x h).1) dX2_power_31, ?_⟩
  exact fun _ h => absurd h List.not_mem_nil
theorem zM_X2_power : zMeets zEC yX2_power wsX2_power zR_X2_power m_X2_power := zmeth_M zECok (zlook_all (zcs_X2_power rfl)) (by decide +kernel) rfl
theorem zr_X2_power_0 (a1 a2 : Option zAV) (st : List zAV) (s : zAS) (k : Nat × Nat) (o : Nat × Nat) : zev zk_X2_power (0, [some (Sum.inr o), a1, a2], st, s, k) = zev zk_X2_power (1, [some (Sum.inr o), a1, a2], Sum.inr o :: st, s, k) := zev_go rfl rfl
theorem zr_X2_power_1 (ls : zLs) (st : List zAV) (s : zAS) (k : Nat × Nat) (o i : Nat) : zev zk_X2_power (1, ls, Sum.inr (o, i) :: st, s, k) = zpush zk_X2_power 4 ls st s k (zgv zEC 2 0 o i s.1) := zf_get rfl
theorem zr_X2_power_4 (a0 a1 : Option zAV) (st : List zAV) (s : zAS) (k : Nat × Nat) (o : Nat × Nat) : zev zk_X2_power (4, [a0, a1, some (Sum.inr o)], st, s, k) = zev zk_X2_power (5, [a0, a1, some (Sum.inr o)], Sum.inr o :: st, s, k) := zev_go rfl rfl
theorem zr_X2_power_5 (ls : zLs) (st : List zAV) (s : zAS) (k : Nat × Nat) (o i : Nat) : zev zk_X2_power (5, ls, Sum.inr (o, i) :: st, s, k) = zpush zk_X2_power 8 ls st s k (zgv zEC 4 8 o i s.1) := zf_get rfl
theorem zr_X2_power_8 (a0 a2 : Option zAV) (st : List zAV) (s : zAS) (k : Nat × Nat) (o : Nat × Nat) : zev zk_X2_power (8, [a0, some (Sum.inr o), a2], st, s, k) = zev zk_X2_power (9, [a0, some (Sum.inr o), a2], Sum.inr o :: st, s, k) := zev_go rfl rfl
theorem zr_X2_power_9 (ls : zLs) (st : List zAV) (s : zAS) (k : Nat × Nat) (o i : Nat) : zev zk_X2_power (9, ls, Sum.inr (o, i) :: st, s, k) = zpush zk_X2_power 12 ls st s k (zgv zEC 4 8 o i s.1) := zf_get rfl
theorem zr_X2_power_12 (ls : zLs) (st : List zAV) (s : zAS) (k : Nat × Nat) (x y : Int32) : zev zk_X2_power (12, ls, Sum.inl (Value.int y) :: Sum.inl (Value.int x) :: st, s, k) = zev zk_X2_power (13, ls, Sum.inl (Value.int (x * y)) :: st, s, k) := zev_go rfl rfl
theorem zr_X2_power_13 (a0 a1 : Option zAV) (st : List zAV) (s : zAS) (k : Nat × Nat) (o : Nat × Nat) : zev zk_X2_power (13, [a0, a1, some (Sum.inr o)], st, s, k) = zev zk_X2_power (14, [a0, a1, some (Sum.inr o)], Sum.inr o :: st, s, k) := zev_go rfl rfl
theorem zr_X2_power_14 (ls : zLs) (st : List zAV) (s : zAS) (k : Nat × Nat) (o i : Nat) : zev zk_X2_power (14, ls, Sum.inr (o, i) :: st, s, k) = zpush zk_X2_power 17 ls st s k (zgv zEC 4 9 o i s.1) := zf_get rfl
theorem zr_X2_power_17 (a0 a2 : Option zAV) (st : List zAV) (s : zAS) (k : Nat × Nat) (o : Nat × Nat) : zev zk_X2_power (17, [a0, some (Sum.inr o), a2], st, s, k) = zev zk_X2_power (18, [a0, some (Sum.inr o), a2], Sum.inr o :: st, s, k) := zev_go rfl rfl
theorem zr_X2_power_18 (ls : zLs) (st : List zAV) (s : zAS) (k : Nat × Nat) (o i : Nat) : zev zk_X2_power (18, ls, Sum.inr (o, i) :: st, s, k) = zpush zk_X2_power 21 ls st s k (zgv zEC 4 9 o i s.1) := zf_get rfl
theorem zr_X2_power_21 (ls : zLs) (st : List zAV) (s : zAS) (k : Nat × Nat) (x y : Int32) : zev zk_X2_power (21, ls, Sum.inl (Value.int y) :: Sum.inl (Value.int x) :: st, s, k) = zev zk_X2_power (22, ls, Sum.inl (Value.int (x * y)) :: st, s, k) := zev_go rfl rfl
theorem zr_X2_power_22 (ls : zLs) (st : List zAV) (s : zAS) (k : Nat × Nat) (x y : Int32) : zev zk_X2_power (22, ls, Sum.inl (Value.int y) :: Sum.inl (Value.int x) :: st, s, k) = zev zk_X2_power (23, ls, Sum.inl (Value.int (x + y)) :: st, s, k) := zev_go rfl rfl
theorem zr_X2_power_23 (a0 a1 : Option zAV) (st : List zAV) (s : zAS) (k : Nat × Nat) (o : Nat × Nat) : zev zk_X2_power (23, [a0, a1, some (Sum.inr o)], st, s, k) = zev zk_X2_power (24, [a0, a1, some (Sum.inr o)], Sum.inr o :: st, s, k) := zev_go rfl rfl
theorem zr_X2_power_24 (ls : zLs) (st : List zAV) (s : zAS) (k : Nat × Nat) (o i : Nat) : zev zk_X2_power (24, ls, Sum.inr (o, i) :: st, s, k) = zpush zk_X2_power 27 ls st s k (zgv zEC 4 10 o i s.1) := zf_get rfl
theorem zr_X2_power_27 (ls : zLs) (st : List zAV) (s : zAS) (k : Nat × Nat) (x y : Int32) : zev zk_X2_power (27, ls, Sum.inl (Value.int y) :: Sum.inl (Value.int x) :: st, s, k) = zev zk_X2_power (28, ls, Sum.inl (Value.int (x + y)) :: st, s, k) := zev_go rfl rfl
theorem zr_X2_power_28 (ls : zLs) (st : List zAV) (s : zAS) (k : Nat × Nat) (r v0 : zAV) (h : zcok zEC 3 0 0 (zR_X2_power).cells (zR_X2_power).slots r st k) : zev zk_X2_power (28, ls, v0 :: r :: st, s, k) = zret zk_X2_power 31 ls st (k.1 + 0, k.2 + 0) (m_X3_rest [r, v0] s) := zf_callV (as := [v0]) 1 rfl rfl h
theorem zr_X2_power_31 (ls : zLs) (s : zAS) (k : Nat × Nat) (x : Int32) : zev zk_X2_power (31, ls, [Sum.inl (Value.int x)], s, k) = some (.inl (some (Sum.inl (Value.int x))), s) := zf_reti rfl
/-! X2_lineAndCircle: PrimePlane$Compass.lineAndCircle(LPrimePlane$Figure;LPrimePlane$Figure;LPrimePlane$Figure;)Z -/
abbrev zR_X2_lineAndCircle : Room := ({ frames := 3, cells := 0, slots := 0, locals := 66 } : Room)
noncomputable def zl_X2_lineAndCircle : List (Nat × zOp) := [(0, z_lda 2 1), (1, z_get zEC 4 8 4), (4, z_sti 4 6), (6, z_lda 2 7), (7, z_get zEC 4 9 10), (10, z_sti 5 12), (12, z_lda 0 13), (13, z_get zEC 2 0 16), (16, z_ldi 4 18), (18, z_ldi 4 20), (20, z_bin (fun x y => x * y) 21), (21, z_ldi 5 23), (23, z_ldi 5 25), (25, z_bin (fun x y => x * y) 26), (26, z_bin (fun x y => x + y) 27), (27, z_callV zEC 3 m_X3_rest 1 0 0 (zR_X2_lineAndCircle).cells (zR_X2_lineAndCircle).slots 30), (30, z_sti 6 32), (32, z_lda 0 33), (33, z_lda 3 34), (34, z_lda 2 35), (35, z_callV zEC 2 m_X2_power 2 0 0 (zR_X2_lineAndCircle).cells (zR_X2_lineAndCircle).slots 38), (38, z_sti 7 40), (40, z_lda 0 41), (41, z_get zEC 2 0 44), (44, z_lda 3 45), (45, z_get zEC 4 10 48), (48, z_ldi 6 50), (50, z_bin (fun x y => x * y) 51), (51, z_ldi 7 53), (53, z_ldi 7 55), (55, z_bin (fun x y => x * y) 56), (56, z_bin (fun x y => x - y) 57), (57, z_callV zEC 3 m_X3_rootOf 1 0 0 (zR_X2_lineAndCircle).cells (zR_X2_lineAndCircle).slots 60), (60, z_sti 8 62), (62, z_ldi 6 64), (64, z_if (fun x => decide (x = 0)) 72 67), (67, z_ldi 8 69), (69, z_if (fun x => decide (0 ≤ x)) 74 72), (72, z_ic (0) 73), (73, z_reti true), (74, z_lda 0 75), (75, z_get zEC 2 0 78), (78, z_lda 3 79), (79, z_get zEC 4 8 82), (82, z_lda 0 83), (83, z_get zEC 2 0 86), (86, z_ldi 4 88), (88, z_neg 89), (89, z_ldi 7 91), (91, z_bin (fun x y => x * y) 92), (92, z_ldi 5 94), (94, z_ldi 8 96), (96, z_bin (fun x y => x * y) 97), (97, z_bin (fun x y => x - y) 98), (98, z_ldi 6 100), (100, z_callV zEC 3 m_X3_ratio 2 0 0 (zR_X2_lineAndCircle).cells (zR_X2_lineAndCircle).slots 103), (103, z_bin (fun x y => x + y) 104), (104, z_callV zEC 3 m_X3_rest 1 0 0 (zR_X2_lineAndCircle).cells (zR_X2_lineAndCircle).slots 107), (107, z_sti 9 109), (109, z_lda 0 110), (110, z_get zEC 2 0 113), (113, z_lda 3 114), (114, z_get zEC 4 9 117), (117, z_lda 0 118), (118, z_get zEC 2 0 121), (121, z_ldi 5 123), (123, z_neg 124), (124, z_ldi 7 126), (126, z_bin (fun x y => x * y) 127), (127, z_ldi 4 129), (129, z_ldi 8 131), (131, z_bin (fun x y => x * y) 132), (132, z_bin (fun x y => x + y) 133), (133, z_ldi 6 135), (135, z_callV zEC 3 m_X3_ratio 2 0 0 (zR_X2_lineAndCircle).cells (zR_X2_lineAndCircle).slots 138), (138, z_bin (fun x y => x + y) 139), (139, z_callV zEC 3 m_X3_rest 1 0 0 (zR_X2_lineAndCircle).cells (zR_X2_lineAndCircle).slots 142), (142, z_sti 10 144), (144, z_lda 0 145), (145, z_get zEC 2 0 148), (148, z_lda 3 149), (149, z_get zEC 4 8 152), (152, z_lda 0 153), (153, z_get zEC 2 0 156), (156, z_ldi 4 158), (158, z_neg 159), (159, z_ldi 7 161), (161, z_bin (fun x y => x * y) 162), (162, z_ldi 5 164), (164, z_ldi 8 166), (166, z_bin (fun x y => x * y) 167), (167, z_bin (fun x y => x + y) 168), (168, z_ldi 6 170), (170, z_callV zEC 3 m_X3_ratio 2 0 0 (zR_X2_lineAndCircle).cells (zR_X2_lineAndCircle).slots 173), (173, z_bin (fun x y => x + y) 174), (174, z_callV zEC 3 m_X3_rest 1 0 0 (zR_X2_lineAndCircle).cells (zR_X2_lineAndCircle).slots 177), (177, z_sti 11 179), (179, z_lda 0 180), (180, z_get zEC 2 0 183), (183, z_lda 3 184), (184, z_get zEC 4 9 187), (187, z_lda 0 188), (188, z_get zEC 2 0 191), (191, z_ldi 5 193), (193, z_neg 194), (194, z_ldi 7 196), (196, z_bin (fun x y => x * y) 197), (197, z_ldi 4 199), (199, z_ldi 8 201), (201, z_bin (fun x y => x * y) 202), (202, z_bin (fun x y => x - y) 203), (203, z_ldi 6 205), (205, z_callV zEC 3 m_X3_ratio 2 0 0 (zR_X2_lineAndCircle).cells (zR_X2_lineAndCircle).slots 208), (208, z_bin (fun x y => x + y) 209), (209, z_callV zEC 3 m_X3_rest 1 0 0 (zR_X2_lineAndCircle).cells (zR_X2_lineAndCircle).slots 212), (212, z_sti 12 214), (214, z_ldi 9 216), (216, z_ldi 11 218), (218, z_cmp (fun x y => decide (x < y)) 235 221), (221, z_ldi 9 223), (223, z_ldi 11 225), (225, z_cmp (fun x y => decide (¬ x = y)) 239 228), (228, z_ldi 10 230), (230, z_ldi 12 232), (232, z_cmp (fun x y => decide (y < x)) 239 235), (235, z_ic (1) 236), (236, z_goto 240), (239, z_ic (0) 240), (240, z_sti 13 242), (242, z_lda 1 243), (243, z_get zEC 4 1 246), (246, z_ic (3) 247), (247, z_cmp (fun x y => decide (x = y)) 258 250), (250, z_lda 1 251), (251, z_get zEC 4 1 254), (254, z_ic (5) 255), (255, z_cmp (fun x y => decide (¬ x = y)) 262 258), (258, z_ic (1) 259), (259, z_goto 263), (262, z_ic (0) 263), (263, z_sti 14 265), (265, z_ldi 13 267), (267, z_ldi 14 269), (269, z_cmp (fun x y => decide (¬ x = y)) 284 272), (272, z_lda 0 273), (273, z_lda 1 274), (274, z_ldi 9 276), (276, z_ldi 10 278), (278, z_callV zEC 2 m_X2_putPoint 3 0 0 (zR_X2_lineAndCircle).cells (zR_X2_lineAndCircle).slots 281), (281, z_goto 293), (284, z_lda 0 285), (285, z_lda 1 286), (286, z_ldi 11 288), (288, z_ldi 12 290), (290, z_callV zEC 2 m_X2_putPoint 3 0 0 (zR_X2_lineAndCircle).cells (zR_X2_lineAndCircle).slots 293), (293, z_reti true)]
noncomputable def zk_X2_lineAndCircle (pc : Nat) : Option zOp := zlook zl_X2_lineAndCircle pc
noncomputable def m_X2_lineAndCircle : List zAV → zAS → Option zOut := zmeth zk_X2_lineAndCircle 15
set_option maxRecDepth 100000 in
set_option maxHeartbeats 4000000 in
theorem zcs_X2_lineAndCircle {R : Room} (hR : R = zR_X2_lineAndCircle) : ∀ q ∈ zl_X2_lineAndCircle, zS zEC yX2_lineAndCircle.cls cX2_lineAndCircle 15 wsX2_lineAndCircle (some .boolean) R q.1 q.2 := by
  subst hR
  have hin2 : ∀ w ∈ wsX20, w ∈ wsX2_lineAndCircle := fun w h => List.mem_cons_of_mem _ (List.mem_append_left _ (List.mem_append_right _ h))
  have hin4 : ∀ w ∈ wsX40, w ∈ wsX2_lineAndCircle := fun w h => List.mem_cons_of_mem _ (List.mem_append_left _ (List.mem_append_left _ (List.mem_append_right _ h)))
  refine List.forall_mem_cons.mpr ⟨zs_aload_n dX2_lineAndCircle_0 rfl, ?_⟩
  refine List.forall_mem_cons.mpr ⟨zs_get (ci := 4) (j := 8) (N := 13) (C := RX4) (T := TX4) (index := 64) rfl (by decide) hin4 (List.mem_of_getElem? (i := 1) rfl) dX2_lineAndCircle_1, ?_⟩
  refine List.forall_mem_cons.mpr ⟨zs_istore dX2_lineAndCircle_4, ?_⟩
  refine List.forall_mem_cons.mpr ⟨zs_aload_n dX2_lineAndCircle_6 rfl, ?_⟩
  refine List.forall_mem_cons.mpr ⟨zs_get (ci := 4) (j := 9) (N := 13) (C := RX4) (T := TX4) (index := 67) rfl (by decide) hin4 (List.mem_of_getElem? (i := 2) rfl) dX2_lineAndCircle_7, ?_⟩
  refine List.forall_mem_cons.mpr ⟨zs_istore dX2_lineAndCircle_10, ?_⟩
  refine List.forall_mem_cons.mpr ⟨zs_aload_n dX2_lineAndCircle_12 rfl, ?_⟩
  refine List.forall_mem_cons.mpr ⟨zs_get (ci := 2) (j := 0) (N := 2) (C := RX2) (T := TX2) (index := 12) rfl (by decide) hin2 (List.mem_of_getElem? (i := 3) rfl) dX2_lineAndCircle_13, ?_⟩
  refine List.forall_mem_cons.mpr ⟨zs_iload dX2_lineAndCircle_16, ?_⟩
  refine List.forall_mem_cons.mpr ⟨zs_iload dX2_lineAndCircle_18, ?_⟩
  refine List.forall_mem_cons.mpr ⟨zs_imul dX2_lineAndCircle_20, ?_⟩
  refine List.forall_mem_cons.mpr ⟨zs_iload dX2_lineAndCircle_21, ?_⟩
  refine List.forall_mem_cons.mpr ⟨zs_iload dX2_lineAndCircle_23, ?_⟩
  refine List.forall_mem_cons.mpr ⟨zs_imul dX2_lineAndCircle_25, ?_⟩
  refine List.forall_mem_cons.mpr ⟨zs_iadd dX2_lineAndCircle_26, ?_⟩
  refine List.forall_mem_cons.mpr ⟨zs_callV (ci := 3) (rm := zR_X3_rest) (n := 1) rfl zM_X3_rest gX2_lineAndCircle_X3_rest rfl (by decide +kernel) ⟨by decide, by decide⟩ dX2_lineAndCircle_27, ?_⟩
  refine List.forall_mem_cons.mpr ⟨zs_istore dX2_lineAndCircle_30, ?_⟩
  refine List.forall_mem_cons.mpr ⟨zs_aload_n dX2_lineAndCircle_32 rfl, ?_⟩
  refine List.forall_mem_cons.mpr ⟨zs_aload_n dX2_lineAndCircle_33 rfl, ?_⟩
  refine List.forall_mem_cons.mpr ⟨zs_aload_n dX2_lineAndCircle_34 rfl, ?_⟩
  refine List.forall_mem_cons.mpr ⟨zs_callV (ci := 2) (rm := zR_X2_power) (n := 2) rfl zM_X2_power gX2_lineAndCircle_X2_power rfl (by decide +kernel) ⟨by decide, by decide⟩ dX2_lineAndCircle_35, ?_⟩
  refine List.forall_mem_cons.mpr ⟨zs_istore dX2_lineAndCircle_38, ?_⟩
  refine List.forall_mem_cons.mpr ⟨zs_aload_n dX2_lineAndCircle_40 rfl, ?_⟩
  refine List.forall_mem_cons.mpr ⟨zs_get (ci := 2) (j := 0) (N := 2) (C := RX2) (T := TX2) (index := 12) rfl (by decide) hin2 (List.mem_of_getElem? (i := 3) rfl) dX2_lineAndCircle_41, ?_⟩
  refine List.forall_mem_cons.mpr ⟨zs_aload_n dX2_lineAndCircle_44 rfl, ?_⟩
  refine List.forall_mem_cons.mpr ⟨zs_get (ci := 4) (j := 10) (N := 13) (C := RX4) (T := TX4) (index := 100) rfl (by decide) hin4 (List.mem_of_getElem? (i := 4) rfl) dX2_lineAndCircle_45, ?_⟩
  refine List.forall_mem_cons.mpr ⟨zs_iload dX2_lineAndCircle_48, ?_⟩
  refine List.forall_mem_cons.mpr ⟨zs_imul dX2_lineAndCircle_50, ?_⟩
  refine List.forall_mem_cons.mpr ⟨zs_iload dX2_lineAndCircle_51, ?_⟩
  refine List.forall_mem_cons.mpr ⟨zs_iload dX2_lineAndCircle_53, ?_⟩
  refine List.forall_mem_cons.mpr ⟨zs_imul dX2_lineAndCircle_55, ?_⟩
  refine List.forall_mem_cons.mpr ⟨zs_isub dX2_lineAndCircle_56, ?_⟩
  refine List.forall_mem_cons.mpr ⟨zs_callV (ci := 3) (rm := zR_X3_rootOf) (n := 1) rfl zM_X3_rootOf gX2_lineAndCircle_X3_rootOf rfl (by decide +kernel) ⟨by decide, by decide⟩ dX2_lineAndCircle_57, ?_⟩
  refine List.forall_mem_cons.mpr ⟨zs_istore dX2_lineAndCircle_60, ?_⟩
  refine List.forall_mem_cons.mpr ⟨zs_iload dX2_lineAndCircle_62, ?_⟩
  refine List.forall_mem_cons.mpr ⟨zs_ifeq dX2_lineAndCircle_64 (by decide), ?_⟩
  refine List.forall_mem_cons.mpr ⟨zs_iload dX2_lineAndCircle_67, ?_⟩
  refine List.forall_mem_cons.mpr ⟨zs_ifge dX2_lineAndCircle_69 (by decide), ?_⟩
  refine List.forall_mem_cons.mpr ⟨zs_iconst dX2_lineAndCircle_72 (by decide), ?_⟩
  refine List.forall_mem_cons.mpr ⟨zs_reti (ty := .boolean) rfl (fun x h => (znz x h).1) dX2_lineAndCircle_73, ?_⟩
  refine List.forall_mem_cons.mpr ⟨zs_aload_n dX2_lineAndCircle_74 rfl, ?_⟩
  refine List.forall_mem_cons.mpr ⟨zs_get (ci := 2) (j := 0) (N := 2) (C := RX2) (T := TX2) (index := 12) rfl (by decide) hin2 (List.mem_of_getElem? (i := 3) rfl) dX2_lineAndCircle_75, ?_⟩
  refine List.forall_mem_cons.mpr ⟨zs_aload_n dX2_lineAndCircle_78 rfl, ?_⟩
  refine List.forall_mem_cons.mpr ⟨zs_get (ci := 4) (j := 8) (N := 13) (C := RX4) (T := TX4) (index := 64) rfl (by decide) hin4 (List.mem_of_getElem? (i := 1) rfl) dX2_lineAndCircle_79, ?_⟩
  refine List.forall_mem_cons.mpr ⟨zs_aload_n dX2_lineAndCircle_82 rfl, ?_⟩
  refine List.forall_mem_cons.mpr ⟨zs_get (ci := 2) (j := 0) (N := 2) (C := RX2) (T := TX2) (index := 12) rfl (by decide) hin2 (List.mem_of_getElem? (i := 3) rfl) dX2_lineAndCircle_83, ?_⟩
  refine List.forall_mem_cons.mpr ⟨zs_iload dX2_lineAndCircle_86, ?_⟩
  refine List.forall_mem_cons.mpr ⟨zs_ineg dX2_lineAndCircle_88, ?_⟩
  refine List.forall_mem_cons.mpr ⟨zs_iload dX2_lineAndCircle_89, ?_⟩
  refine List.forall_mem_cons.mpr ⟨zs_imul dX2_lineAndCircle_91, ?_⟩
  refine List.forall_mem_cons.mpr ⟨zs_iload dX2_lineAndCircle_92, ?_⟩
  refine List.forall_mem_cons.mpr ⟨zs_iload dX2_lineAndCircle_94, ?_⟩
  refine List.forall_mem_cons.mpr ⟨zs_imul dX2_lineAndCircle_96, ?_⟩
  refine List.forall_mem_cons.mpr ⟨zs_isub dX2_lineAndCircle_97, ?_⟩
  refine List.forall_mem_cons.mpr ⟨zs_iload dX2_lineAndCircle_98, ?_⟩
  refine List.forall_mem_cons.mpr ⟨zs_callV (ci := 3) (rm := zR_X3_ratio) (n := 2) rfl zM_X3_ratio gX2_lineAndCircle_X3_ratio rfl (by decide +kernel) ⟨by decide, by decide⟩ dX2_lineAndCircle_100, ?_⟩
  refine List.forall_mem_cons.mpr ⟨zs_iadd dX2_lineAndCircle_103, ?_⟩
  refine List.forall_mem_cons.mpr ⟨zs_callV (ci := 3) (rm := zR_X3_rest) (n := 1) rfl zM_X3_rest gX2_lineAndCircle_X3_rest rfl (by decide +kernel) ⟨by decide, by decide⟩ dX2_lineAndCircle_104, ?_⟩
  refine List.forall_mem_cons.mpr ⟨zs_istore dX2_lineAndCircle_107, ?_⟩
  refine List.forall_mem_cons.mpr ⟨zs_aload_n dX2_lineAndCircle_109 rfl, ?_⟩
  refine List.forall_mem_cons.mpr ⟨zs_get (ci := 2) (j := 0) (N := 2) (C := RX2) (T := TX2) (index := 12) rfl (by decide) hin2 (List.mem_of_getElem? (i := 3) rfl) dX2_lineAndCircle_110, ?_⟩
  refine List.forall_mem_cons.mpr ⟨zs_aload_n dX2_lineAndCircle_113 rfl, ?_⟩
  refine List.forall_mem_cons.mpr ⟨zs_get (ci := 4) (j := 9) (N := 13) (C := RX4) (T := TX4) (index := 67) rfl (by decide) hin4 (List.mem_of_getElem? (i := 2) rfl) dX2_lineAndCircle_114, ?_⟩
  refine List.forall_mem_cons.mpr ⟨zs_aload_n dX2_lineAndCircle_117 rfl, ?_⟩
  refine List.forall_mem_cons.mpr ⟨zs_get (ci := 2) (j := 0) (N := 2) (C := RX2) (T := TX2) (index := 12) rfl (by decide) hin2 (List.mem_of_getElem? (i := 3) rfl) dX2_lineAndCircle_118, ?_⟩
  refine List.forall_mem_cons.mpr ⟨zs_iload dX2_lineAndCircle_121, ?_⟩
  refine List.forall_mem_cons.mpr ⟨zs_ineg dX2_lineAndCircle_123, ?_⟩
  refine List.forall_mem_cons.mpr ⟨zs_iload dX2_lineAndCircle_124, ?_⟩
  refine List.forall_mem_cons.mpr ⟨zs_imul dX2_lineAndCircle_126, ?_⟩
  refine List.forall_mem_cons.mpr ⟨zs_iload dX2_lineAndCircle_127, ?_⟩
  refine List.forall_mem_cons.mpr ⟨zs_iload dX2_lineAndCircle_129, ?_⟩
  refine List.forall_mem_cons.mpr ⟨zs_imul dX2_lineAndCircle_131, ?_⟩
  refine List.forall_mem_cons.mpr ⟨zs_iadd dX2_lineAndCircle_132, ?_⟩
  refine List.forall_mem_cons.mpr ⟨zs_iload dX2_lineAndCircle_133, ?_⟩
  refine List.forall_mem_cons.mpr ⟨zs_callV (ci := 3) (rm := zR_X3_ratio) (n := 2) rfl zM_X3_ratio gX2_lineAndCircle_X3_ratio rfl (by decide +kernel) ⟨by decide, by decide⟩ dX2_lineAndCircle_135, ?_⟩
  refine List.forall_mem_cons.mpr ⟨zs_iadd dX2_lineAndCircle_138, ?_⟩
  refine List.forall_mem_cons.mpr ⟨zs_callV (ci := 3) (rm := zR_X3_rest) (n := 1) rfl zM_X3_rest gX2_lineAndCircle_X3_rest rfl (by decide +kernel) ⟨by decide, by decide⟩ dX2_lineAndCircle_139, ?_⟩
  refine List.forall_mem_cons.mpr ⟨zs_istore dX2_lineAndCircle_142, ?_⟩
  refine List.forall_mem_cons.mpr ⟨zs_aload_n dX2_lineAndCircle_144 rfl, ?_⟩
  refine List.forall_mem_cons.mpr ⟨zs_get (ci := 2) (j := 0) (N := 2) (C := RX2) (T := TX2) (index := 12) rfl (by decide) hin2 (List.mem_of_getElem? (i := 3) rfl) dX2_lineAndCircle_145, ?_⟩
  refine List.forall_mem_cons.mpr ⟨zs_aload_n dX2_lineAndCircle_148 rfl, ?_⟩
  refine List.forall_mem_cons.mpr ⟨zs_get (ci := 4) (j := 8) (N := 13) (C := RX4) (T := TX4) (index := 64) rfl (by decide) hin4 (List.mem_of_getElem? (i := 1) rfl) dX2_lineAndCircle_149, ?_⟩
  refine List.forall_mem_cons.mpr ⟨zs_aload_n dX2_lineAndCircle_152 rfl, ?_⟩
  refine List.forall_mem_cons.mpr ⟨zs_get (ci := 2) (j := 0) (N := 2) (C := RX2) (T := TX2) (index := 12) rfl (by decide) hin2 (List.mem_of_getElem? (i := 3) rfl) dX2_lineAndCircle_153, ?_⟩
  refine List.forall_mem_cons.mpr ⟨zs_iload dX2_lineAndCircle_156, ?_⟩
  refine List.forall_mem_cons.mpr ⟨zs_ineg dX2_lineAndCircle_158, ?_⟩
  refine List.forall_mem_cons.mpr ⟨zs_iload dX2_lineAndCircle_159, ?_⟩
  refine List.forall_mem_cons.mpr ⟨zs_imul dX2_lineAndCircle_161, ?_⟩
  refine List.forall_mem_cons.mpr ⟨zs_iload dX2_lineAndCircle_162, ?_⟩
  refine List.forall_mem_cons.mpr ⟨zs_iload dX2_lineAndCircle_164, ?_⟩
  refine List.forall_mem_cons.mpr ⟨zs_imul dX2_lineAndCircle_166, ?_⟩
  refine List.forall_mem_cons.mpr ⟨zs_iadd dX2_lineAndCircle_167, ?_⟩
  refine List.forall_mem_cons.mpr ⟨zs_iload dX2_lineAndCircle_168, ?_⟩
  refine List.forall_mem_cons.mpr ⟨zs_callV (ci := 3) (rm := zR_X3_ratio) (n := 2) rfl zM_X3_ratio gX2_lineAndCircle_X3_ratio rfl (by decide +kernel) ⟨by decide, by decide⟩ dX2_lineAndCircle_170, ?_⟩
  refine List.forall_mem_cons.mpr ⟨zs_iadd dX2_lineAndCircle_173, ?_⟩
  refine List.forall_mem_cons.mpr ⟨zs_callV (ci := 3) (rm := zR_X3_rest) (n := 1) rfl zM_X3_rest gX2_lineAndCircle_X3_rest rfl (by decide +kernel) ⟨by decide, by decide⟩ dX2_lineAndCircle_174, ?_⟩
  refine List.forall_mem_cons.mpr ⟨zs_istore dX2_lineAndCircle_177, ?_⟩
  refine List.forall_mem_cons.mpr ⟨zs_aload_n dX2_lineAndCircle_179 rfl, ?_⟩
  refine List.forall_mem_cons.mpr ⟨zs_get (ci := 2) (j := 0) (N := 2) (C := RX2) (T := TX2) (index := 12) rfl (by decide) hin2 (List.mem_of_getElem? (i := 3) rfl) dX2_lineAndCircle_180, ?_⟩
  refine List.forall_mem_cons.mpr ⟨zs_aload_n dX2_lineAndCircle_183 rfl, ?_⟩
  refine List.forall_mem_cons.mpr ⟨zs_get (ci := 4) (j := 9) (N := 13) (C := RX4) (T := TX4) (index := 67) rfl (by decide) hin4 (List.mem_of_getElem? (i := 2) rfl) dX2_lineAndCircle_184, ?_⟩
  refine List.forall_mem_cons.mpr ⟨zs_aload_n dX2_lineAndCircle_187 rfl, ?_⟩
  refine List.forall_mem_cons.mpr ⟨zs_get (ci := 2) (j := 0) (N := 2) (C := RX2) (T := TX2) (index := 12) rfl (by decide) hin2 (List.mem_of_getElem? (i := 3) rfl) dX2_lineAndCircle_188, ?_⟩
  refine List.forall_mem_cons.mpr ⟨zs_iload dX2_lineAndCircle_191, ?_⟩
  refine List.forall_mem_cons.mpr ⟨zs_ineg dX2_lineAndCircle_193, ?_⟩
  refine List.forall_mem_cons.mpr ⟨zs_iload dX2_lineAndCircle_194, ?_⟩
  refine List.forall_mem_cons.mpr ⟨zs_imul dX2_lineAndCircle_196, ?_⟩
  refine List.forall_mem_cons.mpr ⟨zs_iload dX2_lineAndCircle_197, ?_⟩
  refine List.forall_mem_cons.mpr ⟨zs_iload dX2_lineAndCircle_199, ?_⟩
  refine List.forall_mem_cons.mpr ⟨zs_imul dX2_lineAndCircle_201, ?_⟩
  refine List.forall_mem_cons.mpr ⟨zs_isub dX2_lineAndCircle_202, ?_⟩
  refine List.forall_mem_cons.mpr ⟨zs_iload dX2_lineAndCircle_203, ?_⟩
  refine List.forall_mem_cons.mpr ⟨zs_callV (ci := 3) (rm := zR_X3_ratio) (n := 2) rfl zM_X3_ratio gX2_lineAndCircle_X3_ratio rfl (by decide +kernel) ⟨by decide, by decide⟩ dX2_lineAndCircle_205, ?_⟩
  refine List.forall_mem_cons.mpr ⟨zs_iadd dX2_lineAndCircle_208, ?_⟩
  refine List.forall_mem_cons.mpr ⟨zs_callV (ci := 3) (rm := zR_X3_rest) (n := 1) rfl zM_X3_rest gX2_lineAndCircle_X3_rest rfl (by decide +kernel) ⟨by decide, by decide⟩ dX2_lineAndCircle_209, ?_⟩
  refine List.forall_mem_cons.mpr ⟨zs_istore dX2_lineAndCircle_212, ?_⟩
  refine List.forall_mem_cons.mpr ⟨zs_iload dX2_lineAndCircle_214, ?_⟩
  refine List.forall_mem_cons.mpr ⟨zs_iload dX2_lineAndCircle_216, ?_⟩
  refine List.forall_mem_cons.mpr ⟨zs_iclt dX2_lineAndCircle_218 (by decide), ?_⟩
  refine List.forall_mem_cons.mpr ⟨zs_iload dX2_lineAndCircle_221, ?_⟩
  refine List.forall_mem_cons.mpr ⟨zs_iload dX2_lineAndCircle_223, ?_⟩
  refine List.forall_mem_cons.mpr ⟨zs_icne dX2_lineAndCircle_225 (by decide), ?_⟩
  refine List.forall_mem_cons.mpr ⟨zs_iload dX2_lineAndCircle_228, ?_⟩
  refine List.forall_mem_cons.mpr ⟨zs_iload dX2_lineAndCircle_230, ?_⟩
  refine List.forall_mem_cons.mpr ⟨zs_icgt dX2_lineAndCircle_232 (by decide), ?_⟩
  refine List.forall_mem_cons.mpr ⟨zs_iconst dX2_lineAndCircle_235 (by decide), ?_⟩
  refine List.forall_mem_cons.mpr ⟨zs_goto dX2_lineAndCircle_236 (by decide), ?_⟩
  refine List.forall_mem_cons.mpr ⟨zs_iconst dX2_lineAndCircle_239 (by decide), ?_⟩
  refine List.forall_mem_cons.mpr ⟨zs_istore dX2_lineAndCircle_240, ?_⟩
  refine List.forall_mem_cons.mpr ⟨zs_aload_n dX2_lineAndCircle_242 rfl, ?_⟩
  refine List.forall_mem_cons.mpr ⟨zs_get (ci := 4) (j := 1) (N := 13) (C := RX4) (T := TX4) (index := 27) rfl (by decide) hin4 (List.mem_of_getElem? (i := 5) rfl) dX2_lineAndCircle_243, ?_⟩
  refine List.forall_mem_cons.mpr ⟨zs_iconst dX2_lineAndCircle_246 (by decide), ?_⟩
  refine List.forall_mem_cons.mpr ⟨zs_iceq dX2_lineAndCircle_247 (by decide), ?_⟩
  refine List.forall_mem_cons.mpr ⟨zs_aload_n dX2_lineAndCircle_250 rfl, ?_⟩
  refine List.forall_mem_cons.mpr ⟨zs_get (ci := 4) (j := 1) (N := 13) (C := RX4) (T := TX4) (index := 27) rfl (by decide) hin4 (List.mem_of_getElem? (i := 5) rfl) dX2_lineAndCircle_251, ?_⟩
  refine List.forall_mem_cons.mpr ⟨zs_iconst dX2_lineAndCircle_254 (by decide), ?_⟩
  refine List.forall_mem_cons.mpr ⟨zs_icne dX2_lineAndCircle_255 (by decide), ?_⟩
  refine List.forall_mem_cons.mpr ⟨zs_iconst dX2_lineAndCircle_258 (by decide), ?_⟩
  refine List.forall_mem_cons.mpr ⟨zs_goto dX2_lineAndCircle_259 (by decide), ?_⟩
  refine List.forall_mem_cons.mpr ⟨zs_iconst dX2_lineAndCircle_262 (by decide), ?_⟩
  refine List.forall_mem_cons.mpr ⟨zs_istore dX2_lineAndCircle_263, ?_⟩
  refine List.forall_mem_cons.mpr ⟨zs_iload dX2_lineAndCircle_265, ?_⟩
  refine List.forall_mem_cons.mpr ⟨zs_iload dX2_lineAndCircle_267, ?_⟩
  refine List.forall_mem_cons.mpr ⟨zs_icne dX2_lineAndCircle_269 (by decide), ?_⟩
  refine List.forall_mem_cons.mpr ⟨zs_aload_n dX2_lineAndCircle_272 rfl, ?_⟩
  refine List.forall_mem_cons.mpr ⟨zs_aload_n dX2_lineAndCircle_273 rfl, ?_⟩
  refine List.forall_mem_cons.mpr ⟨zs_iload dX2_lineAndCircle_274, ?_⟩
  refine List.forall_mem_cons.mpr ⟨zs_iload dX2_lineAndCircle_276, ?_⟩
  refine List.forall_mem_cons.mpr ⟨zs_callV (ci := 2) (rm := zR_X2_putPoint) (n := 3) rfl zM_X2_putPoint gX2_lineAndCircle_X2_putPoint rfl (by decide +kernel) ⟨by decide, by decide⟩ dX2_lineAndCircle_278, ?_⟩
  refine List.forall_mem_cons.mpr ⟨zs_goto dX2_lineAndCircle_281 (by decide), ?_⟩
  refine List.forall_mem_cons.mpr ⟨zs_aload_n dX2_lineAndCircle_284 rfl, ?_⟩
  refine List.forall_mem_cons.mpr ⟨zs_aload_n dX2_lineAndCircle_285 rfl, ?_⟩
  refine List.forall_mem_cons.mpr ⟨zs_iload dX2_lineAndCircle_286, ?_⟩
  refine List.forall_mem_cons.mpr ⟨zs_iload dX2_lineAndCircle_288, ?_⟩
  refine List.forall_mem_cons.mpr ⟨zs_callV (ci := 2) (rm := zR_X2_putPoint) (n := 3) rfl zM_X2_putPoint gX2_lineAndCircle_X2_putPoint rfl (by decide +kernel) ⟨by decide, by decide⟩ dX2_lineAndCircle_290, ?_⟩
  refine List.forall_mem_cons.mpr ⟨zs_reti (ty := .boolean) rfl (fun x h => (znz x h).1) dX2_lineAndCircle_293, ?_⟩
  exact fun _ h => absurd h List.not_mem_nil
theorem zM_X2_lineAndCircle : zMeets zEC yX2_lineAndCircle wsX2_lineAndCircle zR_X2_lineAndCircle m_X2_lineAndCircle := zmeth_M zECok (zlook_all (zcs_X2_lineAndCircle rfl)) (by decide +kernel) rfl
set_option maxRecDepth 8000 in
theorem zr_X2_lineAndCircle_0 (a0 a1 a3 a4 a5 a6 a7 a8 a9 a10 a11 a12 a13 a14 : Option zAV) (st : List zAV) (s : zAS) (k : Nat × Nat) (o : Nat × Nat) : zev zk_X2_lineAndCircle (0, [a0, a1, some (Sum.inr o), a3, a4, a5, a6, a7, a8, a9, a10, a11, a12, a13, a14], st, s, k) = zev zk_X2_lineAndCircle (1, [a0, a1, some (Sum.inr o), a3, a4, a5, a6, a7, a8, a9, a10, a11, a12, a13, a14], Sum.inr o :: st, s, k) := zev_go rfl rfl
set_option maxRecDepth 8000 in
theorem zr_X2_lineAndCircle_1 (ls : zLs) (st : List zAV) (s : zAS) (k : Nat × Nat) (o i : Nat) : zev zk_X2_lineAndCircle (1, ls, Sum.inr (o, i) :: st, s, k) = zpush zk_X2_lineAndCircle 4 ls st s k (zgv zEC 4 8 o i s.1) := zf_get rfl
set_option maxRecDepth 8000 in
theorem zr_X2_lineAndCircle_4 (a0 a1 a2 a3 a4 a5 a6 a7 a8 a9 a10 a11 a12 a13 a14 : Option zAV) (st : List zAV) (s : zAS) (k : Nat × Nat) (x : Int32) : zev zk_X2_lineAndCircle (4, [a0, a1, a2, a3, a4, a5, a6, a7, a8, a9, a10, a11, a12, a13, a14], Sum.inl (Value.int x) :: st, s, k) = zev zk_X2_lineAndCircle (6, [a0, a1, a2, zk1 a3, some (Sum.inl (Value.int x)), a5, a6, a7, a8, a9, a10, a11, a12, a13, a14], st, s, k) := zev_go rfl rfl
set_option maxRecDepth 8000 in
theorem zr_X2_lineAndCircle_6 (a0 a1 a3 a4 a5 a6 a7 a8 a9 a10 a11 a12 a13 a14 : Option zAV) (st : List zAV) (s : zAS) (k : Nat × Nat) (o : Nat × Nat) : zev zk_X2_lineAndCircle (6, [a0, a1, some (Sum.inr o), a3, a4, a5, a6, a7, a8, a9, a10, a11, a12, a13, a14], st, s, k) = zev zk_X2_lineAndCircle (7, [a0, a1, some (Sum.inr o), a3, a4, a5, a6, a7, a8, a9, a10, a11, a12, a13, a14], Sum.inr o :: st, s, k) := zev_go rfl rfl
set_option maxRecDepth 8000 in
theorem zr_X2_lineAndCircle_7 (ls : zLs) (st : List zAV) (s : zAS) (k : Nat × Nat) (o i : Nat) : zev zk_X2_lineAndCircle (7, ls, Sum.inr (o, i) :: st, s, k) = zpush zk_X2_lineAndCircle 10 ls st s k (zgv zEC 4 9 o i s.1) := zf_get rfl
set_option maxRecDepth 8000 in
theorem zr_X2_lineAndCircle_10 (a0 a1 a2 a3 a4 a5 a6 a7 a8 a9 a10 a11 a12 a13 a14 : Option zAV) (st : List zAV) (s : zAS) (k : Nat × Nat) (x : Int32) : zev zk_X2_lineAndCircle (10, [a0, a1, a2, a3, a4, a5, a6, a7, a8, a9, a10, a11, a12, a13, a14], Sum.inl (Value.int x) :: st, s, k) = zev zk_X2_lineAndCircle (12, [a0, a1, a2, a3, zk1 a4, some (Sum.inl (Value.int x)), a6, a7, a8, a9, a10, a11, a12, a13, a14], st, s, k) := zev_go rfl rfl
set_option maxRecDepth 8000 in
theorem zr_X2_lineAndCircle_12 (a1 a2 a3 a4 a5 a6 a7 a8 a9 a10 a11 a12 a13 a14 : Option zAV) (st : List zAV) (s : zAS) (k : Nat × Nat) (o : Nat × Nat) : zev zk_X2_lineAndCircle (12, [some (Sum.inr o), a1, a2, a3, a4, a5, a6, a7, a8, a9, a10, a11, a12, a13, a14], st, s, k) = zev zk_X2_lineAndCircle (13, [some (Sum.inr o), a1, a2, a3, a4, a5, a6, a7, a8, a9, a10, a11, a12, a13, a14], Sum.inr o :: st, s, k) := zev_go rfl rfl
set_option maxRecDepth 8000 in
theorem zr_X2_lineAndCircle_13 (ls : zLs) (st : List zAV) (s : zAS) (k : Nat × Nat) (o i : Nat) : zev zk_X2_lineAndCircle (13, ls, Sum.inr (o, i) :: st, s, k) = zpush zk_X2_lineAndCircle 16 ls st s k (zgv zEC 2 0 o i s.1) := zf_get rfl
set_option maxRecDepth 8000 in
theorem zr_X2_lineAndCircle_16 (a0 a1 a2 a3 a5 a6 a7 a8 a9 a10 a11 a12 a13 a14 : Option zAV) (st : List zAV) (s : zAS) (k : Nat × Nat) (x : Int32) : zev zk_X2_lineAndCircle (16, [a0, a1, a2, a3, some (Sum.inl (Value.int x)), a5, a6, a7, a8, a9, a10, a11, a12, a13, a14], st, s, k) = zev zk_X2_lineAndCircle (18, [a0, a1, a2, a3, some (Sum.inl (Value.int x)), a5, a6, a7, a8, a9, a10, a11, a12, a13, a14], Sum.inl (Value.int x) :: st, s, k) := zev_go rfl rfl
set_option maxRecDepth 8000 in
theorem zr_X2_lineAndCircle_18 (a0 a1 a2 a3 a5 a6 a7 a8 a9 a10 a11 a12 a13 a14 : Option zAV) (st : List zAV) (s : zAS) (k : Nat × Nat) (x : Int32) : zev zk_X2_lineAndCircle (18, [a0, a1, a2, a3, some (Sum.inl (Value.int x)), a5, a6, a7, a8, a9, a10, a11, a12, a13, a14], st, s, k) = zev zk_X2_lineAndCircle (20, [a0, a1, a2, a3, some (Sum.inl (Value.int x)), a5, a6, a7, a8, a9, a10, a11, a12, a13, a14], Sum.inl (Value.int x) :: st, s, k) := zev_go rfl rfl
set_option maxRecDepth 8000 in
theorem zr_X2_lineAndCircle_20 (ls : zLs) (st : List zAV) (s : zAS) (k : Nat × Nat) (x y : Int32) : zev zk_X2_lineAndCircle (20, ls, Sum.inl (Value.int y) :: Sum.inl (Value.int x) :: st, s, k) = zev zk_X2_lineAndCircle (21, ls, Sum.inl (Value.int (x * y)) :: st, s, k) := zev_go rfl rfl
set_option maxRecDepth 8000 in
theorem zr_X2_lineAndCircle_21 (a0 a1 a2 a3 a4 a6 a7 a8 a9 a10 a11 a12 a13 a14 : Option zAV) (st : List zAV) (s : zAS) (k : Nat × Nat) (x : Int32) : zev zk_X2_lineAndCircle (21, [a0, a1, a2, a3, a4, some (Sum.inl (Value.int x)), a6, a7, a8, a9, a10, a11, a12, a13, a14], st, s, k) = zev zk_X2_lineAndCircle (23, [a0, a1, a2, a3, a4, some (Sum.inl (Value.int x)), a6, a7, a8, a9, a10, a11, a12, a13, a14], Sum.inl (Value.int x) :: st, s, k) := zev_go rfl rfl
set_option maxRecDepth 8000 in
theorem zr_X2_lineAndCircle_23 (a0 a1 a2 a3 a4 a6 a7 a8 a9 a10 a11 a12 a13 a14 : Option zAV) (st : List zAV) (s : zAS) (k : Nat × Nat) (x : Int32) : zev zk_X2_lineAndCircle (23, [a0, a1, a2, a3, a4, some (Sum.inl (Value.int x)), a6, a7, a8, a9, a10, a11, a12, a13, a14], st, s, k) = zev zk_X2_lineAndCircle (25, [a0, a1, a2, a3, a4, some (Sum.inl (Value.int x)), a6, a7, a8, a9, a10, a11, a12, a13, a14], Sum.inl (Value.int x) :: st, s, k) := zev_go rfl rfl
set_option maxRecDepth 8000 in
theorem zr_X2_lineAndCircle_25 (ls : zLs) (st : List zAV) (s : zAS) (k : Nat × Nat) (x y : Int32) : zev zk_X2_lineAndCircle (25, ls, Sum.inl (Value.int y) :: Sum.inl (Value.int x) :: st, s, k) = zev zk_X2_lineAndCircle (26, ls, Sum.inl (Value.int (x * y)) :: st, s, k) := zev_go rfl rfl
set_option maxRecDepth 8000 in
theorem zr_X2_lineAndCircle_26 (ls : zLs) (st : List zAV) (s : zAS) (k : Nat × Nat) (x y : Int32) : zev zk_X2_lineAndCircle (26, ls, Sum.inl (Value.int y) :: Sum.inl (Value.int x) :: st, s, k) = zev zk_X2_lineAndCircle (27, ls, Sum.inl (Value.int (x + y)) :: st, s, k) := zev_go rfl rfl
set_option maxRecDepth 8000 in
theorem zr_X2_lineAndCircle_27 (ls : zLs) (st : List zAV) (s : zAS) (k : Nat × Nat) (r v0 : zAV) (h : zcok zEC 3 0 0 (zR_X2_lineAndCircle).cells (zR_X2_lineAndCircle).slots r st k) : zev zk_X2_lineAndCircle (27, ls, v0 :: r :: st, s, k) = zret zk_X2_lineAndCircle 30 ls st (k.1 + 0, k.2 + 0) (m_X3_rest [r, v0] s) := zf_callV (as := [v0]) 1 rfl rfl h
set_option maxRecDepth 8000 in
theorem zr_X2_lineAndCircle_30 (a0 a1 a2 a3 a4 a5 a6 a7 a8 a9 a10 a11 a12 a13 a14 : Option zAV) (st : List zAV) (s : zAS) (k : Nat × Nat) (x : Int32) : zev zk_X2_lineAndCircle (30, [a0, a1, a2, a3, a4, a5, a6, a7, a8, a9, a10, a11, a12, a13, a14], Sum.inl (Value.int x) :: st, s, k) = zev zk_X2_lineAndCircle (32, [a0, a1, a2, a3, a4, zk1 a5, some (Sum.inl (Value.int x)), a7, a8, a9, a10, a11, a12, a13, a14], st, s, k) := zev_go rfl rfl
set_option maxRecDepth 8000 in
theorem zr_X2_lineAndCircle_32 (a1 a2 a3 a4 a5 a6 a7 a8 a9 a10 a11 a12 a13 a14 : Option zAV) (st : List zAV) (s : zAS) (k : Nat × Nat) (o : Nat × Nat) : zev zk_X2_lineAndCircle (32, [some (Sum.inr o), a1, a2, a3, a4, a5, a6, a7, a8, a9, a10, a11, a12, a13, a14], st, s, k) = zev zk_X2_lineAndCircle (33, [some (Sum.inr o), a1, a2, a3, a4, a5, a6, a7, a8, a9, a10, a11, a12, a13, a14], Sum.inr o :: st, s, k) := zev_go rfl rfl
set_option maxRecDepth 8000 in
theorem zr_X2_lineAndCircle_33 (a0 a1 a2 a4 a5 a6 a7 a8 a9 a10 a11 a12 a13 a14 : Option zAV) (st : List zAV) (s : zAS) (k : Nat × Nat) (o : Nat × Nat) : zev zk_X2_lineAndCircle (33, [a0, a1, a2, some (Sum.inr o), a4, a5, a6, a7, a8, a9, a10, a11, a12, a13, a14], st, s, k) = zev zk_X2_lineAndCircle (34, [a0, a1, a2, some (Sum.inr o), a4, a5, a6, a7, a8, a9, a10, a11, a12, a13, a14], Sum.inr o :: st, s, k) := zev_go rfl rfl
set_option maxRecDepth 8000 in
theorem zr_X2_lineAndCircle_34 (a0 a1 a3 a4 a5 a6 a7 a8 a9 a10 a11 a12 a13 a14 : Option zAV) (st : List zAV) (s : zAS) (k : Nat × Nat) (o : Nat × Nat) : zev zk_X2_lineAndCircle (34, [a0, a1, some (Sum.inr o), a3, a4, a5, a6, a7, a8, a9, a10, a11, a12, a13, a14], st, s, k) = zev zk_X2_lineAndCircle (35, [a0, a1, some (Sum.inr o), a3, a4, a5, a6, a7, a8, a9, a10, a11, a12, a13, a14], Sum.inr o :: st, s, k) := zev_go rfl rfl
set_option maxRecDepth 8000 in
theorem zr_X2_lineAndCircle_35 (ls : zLs) (st : List zAV) (s : zAS) (k : Nat × Nat) (r v0 v1 : zAV) (h : zcok zEC 2 0 0 (zR_X2_lineAndCircle).cells (zR_X2_lineAndCircle).slots r st k) : zev zk_X2_lineAndCircle (35, ls, v1 :: v0 :: r :: st, s, k) = zret zk_X2_lineAndCircle 38 ls st (k.1 + 0, k.2 + 0) (m_X2_power [r, v0, v1] s) := zf_callV (as := [v1, v0]) 2 rfl rfl h
set_option maxRecDepth 8000 in
theorem zr_X2_lineAndCircle_38 (a0 a1 a2 a3 a4 a5 a6 a7 a8 a9 a10 a11 a12 a13 a14 : Option zAV) (st : List zAV) (s : zAS) (k : Nat × Nat) (x : Int32) : zev zk_X2_lineAndCircle (38, [a0, a1, a2, a3, a4, a5, a6, a7, a8, a9, a10, a11, a12, a13, a14], Sum.inl (Value.int x) :: st, s, k) = zev zk_X2_lineAndCircle (40, [a0, a1, a2, a3, a4, a5, zk1 a6, some (Sum.inl (Value.int x)), a8, a9, a10, a11, a12, a13, a14], st, s, k) := zev_go rfl rfl
set_option maxRecDepth 8000 in
theorem zr_X2_lineAndCircle_40 (a1 a2 a3 a4 a5 a6 a7 a8 a9 a10 a11 a12 a13 a14 : Option zAV) (st : List zAV) (s : zAS) (k : Nat × Nat) (o : Nat × Nat) : zev zk_X2_lineAndCircle (40, [some (Sum.inr o), a1, a2, a3, a4, a5, a6, a7, a8, a9, a10, a11, a12, a13, a14], st, s, k) = zev zk_X2_lineAndCircle (41, [some (Sum.inr o), a1, a2, a3, a4, a5, a6, a7, a8, a9, a10, a11, a12, a13, a14], Sum.inr o :: st, s, k) := zev_go rfl rfl
set_option maxRecDepth 8000 in
theorem zr_X2_lineAndCircle_41 (ls : zLs) (st : List zAV) (s : zAS) (k : Nat × Nat) (o i : Nat) : zev zk_X2_lineAndCircle (41, ls, Sum.inr (o, i) :: st, s, k) = zpush zk_X2_lineAndCircle 44 ls st s k (zgv zEC 2 0 o i s.1) := zf_get rfl
set_option maxRecDepth 8000 in
theorem zr_X2_lineAndCircle_44 (a0 a1 a2 a4 a5 a6 a7 a8 a9 a10 a11 a12 a13 a14 : Option zAV) (st : List zAV) (s : zAS) (k : Nat × Nat) (o : Nat × Nat) : zev zk_X2_lineAndCircle (44, [a0, a1, a2, some (Sum.inr o), a4, a5, a6, a7, a8, a9, a10, a11, a12, a13, a14], st, s, k) = zev zk_X2_lineAndCircle (45, [a0, a1, a2, some (Sum.inr o), a4, a5, a6, a7, a8, a9, a10, a11, a12, a13, a14], Sum.inr o :: st, s, k) := zev_go rfl rfl
set_option maxRecDepth 8000 in
theorem zr_X2_lineAndCircle_45 (ls : zLs) (st : List zAV) (s : zAS) (k : Nat × Nat) (o i : Nat) : zev zk_X2_lineAndCircle (45, ls, Sum.inr (o, i) :: st, s, k) = zpush zk_X2_lineAndCircle 48 ls st s k (zgv zEC 4 10 o i s.1) := zf_get rfl
set_option maxRecDepth 8000 in
theorem zr_X2_lineAndCircle_48 (a0 a1 a2 a3 a4 a5 a7 a8 a9 a10 a11 a12 a13 a14 : Option zAV) (st : List zAV) (s : zAS) (k : Nat × Nat) (x : Int32) : zev zk_X2_lineAndCircle (48, [a0, a1, a2, a3, a4, a5, some (Sum.inl (Value.int x)), a7, a8, a9, a10, a11, a12, a13, a14], st, s, k) = zev zk_X2_lineAndCircle (50, [a0, a1, a2, a3, a4, a5, some (Sum.inl (Value.int x)), a7, a8, a9, a10, a11, a12, a13, a14], Sum.inl (Value.int x) :: st, s, k) := zev_go rfl rfl
set_option maxRecDepth 8000 in
theorem zr_X2_lineAndCircle_50 (ls : zLs) (st : List zAV) (s : zAS) (k : Nat × Nat) (x y : Int32) : zev zk_X2_lineAndCircle (50, ls, Sum.inl (Value.int y) :: Sum.inl (Value.int x) :: st, s, k) = zev zk_X2_lineAndCircle (51, ls, Sum.inl (Value.int (x * y)) :: st, s, k) := zev_go rfl rfl
set_option maxRecDepth 8000 in
theorem zr_X2_lineAndCircle_51 (a0 a1 a2 a3 a4 a5 a6 a8 a9 a10 a11 a12 a13 a14 : Option zAV) (st : List zAV) (s : zAS) (k : Nat × Nat) (x : Int32) : zev zk_X2_lineAndCircle (51, [a0, a1, a2, a3, a4, a5, a6, some (Sum.inl (Value.int x)), a8, a9, a10, a11, a12, a13, a14], st, s, k) = zev zk_X2_lineAndCircle (53, [a0, a1, a2, a3, a4, a5, a6, some (Sum.inl (Value.int x)), a8, a9, a10, a11, a12, a13, a14], Sum.inl (Value.int x) :: st, s, k) := zev_go rfl rfl
set_option maxRecDepth 8000 in
theorem zr_X2_lineAndCircle_53 (a0 a1 a2 a3 a4 a5 a6 a8 a9 a10 a11 a12 a13 a14 : Option zAV) (st : List zAV) (s : zAS) (k : Nat × Nat) (x : Int32) : zev zk_X2_lineAndCircle (53, [a0, a1, a2, a3, a4, a5, a6, some (Sum.inl (Value.int x)), a8, a9, a10, a11, a12, a13, a14], st, s, k) = zev zk_X2_lineAndCircle (55, [a0, a1, a2, a3, a4, a5, a6, some (Sum.inl (Value.int x)), a8, a9, a10, a11, a12, a13, a14], Sum.inl (Value.int x) :: st, s, k) := zev_go rfl rfl
set_option maxRecDepth 8000 in
theorem zr_X2_lineAndCircle_55 (ls : zLs) (st : List zAV) (s : zAS) (k : Nat × Nat) (x y : Int32) : zev zk_X2_lineAndCircle (55, ls, Sum.inl (Value.int y) :: Sum.inl (Value.int x) :: st, s, k) = zev zk_X2_lineAndCircle (56, ls, Sum.inl (Value.int (x * y)) :: st, s, k) := zev_go rfl rfl
set_option maxRecDepth 8000 in
theorem zr_X2_lineAndCircle_56 (ls : zLs) (st : List zAV) (s : zAS) (k : Nat × Nat) (x y : Int32) : zev zk_X2_lineAndCircle (56, ls, Sum.inl (Value.int y) :: Sum.inl (Value.int x) :: st, s, k) = zev zk_X2_lineAndCircle (57, ls, Sum.inl (Value.int (x - y)) :: st, s, k) := zev_go rfl rfl
set_option maxRecDepth 8000 in
theorem zr_X2_lineAndCircle_57 (ls : zLs) (st : List zAV) (s : zAS) (k : Nat × Nat) (r v0 : zAV) (h : zcok zEC 3 0 0 (zR_X2_lineAndCircle).cells (zR_X2_lineAndCircle).slots r st k) : zev zk_X2_lineAndCircle (57, ls, v0 :: r :: st, s, k) = zret zk_X2_lineAndCircle 60 ls st (k.1 + 0, k.2 + 0) (m_X3_rootOf [r, v0] s) := zf_callV (as := [v0]) 1 rfl rfl h
set_option maxRecDepth 8000 in
theorem zr_X2_lineAndCircle_60 (a0 a1 a2 a3 a4 a5 a6 a7 a8 a9 a10 a11 a12 a13 a14 : Option zAV) (st : List zAV) (s : zAS) (k : Nat × Nat) (x : Int32) : zev zk_X2_lineAndCircle (60, [a0, a1, a2, a3, a4, a5, a6, a7, a8, a9, a10, a11, a12, a13, a14], Sum.inl (Value.int x) :: st, s, k) = zev zk_X2_lineAndCircle (62, [a0, a1, a2, a3, a4, a5, a6, zk1 a7, some (Sum.inl (Value.int x)), a9, a10, a11, a12, a13, a14], st, s, k) := zev_go rfl rfl
set_option maxRecDepth 8000 in
theorem zr_X2_lineAndCircle_62 (a0 a1 a2 a3 a4 a5 a7 a8 a9 a10 a11 a12 a13 a14 : Option zAV) (st : List zAV) (s : zAS) (k : Nat × Nat) (x : Int32) : zev zk_X2_lineAndCircle (62, [a0, a1, a2, a3, a4, a5, some (Sum.inl (Value.int x)), a7, a8, a9, a10, a11, a12, a13, a14], st, s, k) = zev zk_X2_lineAndCircle (64, [a0, a1, a2, a3, a4, a5, some (Sum.inl (Value.int x)), a7, a8, a9, a10, a11, a12, a13, a14], Sum.inl (Value.int x) :: st, s, k) := zev_go rfl rfl
set_option maxRecDepth 8000 in
theorem zr_X2_lineAndCircle_64 (ls : zLs) (st : List zAV) (s : zAS) (k : Nat × Nat) (x : Int32) : zev zk_X2_lineAndCircle (64, ls, Sum.inl (Value.int x) :: st, s, k) = if decide (x = 0) = true then zev zk_X2_lineAndCircle (72, ls, st, s, k) else zev zk_X2_lineAndCircle (67, ls, st, s, k) := zf_if (f := fun x => decide (x = 0)) rfl
set_option maxRecDepth 8000 in
theorem zr_X2_lineAndCircle_67 (a0 a1 a2 a3 a4 a5 a6 a7 a9 a10 a11 a12 a13 a14 : Option zAV) (st : List zAV) (s : zAS) (k : Nat × Nat) (x : Int32) : zev zk_X2_lineAndCircle (67, [a0, a1, a2, a3, a4, a5, a6, a7, some (Sum.inl (Value.int x)), a9, a10, a11, a12, a13, a14], st, s, k) = zev zk_X2_lineAndCircle (69, [a0, a1, a2, a3, a4, a5, a6, a7, some (Sum.inl (Value.int x)), a9, a10, a11, a12, a13, a14], Sum.inl (Value.int x) :: st, s, k) := zev_go rfl rfl
set_option maxRecDepth 8000 in
theorem zr_X2_lineAndCircle_69 (ls : zLs) (st : List zAV) (s : zAS) (k : Nat × Nat) (x : Int32) : zev zk_X2_lineAndCircle (69, ls, Sum.inl (Value.int x) :: st, s, k) = if decide (0 ≤ x) = true then zev zk_X2_lineAndCircle (74, ls, st, s, k) else zev zk_X2_lineAndCircle (72, ls, st, s, k) := zf_if (f := fun x => decide (0 ≤ x)) rfl
set_option maxRecDepth 8000 in
theorem zr_X2_lineAndCircle_72 (ls : zLs) (st : List zAV) (s : zAS) (k : Nat × Nat) : zev zk_X2_lineAndCircle (72, ls, st, s, k) = zev zk_X2_lineAndCircle (73, ls, Sum.inl (Value.int (0)) :: st, s, k) := zev_go rfl rfl
set_option maxRecDepth 8000 in
theorem zr_X2_lineAndCircle_73 (ls : zLs) (s : zAS) (k : Nat × Nat) (x : Int32) (hx : x = 0 ∨ x = 1) : zev zk_X2_lineAndCircle (73, ls, [Sum.inl (Value.int x)], s, k) = some (.inl (some (Sum.inl (Value.int x))), s) := zf_retz rfl hx
set_option maxRecDepth 8000 in
theorem zr_X2_lineAndCircle_74 (a1 a2 a3 a4 a5 a6 a7 a8 a9 a10 a11 a12 a13 a14 : Option zAV) (st : List zAV) (s : zAS) (k : Nat × Nat) (o : Nat × Nat) : zev zk_X2_lineAndCircle (74, [some (Sum.inr o), a1, a2, a3, a4, a5, a6, a7, a8, a9, a10, a11, a12, a13, a14], st, s, k) = zev zk_X2_lineAndCircle (75, [some (Sum.inr o), a1, a2, a3, a4, a5, a6, a7, a8, a9, a10, a11, a12, a13, a14], Sum.inr o :: st, s, k) := zev_go rfl rfl
set_option maxRecDepth 8000 in
theorem zr_X2_lineAndCircle_75 (ls : zLs) (st : List zAV) (s : zAS) (k : Nat × Nat) (o i : Nat) : zev zk_X2_lineAndCircle (75, ls, Sum.inr (o, i) :: st, s, k) = zpush zk_X2_lineAndCircle 78 ls st s k (zgv zEC 2 0 o i s.1) := zf_get rfl
set_option maxRecDepth 8000 in
theorem zr_X2_lineAndCircle_78 (a0 a1 a2 a4 a5 a6 a7 a8 a9 a10 a11 a12 a13 a14 : Option zAV) (st : List zAV) (s : zAS) (k : Nat × Nat) (o : Nat × Nat) : zev zk_X2_lineAndCircle (78, [a0, a1, a2, some (Sum.inr o), a4, a5, a6, a7, a8, a9, a10, a11, a12, a13, a14], st, s, k) = zev zk_X2_lineAndCircle (79, [a0, a1, a2, some (Sum.inr o), a4, a5, a6, a7, a8, a9, a10, a11, a12, a13, a14], Sum.inr o :: st, s, k) := zev_go rfl rfl
set_option maxRecDepth 8000 in
theorem zr_X2_lineAndCircle_79 (ls : zLs) (st : List zAV) (s : zAS) (k : Nat × Nat) (o i : Nat) : zev zk_X2_lineAndCircle (79, ls, Sum.inr (o, i) :: st, s, k) = zpush zk_X2_lineAndCircle 82 ls st s k (zgv zEC 4 8 o i s.1) := zf_get rfl
set_option maxRecDepth 8000 in
theorem zr_X2_lineAndCircle_82 (a1 a2 a3 a4 a5 a6 a7 a8 a9 a10 a11 a12 a13 a14 : Option zAV) (st : List zAV) (s : zAS) (k : Nat × Nat) (o : Nat × Nat) : zev zk_X2_lineAndCircle (82, [some (Sum.inr o), a1, a2, a3, a4, a5, a6, a7, a8, a9, a10, a11, a12, a13, a14], st, s, k) = zev zk_X2_lineAndCircle (83, [some (Sum.inr o), a1, a2, a3, a4, a5, a6, a7, a8, a9, a10, a11, a12, a13, a14], Sum.inr o :: st, s, k) := zev_go rfl rfl
set_option maxRecDepth 8000 in
theorem zr_X2_lineAndCircle_83 (ls : zLs) (st : List zAV) (s : zAS) (k : Nat × Nat) (o i : Nat) : zev zk_X2_lineAndCircle (83, ls, Sum.inr (o, i) :: st, s, k) = zpush zk_X2_lineAndCircle 86 ls st s k (zgv zEC 2 0 o i s.1) := zf_get rfl
set_option maxRecDepth 8000 in
theorem zr_X2_lineAndCircle_86 (a0 a1 a2 a3 a5 a6 a7 a8 a9 a10 a11 a12 a13 a14 : Option zAV) (st : List zAV) (s : zAS) (k : Nat × Nat) (x : Int32) : zev zk_X2_lineAndCircle (86, [a0, a1, a2, a3, some (Sum.inl (Value.int x)), a5, a6, a7, a8, a9, a10, a11, a12, a13, a14], st, s, k) = zev zk_X2_lineAndCircle (88, [a0, a1, a2, a3, some (Sum.inl (Value.int x)), a5, a6, a7, a8, a9, a10, a11, a12, a13, a14], Sum.inl (Value.int x) :: st, s, k) := zev_go rfl rfl
set_option maxRecDepth 8000 in
theorem zr_X2_lineAndCircle_88 (ls : zLs) (st : List zAV) (s : zAS) (k : Nat × Nat) (x : Int32) : zev zk_X2_lineAndCircle (88, ls, Sum.inl (Value.int x) :: st, s, k) = zev zk_X2_lineAndCircle (89, ls, Sum.inl (Value.int (-x)) :: st, s, k) := zev_go rfl rfl
set_option maxRecDepth 8000 in
theorem zr_X2_lineAndCircle_89 (a0 a1 a2 a3 a4 a5 a6 a8 a9 a10 a11 a12 a13 a14 : Option zAV) (st : List zAV) (s : zAS) (k : Nat × Nat) (x : Int32) : zev zk_X2_lineAndCircle (89, [a0, a1, a2, a3, a4, a5, a6, some (Sum.inl (Value.int x)), a8, a9, a10, a11, a12, a13, a14], st, s, k) = zev zk_X2_lineAndCircle (91, [a0, a1, a2, a3, a4, a5, a6, some (Sum.inl (Value.int x)), a8, a9, a10, a11, a12, a13, a14], Sum.inl (Value.int x) :: st, s, k) := zev_go rfl rfl
set_option maxRecDepth 8000 in
theorem zr_X2_lineAndCircle_91 (ls : zLs) (st : List zAV) (s : zAS) (k : Nat × Nat) (x y : Int32) : zev zk_X2_lineAndCircle (91, ls, Sum.inl (Value.int y) :: Sum.inl (Value.int x) :: st, s, k) = zev zk_X2_lineAndCircle (92, ls, Sum.inl (Value.int (x * y)) :: st, s, k) := zev_go rfl rfl
set_option maxRecDepth 8000 in
theorem zr_X2_lineAndCircle_92 (a0 a1 a2 a3 a4 a6 a7 a8 a9 a10 a11 a12 a13 a14 : Option zAV) (st : List zAV) (s : zAS) (k : Nat × Nat) (x : Int32) : zev zk_X2_lineAndCircle (92, [a0, a1, a2, a3, a4, some (Sum.inl (Value.int x)), a6, a7, a8, a9, a10, a11, a12, a13, a14], st, s, k) = zev zk_X2_lineAndCircle (94, [a0, a1, a2, a3, a4, some (Sum.inl (Value.int x)), a6, a7, a8, a9, a10, a11, a12, a13, a14], Sum.inl (Value.int x) :: st, s, k) := zev_go rfl rfl
set_option maxRecDepth 8000 in
theorem zr_X2_lineAndCircle_94 (a0 a1 a2 a3 a4 a5 a6 a7 a9 a10 a11 a12 a13 a14 : Option zAV) (st : List zAV) (s : zAS) (k : Nat × Nat) (x : Int32) : zev zk_X2_lineAndCircle (94, [a0, a1, a2, a3, a4, a5, a6, a7, some (Sum.inl (Value.int x)), a9, a10, a11, a12, a13, a14], st, s, k) = zev zk_X2_lineAndCircle (96, [a0, a1, a2, a3, a4, a5, a6, a7, some (Sum.inl (Value.int x)), a9, a10, a11, a12, a13, a14], Sum.inl (Value.int x) :: st, s, k) := zev_go rfl rfl
set_option maxRecDepth 8000 in
theorem zr_X2_lineAndCircle_96 (ls : zLs) (st : List zAV) (s : zAS) (k : Nat × Nat) (x y : Int32) : zev zk_X2_lineAndCircle (96, ls, Sum.inl (Value.int y) :: Sum.inl (Value.int x) :: st, s, k) = zev zk_X2_lineAndCircle (97, ls, Sum.inl (Value.int (x * y)) :: st, s, k) := zev_go rfl rfl
set_option maxRecDepth 8000 in
theorem zr_X2_lineAndCircle_97 (ls : zLs) (st : List zAV) (s : zAS) (k : Nat × Nat) (x y : Int32) : zev zk_X2_lineAndCircle (97, ls, Sum.inl (Value.int y) :: Sum.inl (Value.int x) :: st, s, k) = zev zk_X2_lineAndCircle (98, ls, Sum.inl (Value.int (x - y)) :: st, s, k) := zev_go rfl rfl
set_option maxRecDepth 8000 in
theorem zr_X2_lineAndCircle_98 (a0 a1 a2 a3 a4 a5 a7 a8 a9 a10 a11 a12 a13 a14 : Option zAV) (st : List zAV) (s : zAS) (k : Nat × Nat) (x : Int32) : zev zk_X2_lineAndCircle (98, [a0, a1, a2, a3, a4, a5, some (Sum.inl (Value.int x)), a7, a8, a9, a10, a11, a12, a13, a14], st, s, k) = zev zk_X2_lineAndCircle (100, [a0, a1, a2, a3, a4, a5, some (Sum.inl (Value.int x)), a7, a8, a9, a10, a11, a12, a13, a14], Sum.inl (Value.int x) :: st, s, k) := zev_go rfl rfl
set_option maxRecDepth 8000 in
theorem zr_X2_lineAndCircle_100 (ls : zLs) (st : List zAV) (s : zAS) (k : Nat × Nat) (r v0 v1 : zAV) (h : zcok zEC 3 0 0 (zR_X2_lineAndCircle).cells (zR_X2_lineAndCircle).slots r st k) : zev zk_X2_lineAndCircle (100, ls, v1 :: v0 :: r :: st, s, k) = zret zk_X2_lineAndCircle 103 ls st (k.1 + 0, k.2 + 0) (m_X3_ratio [r, v0, v1] s) := zf_callV (as := [v1, v0]) 2 rfl rfl h
set_option maxRecDepth 8000 in
theorem zr_X2_lineAndCircle_103 (ls : zLs) (st : List zAV) (s : zAS) (k : Nat × Nat) (x y : Int32) : zev zk_X2_lineAndCircle (103, ls, Sum.inl (Value.int y) :: Sum.inl (Value.int x) :: st, s, k) = zev zk_X2_lineAndCircle (104, ls, Sum.inl (Value.int (x + y)) :: st, s, k) := zev_go rfl rfl
set_option maxRecDepth 8000 in
theorem zr_X2_lineAndCircle_104 (ls : zLs) (st : List zAV) (s : zAS) (k : Nat × Nat) (r v0 : zAV) (h : zcok zEC 3 0 0 (zR_X2_lineAndCircle).cells (zR_X2_lineAndCircle).slots r st k) : zev zk_X2_lineAndCircle (104, ls, v0 :: r :: st, s, k) = zret zk_X2_lineAndCircle 107 ls st (k.1 + 0, k.2 + 0) (m_X3_rest [r, v0] s) := zf_callV (as := [v0]) 1 rfl rfl h
set_option maxRecDepth 8000 in
theorem zr_X2_lineAndCircle_107 (a0 a1 a2 a3 a4 a5 a6 a7 a8 a9 a10 a11 a12 a13 a14 : Option zAV) (st : List zAV) (s : zAS) (k : Nat × Nat) (x : Int32) : zev zk_X2_lineAndCircle (107, [a0, a1, a2, a3, a4, a5, a6, a7, a8, a9, a10, a11, a12, a13, a14], Sum.inl (Value.int x) :: st, s, k) = zev zk_X2_lineAndCircle (109, [a0, a1, a2, a3, a4, a5, a6, a7, zk1 a8, some (Sum.inl (Value.int x)), a10, a11, a12, a13, a14], st, s, k) := zev_go rfl rfl
set_option maxRecDepth 8000 in
theorem zr_X2_lineAndCircle_109 (a1 a2 a3 a4 a5 a6 a7 a8 a9 a10 a11 a12 a13 a14 : Option zAV) (st : List zAV) (s : zAS) (k : Nat × Nat) (o : Nat × Nat) : zev zk_X2_lineAndCircle (109, [some (Sum.inr o), a1, a2, a3, a4, a5, a6, a7, a8, a9, a10, a11, a12, a13, a14], st, s, k) = zev zk_X2_lineAndCircle (110, [some (Sum.inr o), a1, a2, a3, a4, a5, a6, a7, a8, a9, a10, a11, a12, a13, a14], Sum.inr o :: st, s, k) := zev_go rfl rfl
set_option maxRecDepth 8000 in
theorem zr_X2_lineAndCircle_110 (ls : zLs) (st : List zAV) (s : zAS) (k : Nat × Nat) (o i : Nat) : zev zk_X2_lineAndCircle (110, ls, Sum.inr (o, i) :: st, s, k) = zpush zk_X2_lineAndCircle 113 ls st s k (zgv zEC 2 0 o i s.1) := zf_get rfl
set_option maxRecDepth 8000 in
theorem zr_X2_lineAndCircle_113 (a0 a1 a2 a4 a5 a6 a7 a8 a9 a10 a11 a12 a13 a14 : Option zAV) (st : List zAV) (s : zAS) (k : Nat × Nat) (o : Nat × Nat) : zev zk_X2_lineAndCircle (113, [a0, a1, a2, some (Sum.inr o), a4, a5, a6, a7, a8, a9, a10, a11, a12, a13, a14], st, s, k) = zev zk_X2_lineAndCircle (114, [a0, a1, a2, some (Sum.inr o), a4, a5, a6, a7, a8, a9, a10, a11, a12, a13, a14], Sum.inr o :: st, s, k) := zev_go rfl rfl
set_option maxRecDepth 8000 in
theorem zr_X2_lineAndCircle_114 (ls : zLs) (st : List zAV) (s : zAS) (k : Nat × Nat) (o i : Nat) : zev zk_X2_lineAndCircle (114, ls, Sum.inr (o, i) :: st, s, k) = zpush zk_X2_lineAndCircle 117 ls st s k (zgv zEC 4 9 o i s.1) := zf_get rfl
set_option maxRecDepth 8000 in
theorem zr_X2_lineAndCircle_117 (a1 a2 a3 a4 a5 a6 a7 a8 a9 a10 a11 a12 a13 a14 : Option zAV) (st : List zAV) (s : zAS) (k : Nat × Nat) (o : Nat × Nat) : zev zk_X2_lineAndCircle (117, [some (Sum.inr o), a1, a2, a3, a4, a5, a6, a7, a8, a9, a10, a11, a12, a13, a14], st, s, k) = zev zk_X2_lineAndCircle (118, [some (Sum.inr o), a1, a2, a3, a4, a5, a6, a7, a8, a9, a10, a11, a12, a13, a14], Sum.inr o :: st, s, k) := zev_go rfl rfl
set_option maxRecDepth 8000 in
theorem zr_X2_lineAndCircle_118 (ls : zLs) (st : List zAV) (s : zAS) (k : Nat × Nat) (o i : Nat) : zev zk_X2_lineAndCircle (118, ls, Sum.inr (o, i) :: st, s, k) = zpush zk_X2_lineAndCircle 121 ls st s k (zgv zEC 2 0 o i s.1) := zf_get rfl
set_option maxRecDepth 8000 in
theorem zr_X2_lineAndCircle_121 (a0 a1 a2 a3 a4 a6 a7 a8 a9 a10 a11 a12 a13 a14 : Option zAV) (st : List zAV) (s : zAS) (k : Nat × Nat) (x : Int32) : zev zk_X2_lineAndCircle (121, [a0, a1, a2, a3, a4, some (Sum.inl (Value.int x)), a6, a7, a8, a9, a10, a11, a12, a13, a14], st, s, k) = zev zk_X2_lineAndCircle (123, [a0, a1, a2, a3, a4, some (Sum.inl (Value.int x)), a6, a7, a8, a9, a10, a11, a12, a13, a14], Sum.inl (Value.int x) :: st, s, k) := zev_go rfl rfl
set_option maxRecDepth 8000 in
theorem zr_X2_lineAndCircle_123 (ls : zLs) (st : List zAV) (s : zAS) (k : Nat × Nat) (x : Int32) : zev zk_X2_lineAndCircle (123, ls, Sum.inl (Value.int x) :: st, s, k) = zev zk_X2_lineAndCircle (124, ls, Sum.inl (Value.int (-x)) :: st, s, k) := zev_go rfl rfl
set_option maxRecDepth 8000 in
theorem zr_X2_lineAndCircle_124 (a0 a1 a2 a3 a4 a5 a6 a8 a9 a10 a11 a12 a13 a14 : Option zAV) (st : List zAV) (s : zAS) (k : Nat × Nat) (x : Int32) : zev zk_X2_lineAndCircle (124, [a0, a1, a2, a3, a4, a5, a6, some (Sum.inl (Value.int x)), a8, a9, a10, a11, a12, a13, a14], st, s, k) = zev zk_X2_lineAndCircle (126, [a0, a1, a2, a3, a4, a5, a6, some (Sum.inl (Value.int x)), a8, a9, a10, a11, a12, a13, a14], Sum.inl (Value.int x) :: st, s, k) := zev_go rfl rfl
set_option maxRecDepth 8000 in
theorem zr_X2_lineAndCircle_126 (ls : zLs) (st : List zAV) (s : zAS) (k : Nat × Nat) (x y : Int32) : zev zk_X2_lineAndCircle (126, ls, Sum.inl (Value.int y) :: Sum.inl (Value.int x) :: st, s, k) = zev zk_X2_lineAndCircle (127, ls, Sum.inl (Value.int (x * y)) :: st, s, k) := zev_go rfl rfl
set_option maxRecDepth 8000 in
theorem zr_X2_lineAndCircle_127 (a0 a1 a2 a3 a5 a6 a7 a8 a9 a10 a11 a12 a13 a14 : Option zAV) (st : List zAV) (s : zAS) (k : Nat × Nat) (x : Int32) : zev zk_X2_lineAndCircle (127, [a0, a1, a2, a3, some (Sum.inl (Value.int x)), a5, a6, a7, a8, a9, a10, a11, a12, a13, a14], st, s, k) = zev zk_X2_lineAndCircle (129, [a0, a1, a2, a3, some (Sum.inl (Value.int x)), a5, a6, a7, a8, a9, a10, a11, a12, a13, a14], Sum.inl (Value.int x) :: st, s, k) := zev_go rfl rfl
set_option maxRecDepth 8000 in
theorem zr_X2_lineAndCircle_129 (a0 a1 a2 a3 a4 a5 a6 a7 a9 a10 a11 a12 a13 a14 : Option zAV) (st : List zAV) (s : zAS) (k : Nat × Nat) (x : Int32) : zev zk_X2_lineAndCircle (129, [a0, a1, a2, a3, a4, a5, a6, a7, some (Sum.inl (Value.int x)), a9, a10, a11, a12, a13, a14], st, s, k) = zev zk_X2_lineAndCircle (131, [a0, a1, a2, a3, a4, a5, a6, a7, some (Sum.inl (Value.int x)), a9, a10, a11, a12, a13, a14], Sum.inl (Value.int x) :: st, s, k) := zev_go rfl rfl
set_option maxRecDepth 8000 in
theorem zr_X2_lineAndCircle_131 (ls : zLs) (st : List zAV) (s : zAS) (k : Nat × Nat) (x y : Int32) : zev zk_X2_lineAndCircle (131, ls, Sum.inl (Value.int y) :: Sum.inl (Value.int x) :: st, s, k) = zev zk_X2_lineAndCircle (132, ls, Sum.inl (Value.int (x * y)) :: st, s, k) := zev_go rfl rfl
set_option maxRecDepth 8000 in
theorem zr_X2_lineAndCircle_132 (ls : zLs) (st : List zAV) (s : zAS) (k : Nat × Nat) (x y : Int32) : zev zk_X2_lineAndCircle (132, ls, Sum.inl (Value.int y) :: Sum.inl (Value.int x) :: st, s, k) = zev zk_X2_lineAndCircle (133, ls, Sum.inl (Value.int (x + y)) :: st, s, k) := zev_go rfl rfl
set_option maxRecDepth 8000 in
theorem zr_X2_lineAndCircle_133 (a0 a1 a2 a3 a4 a5 a7 a8 a9 a10 a11 a12 a13 a14 : Option zAV) (st : List zAV) (s : zAS) (k : Nat × Nat) (x : Int32) : zev zk_X2_lineAndCircle (133, [a0, a1, a2, a3, a4, a5, some (Sum.inl (Value.int x)), a7, a8, a9, a10, a11, a12, a13, a14], st, s, k) = zev zk_X2_lineAndCircle (135, [a0, a1, a2, a3, a4, a5, some (Sum.inl (Value.int x)), a7, a8, a9, a10, a11, a12, a13, a14], Sum.inl (Value.int x) :: st, s, k) := zev_go rfl rfl
set_option maxRecDepth 8000 in
theorem zr_X2_lineAndCircle_135 (ls : zLs) (st : List zAV) (s : zAS) (k : Nat × Nat) (r v0 v1 : zAV) (h : zcok zEC 3 0 0 (zR_X2_lineAndCircle).cells (zR_X2_lineAndCircle).slots r st k) : zev zk_X2_lineAndCircle (135, ls, v1 :: v0 :: r :: st, s, k) = zret zk_X2_lineAndCircle 138 ls st (k.1 + 0, k.2 + 0) (m_X3_ratio [r, v0, v1] s) := zf_callV (as := [v1, v0]) 2 rfl rfl h
set_option maxRecDepth 8000 in
theorem zr_X2_lineAndCircle_138 (ls : zLs) (st : List zAV) (s : zAS) (k : Nat × Nat) (x y : Int32) : zev zk_X2_lineAndCircle (138, ls, Sum.inl (Value.int y) :: Sum.inl (Value.int x) :: st, s, k) = zev zk_X2_lineAndCircle (139, ls, Sum.inl (Value.int (x + y)) :: st, s, k) := zev_go rfl rfl
set_option maxRecDepth 8000 in
theorem zr_X2_lineAndCircle_139 (ls : zLs) (st : List zAV) (s : zAS) (k : Nat × Nat) (r v0 : zAV) (h : zcok zEC 3 0 0 (zR_X2_lineAndCircle).cells (zR_X2_lineAndCircle).slots r st k) : zev zk_X2_lineAndCircle (139, ls, v0 :: r :: st, s, k) = zret zk_X2_lineAndCircle 142 ls st (k.1 + 0, k.2 + 0) (m_X3_rest [r, v0] s) := zf_callV (as := [v0]) 1 rfl rfl h
set_option maxRecDepth 8000 in
theorem zr_X2_lineAndCircle_142 (a0 a1 a2 a3 a4 a5 a6 a7 a8 a9 a10 a11 a12 a13 a14 : Option zAV) (st : List zAV) (s : zAS) (k : Nat × Nat) (x : Int32) : zev zk_X2_lineAndCircle (142, [a0, a1, a2, a3, a4, a5, a6, a7, a8, a9, a10, a11, a12, a13, a14], Sum.inl (Value.int x) :: st, s, k) = zev zk_X2_lineAndCircle (144, [a0, a1, a2, a3, a4, a5, a6, a7, a8, zk1 a9, some (Sum.inl (Value.int x)), a11, a12, a13, a14], st, s, k) := zev_go rfl rfl
set_option maxRecDepth 8000 in
theorem zr_X2_lineAndCircle_144 (a1 a2 a3 a4 a5 a6 a7 a8 a9 a10 a11 a12 a13 a14 : Option zAV) (st : List zAV) (s : zAS) (k : Nat × Nat) (o : Nat × Nat) : zev zk_X2_lineAndCircle (144, [some (Sum.inr o), a1, a2, a3, a4, a5, a6, a7, a8, a9, a10, a11, a12, a13, a14], st, s, k) = zev zk_X2_lineAndCircle (145, [some (Sum.inr o), a1, a2, a3, a4, a5, a6, a7, a8, a9, a10, a11, a12, a13, a14], Sum.inr o :: st, s, k) := zev_go rfl rfl
set_option maxRecDepth 8000 in
theorem zr_X2_lineAndCircle_145 (ls : zLs) (st : List zAV) (s : zAS) (k : Nat × Nat) (o i : Nat) : zev zk_X2_lineAndCircle (145, ls, Sum.inr (o, i) :: st, s, k) = zpush zk_X2_lineAndCircle 148 ls st s k (zgv zEC 2 0 o i s.1) := zf_get rfl
set_option maxRecDepth 8000 in
theorem zr_X2_lineAndCircle_148 (a0 a1 a2 a4 a5 a6 a7 a8 a9 a10 a11 a12 a13 a14 : Option zAV) (st : List zAV) (s : zAS) (k : Nat × Nat) (o : Nat × Nat) : zev zk_X2_lineAndCircle (148, [a0, a1, a2, some (Sum.inr o), a4, a5, a6, a7, a8, a9, a10, a11, a12, a13, a14], st, s, k) = zev zk_X2_lineAndCircle (149, [a0, a1, a2, some (Sum.inr o), a4, a5, a6, a7, a8, a9, a10, a11, a12, a13, a14], Sum.inr o :: st, s, k) := zev_go rfl rfl
set_option maxRecDepth 8000 in
theorem zr_X2_lineAndCircle_149 (ls : zLs) (st : List zAV) (s : zAS) (k : Nat × Nat) (o i : Nat) : zev zk_X2_lineAndCircle (149, ls, Sum.inr (o, i) :: st, s, k) = zpush zk_X2_lineAndCircle 152 ls st s k (zgv zEC 4 8 o i s.1) := zf_get rfl
set_option maxRecDepth 8000 in
theorem zr_X2_lineAndCircle_152 (a1 a2 a3 a4 a5 a6 a7 a8 a9 a10 a11 a12 a13 a14 : Option zAV) (st : List zAV) (s : zAS) (k : Nat × Nat) (o : Nat × Nat) : zev zk_X2_lineAndCircle (152, [some (Sum.inr o), a1, a2, a3, a4, a5, a6, a7, a8, a9, a10, a11, a12, a13, a14], st, s, k) = zev zk_X2_lineAndCircle (153, [some (Sum.inr o), a1, a2, a3, a4, a5, a6, a7, a8, a9, a10, a11, a12, a13, a14], Sum.inr o :: st, s, k) := zev_go rfl rfl
set_option maxRecDepth 8000 in
theorem zr_X2_lineAndCircle_153 (ls : zLs) (st : List zAV) (s : zAS) (k : Nat × Nat) (o i : Nat) : zev zk_X2_lineAndCircle (153, ls, Sum.inr (o, i) :: st, s, k) = zpush zk_X2_lineAndCircle 156 ls st s k (zgv zEC 2 0 o i s.1) := zf_get rfl
set_option maxRecDepth 8000 in
theorem zr_X2_lineAndCircle_156 (a0 a1 a2 a3 a5 a6 a7 a8 a9 a10 a11 a12 a13 a14 : Option zAV) (st : List zAV) (s : zAS) (k : Nat × Nat) (x : Int32) : zev zk_X2_lineAndCircle (156, [a0, a1, a2, a3, some (Sum.inl (Value.int x)), a5, a6, a7, a8, a9, a10, a11, a12, a13, a14], st, s, k) = zev zk_X2_lineAndCircle (158, [a0, a1, a2, a3, some (Sum.inl (Value.int x)), a5, a6, a7, a8, a9, a10, a11, a12, a13, a14], Sum.inl (Value.int x) :: st, s, k) := zev_go rfl rfl
set_option maxRecDepth 8000 in
theorem zr_X2_lineAndCircle_158 (ls : zLs) (st : List zAV) (s : zAS) (k : Nat × Nat) (x : Int32) : zev zk_X2_lineAndCircle (158, ls, Sum.inl (Value.int x) :: st, s, k) = zev zk_X2_lineAndCircle (159, ls, Sum.inl (Value.int (-x)) :: st, s, k) := zev_go rfl rfl
set_option maxRecDepth 8000 in
theorem zr_X2_lineAndCircle_159 (a0 a1 a2 a3 a4 a5 a6 a8 a9 a10 a11 a12 a13 a14 : Option zAV) (st : List zAV) (s : zAS) (k : Nat × Nat) (x : Int32) : zev zk_X2_lineAndCircle (159, [a0, a1, a2, a3, a4, a5, a6, some (Sum.inl (Value.int x)), a8, a9, a10, a11, a12, a13, a14], st, s, k) = zev zk_X2_lineAndCircle (161, [a0, a1, a2, a3, a4, a5, a6, some (Sum.inl (Value.int x)), a8, a9, a10, a11, a12, a13, a14], Sum.inl (Value.int x) :: st, s, k) := zev_go rfl rfl
set_option maxRecDepth 8000 in
theorem zr_X2_lineAndCircle_161 (ls : zLs) (st : List zAV) (s : zAS) (k : Nat × Nat) (x y : Int32) : zev zk_X2_lineAndCircle (161, ls, Sum.inl (Value.int y) :: Sum.inl (Value.int x) :: st, s, k) = zev zk_X2_lineAndCircle (162, ls, Sum.inl (Value.int (x * y)) :: st, s, k) := zev_go rfl rfl
set_option maxRecDepth 8000 in
theorem zr_X2_lineAndCircle_162 (a0 a1 a2 a3 a4 a6 a7 a8 a9 a10 a11 a12 a13 a14 : Option zAV) (st : List zAV) (s : zAS) (k : Nat × Nat) (x : Int32) : zev zk_X2_lineAndCircle (162, [a0, a1, a2, a3, a4, some (Sum.inl (Value.int x)), a6, a7, a8, a9, a10, a11, a12, a13, a14], st, s, k) = zev zk_X2_lineAndCircle (164, [a0, a1, a2, a3, a4, some (Sum.inl (Value.int x)), a6, a7, a8, a9, a10, a11, a12, a13, a14], Sum.inl (Value.int x) :: st, s, k) := zev_go rfl rfl
set_option maxRecDepth 8000 in
theorem zr_X2_lineAndCircle_164 (a0 a1 a2 a3 a4 a5 a6 a7 a9 a10 a11 a12 a13 a14 : Option zAV) (st : List zAV) (s : zAS) (k : Nat × Nat) (x : Int32) : zev zk_X2_lineAndCircle (164, [a0, a1, a2, a3, a4, a5, a6, a7, some (Sum.inl (Value.int x)), a9, a10, a11, a12, a13, a14], st, s, k) = zev zk_X2_lineAndCircle (166, [a0, a1, a2, a3, a4, a5, a6, a7, some (Sum.inl (Value.int x)), a9, a10, a11, a12, a13, a14], Sum.inl (Value.int x) :: st, s, k) := zev_go rfl rfl
set_option maxRecDepth 8000 in
theorem zr_X2_lineAndCircle_166 (ls : zLs) (st : List zAV) (s : zAS) (k : Nat × Nat) (x y : Int32) : zev zk_X2_lineAndCircle (166, ls, Sum.inl (Value.int y) :: Sum.inl (Value.int x) :: st, s, k) = zev zk_X2_lineAndCircle (167, ls, Sum.inl (Value.int (x * y)) :: st, s, k) := zev_go rfl rfl
set_option maxRecDepth 8000 in
theorem zr_X2_lineAndCircle_167 (ls : zLs) (st : List zAV) (s : zAS) (k : Nat × Nat) (x y : Int32) : zev zk_X2_lineAndCircle (167, ls, Sum.inl (Value.int y) :: Sum.inl (Value.int x) :: st, s, k) = zev zk_X2_lineAndCircle (168, ls, Sum.inl (Value.int (x + y)) :: st, s, k) := zev_go rfl rfl
set_option maxRecDepth 8000 in
theorem zr_X2_lineAndCircle_168 (a0 a1 a2 a3 a4 a5 a7 a8 a9 a10 a11 a12 a13 a14 : Option zAV) (st : List zAV) (s : zAS) (k : Nat × Nat) (x : Int32) : zev zk_X2_lineAndCircle (168, [a0, a1, a2, a3, a4, a5, some (Sum.inl (Value.int x)), a7, a8, a9, a10, a11, a12, a13, a14], st, s, k) = zev zk_X2_lineAndCircle (170, [a0, a1, a2, a3, a4, a5, some (Sum.inl (Value.int x)), a7, a8, a9, a10, a11, a12, a13, a14], Sum.inl (Value.int x) :: st, s, k) := zev_go rfl rfl
set_option maxRecDepth 8000 in
theorem zr_X2_lineAndCircle_170 (ls : zLs) (st : List zAV) (s : zAS) (k : Nat × Nat) (r v0 v1 : zAV) (h : zcok zEC 3 0 0 (zR_X2_lineAndCircle).cells (zR_X2_lineAndCircle).slots r st k) : zev zk_X2_lineAndCircle (170, ls, v1 :: v0 :: r :: st, s, k) = zret zk_X2_lineAndCircle 173 ls st (k.1 + 0, k.2 + 0) (m_X3_ratio [r, v0, v1] s) := zf_callV (as := [v1, v0]) 2 rfl rfl h
set_option maxRecDepth 8000 in
theorem zr_X2_lineAndCircle_173 (ls : zLs) (st : List zAV) (s : zAS) (k : Nat × Nat) (x y : Int32) : zev zk_X2_lineAndCircle (173, ls, Sum.inl (Value.int y) :: Sum.inl (Value.int x) :: st, s, k) = zev zk_X2_lineAndCircle (174, ls, Sum.inl (Value.int (x + y)) :: st, s, k) := zev_go rfl rfl
set_option maxRecDepth 8000 in
theorem zr_X2_lineAndCircle_174 (ls : zLs) (st : List zAV) (s : zAS) (k : Nat × Nat) (r v0 : zAV) (h : zcok zEC 3 0 0 (zR_X2_lineAndCircle).cells (zR_X2_lineAndCircle).slots r st k) : zev zk_X2_lineAndCircle (174, ls, v0 :: r :: st, s, k) = zret zk_X2_lineAndCircle 177 ls st (k.1 + 0, k.2 + 0) (m_X3_rest [r, v0] s) := zf_callV (as := [v0]) 1 rfl rfl h
set_option maxRecDepth 8000 in
theorem zr_X2_lineAndCircle_177 (a0 a1 a2 a3 a4 a5 a6 a7 a8 a9 a10 a11 a12 a13 a14 : Option zAV) (st : List zAV) (s : zAS) (k : Nat × Nat) (x : Int32) : zev zk_X2_lineAndCircle (177, [a0, a1, a2, a3, a4, a5, a6, a7, a8, a9, a10, a11, a12, a13, a14], Sum.inl (Value.int x) :: st, s, k) = zev zk_X2_lineAndCircle (179, [a0, a1, a2, a3, a4, a5, a6, a7, a8, a9, zk1 a10, some (Sum.inl (Value.int x)), a12, a13, a14], st, s, k) := zev_go rfl rfl
set_option maxRecDepth 8000 in
theorem zr_X2_lineAndCircle_179 (a1 a2 a3 a4 a5 a6 a7 a8 a9 a10 a11 a12 a13 a14 : Option zAV) (st : List zAV) (s : zAS) (k : Nat × Nat) (o : Nat × Nat) : zev zk_X2_lineAndCircle (179, [some (Sum.inr o), a1, a2, a3, a4, a5, a6, a7, a8, a9, a10, a11, a12, a13, a14], st, s, k) = zev zk_X2_lineAndCircle (180, [some (Sum.inr o), a1, a2, a3, a4, a5, a6, a7, a8, a9, a10, a11, a12, a13, a14], Sum.inr o :: st, s, k) := zev_go rfl rfl
set_option maxRecDepth 8000 in
theorem zr_X2_lineAndCircle_180 (ls : zLs) (st : List zAV) (s : zAS) (k : Nat × Nat) (o i : Nat) : zev zk_X2_lineAndCircle (180, ls, Sum.inr (o, i) :: st, s, k) = zpush zk_X2_lineAndCircle 183 ls st s k (zgv zEC 2 0 o i s.1) := zf_get rfl
set_option maxRecDepth 8000 in
theorem zr_X2_lineAndCircle_183 (a0 a1 a2 a4 a5 a6 a7 a8 a9 a10 a11 a12 a13 a14 : Option zAV) (st : List zAV) (s : zAS) (k : Nat × Nat) (o : Nat × Nat) : zev zk_X2_lineAndCircle (183, [a0, a1, a2, some (Sum.inr o), a4, a5, a6, a7, a8, a9, a10, a11, a12, a13, a14], st, s, k) = zev zk_X2_lineAndCircle (184, [a0, a1, a2, some (Sum.inr o), a4, a5, a6, a7, a8, a9, a10, a11, a12, a13, a14], Sum.inr o :: st, s, k) := zev_go rfl rfl
set_option maxRecDepth 8000 in
theorem zr_X2_lineAndCircle_184 (ls : zLs) (st : List zAV) (s : zAS) (k : Nat × Nat) (o i : Nat) : zev zk_X2_lineAndCircle (184, ls, Sum.inr (o, i) :: st, s, k) = zpush zk_X2_lineAndCircle 187 ls st s k (zgv zEC 4 9 o i s.1) := zf_get rfl
set_option maxRecDepth 8000 in
theorem zr_X2_lineAndCircle_187 (a1 a2 a3 a4 a5 a6 a7 a8 a9 a10 a11 a12 a13 a14 : Option zAV) (st : List zAV) (s : zAS) (k : Nat × Nat) (o : Nat × Nat) : zev zk_X2_lineAndCircle (187, [some (Sum.inr o), a1, a2, a3, a4, a5, a6, a7, a8, a9, a10, a11, a12, a13, a14], st, s, k) = zev zk_X2_lineAndCircle (188, [some (Sum.inr o), a1, a2, a3, a4, a5, a6, a7, a8, a9, a10, a11, a12, a13, a14], Sum.inr o :: st, s, k) := zev_go rfl rfl
set_option maxRecDepth 8000 in
theorem zr_X2_lineAndCircle_188 (ls : zLs) (st : List zAV) (s : zAS) (k : Nat × Nat) (o i : Nat) : zev zk_X2_lineAndCircle (188, ls, Sum.inr (o, i) :: st, s, k) = zpush zk_X2_lineAndCircle 191 ls st s k (zgv zEC 2 0 o i s.1) := zf_get rfl
set_option maxRecDepth 8000 in
theorem zr_X2_lineAndCircle_191 (a0 a1 a2 a3 a4 a6 a7 a8 a9 a10 a11 a12 a13 a14 : Option zAV) (st : List zAV) (s : zAS) (k : Nat × Nat) (x : Int32) : zev zk_X2_lineAndCircle (191, [a0, a1, a2, a3, a4, some (Sum.inl (Value.int x)), a6, a7, a8, a9, a10, a11, a12, a13, a14], st, s, k) = zev zk_X2_lineAndCircle (193, [a0, a1, a2, a3, a4, some (Sum.inl (Value.int x)), a6, a7, a8, a9, a10, a11, a12, a13, a14], Sum.inl (Value.int x) :: st, s, k) := zev_go rfl rfl
set_option maxRecDepth 8000 in
theorem zr_X2_lineAndCircle_193 (ls : zLs) (st : List zAV) (s : zAS) (k : Nat × Nat) (x : Int32) : zev zk_X2_lineAndCircle (193, ls, Sum.inl (Value.int x) :: st, s, k) = zev zk_X2_lineAndCircle (194, ls, Sum.inl (Value.int (-x)) :: st, s, k) := zev_go rfl rfl
set_option maxRecDepth 8000 in
theorem zr_X2_lineAndCircle_194 (a0 a1 a2 a3 a4 a5 a6 a8 a9 a10 a11 a12 a13 a14 : Option zAV) (st : List zAV) (s : zAS) (k : Nat × Nat) (x : Int32) : zev zk_X2_lineAndCircle (194, [a0, a1, a2, a3, a4, a5, a6, some (Sum.inl (Value.int x)), a8, a9, a10, a11, a12, a13, a14], st, s, k) = zev zk_X2_lineAndCircle (196, [a0, a1, a2, a3, a4, a5, a6, some (Sum.inl (Value.int x)), a8, a9, a10, a11, a12, a13, a14], Sum.inl (Value.int x) :: st, s, k) := zev_go rfl rfl
set_option maxRecDepth 8000 in
theorem zr_X2_lineAndCircle_196 (ls : zLs) (st : List zAV) (s : zAS) (k : Nat × Nat) (x y : Int32) : zev zk_X2_lineAndCircle (196, ls, Sum.inl (Value.int y) :: Sum.inl (Value.int x) :: st, s, k) = zev zk_X2_lineAndCircle (197, ls, Sum.inl (Value.int (x * y)) :: st, s, k) := zev_go rfl rfl
set_option maxRecDepth 8000 in
theorem zr_X2_lineAndCircle_197 (a0 a1 a2 a3 a5 a6 a7 a8 a9 a10 a11 a12 a13 a14 : Option zAV) (st : List zAV) (s : zAS) (k : Nat × Nat) (x : Int32) : zev zk_X2_lineAndCircle (197, [a0, a1, a2, a3, some (Sum.inl (Value.int x)), a5, a6, a7, a8, a9, a10, a11, a12, a13, a14], st, s, k) = zev zk_X2_lineAndCircle (199, [a0, a1, a2, a3, some (Sum.inl (Value.int x)), a5, a6, a7, a8, a9, a10, a11, a12, a13, a14], Sum.inl (Value.int x) :: st, s, k) := zev_go rfl rfl
set_option maxRecDepth 8000 in
theorem zr_X2_lineAndCircle_199 (a0 a1 a2 a3 a4 a5 a6 a7 a9 a10 a11 a12 a13 a14 : Option zAV) (st : List zAV) (s : zAS) (k : Nat × Nat) (x : Int32) : zev zk_X2_lineAndCircle (199, [a0, a1, a2, a3, a4, a5, a6, a7, some (Sum.inl (Value.int x)), a9, a10, a11, a12, a13, a14], st, s, k) = zev zk_X2_lineAndCircle (201, [a0, a1, a2, a3, a4, a5, a6, a7, some (Sum.inl (Value.int x)), a9, a10, a11, a12, a13, a14], Sum.inl (Value.int x) :: st, s, k) := zev_go rfl rfl
set_option maxRecDepth 8000 in
theorem zr_X2_lineAndCircle_201 (ls : zLs) (st : List zAV) (s : zAS) (k : Nat × Nat) (x y : Int32) : zev zk_X2_lineAndCircle (201, ls, Sum.inl (Value.int y) :: Sum.inl (Value.int x) :: st, s, k) = zev zk_X2_lineAndCircle (202, ls, Sum.inl (Value.int (x * y)) :: st, s, k) := zev_go rfl rfl
set_option maxRecDepth 8000 in
theorem zr_X2_lineAndCircle_202 (ls : zLs) (st : List zAV) (s : zAS) (k : Nat × Nat) (x y : Int32) : zev zk_X2_lineAndCircle (202, ls, Sum.inl (Value.int y) :: Sum.inl (Value.int x) :: st, s, k) = zev zk_X2_lineAndCircle (203, ls, Sum.inl (Value.int (x - y)) :: st, s, k) := zev_go rfl rfl
set_option maxRecDepth 8000 in
theorem zr_X2_lineAndCircle_203 (a0 a1 a2 a3 a4 a5 a7 a8 a9 a10 a11 a12 a13 a14 : Option zAV) (st : List zAV) (s : zAS) (k : Nat × Nat) (x : Int32) : zev zk_X2_lineAndCircle (203, [a0, a1, a2, a3, a4, a5, some (Sum.inl (Value.int x)), a7, a8, a9, a10, a11, a12, a13, a14], st, s, k) = zev zk_X2_lineAndCircle (205, [a0, a1, a2, a3, a4, a5, some (Sum.inl (Value.int x)), a7, a8, a9, a10, a11, a12, a13, a14], Sum.inl (Value.int x) :: st, s, k) := zev_go rfl rfl
set_option maxRecDepth 8000 in
theorem zr_X2_lineAndCircle_205 (ls : zLs) (st : List zAV) (s : zAS) (k : Nat × Nat) (r v0 v1 : zAV) (h : zcok zEC 3 0 0 (zR_X2_lineAndCircle).cells (zR_X2_lineAndCircle).slots r st k) : zev zk_X2_lineAndCircle (205, ls, v1 :: v0 :: r :: st, s, k) = zret zk_X2_lineAndCircle 208 ls st (k.1 + 0, k.2 + 0) (m_X3_ratio [r, v0, v1] s) := zf_callV (as := [v1, v0]) 2 rfl rfl h
set_option maxRecDepth 8000 in
theorem zr_X2_lineAndCircle_208 (ls : zLs) (st : List zAV) (s : zAS) (k : Nat × Nat) (x y : Int32) : zev zk_X2_lineAndCircle (208, ls, Sum.inl (Value.int y) :: Sum.inl (Value.int x) :: st, s, k) = zev zk_X2_lineAndCircle (209, ls, Sum.inl (Value.int (x + y)) :: st, s, k) := zev_go rfl rfl
set_option maxRecDepth 8000 in
theorem zr_X2_lineAndCircle_209 (ls : zLs) (st : List zAV) (s : zAS) (k : Nat × Nat) (r v0 : zAV) (h : zcok zEC 3 0 0 (zR_X2_lineAndCircle).cells (zR_X2_lineAndCircle).slots r st k) : zev zk_X2_lineAndCircle (209, ls, v0 :: r :: st, s, k) = zret zk_X2_lineAndCircle 212 ls st (k.1 + 0, k.2 + 0) (m_X3_rest [r, v0] s) := zf_callV (as := [v0]) 1 rfl rfl h
set_option maxRecDepth 8000 in
theorem zr_X2_lineAndCircle_212 (a0 a1 a2 a3 a4 a5 a6 a7 a8 a9 a10 a11 a12 a13 a14 : Option zAV) (st : List zAV) (s : zAS) (k : Nat × Nat) (x : Int32) : zev zk_X2_lineAndCircle (212, [a0, a1, a2, a3, a4, a5, a6, a7, a8, a9, a10, a11, a12, a13, a14], Sum.inl (Value.int x) :: st, s, k) = zev zk_X2_lineAndCircle (214, [a0, a1, a2, a3, a4, a5, a6, a7, a8, a9, a10, zk1 a11, some (Sum.inl (Value.int x)), a13, a14], st, s, k) := zev_go rfl rfl
set_option maxRecDepth 8000 in
theorem zr_X2_lineAndCircle_214 (a0 a1 a2 a3 a4 a5 a6 a7 a8 a10 a11 a12 a13 a14 : Option zAV) (st : List zAV) (s : zAS) (k : Nat × Nat) (x : Int32) : zev zk_X2_lineAndCircle (214, [a0, a1, a2, a3, a4, a5, a6, a7, a8, some (Sum.inl (Value.int x)), a10, a11, a12, a13, a14], st, s, k) = zev zk_X2_lineAndCircle (216, [a0, a1, a2, a3, a4, a5, a6, a7, a8, some (Sum.inl (Value.int x)), a10, a11, a12, a13, a14], Sum.inl (Value.int x) :: st, s, k) := zev_go rfl rfl
set_option maxRecDepth 8000 in
theorem zr_X2_lineAndCircle_216 (a0 a1 a2 a3 a4 a5 a6 a7 a8 a9 a10 a12 a13 a14 : Option zAV) (st : List zAV) (s : zAS) (k : Nat × Nat) (x : Int32) : zev zk_X2_lineAndCircle (216, [a0, a1, a2, a3, a4, a5, a6, a7, a8, a9, a10, some (Sum.inl (Value.int x)), a12, a13, a14], st, s, k) = zev zk_X2_lineAndCircle (218, [a0, a1, a2, a3, a4, a5, a6, a7, a8, a9, a10, some (Sum.inl (Value.int x)), a12, a13, a14], Sum.inl (Value.int x) :: st, s, k) := zev_go rfl rfl
set_option maxRecDepth 8000 in
theorem zr_X2_lineAndCircle_218 (ls : zLs) (st : List zAV) (s : zAS) (k : Nat × Nat) (x y : Int32) : zev zk_X2_lineAndCircle (218, ls, Sum.inl (Value.int y) :: Sum.inl (Value.int x) :: st, s, k) = if decide (x < y) = true then zev zk_X2_lineAndCircle (235, ls, st, s, k) else zev zk_X2_lineAndCircle (221, ls, st, s, k) := zf_cmp (f := fun x y => decide (x < y)) rfl
set_option maxRecDepth 8000 in
theorem zr_X2_lineAndCircle_221 (a0 a1 a2 a3 a4 a5 a6 a7 a8 a10 a11 a12 a13 a14 : Option zAV) (st : List zAV) (s : zAS) (k : Nat × Nat) (x : Int32) : zev zk_X2_lineAndCircle (221, [a0, a1, a2, a3, a4, a5, a6, a7, a8, some (Sum.inl (Value.int x)), a10, a11, a12, a13, a14], st, s, k) = zev zk_X2_lineAndCircle (223, [a0, a1, a2, a3, a4, a5, a6, a7, a8, some (Sum.inl (Value.int x)), a10, a11, a12, a13, a14], Sum.inl (Value.int x) :: st, s, k) := zev_go rfl rfl
set_option maxRecDepth 8000 in
theorem zr_X2_lineAndCircle_223 (a0 a1 a2 a3 a4 a5 a6 a7 a8 a9 a10 a12 a13 a14 : Option zAV) (st : List zAV) (s : zAS) (k : Nat × Nat) (x : Int32) : zev zk_X2_lineAndCircle (223, [a0, a1, a2, a3, a4, a5, a6, a7, a8, a9, a10, some (Sum.inl (Value.int x)), a12, a13, a14], st, s, k) = zev zk_X2_lineAndCircle (225, [a0, a1, a2, a3, a4, a5, a6, a7, a8, a9, a10, some (Sum.inl (Value.int x)), a12, a13, a14], Sum.inl (Value.int x) :: st, s, k) := zev_go rfl rfl
set_option maxRecDepth 8000 in
theorem zr_X2_lineAndCircle_225 (ls : zLs) (st : List zAV) (s : zAS) (k : Nat × Nat) (x y : Int32) : zev zk_X2_lineAndCircle (225, ls, Sum.inl (Value.int y) :: Sum.inl (Value.int x) :: st, s, k) = if decide (¬ x = y) = true then zev zk_X2_lineAndCircle (239, ls, st, s, k) else zev zk_X2_lineAndCircle (228, ls, st, s, k) := zf_cmp (f := fun x y => decide (¬ x = y)) rfl
set_option maxRecDepth 8000 in
theorem zr_X2_lineAndCircle_228 (a0 a1 a2 a3 a4 a5 a6 a7 a8 a9 a11 a12 a13 a14 : Option zAV) (st : List zAV) (s : zAS) (k : Nat × Nat) (x : Int32) : zev zk_X2_lineAndCircle (228, [a0, a1, a2, a3, a4, a5, a6, a7, a8, a9, some (Sum.inl (Value.int x)), a11, a12, a13, a14], st, s, k) = zev zk_X2_lineAndCircle (230, [a0, a1, a2, a3, a4, a5, a6, a7, a8, a9, some (Sum.inl (Value.int x)), a11, a12, a13, a14], Sum.inl (Value.int x) :: st, s, k) := zev_go rfl rfl
set_option maxRecDepth 8000 in
theorem zr_X2_lineAndCircle_230 (a0 a1 a2 a3 a4 a5 a6 a7 a8 a9 a10 a11 a13 a14 : Option zAV) (st : List zAV) (s : zAS) (k : Nat × Nat) (x : Int32) : zev zk_X2_lineAndCircle (230, [a0, a1, a2, a3, a4, a5, a6, a7, a8, a9, a10, a11, some (Sum.inl (Value.int x)), a13, a14], st, s, k) = zev zk_X2_lineAndCircle (232, [a0, a1, a2, a3, a4, a5, a6, a7, a8, a9, a10, a11, some (Sum.inl (Value.int x)), a13, a14], Sum.inl (Value.int x) :: st, s, k) := zev_go rfl rfl
set_option maxRecDepth 8000 in
theorem zr_X2_lineAndCircle_232 (ls : zLs) (st : List zAV) (s : zAS) (k : Nat × Nat) (x y : Int32) : zev zk_X2_lineAndCircle (232, ls, Sum.inl (Value.int y) :: Sum.inl (Value.int x) :: st, s, k) = if decide (y < x) = true then zev zk_X2_lineAndCircle (239, ls, st, s, k) else zev zk_X2_lineAndCircle (235, ls, st, s, k) := zf_cmp (f := fun x y => decide (y < x)) rfl
set_option maxRecDepth 8000 in
theorem zr_X2_lineAndCircle_235 (ls : zLs) (st : List zAV) (s : zAS) (k : Nat × Nat) : zev zk_X2_lineAndCircle (235, ls, st, s, k) = zev zk_X2_lineAndCircle (236, ls, Sum.inl (Value.int (1)) :: st, s, k) := zev_go rfl rfl
set_option maxRecDepth 8000 in
theorem zr_X2_lineAndCircle_236 (ls : zLs) (st : List zAV) (s : zAS) (k : Nat × Nat) : zev zk_X2_lineAndCircle (236, ls, st, s, k) = zev zk_X2_lineAndCircle (240, ls, st, s, k) := zev_go rfl rfl
set_option maxRecDepth 8000 in
theorem zr_X2_lineAndCircle_239 (ls : zLs) (st : List zAV) (s : zAS) (k : Nat × Nat) : zev zk_X2_lineAndCircle (239, ls, st, s, k) = zev zk_X2_lineAndCircle (240, ls, Sum.inl (Value.int (0)) :: st, s, k) := zev_go rfl rfl
set_option maxRecDepth 8000 in
theorem zr_X2_lineAndCircle_240 (a0 a1 a2 a3 a4 a5 a6 a7 a8 a9 a10 a11 a12 a13 a14 : Option zAV) (st : List zAV) (s : zAS) (k : Nat × Nat) (x : Int32) : zev zk_X2_lineAndCircle (240, [a0, a1, a2, a3, a4, a5, a6, a7, a8, a9, a10, a11, a12, a13, a14], Sum.inl (Value.int x) :: st, s, k) = zev zk_X2_lineAndCircle (242, [a0, a1, a2, a3, a4, a5, a6, a7, a8, a9, a10, a11, zk1 a12, some (Sum.inl (Value.int x)), a14], st, s, k) := zev_go rfl rfl
set_option maxRecDepth 8000 in
theorem zr_X2_lineAndCircle_242 (a0 a2 a3 a4 a5 a6 a7 a8 a9 a10 a11 a12 a13 a14 : Option zAV) (st : List zAV) (s : zAS) (k : Nat × Nat) (o : Nat × Nat) : zev zk_X2_lineAndCircle (242, [a0, some (Sum.inr o), a2, a3, a4, a5, a6, a7, a8, a9, a10, a11, a12, a13, a14], st, s, k) = zev zk_X2_lineAndCircle (243, [a0, some (Sum.inr o), a2, a3, a4, a5, a6, a7, a8, a9, a10, a11, a12, a13, a14], Sum.inr o :: st, s, k) := zev_go rfl rfl
set_option maxRecDepth 8000 in
theorem zr_X2_lineAndCircle_243 (ls : zLs) (st : List zAV) (s : zAS) (k : Nat × Nat) (o i : Nat) : zev zk_X2_lineAndCircle (243, ls, Sum.inr (o, i) :: st, s, k) = zpush zk_X2_lineAndCircle 246 ls st s k (zgv zEC 4 1 o i s.1) := zf_get rfl
set_option maxRecDepth 8000 in
theorem zr_X2_lineAndCircle_246 (ls : zLs) (st : List zAV) (s : zAS) (k : Nat × Nat) : zev zk_X2_lineAndCircle (246, ls, st, s, k) = zev zk_X2_lineAndCircle (247, ls, Sum.inl (Value.int (3)) :: st, s, k) := zev_go rfl rfl
set_option maxRecDepth 8000 in
theorem zr_X2_lineAndCircle_247 (ls : zLs) (st : List zAV) (s : zAS) (k : Nat × Nat) (x y : Int32) : zev zk_X2_lineAndCircle (247, ls, Sum.inl (Value.int y) :: Sum.inl (Value.int x) :: st, s, k) = if decide (x = y) = true then zev zk_X2_lineAndCircle (258, ls, st, s, k) else zev zk_X2_lineAndCircle (250, ls, st, s, k) := zf_cmp (f := fun x y => decide (x = y)) rfl
set_option maxRecDepth 8000 in
theorem zr_X2_lineAndCircle_250 (a0 a2 a3 a4 a5 a6 a7 a8 a9 a10 a11 a12 a13 a14 : Option zAV) (st : List zAV) (s : zAS) (k : Nat × Nat) (o : Nat × Nat) : zev zk_X2_lineAndCircle (250, [a0, some (Sum.inr o), a2, a3, a4, a5, a6, a7, a8, a9, a10, a11, a12, a13, a14], st, s, k) = zev zk_X2_lineAndCircle (251, [a0, some (Sum.inr o), a2, a3, a4, a5, a6, a7, a8, a9, a10, a11, a12, a13, a14], Sum.inr o :: st, s, k) := zev_go rfl rfl
set_option maxRecDepth 8000 in
theorem zr_X2_lineAndCircle_251 (ls : zLs) (st : List zAV) (s : zAS) (k : Nat × Nat) (o i : Nat) : zev zk_X2_lineAndCircle (251, ls, Sum.inr (o, i) :: st, s, k) = zpush zk_X2_lineAndCircle 254 ls st s k (zgv zEC 4 1 o i s.1) := zf_get rfl
set_option maxRecDepth 8000 in
theorem zr_X2_lineAndCircle_254 (ls : zLs) (st : List zAV) (s : zAS) (k : Nat × Nat) : zev zk_X2_lineAndCircle (254, ls, st, s, k) = zev zk_X2_lineAndCircle (255, ls, Sum.inl (Value.int (5)) :: st, s, k) := zev_go rfl rfl
set_option maxRecDepth 8000 in
theorem zr_X2_lineAndCircle_255 (ls : zLs) (st : List zAV) (s : zAS) (k : Nat × Nat) (x y : Int32) : zev zk_X2_lineAndCircle (255, ls, Sum.inl (Value.int y) :: Sum.inl (Value.int x) :: st, s, k) = if decide (¬ x = y) = true then zev zk_X2_lineAndCircle (262, ls, st, s, k) else zev zk_X2_lineAndCircle (258, ls, st, s, k) := zf_cmp (f := fun x y => decide (¬ x = y)) rfl
set_option maxRecDepth 8000 in
theorem zr_X2_lineAndCircle_258 (ls : zLs) (st : List zAV) (s : zAS) (k : Nat × Nat) : zev zk_X2_lineAndCircle (258, ls, st, s, k) = zev zk_X2_lineAndCircle (259, ls, Sum.inl (Value.int (1)) :: st, s, k) := zev_go rfl rfl
set_option maxRecDepth 8000 in
theorem zr_X2_lineAndCircle_259 (ls : zLs) (st : List zAV) (s : zAS) (k : Nat × Nat) : zev zk_X2_lineAndCircle (259, ls, st, s, k) = zev zk_X2_lineAndCircle (263, ls, st, s, k) := zev_go rfl rfl
set_option maxRecDepth 8000 in
theorem zr_X2_lineAndCircle_262 (ls : zLs) (st : List zAV) (s : zAS) (k : Nat × Nat) : zev zk_X2_lineAndCircle (262, ls, st, s, k) = zev zk_X2_lineAndCircle (263, ls, Sum.inl (Value.int (0)) :: st, s, k) := zev_go rfl rfl
set_option maxRecDepth 8000 in
theorem zr_X2_lineAndCircle_263 (a0 a1 a2 a3 a4 a5 a6 a7 a8 a9 a10 a11 a12 a13 a14 : Option zAV) (st : List zAV) (s : zAS) (k : Nat × Nat) (x : Int32) : zev zk_X2_lineAndCircle (263, [a0, a1, a2, a3, a4, a5, a6, a7, a8, a9, a10, a11, a12, a13, a14], Sum.inl (Value.int x) :: st, s, k) = zev zk_X2_lineAndCircle (265, [a0, a1, a2, a3, a4, a5, a6, a7, a8, a9, a10, a11, a12, zk1 a13, some (Sum.inl (Value.int x))], st, s, k) := zev_go rfl rfl
set_option maxRecDepth 8000 in
theorem zr_X2_lineAndCircle_265 (a0 a1 a2 a3 a4 a5 a6 a7 a8 a9 a10 a11 a12 a14 : Option zAV) (st : List zAV) (s : zAS) (k : Nat × Nat) (x : Int32) : zev zk_X2_lineAndCircle (265, [a0, a1, a2, a3, a4, a5, a6, a7, a8, a9, a10, a11, a12, some (Sum.inl (Value.int x)), a14], st, s, k) = zev zk_X2_lineAndCircle (267, [a0, a1, a2, a3, a4, a5, a6, a7, a8, a9, a10, a11, a12, some (Sum.inl (Value.int x)), a14], Sum.inl (Value.int x) :: st, s, k) := zev_go rfl rfl
set_option maxRecDepth 8000 in
theorem zr_X2_lineAndCircle_267 (a0 a1 a2 a3 a4 a5 a6 a7 a8 a9 a10 a11 a12 a13 : Option zAV) (st : List zAV) (s : zAS) (k : Nat × Nat) (x : Int32) : zev zk_X2_lineAndCircle (267, [a0, a1, a2, a3, a4, a5, a6, a7, a8, a9, a10, a11, a12, a13, some (Sum.inl (Value.int x))], st, s, k) = zev zk_X2_lineAndCircle (269, [a0, a1, a2, a3, a4, a5, a6, a7, a8, a9, a10, a11, a12, a13, some (Sum.inl (Value.int x))], Sum.inl (Value.int x) :: st, s, k) := zev_go rfl rfl
set_option maxRecDepth 8000 in
theorem zr_X2_lineAndCircle_269 (ls : zLs) (st : List zAV) (s : zAS) (k : Nat × Nat) (x y : Int32) : zev zk_X2_lineAndCircle (269, ls, Sum.inl (Value.int y) :: Sum.inl (Value.int x) :: st, s, k) = if decide (¬ x = y) = true then zev zk_X2_lineAndCircle (284, ls, st, s, k) else zev zk_X2_lineAndCircle (272, ls, st, s, k) := zf_cmp (f := fun x y => decide (¬ x = y)) rfl
set_option maxRecDepth 8000 in
theorem zr_X2_lineAndCircle_272 (a1 a2 a3 a4 a5 a6 a7 a8 a9 a10 a11 a12 a13 a14 : Option zAV) (st : List zAV) (s : zAS) (k : Nat × Nat) (o : Nat × Nat) : zev zk_X2_lineAndCircle (272, [some (Sum.inr o), a1, a2, a3, a4, a5, a6, a7, a8, a9, a10, a11, a12, a13, a14], st, s, k) = zev zk_X2_lineAndCircle (273, [some (Sum.inr o), a1, a2, a3, a4, a5, a6, a7, a8, a9, a10, a11, a12, a13, a14], Sum.inr o :: st, s, k) := zev_go rfl rfl
set_option maxRecDepth 8000 in
theorem zr_X2_lineAndCircle_273 (a0 a2 a3 a4 a5 a6 a7 a8 a9 a10 a11 a12 a13 a14 : Option zAV) (st : List zAV) (s : zAS) (k : Nat × Nat) (o : Nat × Nat) : zev zk_X2_lineAndCircle (273, [a0, some (Sum.inr o), a2, a3, a4, a5, a6, a7, a8, a9, a10, a11, a12, a13, a14], st, s, k) = zev zk_X2_lineAndCircle (274, [a0, some (Sum.inr o), a2, a3, a4, a5, a6, a7, a8, a9, a10, a11, a12, a13, a14], Sum.inr o :: st, s, k) := zev_go rfl rfl
set_option maxRecDepth 8000 in
theorem zr_X2_lineAndCircle_274 (a0 a1 a2 a3 a4 a5 a6 a7 a8 a10 a11 a12 a13 a14 : Option zAV) (st : List zAV) (s : zAS) (k : Nat × Nat) (x : Int32) : zev zk_X2_lineAndCircle (274, [a0, a1, a2, a3, a4, a5, a6, a7, a8, some (Sum.inl (Value.int x)), a10, a11, a12, a13, a14], st, s, k) = zev zk_X2_lineAndCircle (276, [a0, a1, a2, a3, a4, a5, a6, a7, a8, some (Sum.inl (Value.int x)), a10, a11, a12, a13, a14], Sum.inl (Value.int x) :: st, s, k) := zev_go rfl rfl
set_option maxRecDepth 8000 in
theorem zr_X2_lineAndCircle_276 (a0 a1 a2 a3 a4 a5 a6 a7 a8 a9 a11 a12 a13 a14 : Option zAV) (st : List zAV) (s : zAS) (k : Nat × Nat) (x : Int32) : zev zk_X2_lineAndCircle (276, [a0, a1, a2, a3, a4, a5, a6, a7, a8, a9, some (Sum.inl (Value.int x)), a11, a12, a13, a14], st, s, k) = zev zk_X2_lineAndCircle (278, [a0, a1, a2, a3, a4, a5, a6, a7, a8, a9, some (Sum.inl (Value.int x)), a11, a12, a13, a14], Sum.inl (Value.int x) :: st, s, k) := zev_go rfl rfl
set_option maxRecDepth 8000 in
theorem zr_X2_lineAndCircle_278 (ls : zLs) (st : List zAV) (s : zAS) (k : Nat × Nat) (r v0 v1 v2 : zAV) (h : zcok zEC 2 0 0 (zR_X2_lineAndCircle).cells (zR_X2_lineAndCircle).slots r st k) : zev zk_X2_lineAndCircle (278, ls, v2 :: v1 :: v0 :: r :: st, s, k) = zret zk_X2_lineAndCircle 281 ls st (k.1 + 0, k.2 + 0) (m_X2_putPoint [r, v0, v1, v2] s) := zf_callV (as := [v2, v1, v0]) 3 rfl rfl h
set_option maxRecDepth 8000 in
theorem zr_X2_lineAndCircle_281 (ls : zLs) (st : List zAV) (s : zAS) (k : Nat × Nat) : zev zk_X2_lineAndCircle (281, ls, st, s, k) = zev zk_X2_lineAndCircle (293, ls, st, s, k) := zev_go rfl rfl
set_option maxRecDepth 8000 in
theorem zr_X2_lineAndCircle_284 (a1 a2 a3 a4 a5 a6 a7 a8 a9 a10 a11 a12 a13 a14 : Option zAV) (st : List zAV) (s : zAS) (k : Nat × Nat) (o : Nat × Nat) : zev zk_X2_lineAndCircle (284, [some (Sum.inr o), a1, a2, a3, a4, a5, a6, a7, a8, a9, a10, a11, a12, a13, a14], st, s, k) = zev zk_X2_lineAndCircle (285, [some (Sum.inr o), a1, a2, a3, a4, a5, a6, a7, a8, a9, a10, a11, a12, a13, a14], Sum.inr o :: st, s, k) := zev_go rfl rfl
set_option maxRecDepth 8000 in
theorem zr_X2_lineAndCircle_285 (a0 a2 a3 a4 a5 a6 a7 a8 a9 a10 a11 a12 a13 a14 : Option zAV) (st : List zAV) (s : zAS) (k : Nat × Nat) (o : Nat × Nat) : zev zk_X2_lineAndCircle (285, [a0, some (Sum.inr o), a2, a3, a4, a5, a6, a7, a8, a9, a10, a11, a12, a13, a14], st, s, k) = zev zk_X2_lineAndCircle (286, [a0, some (Sum.inr o), a2, a3, a4, a5, a6, a7, a8, a9, a10, a11, a12, a13, a14], Sum.inr o :: st, s, k) := zev_go rfl rfl
set_option maxRecDepth 8000 in
theorem zr_X2_lineAndCircle_286 (a0 a1 a2 a3 a4 a5 a6 a7 a8 a9 a10 a12 a13 a14 : Option zAV) (st : List zAV) (s : zAS) (k : Nat × Nat) (x : Int32) : zev zk_X2_lineAndCircle (286, [a0, a1, a2, a3, a4, a5, a6, a7, a8, a9, a10, some (Sum.inl (Value.int x)), a12, a13, a14], st, s, k) = zev zk_X2_lineAndCircle (288, [a0, a1, a2, a3, a4, a5, a6, a7, a8, a9, a10, some (Sum.inl (Value.int x)), a12, a13, a14], Sum.inl (Value.int x) :: st, s, k) := zev_go rfl rfl
set_option maxRecDepth 8000 in
theorem zr_X2_lineAndCircle_288 (a0 a1 a2 a3 a4 a5 a6 a7 a8 a9 a10 a11 a13 a14 : Option zAV) (st : List zAV) (s : zAS) (k : Nat × Nat) (x : Int32) : zev zk_X2_lineAndCircle (288, [a0, a1, a2, a3, a4, a5, a6, a7, a8, a9, a10, a11, some (Sum.inl (Value.int x)), a13, a14], st, s, k) = zev zk_X2_lineAndCircle (290, [a0, a1, a2, a3, a4, a5, a6, a7, a8, a9, a10, a11, some (Sum.inl (Value.int x)), a13, a14], Sum.inl (Value.int x) :: st, s, k) := zev_go rfl rfl
set_option maxRecDepth 8000 in
theorem zr_X2_lineAndCircle_290 (ls : zLs) (st : List zAV) (s : zAS) (k : Nat × Nat) (r v0 v1 v2 : zAV) (h : zcok zEC 2 0 0 (zR_X2_lineAndCircle).cells (zR_X2_lineAndCircle).slots r st k) : zev zk_X2_lineAndCircle (290, ls, v2 :: v1 :: v0 :: r :: st, s, k) = zret zk_X2_lineAndCircle 293 ls st (k.1 + 0, k.2 + 0) (m_X2_putPoint [r, v0, v1, v2] s) := zf_callV (as := [v2, v1, v0]) 3 rfl rfl h
set_option maxRecDepth 8000 in
theorem zr_X2_lineAndCircle_293 (ls : zLs) (s : zAS) (k : Nat × Nat) (x : Int32) (hx : x = 0 ∨ x = 1) : zev zk_X2_lineAndCircle (293, ls, [Sum.inl (Value.int x)], s, k) = some (.inl (some (Sum.inl (Value.int x))), s) := zf_retz rfl hx
/-! X2_putLine: PrimePlane$Compass.putLine(LPrimePlane$Figure;III)Z -/
abbrev zR_X2_putLine : Room := ({ frames := 2, cells := 0, slots := 0, locals := 43 } : Room)
noncomputable def zl_X2_putLine : List (Nat × zOp) := [(0, z_lda 0 1), (1, z_get zEC 2 0 4), (4, z_lda 0 5), (5, z_get zEC 2 0 8), (8, z_ldi 2 9), (9, z_callV zEC 3 m_X3_rest 1 0 0 (zR_X2_putLine).cells (zR_X2_putLine).slots 12), (12, z_if (fun x => decide (x = 0)) 19 15), (15, z_ldi 2 16), (16, z_goto 20), (19, z_ldi 3 20), (20, z_callV zEC 3 m_X3_rest 1 0 0 (zR_X2_putLine).cells (zR_X2_putLine).slots 23), (23, z_sti 5 25), (25, z_ldi 5 27), (27, z_if (fun x => decide (¬ x = 0)) 32 30), (30, z_ic (0) 31), (31, z_reti true), (32, z_lda 0 33), (33, z_get zEC 2 0 36), (36, z_ldi 5 38), (38, z_callV zEC 3 m_X3_inverseOf 1 0 0 (zR_X2_putLine).cells (zR_X2_putLine).slots 41), (41, z_sti 6 43), (43, z_lda 1 44), (44, z_lda 0 45), (45, z_get zEC 2 0 48), (48, z_ldi 2 49), (49, z_ldi 6 51), (51, z_bin (fun x y => x * y) 52), (52, z_callV zEC 3 m_X3_rest 1 0 0 (zR_X2_putLine).cells (zR_X2_putLine).slots 55), (55, z_lda 0 56), (56, z_get zEC 2 0 59), (59, z_ldi 3 60), (60, z_ldi 6 62), (62, z_bin (fun x y => x * y) 63), (63, z_callV zEC 3 m_X3_rest 1 0 0 (zR_X2_putLine).cells (zR_X2_putLine).slots 66), (66, z_lda 0 67), (67, z_get zEC 2 0 70), (70, z_ldi 4 72), (72, z_ldi 6 74), (74, z_bin (fun x y => x * y) 75), (75, z_callV zEC 3 m_X3_rest 1 0 0 (zR_X2_putLine).cells (zR_X2_putLine).slots 78), (78, z_callV zEC 4 m_X4_put 3 0 0 (zR_X2_putLine).cells (zR_X2_putLine).slots 81), (81, z_ic (1) 82), (82, z_reti true)]
noncomputable def zk_X2_putLine (pc : Nat) : Option zOp := zlook zl_X2_putLine pc
noncomputable def m_X2_putLine : List zAV → zAS → Option zOut := zmeth zk_X2_putLine 7
set_option maxRecDepth 100000 in
set_option maxHeartbeats 4000000 in
theorem zcs_X2_putLine {R : Room} (hR : R = zR_X2_putLine) : ∀ q ∈ zl_X2_putLine, zS zEC yX2_putLine.cls cX2_putLine 7 wsX2_putLine (some .boolean) R q.1 q.2 := by
  subst hR
  have hin2 : ∀ w ∈ wsX20, w ∈ wsX2_putLine := fun w h => List.mem_cons_of_mem _ (List.mem_append_left _ (List.mem_append_left _ (List.mem_append_right _ h)))
  refine List.forall_mem_cons.mpr ⟨zs_aload_n dX2_putLine_0 rfl, ?_⟩
  refine List.forall_mem_cons.mpr ⟨zs_get (ci := 2) (j := 0) (N := 2) (C := RX2) (T := TX2) (index := 12) rfl (by decide) hin2 (List.mem_of_getElem? (i := 1) rfl) dX2_putLine_1, ?_⟩
  refine List.forall_mem_cons.mpr ⟨zs_aload_n dX2_putLine_4 rfl, ?_⟩
  refine List.forall_mem_cons.mpr ⟨zs_get (ci := 2) (j := 0) (N := 2) (C := RX2) (T := TX2) (index := 12) rfl (by decide) hin2 (List.mem_of_getElem? (i := 1) rfl) dX2_putLine_5, ?_⟩
  refine List.forall_mem_cons.mpr ⟨zs_iload_n dX2_putLine_8 rfl, ?_⟩
  refine List.forall_mem_cons.mpr ⟨zs_callV (ci := 3) (rm := zR_X3_rest) (n := 1) rfl zM_X3_rest gX2_putLine_X3_rest rfl (by decide +kernel) ⟨by decide, by decide⟩ dX2_putLine_9, ?_⟩
  refine List.forall_mem_cons.mpr ⟨zs_ifeq dX2_putLine_12 (by decide), ?_⟩
  refine List.forall_mem_cons.mpr ⟨zs_iload_n dX2_putLine_15 rfl, ?_⟩
  refine List.forall_mem_cons.mpr ⟨zs_goto dX2_putLine_16 (by decide), ?_⟩
  refine List.forall_mem_cons.mpr ⟨zs_iload_n dX2_putLine_19 rfl, ?_⟩
  refine List.forall_mem_cons.mpr ⟨zs_callV (ci := 3) (rm := zR_X3_rest) (n := 1) rfl zM_X3_rest gX2_putLine_X3_rest rfl (by decide +kernel) ⟨by decide, by decide⟩ dX2_putLine_20, ?_⟩
  refine List.forall_mem_cons.mpr ⟨zs_istore dX2_putLine_23, ?_⟩
  refine List.forall_mem_cons.mpr ⟨zs_iload dX2_putLine_25, ?_⟩
  refine List.forall_mem_cons.mpr ⟨zs_ifne dX2_putLine_27 (by decide), ?_⟩
  refine List.forall_mem_cons.mpr ⟨zs_iconst dX2_putLine_30 (by decide), ?_⟩
  refine List.forall_mem_cons.mpr ⟨zs_reti (ty := .boolean) rfl (fun x h => (znz x h).1) dX2_putLine_31, ?_⟩
  refine List.forall_mem_cons.mpr ⟨zs_aload_n dX2_putLine_32 rfl, ?_⟩
  refine List.forall_mem_cons.mpr ⟨zs_get (ci := 2) (j := 0) (N := 2) (C := RX2) (T := TX2) (index := 12) rfl (by decide) hin2 (List.mem_of_getElem? (i := 1) rfl) dX2_putLine_33, ?_⟩
  refine List.forall_mem_cons.mpr ⟨zs_iload dX2_putLine_36, ?_⟩
  refine List.forall_mem_cons.mpr ⟨zs_callV (ci := 3) (rm := zR_X3_inverseOf) (n := 1) rfl zM_X3_inverseOf gX2_putLine_X3_inverseOf rfl (by decide +kernel) ⟨by decide, by decide⟩ dX2_putLine_38, ?_⟩
  refine List.forall_mem_cons.mpr ⟨zs_istore dX2_putLine_41, ?_⟩
  refine List.forall_mem_cons.mpr ⟨zs_aload_n dX2_putLine_43 rfl, ?_⟩
  refine List.forall_mem_cons.mpr ⟨zs_aload_n dX2_putLine_44 rfl, ?_⟩
  refine List.forall_mem_cons.mpr ⟨zs_get (ci := 2) (j := 0) (N := 2) (C := RX2) (T := TX2) (index := 12) rfl (by decide) hin2 (List.mem_of_getElem? (i := 1) rfl) dX2_putLine_45, ?_⟩
  refine List.forall_mem_cons.mpr ⟨zs_iload_n dX2_putLine_48 rfl, ?_⟩
  refine List.forall_mem_cons.mpr ⟨zs_iload dX2_putLine_49, ?_⟩
  refine List.forall_mem_cons.mpr ⟨zs_imul dX2_putLine_51, ?_⟩
  refine List.forall_mem_cons.mpr ⟨zs_callV (ci := 3) (rm := zR_X3_rest) (n := 1) rfl zM_X3_rest gX2_putLine_X3_rest rfl (by decide +kernel) ⟨by decide, by decide⟩ dX2_putLine_52, ?_⟩
  refine List.forall_mem_cons.mpr ⟨zs_aload_n dX2_putLine_55 rfl, ?_⟩
  refine List.forall_mem_cons.mpr ⟨zs_get (ci := 2) (j := 0) (N := 2) (C := RX2) (T := TX2) (index := 12) rfl (by decide) hin2 (List.mem_of_getElem? (i := 1) rfl) dX2_putLine_56, ?_⟩
  refine List.forall_mem_cons.mpr ⟨zs_iload_n dX2_putLine_59 rfl, ?_⟩
  refine List.forall_mem_cons.mpr ⟨zs_iload dX2_putLine_60, ?_⟩
  refine List.forall_mem_cons.mpr ⟨zs_imul dX2_putLine_62, ?_⟩
  refine List.forall_mem_cons.mpr ⟨zs_callV (ci := 3) (rm := zR_X3_rest) (n := 1) rfl zM_X3_rest gX2_putLine_X3_rest rfl (by decide +kernel) ⟨by decide, by decide⟩ dX2_putLine_63, ?_⟩
  refine List.forall_mem_cons.mpr ⟨zs_aload_n dX2_putLine_66 rfl, ?_⟩
  refine List.forall_mem_cons.mpr ⟨zs_get (ci := 2) (j := 0) (N := 2) (C := RX2) (T := TX2) (index := 12) rfl (by decide) hin2 (List.mem_of_getElem? (i := 1) rfl) dX2_putLine_67, ?_⟩
  refine List.forall_mem_cons.mpr ⟨zs_iload dX2_putLine_70, ?_⟩
  refine List.forall_mem_cons.mpr ⟨zs_iload dX2_putLine_72, ?_⟩
  refine List.forall_mem_cons.mpr ⟨zs_imul dX2_putLine_74, ?_⟩
  refine List.forall_mem_cons.mpr ⟨zs_callV (ci := 3) (rm := zR_X3_rest) (n := 1) rfl zM_X3_rest gX2_putLine_X3_rest rfl (by decide +kernel) ⟨by decide, by decide⟩ dX2_putLine_75, ?_⟩
  refine List.forall_mem_cons.mpr ⟨zs_callV (ci := 4) (rm := zR_X4_put) (n := 3) rfl zM_X4_put gX2_putLine_X4_put rfl (by decide +kernel) ⟨by decide, by decide⟩ dX2_putLine_78, ?_⟩
  refine List.forall_mem_cons.mpr ⟨zs_iconst dX2_putLine_81 (by decide), ?_⟩
  refine List.forall_mem_cons.mpr ⟨zs_reti (ty := .boolean) rfl (fun x h => (znz x h).1) dX2_putLine_82, ?_⟩
  exact fun _ h => absurd h List.not_mem_nil
theorem zM_X2_putLine : zMeets zEC yX2_putLine wsX2_putLine zR_X2_putLine m_X2_putLine := zmeth_M zECok (zlook_all (zcs_X2_putLine rfl)) (by decide +kernel) rfl
theorem zr_X2_putLine_0 (a1 a2 a3 a4 a5 a6 : Option zAV) (st : List zAV) (s : zAS) (k : Nat × Nat) (o : Nat × Nat) : zev zk_X2_putLine (0, [some (Sum.inr o), a1, a2, a3, a4, a5, a6], st, s, k) = zev zk_X2_putLine (1, [some (Sum.inr o), a1, a2, a3, a4, a5, a6], Sum.inr o :: st, s, k) := zev_go rfl rfl
theorem zr_X2_putLine_1 (ls : zLs) (st : List zAV) (s : zAS) (k : Nat × Nat) (o i : Nat) : zev zk_X2_putLine (1, ls, Sum.inr (o, i) :: st, s, k) = zpush zk_X2_putLine 4 ls st s k (zgv zEC 2 0 o i s.1) := zf_get rfl
theorem zr_X2_putLine_4 (a1 a2 a3 a4 a5 a6 : Option zAV) (st : List zAV) (s : zAS) (k : Nat × Nat) (o : Nat × Nat) : zev zk_X2_putLine (4, [some (Sum.inr o), a1, a2, a3, a4, a5, a6], st, s, k) = zev zk_X2_putLine (5, [some (Sum.inr o), a1, a2, a3, a4, a5, a6], Sum.inr o :: st, s, k) := zev_go rfl rfl
theorem zr_X2_putLine_5 (ls : zLs) (st : List zAV) (s : zAS) (k : Nat × Nat) (o i : Nat) : zev zk_X2_putLine (5, ls, Sum.inr (o, i) :: st, s, k) = zpush zk_X2_putLine 8 ls st s k (zgv zEC 2 0 o i s.1) := zf_get rfl
theorem zr_X2_putLine_8 (a0 a1 a3 a4 a5 a6 : Option zAV) (st : List zAV) (s : zAS) (k : Nat × Nat) (x : Int32) : zev zk_X2_putLine (8, [a0, a1, some (Sum.inl (Value.int x)), a3, a4, a5, a6], st, s, k) = zev zk_X2_putLine (9, [a0, a1, some (Sum.inl (Value.int x)), a3, a4, a5, a6], Sum.inl (Value.int x) :: st, s, k) := zev_go rfl rfl
theorem zr_X2_putLine_9 (ls : zLs) (st : List zAV) (s : zAS) (k : Nat × Nat) (r v0 : zAV) (h : zcok zEC 3 0 0 (zR_X2_putLine).cells (zR_X2_putLine).slots r st k) : zev zk_X2_putLine (9, ls, v0 :: r :: st, s, k) = zret zk_X2_putLine 12 ls st (k.1 + 0, k.2 + 0) (m_X3_rest [r, v0] s) := zf_callV (as := [v0]) 1 rfl rfl h
theorem zr_X2_putLine_12 (ls : zLs) (st : List zAV) (s : zAS) (k : Nat × Nat) (x : Int32) : zev zk_X2_putLine (12, ls, Sum.inl (Value.int x) :: st, s, k) = if decide (x = 0) = true then zev zk_X2_putLine (19, ls, st, s, k) else zev zk_X2_putLine (15, ls, st, s, k) := zf_if (f := fun x => decide (x = 0)) rfl
theorem zr_X2_putLine_15 (a0 a1 a3 a4 a5 a6 : Option zAV) (st : List zAV) (s : zAS) (k : Nat × Nat) (x : Int32) : zev zk_X2_putLine (15, [a0, a1, some (Sum.inl (Value.int x)), a3, a4, a5, a6], st, s, k) = zev zk_X2_putLine (16, [a0, a1, some (Sum.inl (Value.int x)), a3, a4, a5, a6], Sum.inl (Value.int x) :: st, s, k) := zev_go rfl rfl
theorem zr_X2_putLine_16 (ls : zLs) (st : List zAV) (s : zAS) (k : Nat × Nat) : zev zk_X2_putLine (16, ls, st, s, k) = zev zk_X2_putLine (20, ls, st, s, k) := zev_go rfl rfl
theorem zr_X2_putLine_19 (a0 a1 a2 a4 a5 a6 : Option zAV) (st : List zAV) (s : zAS) (k : Nat × Nat) (x : Int32) : zev zk_X2_putLine (19, [a0, a1, a2, some (Sum.inl (Value.int x)), a4, a5, a6], st, s, k) = zev zk_X2_putLine (20, [a0, a1, a2, some (Sum.inl (Value.int x)), a4, a5, a6], Sum.inl (Value.int x) :: st, s, k) := zev_go rfl rfl
theorem zr_X2_putLine_20 (ls : zLs) (st : List zAV) (s : zAS) (k : Nat × Nat) (r v0 : zAV) (h : zcok zEC 3 0 0 (zR_X2_putLine).cells (zR_X2_putLine).slots r st k) : zev zk_X2_putLine (20, ls, v0 :: r :: st, s, k) = zret zk_X2_putLine 23 ls st (k.1 + 0, k.2 + 0) (m_X3_rest [r, v0] s) := zf_callV (as := [v0]) 1 rfl rfl h
theorem zr_X2_putLine_23 (a0 a1 a2 a3 a4 a5 a6 : Option zAV) (st : List zAV) (s : zAS) (k : Nat × Nat) (x : Int32) : zev zk_X2_putLine (23, [a0, a1, a2, a3, a4, a5, a6], Sum.inl (Value.int x) :: st, s, k) = zev zk_X2_putLine (25, [a0, a1, a2, a3, zk1 a4, some (Sum.inl (Value.int x)), a6], st, s, k) := zev_go rfl rfl
theorem zr_X2_putLine_25 (a0 a1 a2 a3 a4 a6 : Option zAV) (st : List zAV) (s : zAS) (k : Nat × Nat) (x : Int32) : zev zk_X2_putLine (25, [a0, a1, a2, a3, a4, some (Sum.inl (Value.int x)), a6], st, s, k) = zev zk_X2_putLine (27, [a0, a1, a2, a3, a4, some (Sum.inl (Value.int x)), a6], Sum.inl (Value.int x) :: st, s, k) := zev_go rfl rfl
theorem zr_X2_putLine_27 (ls : zLs) (st : List zAV) (s : zAS) (k : Nat × Nat) (x : Int32) : zev zk_X2_putLine (27, ls, Sum.inl (Value.int x) :: st, s, k) = if decide (¬ x = 0) = true then zev zk_X2_putLine (32, ls, st, s, k) else zev zk_X2_putLine (30, ls, st, s, k) := zf_if (f := fun x => decide (¬ x = 0)) rfl
theorem zr_X2_putLine_30 (ls : zLs) (st : List zAV) (s : zAS) (k : Nat × Nat) : zev zk_X2_putLine (30, ls, st, s, k) = zev zk_X2_putLine (31, ls, Sum.inl (Value.int (0)) :: st, s, k) := zev_go rfl rfl
theorem zr_X2_putLine_31 (ls : zLs) (s : zAS) (k : Nat × Nat) (x : Int32) (hx : x = 0 ∨ x = 1) : zev zk_X2_putLine (31, ls, [Sum.inl (Value.int x)], s, k) = some (.inl (some (Sum.inl (Value.int x))), s) := zf_retz rfl hx
theorem zr_X2_putLine_32 (a1 a2 a3 a4 a5 a6 : Option zAV) (st : List zAV) (s : zAS) (k : Nat × Nat) (o : Nat × Nat) : zev zk_X2_putLine (32, [some (Sum.inr o), a1, a2, a3, a4, a5, a6], st, s, k) = zev zk_X2_putLine (33, [some (Sum.inr o), a1, a2, a3, a4, a5, a6], Sum.inr o :: st, s, k) := zev_go rfl rfl
theorem zr_X2_putLine_33 (ls : zLs) (st : List zAV) (s : zAS) (k : Nat × Nat) (o i : Nat) : zev zk_X2_putLine (33, ls, Sum.inr (o, i) :: st, s, k) = zpush zk_X2_putLine 36 ls st s k (zgv zEC 2 0 o i s.1) := zf_get rfl
theorem zr_X2_putLine_36 (a0 a1 a2 a3 a4 a6 : Option zAV) (st : List zAV) (s : zAS) (k : Nat × Nat) (x : Int32) : zev zk_X2_putLine (36, [a0, a1, a2, a3, a4, some (Sum.inl (Value.int x)), a6], st, s, k) = zev zk_X2_putLine (38, [a0, a1, a2, a3, a4, some (Sum.inl (Value.int x)), a6], Sum.inl (Value.int x) :: st, s, k) := zev_go rfl rfl
theorem zr_X2_putLine_38 (ls : zLs) (st : List zAV) (s : zAS) (k : Nat × Nat) (r v0 : zAV) (h : zcok zEC 3 0 0 (zR_X2_putLine).cells (zR_X2_putLine).slots r st k) : zev zk_X2_putLine (38, ls, v0 :: r :: st, s, k) = zret zk_X2_putLine 41 ls st (k.1 + 0, k.2 + 0) (m_X3_inverseOf [r, v0] s) := zf_callV (as := [v0]) 1 rfl rfl h
theorem zr_X2_putLine_41 (a0 a1 a2 a3 a4 a5 a6 : Option zAV) (st : List zAV) (s : zAS) (k : Nat × Nat) (x : Int32) : zev zk_X2_putLine (41, [a0, a1, a2, a3, a4, a5, a6], Sum.inl (Value.int x) :: st, s, k) = zev zk_X2_putLine (43, [a0, a1, a2, a3, a4, zk1 a5, some (Sum.inl (Value.int x))], st, s, k) := zev_go rfl rfl
theorem zr_X2_putLine_43 (a0 a2 a3 a4 a5 a6 : Option zAV) (st : List zAV) (s : zAS) (k : Nat × Nat) (o : Nat × Nat) : zev zk_X2_putLine (43, [a0, some (Sum.inr o), a2, a3, a4, a5, a6], st, s, k) = zev zk_X2_putLine (44, [a0, some (Sum.inr o), a2, a3, a4, a5, a6], Sum.inr o :: st, s, k) := zev_go rfl rfl
theorem zr_X2_putLine_44 (a1 a2 a3 a4 a5 a6 : Option zAV) (st : List zAV) (s : zAS) (k : Nat × Nat) (o : Nat × Nat) : zev zk_X2_putLine (44, [some (Sum.inr o), a1, a2, a3, a4, a5, a6], st, s, k) = zev zk_X2_putLine (45, [some (Sum.inr o), a1, a2, a3, a4, a5, a6], Sum.inr o :: st, s, k) := zev_go rfl rfl
theorem zr_X2_putLine_45 (ls : zLs) (st : List zAV) (s : zAS) (k : Nat × Nat) (o i : Nat) : zev zk_X2_putLine (45, ls, Sum.inr (o, i) :: st, s, k) = zpush zk_X2_putLine 48 ls st s k (zgv zEC 2 0 o i s.1) := zf_get rfl
theorem zr_X2_putLine_48 (a0 a1 a3 a4 a5 a6 : Option zAV) (st : List zAV) (s : zAS) (k : Nat × Nat) (x : Int32) : zev zk_X2_putLine (48, [a0, a1, some (Sum.inl (Value.int x)), a3, a4, a5, a6], st, s, k) = zev zk_X2_putLine (49, [a0, a1, some (Sum.inl (Value.int x)), a3, a4, a5, a6], Sum.inl (Value.int x) :: st, s, k) := zev_go rfl rfl
theorem zr_X2_putLine_49 (a0 a1 a2 a3 a4 a5 : Option zAV) (st : List zAV) (s : zAS) (k : Nat × Nat) (x : Int32) : zev zk_X2_putLine (49, [a0, a1, a2, a3, a4, a5, some (Sum.inl (Value.int x))], st, s, k) = zev zk_X2_putLine (51, [a0, a1, a2, a3, a4, a5, some (Sum.inl (Value.int x))], Sum.inl (Value.int x) :: st, s, k) := zev_go rfl rfl
theorem zr_X2_putLine_51 (ls : zLs) (st : List zAV) (s : zAS) (k : Nat × Nat) (x y : Int32) : zev zk_X2_putLine (51, ls, Sum.inl (Value.int y) :: Sum.inl (Value.int x) :: st, s, k) = zev zk_X2_putLine (52, ls, Sum.inl (Value.int (x * y)) :: st, s, k) := zev_go rfl rfl
theorem zr_X2_putLine_52 (ls : zLs) (st : List zAV) (s : zAS) (k : Nat × Nat) (r v0 : zAV) (h : zcok zEC 3 0 0 (zR_X2_putLine).cells (zR_X2_putLine).slots r st k) : zev zk_X2_putLine (52, ls, v0 :: r :: st, s, k) = zret zk_X2_putLine 55 ls st (k.1 + 0, k.2 + 0) (m_X3_rest [r, v0] s) := zf_callV (as := [v0]) 1 rfl rfl h
theorem zr_X2_putLine_55 (a1 a2 a3 a4 a5 a6 : Option zAV) (st : List zAV) (s : zAS) (k : Nat × Nat) (o : Nat × Nat) : zev zk_X2_putLine (55, [some (Sum.inr o), a1, a2, a3, a4, a5, a6], st, s, k) = zev zk_X2_putLine (56, [some (Sum.inr o), a1, a2, a3, a4, a5, a6], Sum.inr o :: st, s, k) := zev_go rfl rfl
theorem zr_X2_putLine_56 (ls : zLs) (st : List zAV) (s : zAS) (k : Nat × Nat) (o i : Nat) : zev zk_X2_putLine (56, ls, Sum.inr (o, i) :: st, s, k) = zpush zk_X2_putLine 59 ls st s k (zgv zEC 2 0 o i s.1) := zf_get rfl
theorem zr_X2_putLine_59 (a0 a1 a2 a4 a5 a6 : Option zAV) (st : List zAV) (s : zAS) (k : Nat × Nat) (x : Int32) : zev zk_X2_putLine (59, [a0, a1, a2, some (Sum.inl (Value.int x)), a4, a5, a6], st, s, k) = zev zk_X2_putLine (60, [a0, a1, a2, some (Sum.inl (Value.int x)), a4, a5, a6], Sum.inl (Value.int x) :: st, s, k) := zev_go rfl rfl
theorem zr_X2_putLine_60 (a0 a1 a2 a3 a4 a5 : Option zAV) (st : List zAV) (s : zAS) (k : Nat × Nat) (x : Int32) : zev zk_X2_putLine (60, [a0, a1, a2, a3, a4, a5, some (Sum.inl (Value.int x))], st, s, k) = zev zk_X2_putLine (62, [a0, a1, a2, a3, a4, a5, some (Sum.inl (Value.int x))], Sum.inl (Value.int x) :: st, s, k) := zev_go rfl rfl
theorem zr_X2_putLine_62 (ls : zLs) (st : List zAV) (s : zAS) (k : Nat × Nat) (x y : Int32) : zev zk_X2_putLine (62, ls, Sum.inl (Value.int y) :: Sum.inl (Value.int x) :: st, s, k) = zev zk_X2_putLine (63, ls, Sum.inl (Value.int (x * y)) :: st, s, k) := zev_go rfl rfl
theorem zr_X2_putLine_63 (ls : zLs) (st : List zAV) (s : zAS) (k : Nat × Nat) (r v0 : zAV) (h : zcok zEC 3 0 0 (zR_X2_putLine).cells (zR_X2_putLine).slots r st k) : zev zk_X2_putLine (63, ls, v0 :: r :: st, s, k) = zret zk_X2_putLine 66 ls st (k.1 + 0, k.2 + 0) (m_X3_rest [r, v0] s) := zf_callV (as := [v0]) 1 rfl rfl h
theorem zr_X2_putLine_66 (a1 a2 a3 a4 a5 a6 : Option zAV) (st : List zAV) (s : zAS) (k : Nat × Nat) (o : Nat × Nat) : zev zk_X2_putLine (66, [some (Sum.inr o), a1, a2, a3, a4, a5, a6], st, s, k) = zev zk_X2_putLine (67, [some (Sum.inr o), a1, a2, a3, a4, a5, a6], Sum.inr o :: st, s, k) := zev_go rfl rfl
theorem zr_X2_putLine_67 (ls : zLs) (st : List zAV) (s : zAS) (k : Nat × Nat) (o i : Nat) : zev zk_X2_putLine (67, ls, Sum.inr (o, i) :: st, s, k) = zpush zk_X2_putLine 70 ls st s k (zgv zEC 2 0 o i s.1) := zf_get rfl
theorem zr_X2_putLine_70 (a0 a1 a2 a3 a5 a6 : Option zAV) (st : List zAV) (s : zAS) (k : Nat × Nat) (x : Int32) : zev zk_X2_putLine (70, [a0, a1, a2, a3, some (Sum.inl (Value.int x)), a5, a6], st, s, k) = zev zk_X2_putLine (72, [a0, a1, a2, a3, some (Sum.inl (Value.int x)), a5, a6], Sum.inl (Value.int x) :: st, s, k) := zev_go rfl rfl
theorem zr_X2_putLine_72 (a0 a1 a2 a3 a4 a5 : Option zAV) (st : List zAV) (s : zAS) (k : Nat × Nat) (x : Int32) : zev zk_X2_putLine (72, [a0, a1, a2, a3, a4, a5, some (Sum.inl (Value.int x))], st, s, k) = zev zk_X2_putLine (74, [a0, a1, a2, a3, a4, a5, some (Sum.inl (Value.int x))], Sum.inl (Value.int x) :: st, s, k) := zev_go rfl rfl
theorem zr_X2_putLine_74 (ls : zLs) (st : List zAV) (s : zAS) (k : Nat × Nat) (x y : Int32) : zev zk_X2_putLine (74, ls, Sum.inl (Value.int y) :: Sum.inl (Value.int x) :: st, s, k) = zev zk_X2_putLine (75, ls, Sum.inl (Value.int (x * y)) :: st, s, k) := zev_go rfl rfl
theorem zr_X2_putLine_75 (ls : zLs) (st : List zAV) (s : zAS) (k : Nat × Nat) (r v0 : zAV) (h : zcok zEC 3 0 0 (zR_X2_putLine).cells (zR_X2_putLine).slots r st k) : zev zk_X2_putLine (75, ls, v0 :: r :: st, s, k) = zret zk_X2_putLine 78 ls st (k.1 + 0, k.2 + 0) (m_X3_rest [r, v0] s) := zf_callV (as := [v0]) 1 rfl rfl h
theorem zr_X2_putLine_78 (ls : zLs) (st : List zAV) (s : zAS) (k : Nat × Nat) (r v0 v1 v2 : zAV) (h : zcok zEC 4 0 0 (zR_X2_putLine).cells (zR_X2_putLine).slots r st k) : zev zk_X2_putLine (78, ls, v2 :: v1 :: v0 :: r :: st, s, k) = zret zk_X2_putLine 81 ls st (k.1 + 0, k.2 + 0) (m_X4_put [r, v0, v1, v2] s) := zf_callV (as := [v2, v1, v0]) 3 rfl rfl h
theorem zr_X2_putLine_81 (ls : zLs) (st : List zAV) (s : zAS) (k : Nat × Nat) : zev zk_X2_putLine (81, ls, st, s, k) = zev zk_X2_putLine (82, ls, Sum.inl (Value.int (1)) :: st, s, k) := zev_go rfl rfl
theorem zr_X2_putLine_82 (ls : zLs) (s : zAS) (k : Nat × Nat) (x : Int32) (hx : x = 0 ∨ x = 1) : zev zk_X2_putLine (82, ls, [Sum.inl (Value.int x)], s, k) = some (.inl (some (Sum.inl (Value.int x))), s) := zf_retz rfl hx
/-! X2_equalPowers: PrimePlane$Compass.equalPowers(LPrimePlane$Figure;LPrimePlane$Figure;LPrimePlane$Figure;)Z -/
abbrev zR_X2_equalPowers : Room := ({ frames := 3, cells := 0, slots := 0, locals := 69 } : Room)
noncomputable def zl_X2_equalPowers : List (Nat × zOp) := [(0, z_lda 2 1), (1, z_get zEC 4 8 4), (4, z_lda 2 5), (5, z_get zEC 4 8 8), (8, z_bin (fun x y => x * y) 9), (9, z_lda 2 10), (10, z_get zEC 4 9 13), (13, z_lda 2 14), (14, z_get zEC 4 9 17), (17, z_bin (fun x y => x * y) 18), (18, z_bin (fun x y => x + y) 19), (19, z_lda 2 20), (20, z_get zEC 4 10 23), (23, z_bin (fun x y => x - y) 24), (24, z_lda 3 25), (25, z_get zEC 4 8 28), (28, z_lda 3 29), (29, z_get zEC 4 8 32), (32, z_bin (fun x y => x * y) 33), (33, z_bin (fun x y => x - y) 34), (34, z_lda 3 35), (35, z_get zEC 4 9 38), (38, z_lda 3 39), (39, z_get zEC 4 9 42), (42, z_bin (fun x y => x * y) 43), (43, z_bin (fun x y => x - y) 44), (44, z_lda 3 45), (45, z_get zEC 4 10 48), (48, z_bin (fun x y => x + y) 49), (49, z_sti 4 51), (51, z_lda 0 52), (52, z_lda 1 53), (53, z_ic (2) 54), (54, z_lda 3 55), (55, z_get zEC 4 8 58), (58, z_lda 2 59), (59, z_get zEC 4 8 62), (62, z_bin (fun x y => x - y) 63), (63, z_bin (fun x y => x * y) 64), (64, z_ic (2) 65), (65, z_lda 3 66), (66, z_get zEC 4 9 69), (69, z_lda 2 70), (70, z_get zEC 4 9 73), (73, z_bin (fun x y => x - y) 74), (74, z_bin (fun x y => x * y) 75), (75, z_ldi 4 77), (77, z_callV zEC 2 m_X2_putLine 4 0 0 (zR_X2_equalPowers).cells (zR_X2_equalPowers).slots 80), (80, z_reti true)]
noncomputable def zk_X2_equalPowers (pc : Nat) : Option zOp := zlook zl_X2_equalPowers pc
noncomputable def m_X2_equalPowers : List zAV → zAS → Option zOut := zmeth zk_X2_equalPowers 5
set_option maxRecDepth 100000 in
set_option maxHeartbeats 4000000 in
theorem zcs_X2_equalPowers {R : Room} (hR : R = zR_X2_equalPowers) : ∀ q ∈ zl_X2_equalPowers, zS zEC yX2_equalPowers.cls cX2_equalPowers 5 wsX2_equalPowers (some .boolean) R q.1 q.2 := by
  subst hR
  have hin4 : ∀ w ∈ wsX40, w ∈ wsX2_equalPowers := fun w h => List.mem_cons_of_mem _ (List.mem_append_left _ (List.mem_append_left _ (List.mem_append_right _ h)))
  refine List.forall_mem_cons.mpr ⟨zs_aload_n dX2_equalPowers_0 rfl, ?_⟩
  refine List.forall_mem_cons.mpr ⟨zs_get (ci := 4) (j := 8) (N := 13) (C := RX4) (T := TX4) (index := 64) rfl (by decide) hin4 (List.mem_of_getElem? (i := 1) rfl) dX2_equalPowers_1, ?_⟩
  refine List.forall_mem_cons.mpr ⟨zs_aload_n dX2_equalPowers_4 rfl, ?_⟩
  refine List.forall_mem_cons.mpr ⟨zs_get (ci := 4) (j := 8) (N := 13) (C := RX4) (T := TX4) (index := 64) rfl (by decide) hin4 (List.mem_of_getElem? (i := 1) rfl) dX2_equalPowers_5, ?_⟩
  refine List.forall_mem_cons.mpr ⟨zs_imul dX2_equalPowers_8, ?_⟩
  refine List.forall_mem_cons.mpr ⟨zs_aload_n dX2_equalPowers_9 rfl, ?_⟩
  refine List.forall_mem_cons.mpr ⟨zs_get (ci := 4) (j := 9) (N := 13) (C := RX4) (T := TX4) (index := 67) rfl (by decide) hin4 (List.mem_of_getElem? (i := 2) rfl) dX2_equalPowers_10, ?_⟩
  refine List.forall_mem_cons.mpr ⟨zs_aload_n dX2_equalPowers_13 rfl, ?_⟩
  refine List.forall_mem_cons.mpr ⟨zs_get (ci := 4) (j := 9) (N := 13) (C := RX4) (T := TX4) (index := 67) rfl (by decide) hin4 (List.mem_of_getElem? (i := 2) rfl) dX2_equalPowers_14, ?_⟩
  refine List.forall_mem_cons.mpr ⟨zs_imul dX2_equalPowers_17, ?_⟩
  refine List.forall_mem_cons.mpr ⟨zs_iadd dX2_equalPowers_18, ?_⟩
  refine List.forall_mem_cons.mpr ⟨zs_aload_n dX2_equalPowers_19 rfl, ?_⟩
  refine List.forall_mem_cons.mpr ⟨zs_get (ci := 4) (j := 10) (N := 13) (C := RX4) (T := TX4) (index := 100) rfl (by decide) hin4 (List.mem_of_getElem? (i := 3) rfl) dX2_equalPowers_20, ?_⟩
  refine List.forall_mem_cons.mpr ⟨zs_isub dX2_equalPowers_23, ?_⟩
  refine List.forall_mem_cons.mpr ⟨zs_aload_n dX2_equalPowers_24 rfl, ?_⟩
  refine List.forall_mem_cons.mpr ⟨zs_get (ci := 4) (j := 8) (N := 13) (C := RX4) (T := TX4) (index := 64) rfl (by decide) hin4 (List.mem_of_getElem? (i := 1) rfl) dX2_equalPowers_25, ?_⟩
  refine List.forall_mem_cons.mpr ⟨zs_aload_n dX2_equalPowers_28 rfl, ?_⟩
  refine List.forall_mem_cons.mpr ⟨zs_get (ci := 4) (j := 8) (N := 13) (C := RX4) (T := TX4) (index := 64) rfl (by decide) hin4 (List.mem_of_getElem? (i := 1) rfl) dX2_equalPowers_29, ?_⟩
  refine List.forall_mem_cons.mpr ⟨zs_imul dX2_equalPowers_32, ?_⟩
  refine List.forall_mem_cons.mpr ⟨zs_isub dX2_equalPowers_33, ?_⟩
  refine List.forall_mem_cons.mpr ⟨zs_aload_n dX2_equalPowers_34 rfl, ?_⟩
  refine List.forall_mem_cons.mpr ⟨zs_get (ci := 4) (j := 9) (N := 13) (C := RX4) (T := TX4) (index := 67) rfl (by decide) hin4 (List.mem_of_getElem? (i := 2) rfl) dX2_equalPowers_35, ?_⟩
  refine List.forall_mem_cons.mpr ⟨zs_aload_n dX2_equalPowers_38 rfl, ?_⟩
  refine List.forall_mem_cons.mpr ⟨zs_get (ci := 4) (j := 9) (N := 13) (C := RX4) (T := TX4) (index := 67) rfl (by decide) hin4 (List.mem_of_getElem? (i := 2) rfl) dX2_equalPowers_39, ?_⟩
  refine List.forall_mem_cons.mpr ⟨zs_imul dX2_equalPowers_42, ?_⟩
  refine List.forall_mem_cons.mpr ⟨zs_isub dX2_equalPowers_43, ?_⟩
  refine List.forall_mem_cons.mpr ⟨zs_aload_n dX2_equalPowers_44 rfl, ?_⟩
  refine List.forall_mem_cons.mpr ⟨zs_get (ci := 4) (j := 10) (N := 13) (C := RX4) (T := TX4) (index := 100) rfl (by decide) hin4 (List.mem_of_getElem? (i := 3) rfl) dX2_equalPowers_45, ?_⟩
  refine List.forall_mem_cons.mpr ⟨zs_iadd dX2_equalPowers_48, ?_⟩
  refine List.forall_mem_cons.mpr ⟨zs_istore dX2_equalPowers_49, ?_⟩
  refine List.forall_mem_cons.mpr ⟨zs_aload_n dX2_equalPowers_51 rfl, ?_⟩
  refine List.forall_mem_cons.mpr ⟨zs_aload_n dX2_equalPowers_52 rfl, ?_⟩
  refine List.forall_mem_cons.mpr ⟨zs_iconst dX2_equalPowers_53 (by decide), ?_⟩
  refine List.forall_mem_cons.mpr ⟨zs_aload_n dX2_equalPowers_54 rfl, ?_⟩
  refine List.forall_mem_cons.mpr ⟨zs_get (ci := 4) (j := 8) (N := 13) (C := RX4) (T := TX4) (index := 64) rfl (by decide) hin4 (List.mem_of_getElem? (i := 1) rfl) dX2_equalPowers_55, ?_⟩
  refine List.forall_mem_cons.mpr ⟨zs_aload_n dX2_equalPowers_58 rfl, ?_⟩
  refine List.forall_mem_cons.mpr ⟨zs_get (ci := 4) (j := 8) (N := 13) (C := RX4) (T := TX4) (index := 64) rfl (by decide) hin4 (List.mem_of_getElem? (i := 1) rfl) dX2_equalPowers_59, ?_⟩
  refine List.forall_mem_cons.mpr ⟨zs_isub dX2_equalPowers_62, ?_⟩
  refine List.forall_mem_cons.mpr ⟨zs_imul dX2_equalPowers_63, ?_⟩
  refine List.forall_mem_cons.mpr ⟨zs_iconst dX2_equalPowers_64 (by decide), ?_⟩
  refine List.forall_mem_cons.mpr ⟨zs_aload_n dX2_equalPowers_65 rfl, ?_⟩
  refine List.forall_mem_cons.mpr ⟨zs_get (ci := 4) (j := 9) (N := 13) (C := RX4) (T := TX4) (index := 67) rfl (by decide) hin4 (List.mem_of_getElem? (i := 2) rfl) dX2_equalPowers_66, ?_⟩
  refine List.forall_mem_cons.mpr ⟨zs_aload_n dX2_equalPowers_69 rfl, ?_⟩
  refine List.forall_mem_cons.mpr ⟨zs_get (ci := 4) (j := 9) (N := 13) (C := RX4) (T := TX4) (index := 67) rfl (by decide) hin4 (List.mem_of_getElem? (i := 2) rfl) dX2_equalPowers_70, ?_⟩
  refine List.forall_mem_cons.mpr ⟨zs_isub dX2_equalPowers_73, ?_⟩
  refine List.forall_mem_cons.mpr ⟨zs_imul dX2_equalPowers_74, ?_⟩
  refine List.forall_mem_cons.mpr ⟨zs_iload dX2_equalPowers_75, ?_⟩
  refine List.forall_mem_cons.mpr ⟨zs_callV (ci := 2) (rm := zR_X2_putLine) (n := 4) rfl zM_X2_putLine gX2_equalPowers_X2_putLine rfl (by decide +kernel) ⟨by decide, by decide⟩ dX2_equalPowers_77, ?_⟩
  refine List.forall_mem_cons.mpr ⟨zs_reti (ty := .boolean) rfl (fun x h => (znz x h).1) dX2_equalPowers_80, ?_⟩
  exact fun _ h => absurd h List.not_mem_nil
theorem zM_X2_equalPowers : zMeets zEC yX2_equalPowers wsX2_equalPowers zR_X2_equalPowers m_X2_equalPowers := zmeth_M zECok (zlook_all (zcs_X2_equalPowers rfl)) (by decide +kernel) rfl
theorem zr_X2_equalPowers_0 (a0 a1 a3 a4 : Option zAV) (st : List zAV) (s : zAS) (k : Nat × Nat) (o : Nat × Nat) : zev zk_X2_equalPowers (0, [a0, a1, some (Sum.inr o), a3, a4], st, s, k) = zev zk_X2_equalPowers (1, [a0, a1, some (Sum.inr o), a3, a4], Sum.inr o :: st, s, k) := zev_go rfl rfl
theorem zr_X2_equalPowers_1 (ls : zLs) (st : List zAV) (s : zAS) (k : Nat × Nat) (o i : Nat) : zev zk_X2_equalPowers (1, ls, Sum.inr (o, i) :: st, s, k) = zpush zk_X2_equalPowers 4 ls st s k (zgv zEC 4 8 o i s.1) := zf_get rfl
theorem zr_X2_equalPowers_4 (a0 a1 a3 a4 : Option zAV) (st : List zAV) (s : zAS) (k : Nat × Nat) (o : Nat × Nat) : zev zk_X2_equalPowers (4, [a0, a1, some (Sum.inr o), a3, a4], st, s, k) = zev zk_X2_equalPowers (5, [a0, a1, some (Sum.inr o), a3, a4], Sum.inr o :: st, s, k) := zev_go rfl rfl
theorem zr_X2_equalPowers_5 (ls : zLs) (st : List zAV) (s : zAS) (k : Nat × Nat) (o i : Nat) : zev zk_X2_equalPowers (5, ls, Sum.inr (o, i) :: st, s, k) = zpush zk_X2_equalPowers 8 ls st s k (zgv zEC 4 8 o i s.1) := zf_get rfl
theorem zr_X2_equalPowers_8 (ls : zLs) (st : List zAV) (s : zAS) (k : Nat × Nat) (x y : Int32) : zev zk_X2_equalPowers (8, ls, Sum.inl (Value.int y) :: Sum.inl (Value.int x) :: st, s, k) = zev zk_X2_equalPowers (9, ls, Sum.inl (Value.int (x * y)) :: st, s, k) := zev_go rfl rfl
theorem zr_X2_equalPowers_9 (a0 a1 a3 a4 : Option zAV) (st : List zAV) (s : zAS) (k : Nat × Nat) (o : Nat × Nat) : zev zk_X2_equalPowers (9, [a0, a1, some (Sum.inr o), a3, a4], st, s, k) = zev zk_X2_equalPowers (10, [a0, a1, some (Sum.inr o), a3, a4], Sum.inr o :: st, s, k) := zev_go rfl rfl
theorem zr_X2_equalPowers_10 (ls : zLs) (st : List zAV) (s : zAS) (k : Nat × Nat) (o i : Nat) : zev zk_X2_equalPowers (10, ls, Sum.inr (o, i) :: st, s, k) = zpush zk_X2_equalPowers 13 ls st s k (zgv zEC 4 9 o i s.1) := zf_get rfl
theorem zr_X2_equalPowers_13 (a0 a1 a3 a4 : Option zAV) (st : List zAV) (s : zAS) (k : Nat × Nat) (o : Nat × Nat) : zev zk_X2_equalPowers (13, [a0, a1, some (Sum.inr o), a3, a4], st, s, k) = zev zk_X2_equalPowers (14, [a0, a1, some (Sum.inr o), a3, a4], Sum.inr o :: st, s, k) := zev_go rfl rfl
theorem zr_X2_equalPowers_14 (ls : zLs) (st : List zAV) (s : zAS) (k : Nat × Nat) (o i : Nat) : zev zk_X2_equalPowers (14, ls, Sum.inr (o, i) :: st, s, k) = zpush zk_X2_equalPowers 17 ls st s k (zgv zEC 4 9 o i s.1) := zf_get rfl
theorem zr_X2_equalPowers_17 (ls : zLs) (st : List zAV) (s : zAS) (k : Nat × Nat) (x y : Int32) : zev zk_X2_equalPowers (17, ls, Sum.inl (Value.int y) :: Sum.inl (Value.int x) :: st, s, k) = zev zk_X2_equalPowers (18, ls, Sum.inl (Value.int (x * y)) :: st, s, k) := zev_go rfl rfl
theorem zr_X2_equalPowers_18 (ls : zLs) (st : List zAV) (s : zAS) (k : Nat × Nat) (x y : Int32) : zev zk_X2_equalPowers (18, ls, Sum.inl (Value.int y) :: Sum.inl (Value.int x) :: st, s, k) = zev zk_X2_equalPowers (19, ls, Sum.inl (Value.int (x + y)) :: st, s, k) := zev_go rfl rfl
theorem zr_X2_equalPowers_19 (a0 a1 a3 a4 : Option zAV) (st : List zAV) (s : zAS) (k : Nat × Nat) (o : Nat × Nat) : zev zk_X2_equalPowers (19, [a0, a1, some (Sum.inr o), a3, a4], st, s, k) = zev zk_X2_equalPowers (20, [a0, a1, some (Sum.inr o), a3, a4], Sum.inr o :: st, s, k) := zev_go rfl rfl
theorem zr_X2_equalPowers_20 (ls : zLs) (st : List zAV) (s : zAS) (k : Nat × Nat) (o i : Nat) : zev zk_X2_equalPowers (20, ls, Sum.inr (o, i) :: st, s, k) = zpush zk_X2_equalPowers 23 ls st s k (zgv zEC 4 10 o i s.1) := zf_get rfl
theorem zr_X2_equalPowers_23 (ls : zLs) (st : List zAV) (s : zAS) (k : Nat × Nat) (x y : Int32) : zev zk_X2_equalPowers (23, ls, Sum.inl (Value.int y) :: Sum.inl (Value.int x) :: st, s, k) = zev zk_X2_equalPowers (24, ls, Sum.inl (Value.int (x - y)) :: st, s, k) := zev_go rfl rfl
theorem zr_X2_equalPowers_24 (a0 a1 a2 a4 : Option zAV) (st : List zAV) (s : zAS) (k : Nat × Nat) (o : Nat × Nat) : zev zk_X2_equalPowers (24, [a0, a1, a2, some (Sum.inr o), a4], st, s, k) = zev zk_X2_equalPowers (25, [a0, a1, a2, some (Sum.inr o), a4], Sum.inr o :: st, s, k) := zev_go rfl rfl
theorem zr_X2_equalPowers_25 (ls : zLs) (st : List zAV) (s : zAS) (k : Nat × Nat) (o i : Nat) : zev zk_X2_equalPowers (25, ls, Sum.inr (o, i) :: st, s, k) = zpush zk_X2_equalPowers 28 ls st s k (zgv zEC 4 8 o i s.1) := zf_get rfl
theorem zr_X2_equalPowers_28 (a0 a1 a2 a4 : Option zAV) (st : List zAV) (s : zAS) (k : Nat × Nat) (o : Nat × Nat) : zev zk_X2_equalPowers (28, [a0, a1, a2, some (Sum.inr o), a4], st, s, k) = zev zk_X2_equalPowers (29, [a0, a1, a2, some (Sum.inr o), a4], Sum.inr o :: st, s, k) := zev_go rfl rfl
theorem zr_X2_equalPowers_29 (ls : zLs) (st : List zAV) (s : zAS) (k : Nat × Nat) (o i : Nat) : zev zk_X2_equalPowers (29, ls, Sum.inr (o, i) :: st, s, k) = zpush zk_X2_equalPowers 32 ls st s k (zgv zEC 4 8 o i s.1) := zf_get rfl
theorem zr_X2_equalPowers_32 (ls : zLs) (st : List zAV) (s : zAS) (k : Nat × Nat) (x y : Int32) : zev zk_X2_equalPowers (32, ls, Sum.inl (Value.int y) :: Sum.inl (Value.int x) :: st, s, k) = zev zk_X2_equalPowers (33, ls, Sum.inl (Value.int (x * y)) :: st, s, k) := zev_go rfl rfl
theorem zr_X2_equalPowers_33 (ls : zLs) (st : List zAV) (s : zAS) (k : Nat × Nat) (x y : Int32) : zev zk_X2_equalPowers (33, ls, Sum.inl (Value.int y) :: Sum.inl (Value.int x) :: st, s, k) = zev zk_X2_equalPowers (34, ls, Sum.inl (Value.int (x - y)) :: st, s, k) := zev_go rfl rfl
theorem zr_X2_equalPowers_34 (a0 a1 a2 a4 : Option zAV) (st : List zAV) (s : zAS) (k : Nat × Nat) (o : Nat × Nat) : zev zk_X2_equalPowers (34, [a0, a1, a2, some (Sum.inr o), a4], st, s, k) = zev zk_X2_equalPowers (35, [a0, a1, a2, some (Sum.inr o), a4], Sum.inr o :: st, s, k) := zev_go rfl rfl
theorem zr_X2_equalPowers_35 (ls : zLs) (st : List zAV) (s : zAS) (k : Nat × Nat) (o i : Nat) : zev zk_X2_equalPowers (35, ls, Sum.inr (o, i) :: st, s, k) = zpush zk_X2_equalPowers 38 ls st s k (zgv zEC 4 9 o i s.1) := zf_get rfl
theorem zr_X2_equalPowers_38 (a0 a1 a2 a4 : Option zAV) (st : List zAV) (s : zAS) (k : Nat × Nat) (o : Nat × Nat) : zev zk_X2_equalPowers (38, [a0, a1, a2, some (Sum.inr o), a4], st, s, k) = zev zk_X2_equalPowers (39, [a0, a1, a2, some (Sum.inr o), a4], Sum.inr o :: st, s, k) := zev_go rfl rfl
theorem zr_X2_equalPowers_39 (ls : zLs) (st : List zAV) (s : zAS) (k : Nat × Nat) (o i : Nat) : zev zk_X2_equalPowers (39, ls, Sum.inr (o, i) :: st, s, k) = zpush zk_X2_equalPowers 42 ls st s k (zgv zEC 4 9 o i s.1) := zf_get rfl
theorem zr_X2_equalPowers_42 (ls : zLs) (st : List zAV) (s : zAS) (k : Nat × Nat) (x y : Int32) : zev zk_X2_equalPowers (42, ls, Sum.inl (Value.int y) :: Sum.inl (Value.int x) :: st, s, k) = zev zk_X2_equalPowers (43, ls, Sum.inl (Value.int (x * y)) :: st, s, k) := zev_go rfl rfl
theorem zr_X2_equalPowers_43 (ls : zLs) (st : List zAV) (s : zAS) (k : Nat × Nat) (x y : Int32) : zev zk_X2_equalPowers (43, ls, Sum.inl (Value.int y) :: Sum.inl (Value.int x) :: st, s, k) = zev zk_X2_equalPowers (44, ls, Sum.inl (Value.int (x - y)) :: st, s, k) := zev_go rfl rfl
theorem zr_X2_equalPowers_44 (a0 a1 a2 a4 : Option zAV) (st : List zAV) (s : zAS) (k : Nat × Nat) (o : Nat × Nat) : zev zk_X2_equalPowers (44, [a0, a1, a2, some (Sum.inr o), a4], st, s, k) = zev zk_X2_equalPowers (45, [a0, a1, a2, some (Sum.inr o), a4], Sum.inr o :: st, s, k) := zev_go rfl rfl
theorem zr_X2_equalPowers_45 (ls : zLs) (st : List zAV) (s : zAS) (k : Nat × Nat) (o i : Nat) : zev zk_X2_equalPowers (45, ls, Sum.inr (o, i) :: st, s, k) = zpush zk_X2_equalPowers 48 ls st s k (zgv zEC 4 10 o i s.1) := zf_get rfl
theorem zr_X2_equalPowers_48 (ls : zLs) (st : List zAV) (s : zAS) (k : Nat × Nat) (x y : Int32) : zev zk_X2_equalPowers (48, ls, Sum.inl (Value.int y) :: Sum.inl (Value.int x) :: st, s, k) = zev zk_X2_equalPowers (49, ls, Sum.inl (Value.int (x + y)) :: st, s, k) := zev_go rfl rfl
theorem zr_X2_equalPowers_49 (a0 a1 a2 a3 a4 : Option zAV) (st : List zAV) (s : zAS) (k : Nat × Nat) (x : Int32) : zev zk_X2_equalPowers (49, [a0, a1, a2, a3, a4], Sum.inl (Value.int x) :: st, s, k) = zev zk_X2_equalPowers (51, [a0, a1, a2, zk1 a3, some (Sum.inl (Value.int x))], st, s, k) := zev_go rfl rfl
theorem zr_X2_equalPowers_51 (a1 a2 a3 a4 : Option zAV) (st : List zAV) (s : zAS) (k : Nat × Nat) (o : Nat × Nat) : zev zk_X2_equalPowers (51, [some (Sum.inr o), a1, a2, a3, a4], st, s, k) = zev zk_X2_equalPowers (52, [some (Sum.inr o), a1, a2, a3, a4], Sum.inr o :: st, s, k) := zev_go rfl rfl
theorem zr_X2_equalPowers_52 (a0 a2 a3 a4 : Option zAV) (st : List zAV) (s : zAS) (k : Nat × Nat) (o : Nat × Nat) : zev zk_X2_equalPowers (52, [a0, some (Sum.inr o), a2, a3, a4], st, s, k) = zev zk_X2_equalPowers (53, [a0, some (Sum.inr o), a2, a3, a4], Sum.inr o :: st, s, k) := zev_go rfl rfl
theorem zr_X2_equalPowers_53 (ls : zLs) (st : List zAV) (s : zAS) (k : Nat × Nat) : zev zk_X2_equalPowers (53, ls, st, s, k) = zev zk_X2_equalPowers (54, ls, Sum.inl (Value.int (2)) :: st, s, k) := zev_go rfl rfl
theorem zr_X2_equalPowers_54 (a0 a1 a2 a4 : Option zAV) (st : List zAV) (s : zAS) (k : Nat × Nat) (o : Nat × Nat) : zev zk_X2_equalPowers (54, [a0, a1, a2, some (Sum.inr o), a4], st, s, k) = zev zk_X2_equalPowers (55, [a0, a1, a2, some (Sum.inr o), a4], Sum.inr o :: st, s, k) := zev_go rfl rfl
theorem zr_X2_equalPowers_55 (ls : zLs) (st : List zAV) (s : zAS) (k : Nat × Nat) (o i : Nat) : zev zk_X2_equalPowers (55, ls, Sum.inr (o, i) :: st, s, k) = zpush zk_X2_equalPowers 58 ls st s k (zgv zEC 4 8 o i s.1) := zf_get rfl
theorem zr_X2_equalPowers_58 (a0 a1 a3 a4 : Option zAV) (st : List zAV) (s : zAS) (k : Nat × Nat) (o : Nat × Nat) : zev zk_X2_equalPowers (58, [a0, a1, some (Sum.inr o), a3, a4], st, s, k) = zev zk_X2_equalPowers (59, [a0, a1, some (Sum.inr o), a3, a4], Sum.inr o :: st, s, k) := zev_go rfl rfl
theorem zr_X2_equalPowers_59 (ls : zLs) (st : List zAV) (s : zAS) (k : Nat × Nat) (o i : Nat) : zev zk_X2_equalPowers (59, ls, Sum.inr (o, i) :: st, s, k) = zpush zk_X2_equalPowers 62 ls st s k (zgv zEC 4 8 o i s.1) := zf_get rfl
theorem zr_X2_equalPowers_62 (ls : zLs) (st : List zAV) (s : zAS) (k : Nat × Nat) (x y : Int32) : zev zk_X2_equalPowers (62, ls, Sum.inl (Value.int y) :: Sum.inl (Value.int x) :: st, s, k) = zev zk_X2_equalPowers (63, ls, Sum.inl (Value.int (x - y)) :: st, s, k) := zev_go rfl rfl
theorem zr_X2_equalPowers_63 (ls : zLs) (st : List zAV) (s : zAS) (k : Nat × Nat) (x y : Int32) : zev zk_X2_equalPowers (63, ls, Sum.inl (Value.int y) :: Sum.inl (Value.int x) :: st, s, k) = zev zk_X2_equalPowers (64, ls, Sum.inl (Value.int (x * y)) :: st, s, k) := zev_go rfl rfl
theorem zr_X2_equalPowers_64 (ls : zLs) (st : List zAV) (s : zAS) (k : Nat × Nat) : zev zk_X2_equalPowers (64, ls, st, s, k) = zev zk_X2_equalPowers (65, ls, Sum.inl (Value.int (2)) :: st, s, k) := zev_go rfl rfl
theorem zr_X2_equalPowers_65 (a0 a1 a2 a4 : Option zAV) (st : List zAV) (s : zAS) (k : Nat × Nat) (o : Nat × Nat) : zev zk_X2_equalPowers (65, [a0, a1, a2, some (Sum.inr o), a4], st, s, k) = zev zk_X2_equalPowers (66, [a0, a1, a2, some (Sum.inr o), a4], Sum.inr o :: st, s, k) := zev_go rfl rfl
theorem zr_X2_equalPowers_66 (ls : zLs) (st : List zAV) (s : zAS) (k : Nat × Nat) (o i : Nat) : zev zk_X2_equalPowers (66, ls, Sum.inr (o, i) :: st, s, k) = zpush zk_X2_equalPowers 69 ls st s k (zgv zEC 4 9 o i s.1) := zf_get rfl
theorem zr_X2_equalPowers_69 (a0 a1 a3 a4 : Option zAV) (st : List zAV) (s : zAS) (k : Nat × Nat) (o : Nat × Nat) : zev zk_X2_equalPowers (69, [a0, a1, some (Sum.inr o), a3, a4], st, s, k) = zev zk_X2_equalPowers (70, [a0, a1, some (Sum.inr o), a3, a4], Sum.inr o :: st, s, k) := zev_go rfl rfl
theorem zr_X2_equalPowers_70 (ls : zLs) (st : List zAV) (s : zAS) (k : Nat × Nat) (o i : Nat) : zev zk_X2_equalPowers (70, ls, Sum.inr (o, i) :: st, s, k) = zpush zk_X2_equalPowers 73 ls st s k (zgv zEC 4 9 o i s.1) := zf_get rfl
theorem zr_X2_equalPowers_73 (ls : zLs) (st : List zAV) (s : zAS) (k : Nat × Nat) (x y : Int32) : zev zk_X2_equalPowers (73, ls, Sum.inl (Value.int y) :: Sum.inl (Value.int x) :: st, s, k) = zev zk_X2_equalPowers (74, ls, Sum.inl (Value.int (x - y)) :: st, s, k) := zev_go rfl rfl
theorem zr_X2_equalPowers_74 (ls : zLs) (st : List zAV) (s : zAS) (k : Nat × Nat) (x y : Int32) : zev zk_X2_equalPowers (74, ls, Sum.inl (Value.int y) :: Sum.inl (Value.int x) :: st, s, k) = zev zk_X2_equalPowers (75, ls, Sum.inl (Value.int (x * y)) :: st, s, k) := zev_go rfl rfl
theorem zr_X2_equalPowers_75 (a0 a1 a2 a3 : Option zAV) (st : List zAV) (s : zAS) (k : Nat × Nat) (x : Int32) : zev zk_X2_equalPowers (75, [a0, a1, a2, a3, some (Sum.inl (Value.int x))], st, s, k) = zev zk_X2_equalPowers (77, [a0, a1, a2, a3, some (Sum.inl (Value.int x))], Sum.inl (Value.int x) :: st, s, k) := zev_go rfl rfl
theorem zr_X2_equalPowers_77 (ls : zLs) (st : List zAV) (s : zAS) (k : Nat × Nat) (r v0 v1 v2 v3 : zAV) (h : zcok zEC 2 0 0 (zR_X2_equalPowers).cells (zR_X2_equalPowers).slots r st k) : zev zk_X2_equalPowers (77, ls, v3 :: v2 :: v1 :: v0 :: r :: st, s, k) = zret zk_X2_equalPowers 80 ls st (k.1 + 0, k.2 + 0) (m_X2_putLine [r, v0, v1, v2, v3] s) := zf_callV (as := [v3, v2, v1, v0]) 4 rfl rfl h
theorem zr_X2_equalPowers_80 (ls : zLs) (s : zAS) (k : Nat × Nat) (x : Int32) (hx : x = 0 ∨ x = 1) : zev zk_X2_equalPowers (80, ls, [Sum.inl (Value.int x)], s, k) = some (.inl (some (Sum.inl (Value.int x))), s) := zf_retz rfl hx
/-! X2_middle: PrimePlane$Compass.middle(LPrimePlane$Figure;LPrimePlane$Figure;LPrimePlane$Figure;)Z -/
abbrev zR_X2_middle : Room := ({ frames := 3, cells := 0, slots := 0, locals := 66 } : Room)
noncomputable def zl_X2_middle : List (Nat × zOp) := [(0, z_lda 0 1), (1, z_lda 1 2), (2, z_lda 0 3), (3, z_get zEC 2 0 6), (6, z_lda 2 7), (7, z_get zEC 4 8 10), (10, z_lda 3 11), (11, z_get zEC 4 8 14), (14, z_bin (fun x y => x + y) 15), (15, z_ic (2) 16), (16, z_callV zEC 3 m_X3_ratio 2 0 0 (zR_X2_middle).cells (zR_X2_middle).slots 19), (19, z_lda 0 20), (20, z_get zEC 2 0 23), (23, z_lda 2 24), (24, z_get zEC 4 9 27), (27, z_lda 3 28), (28, z_get zEC 4 9 31), (31, z_bin (fun x y => x + y) 32), (32, z_ic (2) 33), (33, z_callV zEC 3 m_X3_ratio 2 0 0 (zR_X2_middle).cells (zR_X2_middle).slots 36), (36, z_callV zEC 2 m_X2_putPoint 3 0 0 (zR_X2_middle).cells (zR_X2_middle).slots 39), (39, z_reti true)]
noncomputable def zk_X2_middle (pc : Nat) : Option zOp := zlook zl_X2_middle pc
noncomputable def m_X2_middle : List zAV → zAS → Option zOut := zmeth zk_X2_middle 4
set_option maxRecDepth 100000 in
set_option maxHeartbeats 4000000 in
theorem zcs_X2_middle {R : Room} (hR : R = zR_X2_middle) : ∀ q ∈ zl_X2_middle, zS zEC yX2_middle.cls cX2_middle 4 wsX2_middle (some .boolean) R q.1 q.2 := by
  subst hR
  have hin2 : ∀ w ∈ wsX20, w ∈ wsX2_middle := fun w h => List.mem_cons_of_mem _ (List.mem_append_left _ (List.mem_append_left _ (List.mem_append_right _ h)))
  have hin4 : ∀ w ∈ wsX40, w ∈ wsX2_middle := fun w h => List.mem_cons_of_mem _ (List.mem_append_left _ (List.mem_append_right _ h))
  refine List.forall_mem_cons.mpr ⟨zs_aload_n dX2_middle_0 rfl, ?_⟩
  refine List.forall_mem_cons.mpr ⟨zs_aload_n dX2_middle_1 rfl, ?_⟩
  refine List.forall_mem_cons.mpr ⟨zs_aload_n dX2_middle_2 rfl, ?_⟩
  refine List.forall_mem_cons.mpr ⟨zs_get (ci := 2) (j := 0) (N := 2) (C := RX2) (T := TX2) (index := 12) rfl (by decide) hin2 (List.mem_of_getElem? (i := 1) rfl) dX2_middle_3, ?_⟩
  refine List.forall_mem_cons.mpr ⟨zs_aload_n dX2_middle_6 rfl, ?_⟩
  refine List.forall_mem_cons.mpr ⟨zs_get (ci := 4) (j := 8) (N := 13) (C := RX4) (T := TX4) (index := 64) rfl (by decide) hin4 (List.mem_of_getElem? (i := 2) rfl) dX2_middle_7, ?_⟩
  refine List.forall_mem_cons.mpr ⟨zs_aload_n dX2_middle_10 rfl, ?_⟩
  refine List.forall_mem_cons.mpr ⟨zs_get (ci := 4) (j := 8) (N := 13) (C := RX4) (T := TX4) (index := 64) rfl (by decide) hin4 (List.mem_of_getElem? (i := 2) rfl) dX2_middle_11, ?_⟩
  refine List.forall_mem_cons.mpr ⟨zs_iadd dX2_middle_14, ?_⟩
  refine List.forall_mem_cons.mpr ⟨zs_iconst dX2_middle_15 (by decide), ?_⟩
  refine List.forall_mem_cons.mpr ⟨zs_callV (ci := 3) (rm := zR_X3_ratio) (n := 2) rfl zM_X3_ratio gX2_middle_X3_ratio rfl (by decide +kernel) ⟨by decide, by decide⟩ dX2_middle_16, ?_⟩
  refine List.forall_mem_cons.mpr ⟨zs_aload_n dX2_middle_19 rfl, ?_⟩
  refine List.forall_mem_cons.mpr ⟨zs_get (ci := 2) (j := 0) (N := 2) (C := RX2) (T := TX2) (index := 12) rfl (by decide) hin2 (List.mem_of_getElem? (i := 1) rfl) dX2_middle_20, ?_⟩
  refine List.forall_mem_cons.mpr ⟨zs_aload_n dX2_middle_23 rfl, ?_⟩
  refine List.forall_mem_cons.mpr ⟨zs_get (ci := 4) (j := 9) (N := 13) (C := RX4) (T := TX4) (index := 67) rfl (by decide) hin4 (List.mem_of_getElem? (i := 3) rfl) dX2_middle_24, ?_⟩
  refine List.forall_mem_cons.mpr ⟨zs_aload_n dX2_middle_27 rfl, ?_⟩
  refine List.forall_mem_cons.mpr ⟨zs_get (ci := 4) (j := 9) (N := 13) (C := RX4) (T := TX4) (index := 67) rfl (by decide) hin4 (List.mem_of_getElem? (i := 3) rfl) dX2_middle_28, ?_⟩
  refine List.forall_mem_cons.mpr ⟨zs_iadd dX2_middle_31, ?_⟩
  refine List.forall_mem_cons.mpr ⟨zs_iconst dX2_middle_32 (by decide), ?_⟩
  refine List.forall_mem_cons.mpr ⟨zs_callV (ci := 3) (rm := zR_X3_ratio) (n := 2) rfl zM_X3_ratio gX2_middle_X3_ratio rfl (by decide +kernel) ⟨by decide, by decide⟩ dX2_middle_33, ?_⟩
  refine List.forall_mem_cons.mpr ⟨zs_callV (ci := 2) (rm := zR_X2_putPoint) (n := 3) rfl zM_X2_putPoint gX2_middle_X2_putPoint rfl (by decide +kernel) ⟨by decide, by decide⟩ dX2_middle_36, ?_⟩
  refine List.forall_mem_cons.mpr ⟨zs_reti (ty := .boolean) rfl (fun x h => (znz x h).1) dX2_middle_39, ?_⟩
  exact fun _ h => absurd h List.not_mem_nil
theorem zM_X2_middle : zMeets zEC yX2_middle wsX2_middle zR_X2_middle m_X2_middle := zmeth_M zECok (zlook_all (zcs_X2_middle rfl)) (by decide +kernel) rfl
theorem zr_X2_middle_0 (a1 a2 a3 : Option zAV) (st : List zAV) (s : zAS) (k : Nat × Nat) (o : Nat × Nat) : zev zk_X2_middle (0, [some (Sum.inr o), a1, a2, a3], st, s, k) = zev zk_X2_middle (1, [some (Sum.inr o), a1, a2, a3], Sum.inr o :: st, s, k) := zev_go rfl rfl
theorem zr_X2_middle_1 (a0 a2 a3 : Option zAV) (st : List zAV) (s : zAS) (k : Nat × Nat) (o : Nat × Nat) : zev zk_X2_middle (1, [a0, some (Sum.inr o), a2, a3], st, s, k) = zev zk_X2_middle (2, [a0, some (Sum.inr o), a2, a3], Sum.inr o :: st, s, k) := zev_go rfl rfl
theorem zr_X2_middle_2 (a1 a2 a3 : Option zAV) (st : List zAV) (s : zAS) (k : Nat × Nat) (o : Nat × Nat) : zev zk_X2_middle (2, [some (Sum.inr o), a1, a2, a3], st, s, k) = zev zk_X2_middle (3, [some (Sum.inr o), a1, a2, a3], Sum.inr o :: st, s, k) := zev_go rfl rfl
theorem zr_X2_middle_3 (ls : zLs) (st : List zAV) (s : zAS) (k : Nat × Nat) (o i : Nat) : zev zk_X2_middle (3, ls, Sum.inr (o, i) :: st, s, k) = zpush zk_X2_middle 6 ls st s k (zgv zEC 2 0 o i s.1) := zf_get rfl
theorem zr_X2_middle_6 (a0 a1 a3 : Option zAV) (st : List zAV) (s : zAS) (k : Nat × Nat) (o : Nat × Nat) : zev zk_X2_middle (6, [a0, a1, some (Sum.inr o), a3], st, s, k) = zev zk_X2_middle (7, [a0, a1, some (Sum.inr o), a3], Sum.inr o :: st, s, k) := zev_go rfl rfl
theorem zr_X2_middle_7 (ls : zLs) (st : List zAV) (s : zAS) (k : Nat × Nat) (o i : Nat) : zev zk_X2_middle (7, ls, Sum.inr (o, i) :: st, s, k) = zpush zk_X2_middle 10 ls st s k (zgv zEC 4 8 o i s.1) := zf_get rfl
theorem zr_X2_middle_10 (a0 a1 a2 : Option zAV) (st : List zAV) (s : zAS) (k : Nat × Nat) (o : Nat × Nat) : zev zk_X2_middle (10, [a0, a1, a2, some (Sum.inr o)], st, s, k) = zev zk_X2_middle (11, [a0, a1, a2, some (Sum.inr o)], Sum.inr o :: st, s, k) := zev_go rfl rfl
theorem zr_X2_middle_11 (ls : zLs) (st : List zAV) (s : zAS) (k : Nat × Nat) (o i : Nat) : zev zk_X2_middle (11, ls, Sum.inr (o, i) :: st, s, k) = zpush zk_X2_middle 14 ls st s k (zgv zEC 4 8 o i s.1) := zf_get rfl
theorem zr_X2_middle_14 (ls : zLs) (st : List zAV) (s : zAS) (k : Nat × Nat) (x y : Int32) : zev zk_X2_middle (14, ls, Sum.inl (Value.int y) :: Sum.inl (Value.int x) :: st, s, k) = zev zk_X2_middle (15, ls, Sum.inl (Value.int (x + y)) :: st, s, k) := zev_go rfl rfl
theorem zr_X2_middle_15 (ls : zLs) (st : List zAV) (s : zAS) (k : Nat × Nat) : zev zk_X2_middle (15, ls, st, s, k) = zev zk_X2_middle (16, ls, Sum.inl (Value.int (2)) :: st, s, k) := zev_go rfl rfl
theorem zr_X2_middle_16 (ls : zLs) (st : List zAV) (s : zAS) (k : Nat × Nat) (r v0 v1 : zAV) (h : zcok zEC 3 0 0 (zR_X2_middle).cells (zR_X2_middle).slots r st k) : zev zk_X2_middle (16, ls, v1 :: v0 :: r :: st, s, k) = zret zk_X2_middle 19 ls st (k.1 + 0, k.2 + 0) (m_X3_ratio [r, v0, v1] s) := zf_callV (as := [v1, v0]) 2 rfl rfl h
theorem zr_X2_middle_19 (a1 a2 a3 : Option zAV) (st : List zAV) (s : zAS) (k : Nat × Nat) (o : Nat × Nat) : zev zk_X2_middle (19, [some (Sum.inr o), a1, a2, a3], st, s, k) = zev zk_X2_middle (20, [some (Sum.inr o), a1, a2, a3], Sum.inr o :: st, s, k) := zev_go rfl rfl
theorem zr_X2_middle_20 (ls : zLs) (st : List zAV) (s : zAS) (k : Nat × Nat) (o i : Nat) : zev zk_X2_middle (20, ls, Sum.inr (o, i) :: st, s, k) = zpush zk_X2_middle 23 ls st s k (zgv zEC 2 0 o i s.1) := zf_get rfl
theorem zr_X2_middle_23 (a0 a1 a3 : Option zAV) (st : List zAV) (s : zAS) (k : Nat × Nat) (o : Nat × Nat) : zev zk_X2_middle (23, [a0, a1, some (Sum.inr o), a3], st, s, k) = zev zk_X2_middle (24, [a0, a1, some (Sum.inr o), a3], Sum.inr o :: st, s, k) := zev_go rfl rfl
theorem zr_X2_middle_24 (ls : zLs) (st : List zAV) (s : zAS) (k : Nat × Nat) (o i : Nat) : zev zk_X2_middle (24, ls, Sum.inr (o, i) :: st, s, k) = zpush zk_X2_middle 27 ls st s k (zgv zEC 4 9 o i s.1) := zf_get rfl
theorem zr_X2_middle_27 (a0 a1 a2 : Option zAV) (st : List zAV) (s : zAS) (k : Nat × Nat) (o : Nat × Nat) : zev zk_X2_middle (27, [a0, a1, a2, some (Sum.inr o)], st, s, k) = zev zk_X2_middle (28, [a0, a1, a2, some (Sum.inr o)], Sum.inr o :: st, s, k) := zev_go rfl rfl
theorem zr_X2_middle_28 (ls : zLs) (st : List zAV) (s : zAS) (k : Nat × Nat) (o i : Nat) : zev zk_X2_middle (28, ls, Sum.inr (o, i) :: st, s, k) = zpush zk_X2_middle 31 ls st s k (zgv zEC 4 9 o i s.1) := zf_get rfl
theorem zr_X2_middle_31 (ls : zLs) (st : List zAV) (s : zAS) (k : Nat × Nat) (x y : Int32) : zev zk_X2_middle (31, ls, Sum.inl (Value.int y) :: Sum.inl (Value.int x) :: st, s, k) = zev zk_X2_middle (32, ls, Sum.inl (Value.int (x + y)) :: st, s, k) := zev_go rfl rfl
theorem zr_X2_middle_32 (ls : zLs) (st : List zAV) (s : zAS) (k : Nat × Nat) : zev zk_X2_middle (32, ls, st, s, k) = zev zk_X2_middle (33, ls, Sum.inl (Value.int (2)) :: st, s, k) := zev_go rfl rfl
theorem zr_X2_middle_33 (ls : zLs) (st : List zAV) (s : zAS) (k : Nat × Nat) (r v0 v1 : zAV) (h : zcok zEC 3 0 0 (zR_X2_middle).cells (zR_X2_middle).slots r st k) : zev zk_X2_middle (33, ls, v1 :: v0 :: r :: st, s, k) = zret zk_X2_middle 36 ls st (k.1 + 0, k.2 + 0) (m_X3_ratio [r, v0, v1] s) := zf_callV (as := [v1, v0]) 2 rfl rfl h
theorem zr_X2_middle_36 (ls : zLs) (st : List zAV) (s : zAS) (k : Nat × Nat) (r v0 v1 v2 : zAV) (h : zcok zEC 2 0 0 (zR_X2_middle).cells (zR_X2_middle).slots r st k) : zev zk_X2_middle (36, ls, v2 :: v1 :: v0 :: r :: st, s, k) = zret zk_X2_middle 39 ls st (k.1 + 0, k.2 + 0) (m_X2_putPoint [r, v0, v1, v2] s) := zf_callV (as := [v2, v1, v0]) 3 rfl rfl h
theorem zr_X2_middle_39 (ls : zLs) (s : zAS) (k : Nat × Nat) (x : Int32) (hx : x = 0 ∨ x = 1) : zev zk_X2_middle (39, ls, [Sum.inl (Value.int x)], s, k) = some (.inl (some (Sum.inl (Value.int x))), s) := zf_retz rfl hx
