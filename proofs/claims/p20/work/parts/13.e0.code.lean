/-! X8_begin: PrimePlane.begin(I)I -/
abbrev zR_X8_begin : Room := ({ frames := 3, cells := 0, slots := 0, locals := 66 } : Room)
noncomputable def zl_X8_begin : List (Nat × zOp) := [(0, z_ldi 1 1), (1, z_callS m_X3_isOffered 1 0 0 (zR_X8_begin).cells (zR_X8_begin).slots 4), (4, z_if (fun x => decide (¬ x = 0)) 17 7), (17, z_lda 0 18), (18, z_get zEC 8 2 21), (21, z_ldi 1 22), (22, z_callV zEC 3 m_X3_choose 1 0 0 (zR_X8_begin).cells (zR_X8_begin).slots 25), (25, z_lda 0 26), (26, z_get zEC 8 3 29), (29, z_ic (0) 30), (30, z_put zEC 6 2 false 33), (33, z_lda 0 34), (34, z_get zEC 8 4 37), (37, z_ic (0) 38), (38, z_put zEC 1 2 false 41), (41, z_ldi 1 42), (42, z_ldi 1 43), (43, z_bin (fun x y => x * y) 44), (44, z_reti false)]
noncomputable def zk_X8_begin (pc : Nat) : Option zOp := zlook zl_X8_begin pc
noncomputable def m_X8_begin : List zAV → zAS → Option zOut := zmeth zk_X8_begin 2
set_option maxRecDepth 100000 in
set_option maxHeartbeats 4000000 in
theorem zcs_X8_begin {R : Room} (hR : R = zR_X8_begin) : ∀ q ∈ zl_X8_begin, zS zEC yX8_begin.cls cX8_begin 2 wsX8_begin (some .int) R q.1 q.2 := by
  subst hR
  have hin1 : ∀ w ∈ wsX10, w ∈ wsX8_begin := fun w h => List.mem_cons_of_mem _ (List.mem_append_left _ (List.mem_append_left _ (List.mem_append_right _ h)))
  have hin6 : ∀ w ∈ wsX60, w ∈ wsX8_begin := fun w h => List.mem_cons_of_mem _ (List.mem_append_left _ (List.mem_append_left _ (List.mem_append_left _ (List.mem_append_right _ h))))
  have hin8 : ∀ w ∈ wsX80, w ∈ wsX8_begin := fun w h => List.mem_cons_of_mem _ (List.mem_append_left _ (List.mem_append_left _ (List.mem_append_left _ (List.mem_append_left _ (List.mem_append_right _ h)))))
  refine List.forall_mem_cons.mpr ⟨zs_iload_n dX8_begin_0 rfl, ?_⟩
  refine List.forall_mem_cons.mpr ⟨zs_callS (rm := zR_X3_isOffered) (n := 1) zM_X3_isOffered gX8_begin_X3_isOffered rfl (by decide +kernel) ⟨by decide, by decide⟩ dX8_begin_1, ?_⟩
  refine List.forall_mem_cons.mpr ⟨zs_ifne dX8_begin_4 (by decide), ?_⟩
  refine List.forall_mem_cons.mpr ⟨zs_aload_n dX8_begin_17 rfl, ?_⟩
  refine List.forall_mem_cons.mpr ⟨zs_get (ci := 8) (j := 2) (N := 6) (C := RX8) (T := TX8) (index := 27) rfl (by decide) hin8 (List.mem_of_getElem? (i := 3) rfl) dX8_begin_18, ?_⟩
  refine List.forall_mem_cons.mpr ⟨zs_iload_n dX8_begin_21 rfl, ?_⟩
  refine List.forall_mem_cons.mpr ⟨zs_callV (ci := 3) (rm := zR_X3_choose) (n := 1) rfl zM_X3_choose gX8_begin_X3_choose rfl (by decide +kernel) ⟨by decide, by decide⟩ dX8_begin_22, ?_⟩
  refine List.forall_mem_cons.mpr ⟨zs_aload_n dX8_begin_25 rfl, ?_⟩
  refine List.forall_mem_cons.mpr ⟨zs_get (ci := 8) (j := 3) (N := 6) (C := RX8) (T := TX8) (index := 31) rfl (by decide) hin8 (List.mem_of_getElem? (i := 4) rfl) dX8_begin_26, ?_⟩
  refine List.forall_mem_cons.mpr ⟨zs_iconst dX8_begin_29 (by decide), ?_⟩
  refine List.forall_mem_cons.mpr ⟨zs_put (ci := 6) (j := 2) (N := 3) (C := RX6) (T := TX6) (index := 66) (b := false) .int tyX6 rfl (by decide) hin6 tyX6_ok nmX6 (List.mem_of_getElem? (i := 5) rfl) rfl (by decide +kernel) zni dX8_begin_30, ?_⟩
  refine List.forall_mem_cons.mpr ⟨zs_aload_n dX8_begin_33 rfl, ?_⟩
  refine List.forall_mem_cons.mpr ⟨zs_get (ci := 8) (j := 4) (N := 6) (C := RX8) (T := TX8) (index := 38) rfl (by decide) hin8 (List.mem_of_getElem? (i := 6) rfl) dX8_begin_34, ?_⟩
  refine List.forall_mem_cons.mpr ⟨zs_iconst dX8_begin_37 (by decide), ?_⟩
  refine List.forall_mem_cons.mpr ⟨zs_put (ci := 1) (j := 2) (N := 3) (C := RX1) (T := TX1) (index := 70) (b := false) .int tyX1 rfl (by decide) hin1 tyX1_ok nmX1 (List.mem_of_getElem? (i := 7) rfl) rfl (by decide +kernel) zni dX8_begin_38, ?_⟩
  refine List.forall_mem_cons.mpr ⟨zs_iload_n dX8_begin_41 rfl, ?_⟩
  refine List.forall_mem_cons.mpr ⟨zs_iload_n dX8_begin_42 rfl, ?_⟩
  refine List.forall_mem_cons.mpr ⟨zs_imul dX8_begin_43, ?_⟩
  refine List.forall_mem_cons.mpr ⟨zs_reti (ty := .int) rfl (fun x h => (zni x h).1) dX8_begin_44, ?_⟩
  exact fun _ h => absurd h List.not_mem_nil
theorem zM_X8_begin : zMeets zEC yX8_begin wsX8_begin zR_X8_begin m_X8_begin := zmeth_M zECok (zlook_all (zcs_X8_begin rfl)) (by decide +kernel) rfl
theorem zr_X8_begin_0 (a0 : Option zAV) (st : List zAV) (s : zAS) (k : Nat × Nat) (x : Int32) : zev zk_X8_begin (0, [a0, some (Sum.inl (Value.int x))], st, s, k) = zev zk_X8_begin (1, [a0, some (Sum.inl (Value.int x))], Sum.inl (Value.int x) :: st, s, k) := zev_go rfl rfl
theorem zr_X8_begin_1 (ls : zLs) (st : List zAV) (s : zAS) (k : Nat × Nat) (v0 : zAV) (h : (st.map zcat).sum ≤ 8 ∧ k.1 + 0 ≤ (zR_X8_begin).cells ∧ k.2 + 0 ≤ (zR_X8_begin).slots) : zev zk_X8_begin (1, ls, v0 :: st, s, k) = zret zk_X8_begin 4 ls st (k.1 + 0, k.2 + 0) (m_X3_isOffered [v0] s) := zf_callS (as := [v0]) 1 rfl rfl h
theorem zr_X8_begin_4 (ls : zLs) (st : List zAV) (s : zAS) (k : Nat × Nat) (x : Int32) : zev zk_X8_begin (4, ls, Sum.inl (Value.int x) :: st, s, k) = if decide (¬ x = 0) = true then zev zk_X8_begin (17, ls, st, s, k) else zev zk_X8_begin (7, ls, st, s, k) := zf_if (f := fun x => decide (¬ x = 0)) rfl
theorem zr_X8_begin_17 (a1 : Option zAV) (st : List zAV) (s : zAS) (k : Nat × Nat) (o : Nat × Nat) : zev zk_X8_begin (17, [some (Sum.inr o), a1], st, s, k) = zev zk_X8_begin (18, [some (Sum.inr o), a1], Sum.inr o :: st, s, k) := zev_go rfl rfl
theorem zr_X8_begin_18 (ls : zLs) (st : List zAV) (s : zAS) (k : Nat × Nat) (o i : Nat) : zev zk_X8_begin (18, ls, Sum.inr (o, i) :: st, s, k) = zpush zk_X8_begin 21 ls st s k (zgv zEC 8 2 o i s.1) := zf_get rfl
theorem zr_X8_begin_21 (a0 : Option zAV) (st : List zAV) (s : zAS) (k : Nat × Nat) (x : Int32) : zev zk_X8_begin (21, [a0, some (Sum.inl (Value.int x))], st, s, k) = zev zk_X8_begin (22, [a0, some (Sum.inl (Value.int x))], Sum.inl (Value.int x) :: st, s, k) := zev_go rfl rfl
theorem zr_X8_begin_22 (ls : zLs) (st : List zAV) (s : zAS) (k : Nat × Nat) (r v0 : zAV) (h : zcok zEC 3 0 0 (zR_X8_begin).cells (zR_X8_begin).slots r st k) : zev zk_X8_begin (22, ls, v0 :: r :: st, s, k) = zret zk_X8_begin 25 ls st (k.1 + 0, k.2 + 0) (m_X3_choose [r, v0] s) := zf_callV (as := [v0]) 1 rfl rfl h
theorem zr_X8_begin_25 (a1 : Option zAV) (st : List zAV) (s : zAS) (k : Nat × Nat) (o : Nat × Nat) : zev zk_X8_begin (25, [some (Sum.inr o), a1], st, s, k) = zev zk_X8_begin (26, [some (Sum.inr o), a1], Sum.inr o :: st, s, k) := zev_go rfl rfl
theorem zr_X8_begin_26 (ls : zLs) (st : List zAV) (s : zAS) (k : Nat × Nat) (o i : Nat) : zev zk_X8_begin (26, ls, Sum.inr (o, i) :: st, s, k) = zpush zk_X8_begin 29 ls st s k (zgv zEC 8 3 o i s.1) := zf_get rfl
theorem zr_X8_begin_29 (ls : zLs) (st : List zAV) (s : zAS) (k : Nat × Nat) : zev zk_X8_begin (29, ls, st, s, k) = zev zk_X8_begin (30, ls, Sum.inl (Value.int (0)) :: st, s, k) := zev_go rfl rfl
theorem zr_X8_begin_30 (ls : zLs) (st : List zAV) (s : zAS) (k : Nat × Nat) (o i : Nat) (x : Int32) (h : zpok zEC 6 2 false o i x) : zev zk_X8_begin (30, ls, Sum.inl (Value.int x) :: Sum.inr (o, i) :: st, s, k) = zev zk_X8_begin (33, ls, st, (zup s.1 o i 2 x, s.2), k) := zf_put rfl h
theorem zr_X8_begin_33 (a1 : Option zAV) (st : List zAV) (s : zAS) (k : Nat × Nat) (o : Nat × Nat) : zev zk_X8_begin (33, [some (Sum.inr o), a1], st, s, k) = zev zk_X8_begin (34, [some (Sum.inr o), a1], Sum.inr o :: st, s, k) := zev_go rfl rfl
theorem zr_X8_begin_34 (ls : zLs) (st : List zAV) (s : zAS) (k : Nat × Nat) (o i : Nat) : zev zk_X8_begin (34, ls, Sum.inr (o, i) :: st, s, k) = zpush zk_X8_begin 37 ls st s k (zgv zEC 8 4 o i s.1) := zf_get rfl
theorem zr_X8_begin_37 (ls : zLs) (st : List zAV) (s : zAS) (k : Nat × Nat) : zev zk_X8_begin (37, ls, st, s, k) = zev zk_X8_begin (38, ls, Sum.inl (Value.int (0)) :: st, s, k) := zev_go rfl rfl
theorem zr_X8_begin_38 (ls : zLs) (st : List zAV) (s : zAS) (k : Nat × Nat) (o i : Nat) (x : Int32) (h : zpok zEC 1 2 false o i x) : zev zk_X8_begin (38, ls, Sum.inl (Value.int x) :: Sum.inr (o, i) :: st, s, k) = zev zk_X8_begin (41, ls, st, (zup s.1 o i 2 x, s.2), k) := zf_put rfl h
theorem zr_X8_begin_41 (a0 : Option zAV) (st : List zAV) (s : zAS) (k : Nat × Nat) (x : Int32) : zev zk_X8_begin (41, [a0, some (Sum.inl (Value.int x))], st, s, k) = zev zk_X8_begin (42, [a0, some (Sum.inl (Value.int x))], Sum.inl (Value.int x) :: st, s, k) := zev_go rfl rfl
theorem zr_X8_begin_42 (a0 : Option zAV) (st : List zAV) (s : zAS) (k : Nat × Nat) (x : Int32) : zev zk_X8_begin (42, [a0, some (Sum.inl (Value.int x))], st, s, k) = zev zk_X8_begin (43, [a0, some (Sum.inl (Value.int x))], Sum.inl (Value.int x) :: st, s, k) := zev_go rfl rfl
theorem zr_X8_begin_43 (ls : zLs) (st : List zAV) (s : zAS) (k : Nat × Nat) (x y : Int32) : zev zk_X8_begin (43, ls, Sum.inl (Value.int y) :: Sum.inl (Value.int x) :: st, s, k) = zev zk_X8_begin (44, ls, Sum.inl (Value.int (x * y)) :: st, s, k) := zev_go rfl rfl
theorem zr_X8_begin_44 (ls : zLs) (s : zAS) (k : Nat × Nat) (x : Int32) : zev zk_X8_begin (44, ls, [Sum.inl (Value.int x)], s, k) = some (.inl (some (Sum.inl (Value.int x))), s) := zf_reti rfl
/-! X8_count: PrimePlane.count(I)I -/
abbrev zR_X8_count : Room := ({ frames := 2, cells := 0, slots := 0, locals := 44 } : Room)
noncomputable def zl_X8_count : List (Nat × zOp) := [(0, z_ldi 1 1), (1, z_tsw 0 4 [36, 44, 52, 60, 68] 76), (36, z_lda 0 37), (37, z_get zEC 8 2 40), (40, z_get zEC 3 0 43), (43, z_reti false), (44, z_lda 0 45), (45, z_get zEC 8 3 48), (48, z_get zEC 6 2 51), (51, z_reti false), (52, z_lda 0 53), (53, z_get zEC 8 4 56), (56, z_get zEC 1 2 59), (59, z_reti false), (60, z_lda 0 61), (61, z_get zEC 8 3 64), (64, z_callV zEC 6 m_X6_freePoints 0 0 0 (zR_X8_count).cells (zR_X8_count).slots 67), (67, z_reti false), (68, z_lda 0 69), (69, z_get zEC 8 3 72), (72, z_callV zEC 6 m_X6_lackingOnes 0 0 0 (zR_X8_count).cells (zR_X8_count).slots 75), (75, z_reti false)]
noncomputable def zk_X8_count (pc : Nat) : Option zOp := zlook zl_X8_count pc
noncomputable def m_X8_count : List zAV → zAS → Option zOut := zmeth zk_X8_count 2
set_option maxRecDepth 100000 in
set_option maxHeartbeats 4000000 in
theorem zcs_X8_count {R : Room} (hR : R = zR_X8_count) : ∀ q ∈ zl_X8_count, zS zEC yX8_count.cls cX8_count 2 wsX8_count (some .int) R q.1 q.2 := by
  subst hR
  have hin1 : ∀ w ∈ wsX10, w ∈ wsX8_count := fun w h => List.mem_cons_of_mem _ (List.mem_append_left _ (List.mem_append_left _ (List.mem_append_right _ h)))
  have hin3 : ∀ w ∈ wsX30, w ∈ wsX8_count := fun w h => List.mem_cons_of_mem _ (List.mem_append_left _ (List.mem_append_left _ (List.mem_append_left _ (List.mem_append_left _ (List.mem_append_right _ h)))))
  have hin6 : ∀ w ∈ wsX60, w ∈ wsX8_count := fun w h => List.mem_cons_of_mem _ (List.mem_append_left _ (List.mem_append_left _ (List.mem_append_left _ (List.mem_append_right _ h))))
  have hin8 : ∀ w ∈ wsX80, w ∈ wsX8_count := fun w h => List.mem_cons_of_mem _ (List.mem_append_left _ (List.mem_append_left _ (List.mem_append_left _ (List.mem_append_left _ (List.mem_append_left _ (List.mem_append_right _ h))))))
  refine List.forall_mem_cons.mpr ⟨zs_iload_n dX8_count_0 rfl, ?_⟩
  refine List.forall_mem_cons.mpr ⟨zs_tsw dX8_count_1 (by decide) (by decide), ?_⟩
  refine List.forall_mem_cons.mpr ⟨zs_aload_n dX8_count_36 rfl, ?_⟩
  refine List.forall_mem_cons.mpr ⟨zs_get (ci := 8) (j := 2) (N := 6) (C := RX8) (T := TX8) (index := 27) rfl (by decide) hin8 (List.mem_of_getElem? (i := 3) rfl) dX8_count_37, ?_⟩
  refine List.forall_mem_cons.mpr ⟨zs_get (ci := 3) (j := 0) (N := 3) (C := RX3) (T := TX3) (index := 85) rfl (by decide) hin3 (List.mem_of_getElem? (i := 4) rfl) dX8_count_40, ?_⟩
  refine List.forall_mem_cons.mpr ⟨zs_reti (ty := .int) rfl (fun x h => (zni x h).1) dX8_count_43, ?_⟩
  refine List.forall_mem_cons.mpr ⟨zs_aload_n dX8_count_44 rfl, ?_⟩
  refine List.forall_mem_cons.mpr ⟨zs_get (ci := 8) (j := 3) (N := 6) (C := RX8) (T := TX8) (index := 31) rfl (by decide) hin8 (List.mem_of_getElem? (i := 5) rfl) dX8_count_45, ?_⟩
  refine List.forall_mem_cons.mpr ⟨zs_get (ci := 6) (j := 2) (N := 3) (C := RX6) (T := TX6) (index := 66) rfl (by decide) hin6 (List.mem_of_getElem? (i := 6) rfl) dX8_count_48, ?_⟩
  refine List.forall_mem_cons.mpr ⟨zs_reti (ty := .int) rfl (fun x h => (zni x h).1) dX8_count_51, ?_⟩
  refine List.forall_mem_cons.mpr ⟨zs_aload_n dX8_count_52 rfl, ?_⟩
  refine List.forall_mem_cons.mpr ⟨zs_get (ci := 8) (j := 4) (N := 6) (C := RX8) (T := TX8) (index := 38) rfl (by decide) hin8 (List.mem_of_getElem? (i := 7) rfl) dX8_count_53, ?_⟩
  refine List.forall_mem_cons.mpr ⟨zs_get (ci := 1) (j := 2) (N := 3) (C := RX1) (T := TX1) (index := 70) rfl (by decide) hin1 (List.mem_of_getElem? (i := 8) rfl) dX8_count_56, ?_⟩
  refine List.forall_mem_cons.mpr ⟨zs_reti (ty := .int) rfl (fun x h => (zni x h).1) dX8_count_59, ?_⟩
  refine List.forall_mem_cons.mpr ⟨zs_aload_n dX8_count_60 rfl, ?_⟩
  refine List.forall_mem_cons.mpr ⟨zs_get (ci := 8) (j := 3) (N := 6) (C := RX8) (T := TX8) (index := 31) rfl (by decide) hin8 (List.mem_of_getElem? (i := 5) rfl) dX8_count_61, ?_⟩
  refine List.forall_mem_cons.mpr ⟨zs_callV (ci := 6) (rm := zR_X6_freePoints) (n := 0) rfl zM_X6_freePoints gX8_count_X6_freePoints rfl (by decide +kernel) ⟨by decide, by decide⟩ dX8_count_64, ?_⟩
  refine List.forall_mem_cons.mpr ⟨zs_reti (ty := .int) rfl (fun x h => (zni x h).1) dX8_count_67, ?_⟩
  refine List.forall_mem_cons.mpr ⟨zs_aload_n dX8_count_68 rfl, ?_⟩
  refine List.forall_mem_cons.mpr ⟨zs_get (ci := 8) (j := 3) (N := 6) (C := RX8) (T := TX8) (index := 31) rfl (by decide) hin8 (List.mem_of_getElem? (i := 5) rfl) dX8_count_69, ?_⟩
  refine List.forall_mem_cons.mpr ⟨zs_callV (ci := 6) (rm := zR_X6_lackingOnes) (n := 0) rfl zM_X6_lackingOnes gX8_count_X6_lackingOnes rfl (by decide +kernel) ⟨by decide, by decide⟩ dX8_count_72, ?_⟩
  refine List.forall_mem_cons.mpr ⟨zs_reti (ty := .int) rfl (fun x h => (zni x h).1) dX8_count_75, ?_⟩
  exact fun _ h => absurd h List.not_mem_nil
theorem zM_X8_count : zMeets zEC yX8_count wsX8_count zR_X8_count m_X8_count := zmeth_M zECok (zlook_all (zcs_X8_count rfl)) (by decide +kernel) rfl
theorem zr_X8_count_0 (a0 : Option zAV) (st : List zAV) (s : zAS) (k : Nat × Nat) (x : Int32) : zev zk_X8_count (0, [a0, some (Sum.inl (Value.int x))], st, s, k) = zev zk_X8_count (1, [a0, some (Sum.inl (Value.int x))], Sum.inl (Value.int x) :: st, s, k) := zev_go rfl rfl
theorem zr_X8_count_1 (ls : zLs) (st : List zAV) (s : zAS) (k : Nat × Nat) (x : Int32) : zev zk_X8_count (1, ls, Sum.inl (Value.int x) :: st, s, k) = if x.toInt < 0 ∨ 4 < x.toInt then zev zk_X8_count (76, ls, st, s, k) else match ([36, 44, 52, 60, 68] : List Nat)[(x.toInt - 0).toNat]? with
    | some t => zev zk_X8_count (t, ls, st, s, k)
    | none => none := zf_tsw rfl
theorem zr_X8_count_36 (a1 : Option zAV) (st : List zAV) (s : zAS) (k : Nat × Nat) (o : Nat × Nat) : zev zk_X8_count (36, [some (Sum.inr o), a1], st, s, k) = zev zk_X8_count (37, [some (Sum.inr o), a1], Sum.inr o :: st, s, k) := zev_go rfl rfl
theorem zr_X8_count_37 (ls : zLs) (st : List zAV) (s : zAS) (k : Nat × Nat) (o i : Nat) : zev zk_X8_count (37, ls, Sum.inr (o, i) :: st, s, k) = zpush zk_X8_count 40 ls st s k (zgv zEC 8 2 o i s.1) := zf_get rfl
theorem zr_X8_count_40 (ls : zLs) (st : List zAV) (s : zAS) (k : Nat × Nat) (o i : Nat) : zev zk_X8_count (40, ls, Sum.inr (o, i) :: st, s, k) = zpush zk_X8_count 43 ls st s k (zgv zEC 3 0 o i s.1) := zf_get rfl
theorem zr_X8_count_43 (ls : zLs) (s : zAS) (k : Nat × Nat) (x : Int32) : zev zk_X8_count (43, ls, [Sum.inl (Value.int x)], s, k) = some (.inl (some (Sum.inl (Value.int x))), s) := zf_reti rfl
theorem zr_X8_count_44 (a1 : Option zAV) (st : List zAV) (s : zAS) (k : Nat × Nat) (o : Nat × Nat) : zev zk_X8_count (44, [some (Sum.inr o), a1], st, s, k) = zev zk_X8_count (45, [some (Sum.inr o), a1], Sum.inr o :: st, s, k) := zev_go rfl rfl
theorem zr_X8_count_45 (ls : zLs) (st : List zAV) (s : zAS) (k : Nat × Nat) (o i : Nat) : zev zk_X8_count (45, ls, Sum.inr (o, i) :: st, s, k) = zpush zk_X8_count 48 ls st s k (zgv zEC 8 3 o i s.1) := zf_get rfl
theorem zr_X8_count_48 (ls : zLs) (st : List zAV) (s : zAS) (k : Nat × Nat) (o i : Nat) : zev zk_X8_count (48, ls, Sum.inr (o, i) :: st, s, k) = zpush zk_X8_count 51 ls st s k (zgv zEC 6 2 o i s.1) := zf_get rfl
theorem zr_X8_count_51 (ls : zLs) (s : zAS) (k : Nat × Nat) (x : Int32) : zev zk_X8_count (51, ls, [Sum.inl (Value.int x)], s, k) = some (.inl (some (Sum.inl (Value.int x))), s) := zf_reti rfl
theorem zr_X8_count_52 (a1 : Option zAV) (st : List zAV) (s : zAS) (k : Nat × Nat) (o : Nat × Nat) : zev zk_X8_count (52, [some (Sum.inr o), a1], st, s, k) = zev zk_X8_count (53, [some (Sum.inr o), a1], Sum.inr o :: st, s, k) := zev_go rfl rfl
theorem zr_X8_count_53 (ls : zLs) (st : List zAV) (s : zAS) (k : Nat × Nat) (o i : Nat) : zev zk_X8_count (53, ls, Sum.inr (o, i) :: st, s, k) = zpush zk_X8_count 56 ls st s k (zgv zEC 8 4 o i s.1) := zf_get rfl
theorem zr_X8_count_56 (ls : zLs) (st : List zAV) (s : zAS) (k : Nat × Nat) (o i : Nat) : zev zk_X8_count (56, ls, Sum.inr (o, i) :: st, s, k) = zpush zk_X8_count 59 ls st s k (zgv zEC 1 2 o i s.1) := zf_get rfl
theorem zr_X8_count_59 (ls : zLs) (s : zAS) (k : Nat × Nat) (x : Int32) : zev zk_X8_count (59, ls, [Sum.inl (Value.int x)], s, k) = some (.inl (some (Sum.inl (Value.int x))), s) := zf_reti rfl
theorem zr_X8_count_60 (a1 : Option zAV) (st : List zAV) (s : zAS) (k : Nat × Nat) (o : Nat × Nat) : zev zk_X8_count (60, [some (Sum.inr o), a1], st, s, k) = zev zk_X8_count (61, [some (Sum.inr o), a1], Sum.inr o :: st, s, k) := zev_go rfl rfl
theorem zr_X8_count_61 (ls : zLs) (st : List zAV) (s : zAS) (k : Nat × Nat) (o i : Nat) : zev zk_X8_count (61, ls, Sum.inr (o, i) :: st, s, k) = zpush zk_X8_count 64 ls st s k (zgv zEC 8 3 o i s.1) := zf_get rfl
theorem zr_X8_count_64 (ls : zLs) (st : List zAV) (s : zAS) (k : Nat × Nat) (r : zAV) (h : zcok zEC 6 0 0 (zR_X8_count).cells (zR_X8_count).slots r st k) : zev zk_X8_count (64, ls, r :: st, s, k) = zret zk_X8_count 67 ls st (k.1 + 0, k.2 + 0) (m_X6_freePoints [r] s) := zf_callV (as := []) 0 rfl rfl h
theorem zr_X8_count_67 (ls : zLs) (s : zAS) (k : Nat × Nat) (x : Int32) : zev zk_X8_count (67, ls, [Sum.inl (Value.int x)], s, k) = some (.inl (some (Sum.inl (Value.int x))), s) := zf_reti rfl
theorem zr_X8_count_68 (a1 : Option zAV) (st : List zAV) (s : zAS) (k : Nat × Nat) (o : Nat × Nat) : zev zk_X8_count (68, [some (Sum.inr o), a1], st, s, k) = zev zk_X8_count (69, [some (Sum.inr o), a1], Sum.inr o :: st, s, k) := zev_go rfl rfl
theorem zr_X8_count_69 (ls : zLs) (st : List zAV) (s : zAS) (k : Nat × Nat) (o i : Nat) : zev zk_X8_count (69, ls, Sum.inr (o, i) :: st, s, k) = zpush zk_X8_count 72 ls st s k (zgv zEC 8 3 o i s.1) := zf_get rfl
theorem zr_X8_count_72 (ls : zLs) (st : List zAV) (s : zAS) (k : Nat × Nat) (r : zAV) (h : zcok zEC 6 0 0 (zR_X8_count).cells (zR_X8_count).slots r st k) : zev zk_X8_count (72, ls, r :: st, s, k) = zret zk_X8_count 75 ls st (k.1 + 0, k.2 + 0) (m_X6_lackingOnes [r] s) := zf_callV (as := []) 0 rfl rfl h
theorem zr_X8_count_75 (ls : zLs) (s : zAS) (k : Nat × Nat) (x : Int32) : zev zk_X8_count (75, ls, [Sum.inl (Value.int x)], s, k) = some (.inl (some (Sum.inl (Value.int x))), s) := zf_reti rfl
/-! X8_remake: PrimePlane.remake(LPrimePlane$Figure;)V -/
abbrev zR_X8_remake : Room := ({ frames := 5, cells := 0, slots := 0, locals := 124 } : Room)
noncomputable def zl_X8_remake : List (Nat × zOp) := [(0, z_lda 0 1), (1, z_get zEC 8 3 4), (4, z_lda 1 5), (5, z_get zEC 4 2 8), (8, z_callV zEC 6 m_X6_at 1 0 0 (zR_X8_remake).cells (zR_X8_remake).slots 11), (11, z_sta 2 12), (12, z_lda 0 13), (13, z_get zEC 8 3 16), (16, z_lda 1 17), (17, z_get zEC 4 3 20), (20, z_callV zEC 6 m_X6_at 1 0 0 (zR_X8_remake).cells (zR_X8_remake).slots 23), (23, z_sta 3 24), (24, z_lda 0 25), (25, z_get zEC 8 3 28), (28, z_lda 1 29), (29, z_get zEC 4 4 32), (32, z_callV zEC 6 m_X6_at 1 0 0 (zR_X8_remake).cells (zR_X8_remake).slots 35), (35, z_sta 4 37), (37, z_lda 2 38), (38, z_get zEC 4 7 41), (41, z_if (fun x => decide (¬ x = 0)) 59 44), (44, z_lda 3 45), (45, z_get zEC 4 7 48), (48, z_if (fun x => decide (¬ x = 0)) 59 51), (51, z_lda 4 53), (53, z_get zEC 4 7 56), (56, z_if (fun x => decide (x = 0)) 63 59), (59, z_ic (1) 60), (60, z_goto 64), (63, z_ic (0) 64), (64, z_sti 5 66), (66, z_lda 1 67), (67, z_ldi 5 69), (69, z_if (fun x => decide (¬ x = 0)) 87 72), (72, z_lda 0 73), (73, z_get zEC 8 1 76), (76, z_lda 1 77), (77, z_lda 2 78), (78, z_lda 3 79), (79, z_lda 4 81), (81, z_callV zEC 2 m_X2_draw 4 0 0 (zR_X8_remake).cells (zR_X8_remake).slots 84), (84, z_if (fun x => decide (¬ x = 0)) 91 87), (87, z_ic (1) 88), (88, z_goto 92), (91, z_ic (0) 92), (92, z_put zEC 4 7 true 95), (95, z_retv)]
noncomputable def zk_X8_remake (pc : Nat) : Option zOp := zlook zl_X8_remake pc
noncomputable def m_X8_remake : List zAV → zAS → Option zOut := zmeth zk_X8_remake 6
set_option maxRecDepth 100000 in
set_option maxHeartbeats 4000000 in
theorem zcs_X8_remake {R : Room} (hR : R = zR_X8_remake) : ∀ q ∈ zl_X8_remake, zS zEC yX8_remake.cls cX8_remake 6 wsX8_remake none R q.1 q.2 := by
  subst hR
  have hin4 : ∀ w ∈ wsX40, w ∈ wsX8_remake := fun w h => List.mem_cons_of_mem _ (List.mem_append_left _ (List.mem_append_left _ (List.mem_append_left _ (List.mem_append_right _ h))))
  have hin8 : ∀ w ∈ wsX80, w ∈ wsX8_remake := fun w h => List.mem_cons_of_mem _ (List.mem_append_left _ (List.mem_append_left _ (List.mem_append_left _ (List.mem_append_left _ (List.mem_append_right _ h)))))
  refine List.forall_mem_cons.mpr ⟨zs_aload_n dX8_remake_0 rfl, ?_⟩
  refine List.forall_mem_cons.mpr ⟨zs_get (ci := 8) (j := 3) (N := 6) (C := RX8) (T := TX8) (index := 31) rfl (by decide) hin8 (List.mem_of_getElem? (i := 1) rfl) dX8_remake_1, ?_⟩
  refine List.forall_mem_cons.mpr ⟨zs_aload_n dX8_remake_4 rfl, ?_⟩
  refine List.forall_mem_cons.mpr ⟨zs_get (ci := 4) (j := 2) (N := 13) (C := RX4) (T := TX4) (index := 287) rfl (by decide) hin4 (List.mem_of_getElem? (i := 2) rfl) dX8_remake_5, ?_⟩
  refine List.forall_mem_cons.mpr ⟨zs_callV (ci := 6) (rm := zR_X6_at) (n := 1) rfl zM_X6_at gX8_remake_X6_at rfl (by decide +kernel) ⟨by decide, by decide⟩ dX8_remake_8, ?_⟩
  refine List.forall_mem_cons.mpr ⟨zs_astore_n dX8_remake_11 rfl, ?_⟩
  refine List.forall_mem_cons.mpr ⟨zs_aload_n dX8_remake_12 rfl, ?_⟩
  refine List.forall_mem_cons.mpr ⟨zs_get (ci := 8) (j := 3) (N := 6) (C := RX8) (T := TX8) (index := 31) rfl (by decide) hin8 (List.mem_of_getElem? (i := 1) rfl) dX8_remake_13, ?_⟩
  refine List.forall_mem_cons.mpr ⟨zs_aload_n dX8_remake_16 rfl, ?_⟩
  refine List.forall_mem_cons.mpr ⟨zs_get (ci := 4) (j := 3) (N := 13) (C := RX4) (T := TX4) (index := 290) rfl (by decide) hin4 (List.mem_of_getElem? (i := 3) rfl) dX8_remake_17, ?_⟩
  refine List.forall_mem_cons.mpr ⟨zs_callV (ci := 6) (rm := zR_X6_at) (n := 1) rfl zM_X6_at gX8_remake_X6_at rfl (by decide +kernel) ⟨by decide, by decide⟩ dX8_remake_20, ?_⟩
  refine List.forall_mem_cons.mpr ⟨zs_astore_n dX8_remake_23 rfl, ?_⟩
  refine List.forall_mem_cons.mpr ⟨zs_aload_n dX8_remake_24 rfl, ?_⟩
  refine List.forall_mem_cons.mpr ⟨zs_get (ci := 8) (j := 3) (N := 6) (C := RX8) (T := TX8) (index := 31) rfl (by decide) hin8 (List.mem_of_getElem? (i := 1) rfl) dX8_remake_25, ?_⟩
  refine List.forall_mem_cons.mpr ⟨zs_aload_n dX8_remake_28 rfl, ?_⟩
  refine List.forall_mem_cons.mpr ⟨zs_get (ci := 4) (j := 4) (N := 13) (C := RX4) (T := TX4) (index := 293) rfl (by decide) hin4 (List.mem_of_getElem? (i := 4) rfl) dX8_remake_29, ?_⟩
  refine List.forall_mem_cons.mpr ⟨zs_callV (ci := 6) (rm := zR_X6_at) (n := 1) rfl zM_X6_at gX8_remake_X6_at rfl (by decide +kernel) ⟨by decide, by decide⟩ dX8_remake_32, ?_⟩
  refine List.forall_mem_cons.mpr ⟨zs_astore dX8_remake_35, ?_⟩
  refine List.forall_mem_cons.mpr ⟨zs_aload_n dX8_remake_37 rfl, ?_⟩
  refine List.forall_mem_cons.mpr ⟨zs_get (ci := 4) (j := 7) (N := 13) (C := RX4) (T := TX4) (index := 188) rfl (by decide) hin4 (List.mem_of_getElem? (i := 5) rfl) dX8_remake_38, ?_⟩
  refine List.forall_mem_cons.mpr ⟨zs_ifne dX8_remake_41 (by decide), ?_⟩
  refine List.forall_mem_cons.mpr ⟨zs_aload_n dX8_remake_44 rfl, ?_⟩
  refine List.forall_mem_cons.mpr ⟨zs_get (ci := 4) (j := 7) (N := 13) (C := RX4) (T := TX4) (index := 188) rfl (by decide) hin4 (List.mem_of_getElem? (i := 5) rfl) dX8_remake_45, ?_⟩
  refine List.forall_mem_cons.mpr ⟨zs_ifne dX8_remake_48 (by decide), ?_⟩
  refine List.forall_mem_cons.mpr ⟨zs_aload dX8_remake_51, ?_⟩
  refine List.forall_mem_cons.mpr ⟨zs_get (ci := 4) (j := 7) (N := 13) (C := RX4) (T := TX4) (index := 188) rfl (by decide) hin4 (List.mem_of_getElem? (i := 5) rfl) dX8_remake_53, ?_⟩
  refine List.forall_mem_cons.mpr ⟨zs_ifeq dX8_remake_56 (by decide), ?_⟩
  refine List.forall_mem_cons.mpr ⟨zs_iconst dX8_remake_59 (by decide), ?_⟩
  refine List.forall_mem_cons.mpr ⟨zs_goto dX8_remake_60 (by decide), ?_⟩
  refine List.forall_mem_cons.mpr ⟨zs_iconst dX8_remake_63 (by decide), ?_⟩
  refine List.forall_mem_cons.mpr ⟨zs_istore dX8_remake_64, ?_⟩
  refine List.forall_mem_cons.mpr ⟨zs_aload_n dX8_remake_66 rfl, ?_⟩
  refine List.forall_mem_cons.mpr ⟨zs_iload dX8_remake_67, ?_⟩
  refine List.forall_mem_cons.mpr ⟨zs_ifne dX8_remake_69 (by decide), ?_⟩
  refine List.forall_mem_cons.mpr ⟨zs_aload_n dX8_remake_72 rfl, ?_⟩
  refine List.forall_mem_cons.mpr ⟨zs_get (ci := 8) (j := 1) (N := 6) (C := RX8) (T := TX8) (index := 20) rfl (by decide) hin8 (List.mem_of_getElem? (i := 6) rfl) dX8_remake_73, ?_⟩
  refine List.forall_mem_cons.mpr ⟨zs_aload_n dX8_remake_76 rfl, ?_⟩
  refine List.forall_mem_cons.mpr ⟨zs_aload_n dX8_remake_77 rfl, ?_⟩
  refine List.forall_mem_cons.mpr ⟨zs_aload_n dX8_remake_78 rfl, ?_⟩
  refine List.forall_mem_cons.mpr ⟨zs_aload dX8_remake_79, ?_⟩
  refine List.forall_mem_cons.mpr ⟨zs_callV (ci := 2) (rm := zR_X2_draw) (n := 4) rfl zM_X2_draw gX8_remake_X2_draw rfl (by decide +kernel) ⟨by decide, by decide⟩ dX8_remake_81, ?_⟩
  refine List.forall_mem_cons.mpr ⟨zs_ifne dX8_remake_84 (by decide), ?_⟩
  refine List.forall_mem_cons.mpr ⟨zs_iconst dX8_remake_87 (by decide), ?_⟩
  refine List.forall_mem_cons.mpr ⟨zs_goto dX8_remake_88 (by decide), ?_⟩
  refine List.forall_mem_cons.mpr ⟨zs_iconst dX8_remake_91 (by decide), ?_⟩
  refine List.forall_mem_cons.mpr ⟨zs_put (ci := 4) (j := 7) (N := 13) (C := RX4) (T := TX4) (index := 188) (b := true) .boolean tyX4 rfl (by decide) hin4 tyX4_ok nmX4 (List.mem_of_getElem? (i := 5) rfl) rfl (by decide +kernel) znz dX8_remake_92, ?_⟩
  refine List.forall_mem_cons.mpr ⟨zs_retv rfl dX8_remake_95, ?_⟩
  exact fun _ h => absurd h List.not_mem_nil
theorem zM_X8_remake : zMeets zEC yX8_remake wsX8_remake zR_X8_remake m_X8_remake := zmeth_M zECok (zlook_all (zcs_X8_remake rfl)) (by decide +kernel) rfl
theorem zr_X8_remake_0 (a1 a2 a3 a4 a5 : Option zAV) (st : List zAV) (s : zAS) (k : Nat × Nat) (o : Nat × Nat) : zev zk_X8_remake (0, [some (Sum.inr o), a1, a2, a3, a4, a5], st, s, k) = zev zk_X8_remake (1, [some (Sum.inr o), a1, a2, a3, a4, a5], Sum.inr o :: st, s, k) := zev_go rfl rfl
theorem zr_X8_remake_1 (ls : zLs) (st : List zAV) (s : zAS) (k : Nat × Nat) (o i : Nat) : zev zk_X8_remake (1, ls, Sum.inr (o, i) :: st, s, k) = zpush zk_X8_remake 4 ls st s k (zgv zEC 8 3 o i s.1) := zf_get rfl
theorem zr_X8_remake_4 (a0 a2 a3 a4 a5 : Option zAV) (st : List zAV) (s : zAS) (k : Nat × Nat) (o : Nat × Nat) : zev zk_X8_remake (4, [a0, some (Sum.inr o), a2, a3, a4, a5], st, s, k) = zev zk_X8_remake (5, [a0, some (Sum.inr o), a2, a3, a4, a5], Sum.inr o :: st, s, k) := zev_go rfl rfl
theorem zr_X8_remake_5 (ls : zLs) (st : List zAV) (s : zAS) (k : Nat × Nat) (o i : Nat) : zev zk_X8_remake (5, ls, Sum.inr (o, i) :: st, s, k) = zpush zk_X8_remake 8 ls st s k (zgv zEC 4 2 o i s.1) := zf_get rfl
theorem zr_X8_remake_8 (ls : zLs) (st : List zAV) (s : zAS) (k : Nat × Nat) (r v0 : zAV) (h : zcok zEC 6 0 0 (zR_X8_remake).cells (zR_X8_remake).slots r st k) : zev zk_X8_remake (8, ls, v0 :: r :: st, s, k) = zret zk_X8_remake 11 ls st (k.1 + 0, k.2 + 0) (m_X6_at [r, v0] s) := zf_callV (as := [v0]) 1 rfl rfl h
theorem zr_X8_remake_11 (a0 a1 a2 a3 a4 a5 : Option zAV) (st : List zAV) (s : zAS) (k : Nat × Nat) (o : Nat × Nat) : zev zk_X8_remake (11, [a0, a1, a2, a3, a4, a5], Sum.inr o :: st, s, k) = zev zk_X8_remake (12, [a0, zk1 a1, some (Sum.inr o), a3, a4, a5], st, s, k) := zev_go rfl rfl
theorem zr_X8_remake_12 (a1 a2 a3 a4 a5 : Option zAV) (st : List zAV) (s : zAS) (k : Nat × Nat) (o : Nat × Nat) : zev zk_X8_remake (12, [some (Sum.inr o), a1, a2, a3, a4, a5], st, s, k) = zev zk_X8_remake (13, [some (Sum.inr o), a1, a2, a3, a4, a5], Sum.inr o :: st, s, k) := zev_go rfl rfl
theorem zr_X8_remake_13 (ls : zLs) (st : List zAV) (s : zAS) (k : Nat × Nat) (o i : Nat) : zev zk_X8_remake (13, ls, Sum.inr (o, i) :: st, s, k) = zpush zk_X8_remake 16 ls st s k (zgv zEC 8 3 o i s.1) := zf_get rfl
theorem zr_X8_remake_16 (a0 a2 a3 a4 a5 : Option zAV) (st : List zAV) (s : zAS) (k : Nat × Nat) (o : Nat × Nat) : zev zk_X8_remake (16, [a0, some (Sum.inr o), a2, a3, a4, a5], st, s, k) = zev zk_X8_remake (17, [a0, some (Sum.inr o), a2, a3, a4, a5], Sum.inr o :: st, s, k) := zev_go rfl rfl
theorem zr_X8_remake_17 (ls : zLs) (st : List zAV) (s : zAS) (k : Nat × Nat) (o i : Nat) : zev zk_X8_remake (17, ls, Sum.inr (o, i) :: st, s, k) = zpush zk_X8_remake 20 ls st s k (zgv zEC 4 3 o i s.1) := zf_get rfl
theorem zr_X8_remake_20 (ls : zLs) (st : List zAV) (s : zAS) (k : Nat × Nat) (r v0 : zAV) (h : zcok zEC 6 0 0 (zR_X8_remake).cells (zR_X8_remake).slots r st k) : zev zk_X8_remake (20, ls, v0 :: r :: st, s, k) = zret zk_X8_remake 23 ls st (k.1 + 0, k.2 + 0) (m_X6_at [r, v0] s) := zf_callV (as := [v0]) 1 rfl rfl h
theorem zr_X8_remake_23 (a0 a1 a2 a3 a4 a5 : Option zAV) (st : List zAV) (s : zAS) (k : Nat × Nat) (o : Nat × Nat) : zev zk_X8_remake (23, [a0, a1, a2, a3, a4, a5], Sum.inr o :: st, s, k) = zev zk_X8_remake (24, [a0, a1, zk1 a2, some (Sum.inr o), a4, a5], st, s, k) := zev_go rfl rfl
theorem zr_X8_remake_24 (a1 a2 a3 a4 a5 : Option zAV) (st : List zAV) (s : zAS) (k : Nat × Nat) (o : Nat × Nat) : zev zk_X8_remake (24, [some (Sum.inr o), a1, a2, a3, a4, a5], st, s, k) = zev zk_X8_remake (25, [some (Sum.inr o), a1, a2, a3, a4, a5], Sum.inr o :: st, s, k) := zev_go rfl rfl
theorem zr_X8_remake_25 (ls : zLs) (st : List zAV) (s : zAS) (k : Nat × Nat) (o i : Nat) : zev zk_X8_remake (25, ls, Sum.inr (o, i) :: st, s, k) = zpush zk_X8_remake 28 ls st s k (zgv zEC 8 3 o i s.1) := zf_get rfl
theorem zr_X8_remake_28 (a0 a2 a3 a4 a5 : Option zAV) (st : List zAV) (s : zAS) (k : Nat × Nat) (o : Nat × Nat) : zev zk_X8_remake (28, [a0, some (Sum.inr o), a2, a3, a4, a5], st, s, k) = zev zk_X8_remake (29, [a0, some (Sum.inr o), a2, a3, a4, a5], Sum.inr o :: st, s, k) := zev_go rfl rfl
theorem zr_X8_remake_29 (ls : zLs) (st : List zAV) (s : zAS) (k : Nat × Nat) (o i : Nat) : zev zk_X8_remake (29, ls, Sum.inr (o, i) :: st, s, k) = zpush zk_X8_remake 32 ls st s k (zgv zEC 4 4 o i s.1) := zf_get rfl
theorem zr_X8_remake_32 (ls : zLs) (st : List zAV) (s : zAS) (k : Nat × Nat) (r v0 : zAV) (h : zcok zEC 6 0 0 (zR_X8_remake).cells (zR_X8_remake).slots r st k) : zev zk_X8_remake (32, ls, v0 :: r :: st, s, k) = zret zk_X8_remake 35 ls st (k.1 + 0, k.2 + 0) (m_X6_at [r, v0] s) := zf_callV (as := [v0]) 1 rfl rfl h
theorem zr_X8_remake_35 (a0 a1 a2 a3 a4 a5 : Option zAV) (st : List zAV) (s : zAS) (k : Nat × Nat) (o : Nat × Nat) : zev zk_X8_remake (35, [a0, a1, a2, a3, a4, a5], Sum.inr o :: st, s, k) = zev zk_X8_remake (37, [a0, a1, a2, zk1 a3, some (Sum.inr o), a5], st, s, k) := zev_go rfl rfl
theorem zr_X8_remake_37 (a0 a1 a3 a4 a5 : Option zAV) (st : List zAV) (s : zAS) (k : Nat × Nat) (o : Nat × Nat) : zev zk_X8_remake (37, [a0, a1, some (Sum.inr o), a3, a4, a5], st, s, k) = zev zk_X8_remake (38, [a0, a1, some (Sum.inr o), a3, a4, a5], Sum.inr o :: st, s, k) := zev_go rfl rfl
theorem zr_X8_remake_38 (ls : zLs) (st : List zAV) (s : zAS) (k : Nat × Nat) (o i : Nat) : zev zk_X8_remake (38, ls, Sum.inr (o, i) :: st, s, k) = zpush zk_X8_remake 41 ls st s k (zgv zEC 4 7 o i s.1) := zf_get rfl
theorem zr_X8_remake_41 (ls : zLs) (st : List zAV) (s : zAS) (k : Nat × Nat) (x : Int32) : zev zk_X8_remake (41, ls, Sum.inl (Value.int x) :: st, s, k) = if decide (¬ x = 0) = true then zev zk_X8_remake (59, ls, st, s, k) else zev zk_X8_remake (44, ls, st, s, k) := zf_if (f := fun x => decide (¬ x = 0)) rfl
theorem zr_X8_remake_44 (a0 a1 a2 a4 a5 : Option zAV) (st : List zAV) (s : zAS) (k : Nat × Nat) (o : Nat × Nat) : zev zk_X8_remake (44, [a0, a1, a2, some (Sum.inr o), a4, a5], st, s, k) = zev zk_X8_remake (45, [a0, a1, a2, some (Sum.inr o), a4, a5], Sum.inr o :: st, s, k) := zev_go rfl rfl
theorem zr_X8_remake_45 (ls : zLs) (st : List zAV) (s : zAS) (k : Nat × Nat) (o i : Nat) : zev zk_X8_remake (45, ls, Sum.inr (o, i) :: st, s, k) = zpush zk_X8_remake 48 ls st s k (zgv zEC 4 7 o i s.1) := zf_get rfl
theorem zr_X8_remake_48 (ls : zLs) (st : List zAV) (s : zAS) (k : Nat × Nat) (x : Int32) : zev zk_X8_remake (48, ls, Sum.inl (Value.int x) :: st, s, k) = if decide (¬ x = 0) = true then zev zk_X8_remake (59, ls, st, s, k) else zev zk_X8_remake (51, ls, st, s, k) := zf_if (f := fun x => decide (¬ x = 0)) rfl
theorem zr_X8_remake_51 (a0 a1 a2 a3 a5 : Option zAV) (st : List zAV) (s : zAS) (k : Nat × Nat) (o : Nat × Nat) : zev zk_X8_remake (51, [a0, a1, a2, a3, some (Sum.inr o), a5], st, s, k) = zev zk_X8_remake (53, [a0, a1, a2, a3, some (Sum.inr o), a5], Sum.inr o :: st, s, k) := zev_go rfl rfl
theorem zr_X8_remake_53 (ls : zLs) (st : List zAV) (s : zAS) (k : Nat × Nat) (o i : Nat) : zev zk_X8_remake (53, ls, Sum.inr (o, i) :: st, s, k) = zpush zk_X8_remake 56 ls st s k (zgv zEC 4 7 o i s.1) := zf_get rfl
theorem zr_X8_remake_56 (ls : zLs) (st : List zAV) (s : zAS) (k : Nat × Nat) (x : Int32) : zev zk_X8_remake (56, ls, Sum.inl (Value.int x) :: st, s, k) = if decide (x = 0) = true then zev zk_X8_remake (63, ls, st, s, k) else zev zk_X8_remake (59, ls, st, s, k) := zf_if (f := fun x => decide (x = 0)) rfl
theorem zr_X8_remake_59 (ls : zLs) (st : List zAV) (s : zAS) (k : Nat × Nat) : zev zk_X8_remake (59, ls, st, s, k) = zev zk_X8_remake (60, ls, Sum.inl (Value.int (1)) :: st, s, k) := zev_go rfl rfl
theorem zr_X8_remake_60 (ls : zLs) (st : List zAV) (s : zAS) (k : Nat × Nat) : zev zk_X8_remake (60, ls, st, s, k) = zev zk_X8_remake (64, ls, st, s, k) := zev_go rfl rfl
theorem zr_X8_remake_63 (ls : zLs) (st : List zAV) (s : zAS) (k : Nat × Nat) : zev zk_X8_remake (63, ls, st, s, k) = zev zk_X8_remake (64, ls, Sum.inl (Value.int (0)) :: st, s, k) := zev_go rfl rfl
theorem zr_X8_remake_64 (a0 a1 a2 a3 a4 a5 : Option zAV) (st : List zAV) (s : zAS) (k : Nat × Nat) (x : Int32) : zev zk_X8_remake (64, [a0, a1, a2, a3, a4, a5], Sum.inl (Value.int x) :: st, s, k) = zev zk_X8_remake (66, [a0, a1, a2, a3, zk1 a4, some (Sum.inl (Value.int x))], st, s, k) := zev_go rfl rfl
theorem zr_X8_remake_66 (a0 a2 a3 a4 a5 : Option zAV) (st : List zAV) (s : zAS) (k : Nat × Nat) (o : Nat × Nat) : zev zk_X8_remake (66, [a0, some (Sum.inr o), a2, a3, a4, a5], st, s, k) = zev zk_X8_remake (67, [a0, some (Sum.inr o), a2, a3, a4, a5], Sum.inr o :: st, s, k) := zev_go rfl rfl
theorem zr_X8_remake_67 (a0 a1 a2 a3 a4 : Option zAV) (st : List zAV) (s : zAS) (k : Nat × Nat) (x : Int32) : zev zk_X8_remake (67, [a0, a1, a2, a3, a4, some (Sum.inl (Value.int x))], st, s, k) = zev zk_X8_remake (69, [a0, a1, a2, a3, a4, some (Sum.inl (Value.int x))], Sum.inl (Value.int x) :: st, s, k) := zev_go rfl rfl
theorem zr_X8_remake_69 (ls : zLs) (st : List zAV) (s : zAS) (k : Nat × Nat) (x : Int32) : zev zk_X8_remake (69, ls, Sum.inl (Value.int x) :: st, s, k) = if decide (¬ x = 0) = true then zev zk_X8_remake (87, ls, st, s, k) else zev zk_X8_remake (72, ls, st, s, k) := zf_if (f := fun x => decide (¬ x = 0)) rfl
theorem zr_X8_remake_72 (a1 a2 a3 a4 a5 : Option zAV) (st : List zAV) (s : zAS) (k : Nat × Nat) (o : Nat × Nat) : zev zk_X8_remake (72, [some (Sum.inr o), a1, a2, a3, a4, a5], st, s, k) = zev zk_X8_remake (73, [some (Sum.inr o), a1, a2, a3, a4, a5], Sum.inr o :: st, s, k) := zev_go rfl rfl
theorem zr_X8_remake_73 (ls : zLs) (st : List zAV) (s : zAS) (k : Nat × Nat) (o i : Nat) : zev zk_X8_remake (73, ls, Sum.inr (o, i) :: st, s, k) = zpush zk_X8_remake 76 ls st s k (zgv zEC 8 1 o i s.1) := zf_get rfl
theorem zr_X8_remake_76 (a0 a2 a3 a4 a5 : Option zAV) (st : List zAV) (s : zAS) (k : Nat × Nat) (o : Nat × Nat) : zev zk_X8_remake (76, [a0, some (Sum.inr o), a2, a3, a4, a5], st, s, k) = zev zk_X8_remake (77, [a0, some (Sum.inr o), a2, a3, a4, a5], Sum.inr o :: st, s, k) := zev_go rfl rfl
theorem zr_X8_remake_77 (a0 a1 a3 a4 a5 : Option zAV) (st : List zAV) (s : zAS) (k : Nat × Nat) (o : Nat × Nat) : zev zk_X8_remake (77, [a0, a1, some (Sum.inr o), a3, a4, a5], st, s, k) = zev zk_X8_remake (78, [a0, a1, some (Sum.inr o), a3, a4, a5], Sum.inr o :: st, s, k) := zev_go rfl rfl
theorem zr_X8_remake_78 (a0 a1 a2 a4 a5 : Option zAV) (st : List zAV) (s : zAS) (k : Nat × Nat) (o : Nat × Nat) : zev zk_X8_remake (78, [a0, a1, a2, some (Sum.inr o), a4, a5], st, s, k) = zev zk_X8_remake (79, [a0, a1, a2, some (Sum.inr o), a4, a5], Sum.inr o :: st, s, k) := zev_go rfl rfl
theorem zr_X8_remake_79 (a0 a1 a2 a3 a5 : Option zAV) (st : List zAV) (s : zAS) (k : Nat × Nat) (o : Nat × Nat) : zev zk_X8_remake (79, [a0, a1, a2, a3, some (Sum.inr o), a5], st, s, k) = zev zk_X8_remake (81, [a0, a1, a2, a3, some (Sum.inr o), a5], Sum.inr o :: st, s, k) := zev_go rfl rfl
theorem zr_X8_remake_81 (ls : zLs) (st : List zAV) (s : zAS) (k : Nat × Nat) (r v0 v1 v2 v3 : zAV) (h : zcok zEC 2 0 0 (zR_X8_remake).cells (zR_X8_remake).slots r st k) : zev zk_X8_remake (81, ls, v3 :: v2 :: v1 :: v0 :: r :: st, s, k) = zret zk_X8_remake 84 ls st (k.1 + 0, k.2 + 0) (m_X2_draw [r, v0, v1, v2, v3] s) := zf_callV (as := [v3, v2, v1, v0]) 4 rfl rfl h
theorem zr_X8_remake_84 (ls : zLs) (st : List zAV) (s : zAS) (k : Nat × Nat) (x : Int32) : zev zk_X8_remake (84, ls, Sum.inl (Value.int x) :: st, s, k) = if decide (¬ x = 0) = true then zev zk_X8_remake (91, ls, st, s, k) else zev zk_X8_remake (87, ls, st, s, k) := zf_if (f := fun x => decide (¬ x = 0)) rfl
theorem zr_X8_remake_87 (ls : zLs) (st : List zAV) (s : zAS) (k : Nat × Nat) : zev zk_X8_remake (87, ls, st, s, k) = zev zk_X8_remake (88, ls, Sum.inl (Value.int (1)) :: st, s, k) := zev_go rfl rfl
theorem zr_X8_remake_88 (ls : zLs) (st : List zAV) (s : zAS) (k : Nat × Nat) : zev zk_X8_remake (88, ls, st, s, k) = zev zk_X8_remake (92, ls, st, s, k) := zev_go rfl rfl
theorem zr_X8_remake_91 (ls : zLs) (st : List zAV) (s : zAS) (k : Nat × Nat) : zev zk_X8_remake (91, ls, st, s, k) = zev zk_X8_remake (92, ls, Sum.inl (Value.int (0)) :: st, s, k) := zev_go rfl rfl
theorem zr_X8_remake_92 (ls : zLs) (st : List zAV) (s : zAS) (k : Nat × Nat) (o i : Nat) (x : Int32) (h : zpok zEC 4 7 true o i x) : zev zk_X8_remake (92, ls, Sum.inl (Value.int x) :: Sum.inr (o, i) :: st, s, k) = zev zk_X8_remake (95, ls, st, (zup s.1 o i 7 x, s.2), k) := zf_put rfl h
theorem zr_X8_remake_95 (ls : zLs) (s : zAS) (k : Nat × Nat) : zev zk_X8_remake (95, ls, [], s, k) = some (.inl none, s) := zev_end rfl rfl
/-! X8_point: PrimePlane.point(III)I -/
abbrev zR_X8_point : Room := ({ frames := 6, cells := 0, slots := 0, locals := 149 } : Room)
noncomputable def zl_X8_point : List (Nat × zOp) := [(0, z_ldi 1 1), (1, z_ic (-1) 2), (2, z_cmp (fun x y => decide (¬ x = y)) 9 5), (5, z_ic (1) 6), (6, z_goto 10), (9, z_ic (0) 10), (10, z_sti 4 12), (12, z_ldi 4 14), (14, z_if (fun x => decide (¬ x = 0)) 38 17), (17, z_lda 0 18), (18, z_get zEC 8 3 21), (21, z_ldi 1 22), (22, z_callV zEC 6 m_X6_has 1 0 0 (zR_X8_point).cells (zR_X8_point).slots 25), (25, z_if (fun x => decide (¬ x = 0)) 38 28), (38, z_ldi 4 40), (40, z_if (fun x => decide (¬ x = 0)) 68 43), (43, z_lda 0 44), (44, z_get zEC 8 3 47), (47, z_ldi 1 48), (48, z_callV zEC 6 m_X6_at 1 0 0 (zR_X8_point).cells (zR_X8_point).slots 51), (51, z_callV zEC 4 m_X4_sort 0 0 0 (zR_X8_point).cells (zR_X8_point).slots 54), (54, z_ic (1) 55), (55, z_cmp (fun x y => decide (x = y)) 68 58), (68, z_lda 0 69), (69, z_get zEC 8 2 72), (72, z_ldi 2 73), (73, z_callV zEC 3 m_X3_has 1 0 0 (zR_X8_point).cells (zR_X8_point).slots 76), (76, z_if (fun x => decide (x = 0)) 95 79), (79, z_ldi 4 81), (81, z_if (fun x => decide (x = 0)) 105 84), (84, z_lda 0 85), (85, z_get zEC 8 2 88), (88, z_ldi 3 89), (89, z_callV zEC 3 m_X3_has 1 0 0 (zR_X8_point).cells (zR_X8_point).slots 92), (92, z_if (fun x => decide (¬ x = 0)) 105 95), (105, z_lda 0 106), (106, z_get zEC 8 3 109), (109, z_get zEC 6 2 112), (112, z_ic (40) 114), (114, z_cmp (fun x y => decide (x < y)) 127 117), (127, z_lda 0 128), (128, z_get zEC 8 3 131), (131, z_callV zEC 6 m_X6_next 0 0 0 (zR_X8_point).cells (zR_X8_point).slots 134), (134, z_sta 5 136), (136, z_lda 5 138), (138, z_ldi 4 140), (140, z_if (fun x => decide (x = 0)) 147 143), (143, z_ic (0) 144), (144, z_goto 148), (147, z_ic (1) 148), (148, z_ldi 1 149), (149, z_ic (-1) 150), (150, z_ic (-1) 151), (151, z_callV zEC 4 m_X4_become 4 0 0 (zR_X8_point).cells (zR_X8_point).slots 154), (154, z_lda 5 156), (156, z_ldi 2 157), (157, z_ldi 3 158), (158, z_callV zEC 4 m_X4_tell 2 0 0 (zR_X8_point).cells (zR_X8_point).slots 161), (161, z_lda 0 162), (162, z_lda 5 164), (164, z_callV zEC 8 m_X8_remake 1 0 0 (zR_X8_point).cells (zR_X8_point).slots 167), (167, z_lda 5 169), (169, z_get zEC 4 0 172), (172, z_reti false)]
noncomputable def zk_X8_point (pc : Nat) : Option zOp := zlook zl_X8_point pc
noncomputable def m_X8_point : List zAV → zAS → Option zOut := zmeth zk_X8_point 6
set_option maxRecDepth 100000 in
set_option maxHeartbeats 4000000 in
theorem zcs_X8_point {R : Room} (hR : R = zR_X8_point) : ∀ q ∈ zl_X8_point, zS zEC yX8_point.cls cX8_point 6 wsX8_point (some .int) R q.1 q.2 := by
  subst hR
  have hin4 : ∀ w ∈ wsX40, w ∈ wsX8_point := fun w h => List.mem_cons_of_mem _ (List.mem_append_left _ (List.mem_append_left _ (List.mem_append_left _ (List.mem_append_left _ (List.mem_append_left _ (List.mem_append_right _ h))))))
  have hin6 : ∀ w ∈ wsX60, w ∈ wsX8_point := fun w h => List.mem_cons_of_mem _ (List.mem_append_left _ (List.mem_append_left _ (List.mem_append_left _ (List.mem_append_left _ (List.mem_append_left _ (List.mem_append_left _ (List.mem_append_right _ h)))))))
  have hin8 : ∀ w ∈ wsX80, w ∈ wsX8_point := fun w h => List.mem_cons_of_mem _ (List.mem_append_left _ (List.mem_append_left _ (List.mem_append_left _ (List.mem_append_left _ (List.mem_append_left _ (List.mem_append_left _ (List.mem_append_left _ (List.mem_append_right _ h))))))))
  refine List.forall_mem_cons.mpr ⟨zs_iload_n dX8_point_0 rfl, ?_⟩
  refine List.forall_mem_cons.mpr ⟨zs_iconst dX8_point_1 (by decide), ?_⟩
  refine List.forall_mem_cons.mpr ⟨zs_icne dX8_point_2 (by decide), ?_⟩
  refine List.forall_mem_cons.mpr ⟨zs_iconst dX8_point_5 (by decide), ?_⟩
  refine List.forall_mem_cons.mpr ⟨zs_goto dX8_point_6 (by decide), ?_⟩
  refine List.forall_mem_cons.mpr ⟨zs_iconst dX8_point_9 (by decide), ?_⟩
  refine List.forall_mem_cons.mpr ⟨zs_istore dX8_point_10, ?_⟩
  refine List.forall_mem_cons.mpr ⟨zs_iload dX8_point_12, ?_⟩
  refine List.forall_mem_cons.mpr ⟨zs_ifne dX8_point_14 (by decide), ?_⟩
  refine List.forall_mem_cons.mpr ⟨zs_aload_n dX8_point_17 rfl, ?_⟩
  refine List.forall_mem_cons.mpr ⟨zs_get (ci := 8) (j := 3) (N := 6) (C := RX8) (T := TX8) (index := 31) rfl (by decide) hin8 (List.mem_of_getElem? (i := 7) rfl) dX8_point_18, ?_⟩
  refine List.forall_mem_cons.mpr ⟨zs_iload_n dX8_point_21 rfl, ?_⟩
  refine List.forall_mem_cons.mpr ⟨zs_callV (ci := 6) (rm := zR_X6_has) (n := 1) rfl zM_X6_has gX8_point_X6_has rfl (by decide +kernel) ⟨by decide, by decide⟩ dX8_point_22, ?_⟩
  refine List.forall_mem_cons.mpr ⟨zs_ifne dX8_point_25 (by decide), ?_⟩
  refine List.forall_mem_cons.mpr ⟨zs_iload dX8_point_38, ?_⟩
  refine List.forall_mem_cons.mpr ⟨zs_ifne dX8_point_40 (by decide), ?_⟩
  refine List.forall_mem_cons.mpr ⟨zs_aload_n dX8_point_43 rfl, ?_⟩
  refine List.forall_mem_cons.mpr ⟨zs_get (ci := 8) (j := 3) (N := 6) (C := RX8) (T := TX8) (index := 31) rfl (by decide) hin8 (List.mem_of_getElem? (i := 7) rfl) dX8_point_44, ?_⟩
  refine List.forall_mem_cons.mpr ⟨zs_iload_n dX8_point_47 rfl, ?_⟩
  refine List.forall_mem_cons.mpr ⟨zs_callV (ci := 6) (rm := zR_X6_at) (n := 1) rfl zM_X6_at gX8_point_X6_at rfl (by decide +kernel) ⟨by decide, by decide⟩ dX8_point_48, ?_⟩
  refine List.forall_mem_cons.mpr ⟨zs_callV (ci := 4) (rm := zR_X4_sort) (n := 0) rfl zM_X4_sort gX8_point_X4_sort rfl (by decide +kernel) ⟨by decide, by decide⟩ dX8_point_51, ?_⟩
  refine List.forall_mem_cons.mpr ⟨zs_iconst dX8_point_54 (by decide), ?_⟩
  refine List.forall_mem_cons.mpr ⟨zs_iceq dX8_point_55 (by decide), ?_⟩
  refine List.forall_mem_cons.mpr ⟨zs_aload_n dX8_point_68 rfl, ?_⟩
  refine List.forall_mem_cons.mpr ⟨zs_get (ci := 8) (j := 2) (N := 6) (C := RX8) (T := TX8) (index := 27) rfl (by decide) hin8 (List.mem_of_getElem? (i := 8) rfl) dX8_point_69, ?_⟩
  refine List.forall_mem_cons.mpr ⟨zs_iload_n dX8_point_72 rfl, ?_⟩
  refine List.forall_mem_cons.mpr ⟨zs_callV (ci := 3) (rm := zR_X3_has) (n := 1) rfl zM_X3_has gX8_point_X3_has rfl (by decide +kernel) ⟨by decide, by decide⟩ dX8_point_73, ?_⟩
  refine List.forall_mem_cons.mpr ⟨zs_ifeq dX8_point_76 (by decide), ?_⟩
  refine List.forall_mem_cons.mpr ⟨zs_iload dX8_point_79, ?_⟩
  refine List.forall_mem_cons.mpr ⟨zs_ifeq dX8_point_81 (by decide), ?_⟩
  refine List.forall_mem_cons.mpr ⟨zs_aload_n dX8_point_84 rfl, ?_⟩
  refine List.forall_mem_cons.mpr ⟨zs_get (ci := 8) (j := 2) (N := 6) (C := RX8) (T := TX8) (index := 27) rfl (by decide) hin8 (List.mem_of_getElem? (i := 8) rfl) dX8_point_85, ?_⟩
  refine List.forall_mem_cons.mpr ⟨zs_iload_n dX8_point_88 rfl, ?_⟩
  refine List.forall_mem_cons.mpr ⟨zs_callV (ci := 3) (rm := zR_X3_has) (n := 1) rfl zM_X3_has gX8_point_X3_has rfl (by decide +kernel) ⟨by decide, by decide⟩ dX8_point_89, ?_⟩
  refine List.forall_mem_cons.mpr ⟨zs_ifne dX8_point_92 (by decide), ?_⟩
  refine List.forall_mem_cons.mpr ⟨zs_aload_n dX8_point_105 rfl, ?_⟩
  refine List.forall_mem_cons.mpr ⟨zs_get (ci := 8) (j := 3) (N := 6) (C := RX8) (T := TX8) (index := 31) rfl (by decide) hin8 (List.mem_of_getElem? (i := 7) rfl) dX8_point_106, ?_⟩
  refine List.forall_mem_cons.mpr ⟨zs_get (ci := 6) (j := 2) (N := 3) (C := RX6) (T := TX6) (index := 66) rfl (by decide) hin6 (List.mem_of_getElem? (i := 9) rfl) dX8_point_109, ?_⟩
  refine List.forall_mem_cons.mpr ⟨zs_bipush dX8_point_112 (by decide), ?_⟩
  refine List.forall_mem_cons.mpr ⟨zs_iclt dX8_point_114 (by decide), ?_⟩
  refine List.forall_mem_cons.mpr ⟨zs_aload_n dX8_point_127 rfl, ?_⟩
  refine List.forall_mem_cons.mpr ⟨zs_get (ci := 8) (j := 3) (N := 6) (C := RX8) (T := TX8) (index := 31) rfl (by decide) hin8 (List.mem_of_getElem? (i := 7) rfl) dX8_point_128, ?_⟩
  refine List.forall_mem_cons.mpr ⟨zs_callV (ci := 6) (rm := zR_X6_next) (n := 0) rfl zM_X6_next gX8_point_X6_next rfl (by decide +kernel) ⟨by decide, by decide⟩ dX8_point_131, ?_⟩
  refine List.forall_mem_cons.mpr ⟨zs_astore dX8_point_134, ?_⟩
  refine List.forall_mem_cons.mpr ⟨zs_aload dX8_point_136, ?_⟩
  refine List.forall_mem_cons.mpr ⟨zs_iload dX8_point_138, ?_⟩
  refine List.forall_mem_cons.mpr ⟨zs_ifeq dX8_point_140 (by decide), ?_⟩
  refine List.forall_mem_cons.mpr ⟨zs_iconst dX8_point_143 (by decide), ?_⟩
  refine List.forall_mem_cons.mpr ⟨zs_goto dX8_point_144 (by decide), ?_⟩
  refine List.forall_mem_cons.mpr ⟨zs_iconst dX8_point_147 (by decide), ?_⟩
  refine List.forall_mem_cons.mpr ⟨zs_iload_n dX8_point_148 rfl, ?_⟩
  refine List.forall_mem_cons.mpr ⟨zs_iconst dX8_point_149 (by decide), ?_⟩
  refine List.forall_mem_cons.mpr ⟨zs_iconst dX8_point_150 (by decide), ?_⟩
  refine List.forall_mem_cons.mpr ⟨zs_callV (ci := 4) (rm := zR_X4_become) (n := 4) rfl zM_X4_become gX8_point_X4_become rfl (by decide +kernel) ⟨by decide, by decide⟩ dX8_point_151, ?_⟩
  refine List.forall_mem_cons.mpr ⟨zs_aload dX8_point_154, ?_⟩
  refine List.forall_mem_cons.mpr ⟨zs_iload_n dX8_point_156 rfl, ?_⟩
  refine List.forall_mem_cons.mpr ⟨zs_iload_n dX8_point_157 rfl, ?_⟩
  refine List.forall_mem_cons.mpr ⟨zs_callV (ci := 4) (rm := zR_X4_tell) (n := 2) rfl zM_X4_tell gX8_point_X4_tell rfl (by decide +kernel) ⟨by decide, by decide⟩ dX8_point_158, ?_⟩
  refine List.forall_mem_cons.mpr ⟨zs_aload_n dX8_point_161 rfl, ?_⟩
  refine List.forall_mem_cons.mpr ⟨zs_aload dX8_point_162, ?_⟩
  refine List.forall_mem_cons.mpr ⟨zs_callV (ci := 8) (rm := zR_X8_remake) (n := 1) rfl zM_X8_remake gX8_point_X8_remake rfl (by decide +kernel) ⟨by decide, by decide⟩ dX8_point_164, ?_⟩
  refine List.forall_mem_cons.mpr ⟨zs_aload dX8_point_167, ?_⟩
  refine List.forall_mem_cons.mpr ⟨zs_get (ci := 4) (j := 0) (N := 13) (C := RX4) (T := TX4) (index := 137) rfl (by decide) hin4 (List.mem_of_getElem? (i := 10) rfl) dX8_point_169, ?_⟩
  refine List.forall_mem_cons.mpr ⟨zs_reti (ty := .int) rfl (fun x h => (zni x h).1) dX8_point_172, ?_⟩
  exact fun _ h => absurd h List.not_mem_nil
theorem zM_X8_point : zMeets zEC yX8_point wsX8_point zR_X8_point m_X8_point := zmeth_M zECok (zlook_all (zcs_X8_point rfl)) (by decide +kernel) rfl
theorem zr_X8_point_0 (a0 a2 a3 a4 a5 : Option zAV) (st : List zAV) (s : zAS) (k : Nat × Nat) (x : Int32) : zev zk_X8_point (0, [a0, some (Sum.inl (Value.int x)), a2, a3, a4, a5], st, s, k) = zev zk_X8_point (1, [a0, some (Sum.inl (Value.int x)), a2, a3, a4, a5], Sum.inl (Value.int x) :: st, s, k) := zev_go rfl rfl
theorem zr_X8_point_1 (ls : zLs) (st : List zAV) (s : zAS) (k : Nat × Nat) : zev zk_X8_point (1, ls, st, s, k) = zev zk_X8_point (2, ls, Sum.inl (Value.int (-1)) :: st, s, k) := zev_go rfl rfl
theorem zr_X8_point_2 (ls : zLs) (st : List zAV) (s : zAS) (k : Nat × Nat) (x y : Int32) : zev zk_X8_point (2, ls, Sum.inl (Value.int y) :: Sum.inl (Value.int x) :: st, s, k) = if decide (¬ x = y) = true then zev zk_X8_point (9, ls, st, s, k) else zev zk_X8_point (5, ls, st, s, k) := zf_cmp (f := fun x y => decide (¬ x = y)) rfl
theorem zr_X8_point_5 (ls : zLs) (st : List zAV) (s : zAS) (k : Nat × Nat) : zev zk_X8_point (5, ls, st, s, k) = zev zk_X8_point (6, ls, Sum.inl (Value.int (1)) :: st, s, k) := zev_go rfl rfl
theorem zr_X8_point_6 (ls : zLs) (st : List zAV) (s : zAS) (k : Nat × Nat) : zev zk_X8_point (6, ls, st, s, k) = zev zk_X8_point (10, ls, st, s, k) := zev_go rfl rfl
theorem zr_X8_point_9 (ls : zLs) (st : List zAV) (s : zAS) (k : Nat × Nat) : zev zk_X8_point (9, ls, st, s, k) = zev zk_X8_point (10, ls, Sum.inl (Value.int (0)) :: st, s, k) := zev_go rfl rfl
theorem zr_X8_point_10 (a0 a1 a2 a3 a4 a5 : Option zAV) (st : List zAV) (s : zAS) (k : Nat × Nat) (x : Int32) : zev zk_X8_point (10, [a0, a1, a2, a3, a4, a5], Sum.inl (Value.int x) :: st, s, k) = zev zk_X8_point (12, [a0, a1, a2, zk1 a3, some (Sum.inl (Value.int x)), a5], st, s, k) := zev_go rfl rfl
theorem zr_X8_point_12 (a0 a1 a2 a3 a5 : Option zAV) (st : List zAV) (s : zAS) (k : Nat × Nat) (x : Int32) : zev zk_X8_point (12, [a0, a1, a2, a3, some (Sum.inl (Value.int x)), a5], st, s, k) = zev zk_X8_point (14, [a0, a1, a2, a3, some (Sum.inl (Value.int x)), a5], Sum.inl (Value.int x) :: st, s, k) := zev_go rfl rfl
theorem zr_X8_point_14 (ls : zLs) (st : List zAV) (s : zAS) (k : Nat × Nat) (x : Int32) : zev zk_X8_point (14, ls, Sum.inl (Value.int x) :: st, s, k) = if decide (¬ x = 0) = true then zev zk_X8_point (38, ls, st, s, k) else zev zk_X8_point (17, ls, st, s, k) := zf_if (f := fun x => decide (¬ x = 0)) rfl
theorem zr_X8_point_17 (a1 a2 a3 a4 a5 : Option zAV) (st : List zAV) (s : zAS) (k : Nat × Nat) (o : Nat × Nat) : zev zk_X8_point (17, [some (Sum.inr o), a1, a2, a3, a4, a5], st, s, k) = zev zk_X8_point (18, [some (Sum.inr o), a1, a2, a3, a4, a5], Sum.inr o :: st, s, k) := zev_go rfl rfl
theorem zr_X8_point_18 (ls : zLs) (st : List zAV) (s : zAS) (k : Nat × Nat) (o i : Nat) : zev zk_X8_point (18, ls, Sum.inr (o, i) :: st, s, k) = zpush zk_X8_point 21 ls st s k (zgv zEC 8 3 o i s.1) := zf_get rfl
theorem zr_X8_point_21 (a0 a2 a3 a4 a5 : Option zAV) (st : List zAV) (s : zAS) (k : Nat × Nat) (x : Int32) : zev zk_X8_point (21, [a0, some (Sum.inl (Value.int x)), a2, a3, a4, a5], st, s, k) = zev zk_X8_point (22, [a0, some (Sum.inl (Value.int x)), a2, a3, a4, a5], Sum.inl (Value.int x) :: st, s, k) := zev_go rfl rfl
theorem zr_X8_point_22 (ls : zLs) (st : List zAV) (s : zAS) (k : Nat × Nat) (r v0 : zAV) (h : zcok zEC 6 0 0 (zR_X8_point).cells (zR_X8_point).slots r st k) : zev zk_X8_point (22, ls, v0 :: r :: st, s, k) = zret zk_X8_point 25 ls st (k.1 + 0, k.2 + 0) (m_X6_has [r, v0] s) := zf_callV (as := [v0]) 1 rfl rfl h
theorem zr_X8_point_25 (ls : zLs) (st : List zAV) (s : zAS) (k : Nat × Nat) (x : Int32) : zev zk_X8_point (25, ls, Sum.inl (Value.int x) :: st, s, k) = if decide (¬ x = 0) = true then zev zk_X8_point (38, ls, st, s, k) else zev zk_X8_point (28, ls, st, s, k) := zf_if (f := fun x => decide (¬ x = 0)) rfl
theorem zr_X8_point_38 (a0 a1 a2 a3 a5 : Option zAV) (st : List zAV) (s : zAS) (k : Nat × Nat) (x : Int32) : zev zk_X8_point (38, [a0, a1, a2, a3, some (Sum.inl (Value.int x)), a5], st, s, k) = zev zk_X8_point (40, [a0, a1, a2, a3, some (Sum.inl (Value.int x)), a5], Sum.inl (Value.int x) :: st, s, k) := zev_go rfl rfl
theorem zr_X8_point_40 (ls : zLs) (st : List zAV) (s : zAS) (k : Nat × Nat) (x : Int32) : zev zk_X8_point (40, ls, Sum.inl (Value.int x) :: st, s, k) = if decide (¬ x = 0) = true then zev zk_X8_point (68, ls, st, s, k) else zev zk_X8_point (43, ls, st, s, k) := zf_if (f := fun x => decide (¬ x = 0)) rfl
theorem zr_X8_point_43 (a1 a2 a3 a4 a5 : Option zAV) (st : List zAV) (s : zAS) (k : Nat × Nat) (o : Nat × Nat) : zev zk_X8_point (43, [some (Sum.inr o), a1, a2, a3, a4, a5], st, s, k) = zev zk_X8_point (44, [some (Sum.inr o), a1, a2, a3, a4, a5], Sum.inr o :: st, s, k) := zev_go rfl rfl
theorem zr_X8_point_44 (ls : zLs) (st : List zAV) (s : zAS) (k : Nat × Nat) (o i : Nat) : zev zk_X8_point (44, ls, Sum.inr (o, i) :: st, s, k) = zpush zk_X8_point 47 ls st s k (zgv zEC 8 3 o i s.1) := zf_get rfl
theorem zr_X8_point_47 (a0 a2 a3 a4 a5 : Option zAV) (st : List zAV) (s : zAS) (k : Nat × Nat) (x : Int32) : zev zk_X8_point (47, [a0, some (Sum.inl (Value.int x)), a2, a3, a4, a5], st, s, k) = zev zk_X8_point (48, [a0, some (Sum.inl (Value.int x)), a2, a3, a4, a5], Sum.inl (Value.int x) :: st, s, k) := zev_go rfl rfl
theorem zr_X8_point_48 (ls : zLs) (st : List zAV) (s : zAS) (k : Nat × Nat) (r v0 : zAV) (h : zcok zEC 6 0 0 (zR_X8_point).cells (zR_X8_point).slots r st k) : zev zk_X8_point (48, ls, v0 :: r :: st, s, k) = zret zk_X8_point 51 ls st (k.1 + 0, k.2 + 0) (m_X6_at [r, v0] s) := zf_callV (as := [v0]) 1 rfl rfl h
theorem zr_X8_point_51 (ls : zLs) (st : List zAV) (s : zAS) (k : Nat × Nat) (r : zAV) (h : zcok zEC 4 0 0 (zR_X8_point).cells (zR_X8_point).slots r st k) : zev zk_X8_point (51, ls, r :: st, s, k) = zret zk_X8_point 54 ls st (k.1 + 0, k.2 + 0) (m_X4_sort [r] s) := zf_callV (as := []) 0 rfl rfl h
theorem zr_X8_point_54 (ls : zLs) (st : List zAV) (s : zAS) (k : Nat × Nat) : zev zk_X8_point (54, ls, st, s, k) = zev zk_X8_point (55, ls, Sum.inl (Value.int (1)) :: st, s, k) := zev_go rfl rfl
theorem zr_X8_point_55 (ls : zLs) (st : List zAV) (s : zAS) (k : Nat × Nat) (x y : Int32) : zev zk_X8_point (55, ls, Sum.inl (Value.int y) :: Sum.inl (Value.int x) :: st, s, k) = if decide (x = y) = true then zev zk_X8_point (68, ls, st, s, k) else zev zk_X8_point (58, ls, st, s, k) := zf_cmp (f := fun x y => decide (x = y)) rfl
theorem zr_X8_point_68 (a1 a2 a3 a4 a5 : Option zAV) (st : List zAV) (s : zAS) (k : Nat × Nat) (o : Nat × Nat) : zev zk_X8_point (68, [some (Sum.inr o), a1, a2, a3, a4, a5], st, s, k) = zev zk_X8_point (69, [some (Sum.inr o), a1, a2, a3, a4, a5], Sum.inr o :: st, s, k) := zev_go rfl rfl
theorem zr_X8_point_69 (ls : zLs) (st : List zAV) (s : zAS) (k : Nat × Nat) (o i : Nat) : zev zk_X8_point (69, ls, Sum.inr (o, i) :: st, s, k) = zpush zk_X8_point 72 ls st s k (zgv zEC 8 2 o i s.1) := zf_get rfl
theorem zr_X8_point_72 (a0 a1 a3 a4 a5 : Option zAV) (st : List zAV) (s : zAS) (k : Nat × Nat) (x : Int32) : zev zk_X8_point (72, [a0, a1, some (Sum.inl (Value.int x)), a3, a4, a5], st, s, k) = zev zk_X8_point (73, [a0, a1, some (Sum.inl (Value.int x)), a3, a4, a5], Sum.inl (Value.int x) :: st, s, k) := zev_go rfl rfl
theorem zr_X8_point_73 (ls : zLs) (st : List zAV) (s : zAS) (k : Nat × Nat) (r v0 : zAV) (h : zcok zEC 3 0 0 (zR_X8_point).cells (zR_X8_point).slots r st k) : zev zk_X8_point (73, ls, v0 :: r :: st, s, k) = zret zk_X8_point 76 ls st (k.1 + 0, k.2 + 0) (m_X3_has [r, v0] s) := zf_callV (as := [v0]) 1 rfl rfl h
theorem zr_X8_point_76 (ls : zLs) (st : List zAV) (s : zAS) (k : Nat × Nat) (x : Int32) : zev zk_X8_point (76, ls, Sum.inl (Value.int x) :: st, s, k) = if decide (x = 0) = true then zev zk_X8_point (95, ls, st, s, k) else zev zk_X8_point (79, ls, st, s, k) := zf_if (f := fun x => decide (x = 0)) rfl
theorem zr_X8_point_79 (a0 a1 a2 a3 a5 : Option zAV) (st : List zAV) (s : zAS) (k : Nat × Nat) (x : Int32) : zev zk_X8_point (79, [a0, a1, a2, a3, some (Sum.inl (Value.int x)), a5], st, s, k) = zev zk_X8_point (81, [a0, a1, a2, a3, some (Sum.inl (Value.int x)), a5], Sum.inl (Value.int x) :: st, s, k) := zev_go rfl rfl
theorem zr_X8_point_81 (ls : zLs) (st : List zAV) (s : zAS) (k : Nat × Nat) (x : Int32) : zev zk_X8_point (81, ls, Sum.inl (Value.int x) :: st, s, k) = if decide (x = 0) = true then zev zk_X8_point (105, ls, st, s, k) else zev zk_X8_point (84, ls, st, s, k) := zf_if (f := fun x => decide (x = 0)) rfl
theorem zr_X8_point_84 (a1 a2 a3 a4 a5 : Option zAV) (st : List zAV) (s : zAS) (k : Nat × Nat) (o : Nat × Nat) : zev zk_X8_point (84, [some (Sum.inr o), a1, a2, a3, a4, a5], st, s, k) = zev zk_X8_point (85, [some (Sum.inr o), a1, a2, a3, a4, a5], Sum.inr o :: st, s, k) := zev_go rfl rfl
theorem zr_X8_point_85 (ls : zLs) (st : List zAV) (s : zAS) (k : Nat × Nat) (o i : Nat) : zev zk_X8_point (85, ls, Sum.inr (o, i) :: st, s, k) = zpush zk_X8_point 88 ls st s k (zgv zEC 8 2 o i s.1) := zf_get rfl
theorem zr_X8_point_88 (a0 a1 a2 a4 a5 : Option zAV) (st : List zAV) (s : zAS) (k : Nat × Nat) (x : Int32) : zev zk_X8_point (88, [a0, a1, a2, some (Sum.inl (Value.int x)), a4, a5], st, s, k) = zev zk_X8_point (89, [a0, a1, a2, some (Sum.inl (Value.int x)), a4, a5], Sum.inl (Value.int x) :: st, s, k) := zev_go rfl rfl
theorem zr_X8_point_89 (ls : zLs) (st : List zAV) (s : zAS) (k : Nat × Nat) (r v0 : zAV) (h : zcok zEC 3 0 0 (zR_X8_point).cells (zR_X8_point).slots r st k) : zev zk_X8_point (89, ls, v0 :: r :: st, s, k) = zret zk_X8_point 92 ls st (k.1 + 0, k.2 + 0) (m_X3_has [r, v0] s) := zf_callV (as := [v0]) 1 rfl rfl h
theorem zr_X8_point_92 (ls : zLs) (st : List zAV) (s : zAS) (k : Nat × Nat) (x : Int32) : zev zk_X8_point (92, ls, Sum.inl (Value.int x) :: st, s, k) = if decide (¬ x = 0) = true then zev zk_X8_point (105, ls, st, s, k) else zev zk_X8_point (95, ls, st, s, k) := zf_if (f := fun x => decide (¬ x = 0)) rfl
theorem zr_X8_point_105 (a1 a2 a3 a4 a5 : Option zAV) (st : List zAV) (s : zAS) (k : Nat × Nat) (o : Nat × Nat) : zev zk_X8_point (105, [some (Sum.inr o), a1, a2, a3, a4, a5], st, s, k) = zev zk_X8_point (106, [some (Sum.inr o), a1, a2, a3, a4, a5], Sum.inr o :: st, s, k) := zev_go rfl rfl
theorem zr_X8_point_106 (ls : zLs) (st : List zAV) (s : zAS) (k : Nat × Nat) (o i : Nat) : zev zk_X8_point (106, ls, Sum.inr (o, i) :: st, s, k) = zpush zk_X8_point 109 ls st s k (zgv zEC 8 3 o i s.1) := zf_get rfl
theorem zr_X8_point_109 (ls : zLs) (st : List zAV) (s : zAS) (k : Nat × Nat) (o i : Nat) : zev zk_X8_point (109, ls, Sum.inr (o, i) :: st, s, k) = zpush zk_X8_point 112 ls st s k (zgv zEC 6 2 o i s.1) := zf_get rfl
theorem zr_X8_point_112 (ls : zLs) (st : List zAV) (s : zAS) (k : Nat × Nat) : zev zk_X8_point (112, ls, st, s, k) = zev zk_X8_point (114, ls, Sum.inl (Value.int (40)) :: st, s, k) := zev_go rfl rfl
theorem zr_X8_point_114 (ls : zLs) (st : List zAV) (s : zAS) (k : Nat × Nat) (x y : Int32) : zev zk_X8_point (114, ls, Sum.inl (Value.int y) :: Sum.inl (Value.int x) :: st, s, k) = if decide (x < y) = true then zev zk_X8_point (127, ls, st, s, k) else zev zk_X8_point (117, ls, st, s, k) := zf_cmp (f := fun x y => decide (x < y)) rfl
theorem zr_X8_point_127 (a1 a2 a3 a4 a5 : Option zAV) (st : List zAV) (s : zAS) (k : Nat × Nat) (o : Nat × Nat) : zev zk_X8_point (127, [some (Sum.inr o), a1, a2, a3, a4, a5], st, s, k) = zev zk_X8_point (128, [some (Sum.inr o), a1, a2, a3, a4, a5], Sum.inr o :: st, s, k) := zev_go rfl rfl
theorem zr_X8_point_128 (ls : zLs) (st : List zAV) (s : zAS) (k : Nat × Nat) (o i : Nat) : zev zk_X8_point (128, ls, Sum.inr (o, i) :: st, s, k) = zpush zk_X8_point 131 ls st s k (zgv zEC 8 3 o i s.1) := zf_get rfl
theorem zr_X8_point_131 (ls : zLs) (st : List zAV) (s : zAS) (k : Nat × Nat) (r : zAV) (h : zcok zEC 6 0 0 (zR_X8_point).cells (zR_X8_point).slots r st k) : zev zk_X8_point (131, ls, r :: st, s, k) = zret zk_X8_point 134 ls st (k.1 + 0, k.2 + 0) (m_X6_next [r] s) := zf_callV (as := []) 0 rfl rfl h
theorem zr_X8_point_134 (a0 a1 a2 a3 a4 a5 : Option zAV) (st : List zAV) (s : zAS) (k : Nat × Nat) (o : Nat × Nat) : zev zk_X8_point (134, [a0, a1, a2, a3, a4, a5], Sum.inr o :: st, s, k) = zev zk_X8_point (136, [a0, a1, a2, a3, zk1 a4, some (Sum.inr o)], st, s, k) := zev_go rfl rfl
theorem zr_X8_point_136 (a0 a1 a2 a3 a4 : Option zAV) (st : List zAV) (s : zAS) (k : Nat × Nat) (o : Nat × Nat) : zev zk_X8_point (136, [a0, a1, a2, a3, a4, some (Sum.inr o)], st, s, k) = zev zk_X8_point (138, [a0, a1, a2, a3, a4, some (Sum.inr o)], Sum.inr o :: st, s, k) := zev_go rfl rfl
theorem zr_X8_point_138 (a0 a1 a2 a3 a5 : Option zAV) (st : List zAV) (s : zAS) (k : Nat × Nat) (x : Int32) : zev zk_X8_point (138, [a0, a1, a2, a3, some (Sum.inl (Value.int x)), a5], st, s, k) = zev zk_X8_point (140, [a0, a1, a2, a3, some (Sum.inl (Value.int x)), a5], Sum.inl (Value.int x) :: st, s, k) := zev_go rfl rfl
theorem zr_X8_point_140 (ls : zLs) (st : List zAV) (s : zAS) (k : Nat × Nat) (x : Int32) : zev zk_X8_point (140, ls, Sum.inl (Value.int x) :: st, s, k) = if decide (x = 0) = true then zev zk_X8_point (147, ls, st, s, k) else zev zk_X8_point (143, ls, st, s, k) := zf_if (f := fun x => decide (x = 0)) rfl
theorem zr_X8_point_143 (ls : zLs) (st : List zAV) (s : zAS) (k : Nat × Nat) : zev zk_X8_point (143, ls, st, s, k) = zev zk_X8_point (144, ls, Sum.inl (Value.int (0)) :: st, s, k) := zev_go rfl rfl
theorem zr_X8_point_144 (ls : zLs) (st : List zAV) (s : zAS) (k : Nat × Nat) : zev zk_X8_point (144, ls, st, s, k) = zev zk_X8_point (148, ls, st, s, k) := zev_go rfl rfl
theorem zr_X8_point_147 (ls : zLs) (st : List zAV) (s : zAS) (k : Nat × Nat) : zev zk_X8_point (147, ls, st, s, k) = zev zk_X8_point (148, ls, Sum.inl (Value.int (1)) :: st, s, k) := zev_go rfl rfl
theorem zr_X8_point_148 (a0 a2 a3 a4 a5 : Option zAV) (st : List zAV) (s : zAS) (k : Nat × Nat) (x : Int32) : zev zk_X8_point (148, [a0, some (Sum.inl (Value.int x)), a2, a3, a4, a5], st, s, k) = zev zk_X8_point (149, [a0, some (Sum.inl (Value.int x)), a2, a3, a4, a5], Sum.inl (Value.int x) :: st, s, k) := zev_go rfl rfl
theorem zr_X8_point_149 (ls : zLs) (st : List zAV) (s : zAS) (k : Nat × Nat) : zev zk_X8_point (149, ls, st, s, k) = zev zk_X8_point (150, ls, Sum.inl (Value.int (-1)) :: st, s, k) := zev_go rfl rfl
theorem zr_X8_point_150 (ls : zLs) (st : List zAV) (s : zAS) (k : Nat × Nat) : zev zk_X8_point (150, ls, st, s, k) = zev zk_X8_point (151, ls, Sum.inl (Value.int (-1)) :: st, s, k) := zev_go rfl rfl
theorem zr_X8_point_151 (ls : zLs) (st : List zAV) (s : zAS) (k : Nat × Nat) (r v0 v1 v2 v3 : zAV) (h : zcok zEC 4 0 0 (zR_X8_point).cells (zR_X8_point).slots r st k) : zev zk_X8_point (151, ls, v3 :: v2 :: v1 :: v0 :: r :: st, s, k) = zret zk_X8_point 154 ls st (k.1 + 0, k.2 + 0) (m_X4_become [r, v0, v1, v2, v3] s) := zf_callV (as := [v3, v2, v1, v0]) 4 rfl rfl h
theorem zr_X8_point_154 (a0 a1 a2 a3 a4 : Option zAV) (st : List zAV) (s : zAS) (k : Nat × Nat) (o : Nat × Nat) : zev zk_X8_point (154, [a0, a1, a2, a3, a4, some (Sum.inr o)], st, s, k) = zev zk_X8_point (156, [a0, a1, a2, a3, a4, some (Sum.inr o)], Sum.inr o :: st, s, k) := zev_go rfl rfl
theorem zr_X8_point_156 (a0 a1 a3 a4 a5 : Option zAV) (st : List zAV) (s : zAS) (k : Nat × Nat) (x : Int32) : zev zk_X8_point (156, [a0, a1, some (Sum.inl (Value.int x)), a3, a4, a5], st, s, k) = zev zk_X8_point (157, [a0, a1, some (Sum.inl (Value.int x)), a3, a4, a5], Sum.inl (Value.int x) :: st, s, k) := zev_go rfl rfl
theorem zr_X8_point_157 (a0 a1 a2 a4 a5 : Option zAV) (st : List zAV) (s : zAS) (k : Nat × Nat) (x : Int32) : zev zk_X8_point (157, [a0, a1, a2, some (Sum.inl (Value.int x)), a4, a5], st, s, k) = zev zk_X8_point (158, [a0, a1, a2, some (Sum.inl (Value.int x)), a4, a5], Sum.inl (Value.int x) :: st, s, k) := zev_go rfl rfl
theorem zr_X8_point_158 (ls : zLs) (st : List zAV) (s : zAS) (k : Nat × Nat) (r v0 v1 : zAV) (h : zcok zEC 4 0 0 (zR_X8_point).cells (zR_X8_point).slots r st k) : zev zk_X8_point (158, ls, v1 :: v0 :: r :: st, s, k) = zret zk_X8_point 161 ls st (k.1 + 0, k.2 + 0) (m_X4_tell [r, v0, v1] s) := zf_callV (as := [v1, v0]) 2 rfl rfl h
theorem zr_X8_point_161 (a1 a2 a3 a4 a5 : Option zAV) (st : List zAV) (s : zAS) (k : Nat × Nat) (o : Nat × Nat) : zev zk_X8_point (161, [some (Sum.inr o), a1, a2, a3, a4, a5], st, s, k) = zev zk_X8_point (162, [some (Sum.inr o), a1, a2, a3, a4, a5], Sum.inr o :: st, s, k) := zev_go rfl rfl
theorem zr_X8_point_162 (a0 a1 a2 a3 a4 : Option zAV) (st : List zAV) (s : zAS) (k : Nat × Nat) (o : Nat × Nat) : zev zk_X8_point (162, [a0, a1, a2, a3, a4, some (Sum.inr o)], st, s, k) = zev zk_X8_point (164, [a0, a1, a2, a3, a4, some (Sum.inr o)], Sum.inr o :: st, s, k) := zev_go rfl rfl
theorem zr_X8_point_164 (ls : zLs) (st : List zAV) (s : zAS) (k : Nat × Nat) (r v0 : zAV) (h : zcok zEC 8 0 0 (zR_X8_point).cells (zR_X8_point).slots r st k) : zev zk_X8_point (164, ls, v0 :: r :: st, s, k) = zret zk_X8_point 167 ls st (k.1 + 0, k.2 + 0) (m_X8_remake [r, v0] s) := zf_callV (as := [v0]) 1 rfl rfl h
theorem zr_X8_point_167 (a0 a1 a2 a3 a4 : Option zAV) (st : List zAV) (s : zAS) (k : Nat × Nat) (o : Nat × Nat) : zev zk_X8_point (167, [a0, a1, a2, a3, a4, some (Sum.inr o)], st, s, k) = zev zk_X8_point (169, [a0, a1, a2, a3, a4, some (Sum.inr o)], Sum.inr o :: st, s, k) := zev_go rfl rfl
theorem zr_X8_point_169 (ls : zLs) (st : List zAV) (s : zAS) (k : Nat × Nat) (o i : Nat) : zev zk_X8_point (169, ls, Sum.inr (o, i) :: st, s, k) = zpush zk_X8_point 172 ls st s k (zgv zEC 4 0 o i s.1) := zf_get rfl
theorem zr_X8_point_172 (ls : zLs) (s : zAS) (k : Nat × Nat) (x : Int32) : zev zk_X8_point (172, ls, [Sum.inl (Value.int x)], s, k) = some (.inl (some (Sum.inl (Value.int x))), s) := zf_reti rfl
/-! X8_entry: PrimePlane.entry([II)I -/
abbrev zR_X8_entry : Room := ({ frames := 0, cells := 0, slots := 0, locals := 0 } : Room)
noncomputable def zl_X8_entry : List (Nat × zOp) := [(0, z_ldi 1 1), (1, z_if (fun x => decide (x < 0)) 16 4), (4, z_ldi 1 5), (5, z_lda 0 6), (6, z_alen zEC 7), (7, z_cmp (fun x y => decide (y ≤ x)) 16 10), (10, z_lda 0 11), (11, z_ldi 1 12), (12, z_iald zEC 13), (13, z_goto 17), (16, z_ic (-1) 17), (17, z_reti false)]
noncomputable def zk_X8_entry (pc : Nat) : Option zOp := zlook zl_X8_entry pc
noncomputable def m_X8_entry : List zAV → zAS → Option zOut := zmeth zk_X8_entry 2
set_option maxRecDepth 100000 in
set_option maxHeartbeats 4000000 in
theorem zcs_X8_entry {R : Room} (hR : R = zR_X8_entry) : ∀ q ∈ zl_X8_entry, zS zEC yX8_entry.cls cX8_entry 2 wsX8_entry (some .int) R q.1 q.2 := by
  subst hR
  refine List.forall_mem_cons.mpr ⟨zs_iload_n dX8_entry_0 rfl, ?_⟩
  refine List.forall_mem_cons.mpr ⟨zs_iflt dX8_entry_1 (by decide), ?_⟩
  refine List.forall_mem_cons.mpr ⟨zs_iload_n dX8_entry_4 rfl, ?_⟩
  refine List.forall_mem_cons.mpr ⟨zs_aload_n dX8_entry_5 rfl, ?_⟩
  refine List.forall_mem_cons.mpr ⟨zs_alen dX8_entry_6, ?_⟩
  refine List.forall_mem_cons.mpr ⟨zs_icge dX8_entry_7 (by decide), ?_⟩
  refine List.forall_mem_cons.mpr ⟨zs_aload_n dX8_entry_10 rfl, ?_⟩
  refine List.forall_mem_cons.mpr ⟨zs_iload_n dX8_entry_11 rfl, ?_⟩
  refine List.forall_mem_cons.mpr ⟨zs_iald dX8_entry_12, ?_⟩
  refine List.forall_mem_cons.mpr ⟨zs_goto dX8_entry_13 (by decide), ?_⟩
  refine List.forall_mem_cons.mpr ⟨zs_iconst dX8_entry_16 (by decide), ?_⟩
  refine List.forall_mem_cons.mpr ⟨zs_reti (ty := .int) rfl (fun x h => (zni x h).1) dX8_entry_17, ?_⟩
  exact fun _ h => absurd h List.not_mem_nil
theorem zM_X8_entry : zMeets zEC yX8_entry wsX8_entry zR_X8_entry m_X8_entry := zmeth_M zECok (zlook_all (zcs_X8_entry rfl)) (by decide +kernel) rfl
theorem zr_X8_entry_0 (a0 : Option zAV) (st : List zAV) (s : zAS) (k : Nat × Nat) (x : Int32) : zev zk_X8_entry (0, [a0, some (Sum.inl (Value.int x))], st, s, k) = zev zk_X8_entry (1, [a0, some (Sum.inl (Value.int x))], Sum.inl (Value.int x) :: st, s, k) := zev_go rfl rfl
theorem zr_X8_entry_1 (ls : zLs) (st : List zAV) (s : zAS) (k : Nat × Nat) (x : Int32) : zev zk_X8_entry (1, ls, Sum.inl (Value.int x) :: st, s, k) = if decide (x < 0) = true then zev zk_X8_entry (16, ls, st, s, k) else zev zk_X8_entry (4, ls, st, s, k) := zf_if (f := fun x => decide (x < 0)) rfl
theorem zr_X8_entry_4 (a0 : Option zAV) (st : List zAV) (s : zAS) (k : Nat × Nat) (x : Int32) : zev zk_X8_entry (4, [a0, some (Sum.inl (Value.int x))], st, s, k) = zev zk_X8_entry (5, [a0, some (Sum.inl (Value.int x))], Sum.inl (Value.int x) :: st, s, k) := zev_go rfl rfl
theorem zr_X8_entry_5 (a1 : Option zAV) (st : List zAV) (s : zAS) (k : Nat × Nat) (o : Nat × Nat) : zev zk_X8_entry (5, [some (Sum.inr o), a1], st, s, k) = zev zk_X8_entry (6, [some (Sum.inr o), a1], Sum.inr o :: st, s, k) := zev_go rfl rfl
theorem zr_X8_entry_6 (ls : zLs) (st : List zAV) (s : zAS) (k : Nat × Nat) (o i : Nat) : zev zk_X8_entry (6, ls, Sum.inr (o, i) :: st, s, k) = zpush zk_X8_entry 7 ls st s k (zalen zEC o i s.2) := zf_alen rfl
theorem zr_X8_entry_7 (ls : zLs) (st : List zAV) (s : zAS) (k : Nat × Nat) (x y : Int32) : zev zk_X8_entry (7, ls, Sum.inl (Value.int y) :: Sum.inl (Value.int x) :: st, s, k) = if decide (y ≤ x) = true then zev zk_X8_entry (16, ls, st, s, k) else zev zk_X8_entry (10, ls, st, s, k) := zf_cmp (f := fun x y => decide (y ≤ x)) rfl
theorem zr_X8_entry_10 (a1 : Option zAV) (st : List zAV) (s : zAS) (k : Nat × Nat) (o : Nat × Nat) : zev zk_X8_entry (10, [some (Sum.inr o), a1], st, s, k) = zev zk_X8_entry (11, [some (Sum.inr o), a1], Sum.inr o :: st, s, k) := zev_go rfl rfl
theorem zr_X8_entry_11 (a0 : Option zAV) (st : List zAV) (s : zAS) (k : Nat × Nat) (x : Int32) : zev zk_X8_entry (11, [a0, some (Sum.inl (Value.int x))], st, s, k) = zev zk_X8_entry (12, [a0, some (Sum.inl (Value.int x))], Sum.inl (Value.int x) :: st, s, k) := zev_go rfl rfl
theorem zr_X8_entry_12 (ls : zLs) (st : List zAV) (s : zAS) (k : Nat × Nat) (o i : Nat) (j : Int32) : zev zk_X8_entry (12, ls, Sum.inl (Value.int j) :: Sum.inr (o, i) :: st, s, k) = zpush zk_X8_entry 13 ls st s k (zald zEC o i j s) := zf_iald rfl
theorem zr_X8_entry_13 (ls : zLs) (st : List zAV) (s : zAS) (k : Nat × Nat) : zev zk_X8_entry (13, ls, st, s, k) = zev zk_X8_entry (17, ls, st, s, k) := zev_go rfl rfl
theorem zr_X8_entry_16 (ls : zLs) (st : List zAV) (s : zAS) (k : Nat × Nat) : zev zk_X8_entry (16, ls, st, s, k) = zev zk_X8_entry (17, ls, Sum.inl (Value.int (-1)) :: st, s, k) := zev_go rfl rfl
theorem zr_X8_entry_17 (ls : zLs) (s : zAS) (k : Nat × Nat) (x : Int32) : zev zk_X8_entry (17, ls, [Sum.inl (Value.int x)], s, k) = some (.inl (some (Sum.inl (Value.int x))), s) := zf_reti rfl
/-! X8_isWayToMake: PrimePlane.isWayToMake(I)Z -/
abbrev zR_X8_isWayToMake : Room := ({ frames := 1, cells := 0, slots := 0, locals := 21 } : Room)
noncomputable def zl_X8_isWayToMake : List (Nat × zOp) := [(0, z_ldi 0 1), (1, z_ic (1) 2), (2, z_cmp (fun x y => decide (x ≤ y)) 28 5), (5, z_ldi 0 6), (6, z_ic (22) 8), (8, z_cmp (fun x y => decide (y < x)) 28 11), (11, z_sget 0 14), (14, z_ic (3) 15), (15, z_ldi 0 16), (16, z_bin (fun x y => x * y) 17), (17, z_callS m_X8_entry 2 0 0 (zR_X8_isWayToMake).cells (zR_X8_isWayToMake).slots 20), (20, z_ic (-1) 21), (21, z_cmp (fun x y => decide (x = y)) 28 24), (24, z_ic (1) 25), (25, z_goto 29), (28, z_ic (0) 29), (29, z_reti true)]
noncomputable def zk_X8_isWayToMake (pc : Nat) : Option zOp := zlook zl_X8_isWayToMake pc
noncomputable def m_X8_isWayToMake : List zAV → zAS → Option zOut := zmeth zk_X8_isWayToMake 1
set_option maxRecDepth 100000 in
set_option maxHeartbeats 4000000 in
theorem zcs_X8_isWayToMake {R : Room} (hR : R = zR_X8_isWayToMake) : ∀ q ∈ zl_X8_isWayToMake, zS zEC yX8_isWayToMake.cls cX8_isWayToMake 1 wsX8_isWayToMake (some .boolean) R q.1 q.2 := by
  subst hR
  refine List.forall_mem_cons.mpr ⟨zs_iload_n dX8_isWayToMake_0 rfl, ?_⟩
  refine List.forall_mem_cons.mpr ⟨zs_iconst dX8_isWayToMake_1 (by decide), ?_⟩
  refine List.forall_mem_cons.mpr ⟨zs_icle dX8_isWayToMake_2 (by decide), ?_⟩
  refine List.forall_mem_cons.mpr ⟨zs_iload_n dX8_isWayToMake_5 rfl, ?_⟩
  refine List.forall_mem_cons.mpr ⟨zs_bipush dX8_isWayToMake_6 (by decide), ?_⟩
  refine List.forall_mem_cons.mpr ⟨zs_icgt dX8_isWayToMake_8 (by decide), ?_⟩
  refine List.forall_mem_cons.mpr ⟨zs_sget (index := 145) (t := 0) (C := "PrimePlane") (n := "PARENTS") (by decide) (List.mem_of_getElem? (i := 1) rfl) dX8_isWayToMake_11, ?_⟩
  refine List.forall_mem_cons.mpr ⟨zs_iconst dX8_isWayToMake_14 (by decide), ?_⟩
  refine List.forall_mem_cons.mpr ⟨zs_iload_n dX8_isWayToMake_15 rfl, ?_⟩
  refine List.forall_mem_cons.mpr ⟨zs_imul dX8_isWayToMake_16, ?_⟩
  refine List.forall_mem_cons.mpr ⟨zs_callS (rm := zR_X8_entry) (n := 2) zM_X8_entry gX8_isWayToMake_X8_entry rfl (by decide +kernel) ⟨by decide, by decide⟩ dX8_isWayToMake_17, ?_⟩
  refine List.forall_mem_cons.mpr ⟨zs_iconst dX8_isWayToMake_20 (by decide), ?_⟩
  refine List.forall_mem_cons.mpr ⟨zs_iceq dX8_isWayToMake_21 (by decide), ?_⟩
  refine List.forall_mem_cons.mpr ⟨zs_iconst dX8_isWayToMake_24 (by decide), ?_⟩
  refine List.forall_mem_cons.mpr ⟨zs_goto dX8_isWayToMake_25 (by decide), ?_⟩
  refine List.forall_mem_cons.mpr ⟨zs_iconst dX8_isWayToMake_28 (by decide), ?_⟩
  refine List.forall_mem_cons.mpr ⟨zs_reti (ty := .boolean) rfl (fun x h => (znz x h).1) dX8_isWayToMake_29, ?_⟩
  exact fun _ h => absurd h List.not_mem_nil
theorem zM_X8_isWayToMake : zMeets zEC yX8_isWayToMake wsX8_isWayToMake zR_X8_isWayToMake m_X8_isWayToMake := zmeth_M zECok (zlook_all (zcs_X8_isWayToMake rfl)) (by decide +kernel) rfl
theorem zr_X8_isWayToMake_0 (st : List zAV) (s : zAS) (k : Nat × Nat) (x : Int32) : zev zk_X8_isWayToMake (0, [some (Sum.inl (Value.int x))], st, s, k) = zev zk_X8_isWayToMake (1, [some (Sum.inl (Value.int x))], Sum.inl (Value.int x) :: st, s, k) := zev_go rfl rfl
theorem zr_X8_isWayToMake_1 (ls : zLs) (st : List zAV) (s : zAS) (k : Nat × Nat) : zev zk_X8_isWayToMake (1, ls, st, s, k) = zev zk_X8_isWayToMake (2, ls, Sum.inl (Value.int (1)) :: st, s, k) := zev_go rfl rfl
theorem zr_X8_isWayToMake_2 (ls : zLs) (st : List zAV) (s : zAS) (k : Nat × Nat) (x y : Int32) : zev zk_X8_isWayToMake (2, ls, Sum.inl (Value.int y) :: Sum.inl (Value.int x) :: st, s, k) = if decide (x ≤ y) = true then zev zk_X8_isWayToMake (28, ls, st, s, k) else zev zk_X8_isWayToMake (5, ls, st, s, k) := zf_cmp (f := fun x y => decide (x ≤ y)) rfl
theorem zr_X8_isWayToMake_5 (st : List zAV) (s : zAS) (k : Nat × Nat) (x : Int32) : zev zk_X8_isWayToMake (5, [some (Sum.inl (Value.int x))], st, s, k) = zev zk_X8_isWayToMake (6, [some (Sum.inl (Value.int x))], Sum.inl (Value.int x) :: st, s, k) := zev_go rfl rfl
theorem zr_X8_isWayToMake_6 (ls : zLs) (st : List zAV) (s : zAS) (k : Nat × Nat) : zev zk_X8_isWayToMake (6, ls, st, s, k) = zev zk_X8_isWayToMake (8, ls, Sum.inl (Value.int (22)) :: st, s, k) := zev_go rfl rfl
theorem zr_X8_isWayToMake_8 (ls : zLs) (st : List zAV) (s : zAS) (k : Nat × Nat) (x y : Int32) : zev zk_X8_isWayToMake (8, ls, Sum.inl (Value.int y) :: Sum.inl (Value.int x) :: st, s, k) = if decide (y < x) = true then zev zk_X8_isWayToMake (28, ls, st, s, k) else zev zk_X8_isWayToMake (11, ls, st, s, k) := zf_cmp (f := fun x y => decide (y < x)) rfl
theorem zr_X8_isWayToMake_11 (ls : zLs) (st : List zAV) (s : zAS) (k : Nat × Nat) : zev zk_X8_isWayToMake (11, ls, st, s, k) = zev zk_X8_isWayToMake (14, ls, Sum.inr (98, 0) :: st, s, k) := zev_go rfl rfl
theorem zr_X8_isWayToMake_14 (ls : zLs) (st : List zAV) (s : zAS) (k : Nat × Nat) : zev zk_X8_isWayToMake (14, ls, st, s, k) = zev zk_X8_isWayToMake (15, ls, Sum.inl (Value.int (3)) :: st, s, k) := zev_go rfl rfl
theorem zr_X8_isWayToMake_15 (st : List zAV) (s : zAS) (k : Nat × Nat) (x : Int32) : zev zk_X8_isWayToMake (15, [some (Sum.inl (Value.int x))], st, s, k) = zev zk_X8_isWayToMake (16, [some (Sum.inl (Value.int x))], Sum.inl (Value.int x) :: st, s, k) := zev_go rfl rfl
theorem zr_X8_isWayToMake_16 (ls : zLs) (st : List zAV) (s : zAS) (k : Nat × Nat) (x y : Int32) : zev zk_X8_isWayToMake (16, ls, Sum.inl (Value.int y) :: Sum.inl (Value.int x) :: st, s, k) = zev zk_X8_isWayToMake (17, ls, Sum.inl (Value.int (x * y)) :: st, s, k) := zev_go rfl rfl
theorem zr_X8_isWayToMake_17 (ls : zLs) (st : List zAV) (s : zAS) (k : Nat × Nat) (v0 v1 : zAV) (h : (st.map zcat).sum ≤ 8 ∧ k.1 + 0 ≤ (zR_X8_isWayToMake).cells ∧ k.2 + 0 ≤ (zR_X8_isWayToMake).slots) : zev zk_X8_isWayToMake (17, ls, v1 :: v0 :: st, s, k) = zret zk_X8_isWayToMake 20 ls st (k.1 + 0, k.2 + 0) (m_X8_entry [v0, v1] s) := zf_callS (as := [v1, v0]) 2 rfl rfl h
theorem zr_X8_isWayToMake_20 (ls : zLs) (st : List zAV) (s : zAS) (k : Nat × Nat) : zev zk_X8_isWayToMake (20, ls, st, s, k) = zev zk_X8_isWayToMake (21, ls, Sum.inl (Value.int (-1)) :: st, s, k) := zev_go rfl rfl
theorem zr_X8_isWayToMake_21 (ls : zLs) (st : List zAV) (s : zAS) (k : Nat × Nat) (x y : Int32) : zev zk_X8_isWayToMake (21, ls, Sum.inl (Value.int y) :: Sum.inl (Value.int x) :: st, s, k) = if decide (x = y) = true then zev zk_X8_isWayToMake (28, ls, st, s, k) else zev zk_X8_isWayToMake (24, ls, st, s, k) := zf_cmp (f := fun x y => decide (x = y)) rfl
theorem zr_X8_isWayToMake_24 (ls : zLs) (st : List zAV) (s : zAS) (k : Nat × Nat) : zev zk_X8_isWayToMake (24, ls, st, s, k) = zev zk_X8_isWayToMake (25, ls, Sum.inl (Value.int (1)) :: st, s, k) := zev_go rfl rfl
theorem zr_X8_isWayToMake_25 (ls : zLs) (st : List zAV) (s : zAS) (k : Nat × Nat) : zev zk_X8_isWayToMake (25, ls, st, s, k) = zev zk_X8_isWayToMake (29, ls, st, s, k) := zev_go rfl rfl
theorem zr_X8_isWayToMake_28 (ls : zLs) (st : List zAV) (s : zAS) (k : Nat × Nat) : zev zk_X8_isWayToMake (28, ls, st, s, k) = zev zk_X8_isWayToMake (29, ls, Sum.inl (Value.int (0)) :: st, s, k) := zev_go rfl rfl
theorem zr_X8_isWayToMake_29 (ls : zLs) (s : zAS) (k : Nat × Nat) (x : Int32) (hx : x = 0 ∨ x = 1) : zev zk_X8_isWayToMake (29, ls, [Sum.inl (Value.int x)], s, k) = some (.inl (some (Sum.inl (Value.int x))), s) := zf_retz rfl hx
/-! X8_isThere: PrimePlane.isThere(II)Z -/
abbrev zR_X8_isThere : Room := ({ frames := 1, cells := 0, slots := 0, locals := 21 } : Room)
noncomputable def zl_X8_isThere : List (Nat × zOp) := [(0, z_ldi 2 1), (1, z_ic (-1) 2), (2, z_cmp (fun x y => decide (x = y)) 16 5), (5, z_lda 0 6), (6, z_get zEC 8 3 9), (9, z_ldi 1 10), (10, z_callV zEC 6 m_X6_has 1 0 0 (zR_X8_isThere).cells (zR_X8_isThere).slots 13), (13, z_if (fun x => decide (x = 0)) 20 16), (16, z_ic (1) 17), (17, z_goto 21), (20, z_ic (0) 21), (21, z_reti true)]
noncomputable def zk_X8_isThere (pc : Nat) : Option zOp := zlook zl_X8_isThere pc
noncomputable def m_X8_isThere : List zAV → zAS → Option zOut := zmeth zk_X8_isThere 3
set_option maxRecDepth 100000 in
set_option maxHeartbeats 4000000 in
theorem zcs_X8_isThere {R : Room} (hR : R = zR_X8_isThere) : ∀ q ∈ zl_X8_isThere, zS zEC yX8_isThere.cls cX8_isThere 3 wsX8_isThere (some .boolean) R q.1 q.2 := by
  subst hR
  have hin8 : ∀ w ∈ wsX80, w ∈ wsX8_isThere := fun w h => List.mem_cons_of_mem _ (List.mem_append_left _ (List.mem_append_right _ h))
  refine List.forall_mem_cons.mpr ⟨zs_iload_n dX8_isThere_0 rfl, ?_⟩
  refine List.forall_mem_cons.mpr ⟨zs_iconst dX8_isThere_1 (by decide), ?_⟩
  refine List.forall_mem_cons.mpr ⟨zs_iceq dX8_isThere_2 (by decide), ?_⟩
  refine List.forall_mem_cons.mpr ⟨zs_aload_n dX8_isThere_5 rfl, ?_⟩
  refine List.forall_mem_cons.mpr ⟨zs_get (ci := 8) (j := 3) (N := 6) (C := RX8) (T := TX8) (index := 31) rfl (by decide) hin8 (List.mem_of_getElem? (i := 1) rfl) dX8_isThere_6, ?_⟩
  refine List.forall_mem_cons.mpr ⟨zs_iload_n dX8_isThere_9 rfl, ?_⟩
  refine List.forall_mem_cons.mpr ⟨zs_callV (ci := 6) (rm := zR_X6_has) (n := 1) rfl zM_X6_has gX8_isThere_X6_has rfl (by decide +kernel) ⟨by decide, by decide⟩ dX8_isThere_10, ?_⟩
  refine List.forall_mem_cons.mpr ⟨zs_ifeq dX8_isThere_13 (by decide), ?_⟩
  refine List.forall_mem_cons.mpr ⟨zs_iconst dX8_isThere_16 (by decide), ?_⟩
  refine List.forall_mem_cons.mpr ⟨zs_goto dX8_isThere_17 (by decide), ?_⟩
  refine List.forall_mem_cons.mpr ⟨zs_iconst dX8_isThere_20 (by decide), ?_⟩
  refine List.forall_mem_cons.mpr ⟨zs_reti (ty := .boolean) rfl (fun x h => (znz x h).1) dX8_isThere_21, ?_⟩
  exact fun _ h => absurd h List.not_mem_nil
theorem zM_X8_isThere : zMeets zEC yX8_isThere wsX8_isThere zR_X8_isThere m_X8_isThere := zmeth_M zECok (zlook_all (zcs_X8_isThere rfl)) (by decide +kernel) rfl
theorem zr_X8_isThere_0 (a0 a1 : Option zAV) (st : List zAV) (s : zAS) (k : Nat × Nat) (x : Int32) : zev zk_X8_isThere (0, [a0, a1, some (Sum.inl (Value.int x))], st, s, k) = zev zk_X8_isThere (1, [a0, a1, some (Sum.inl (Value.int x))], Sum.inl (Value.int x) :: st, s, k) := zev_go rfl rfl
theorem zr_X8_isThere_1 (ls : zLs) (st : List zAV) (s : zAS) (k : Nat × Nat) : zev zk_X8_isThere (1, ls, st, s, k) = zev zk_X8_isThere (2, ls, Sum.inl (Value.int (-1)) :: st, s, k) := zev_go rfl rfl
theorem zr_X8_isThere_2 (ls : zLs) (st : List zAV) (s : zAS) (k : Nat × Nat) (x y : Int32) : zev zk_X8_isThere (2, ls, Sum.inl (Value.int y) :: Sum.inl (Value.int x) :: st, s, k) = if decide (x = y) = true then zev zk_X8_isThere (16, ls, st, s, k) else zev zk_X8_isThere (5, ls, st, s, k) := zf_cmp (f := fun x y => decide (x = y)) rfl
theorem zr_X8_isThere_5 (a1 a2 : Option zAV) (st : List zAV) (s : zAS) (k : Nat × Nat) (o : Nat × Nat) : zev zk_X8_isThere (5, [some (Sum.inr o), a1, a2], st, s, k) = zev zk_X8_isThere (6, [some (Sum.inr o), a1, a2], Sum.inr o :: st, s, k) := zev_go rfl rfl
theorem zr_X8_isThere_6 (ls : zLs) (st : List zAV) (s : zAS) (k : Nat × Nat) (o i : Nat) : zev zk_X8_isThere (6, ls, Sum.inr (o, i) :: st, s, k) = zpush zk_X8_isThere 9 ls st s k (zgv zEC 8 3 o i s.1) := zf_get rfl
theorem zr_X8_isThere_9 (a0 a2 : Option zAV) (st : List zAV) (s : zAS) (k : Nat × Nat) (x : Int32) : zev zk_X8_isThere (9, [a0, some (Sum.inl (Value.int x)), a2], st, s, k) = zev zk_X8_isThere (10, [a0, some (Sum.inl (Value.int x)), a2], Sum.inl (Value.int x) :: st, s, k) := zev_go rfl rfl
theorem zr_X8_isThere_10 (ls : zLs) (st : List zAV) (s : zAS) (k : Nat × Nat) (r v0 : zAV) (h : zcok zEC 6 0 0 (zR_X8_isThere).cells (zR_X8_isThere).slots r st k) : zev zk_X8_isThere (10, ls, v0 :: r :: st, s, k) = zret zk_X8_isThere 13 ls st (k.1 + 0, k.2 + 0) (m_X6_has [r, v0] s) := zf_callV (as := [v0]) 1 rfl rfl h
theorem zr_X8_isThere_13 (ls : zLs) (st : List zAV) (s : zAS) (k : Nat × Nat) (x : Int32) : zev zk_X8_isThere (13, ls, Sum.inl (Value.int x) :: st, s, k) = if decide (x = 0) = true then zev zk_X8_isThere (20, ls, st, s, k) else zev zk_X8_isThere (16, ls, st, s, k) := zf_if (f := fun x => decide (x = 0)) rfl
theorem zr_X8_isThere_16 (ls : zLs) (st : List zAV) (s : zAS) (k : Nat × Nat) : zev zk_X8_isThere (16, ls, st, s, k) = zev zk_X8_isThere (17, ls, Sum.inl (Value.int (1)) :: st, s, k) := zev_go rfl rfl
theorem zr_X8_isThere_17 (ls : zLs) (st : List zAV) (s : zAS) (k : Nat × Nat) : zev zk_X8_isThere (17, ls, st, s, k) = zev zk_X8_isThere (21, ls, st, s, k) := zev_go rfl rfl
theorem zr_X8_isThere_20 (ls : zLs) (st : List zAV) (s : zAS) (k : Nat × Nat) : zev zk_X8_isThere (20, ls, st, s, k) = zev zk_X8_isThere (21, ls, Sum.inl (Value.int (0)) :: st, s, k) := zev_go rfl rfl
theorem zr_X8_isThere_21 (ls : zLs) (s : zAS) (k : Nat × Nat) (x : Int32) (hx : x = 0 ∨ x = 1) : zev zk_X8_isThere (21, ls, [Sum.inl (Value.int x)], s, k) = some (.inl (some (Sum.inl (Value.int x))), s) := zf_retz rfl hx
/-! X8_fits: PrimePlane.fits(II)Z -/
abbrev zR_X8_fits : Room := ({ frames := 1, cells := 0, slots := 0, locals := 22 } : Room)
noncomputable def zl_X8_fits : List (Nat × zOp) := [(0, z_ldi 2 1), (1, z_ic (-1) 2), (2, z_cmp (fun x y => decide (¬ x = y)) 15 5), (5, z_ldi 1 6), (6, z_if (fun x => decide (¬ x = 0)) 13 9), (9, z_ic (1) 10), (10, z_goto 14), (13, z_ic (0) 14), (14, z_reti true), (15, z_ldi 2 16), (16, z_ic (3) 17), (17, z_cmp (fun x y => decide (x = y)) 35 20), (20, z_lda 0 21), (21, z_get zEC 8 3 24), (24, z_ldi 1 25), (25, z_callV zEC 6 m_X6_at 1 0 0 (zR_X8_fits).cells (zR_X8_fits).slots 28), (28, z_callV zEC 4 m_X4_sort 0 0 0 (zR_X8_fits).cells (zR_X8_fits).slots 31), (31, z_ldi 2 32), (32, z_cmp (fun x y => decide (¬ x = y)) 39 35), (35, z_ic (1) 36), (36, z_goto 40), (39, z_ic (0) 40), (40, z_reti true)]
noncomputable def zk_X8_fits (pc : Nat) : Option zOp := zlook zl_X8_fits pc
noncomputable def m_X8_fits : List zAV → zAS → Option zOut := zmeth zk_X8_fits 3
set_option maxRecDepth 100000 in
set_option maxHeartbeats 4000000 in
theorem zcs_X8_fits {R : Room} (hR : R = zR_X8_fits) : ∀ q ∈ zl_X8_fits, zS zEC yX8_fits.cls cX8_fits 3 wsX8_fits (some .boolean) R q.1 q.2 := by
  subst hR
  have hin8 : ∀ w ∈ wsX80, w ∈ wsX8_fits := fun w h => List.mem_cons_of_mem _ (List.mem_append_left _ (List.mem_append_left _ (List.mem_append_right _ h)))
  refine List.forall_mem_cons.mpr ⟨zs_iload_n dX8_fits_0 rfl, ?_⟩
  refine List.forall_mem_cons.mpr ⟨zs_iconst dX8_fits_1 (by decide), ?_⟩
  refine List.forall_mem_cons.mpr ⟨zs_icne dX8_fits_2 (by decide), ?_⟩
  refine List.forall_mem_cons.mpr ⟨zs_iload_n dX8_fits_5 rfl, ?_⟩
  refine List.forall_mem_cons.mpr ⟨zs_ifne dX8_fits_6 (by decide), ?_⟩
  refine List.forall_mem_cons.mpr ⟨zs_iconst dX8_fits_9 (by decide), ?_⟩
  refine List.forall_mem_cons.mpr ⟨zs_goto dX8_fits_10 (by decide), ?_⟩
  refine List.forall_mem_cons.mpr ⟨zs_iconst dX8_fits_13 (by decide), ?_⟩
  refine List.forall_mem_cons.mpr ⟨zs_reti (ty := .boolean) rfl (fun x h => (znz x h).1) dX8_fits_14, ?_⟩
  refine List.forall_mem_cons.mpr ⟨zs_iload_n dX8_fits_15 rfl, ?_⟩
  refine List.forall_mem_cons.mpr ⟨zs_iconst dX8_fits_16 (by decide), ?_⟩
  refine List.forall_mem_cons.mpr ⟨zs_iceq dX8_fits_17 (by decide), ?_⟩
  refine List.forall_mem_cons.mpr ⟨zs_aload_n dX8_fits_20 rfl, ?_⟩
  refine List.forall_mem_cons.mpr ⟨zs_get (ci := 8) (j := 3) (N := 6) (C := RX8) (T := TX8) (index := 31) rfl (by decide) hin8 (List.mem_of_getElem? (i := 1) rfl) dX8_fits_21, ?_⟩
  refine List.forall_mem_cons.mpr ⟨zs_iload_n dX8_fits_24 rfl, ?_⟩
  refine List.forall_mem_cons.mpr ⟨zs_callV (ci := 6) (rm := zR_X6_at) (n := 1) rfl zM_X6_at gX8_fits_X6_at rfl (by decide +kernel) ⟨by decide, by decide⟩ dX8_fits_25, ?_⟩
  refine List.forall_mem_cons.mpr ⟨zs_callV (ci := 4) (rm := zR_X4_sort) (n := 0) rfl zM_X4_sort gX8_fits_X4_sort rfl (by decide +kernel) ⟨by decide, by decide⟩ dX8_fits_28, ?_⟩
  refine List.forall_mem_cons.mpr ⟨zs_iload_n dX8_fits_31 rfl, ?_⟩
  refine List.forall_mem_cons.mpr ⟨zs_icne dX8_fits_32 (by decide), ?_⟩
  refine List.forall_mem_cons.mpr ⟨zs_iconst dX8_fits_35 (by decide), ?_⟩
  refine List.forall_mem_cons.mpr ⟨zs_goto dX8_fits_36 (by decide), ?_⟩
  refine List.forall_mem_cons.mpr ⟨zs_iconst dX8_fits_39 (by decide), ?_⟩
  refine List.forall_mem_cons.mpr ⟨zs_reti (ty := .boolean) rfl (fun x h => (znz x h).1) dX8_fits_40, ?_⟩
  exact fun _ h => absurd h List.not_mem_nil
theorem zM_X8_fits : zMeets zEC yX8_fits wsX8_fits zR_X8_fits m_X8_fits := zmeth_M zECok (zlook_all (zcs_X8_fits rfl)) (by decide +kernel) rfl
theorem zr_X8_fits_0 (a0 a1 : Option zAV) (st : List zAV) (s : zAS) (k : Nat × Nat) (x : Int32) : zev zk_X8_fits (0, [a0, a1, some (Sum.inl (Value.int x))], st, s, k) = zev zk_X8_fits (1, [a0, a1, some (Sum.inl (Value.int x))], Sum.inl (Value.int x) :: st, s, k) := zev_go rfl rfl
theorem zr_X8_fits_1 (ls : zLs) (st : List zAV) (s : zAS) (k : Nat × Nat) : zev zk_X8_fits (1, ls, st, s, k) = zev zk_X8_fits (2, ls, Sum.inl (Value.int (-1)) :: st, s, k) := zev_go rfl rfl
theorem zr_X8_fits_2 (ls : zLs) (st : List zAV) (s : zAS) (k : Nat × Nat) (x y : Int32) : zev zk_X8_fits (2, ls, Sum.inl (Value.int y) :: Sum.inl (Value.int x) :: st, s, k) = if decide (¬ x = y) = true then zev zk_X8_fits (15, ls, st, s, k) else zev zk_X8_fits (5, ls, st, s, k) := zf_cmp (f := fun x y => decide (¬ x = y)) rfl
theorem zr_X8_fits_5 (a0 a2 : Option zAV) (st : List zAV) (s : zAS) (k : Nat × Nat) (x : Int32) : zev zk_X8_fits (5, [a0, some (Sum.inl (Value.int x)), a2], st, s, k) = zev zk_X8_fits (6, [a0, some (Sum.inl (Value.int x)), a2], Sum.inl (Value.int x) :: st, s, k) := zev_go rfl rfl
theorem zr_X8_fits_6 (ls : zLs) (st : List zAV) (s : zAS) (k : Nat × Nat) (x : Int32) : zev zk_X8_fits (6, ls, Sum.inl (Value.int x) :: st, s, k) = if decide (¬ x = 0) = true then zev zk_X8_fits (13, ls, st, s, k) else zev zk_X8_fits (9, ls, st, s, k) := zf_if (f := fun x => decide (¬ x = 0)) rfl
theorem zr_X8_fits_9 (ls : zLs) (st : List zAV) (s : zAS) (k : Nat × Nat) : zev zk_X8_fits (9, ls, st, s, k) = zev zk_X8_fits (10, ls, Sum.inl (Value.int (1)) :: st, s, k) := zev_go rfl rfl
theorem zr_X8_fits_10 (ls : zLs) (st : List zAV) (s : zAS) (k : Nat × Nat) : zev zk_X8_fits (10, ls, st, s, k) = zev zk_X8_fits (14, ls, st, s, k) := zev_go rfl rfl
theorem zr_X8_fits_13 (ls : zLs) (st : List zAV) (s : zAS) (k : Nat × Nat) : zev zk_X8_fits (13, ls, st, s, k) = zev zk_X8_fits (14, ls, Sum.inl (Value.int (0)) :: st, s, k) := zev_go rfl rfl
theorem zr_X8_fits_14 (ls : zLs) (s : zAS) (k : Nat × Nat) (x : Int32) (hx : x = 0 ∨ x = 1) : zev zk_X8_fits (14, ls, [Sum.inl (Value.int x)], s, k) = some (.inl (some (Sum.inl (Value.int x))), s) := zf_retz rfl hx
theorem zr_X8_fits_15 (a0 a1 : Option zAV) (st : List zAV) (s : zAS) (k : Nat × Nat) (x : Int32) : zev zk_X8_fits (15, [a0, a1, some (Sum.inl (Value.int x))], st, s, k) = zev zk_X8_fits (16, [a0, a1, some (Sum.inl (Value.int x))], Sum.inl (Value.int x) :: st, s, k) := zev_go rfl rfl
theorem zr_X8_fits_16 (ls : zLs) (st : List zAV) (s : zAS) (k : Nat × Nat) : zev zk_X8_fits (16, ls, st, s, k) = zev zk_X8_fits (17, ls, Sum.inl (Value.int (3)) :: st, s, k) := zev_go rfl rfl
theorem zr_X8_fits_17 (ls : zLs) (st : List zAV) (s : zAS) (k : Nat × Nat) (x y : Int32) : zev zk_X8_fits (17, ls, Sum.inl (Value.int y) :: Sum.inl (Value.int x) :: st, s, k) = if decide (x = y) = true then zev zk_X8_fits (35, ls, st, s, k) else zev zk_X8_fits (20, ls, st, s, k) := zf_cmp (f := fun x y => decide (x = y)) rfl
theorem zr_X8_fits_20 (a1 a2 : Option zAV) (st : List zAV) (s : zAS) (k : Nat × Nat) (o : Nat × Nat) : zev zk_X8_fits (20, [some (Sum.inr o), a1, a2], st, s, k) = zev zk_X8_fits (21, [some (Sum.inr o), a1, a2], Sum.inr o :: st, s, k) := zev_go rfl rfl
theorem zr_X8_fits_21 (ls : zLs) (st : List zAV) (s : zAS) (k : Nat × Nat) (o i : Nat) : zev zk_X8_fits (21, ls, Sum.inr (o, i) :: st, s, k) = zpush zk_X8_fits 24 ls st s k (zgv zEC 8 3 o i s.1) := zf_get rfl
theorem zr_X8_fits_24 (a0 a2 : Option zAV) (st : List zAV) (s : zAS) (k : Nat × Nat) (x : Int32) : zev zk_X8_fits (24, [a0, some (Sum.inl (Value.int x)), a2], st, s, k) = zev zk_X8_fits (25, [a0, some (Sum.inl (Value.int x)), a2], Sum.inl (Value.int x) :: st, s, k) := zev_go rfl rfl
theorem zr_X8_fits_25 (ls : zLs) (st : List zAV) (s : zAS) (k : Nat × Nat) (r v0 : zAV) (h : zcok zEC 6 0 0 (zR_X8_fits).cells (zR_X8_fits).slots r st k) : zev zk_X8_fits (25, ls, v0 :: r :: st, s, k) = zret zk_X8_fits 28 ls st (k.1 + 0, k.2 + 0) (m_X6_at [r, v0] s) := zf_callV (as := [v0]) 1 rfl rfl h
theorem zr_X8_fits_28 (ls : zLs) (st : List zAV) (s : zAS) (k : Nat × Nat) (r : zAV) (h : zcok zEC 4 0 0 (zR_X8_fits).cells (zR_X8_fits).slots r st k) : zev zk_X8_fits (28, ls, r :: st, s, k) = zret zk_X8_fits 31 ls st (k.1 + 0, k.2 + 0) (m_X4_sort [r] s) := zf_callV (as := []) 0 rfl rfl h
theorem zr_X8_fits_31 (a0 a1 : Option zAV) (st : List zAV) (s : zAS) (k : Nat × Nat) (x : Int32) : zev zk_X8_fits (31, [a0, a1, some (Sum.inl (Value.int x))], st, s, k) = zev zk_X8_fits (32, [a0, a1, some (Sum.inl (Value.int x))], Sum.inl (Value.int x) :: st, s, k) := zev_go rfl rfl
theorem zr_X8_fits_32 (ls : zLs) (st : List zAV) (s : zAS) (k : Nat × Nat) (x y : Int32) : zev zk_X8_fits (32, ls, Sum.inl (Value.int y) :: Sum.inl (Value.int x) :: st, s, k) = if decide (¬ x = y) = true then zev zk_X8_fits (39, ls, st, s, k) else zev zk_X8_fits (35, ls, st, s, k) := zf_cmp (f := fun x y => decide (¬ x = y)) rfl
theorem zr_X8_fits_35 (ls : zLs) (st : List zAV) (s : zAS) (k : Nat × Nat) : zev zk_X8_fits (35, ls, st, s, k) = zev zk_X8_fits (36, ls, Sum.inl (Value.int (1)) :: st, s, k) := zev_go rfl rfl
theorem zr_X8_fits_36 (ls : zLs) (st : List zAV) (s : zAS) (k : Nat × Nat) : zev zk_X8_fits (36, ls, st, s, k) = zev zk_X8_fits (40, ls, st, s, k) := zev_go rfl rfl
theorem zr_X8_fits_39 (ls : zLs) (st : List zAV) (s : zAS) (k : Nat × Nat) : zev zk_X8_fits (39, ls, st, s, k) = zev zk_X8_fits (40, ls, Sum.inl (Value.int (0)) :: st, s, k) := zev_go rfl rfl
theorem zr_X8_fits_40 (ls : zLs) (s : zAS) (k : Nat × Nat) (x : Int32) (hx : x = 0 ∨ x = 1) : zev zk_X8_fits (40, ls, [Sum.inl (Value.int x)], s, k) = some (.inl (some (Sum.inl (Value.int x))), s) := zf_retz rfl hx
/-! X8_make: PrimePlane.make(IIII)I -/
abbrev zR_X8_make : Room := ({ frames := 6, cells := 0, slots := 0, locals := 149 } : Room)
noncomputable def zl_X8_make : List (Nat × zOp) := [(0, z_ldi 1 1), (1, z_callS m_X8_isWayToMake 1 0 0 (zR_X8_make).cells (zR_X8_make).slots 4), (4, z_if (fun x => decide (¬ x = 0)) 17 7), (17, z_sget 0 20), (20, z_ic (3) 21), (21, z_ldi 1 22), (22, z_bin (fun x y => x * y) 23), (23, z_callS m_X8_entry 2 0 0 (zR_X8_make).cells (zR_X8_make).slots 26), (26, z_sti 5 28), (28, z_sget 0 31), (31, z_ic (3) 32), (32, z_ldi 1 33), (33, z_bin (fun x y => x * y) 34), (34, z_ic (1) 35), (35, z_bin (fun x y => x + y) 36), (36, z_callS m_X8_entry 2 0 0 (zR_X8_make).cells (zR_X8_make).slots 39), (39, z_sti 6 41), (41, z_sget 0 44), (44, z_ic (3) 45), (45, z_ldi 1 46), (46, z_bin (fun x y => x * y) 47), (47, z_ic (2) 48), (48, z_bin (fun x y => x + y) 49), (49, z_callS m_X8_entry 2 0 0 (zR_X8_make).cells (zR_X8_make).slots 52), (52, z_sti 7 54), (54, z_lda 0 55), (55, z_ldi 2 56), (56, z_ldi 5 58), (58, z_callV zEC 8 m_X8_isThere 2 0 0 (zR_X8_make).cells (zR_X8_make).slots 61), (61, z_if (fun x => decide (x = 0)) 85 64), (64, z_lda 0 65), (65, z_ldi 3 66), (66, z_ldi 6 68), (68, z_callV zEC 8 m_X8_isThere 2 0 0 (zR_X8_make).cells (zR_X8_make).slots 71), (71, z_if (fun x => decide (x = 0)) 85 74), (74, z_lda 0 75), (75, z_ldi 4 77), (77, z_ldi 7 79), (79, z_callV zEC 8 m_X8_isThere 2 0 0 (zR_X8_make).cells (zR_X8_make).slots 82), (82, z_if (fun x => decide (¬ x = 0)) 95 85), (95, z_lda 0 96), (96, z_ldi 2 97), (97, z_ldi 5 99), (99, z_callV zEC 8 m_X8_fits 2 0 0 (zR_X8_make).cells (zR_X8_make).slots 102), (102, z_if (fun x => decide (x = 0)) 126 105), (105, z_lda 0 106), (106, z_ldi 3 107), (107, z_ldi 6 109), (109, z_callV zEC 8 m_X8_fits 2 0 0 (zR_X8_make).cells (zR_X8_make).slots 112), (112, z_if (fun x => decide (x = 0)) 126 115), (115, z_lda 0 116), (116, z_ldi 4 118), (118, z_ldi 7 120), (120, z_callV zEC 8 m_X8_fits 2 0 0 (zR_X8_make).cells (zR_X8_make).slots 123), (123, z_if (fun x => decide (¬ x = 0)) 136 126), (136, z_lda 0 137), (137, z_get zEC 8 3 140), (140, z_get zEC 6 2 143), (143, z_ic (40) 145), (145, z_cmp (fun x y => decide (x < y)) 158 148), (158, z_lda 0 159), (159, z_get zEC 8 3 162), (162, z_callV zEC 6 m_X6_next 0 0 0 (zR_X8_make).cells (zR_X8_make).slots 165), (165, z_sta 8 167), (167, z_lda 8 169), (169, z_ldi 1 170), (170, z_ldi 2 171), (171, z_ldi 3 172), (172, z_ldi 7 174), (174, z_ic (-1) 175), (175, z_cmp (fun x y => decide (¬ x = y)) 182 178), (178, z_ic (-1) 179), (179, z_goto 184), (182, z_ldi 4 184), (184, z_callV zEC 4 m_X4_become 4 0 0 (zR_X8_make).cells (zR_X8_make).slots 187), (187, z_lda 0 188), (188, z_lda 8 190), (190, z_callV zEC 8 m_X8_remake 1 0 0 (zR_X8_make).cells (zR_X8_make).slots 193), (193, z_lda 8 195), (195, z_get zEC 4 0 198), (198, z_reti false)]
noncomputable def zk_X8_make (pc : Nat) : Option zOp := zlook zl_X8_make pc
noncomputable def m_X8_make : List zAV → zAS → Option zOut := zmeth zk_X8_make 9
set_option maxRecDepth 100000 in
set_option maxHeartbeats 4000000 in
theorem zcs_X8_make {R : Room} (hR : R = zR_X8_make) : ∀ q ∈ zl_X8_make, zS zEC yX8_make.cls cX8_make 9 wsX8_make (some .int) R q.1 q.2 := by
  subst hR
  have hin4 : ∀ w ∈ wsX40, w ∈ wsX8_make := fun w h => List.mem_cons_of_mem _ (List.mem_append_left _ (List.mem_append_left _ (List.mem_append_left _ (List.mem_append_left _ (List.mem_append_left _ (List.mem_append_right _ h))))))
  have hin6 : ∀ w ∈ wsX60, w ∈ wsX8_make := fun w h => List.mem_cons_of_mem _ (List.mem_append_left _ (List.mem_append_left _ (List.mem_append_left _ (List.mem_append_left _ (List.mem_append_left _ (List.mem_append_left _ (List.mem_append_right _ h)))))))
  have hin8 : ∀ w ∈ wsX80, w ∈ wsX8_make := fun w h => List.mem_cons_of_mem _ (List.mem_append_left _ (List.mem_append_left _ (List.mem_append_left _ (List.mem_append_left _ (List.mem_append_left _ (List.mem_append_left _ (List.mem_append_left _ (List.mem_append_right _ h))))))))
  refine List.forall_mem_cons.mpr ⟨zs_iload_n dX8_make_0 rfl, ?_⟩
  refine List.forall_mem_cons.mpr ⟨zs_callS (rm := zR_X8_isWayToMake) (n := 1) zM_X8_isWayToMake gX8_make_X8_isWayToMake rfl (by decide +kernel) ⟨by decide, by decide⟩ dX8_make_1, ?_⟩
  refine List.forall_mem_cons.mpr ⟨zs_ifne dX8_make_4 (by decide), ?_⟩
  refine List.forall_mem_cons.mpr ⟨zs_sget (index := 145) (t := 0) (C := "PrimePlane") (n := "PARENTS") (by decide) (List.mem_of_getElem? (i := 7) rfl) dX8_make_17, ?_⟩
  refine List.forall_mem_cons.mpr ⟨zs_iconst dX8_make_20 (by decide), ?_⟩
  refine List.forall_mem_cons.mpr ⟨zs_iload_n dX8_make_21 rfl, ?_⟩
  refine List.forall_mem_cons.mpr ⟨zs_imul dX8_make_22, ?_⟩
  refine List.forall_mem_cons.mpr ⟨zs_callS (rm := zR_X8_entry) (n := 2) zM_X8_entry gX8_make_X8_entry rfl (by decide +kernel) ⟨by decide, by decide⟩ dX8_make_23, ?_⟩
  refine List.forall_mem_cons.mpr ⟨zs_istore dX8_make_26, ?_⟩
  refine List.forall_mem_cons.mpr ⟨zs_sget (index := 145) (t := 0) (C := "PrimePlane") (n := "PARENTS") (by decide) (List.mem_of_getElem? (i := 7) rfl) dX8_make_28, ?_⟩
  refine List.forall_mem_cons.mpr ⟨zs_iconst dX8_make_31 (by decide), ?_⟩
  refine List.forall_mem_cons.mpr ⟨zs_iload_n dX8_make_32 rfl, ?_⟩
  refine List.forall_mem_cons.mpr ⟨zs_imul dX8_make_33, ?_⟩
  refine List.forall_mem_cons.mpr ⟨zs_iconst dX8_make_34 (by decide), ?_⟩
  refine List.forall_mem_cons.mpr ⟨zs_iadd dX8_make_35, ?_⟩
  refine List.forall_mem_cons.mpr ⟨zs_callS (rm := zR_X8_entry) (n := 2) zM_X8_entry gX8_make_X8_entry rfl (by decide +kernel) ⟨by decide, by decide⟩ dX8_make_36, ?_⟩
  refine List.forall_mem_cons.mpr ⟨zs_istore dX8_make_39, ?_⟩
  refine List.forall_mem_cons.mpr ⟨zs_sget (index := 145) (t := 0) (C := "PrimePlane") (n := "PARENTS") (by decide) (List.mem_of_getElem? (i := 7) rfl) dX8_make_41, ?_⟩
  refine List.forall_mem_cons.mpr ⟨zs_iconst dX8_make_44 (by decide), ?_⟩
  refine List.forall_mem_cons.mpr ⟨zs_iload_n dX8_make_45 rfl, ?_⟩
  refine List.forall_mem_cons.mpr ⟨zs_imul dX8_make_46, ?_⟩
  refine List.forall_mem_cons.mpr ⟨zs_iconst dX8_make_47 (by decide), ?_⟩
  refine List.forall_mem_cons.mpr ⟨zs_iadd dX8_make_48, ?_⟩
  refine List.forall_mem_cons.mpr ⟨zs_callS (rm := zR_X8_entry) (n := 2) zM_X8_entry gX8_make_X8_entry rfl (by decide +kernel) ⟨by decide, by decide⟩ dX8_make_49, ?_⟩
  refine List.forall_mem_cons.mpr ⟨zs_istore dX8_make_52, ?_⟩
  refine List.forall_mem_cons.mpr ⟨zs_aload_n dX8_make_54 rfl, ?_⟩
  refine List.forall_mem_cons.mpr ⟨zs_iload_n dX8_make_55 rfl, ?_⟩
  refine List.forall_mem_cons.mpr ⟨zs_iload dX8_make_56, ?_⟩
  refine List.forall_mem_cons.mpr ⟨zs_callV (ci := 8) (rm := zR_X8_isThere) (n := 2) rfl zM_X8_isThere gX8_make_X8_isThere rfl (by decide +kernel) ⟨by decide, by decide⟩ dX8_make_58, ?_⟩
  refine List.forall_mem_cons.mpr ⟨zs_ifeq dX8_make_61 (by decide), ?_⟩
  refine List.forall_mem_cons.mpr ⟨zs_aload_n dX8_make_64 rfl, ?_⟩
  refine List.forall_mem_cons.mpr ⟨zs_iload_n dX8_make_65 rfl, ?_⟩
  refine List.forall_mem_cons.mpr ⟨zs_iload dX8_make_66, ?_⟩
  refine List.forall_mem_cons.mpr ⟨zs_callV (ci := 8) (rm := zR_X8_isThere) (n := 2) rfl zM_X8_isThere gX8_make_X8_isThere rfl (by decide +kernel) ⟨by decide, by decide⟩ dX8_make_68, ?_⟩
  refine List.forall_mem_cons.mpr ⟨zs_ifeq dX8_make_71 (by decide), ?_⟩
  refine List.forall_mem_cons.mpr ⟨zs_aload_n dX8_make_74 rfl, ?_⟩
  refine List.forall_mem_cons.mpr ⟨zs_iload dX8_make_75, ?_⟩
  refine List.forall_mem_cons.mpr ⟨zs_iload dX8_make_77, ?_⟩
  refine List.forall_mem_cons.mpr ⟨zs_callV (ci := 8) (rm := zR_X8_isThere) (n := 2) rfl zM_X8_isThere gX8_make_X8_isThere rfl (by decide +kernel) ⟨by decide, by decide⟩ dX8_make_79, ?_⟩
  refine List.forall_mem_cons.mpr ⟨zs_ifne dX8_make_82 (by decide), ?_⟩
  refine List.forall_mem_cons.mpr ⟨zs_aload_n dX8_make_95 rfl, ?_⟩
  refine List.forall_mem_cons.mpr ⟨zs_iload_n dX8_make_96 rfl, ?_⟩
  refine List.forall_mem_cons.mpr ⟨zs_iload dX8_make_97, ?_⟩
  refine List.forall_mem_cons.mpr ⟨zs_callV (ci := 8) (rm := zR_X8_fits) (n := 2) rfl zM_X8_fits gX8_make_X8_fits rfl (by decide +kernel) ⟨by decide, by decide⟩ dX8_make_99, ?_⟩
  refine List.forall_mem_cons.mpr ⟨zs_ifeq dX8_make_102 (by decide), ?_⟩
  refine List.forall_mem_cons.mpr ⟨zs_aload_n dX8_make_105 rfl, ?_⟩
  refine List.forall_mem_cons.mpr ⟨zs_iload_n dX8_make_106 rfl, ?_⟩
  refine List.forall_mem_cons.mpr ⟨zs_iload dX8_make_107, ?_⟩
  refine List.forall_mem_cons.mpr ⟨zs_callV (ci := 8) (rm := zR_X8_fits) (n := 2) rfl zM_X8_fits gX8_make_X8_fits rfl (by decide +kernel) ⟨by decide, by decide⟩ dX8_make_109, ?_⟩
  refine List.forall_mem_cons.mpr ⟨zs_ifeq dX8_make_112 (by decide), ?_⟩
  refine List.forall_mem_cons.mpr ⟨zs_aload_n dX8_make_115 rfl, ?_⟩
  refine List.forall_mem_cons.mpr ⟨zs_iload dX8_make_116, ?_⟩
  refine List.forall_mem_cons.mpr ⟨zs_iload dX8_make_118, ?_⟩
  refine List.forall_mem_cons.mpr ⟨zs_callV (ci := 8) (rm := zR_X8_fits) (n := 2) rfl zM_X8_fits gX8_make_X8_fits rfl (by decide +kernel) ⟨by decide, by decide⟩ dX8_make_120, ?_⟩
  refine List.forall_mem_cons.mpr ⟨zs_ifne dX8_make_123 (by decide), ?_⟩
  refine List.forall_mem_cons.mpr ⟨zs_aload_n dX8_make_136 rfl, ?_⟩
  refine List.forall_mem_cons.mpr ⟨zs_get (ci := 8) (j := 3) (N := 6) (C := RX8) (T := TX8) (index := 31) rfl (by decide) hin8 (List.mem_of_getElem? (i := 8) rfl) dX8_make_137, ?_⟩
  refine List.forall_mem_cons.mpr ⟨zs_get (ci := 6) (j := 2) (N := 3) (C := RX6) (T := TX6) (index := 66) rfl (by decide) hin6 (List.mem_of_getElem? (i := 9) rfl) dX8_make_140, ?_⟩
  refine List.forall_mem_cons.mpr ⟨zs_bipush dX8_make_143 (by decide), ?_⟩
  refine List.forall_mem_cons.mpr ⟨zs_iclt dX8_make_145 (by decide), ?_⟩
  refine List.forall_mem_cons.mpr ⟨zs_aload_n dX8_make_158 rfl, ?_⟩
  refine List.forall_mem_cons.mpr ⟨zs_get (ci := 8) (j := 3) (N := 6) (C := RX8) (T := TX8) (index := 31) rfl (by decide) hin8 (List.mem_of_getElem? (i := 8) rfl) dX8_make_159, ?_⟩
  refine List.forall_mem_cons.mpr ⟨zs_callV (ci := 6) (rm := zR_X6_next) (n := 0) rfl zM_X6_next gX8_make_X6_next rfl (by decide +kernel) ⟨by decide, by decide⟩ dX8_make_162, ?_⟩
  refine List.forall_mem_cons.mpr ⟨zs_astore dX8_make_165, ?_⟩
  refine List.forall_mem_cons.mpr ⟨zs_aload dX8_make_167, ?_⟩
  refine List.forall_mem_cons.mpr ⟨zs_iload_n dX8_make_169 rfl, ?_⟩
  refine List.forall_mem_cons.mpr ⟨zs_iload_n dX8_make_170 rfl, ?_⟩
  refine List.forall_mem_cons.mpr ⟨zs_iload_n dX8_make_171 rfl, ?_⟩
  refine List.forall_mem_cons.mpr ⟨zs_iload dX8_make_172, ?_⟩
  refine List.forall_mem_cons.mpr ⟨zs_iconst dX8_make_174 (by decide), ?_⟩
  refine List.forall_mem_cons.mpr ⟨zs_icne dX8_make_175 (by decide), ?_⟩
  refine List.forall_mem_cons.mpr ⟨zs_iconst dX8_make_178 (by decide), ?_⟩
  refine List.forall_mem_cons.mpr ⟨zs_goto dX8_make_179 (by decide), ?_⟩
  refine List.forall_mem_cons.mpr ⟨zs_iload dX8_make_182, ?_⟩
  refine List.forall_mem_cons.mpr ⟨zs_callV (ci := 4) (rm := zR_X4_become) (n := 4) rfl zM_X4_become gX8_make_X4_become rfl (by decide +kernel) ⟨by decide, by decide⟩ dX8_make_184, ?_⟩
  refine List.forall_mem_cons.mpr ⟨zs_aload_n dX8_make_187 rfl, ?_⟩
  refine List.forall_mem_cons.mpr ⟨zs_aload dX8_make_188, ?_⟩
  refine List.forall_mem_cons.mpr ⟨zs_callV (ci := 8) (rm := zR_X8_remake) (n := 1) rfl zM_X8_remake gX8_make_X8_remake rfl (by decide +kernel) ⟨by decide, by decide⟩ dX8_make_190, ?_⟩
  refine List.forall_mem_cons.mpr ⟨zs_aload dX8_make_193, ?_⟩
  refine List.forall_mem_cons.mpr ⟨zs_get (ci := 4) (j := 0) (N := 13) (C := RX4) (T := TX4) (index := 137) rfl (by decide) hin4 (List.mem_of_getElem? (i := 10) rfl) dX8_make_195, ?_⟩
  refine List.forall_mem_cons.mpr ⟨zs_reti (ty := .int) rfl (fun x h => (zni x h).1) dX8_make_198, ?_⟩
  exact fun _ h => absurd h List.not_mem_nil
theorem zM_X8_make : zMeets zEC yX8_make wsX8_make zR_X8_make m_X8_make := zmeth_M zECok (zlook_all (zcs_X8_make rfl)) (by decide +kernel) rfl
theorem zr_X8_make_0 (a0 a2 a3 a4 a5 a6 a7 a8 : Option zAV) (st : List zAV) (s : zAS) (k : Nat × Nat) (x : Int32) : zev zk_X8_make (0, [a0, some (Sum.inl (Value.int x)), a2, a3, a4, a5, a6, a7, a8], st, s, k) = zev zk_X8_make (1, [a0, some (Sum.inl (Value.int x)), a2, a3, a4, a5, a6, a7, a8], Sum.inl (Value.int x) :: st, s, k) := zev_go rfl rfl
theorem zr_X8_make_1 (ls : zLs) (st : List zAV) (s : zAS) (k : Nat × Nat) (v0 : zAV) (h : (st.map zcat).sum ≤ 8 ∧ k.1 + 0 ≤ (zR_X8_make).cells ∧ k.2 + 0 ≤ (zR_X8_make).slots) : zev zk_X8_make (1, ls, v0 :: st, s, k) = zret zk_X8_make 4 ls st (k.1 + 0, k.2 + 0) (m_X8_isWayToMake [v0] s) := zf_callS (as := [v0]) 1 rfl rfl h
theorem zr_X8_make_4 (ls : zLs) (st : List zAV) (s : zAS) (k : Nat × Nat) (x : Int32) : zev zk_X8_make (4, ls, Sum.inl (Value.int x) :: st, s, k) = if decide (¬ x = 0) = true then zev zk_X8_make (17, ls, st, s, k) else zev zk_X8_make (7, ls, st, s, k) := zf_if (f := fun x => decide (¬ x = 0)) rfl
theorem zr_X8_make_17 (ls : zLs) (st : List zAV) (s : zAS) (k : Nat × Nat) : zev zk_X8_make (17, ls, st, s, k) = zev zk_X8_make (20, ls, Sum.inr (98, 0) :: st, s, k) := zev_go rfl rfl
theorem zr_X8_make_20 (ls : zLs) (st : List zAV) (s : zAS) (k : Nat × Nat) : zev zk_X8_make (20, ls, st, s, k) = zev zk_X8_make (21, ls, Sum.inl (Value.int (3)) :: st, s, k) := zev_go rfl rfl
theorem zr_X8_make_21 (a0 a2 a3 a4 a5 a6 a7 a8 : Option zAV) (st : List zAV) (s : zAS) (k : Nat × Nat) (x : Int32) : zev zk_X8_make (21, [a0, some (Sum.inl (Value.int x)), a2, a3, a4, a5, a6, a7, a8], st, s, k) = zev zk_X8_make (22, [a0, some (Sum.inl (Value.int x)), a2, a3, a4, a5, a6, a7, a8], Sum.inl (Value.int x) :: st, s, k) := zev_go rfl rfl
theorem zr_X8_make_22 (ls : zLs) (st : List zAV) (s : zAS) (k : Nat × Nat) (x y : Int32) : zev zk_X8_make (22, ls, Sum.inl (Value.int y) :: Sum.inl (Value.int x) :: st, s, k) = zev zk_X8_make (23, ls, Sum.inl (Value.int (x * y)) :: st, s, k) := zev_go rfl rfl
theorem zr_X8_make_23 (ls : zLs) (st : List zAV) (s : zAS) (k : Nat × Nat) (v0 v1 : zAV) (h : (st.map zcat).sum ≤ 8 ∧ k.1 + 0 ≤ (zR_X8_make).cells ∧ k.2 + 0 ≤ (zR_X8_make).slots) : zev zk_X8_make (23, ls, v1 :: v0 :: st, s, k) = zret zk_X8_make 26 ls st (k.1 + 0, k.2 + 0) (m_X8_entry [v0, v1] s) := zf_callS (as := [v1, v0]) 2 rfl rfl h
theorem zr_X8_make_26 (a0 a1 a2 a3 a4 a5 a6 a7 a8 : Option zAV) (st : List zAV) (s : zAS) (k : Nat × Nat) (x : Int32) : zev zk_X8_make (26, [a0, a1, a2, a3, a4, a5, a6, a7, a8], Sum.inl (Value.int x) :: st, s, k) = zev zk_X8_make (28, [a0, a1, a2, a3, zk1 a4, some (Sum.inl (Value.int x)), a6, a7, a8], st, s, k) := zev_go rfl rfl
theorem zr_X8_make_28 (ls : zLs) (st : List zAV) (s : zAS) (k : Nat × Nat) : zev zk_X8_make (28, ls, st, s, k) = zev zk_X8_make (31, ls, Sum.inr (98, 0) :: st, s, k) := zev_go rfl rfl
theorem zr_X8_make_31 (ls : zLs) (st : List zAV) (s : zAS) (k : Nat × Nat) : zev zk_X8_make (31, ls, st, s, k) = zev zk_X8_make (32, ls, Sum.inl (Value.int (3)) :: st, s, k) := zev_go rfl rfl
theorem zr_X8_make_32 (a0 a2 a3 a4 a5 a6 a7 a8 : Option zAV) (st : List zAV) (s : zAS) (k : Nat × Nat) (x : Int32) : zev zk_X8_make (32, [a0, some (Sum.inl (Value.int x)), a2, a3, a4, a5, a6, a7, a8], st, s, k) = zev zk_X8_make (33, [a0, some (Sum.inl (Value.int x)), a2, a3, a4, a5, a6, a7, a8], Sum.inl (Value.int x) :: st, s, k) := zev_go rfl rfl
theorem zr_X8_make_33 (ls : zLs) (st : List zAV) (s : zAS) (k : Nat × Nat) (x y : Int32) : zev zk_X8_make (33, ls, Sum.inl (Value.int y) :: Sum.inl (Value.int x) :: st, s, k) = zev zk_X8_make (34, ls, Sum.inl (Value.int (x * y)) :: st, s, k) := zev_go rfl rfl
theorem zr_X8_make_34 (ls : zLs) (st : List zAV) (s : zAS) (k : Nat × Nat) : zev zk_X8_make (34, ls, st, s, k) = zev zk_X8_make (35, ls, Sum.inl (Value.int (1)) :: st, s, k) := zev_go rfl rfl
theorem zr_X8_make_35 (ls : zLs) (st : List zAV) (s : zAS) (k : Nat × Nat) (x y : Int32) : zev zk_X8_make (35, ls, Sum.inl (Value.int y) :: Sum.inl (Value.int x) :: st, s, k) = zev zk_X8_make (36, ls, Sum.inl (Value.int (x + y)) :: st, s, k) := zev_go rfl rfl
theorem zr_X8_make_36 (ls : zLs) (st : List zAV) (s : zAS) (k : Nat × Nat) (v0 v1 : zAV) (h : (st.map zcat).sum ≤ 8 ∧ k.1 + 0 ≤ (zR_X8_make).cells ∧ k.2 + 0 ≤ (zR_X8_make).slots) : zev zk_X8_make (36, ls, v1 :: v0 :: st, s, k) = zret zk_X8_make 39 ls st (k.1 + 0, k.2 + 0) (m_X8_entry [v0, v1] s) := zf_callS (as := [v1, v0]) 2 rfl rfl h
theorem zr_X8_make_39 (a0 a1 a2 a3 a4 a5 a6 a7 a8 : Option zAV) (st : List zAV) (s : zAS) (k : Nat × Nat) (x : Int32) : zev zk_X8_make (39, [a0, a1, a2, a3, a4, a5, a6, a7, a8], Sum.inl (Value.int x) :: st, s, k) = zev zk_X8_make (41, [a0, a1, a2, a3, a4, zk1 a5, some (Sum.inl (Value.int x)), a7, a8], st, s, k) := zev_go rfl rfl
theorem zr_X8_make_41 (ls : zLs) (st : List zAV) (s : zAS) (k : Nat × Nat) : zev zk_X8_make (41, ls, st, s, k) = zev zk_X8_make (44, ls, Sum.inr (98, 0) :: st, s, k) := zev_go rfl rfl
theorem zr_X8_make_44 (ls : zLs) (st : List zAV) (s : zAS) (k : Nat × Nat) : zev zk_X8_make (44, ls, st, s, k) = zev zk_X8_make (45, ls, Sum.inl (Value.int (3)) :: st, s, k) := zev_go rfl rfl
theorem zr_X8_make_45 (a0 a2 a3 a4 a5 a6 a7 a8 : Option zAV) (st : List zAV) (s : zAS) (k : Nat × Nat) (x : Int32) : zev zk_X8_make (45, [a0, some (Sum.inl (Value.int x)), a2, a3, a4, a5, a6, a7, a8], st, s, k) = zev zk_X8_make (46, [a0, some (Sum.inl (Value.int x)), a2, a3, a4, a5, a6, a7, a8], Sum.inl (Value.int x) :: st, s, k) := zev_go rfl rfl
theorem zr_X8_make_46 (ls : zLs) (st : List zAV) (s : zAS) (k : Nat × Nat) (x y : Int32) : zev zk_X8_make (46, ls, Sum.inl (Value.int y) :: Sum.inl (Value.int x) :: st, s, k) = zev zk_X8_make (47, ls, Sum.inl (Value.int (x * y)) :: st, s, k) := zev_go rfl rfl
theorem zr_X8_make_47 (ls : zLs) (st : List zAV) (s : zAS) (k : Nat × Nat) : zev zk_X8_make (47, ls, st, s, k) = zev zk_X8_make (48, ls, Sum.inl (Value.int (2)) :: st, s, k) := zev_go rfl rfl
theorem zr_X8_make_48 (ls : zLs) (st : List zAV) (s : zAS) (k : Nat × Nat) (x y : Int32) : zev zk_X8_make (48, ls, Sum.inl (Value.int y) :: Sum.inl (Value.int x) :: st, s, k) = zev zk_X8_make (49, ls, Sum.inl (Value.int (x + y)) :: st, s, k) := zev_go rfl rfl
theorem zr_X8_make_49 (ls : zLs) (st : List zAV) (s : zAS) (k : Nat × Nat) (v0 v1 : zAV) (h : (st.map zcat).sum ≤ 8 ∧ k.1 + 0 ≤ (zR_X8_make).cells ∧ k.2 + 0 ≤ (zR_X8_make).slots) : zev zk_X8_make (49, ls, v1 :: v0 :: st, s, k) = zret zk_X8_make 52 ls st (k.1 + 0, k.2 + 0) (m_X8_entry [v0, v1] s) := zf_callS (as := [v1, v0]) 2 rfl rfl h
theorem zr_X8_make_52 (a0 a1 a2 a3 a4 a5 a6 a7 a8 : Option zAV) (st : List zAV) (s : zAS) (k : Nat × Nat) (x : Int32) : zev zk_X8_make (52, [a0, a1, a2, a3, a4, a5, a6, a7, a8], Sum.inl (Value.int x) :: st, s, k) = zev zk_X8_make (54, [a0, a1, a2, a3, a4, a5, zk1 a6, some (Sum.inl (Value.int x)), a8], st, s, k) := zev_go rfl rfl
theorem zr_X8_make_54 (a1 a2 a3 a4 a5 a6 a7 a8 : Option zAV) (st : List zAV) (s : zAS) (k : Nat × Nat) (o : Nat × Nat) : zev zk_X8_make (54, [some (Sum.inr o), a1, a2, a3, a4, a5, a6, a7, a8], st, s, k) = zev zk_X8_make (55, [some (Sum.inr o), a1, a2, a3, a4, a5, a6, a7, a8], Sum.inr o :: st, s, k) := zev_go rfl rfl
theorem zr_X8_make_55 (a0 a1 a3 a4 a5 a6 a7 a8 : Option zAV) (st : List zAV) (s : zAS) (k : Nat × Nat) (x : Int32) : zev zk_X8_make (55, [a0, a1, some (Sum.inl (Value.int x)), a3, a4, a5, a6, a7, a8], st, s, k) = zev zk_X8_make (56, [a0, a1, some (Sum.inl (Value.int x)), a3, a4, a5, a6, a7, a8], Sum.inl (Value.int x) :: st, s, k) := zev_go rfl rfl
theorem zr_X8_make_56 (a0 a1 a2 a3 a4 a6 a7 a8 : Option zAV) (st : List zAV) (s : zAS) (k : Nat × Nat) (x : Int32) : zev zk_X8_make (56, [a0, a1, a2, a3, a4, some (Sum.inl (Value.int x)), a6, a7, a8], st, s, k) = zev zk_X8_make (58, [a0, a1, a2, a3, a4, some (Sum.inl (Value.int x)), a6, a7, a8], Sum.inl (Value.int x) :: st, s, k) := zev_go rfl rfl
theorem zr_X8_make_58 (ls : zLs) (st : List zAV) (s : zAS) (k : Nat × Nat) (r v0 v1 : zAV) (h : zcok zEC 8 0 0 (zR_X8_make).cells (zR_X8_make).slots r st k) : zev zk_X8_make (58, ls, v1 :: v0 :: r :: st, s, k) = zret zk_X8_make 61 ls st (k.1 + 0, k.2 + 0) (m_X8_isThere [r, v0, v1] s) := zf_callV (as := [v1, v0]) 2 rfl rfl h
theorem zr_X8_make_61 (ls : zLs) (st : List zAV) (s : zAS) (k : Nat × Nat) (x : Int32) : zev zk_X8_make (61, ls, Sum.inl (Value.int x) :: st, s, k) = if decide (x = 0) = true then zev zk_X8_make (85, ls, st, s, k) else zev zk_X8_make (64, ls, st, s, k) := zf_if (f := fun x => decide (x = 0)) rfl
theorem zr_X8_make_64 (a1 a2 a3 a4 a5 a6 a7 a8 : Option zAV) (st : List zAV) (s : zAS) (k : Nat × Nat) (o : Nat × Nat) : zev zk_X8_make (64, [some (Sum.inr o), a1, a2, a3, a4, a5, a6, a7, a8], st, s, k) = zev zk_X8_make (65, [some (Sum.inr o), a1, a2, a3, a4, a5, a6, a7, a8], Sum.inr o :: st, s, k) := zev_go rfl rfl
theorem zr_X8_make_65 (a0 a1 a2 a4 a5 a6 a7 a8 : Option zAV) (st : List zAV) (s : zAS) (k : Nat × Nat) (x : Int32) : zev zk_X8_make (65, [a0, a1, a2, some (Sum.inl (Value.int x)), a4, a5, a6, a7, a8], st, s, k) = zev zk_X8_make (66, [a0, a1, a2, some (Sum.inl (Value.int x)), a4, a5, a6, a7, a8], Sum.inl (Value.int x) :: st, s, k) := zev_go rfl rfl
theorem zr_X8_make_66 (a0 a1 a2 a3 a4 a5 a7 a8 : Option zAV) (st : List zAV) (s : zAS) (k : Nat × Nat) (x : Int32) : zev zk_X8_make (66, [a0, a1, a2, a3, a4, a5, some (Sum.inl (Value.int x)), a7, a8], st, s, k) = zev zk_X8_make (68, [a0, a1, a2, a3, a4, a5, some (Sum.inl (Value.int x)), a7, a8], Sum.inl (Value.int x) :: st, s, k) := zev_go rfl rfl
theorem zr_X8_make_68 (ls : zLs) (st : List zAV) (s : zAS) (k : Nat × Nat) (r v0 v1 : zAV) (h : zcok zEC 8 0 0 (zR_X8_make).cells (zR_X8_make).slots r st k) : zev zk_X8_make (68, ls, v1 :: v0 :: r :: st, s, k) = zret zk_X8_make 71 ls st (k.1 + 0, k.2 + 0) (m_X8_isThere [r, v0, v1] s) := zf_callV (as := [v1, v0]) 2 rfl rfl h
theorem zr_X8_make_71 (ls : zLs) (st : List zAV) (s : zAS) (k : Nat × Nat) (x : Int32) : zev zk_X8_make (71, ls, Sum.inl (Value.int x) :: st, s, k) = if decide (x = 0) = true then zev zk_X8_make (85, ls, st, s, k) else zev zk_X8_make (74, ls, st, s, k) := zf_if (f := fun x => decide (x = 0)) rfl
theorem zr_X8_make_74 (a1 a2 a3 a4 a5 a6 a7 a8 : Option zAV) (st : List zAV) (s : zAS) (k : Nat × Nat) (o : Nat × Nat) : zev zk_X8_make (74, [some (Sum.inr o), a1, a2, a3, a4, a5, a6, a7, a8], st, s, k) = zev zk_X8_make (75, [some (Sum.inr o), a1, a2, a3, a4, a5, a6, a7, a8], Sum.inr o :: st, s, k) := zev_go rfl rfl
theorem zr_X8_make_75 (a0 a1 a2 a3 a5 a6 a7 a8 : Option zAV) (st : List zAV) (s : zAS) (k : Nat × Nat) (x : Int32) : zev zk_X8_make (75, [a0, a1, a2, a3, some (Sum.inl (Value.int x)), a5, a6, a7, a8], st, s, k) = zev zk_X8_make (77, [a0, a1, a2, a3, some (Sum.inl (Value.int x)), a5, a6, a7, a8], Sum.inl (Value.int x) :: st, s, k) := zev_go rfl rfl
theorem zr_X8_make_77 (a0 a1 a2 a3 a4 a5 a6 a8 : Option zAV) (st : List zAV) (s : zAS) (k : Nat × Nat) (x : Int32) : zev zk_X8_make (77, [a0, a1, a2, a3, a4, a5, a6, some (Sum.inl (Value.int x)), a8], st, s, k) = zev zk_X8_make (79, [a0, a1, a2, a3, a4, a5, a6, some (Sum.inl (Value.int x)), a8], Sum.inl (Value.int x) :: st, s, k) := zev_go rfl rfl
theorem zr_X8_make_79 (ls : zLs) (st : List zAV) (s : zAS) (k : Nat × Nat) (r v0 v1 : zAV) (h : zcok zEC 8 0 0 (zR_X8_make).cells (zR_X8_make).slots r st k) : zev zk_X8_make (79, ls, v1 :: v0 :: r :: st, s, k) = zret zk_X8_make 82 ls st (k.1 + 0, k.2 + 0) (m_X8_isThere [r, v0, v1] s) := zf_callV (as := [v1, v0]) 2 rfl rfl h
theorem zr_X8_make_82 (ls : zLs) (st : List zAV) (s : zAS) (k : Nat × Nat) (x : Int32) : zev zk_X8_make (82, ls, Sum.inl (Value.int x) :: st, s, k) = if decide (¬ x = 0) = true then zev zk_X8_make (95, ls, st, s, k) else zev zk_X8_make (85, ls, st, s, k) := zf_if (f := fun x => decide (¬ x = 0)) rfl
theorem zr_X8_make_95 (a1 a2 a3 a4 a5 a6 a7 a8 : Option zAV) (st : List zAV) (s : zAS) (k : Nat × Nat) (o : Nat × Nat) : zev zk_X8_make (95, [some (Sum.inr o), a1, a2, a3, a4, a5, a6, a7, a8], st, s, k) = zev zk_X8_make (96, [some (Sum.inr o), a1, a2, a3, a4, a5, a6, a7, a8], Sum.inr o :: st, s, k) := zev_go rfl rfl
theorem zr_X8_make_96 (a0 a1 a3 a4 a5 a6 a7 a8 : Option zAV) (st : List zAV) (s : zAS) (k : Nat × Nat) (x : Int32) : zev zk_X8_make (96, [a0, a1, some (Sum.inl (Value.int x)), a3, a4, a5, a6, a7, a8], st, s, k) = zev zk_X8_make (97, [a0, a1, some (Sum.inl (Value.int x)), a3, a4, a5, a6, a7, a8], Sum.inl (Value.int x) :: st, s, k) := zev_go rfl rfl
theorem zr_X8_make_97 (a0 a1 a2 a3 a4 a6 a7 a8 : Option zAV) (st : List zAV) (s : zAS) (k : Nat × Nat) (x : Int32) : zev zk_X8_make (97, [a0, a1, a2, a3, a4, some (Sum.inl (Value.int x)), a6, a7, a8], st, s, k) = zev zk_X8_make (99, [a0, a1, a2, a3, a4, some (Sum.inl (Value.int x)), a6, a7, a8], Sum.inl (Value.int x) :: st, s, k) := zev_go rfl rfl
theorem zr_X8_make_99 (ls : zLs) (st : List zAV) (s : zAS) (k : Nat × Nat) (r v0 v1 : zAV) (h : zcok zEC 8 0 0 (zR_X8_make).cells (zR_X8_make).slots r st k) : zev zk_X8_make (99, ls, v1 :: v0 :: r :: st, s, k) = zret zk_X8_make 102 ls st (k.1 + 0, k.2 + 0) (m_X8_fits [r, v0, v1] s) := zf_callV (as := [v1, v0]) 2 rfl rfl h
theorem zr_X8_make_102 (ls : zLs) (st : List zAV) (s : zAS) (k : Nat × Nat) (x : Int32) : zev zk_X8_make (102, ls, Sum.inl (Value.int x) :: st, s, k) = if decide (x = 0) = true then zev zk_X8_make (126, ls, st, s, k) else zev zk_X8_make (105, ls, st, s, k) := zf_if (f := fun x => decide (x = 0)) rfl
theorem zr_X8_make_105 (a1 a2 a3 a4 a5 a6 a7 a8 : Option zAV) (st : List zAV) (s : zAS) (k : Nat × Nat) (o : Nat × Nat) : zev zk_X8_make (105, [some (Sum.inr o), a1, a2, a3, a4, a5, a6, a7, a8], st, s, k) = zev zk_X8_make (106, [some (Sum.inr o), a1, a2, a3, a4, a5, a6, a7, a8], Sum.inr o :: st, s, k) := zev_go rfl rfl
theorem zr_X8_make_106 (a0 a1 a2 a4 a5 a6 a7 a8 : Option zAV) (st : List zAV) (s : zAS) (k : Nat × Nat) (x : Int32) : zev zk_X8_make (106, [a0, a1, a2, some (Sum.inl (Value.int x)), a4, a5, a6, a7, a8], st, s, k) = zev zk_X8_make (107, [a0, a1, a2, some (Sum.inl (Value.int x)), a4, a5, a6, a7, a8], Sum.inl (Value.int x) :: st, s, k) := zev_go rfl rfl
theorem zr_X8_make_107 (a0 a1 a2 a3 a4 a5 a7 a8 : Option zAV) (st : List zAV) (s : zAS) (k : Nat × Nat) (x : Int32) : zev zk_X8_make (107, [a0, a1, a2, a3, a4, a5, some (Sum.inl (Value.int x)), a7, a8], st, s, k) = zev zk_X8_make (109, [a0, a1, a2, a3, a4, a5, some (Sum.inl (Value.int x)), a7, a8], Sum.inl (Value.int x) :: st, s, k) := zev_go rfl rfl
theorem zr_X8_make_109 (ls : zLs) (st : List zAV) (s : zAS) (k : Nat × Nat) (r v0 v1 : zAV) (h : zcok zEC 8 0 0 (zR_X8_make).cells (zR_X8_make).slots r st k) : zev zk_X8_make (109, ls, v1 :: v0 :: r :: st, s, k) = zret zk_X8_make 112 ls st (k.1 + 0, k.2 + 0) (m_X8_fits [r, v0, v1] s) := zf_callV (as := [v1, v0]) 2 rfl rfl h
theorem zr_X8_make_112 (ls : zLs) (st : List zAV) (s : zAS) (k : Nat × Nat) (x : Int32) : zev zk_X8_make (112, ls, Sum.inl (Value.int x) :: st, s, k) = if decide (x = 0) = true then zev zk_X8_make (126, ls, st, s, k) else zev zk_X8_make (115, ls, st, s, k) := zf_if (f := fun x => decide (x = 0)) rfl
theorem zr_X8_make_115 (a1 a2 a3 a4 a5 a6 a7 a8 : Option zAV) (st : List zAV) (s : zAS) (k : Nat × Nat) (o : Nat × Nat) : zev zk_X8_make (115, [some (Sum.inr o), a1, a2, a3, a4, a5, a6, a7, a8], st, s, k) = zev zk_X8_make (116, [some (Sum.inr o), a1, a2, a3, a4, a5, a6, a7, a8], Sum.inr o :: st, s, k) := zev_go rfl rfl
theorem zr_X8_make_116 (a0 a1 a2 a3 a5 a6 a7 a8 : Option zAV) (st : List zAV) (s : zAS) (k : Nat × Nat) (x : Int32) : zev zk_X8_make (116, [a0, a1, a2, a3, some (Sum.inl (Value.int x)), a5, a6, a7, a8], st, s, k) = zev zk_X8_make (118, [a0, a1, a2, a3, some (Sum.inl (Value.int x)), a5, a6, a7, a8], Sum.inl (Value.int x) :: st, s, k) := zev_go rfl rfl
theorem zr_X8_make_118 (a0 a1 a2 a3 a4 a5 a6 a8 : Option zAV) (st : List zAV) (s : zAS) (k : Nat × Nat) (x : Int32) : zev zk_X8_make (118, [a0, a1, a2, a3, a4, a5, a6, some (Sum.inl (Value.int x)), a8], st, s, k) = zev zk_X8_make (120, [a0, a1, a2, a3, a4, a5, a6, some (Sum.inl (Value.int x)), a8], Sum.inl (Value.int x) :: st, s, k) := zev_go rfl rfl
theorem zr_X8_make_120 (ls : zLs) (st : List zAV) (s : zAS) (k : Nat × Nat) (r v0 v1 : zAV) (h : zcok zEC 8 0 0 (zR_X8_make).cells (zR_X8_make).slots r st k) : zev zk_X8_make (120, ls, v1 :: v0 :: r :: st, s, k) = zret zk_X8_make 123 ls st (k.1 + 0, k.2 + 0) (m_X8_fits [r, v0, v1] s) := zf_callV (as := [v1, v0]) 2 rfl rfl h
theorem zr_X8_make_123 (ls : zLs) (st : List zAV) (s : zAS) (k : Nat × Nat) (x : Int32) : zev zk_X8_make (123, ls, Sum.inl (Value.int x) :: st, s, k) = if decide (¬ x = 0) = true then zev zk_X8_make (136, ls, st, s, k) else zev zk_X8_make (126, ls, st, s, k) := zf_if (f := fun x => decide (¬ x = 0)) rfl
theorem zr_X8_make_136 (a1 a2 a3 a4 a5 a6 a7 a8 : Option zAV) (st : List zAV) (s : zAS) (k : Nat × Nat) (o : Nat × Nat) : zev zk_X8_make (136, [some (Sum.inr o), a1, a2, a3, a4, a5, a6, a7, a8], st, s, k) = zev zk_X8_make (137, [some (Sum.inr o), a1, a2, a3, a4, a5, a6, a7, a8], Sum.inr o :: st, s, k) := zev_go rfl rfl
theorem zr_X8_make_137 (ls : zLs) (st : List zAV) (s : zAS) (k : Nat × Nat) (o i : Nat) : zev zk_X8_make (137, ls, Sum.inr (o, i) :: st, s, k) = zpush zk_X8_make 140 ls st s k (zgv zEC 8 3 o i s.1) := zf_get rfl
theorem zr_X8_make_140 (ls : zLs) (st : List zAV) (s : zAS) (k : Nat × Nat) (o i : Nat) : zev zk_X8_make (140, ls, Sum.inr (o, i) :: st, s, k) = zpush zk_X8_make 143 ls st s k (zgv zEC 6 2 o i s.1) := zf_get rfl
theorem zr_X8_make_143 (ls : zLs) (st : List zAV) (s : zAS) (k : Nat × Nat) : zev zk_X8_make (143, ls, st, s, k) = zev zk_X8_make (145, ls, Sum.inl (Value.int (40)) :: st, s, k) := zev_go rfl rfl
theorem zr_X8_make_145 (ls : zLs) (st : List zAV) (s : zAS) (k : Nat × Nat) (x y : Int32) : zev zk_X8_make (145, ls, Sum.inl (Value.int y) :: Sum.inl (Value.int x) :: st, s, k) = if decide (x < y) = true then zev zk_X8_make (158, ls, st, s, k) else zev zk_X8_make (148, ls, st, s, k) := zf_cmp (f := fun x y => decide (x < y)) rfl
theorem zr_X8_make_158 (a1 a2 a3 a4 a5 a6 a7 a8 : Option zAV) (st : List zAV) (s : zAS) (k : Nat × Nat) (o : Nat × Nat) : zev zk_X8_make (158, [some (Sum.inr o), a1, a2, a3, a4, a5, a6, a7, a8], st, s, k) = zev zk_X8_make (159, [some (Sum.inr o), a1, a2, a3, a4, a5, a6, a7, a8], Sum.inr o :: st, s, k) := zev_go rfl rfl
theorem zr_X8_make_159 (ls : zLs) (st : List zAV) (s : zAS) (k : Nat × Nat) (o i : Nat) : zev zk_X8_make (159, ls, Sum.inr (o, i) :: st, s, k) = zpush zk_X8_make 162 ls st s k (zgv zEC 8 3 o i s.1) := zf_get rfl
theorem zr_X8_make_162 (ls : zLs) (st : List zAV) (s : zAS) (k : Nat × Nat) (r : zAV) (h : zcok zEC 6 0 0 (zR_X8_make).cells (zR_X8_make).slots r st k) : zev zk_X8_make (162, ls, r :: st, s, k) = zret zk_X8_make 165 ls st (k.1 + 0, k.2 + 0) (m_X6_next [r] s) := zf_callV (as := []) 0 rfl rfl h
theorem zr_X8_make_165 (a0 a1 a2 a3 a4 a5 a6 a7 a8 : Option zAV) (st : List zAV) (s : zAS) (k : Nat × Nat) (o : Nat × Nat) : zev zk_X8_make (165, [a0, a1, a2, a3, a4, a5, a6, a7, a8], Sum.inr o :: st, s, k) = zev zk_X8_make (167, [a0, a1, a2, a3, a4, a5, a6, zk1 a7, some (Sum.inr o)], st, s, k) := zev_go rfl rfl
theorem zr_X8_make_167 (a0 a1 a2 a3 a4 a5 a6 a7 : Option zAV) (st : List zAV) (s : zAS) (k : Nat × Nat) (o : Nat × Nat) : zev zk_X8_make (167, [a0, a1, a2, a3, a4, a5, a6, a7, some (Sum.inr o)], st, s, k) = zev zk_X8_make (169, [a0, a1, a2, a3, a4, a5, a6, a7, some (Sum.inr o)], Sum.inr o :: st, s, k) := zev_go rfl rfl
theorem zr_X8_make_169 (a0 a2 a3 a4 a5 a6 a7 a8 : Option zAV) (st : List zAV) (s : zAS) (k : Nat × Nat) (x : Int32) : zev zk_X8_make (169, [a0, some (Sum.inl (Value.int x)), a2, a3, a4, a5, a6, a7, a8], st, s, k) = zev zk_X8_make (170, [a0, some (Sum.inl (Value.int x)), a2, a3, a4, a5, a6, a7, a8], Sum.inl (Value.int x) :: st, s, k) := zev_go rfl rfl
theorem zr_X8_make_170 (a0 a1 a3 a4 a5 a6 a7 a8 : Option zAV) (st : List zAV) (s : zAS) (k : Nat × Nat) (x : Int32) : zev zk_X8_make (170, [a0, a1, some (Sum.inl (Value.int x)), a3, a4, a5, a6, a7, a8], st, s, k) = zev zk_X8_make (171, [a0, a1, some (Sum.inl (Value.int x)), a3, a4, a5, a6, a7, a8], Sum.inl (Value.int x) :: st, s, k) := zev_go rfl rfl
theorem zr_X8_make_171 (a0 a1 a2 a4 a5 a6 a7 a8 : Option zAV) (st : List zAV) (s : zAS) (k : Nat × Nat) (x : Int32) : zev zk_X8_make (171, [a0, a1, a2, some (Sum.inl (Value.int x)), a4, a5, a6, a7, a8], st, s, k) = zev zk_X8_make (172, [a0, a1, a2, some (Sum.inl (Value.int x)), a4, a5, a6, a7, a8], Sum.inl (Value.int x) :: st, s, k) := zev_go rfl rfl
theorem zr_X8_make_172 (a0 a1 a2 a3 a4 a5 a6 a8 : Option zAV) (st : List zAV) (s : zAS) (k : Nat × Nat) (x : Int32) : zev zk_X8_make (172, [a0, a1, a2, a3, a4, a5, a6, some (Sum.inl (Value.int x)), a8], st, s, k) = zev zk_X8_make (174, [a0, a1, a2, a3, a4, a5, a6, some (Sum.inl (Value.int x)), a8], Sum.inl (Value.int x) :: st, s, k) := zev_go rfl rfl
theorem zr_X8_make_174 (ls : zLs) (st : List zAV) (s : zAS) (k : Nat × Nat) : zev zk_X8_make (174, ls, st, s, k) = zev zk_X8_make (175, ls, Sum.inl (Value.int (-1)) :: st, s, k) := zev_go rfl rfl
theorem zr_X8_make_175 (ls : zLs) (st : List zAV) (s : zAS) (k : Nat × Nat) (x y : Int32) : zev zk_X8_make (175, ls, Sum.inl (Value.int y) :: Sum.inl (Value.int x) :: st, s, k) = if decide (¬ x = y) = true then zev zk_X8_make (182, ls, st, s, k) else zev zk_X8_make (178, ls, st, s, k) := zf_cmp (f := fun x y => decide (¬ x = y)) rfl
theorem zr_X8_make_178 (ls : zLs) (st : List zAV) (s : zAS) (k : Nat × Nat) : zev zk_X8_make (178, ls, st, s, k) = zev zk_X8_make (179, ls, Sum.inl (Value.int (-1)) :: st, s, k) := zev_go rfl rfl
theorem zr_X8_make_179 (ls : zLs) (st : List zAV) (s : zAS) (k : Nat × Nat) : zev zk_X8_make (179, ls, st, s, k) = zev zk_X8_make (184, ls, st, s, k) := zev_go rfl rfl
theorem zr_X8_make_182 (a0 a1 a2 a3 a5 a6 a7 a8 : Option zAV) (st : List zAV) (s : zAS) (k : Nat × Nat) (x : Int32) : zev zk_X8_make (182, [a0, a1, a2, a3, some (Sum.inl (Value.int x)), a5, a6, a7, a8], st, s, k) = zev zk_X8_make (184, [a0, a1, a2, a3, some (Sum.inl (Value.int x)), a5, a6, a7, a8], Sum.inl (Value.int x) :: st, s, k) := zev_go rfl rfl
theorem zr_X8_make_184 (ls : zLs) (st : List zAV) (s : zAS) (k : Nat × Nat) (r v0 v1 v2 v3 : zAV) (h : zcok zEC 4 0 0 (zR_X8_make).cells (zR_X8_make).slots r st k) : zev zk_X8_make (184, ls, v3 :: v2 :: v1 :: v0 :: r :: st, s, k) = zret zk_X8_make 187 ls st (k.1 + 0, k.2 + 0) (m_X4_become [r, v0, v1, v2, v3] s) := zf_callV (as := [v3, v2, v1, v0]) 4 rfl rfl h
theorem zr_X8_make_187 (a1 a2 a3 a4 a5 a6 a7 a8 : Option zAV) (st : List zAV) (s : zAS) (k : Nat × Nat) (o : Nat × Nat) : zev zk_X8_make (187, [some (Sum.inr o), a1, a2, a3, a4, a5, a6, a7, a8], st, s, k) = zev zk_X8_make (188, [some (Sum.inr o), a1, a2, a3, a4, a5, a6, a7, a8], Sum.inr o :: st, s, k) := zev_go rfl rfl
theorem zr_X8_make_188 (a0 a1 a2 a3 a4 a5 a6 a7 : Option zAV) (st : List zAV) (s : zAS) (k : Nat × Nat) (o : Nat × Nat) : zev zk_X8_make (188, [a0, a1, a2, a3, a4, a5, a6, a7, some (Sum.inr o)], st, s, k) = zev zk_X8_make (190, [a0, a1, a2, a3, a4, a5, a6, a7, some (Sum.inr o)], Sum.inr o :: st, s, k) := zev_go rfl rfl
theorem zr_X8_make_190 (ls : zLs) (st : List zAV) (s : zAS) (k : Nat × Nat) (r v0 : zAV) (h : zcok zEC 8 0 0 (zR_X8_make).cells (zR_X8_make).slots r st k) : zev zk_X8_make (190, ls, v0 :: r :: st, s, k) = zret zk_X8_make 193 ls st (k.1 + 0, k.2 + 0) (m_X8_remake [r, v0] s) := zf_callV (as := [v0]) 1 rfl rfl h
theorem zr_X8_make_193 (a0 a1 a2 a3 a4 a5 a6 a7 : Option zAV) (st : List zAV) (s : zAS) (k : Nat × Nat) (o : Nat × Nat) : zev zk_X8_make (193, [a0, a1, a2, a3, a4, a5, a6, a7, some (Sum.inr o)], st, s, k) = zev zk_X8_make (195, [a0, a1, a2, a3, a4, a5, a6, a7, some (Sum.inr o)], Sum.inr o :: st, s, k) := zev_go rfl rfl
theorem zr_X8_make_195 (ls : zLs) (st : List zAV) (s : zAS) (k : Nat × Nat) (o i : Nat) : zev zk_X8_make (195, ls, Sum.inr (o, i) :: st, s, k) = zpush zk_X8_make 198 ls st s k (zgv zEC 4 0 o i s.1) := zf_get rfl
theorem zr_X8_make_198 (ls : zLs) (s : zAS) (k : Nat × Nat) (x : Int32) : zev zk_X8_make (198, ls, [Sum.inl (Value.int x)], s, k) = some (.inl (some (Sum.inl (Value.int x))), s) := zf_reti rfl
/-! X8_shift: PrimePlane.shift(LPrimePlane$Figure;II)V -/
abbrev zR_X8_shift : Room := ({ frames := 6, cells := 0, slots := 0, locals := 149 } : Room)
noncomputable def zl_X8_shift : List (Nat × zOp) := [(0, z_lda 1 1), (1, z_ldi 2 2), (2, z_ldi 3 3), (3, z_callV zEC 4 m_X4_tell 2 0 0 (zR_X8_shift).cells (zR_X8_shift).slots 6), (6, z_lda 1 7), (7, z_get zEC 4 0 10), (10, z_sti 4 12), (12, z_ldi 4 14), (14, z_lda 0 15), (15, z_get zEC 8 3 18), (18, z_get zEC 6 2 21), (21, z_cmp (fun x y => decide (y ≤ x)) 63 24), (24, z_lda 0 25), (25, z_get zEC 8 3 28), (28, z_ldi 4 30), (30, z_callV zEC 6 m_X6_at 1 0 0 (zR_X8_shift).cells (zR_X8_shift).slots 33), (33, z_sta 5 35), (35, z_lda 5 37), (37, z_get zEC 4 11 40), (40, z_if (fun x => decide (x = 0)) 57 43), (43, z_lda 5 45), (45, z_get zEC 4 12 48), (48, z_if (fun x => decide (x = 0)) 57 51), (51, z_lda 0 52), (52, z_lda 5 54), (54, z_callV zEC 8 m_X8_remake 1 0 0 (zR_X8_shift).cells (zR_X8_shift).slots 57), (57, z_iinc 4 (1) 60), (60, z_goto 12), (63, z_retv)]
noncomputable def zk_X8_shift (pc : Nat) : Option zOp := zlook zl_X8_shift pc
noncomputable def m_X8_shift : List zAV → zAS → Option zOut := zmeth zk_X8_shift 6
set_option maxRecDepth 100000 in
set_option maxHeartbeats 4000000 in
theorem zcs_X8_shift {R : Room} (hR : R = zR_X8_shift) : ∀ q ∈ zl_X8_shift, zS zEC yX8_shift.cls cX8_shift 6 wsX8_shift none R q.1 q.2 := by
  subst hR
  have hin4 : ∀ w ∈ wsX40, w ∈ wsX8_shift := fun w h => List.mem_cons_of_mem _ (List.mem_append_left _ (List.mem_append_left _ (List.mem_append_left _ (List.mem_append_left _ (List.mem_append_right _ h)))))
  have hin6 : ∀ w ∈ wsX60, w ∈ wsX8_shift := fun w h => List.mem_cons_of_mem _ (List.mem_append_left _ (List.mem_append_left _ (List.mem_append_right _ h)))
  have hin8 : ∀ w ∈ wsX80, w ∈ wsX8_shift := fun w h => List.mem_cons_of_mem _ (List.mem_append_left _ (List.mem_append_left _ (List.mem_append_left _ (List.mem_append_right _ h))))
  refine List.forall_mem_cons.mpr ⟨zs_aload_n dX8_shift_0 rfl, ?_⟩
  refine List.forall_mem_cons.mpr ⟨zs_iload_n dX8_shift_1 rfl, ?_⟩
  refine List.forall_mem_cons.mpr ⟨zs_iload_n dX8_shift_2 rfl, ?_⟩
  refine List.forall_mem_cons.mpr ⟨zs_callV (ci := 4) (rm := zR_X4_tell) (n := 2) rfl zM_X4_tell gX8_shift_X4_tell rfl (by decide +kernel) ⟨by decide, by decide⟩ dX8_shift_3, ?_⟩
  refine List.forall_mem_cons.mpr ⟨zs_aload_n dX8_shift_6 rfl, ?_⟩
  refine List.forall_mem_cons.mpr ⟨zs_get (ci := 4) (j := 0) (N := 13) (C := RX4) (T := TX4) (index := 137) rfl (by decide) hin4 (List.mem_of_getElem? (i := 1) rfl) dX8_shift_7, ?_⟩
  refine List.forall_mem_cons.mpr ⟨zs_istore dX8_shift_10, ?_⟩
  refine List.forall_mem_cons.mpr ⟨zs_iload dX8_shift_12, ?_⟩
  refine List.forall_mem_cons.mpr ⟨zs_aload_n dX8_shift_14 rfl, ?_⟩
  refine List.forall_mem_cons.mpr ⟨zs_get (ci := 8) (j := 3) (N := 6) (C := RX8) (T := TX8) (index := 31) rfl (by decide) hin8 (List.mem_of_getElem? (i := 2) rfl) dX8_shift_15, ?_⟩
  refine List.forall_mem_cons.mpr ⟨zs_get (ci := 6) (j := 2) (N := 3) (C := RX6) (T := TX6) (index := 66) rfl (by decide) hin6 (List.mem_of_getElem? (i := 3) rfl) dX8_shift_18, ?_⟩
  refine List.forall_mem_cons.mpr ⟨zs_icge dX8_shift_21 (by decide), ?_⟩
  refine List.forall_mem_cons.mpr ⟨zs_aload_n dX8_shift_24 rfl, ?_⟩
  refine List.forall_mem_cons.mpr ⟨zs_get (ci := 8) (j := 3) (N := 6) (C := RX8) (T := TX8) (index := 31) rfl (by decide) hin8 (List.mem_of_getElem? (i := 2) rfl) dX8_shift_25, ?_⟩
  refine List.forall_mem_cons.mpr ⟨zs_iload dX8_shift_28, ?_⟩
  refine List.forall_mem_cons.mpr ⟨zs_callV (ci := 6) (rm := zR_X6_at) (n := 1) rfl zM_X6_at gX8_shift_X6_at rfl (by decide +kernel) ⟨by decide, by decide⟩ dX8_shift_30, ?_⟩
  refine List.forall_mem_cons.mpr ⟨zs_astore dX8_shift_33, ?_⟩
  refine List.forall_mem_cons.mpr ⟨zs_aload dX8_shift_35, ?_⟩
  refine List.forall_mem_cons.mpr ⟨zs_get (ci := 4) (j := 11) (N := 13) (C := RX4) (T := TX4) (index := 300) rfl (by decide) hin4 (List.mem_of_getElem? (i := 4) rfl) dX8_shift_37, ?_⟩
  refine List.forall_mem_cons.mpr ⟨zs_ifeq dX8_shift_40 (by decide), ?_⟩
  refine List.forall_mem_cons.mpr ⟨zs_aload dX8_shift_43, ?_⟩
  refine List.forall_mem_cons.mpr ⟨zs_get (ci := 4) (j := 12) (N := 13) (C := RX4) (T := TX4) (index := 303) rfl (by decide) hin4 (List.mem_of_getElem? (i := 5) rfl) dX8_shift_45, ?_⟩
  refine List.forall_mem_cons.mpr ⟨zs_ifeq dX8_shift_48 (by decide), ?_⟩
  refine List.forall_mem_cons.mpr ⟨zs_aload_n dX8_shift_51 rfl, ?_⟩
  refine List.forall_mem_cons.mpr ⟨zs_aload dX8_shift_52, ?_⟩
  refine List.forall_mem_cons.mpr ⟨zs_callV (ci := 8) (rm := zR_X8_remake) (n := 1) rfl zM_X8_remake gX8_shift_X8_remake rfl (by decide +kernel) ⟨by decide, by decide⟩ dX8_shift_54, ?_⟩
  refine List.forall_mem_cons.mpr ⟨zs_iinc dX8_shift_57 (by decide), ?_⟩
  refine List.forall_mem_cons.mpr ⟨zs_goto dX8_shift_60 (by decide), ?_⟩
  refine List.forall_mem_cons.mpr ⟨zs_retv rfl dX8_shift_63, ?_⟩
  exact fun _ h => absurd h List.not_mem_nil
theorem zM_X8_shift : zMeets zEC yX8_shift wsX8_shift zR_X8_shift m_X8_shift := zmeth_M zECok (zlook_all (zcs_X8_shift rfl)) (by decide +kernel) rfl
theorem zr_X8_shift_0 (a0 a2 a3 a4 a5 : Option zAV) (st : List zAV) (s : zAS) (k : Nat × Nat) (o : Nat × Nat) : zev zk_X8_shift (0, [a0, some (Sum.inr o), a2, a3, a4, a5], st, s, k) = zev zk_X8_shift (1, [a0, some (Sum.inr o), a2, a3, a4, a5], Sum.inr o :: st, s, k) := zev_go rfl rfl
theorem zr_X8_shift_1 (a0 a1 a3 a4 a5 : Option zAV) (st : List zAV) (s : zAS) (k : Nat × Nat) (x : Int32) : zev zk_X8_shift (1, [a0, a1, some (Sum.inl (Value.int x)), a3, a4, a5], st, s, k) = zev zk_X8_shift (2, [a0, a1, some (Sum.inl (Value.int x)), a3, a4, a5], Sum.inl (Value.int x) :: st, s, k) := zev_go rfl rfl
theorem zr_X8_shift_2 (a0 a1 a2 a4 a5 : Option zAV) (st : List zAV) (s : zAS) (k : Nat × Nat) (x : Int32) : zev zk_X8_shift (2, [a0, a1, a2, some (Sum.inl (Value.int x)), a4, a5], st, s, k) = zev zk_X8_shift (3, [a0, a1, a2, some (Sum.inl (Value.int x)), a4, a5], Sum.inl (Value.int x) :: st, s, k) := zev_go rfl rfl
theorem zr_X8_shift_3 (ls : zLs) (st : List zAV) (s : zAS) (k : Nat × Nat) (r v0 v1 : zAV) (h : zcok zEC 4 0 0 (zR_X8_shift).cells (zR_X8_shift).slots r st k) : zev zk_X8_shift (3, ls, v1 :: v0 :: r :: st, s, k) = zret zk_X8_shift 6 ls st (k.1 + 0, k.2 + 0) (m_X4_tell [r, v0, v1] s) := zf_callV (as := [v1, v0]) 2 rfl rfl h
theorem zr_X8_shift_6 (a0 a2 a3 a4 a5 : Option zAV) (st : List zAV) (s : zAS) (k : Nat × Nat) (o : Nat × Nat) : zev zk_X8_shift (6, [a0, some (Sum.inr o), a2, a3, a4, a5], st, s, k) = zev zk_X8_shift (7, [a0, some (Sum.inr o), a2, a3, a4, a5], Sum.inr o :: st, s, k) := zev_go rfl rfl
theorem zr_X8_shift_7 (ls : zLs) (st : List zAV) (s : zAS) (k : Nat × Nat) (o i : Nat) : zev zk_X8_shift (7, ls, Sum.inr (o, i) :: st, s, k) = zpush zk_X8_shift 10 ls st s k (zgv zEC 4 0 o i s.1) := zf_get rfl
theorem zr_X8_shift_10 (a0 a1 a2 a3 a4 a5 : Option zAV) (st : List zAV) (s : zAS) (k : Nat × Nat) (x : Int32) : zev zk_X8_shift (10, [a0, a1, a2, a3, a4, a5], Sum.inl (Value.int x) :: st, s, k) = zev zk_X8_shift (12, [a0, a1, a2, zk1 a3, some (Sum.inl (Value.int x)), a5], st, s, k) := zev_go rfl rfl
theorem zr_X8_shift_12 (a0 a1 a2 a3 a5 : Option zAV) (st : List zAV) (s : zAS) (k : Nat × Nat) (x : Int32) : zev zk_X8_shift (12, [a0, a1, a2, a3, some (Sum.inl (Value.int x)), a5], st, s, k) = zev zk_X8_shift (14, [a0, a1, a2, a3, some (Sum.inl (Value.int x)), a5], Sum.inl (Value.int x) :: st, s, k) := zev_go rfl rfl
theorem zr_X8_shift_14 (a1 a2 a3 a4 a5 : Option zAV) (st : List zAV) (s : zAS) (k : Nat × Nat) (o : Nat × Nat) : zev zk_X8_shift (14, [some (Sum.inr o), a1, a2, a3, a4, a5], st, s, k) = zev zk_X8_shift (15, [some (Sum.inr o), a1, a2, a3, a4, a5], Sum.inr o :: st, s, k) := zev_go rfl rfl
theorem zr_X8_shift_15 (ls : zLs) (st : List zAV) (s : zAS) (k : Nat × Nat) (o i : Nat) : zev zk_X8_shift (15, ls, Sum.inr (o, i) :: st, s, k) = zpush zk_X8_shift 18 ls st s k (zgv zEC 8 3 o i s.1) := zf_get rfl
theorem zr_X8_shift_18 (ls : zLs) (st : List zAV) (s : zAS) (k : Nat × Nat) (o i : Nat) : zev zk_X8_shift (18, ls, Sum.inr (o, i) :: st, s, k) = zpush zk_X8_shift 21 ls st s k (zgv zEC 6 2 o i s.1) := zf_get rfl
theorem zr_X8_shift_21 (ls : zLs) (st : List zAV) (s : zAS) (k : Nat × Nat) (x y : Int32) : zev zk_X8_shift (21, ls, Sum.inl (Value.int y) :: Sum.inl (Value.int x) :: st, s, k) = if decide (y ≤ x) = true then zev zk_X8_shift (63, ls, st, s, k) else zev zk_X8_shift (24, ls, st, s, k) := zf_cmp (f := fun x y => decide (y ≤ x)) rfl
theorem zr_X8_shift_24 (a1 a2 a3 a4 a5 : Option zAV) (st : List zAV) (s : zAS) (k : Nat × Nat) (o : Nat × Nat) : zev zk_X8_shift (24, [some (Sum.inr o), a1, a2, a3, a4, a5], st, s, k) = zev zk_X8_shift (25, [some (Sum.inr o), a1, a2, a3, a4, a5], Sum.inr o :: st, s, k) := zev_go rfl rfl
theorem zr_X8_shift_25 (ls : zLs) (st : List zAV) (s : zAS) (k : Nat × Nat) (o i : Nat) : zev zk_X8_shift (25, ls, Sum.inr (o, i) :: st, s, k) = zpush zk_X8_shift 28 ls st s k (zgv zEC 8 3 o i s.1) := zf_get rfl
theorem zr_X8_shift_28 (a0 a1 a2 a3 a5 : Option zAV) (st : List zAV) (s : zAS) (k : Nat × Nat) (x : Int32) : zev zk_X8_shift (28, [a0, a1, a2, a3, some (Sum.inl (Value.int x)), a5], st, s, k) = zev zk_X8_shift (30, [a0, a1, a2, a3, some (Sum.inl (Value.int x)), a5], Sum.inl (Value.int x) :: st, s, k) := zev_go rfl rfl
theorem zr_X8_shift_30 (ls : zLs) (st : List zAV) (s : zAS) (k : Nat × Nat) (r v0 : zAV) (h : zcok zEC 6 0 0 (zR_X8_shift).cells (zR_X8_shift).slots r st k) : zev zk_X8_shift (30, ls, v0 :: r :: st, s, k) = zret zk_X8_shift 33 ls st (k.1 + 0, k.2 + 0) (m_X6_at [r, v0] s) := zf_callV (as := [v0]) 1 rfl rfl h
theorem zr_X8_shift_33 (a0 a1 a2 a3 a4 a5 : Option zAV) (st : List zAV) (s : zAS) (k : Nat × Nat) (o : Nat × Nat) : zev zk_X8_shift (33, [a0, a1, a2, a3, a4, a5], Sum.inr o :: st, s, k) = zev zk_X8_shift (35, [a0, a1, a2, a3, zk1 a4, some (Sum.inr o)], st, s, k) := zev_go rfl rfl
theorem zr_X8_shift_35 (a0 a1 a2 a3 a4 : Option zAV) (st : List zAV) (s : zAS) (k : Nat × Nat) (o : Nat × Nat) : zev zk_X8_shift (35, [a0, a1, a2, a3, a4, some (Sum.inr o)], st, s, k) = zev zk_X8_shift (37, [a0, a1, a2, a3, a4, some (Sum.inr o)], Sum.inr o :: st, s, k) := zev_go rfl rfl
theorem zr_X8_shift_37 (ls : zLs) (st : List zAV) (s : zAS) (k : Nat × Nat) (o i : Nat) : zev zk_X8_shift (37, ls, Sum.inr (o, i) :: st, s, k) = zpush zk_X8_shift 40 ls st s k (zgv zEC 4 11 o i s.1) := zf_get rfl
theorem zr_X8_shift_40 (ls : zLs) (st : List zAV) (s : zAS) (k : Nat × Nat) (x : Int32) : zev zk_X8_shift (40, ls, Sum.inl (Value.int x) :: st, s, k) = if decide (x = 0) = true then zev zk_X8_shift (57, ls, st, s, k) else zev zk_X8_shift (43, ls, st, s, k) := zf_if (f := fun x => decide (x = 0)) rfl
theorem zr_X8_shift_43 (a0 a1 a2 a3 a4 : Option zAV) (st : List zAV) (s : zAS) (k : Nat × Nat) (o : Nat × Nat) : zev zk_X8_shift (43, [a0, a1, a2, a3, a4, some (Sum.inr o)], st, s, k) = zev zk_X8_shift (45, [a0, a1, a2, a3, a4, some (Sum.inr o)], Sum.inr o :: st, s, k) := zev_go rfl rfl
theorem zr_X8_shift_45 (ls : zLs) (st : List zAV) (s : zAS) (k : Nat × Nat) (o i : Nat) : zev zk_X8_shift (45, ls, Sum.inr (o, i) :: st, s, k) = zpush zk_X8_shift 48 ls st s k (zgv zEC 4 12 o i s.1) := zf_get rfl
theorem zr_X8_shift_48 (ls : zLs) (st : List zAV) (s : zAS) (k : Nat × Nat) (x : Int32) : zev zk_X8_shift (48, ls, Sum.inl (Value.int x) :: st, s, k) = if decide (x = 0) = true then zev zk_X8_shift (57, ls, st, s, k) else zev zk_X8_shift (51, ls, st, s, k) := zf_if (f := fun x => decide (x = 0)) rfl
theorem zr_X8_shift_51 (a1 a2 a3 a4 a5 : Option zAV) (st : List zAV) (s : zAS) (k : Nat × Nat) (o : Nat × Nat) : zev zk_X8_shift (51, [some (Sum.inr o), a1, a2, a3, a4, a5], st, s, k) = zev zk_X8_shift (52, [some (Sum.inr o), a1, a2, a3, a4, a5], Sum.inr o :: st, s, k) := zev_go rfl rfl
theorem zr_X8_shift_52 (a0 a1 a2 a3 a4 : Option zAV) (st : List zAV) (s : zAS) (k : Nat × Nat) (o : Nat × Nat) : zev zk_X8_shift (52, [a0, a1, a2, a3, a4, some (Sum.inr o)], st, s, k) = zev zk_X8_shift (54, [a0, a1, a2, a3, a4, some (Sum.inr o)], Sum.inr o :: st, s, k) := zev_go rfl rfl
theorem zr_X8_shift_54 (ls : zLs) (st : List zAV) (s : zAS) (k : Nat × Nat) (r v0 : zAV) (h : zcok zEC 8 0 0 (zR_X8_shift).cells (zR_X8_shift).slots r st k) : zev zk_X8_shift (54, ls, v0 :: r :: st, s, k) = zret zk_X8_shift 57 ls st (k.1 + 0, k.2 + 0) (m_X8_remake [r, v0] s) := zf_callV (as := [v0]) 1 rfl rfl h
theorem zr_X8_shift_57 (a0 a1 a2 a3 a5 : Option zAV) (st : List zAV) (s : zAS) (k : Nat × Nat) (x : Int32) : zev zk_X8_shift (57, [a0, a1, a2, a3, some (Sum.inl (Value.int x)), a5], st, s, k) = zev zk_X8_shift (60, [a0, a1, a2, zk1 a3, some (Sum.inl (Value.int (x + (1)))), a5], st, s, k) := zev_go rfl rfl
theorem zr_X8_shift_60 (ls : zLs) (st : List zAV) (s : zAS) (k : Nat × Nat) : zev zk_X8_shift (60, ls, st, s, k) = zev zk_X8_shift (12, ls, st, s, k) := zev_go rfl rfl
theorem zr_X8_shift_63 (ls : zLs) (s : zAS) (k : Nat × Nat) : zev zk_X8_shift (63, ls, [], s, k) = some (.inl none, s) := zev_end rfl rfl
/-! X8_move: PrimePlane.move(III)I -/
abbrev zR_X8_move : Room := ({ frames := 7, cells := 0, slots := 0, locals := 174 } : Room)
noncomputable def zl_X8_move : List (Nat × zOp) := [(0, z_lda 0 1), (1, z_get zEC 8 3 4), (4, z_ldi 1 5), (5, z_callV zEC 6 m_X6_has 1 0 0 (zR_X8_move).cells (zR_X8_move).slots 8), (8, z_if (fun x => decide (¬ x = 0)) 21 11), (21, z_lda 0 22), (22, z_get zEC 8 3 25), (25, z_ldi 1 26), (26, z_callV zEC 6 m_X6_at 1 0 0 (zR_X8_move).cells (zR_X8_move).slots 29), (29, z_sta 4 31), (31, z_lda 0 32), (32, z_get zEC 8 2 35), (35, z_ldi 2 36), (36, z_callV zEC 3 m_X3_has 1 0 0 (zR_X8_move).cells (zR_X8_move).slots 39), (39, z_if (fun x => decide (x = 0)) 61 42), (42, z_lda 4 44), (44, z_get zEC 4 1 47), (47, z_if (fun x => decide (¬ x = 0)) 71 50), (50, z_lda 0 51), (51, z_get zEC 8 2 54), (54, z_ldi 3 55), (55, z_callV zEC 3 m_X3_has 1 0 0 (zR_X8_move).cells (zR_X8_move).slots 58), (58, z_if (fun x => decide (¬ x = 0)) 71 61), (71, z_lda 4 73), (73, z_get zEC 4 1 76), (76, z_if (fun x => decide (x = 0)) 98 79), (79, z_lda 4 81), (81, z_get zEC 4 1 84), (84, z_ic (1) 85), (85, z_cmp (fun x y => decide (x = y)) 98 88), (98, z_lda 0 99), (99, z_get zEC 8 3 102), (102, z_lda 4 104), (104, z_callV zEC 6 m_X6_markFollowers 1 0 0 (zR_X8_move).cells (zR_X8_move).slots 107), (107, z_lda 0 108), (108, z_get zEC 8 3 111), (111, z_callV zEC 6 m_X6_wantAll 0 0 0 (zR_X8_move).cells (zR_X8_move).slots 114), (114, z_lda 0 115), (115, z_lda 4 117), (117, z_ldi 2 118), (118, z_ldi 3 119), (119, z_callV zEC 8 m_X8_shift 3 0 0 (zR_X8_move).cells (zR_X8_move).slots 122), (122, z_lda 0 123), (123, z_get zEC 8 3 126), (126, z_callV zEC 6 m_X6_lackingOnes 0 0 0 (zR_X8_move).cells (zR_X8_move).slots 129), (129, z_reti false)]
noncomputable def zk_X8_move (pc : Nat) : Option zOp := zlook zl_X8_move pc
noncomputable def m_X8_move : List zAV → zAS → Option zOut := zmeth zk_X8_move 5
set_option maxRecDepth 100000 in
set_option maxHeartbeats 4000000 in
theorem zcs_X8_move {R : Room} (hR : R = zR_X8_move) : ∀ q ∈ zl_X8_move, zS zEC yX8_move.cls cX8_move 5 wsX8_move (some .int) R q.1 q.2 := by
  subst hR
  have hin4 : ∀ w ∈ wsX40, w ∈ wsX8_move := fun w h => List.mem_cons_of_mem _ (List.mem_append_left _ (List.mem_append_left _ (List.mem_append_left _ (List.mem_append_left _ (List.mem_append_left _ (List.mem_append_left _ (List.mem_append_right _ h)))))))
  have hin8 : ∀ w ∈ wsX80, w ∈ wsX8_move := fun w h => List.mem_cons_of_mem _ (List.mem_append_left _ (List.mem_append_left _ (List.mem_append_left _ (List.mem_append_left _ (List.mem_append_left _ (List.mem_append_left _ (List.mem_append_left _ (List.mem_append_right _ h))))))))
  refine List.forall_mem_cons.mpr ⟨zs_aload_n dX8_move_0 rfl, ?_⟩
  refine List.forall_mem_cons.mpr ⟨zs_get (ci := 8) (j := 3) (N := 6) (C := RX8) (T := TX8) (index := 31) rfl (by decide) hin8 (List.mem_of_getElem? (i := 7) rfl) dX8_move_1, ?_⟩
  refine List.forall_mem_cons.mpr ⟨zs_iload_n dX8_move_4 rfl, ?_⟩
  refine List.forall_mem_cons.mpr ⟨zs_callV (ci := 6) (rm := zR_X6_has) (n := 1) rfl zM_X6_has gX8_move_X6_has rfl (by decide +kernel) ⟨by decide, by decide⟩ dX8_move_5, ?_⟩
  refine List.forall_mem_cons.mpr ⟨zs_ifne dX8_move_8 (by decide), ?_⟩
  refine List.forall_mem_cons.mpr ⟨zs_aload_n dX8_move_21 rfl, ?_⟩
  refine List.forall_mem_cons.mpr ⟨zs_get (ci := 8) (j := 3) (N := 6) (C := RX8) (T := TX8) (index := 31) rfl (by decide) hin8 (List.mem_of_getElem? (i := 7) rfl) dX8_move_22, ?_⟩
  refine List.forall_mem_cons.mpr ⟨zs_iload_n dX8_move_25 rfl, ?_⟩
  refine List.forall_mem_cons.mpr ⟨zs_callV (ci := 6) (rm := zR_X6_at) (n := 1) rfl zM_X6_at gX8_move_X6_at rfl (by decide +kernel) ⟨by decide, by decide⟩ dX8_move_26, ?_⟩
  refine List.forall_mem_cons.mpr ⟨zs_astore dX8_move_29, ?_⟩
  refine List.forall_mem_cons.mpr ⟨zs_aload_n dX8_move_31 rfl, ?_⟩
  refine List.forall_mem_cons.mpr ⟨zs_get (ci := 8) (j := 2) (N := 6) (C := RX8) (T := TX8) (index := 27) rfl (by decide) hin8 (List.mem_of_getElem? (i := 8) rfl) dX8_move_32, ?_⟩
  refine List.forall_mem_cons.mpr ⟨zs_iload_n dX8_move_35 rfl, ?_⟩
  refine List.forall_mem_cons.mpr ⟨zs_callV (ci := 3) (rm := zR_X3_has) (n := 1) rfl zM_X3_has gX8_move_X3_has rfl (by decide +kernel) ⟨by decide, by decide⟩ dX8_move_36, ?_⟩
  refine List.forall_mem_cons.mpr ⟨zs_ifeq dX8_move_39 (by decide), ?_⟩
  refine List.forall_mem_cons.mpr ⟨zs_aload dX8_move_42, ?_⟩
  refine List.forall_mem_cons.mpr ⟨zs_get (ci := 4) (j := 1) (N := 13) (C := RX4) (T := TX4) (index := 166) rfl (by decide) hin4 (List.mem_of_getElem? (i := 9) rfl) dX8_move_44, ?_⟩
  refine List.forall_mem_cons.mpr ⟨zs_ifne dX8_move_47 (by decide), ?_⟩
  refine List.forall_mem_cons.mpr ⟨zs_aload_n dX8_move_50 rfl, ?_⟩
  refine List.forall_mem_cons.mpr ⟨zs_get (ci := 8) (j := 2) (N := 6) (C := RX8) (T := TX8) (index := 27) rfl (by decide) hin8 (List.mem_of_getElem? (i := 8) rfl) dX8_move_51, ?_⟩
  refine List.forall_mem_cons.mpr ⟨zs_iload_n dX8_move_54 rfl, ?_⟩
  refine List.forall_mem_cons.mpr ⟨zs_callV (ci := 3) (rm := zR_X3_has) (n := 1) rfl zM_X3_has gX8_move_X3_has rfl (by decide +kernel) ⟨by decide, by decide⟩ dX8_move_55, ?_⟩
  refine List.forall_mem_cons.mpr ⟨zs_ifne dX8_move_58 (by decide), ?_⟩
  refine List.forall_mem_cons.mpr ⟨zs_aload dX8_move_71, ?_⟩
  refine List.forall_mem_cons.mpr ⟨zs_get (ci := 4) (j := 1) (N := 13) (C := RX4) (T := TX4) (index := 166) rfl (by decide) hin4 (List.mem_of_getElem? (i := 9) rfl) dX8_move_73, ?_⟩
  refine List.forall_mem_cons.mpr ⟨zs_ifeq dX8_move_76 (by decide), ?_⟩
  refine List.forall_mem_cons.mpr ⟨zs_aload dX8_move_79, ?_⟩
  refine List.forall_mem_cons.mpr ⟨zs_get (ci := 4) (j := 1) (N := 13) (C := RX4) (T := TX4) (index := 166) rfl (by decide) hin4 (List.mem_of_getElem? (i := 9) rfl) dX8_move_81, ?_⟩
  refine List.forall_mem_cons.mpr ⟨zs_iconst dX8_move_84 (by decide), ?_⟩
  refine List.forall_mem_cons.mpr ⟨zs_iceq dX8_move_85 (by decide), ?_⟩
  refine List.forall_mem_cons.mpr ⟨zs_aload_n dX8_move_98 rfl, ?_⟩
  refine List.forall_mem_cons.mpr ⟨zs_get (ci := 8) (j := 3) (N := 6) (C := RX8) (T := TX8) (index := 31) rfl (by decide) hin8 (List.mem_of_getElem? (i := 7) rfl) dX8_move_99, ?_⟩
  refine List.forall_mem_cons.mpr ⟨zs_aload dX8_move_102, ?_⟩
  refine List.forall_mem_cons.mpr ⟨zs_callV (ci := 6) (rm := zR_X6_markFollowers) (n := 1) rfl zM_X6_markFollowers gX8_move_X6_markFollowers rfl (by decide +kernel) ⟨by decide, by decide⟩ dX8_move_104, ?_⟩
  refine List.forall_mem_cons.mpr ⟨zs_aload_n dX8_move_107 rfl, ?_⟩
  refine List.forall_mem_cons.mpr ⟨zs_get (ci := 8) (j := 3) (N := 6) (C := RX8) (T := TX8) (index := 31) rfl (by decide) hin8 (List.mem_of_getElem? (i := 7) rfl) dX8_move_108, ?_⟩
  refine List.forall_mem_cons.mpr ⟨zs_callV (ci := 6) (rm := zR_X6_wantAll) (n := 0) rfl zM_X6_wantAll gX8_move_X6_wantAll rfl (by decide +kernel) ⟨by decide, by decide⟩ dX8_move_111, ?_⟩
  refine List.forall_mem_cons.mpr ⟨zs_aload_n dX8_move_114 rfl, ?_⟩
  refine List.forall_mem_cons.mpr ⟨zs_aload dX8_move_115, ?_⟩
  refine List.forall_mem_cons.mpr ⟨zs_iload_n dX8_move_117 rfl, ?_⟩
  refine List.forall_mem_cons.mpr ⟨zs_iload_n dX8_move_118 rfl, ?_⟩
  refine List.forall_mem_cons.mpr ⟨zs_callV (ci := 8) (rm := zR_X8_shift) (n := 3) rfl zM_X8_shift gX8_move_X8_shift rfl (by decide +kernel) ⟨by decide, by decide⟩ dX8_move_119, ?_⟩
  refine List.forall_mem_cons.mpr ⟨zs_aload_n dX8_move_122 rfl, ?_⟩
  refine List.forall_mem_cons.mpr ⟨zs_get (ci := 8) (j := 3) (N := 6) (C := RX8) (T := TX8) (index := 31) rfl (by decide) hin8 (List.mem_of_getElem? (i := 7) rfl) dX8_move_123, ?_⟩
  refine List.forall_mem_cons.mpr ⟨zs_callV (ci := 6) (rm := zR_X6_lackingOnes) (n := 0) rfl zM_X6_lackingOnes gX8_move_X6_lackingOnes rfl (by decide +kernel) ⟨by decide, by decide⟩ dX8_move_126, ?_⟩
  refine List.forall_mem_cons.mpr ⟨zs_reti (ty := .int) rfl (fun x h => (zni x h).1) dX8_move_129, ?_⟩
  exact fun _ h => absurd h List.not_mem_nil
theorem zM_X8_move : zMeets zEC yX8_move wsX8_move zR_X8_move m_X8_move := zmeth_M zECok (zlook_all (zcs_X8_move rfl)) (by decide +kernel) rfl
theorem zr_X8_move_0 (a1 a2 a3 a4 : Option zAV) (st : List zAV) (s : zAS) (k : Nat × Nat) (o : Nat × Nat) : zev zk_X8_move (0, [some (Sum.inr o), a1, a2, a3, a4], st, s, k) = zev zk_X8_move (1, [some (Sum.inr o), a1, a2, a3, a4], Sum.inr o :: st, s, k) := zev_go rfl rfl
theorem zr_X8_move_1 (ls : zLs) (st : List zAV) (s : zAS) (k : Nat × Nat) (o i : Nat) : zev zk_X8_move (1, ls, Sum.inr (o, i) :: st, s, k) = zpush zk_X8_move 4 ls st s k (zgv zEC 8 3 o i s.1) := zf_get rfl
theorem zr_X8_move_4 (a0 a2 a3 a4 : Option zAV) (st : List zAV) (s : zAS) (k : Nat × Nat) (x : Int32) : zev zk_X8_move (4, [a0, some (Sum.inl (Value.int x)), a2, a3, a4], st, s, k) = zev zk_X8_move (5, [a0, some (Sum.inl (Value.int x)), a2, a3, a4], Sum.inl (Value.int x) :: st, s, k) := zev_go rfl rfl
theorem zr_X8_move_5 (ls : zLs) (st : List zAV) (s : zAS) (k : Nat × Nat) (r v0 : zAV) (h : zcok zEC 6 0 0 (zR_X8_move).cells (zR_X8_move).slots r st k) : zev zk_X8_move (5, ls, v0 :: r :: st, s, k) = zret zk_X8_move 8 ls st (k.1 + 0, k.2 + 0) (m_X6_has [r, v0] s) := zf_callV (as := [v0]) 1 rfl rfl h
theorem zr_X8_move_8 (ls : zLs) (st : List zAV) (s : zAS) (k : Nat × Nat) (x : Int32) : zev zk_X8_move (8, ls, Sum.inl (Value.int x) :: st, s, k) = if decide (¬ x = 0) = true then zev zk_X8_move (21, ls, st, s, k) else zev zk_X8_move (11, ls, st, s, k) := zf_if (f := fun x => decide (¬ x = 0)) rfl
theorem zr_X8_move_21 (a1 a2 a3 a4 : Option zAV) (st : List zAV) (s : zAS) (k : Nat × Nat) (o : Nat × Nat) : zev zk_X8_move (21, [some (Sum.inr o), a1, a2, a3, a4], st, s, k) = zev zk_X8_move (22, [some (Sum.inr o), a1, a2, a3, a4], Sum.inr o :: st, s, k) := zev_go rfl rfl
theorem zr_X8_move_22 (ls : zLs) (st : List zAV) (s : zAS) (k : Nat × Nat) (o i : Nat) : zev zk_X8_move (22, ls, Sum.inr (o, i) :: st, s, k) = zpush zk_X8_move 25 ls st s k (zgv zEC 8 3 o i s.1) := zf_get rfl
theorem zr_X8_move_25 (a0 a2 a3 a4 : Option zAV) (st : List zAV) (s : zAS) (k : Nat × Nat) (x : Int32) : zev zk_X8_move (25, [a0, some (Sum.inl (Value.int x)), a2, a3, a4], st, s, k) = zev zk_X8_move (26, [a0, some (Sum.inl (Value.int x)), a2, a3, a4], Sum.inl (Value.int x) :: st, s, k) := zev_go rfl rfl
theorem zr_X8_move_26 (ls : zLs) (st : List zAV) (s : zAS) (k : Nat × Nat) (r v0 : zAV) (h : zcok zEC 6 0 0 (zR_X8_move).cells (zR_X8_move).slots r st k) : zev zk_X8_move (26, ls, v0 :: r :: st, s, k) = zret zk_X8_move 29 ls st (k.1 + 0, k.2 + 0) (m_X6_at [r, v0] s) := zf_callV (as := [v0]) 1 rfl rfl h
theorem zr_X8_move_29 (a0 a1 a2 a3 a4 : Option zAV) (st : List zAV) (s : zAS) (k : Nat × Nat) (o : Nat × Nat) : zev zk_X8_move (29, [a0, a1, a2, a3, a4], Sum.inr o :: st, s, k) = zev zk_X8_move (31, [a0, a1, a2, zk1 a3, some (Sum.inr o)], st, s, k) := zev_go rfl rfl
theorem zr_X8_move_31 (a1 a2 a3 a4 : Option zAV) (st : List zAV) (s : zAS) (k : Nat × Nat) (o : Nat × Nat) : zev zk_X8_move (31, [some (Sum.inr o), a1, a2, a3, a4], st, s, k) = zev zk_X8_move (32, [some (Sum.inr o), a1, a2, a3, a4], Sum.inr o :: st, s, k) := zev_go rfl rfl
theorem zr_X8_move_32 (ls : zLs) (st : List zAV) (s : zAS) (k : Nat × Nat) (o i : Nat) : zev zk_X8_move (32, ls, Sum.inr (o, i) :: st, s, k) = zpush zk_X8_move 35 ls st s k (zgv zEC 8 2 o i s.1) := zf_get rfl
theorem zr_X8_move_35 (a0 a1 a3 a4 : Option zAV) (st : List zAV) (s : zAS) (k : Nat × Nat) (x : Int32) : zev zk_X8_move (35, [a0, a1, some (Sum.inl (Value.int x)), a3, a4], st, s, k) = zev zk_X8_move (36, [a0, a1, some (Sum.inl (Value.int x)), a3, a4], Sum.inl (Value.int x) :: st, s, k) := zev_go rfl rfl
theorem zr_X8_move_36 (ls : zLs) (st : List zAV) (s : zAS) (k : Nat × Nat) (r v0 : zAV) (h : zcok zEC 3 0 0 (zR_X8_move).cells (zR_X8_move).slots r st k) : zev zk_X8_move (36, ls, v0 :: r :: st, s, k) = zret zk_X8_move 39 ls st (k.1 + 0, k.2 + 0) (m_X3_has [r, v0] s) := zf_callV (as := [v0]) 1 rfl rfl h
theorem zr_X8_move_39 (ls : zLs) (st : List zAV) (s : zAS) (k : Nat × Nat) (x : Int32) : zev zk_X8_move (39, ls, Sum.inl (Value.int x) :: st, s, k) = if decide (x = 0) = true then zev zk_X8_move (61, ls, st, s, k) else zev zk_X8_move (42, ls, st, s, k) := zf_if (f := fun x => decide (x = 0)) rfl
theorem zr_X8_move_42 (a0 a1 a2 a3 : Option zAV) (st : List zAV) (s : zAS) (k : Nat × Nat) (o : Nat × Nat) : zev zk_X8_move (42, [a0, a1, a2, a3, some (Sum.inr o)], st, s, k) = zev zk_X8_move (44, [a0, a1, a2, a3, some (Sum.inr o)], Sum.inr o :: st, s, k) := zev_go rfl rfl
theorem zr_X8_move_44 (ls : zLs) (st : List zAV) (s : zAS) (k : Nat × Nat) (o i : Nat) : zev zk_X8_move (44, ls, Sum.inr (o, i) :: st, s, k) = zpush zk_X8_move 47 ls st s k (zgv zEC 4 1 o i s.1) := zf_get rfl
theorem zr_X8_move_47 (ls : zLs) (st : List zAV) (s : zAS) (k : Nat × Nat) (x : Int32) : zev zk_X8_move (47, ls, Sum.inl (Value.int x) :: st, s, k) = if decide (¬ x = 0) = true then zev zk_X8_move (71, ls, st, s, k) else zev zk_X8_move (50, ls, st, s, k) := zf_if (f := fun x => decide (¬ x = 0)) rfl
theorem zr_X8_move_50 (a1 a2 a3 a4 : Option zAV) (st : List zAV) (s : zAS) (k : Nat × Nat) (o : Nat × Nat) : zev zk_X8_move (50, [some (Sum.inr o), a1, a2, a3, a4], st, s, k) = zev zk_X8_move (51, [some (Sum.inr o), a1, a2, a3, a4], Sum.inr o :: st, s, k) := zev_go rfl rfl
theorem zr_X8_move_51 (ls : zLs) (st : List zAV) (s : zAS) (k : Nat × Nat) (o i : Nat) : zev zk_X8_move (51, ls, Sum.inr (o, i) :: st, s, k) = zpush zk_X8_move 54 ls st s k (zgv zEC 8 2 o i s.1) := zf_get rfl
theorem zr_X8_move_54 (a0 a1 a2 a4 : Option zAV) (st : List zAV) (s : zAS) (k : Nat × Nat) (x : Int32) : zev zk_X8_move (54, [a0, a1, a2, some (Sum.inl (Value.int x)), a4], st, s, k) = zev zk_X8_move (55, [a0, a1, a2, some (Sum.inl (Value.int x)), a4], Sum.inl (Value.int x) :: st, s, k) := zev_go rfl rfl
theorem zr_X8_move_55 (ls : zLs) (st : List zAV) (s : zAS) (k : Nat × Nat) (r v0 : zAV) (h : zcok zEC 3 0 0 (zR_X8_move).cells (zR_X8_move).slots r st k) : zev zk_X8_move (55, ls, v0 :: r :: st, s, k) = zret zk_X8_move 58 ls st (k.1 + 0, k.2 + 0) (m_X3_has [r, v0] s) := zf_callV (as := [v0]) 1 rfl rfl h
theorem zr_X8_move_58 (ls : zLs) (st : List zAV) (s : zAS) (k : Nat × Nat) (x : Int32) : zev zk_X8_move (58, ls, Sum.inl (Value.int x) :: st, s, k) = if decide (¬ x = 0) = true then zev zk_X8_move (71, ls, st, s, k) else zev zk_X8_move (61, ls, st, s, k) := zf_if (f := fun x => decide (¬ x = 0)) rfl
theorem zr_X8_move_71 (a0 a1 a2 a3 : Option zAV) (st : List zAV) (s : zAS) (k : Nat × Nat) (o : Nat × Nat) : zev zk_X8_move (71, [a0, a1, a2, a3, some (Sum.inr o)], st, s, k) = zev zk_X8_move (73, [a0, a1, a2, a3, some (Sum.inr o)], Sum.inr o :: st, s, k) := zev_go rfl rfl
theorem zr_X8_move_73 (ls : zLs) (st : List zAV) (s : zAS) (k : Nat × Nat) (o i : Nat) : zev zk_X8_move (73, ls, Sum.inr (o, i) :: st, s, k) = zpush zk_X8_move 76 ls st s k (zgv zEC 4 1 o i s.1) := zf_get rfl
theorem zr_X8_move_76 (ls : zLs) (st : List zAV) (s : zAS) (k : Nat × Nat) (x : Int32) : zev zk_X8_move (76, ls, Sum.inl (Value.int x) :: st, s, k) = if decide (x = 0) = true then zev zk_X8_move (98, ls, st, s, k) else zev zk_X8_move (79, ls, st, s, k) := zf_if (f := fun x => decide (x = 0)) rfl
theorem zr_X8_move_79 (a0 a1 a2 a3 : Option zAV) (st : List zAV) (s : zAS) (k : Nat × Nat) (o : Nat × Nat) : zev zk_X8_move (79, [a0, a1, a2, a3, some (Sum.inr o)], st, s, k) = zev zk_X8_move (81, [a0, a1, a2, a3, some (Sum.inr o)], Sum.inr o :: st, s, k) := zev_go rfl rfl
theorem zr_X8_move_81 (ls : zLs) (st : List zAV) (s : zAS) (k : Nat × Nat) (o i : Nat) : zev zk_X8_move (81, ls, Sum.inr (o, i) :: st, s, k) = zpush zk_X8_move 84 ls st s k (zgv zEC 4 1 o i s.1) := zf_get rfl
theorem zr_X8_move_84 (ls : zLs) (st : List zAV) (s : zAS) (k : Nat × Nat) : zev zk_X8_move (84, ls, st, s, k) = zev zk_X8_move (85, ls, Sum.inl (Value.int (1)) :: st, s, k) := zev_go rfl rfl
theorem zr_X8_move_85 (ls : zLs) (st : List zAV) (s : zAS) (k : Nat × Nat) (x y : Int32) : zev zk_X8_move (85, ls, Sum.inl (Value.int y) :: Sum.inl (Value.int x) :: st, s, k) = if decide (x = y) = true then zev zk_X8_move (98, ls, st, s, k) else zev zk_X8_move (88, ls, st, s, k) := zf_cmp (f := fun x y => decide (x = y)) rfl
theorem zr_X8_move_98 (a1 a2 a3 a4 : Option zAV) (st : List zAV) (s : zAS) (k : Nat × Nat) (o : Nat × Nat) : zev zk_X8_move (98, [some (Sum.inr o), a1, a2, a3, a4], st, s, k) = zev zk_X8_move (99, [some (Sum.inr o), a1, a2, a3, a4], Sum.inr o :: st, s, k) := zev_go rfl rfl
theorem zr_X8_move_99 (ls : zLs) (st : List zAV) (s : zAS) (k : Nat × Nat) (o i : Nat) : zev zk_X8_move (99, ls, Sum.inr (o, i) :: st, s, k) = zpush zk_X8_move 102 ls st s k (zgv zEC 8 3 o i s.1) := zf_get rfl
theorem zr_X8_move_102 (a0 a1 a2 a3 : Option zAV) (st : List zAV) (s : zAS) (k : Nat × Nat) (o : Nat × Nat) : zev zk_X8_move (102, [a0, a1, a2, a3, some (Sum.inr o)], st, s, k) = zev zk_X8_move (104, [a0, a1, a2, a3, some (Sum.inr o)], Sum.inr o :: st, s, k) := zev_go rfl rfl
theorem zr_X8_move_104 (ls : zLs) (st : List zAV) (s : zAS) (k : Nat × Nat) (r v0 : zAV) (h : zcok zEC 6 0 0 (zR_X8_move).cells (zR_X8_move).slots r st k) : zev zk_X8_move (104, ls, v0 :: r :: st, s, k) = zret zk_X8_move 107 ls st (k.1 + 0, k.2 + 0) (m_X6_markFollowers [r, v0] s) := zf_callV (as := [v0]) 1 rfl rfl h
theorem zr_X8_move_107 (a1 a2 a3 a4 : Option zAV) (st : List zAV) (s : zAS) (k : Nat × Nat) (o : Nat × Nat) : zev zk_X8_move (107, [some (Sum.inr o), a1, a2, a3, a4], st, s, k) = zev zk_X8_move (108, [some (Sum.inr o), a1, a2, a3, a4], Sum.inr o :: st, s, k) := zev_go rfl rfl
theorem zr_X8_move_108 (ls : zLs) (st : List zAV) (s : zAS) (k : Nat × Nat) (o i : Nat) : zev zk_X8_move (108, ls, Sum.inr (o, i) :: st, s, k) = zpush zk_X8_move 111 ls st s k (zgv zEC 8 3 o i s.1) := zf_get rfl
theorem zr_X8_move_111 (ls : zLs) (st : List zAV) (s : zAS) (k : Nat × Nat) (r : zAV) (h : zcok zEC 6 0 0 (zR_X8_move).cells (zR_X8_move).slots r st k) : zev zk_X8_move (111, ls, r :: st, s, k) = zret zk_X8_move 114 ls st (k.1 + 0, k.2 + 0) (m_X6_wantAll [r] s) := zf_callV (as := []) 0 rfl rfl h
theorem zr_X8_move_114 (a1 a2 a3 a4 : Option zAV) (st : List zAV) (s : zAS) (k : Nat × Nat) (o : Nat × Nat) : zev zk_X8_move (114, [some (Sum.inr o), a1, a2, a3, a4], st, s, k) = zev zk_X8_move (115, [some (Sum.inr o), a1, a2, a3, a4], Sum.inr o :: st, s, k) := zev_go rfl rfl
theorem zr_X8_move_115 (a0 a1 a2 a3 : Option zAV) (st : List zAV) (s : zAS) (k : Nat × Nat) (o : Nat × Nat) : zev zk_X8_move (115, [a0, a1, a2, a3, some (Sum.inr o)], st, s, k) = zev zk_X8_move (117, [a0, a1, a2, a3, some (Sum.inr o)], Sum.inr o :: st, s, k) := zev_go rfl rfl
theorem zr_X8_move_117 (a0 a1 a3 a4 : Option zAV) (st : List zAV) (s : zAS) (k : Nat × Nat) (x : Int32) : zev zk_X8_move (117, [a0, a1, some (Sum.inl (Value.int x)), a3, a4], st, s, k) = zev zk_X8_move (118, [a0, a1, some (Sum.inl (Value.int x)), a3, a4], Sum.inl (Value.int x) :: st, s, k) := zev_go rfl rfl
theorem zr_X8_move_118 (a0 a1 a2 a4 : Option zAV) (st : List zAV) (s : zAS) (k : Nat × Nat) (x : Int32) : zev zk_X8_move (118, [a0, a1, a2, some (Sum.inl (Value.int x)), a4], st, s, k) = zev zk_X8_move (119, [a0, a1, a2, some (Sum.inl (Value.int x)), a4], Sum.inl (Value.int x) :: st, s, k) := zev_go rfl rfl
theorem zr_X8_move_119 (ls : zLs) (st : List zAV) (s : zAS) (k : Nat × Nat) (r v0 v1 v2 : zAV) (h : zcok zEC 8 0 0 (zR_X8_move).cells (zR_X8_move).slots r st k) : zev zk_X8_move (119, ls, v2 :: v1 :: v0 :: r :: st, s, k) = zret zk_X8_move 122 ls st (k.1 + 0, k.2 + 0) (m_X8_shift [r, v0, v1, v2] s) := zf_callV (as := [v2, v1, v0]) 3 rfl rfl h
theorem zr_X8_move_122 (a1 a2 a3 a4 : Option zAV) (st : List zAV) (s : zAS) (k : Nat × Nat) (o : Nat × Nat) : zev zk_X8_move (122, [some (Sum.inr o), a1, a2, a3, a4], st, s, k) = zev zk_X8_move (123, [some (Sum.inr o), a1, a2, a3, a4], Sum.inr o :: st, s, k) := zev_go rfl rfl
theorem zr_X8_move_123 (ls : zLs) (st : List zAV) (s : zAS) (k : Nat × Nat) (o i : Nat) : zev zk_X8_move (123, ls, Sum.inr (o, i) :: st, s, k) = zpush zk_X8_move 126 ls st s k (zgv zEC 8 3 o i s.1) := zf_get rfl
theorem zr_X8_move_126 (ls : zLs) (st : List zAV) (s : zAS) (k : Nat × Nat) (r : zAV) (h : zcok zEC 6 0 0 (zR_X8_move).cells (zR_X8_move).slots r st k) : zev zk_X8_move (126, ls, r :: st, s, k) = zret zk_X8_move 129 ls st (k.1 + 0, k.2 + 0) (m_X6_lackingOnes [r] s) := zf_callV (as := []) 0 rfl rfl h
theorem zr_X8_move_129 (ls : zLs) (s : zAS) (k : Nat × Nat) (x : Int32) : zev zk_X8_move (129, ls, [Sum.inl (Value.int x)], s, k) = some (.inl (some (Sum.inl (Value.int x))), s) := zf_reti rfl
/-! X8_object: PrimePlane.object(II)I -/
abbrev zR_X8_object : Room := ({ frames := 2, cells := 0, slots := 0, locals := 41 } : Room)
noncomputable def zl_X8_object : List (Nat × zOp) := [(0, z_lda 0 1), (1, z_get zEC 8 3 4), (4, z_ldi 1 5), (5, z_callV zEC 6 m_X6_has 1 0 0 (zR_X8_object).cells (zR_X8_object).slots 8), (8, z_if (fun x => decide (x = 0)) 20 11), (11, z_ldi 2 12), (12, z_if (fun x => decide (x < 0)) 20 15), (15, z_ldi 2 16), (16, z_ic (5) 17), (17, z_cmp (fun x y => decide (x ≤ y)) 30 20), (30, z_lda 0 31), (31, z_get zEC 8 3 34), (34, z_ldi 1 35), (35, z_callV zEC 6 m_X6_at 1 0 0 (zR_X8_object).cells (zR_X8_object).slots 38), (38, z_ldi 2 39), (39, z_callV zEC 4 m_X4_feature 1 0 0 (zR_X8_object).cells (zR_X8_object).slots 42), (42, z_reti false)]
noncomputable def zk_X8_object (pc : Nat) : Option zOp := zlook zl_X8_object pc
noncomputable def m_X8_object : List zAV → zAS → Option zOut := zmeth zk_X8_object 3
set_option maxRecDepth 100000 in
set_option maxHeartbeats 4000000 in
theorem zcs_X8_object {R : Room} (hR : R = zR_X8_object) : ∀ q ∈ zl_X8_object, zS zEC yX8_object.cls cX8_object 3 wsX8_object (some .int) R q.1 q.2 := by
  subst hR
  have hin8 : ∀ w ∈ wsX80, w ∈ wsX8_object := fun w h => List.mem_cons_of_mem _ (List.mem_append_left _ (List.mem_append_left _ (List.mem_append_left _ (List.mem_append_right _ h))))
  refine List.forall_mem_cons.mpr ⟨zs_aload_n dX8_object_0 rfl, ?_⟩
  refine List.forall_mem_cons.mpr ⟨zs_get (ci := 8) (j := 3) (N := 6) (C := RX8) (T := TX8) (index := 31) rfl (by decide) hin8 (List.mem_of_getElem? (i := 3) rfl) dX8_object_1, ?_⟩
  refine List.forall_mem_cons.mpr ⟨zs_iload_n dX8_object_4 rfl, ?_⟩
  refine List.forall_mem_cons.mpr ⟨zs_callV (ci := 6) (rm := zR_X6_has) (n := 1) rfl zM_X6_has gX8_object_X6_has rfl (by decide +kernel) ⟨by decide, by decide⟩ dX8_object_5, ?_⟩
  refine List.forall_mem_cons.mpr ⟨zs_ifeq dX8_object_8 (by decide), ?_⟩
  refine List.forall_mem_cons.mpr ⟨zs_iload_n dX8_object_11 rfl, ?_⟩
  refine List.forall_mem_cons.mpr ⟨zs_iflt dX8_object_12 (by decide), ?_⟩
  refine List.forall_mem_cons.mpr ⟨zs_iload_n dX8_object_15 rfl, ?_⟩
  refine List.forall_mem_cons.mpr ⟨zs_iconst dX8_object_16 (by decide), ?_⟩
  refine List.forall_mem_cons.mpr ⟨zs_icle dX8_object_17 (by decide), ?_⟩
  refine List.forall_mem_cons.mpr ⟨zs_aload_n dX8_object_30 rfl, ?_⟩
  refine List.forall_mem_cons.mpr ⟨zs_get (ci := 8) (j := 3) (N := 6) (C := RX8) (T := TX8) (index := 31) rfl (by decide) hin8 (List.mem_of_getElem? (i := 3) rfl) dX8_object_31, ?_⟩
  refine List.forall_mem_cons.mpr ⟨zs_iload_n dX8_object_34 rfl, ?_⟩
  refine List.forall_mem_cons.mpr ⟨zs_callV (ci := 6) (rm := zR_X6_at) (n := 1) rfl zM_X6_at gX8_object_X6_at rfl (by decide +kernel) ⟨by decide, by decide⟩ dX8_object_35, ?_⟩
  refine List.forall_mem_cons.mpr ⟨zs_iload_n dX8_object_38 rfl, ?_⟩
  refine List.forall_mem_cons.mpr ⟨zs_callV (ci := 4) (rm := zR_X4_feature) (n := 1) rfl zM_X4_feature gX8_object_X4_feature rfl (by decide +kernel) ⟨by decide, by decide⟩ dX8_object_39, ?_⟩
  refine List.forall_mem_cons.mpr ⟨zs_reti (ty := .int) rfl (fun x h => (zni x h).1) dX8_object_42, ?_⟩
  exact fun _ h => absurd h List.not_mem_nil
theorem zM_X8_object : zMeets zEC yX8_object wsX8_object zR_X8_object m_X8_object := zmeth_M zECok (zlook_all (zcs_X8_object rfl)) (by decide +kernel) rfl
theorem zr_X8_object_0 (a1 a2 : Option zAV) (st : List zAV) (s : zAS) (k : Nat × Nat) (o : Nat × Nat) : zev zk_X8_object (0, [some (Sum.inr o), a1, a2], st, s, k) = zev zk_X8_object (1, [some (Sum.inr o), a1, a2], Sum.inr o :: st, s, k) := zev_go rfl rfl
theorem zr_X8_object_1 (ls : zLs) (st : List zAV) (s : zAS) (k : Nat × Nat) (o i : Nat) : zev zk_X8_object (1, ls, Sum.inr (o, i) :: st, s, k) = zpush zk_X8_object 4 ls st s k (zgv zEC 8 3 o i s.1) := zf_get rfl
theorem zr_X8_object_4 (a0 a2 : Option zAV) (st : List zAV) (s : zAS) (k : Nat × Nat) (x : Int32) : zev zk_X8_object (4, [a0, some (Sum.inl (Value.int x)), a2], st, s, k) = zev zk_X8_object (5, [a0, some (Sum.inl (Value.int x)), a2], Sum.inl (Value.int x) :: st, s, k) := zev_go rfl rfl
theorem zr_X8_object_5 (ls : zLs) (st : List zAV) (s : zAS) (k : Nat × Nat) (r v0 : zAV) (h : zcok zEC 6 0 0 (zR_X8_object).cells (zR_X8_object).slots r st k) : zev zk_X8_object (5, ls, v0 :: r :: st, s, k) = zret zk_X8_object 8 ls st (k.1 + 0, k.2 + 0) (m_X6_has [r, v0] s) := zf_callV (as := [v0]) 1 rfl rfl h
theorem zr_X8_object_8 (ls : zLs) (st : List zAV) (s : zAS) (k : Nat × Nat) (x : Int32) : zev zk_X8_object (8, ls, Sum.inl (Value.int x) :: st, s, k) = if decide (x = 0) = true then zev zk_X8_object (20, ls, st, s, k) else zev zk_X8_object (11, ls, st, s, k) := zf_if (f := fun x => decide (x = 0)) rfl
theorem zr_X8_object_11 (a0 a1 : Option zAV) (st : List zAV) (s : zAS) (k : Nat × Nat) (x : Int32) : zev zk_X8_object (11, [a0, a1, some (Sum.inl (Value.int x))], st, s, k) = zev zk_X8_object (12, [a0, a1, some (Sum.inl (Value.int x))], Sum.inl (Value.int x) :: st, s, k) := zev_go rfl rfl
theorem zr_X8_object_12 (ls : zLs) (st : List zAV) (s : zAS) (k : Nat × Nat) (x : Int32) : zev zk_X8_object (12, ls, Sum.inl (Value.int x) :: st, s, k) = if decide (x < 0) = true then zev zk_X8_object (20, ls, st, s, k) else zev zk_X8_object (15, ls, st, s, k) := zf_if (f := fun x => decide (x < 0)) rfl
theorem zr_X8_object_15 (a0 a1 : Option zAV) (st : List zAV) (s : zAS) (k : Nat × Nat) (x : Int32) : zev zk_X8_object (15, [a0, a1, some (Sum.inl (Value.int x))], st, s, k) = zev zk_X8_object (16, [a0, a1, some (Sum.inl (Value.int x))], Sum.inl (Value.int x) :: st, s, k) := zev_go rfl rfl
theorem zr_X8_object_16 (ls : zLs) (st : List zAV) (s : zAS) (k : Nat × Nat) : zev zk_X8_object (16, ls, st, s, k) = zev zk_X8_object (17, ls, Sum.inl (Value.int (5)) :: st, s, k) := zev_go rfl rfl
theorem zr_X8_object_17 (ls : zLs) (st : List zAV) (s : zAS) (k : Nat × Nat) (x y : Int32) : zev zk_X8_object (17, ls, Sum.inl (Value.int y) :: Sum.inl (Value.int x) :: st, s, k) = if decide (x ≤ y) = true then zev zk_X8_object (30, ls, st, s, k) else zev zk_X8_object (20, ls, st, s, k) := zf_cmp (f := fun x y => decide (x ≤ y)) rfl
theorem zr_X8_object_30 (a1 a2 : Option zAV) (st : List zAV) (s : zAS) (k : Nat × Nat) (o : Nat × Nat) : zev zk_X8_object (30, [some (Sum.inr o), a1, a2], st, s, k) = zev zk_X8_object (31, [some (Sum.inr o), a1, a2], Sum.inr o :: st, s, k) := zev_go rfl rfl
theorem zr_X8_object_31 (ls : zLs) (st : List zAV) (s : zAS) (k : Nat × Nat) (o i : Nat) : zev zk_X8_object (31, ls, Sum.inr (o, i) :: st, s, k) = zpush zk_X8_object 34 ls st s k (zgv zEC 8 3 o i s.1) := zf_get rfl
theorem zr_X8_object_34 (a0 a2 : Option zAV) (st : List zAV) (s : zAS) (k : Nat × Nat) (x : Int32) : zev zk_X8_object (34, [a0, some (Sum.inl (Value.int x)), a2], st, s, k) = zev zk_X8_object (35, [a0, some (Sum.inl (Value.int x)), a2], Sum.inl (Value.int x) :: st, s, k) := zev_go rfl rfl
theorem zr_X8_object_35 (ls : zLs) (st : List zAV) (s : zAS) (k : Nat × Nat) (r v0 : zAV) (h : zcok zEC 6 0 0 (zR_X8_object).cells (zR_X8_object).slots r st k) : zev zk_X8_object (35, ls, v0 :: r :: st, s, k) = zret zk_X8_object 38 ls st (k.1 + 0, k.2 + 0) (m_X6_at [r, v0] s) := zf_callV (as := [v0]) 1 rfl rfl h
theorem zr_X8_object_38 (a0 a1 : Option zAV) (st : List zAV) (s : zAS) (k : Nat × Nat) (x : Int32) : zev zk_X8_object (38, [a0, a1, some (Sum.inl (Value.int x))], st, s, k) = zev zk_X8_object (39, [a0, a1, some (Sum.inl (Value.int x))], Sum.inl (Value.int x) :: st, s, k) := zev_go rfl rfl
theorem zr_X8_object_39 (ls : zLs) (st : List zAV) (s : zAS) (k : Nat × Nat) (r v0 : zAV) (h : zcok zEC 4 0 0 (zR_X8_object).cells (zR_X8_object).slots r st k) : zev zk_X8_object (39, ls, v0 :: r :: st, s, k) = zret zk_X8_object 42 ls st (k.1 + 0, k.2 + 0) (m_X4_feature [r, v0] s) := zf_callV (as := [v0]) 1 rfl rfl h
theorem zr_X8_object_42 (ls : zLs) (s : zAS) (k : Nat × Nat) (x : Int32) : zev zk_X8_object (42, ls, [Sum.inl (Value.int x)], s, k) = some (.inl (some (Sum.inl (Value.int x))), s) := zf_reti rfl
/-! X8_number: PrimePlane.number(II)I -/
abbrev zR_X8_number : Room := ({ frames := 1, cells := 0, slots := 0, locals := 22 } : Room)
noncomputable def zl_X8_number : List (Nat × zOp) := [(0, z_lda 0 1), (1, z_get zEC 8 3 4), (4, z_ldi 1 5), (5, z_callV zEC 6 m_X6_has 1 0 0 (zR_X8_number).cells (zR_X8_number).slots 8), (8, z_if (fun x => decide (x = 0)) 20 11), (11, z_ldi 2 12), (12, z_if (fun x => decide (x < 0)) 20 15), (15, z_ldi 2 16), (16, z_ic (2) 17), (17, z_cmp (fun x y => decide (x ≤ y)) 30 20), (30, z_lda 0 31), (31, z_get zEC 8 3 34), (34, z_ldi 1 35), (35, z_callV zEC 6 m_X6_at 1 0 0 (zR_X8_number).cells (zR_X8_number).slots 38), (38, z_sta 3 39), (39, z_lda 3 40), (40, z_get zEC 4 7 43), (43, z_if (fun x => decide (x = 0)) 56 46), (56, z_ldi 2 57), (57, z_if (fun x => decide (¬ x = 0)) 67 60), (60, z_lda 3 61), (61, z_get zEC 4 8 64), (64, z_goto 83), (67, z_ldi 2 68), (68, z_ic (1) 69), (69, z_cmp (fun x y => decide (¬ x = y)) 79 72), (72, z_lda 3 73), (73, z_get zEC 4 9 76), (76, z_goto 83), (79, z_lda 3 80), (80, z_get zEC 4 10 83), (83, z_reti false)]
noncomputable def zk_X8_number (pc : Nat) : Option zOp := zlook zl_X8_number pc
noncomputable def m_X8_number : List zAV → zAS → Option zOut := zmeth zk_X8_number 4
set_option maxRecDepth 100000 in
set_option maxHeartbeats 4000000 in
theorem zcs_X8_number {R : Room} (hR : R = zR_X8_number) : ∀ q ∈ zl_X8_number, zS zEC yX8_number.cls cX8_number 4 wsX8_number (some .int) R q.1 q.2 := by
  subst hR
  have hin4 : ∀ w ∈ wsX40, w ∈ wsX8_number := fun w h => List.mem_cons_of_mem _ (List.mem_append_left _ (List.mem_append_left _ (List.mem_append_left _ (List.mem_append_right _ h))))
  have hin8 : ∀ w ∈ wsX80, w ∈ wsX8_number := fun w h => List.mem_cons_of_mem _ (List.mem_append_left _ (List.mem_append_left _ (List.mem_append_left _ (List.mem_append_left _ (List.mem_append_right _ h)))))
  refine List.forall_mem_cons.mpr ⟨zs_aload_n dX8_number_0 rfl, ?_⟩
  refine List.forall_mem_cons.mpr ⟨zs_get (ci := 8) (j := 3) (N := 6) (C := RX8) (T := TX8) (index := 31) rfl (by decide) hin8 (List.mem_of_getElem? (i := 5) rfl) dX8_number_1, ?_⟩
  refine List.forall_mem_cons.mpr ⟨zs_iload_n dX8_number_4 rfl, ?_⟩
  refine List.forall_mem_cons.mpr ⟨zs_callV (ci := 6) (rm := zR_X6_has) (n := 1) rfl zM_X6_has gX8_number_X6_has rfl (by decide +kernel) ⟨by decide, by decide⟩ dX8_number_5, ?_⟩
  refine List.forall_mem_cons.mpr ⟨zs_ifeq dX8_number_8 (by decide), ?_⟩
  refine List.forall_mem_cons.mpr ⟨zs_iload_n dX8_number_11 rfl, ?_⟩
  refine List.forall_mem_cons.mpr ⟨zs_iflt dX8_number_12 (by decide), ?_⟩
  refine List.forall_mem_cons.mpr ⟨zs_iload_n dX8_number_15 rfl, ?_⟩
  refine List.forall_mem_cons.mpr ⟨zs_iconst dX8_number_16 (by decide), ?_⟩
  refine List.forall_mem_cons.mpr ⟨zs_icle dX8_number_17 (by decide), ?_⟩
  refine List.forall_mem_cons.mpr ⟨zs_aload_n dX8_number_30 rfl, ?_⟩
  refine List.forall_mem_cons.mpr ⟨zs_get (ci := 8) (j := 3) (N := 6) (C := RX8) (T := TX8) (index := 31) rfl (by decide) hin8 (List.mem_of_getElem? (i := 5) rfl) dX8_number_31, ?_⟩
  refine List.forall_mem_cons.mpr ⟨zs_iload_n dX8_number_34 rfl, ?_⟩
  refine List.forall_mem_cons.mpr ⟨zs_callV (ci := 6) (rm := zR_X6_at) (n := 1) rfl zM_X6_at gX8_number_X6_at rfl (by decide +kernel) ⟨by decide, by decide⟩ dX8_number_35, ?_⟩
  refine List.forall_mem_cons.mpr ⟨zs_astore_n dX8_number_38 rfl, ?_⟩
  refine List.forall_mem_cons.mpr ⟨zs_aload_n dX8_number_39 rfl, ?_⟩
  refine List.forall_mem_cons.mpr ⟨zs_get (ci := 4) (j := 7) (N := 13) (C := RX4) (T := TX4) (index := 188) rfl (by decide) hin4 (List.mem_of_getElem? (i := 6) rfl) dX8_number_40, ?_⟩
  refine List.forall_mem_cons.mpr ⟨zs_ifeq dX8_number_43 (by decide), ?_⟩
  refine List.forall_mem_cons.mpr ⟨zs_iload_n dX8_number_56 rfl, ?_⟩
  refine List.forall_mem_cons.mpr ⟨zs_ifne dX8_number_57 (by decide), ?_⟩
  refine List.forall_mem_cons.mpr ⟨zs_aload_n dX8_number_60 rfl, ?_⟩
  refine List.forall_mem_cons.mpr ⟨zs_get (ci := 4) (j := 8) (N := 13) (C := RX4) (T := TX4) (index := 194) rfl (by decide) hin4 (List.mem_of_getElem? (i := 7) rfl) dX8_number_61, ?_⟩
  refine List.forall_mem_cons.mpr ⟨zs_goto dX8_number_64 (by decide), ?_⟩
  refine List.forall_mem_cons.mpr ⟨zs_iload_n dX8_number_67 rfl, ?_⟩
  refine List.forall_mem_cons.mpr ⟨zs_iconst dX8_number_68 (by decide), ?_⟩
  refine List.forall_mem_cons.mpr ⟨zs_icne dX8_number_69 (by decide), ?_⟩
  refine List.forall_mem_cons.mpr ⟨zs_aload_n dX8_number_72 rfl, ?_⟩
  refine List.forall_mem_cons.mpr ⟨zs_get (ci := 4) (j := 9) (N := 13) (C := RX4) (T := TX4) (index := 197) rfl (by decide) hin4 (List.mem_of_getElem? (i := 8) rfl) dX8_number_73, ?_⟩
  refine List.forall_mem_cons.mpr ⟨zs_goto dX8_number_76 (by decide), ?_⟩
  refine List.forall_mem_cons.mpr ⟨zs_aload_n dX8_number_79 rfl, ?_⟩
  refine List.forall_mem_cons.mpr ⟨zs_get (ci := 4) (j := 10) (N := 13) (C := RX4) (T := TX4) (index := 200) rfl (by decide) hin4 (List.mem_of_getElem? (i := 9) rfl) dX8_number_80, ?_⟩
  refine List.forall_mem_cons.mpr ⟨zs_reti (ty := .int) rfl (fun x h => (zni x h).1) dX8_number_83, ?_⟩
  exact fun _ h => absurd h List.not_mem_nil
theorem zM_X8_number : zMeets zEC yX8_number wsX8_number zR_X8_number m_X8_number := zmeth_M zECok (zlook_all (zcs_X8_number rfl)) (by decide +kernel) rfl
theorem zr_X8_number_0 (a1 a2 a3 : Option zAV) (st : List zAV) (s : zAS) (k : Nat × Nat) (o : Nat × Nat) : zev zk_X8_number (0, [some (Sum.inr o), a1, a2, a3], st, s, k) = zev zk_X8_number (1, [some (Sum.inr o), a1, a2, a3], Sum.inr o :: st, s, k) := zev_go rfl rfl
theorem zr_X8_number_1 (ls : zLs) (st : List zAV) (s : zAS) (k : Nat × Nat) (o i : Nat) : zev zk_X8_number (1, ls, Sum.inr (o, i) :: st, s, k) = zpush zk_X8_number 4 ls st s k (zgv zEC 8 3 o i s.1) := zf_get rfl
theorem zr_X8_number_4 (a0 a2 a3 : Option zAV) (st : List zAV) (s : zAS) (k : Nat × Nat) (x : Int32) : zev zk_X8_number (4, [a0, some (Sum.inl (Value.int x)), a2, a3], st, s, k) = zev zk_X8_number (5, [a0, some (Sum.inl (Value.int x)), a2, a3], Sum.inl (Value.int x) :: st, s, k) := zev_go rfl rfl
theorem zr_X8_number_5 (ls : zLs) (st : List zAV) (s : zAS) (k : Nat × Nat) (r v0 : zAV) (h : zcok zEC 6 0 0 (zR_X8_number).cells (zR_X8_number).slots r st k) : zev zk_X8_number (5, ls, v0 :: r :: st, s, k) = zret zk_X8_number 8 ls st (k.1 + 0, k.2 + 0) (m_X6_has [r, v0] s) := zf_callV (as := [v0]) 1 rfl rfl h
theorem zr_X8_number_8 (ls : zLs) (st : List zAV) (s : zAS) (k : Nat × Nat) (x : Int32) : zev zk_X8_number (8, ls, Sum.inl (Value.int x) :: st, s, k) = if decide (x = 0) = true then zev zk_X8_number (20, ls, st, s, k) else zev zk_X8_number (11, ls, st, s, k) := zf_if (f := fun x => decide (x = 0)) rfl
theorem zr_X8_number_11 (a0 a1 a3 : Option zAV) (st : List zAV) (s : zAS) (k : Nat × Nat) (x : Int32) : zev zk_X8_number (11, [a0, a1, some (Sum.inl (Value.int x)), a3], st, s, k) = zev zk_X8_number (12, [a0, a1, some (Sum.inl (Value.int x)), a3], Sum.inl (Value.int x) :: st, s, k) := zev_go rfl rfl
theorem zr_X8_number_12 (ls : zLs) (st : List zAV) (s : zAS) (k : Nat × Nat) (x : Int32) : zev zk_X8_number (12, ls, Sum.inl (Value.int x) :: st, s, k) = if decide (x < 0) = true then zev zk_X8_number (20, ls, st, s, k) else zev zk_X8_number (15, ls, st, s, k) := zf_if (f := fun x => decide (x < 0)) rfl
theorem zr_X8_number_15 (a0 a1 a3 : Option zAV) (st : List zAV) (s : zAS) (k : Nat × Nat) (x : Int32) : zev zk_X8_number (15, [a0, a1, some (Sum.inl (Value.int x)), a3], st, s, k) = zev zk_X8_number (16, [a0, a1, some (Sum.inl (Value.int x)), a3], Sum.inl (Value.int x) :: st, s, k) := zev_go rfl rfl
theorem zr_X8_number_16 (ls : zLs) (st : List zAV) (s : zAS) (k : Nat × Nat) : zev zk_X8_number (16, ls, st, s, k) = zev zk_X8_number (17, ls, Sum.inl (Value.int (2)) :: st, s, k) := zev_go rfl rfl
theorem zr_X8_number_17 (ls : zLs) (st : List zAV) (s : zAS) (k : Nat × Nat) (x y : Int32) : zev zk_X8_number (17, ls, Sum.inl (Value.int y) :: Sum.inl (Value.int x) :: st, s, k) = if decide (x ≤ y) = true then zev zk_X8_number (30, ls, st, s, k) else zev zk_X8_number (20, ls, st, s, k) := zf_cmp (f := fun x y => decide (x ≤ y)) rfl
theorem zr_X8_number_30 (a1 a2 a3 : Option zAV) (st : List zAV) (s : zAS) (k : Nat × Nat) (o : Nat × Nat) : zev zk_X8_number (30, [some (Sum.inr o), a1, a2, a3], st, s, k) = zev zk_X8_number (31, [some (Sum.inr o), a1, a2, a3], Sum.inr o :: st, s, k) := zev_go rfl rfl
theorem zr_X8_number_31 (ls : zLs) (st : List zAV) (s : zAS) (k : Nat × Nat) (o i : Nat) : zev zk_X8_number (31, ls, Sum.inr (o, i) :: st, s, k) = zpush zk_X8_number 34 ls st s k (zgv zEC 8 3 o i s.1) := zf_get rfl
theorem zr_X8_number_34 (a0 a2 a3 : Option zAV) (st : List zAV) (s : zAS) (k : Nat × Nat) (x : Int32) : zev zk_X8_number (34, [a0, some (Sum.inl (Value.int x)), a2, a3], st, s, k) = zev zk_X8_number (35, [a0, some (Sum.inl (Value.int x)), a2, a3], Sum.inl (Value.int x) :: st, s, k) := zev_go rfl rfl
theorem zr_X8_number_35 (ls : zLs) (st : List zAV) (s : zAS) (k : Nat × Nat) (r v0 : zAV) (h : zcok zEC 6 0 0 (zR_X8_number).cells (zR_X8_number).slots r st k) : zev zk_X8_number (35, ls, v0 :: r :: st, s, k) = zret zk_X8_number 38 ls st (k.1 + 0, k.2 + 0) (m_X6_at [r, v0] s) := zf_callV (as := [v0]) 1 rfl rfl h
theorem zr_X8_number_38 (a0 a1 a2 a3 : Option zAV) (st : List zAV) (s : zAS) (k : Nat × Nat) (o : Nat × Nat) : zev zk_X8_number (38, [a0, a1, a2, a3], Sum.inr o :: st, s, k) = zev zk_X8_number (39, [a0, a1, zk1 a2, some (Sum.inr o)], st, s, k) := zev_go rfl rfl
theorem zr_X8_number_39 (a0 a1 a2 : Option zAV) (st : List zAV) (s : zAS) (k : Nat × Nat) (o : Nat × Nat) : zev zk_X8_number (39, [a0, a1, a2, some (Sum.inr o)], st, s, k) = zev zk_X8_number (40, [a0, a1, a2, some (Sum.inr o)], Sum.inr o :: st, s, k) := zev_go rfl rfl
theorem zr_X8_number_40 (ls : zLs) (st : List zAV) (s : zAS) (k : Nat × Nat) (o i : Nat) : zev zk_X8_number (40, ls, Sum.inr (o, i) :: st, s, k) = zpush zk_X8_number 43 ls st s k (zgv zEC 4 7 o i s.1) := zf_get rfl
theorem zr_X8_number_43 (ls : zLs) (st : List zAV) (s : zAS) (k : Nat × Nat) (x : Int32) : zev zk_X8_number (43, ls, Sum.inl (Value.int x) :: st, s, k) = if decide (x = 0) = true then zev zk_X8_number (56, ls, st, s, k) else zev zk_X8_number (46, ls, st, s, k) := zf_if (f := fun x => decide (x = 0)) rfl
theorem zr_X8_number_56 (a0 a1 a3 : Option zAV) (st : List zAV) (s : zAS) (k : Nat × Nat) (x : Int32) : zev zk_X8_number (56, [a0, a1, some (Sum.inl (Value.int x)), a3], st, s, k) = zev zk_X8_number (57, [a0, a1, some (Sum.inl (Value.int x)), a3], Sum.inl (Value.int x) :: st, s, k) := zev_go rfl rfl
theorem zr_X8_number_57 (ls : zLs) (st : List zAV) (s : zAS) (k : Nat × Nat) (x : Int32) : zev zk_X8_number (57, ls, Sum.inl (Value.int x) :: st, s, k) = if decide (¬ x = 0) = true then zev zk_X8_number (67, ls, st, s, k) else zev zk_X8_number (60, ls, st, s, k) := zf_if (f := fun x => decide (¬ x = 0)) rfl
theorem zr_X8_number_60 (a0 a1 a2 : Option zAV) (st : List zAV) (s : zAS) (k : Nat × Nat) (o : Nat × Nat) : zev zk_X8_number (60, [a0, a1, a2, some (Sum.inr o)], st, s, k) = zev zk_X8_number (61, [a0, a1, a2, some (Sum.inr o)], Sum.inr o :: st, s, k) := zev_go rfl rfl
theorem zr_X8_number_61 (ls : zLs) (st : List zAV) (s : zAS) (k : Nat × Nat) (o i : Nat) : zev zk_X8_number (61, ls, Sum.inr (o, i) :: st, s, k) = zpush zk_X8_number 64 ls st s k (zgv zEC 4 8 o i s.1) := zf_get rfl
theorem zr_X8_number_64 (ls : zLs) (st : List zAV) (s : zAS) (k : Nat × Nat) : zev zk_X8_number (64, ls, st, s, k) = zev zk_X8_number (83, ls, st, s, k) := zev_go rfl rfl
theorem zr_X8_number_67 (a0 a1 a3 : Option zAV) (st : List zAV) (s : zAS) (k : Nat × Nat) (x : Int32) : zev zk_X8_number (67, [a0, a1, some (Sum.inl (Value.int x)), a3], st, s, k) = zev zk_X8_number (68, [a0, a1, some (Sum.inl (Value.int x)), a3], Sum.inl (Value.int x) :: st, s, k) := zev_go rfl rfl
theorem zr_X8_number_68 (ls : zLs) (st : List zAV) (s : zAS) (k : Nat × Nat) : zev zk_X8_number (68, ls, st, s, k) = zev zk_X8_number (69, ls, Sum.inl (Value.int (1)) :: st, s, k) := zev_go rfl rfl
theorem zr_X8_number_69 (ls : zLs) (st : List zAV) (s : zAS) (k : Nat × Nat) (x y : Int32) : zev zk_X8_number (69, ls, Sum.inl (Value.int y) :: Sum.inl (Value.int x) :: st, s, k) = if decide (¬ x = y) = true then zev zk_X8_number (79, ls, st, s, k) else zev zk_X8_number (72, ls, st, s, k) := zf_cmp (f := fun x y => decide (¬ x = y)) rfl
theorem zr_X8_number_72 (a0 a1 a2 : Option zAV) (st : List zAV) (s : zAS) (k : Nat × Nat) (o : Nat × Nat) : zev zk_X8_number (72, [a0, a1, a2, some (Sum.inr o)], st, s, k) = zev zk_X8_number (73, [a0, a1, a2, some (Sum.inr o)], Sum.inr o :: st, s, k) := zev_go rfl rfl
theorem zr_X8_number_73 (ls : zLs) (st : List zAV) (s : zAS) (k : Nat × Nat) (o i : Nat) : zev zk_X8_number (73, ls, Sum.inr (o, i) :: st, s, k) = zpush zk_X8_number 76 ls st s k (zgv zEC 4 9 o i s.1) := zf_get rfl
theorem zr_X8_number_76 (ls : zLs) (st : List zAV) (s : zAS) (k : Nat × Nat) : zev zk_X8_number (76, ls, st, s, k) = zev zk_X8_number (83, ls, st, s, k) := zev_go rfl rfl
theorem zr_X8_number_79 (a0 a1 a2 : Option zAV) (st : List zAV) (s : zAS) (k : Nat × Nat) (o : Nat × Nat) : zev zk_X8_number (79, [a0, a1, a2, some (Sum.inr o)], st, s, k) = zev zk_X8_number (80, [a0, a1, a2, some (Sum.inr o)], Sum.inr o :: st, s, k) := zev_go rfl rfl
theorem zr_X8_number_80 (ls : zLs) (st : List zAV) (s : zAS) (k : Nat × Nat) (o i : Nat) : zev zk_X8_number (80, ls, Sum.inr (o, i) :: st, s, k) = zpush zk_X8_number 83 ls st s k (zgv zEC 4 10 o i s.1) := zf_get rfl
theorem zr_X8_number_83 (ls : zLs) (s : zAS) (k : Nat × Nat) (x : Int32) : zev zk_X8_number (83, ls, [Sum.inl (Value.int x)], s, k) = some (.inl (some (Sum.inl (Value.int x))), s) := zf_reti rfl
