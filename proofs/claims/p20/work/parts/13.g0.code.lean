/-! L_below: PrimePlaneLaw.below(II)I -/
abbrev zR_L_below : Room := ({ frames := 0, cells := 0, slots := 0, locals := 0 } : Room)
noncomputable def zl_L_below (sc : List Int32) : List (Nat × zOp) := [(0, z_ldi 0 1), (1, z_ic (2147483647) 3), (3, z_bin (fun x y => x &&& y) 4), (4, z_ldi 1 5), (5, z_rem 6), (6, z_reti false)]
noncomputable def zk_L_below (sc : List Int32) (pc : Nat) : Option zOp := zlook (zl_L_below sc) pc
noncomputable def m_L_below (sc : List Int32) : List zAV → zAS → Option zOut := zmeth (zk_L_below sc) 2
set_option maxRecDepth 100000 in
set_option maxHeartbeats 4000000 in
theorem zcs_L_below (sc : List Int32) {R : Room} (hR : R = zR_L_below) : ∀ q ∈ zl_L_below sc, zS (zES sc) yL_below.cls cL_below 2 wsL_below (some .int) R q.1 q.2 := by
  subst hR
  refine List.forall_mem_cons.mpr ⟨zs_iload_n dL_below_0 rfl, ?_⟩
  refine List.forall_mem_cons.mpr ⟨zs_ldc dL_below_1 (List.mem_of_getElem? (i := 1) rfl), ?_⟩
  refine List.forall_mem_cons.mpr ⟨zs_iand dL_below_3, ?_⟩
  refine List.forall_mem_cons.mpr ⟨zs_iload_n dL_below_4 rfl, ?_⟩
  refine List.forall_mem_cons.mpr ⟨zs_irem dL_below_5, ?_⟩
  refine List.forall_mem_cons.mpr ⟨zs_reti (ty := .int) rfl (fun x h => (zni x h).1) dL_below_6, ?_⟩
  exact fun _ h => absurd h List.not_mem_nil
theorem zM_L_below (sc : List Int32) : zMeets (zES sc) yL_below wsL_below zR_L_below (m_L_below sc) := zmeth_M (zES_ok sc) (zlook_all (zcs_L_below sc rfl)) (by decide +kernel) rfl
theorem zr_L_below_0 {sc : List Int32} (a1 : Option zAV) (st : List zAV) (s : zAS) (k : Nat × Nat) (x : Int32) : zev (zk_L_below sc) (0, [some (Sum.inl (Value.int x)), a1], st, s, k) = zev (zk_L_below sc) (1, [some (Sum.inl (Value.int x)), a1], Sum.inl (Value.int x) :: st, s, k) := zev_go rfl rfl
theorem zr_L_below_1 {sc : List Int32} (ls : zLs) (st : List zAV) (s : zAS) (k : Nat × Nat) : zev (zk_L_below sc) (1, ls, st, s, k) = zev (zk_L_below sc) (3, ls, Sum.inl (Value.int (2147483647)) :: st, s, k) := zev_go rfl rfl
theorem zr_L_below_3 {sc : List Int32} (ls : zLs) (st : List zAV) (s : zAS) (k : Nat × Nat) (x y : Int32) : zev (zk_L_below sc) (3, ls, Sum.inl (Value.int y) :: Sum.inl (Value.int x) :: st, s, k) = zev (zk_L_below sc) (4, ls, Sum.inl (Value.int (x &&& y)) :: st, s, k) := zev_go rfl rfl
theorem zr_L_below_4 {sc : List Int32} (a0 : Option zAV) (st : List zAV) (s : zAS) (k : Nat × Nat) (x : Int32) : zev (zk_L_below sc) (4, [a0, some (Sum.inl (Value.int x))], st, s, k) = zev (zk_L_below sc) (5, [a0, some (Sum.inl (Value.int x))], Sum.inl (Value.int x) :: st, s, k) := zev_go rfl rfl
theorem zr_L_below_5 {sc : List Int32} (ls : zLs) (st : List zAV) (s : zAS) (k : Nat × Nat) (x y : Int32) : zev (zk_L_below sc) (5, ls, Sum.inl (Value.int y) :: Sum.inl (Value.int x) :: st, s, k) = if y = 0 then none else zev (zk_L_below sc) (6, ls, Sum.inl (Value.int (x - x / y * y)) :: st, s, k) := zf_rem rfl
theorem zr_L_below_6 {sc : List Int32} (ls : zLs) (s : zAS) (k : Nat × Nat) (x : Int32) : zev (zk_L_below sc) (6, ls, [Sum.inl (Value.int x)], s, k) = some (.inl (some (Sum.inl (Value.int x))), s) := zf_reti rfl
/-! L_cell: PrimePlaneLaw.cell([II)I -/
abbrev zR_L_cell : Room := ({ frames := 0, cells := 0, slots := 0, locals := 0 } : Room)
noncomputable def zl_L_cell (sc : List Int32) : List (Nat × zOp) := [(0, z_ldi 1 1), (1, z_lda 0 2), (2, z_alen (zES sc) 3), (3, z_cmp (fun x y => decide (y ≤ x)) 12 6), (6, z_lda 0 7), (7, z_ldi 1 8), (8, z_iald (zES sc) 9), (9, z_goto 18), (12, z_ic (790386105) 14), (14, z_ldi 1 15), (15, z_ic (3) 16), (16, z_bin (fun x y => x + y) 17), (17, z_bin (fun x y => x * y) 18), (18, z_reti false)]
noncomputable def zk_L_cell (sc : List Int32) (pc : Nat) : Option zOp := zlook (zl_L_cell sc) pc
noncomputable def m_L_cell (sc : List Int32) : List zAV → zAS → Option zOut := zmeth (zk_L_cell sc) 2
set_option maxRecDepth 100000 in
set_option maxHeartbeats 4000000 in
theorem zcs_L_cell (sc : List Int32) {R : Room} (hR : R = zR_L_cell) : ∀ q ∈ zl_L_cell sc, zS (zES sc) yL_cell.cls cL_cell 2 wsL_cell (some .int) R q.1 q.2 := by
  subst hR
  refine List.forall_mem_cons.mpr ⟨zs_iload_n dL_cell_0 rfl, ?_⟩
  refine List.forall_mem_cons.mpr ⟨zs_aload_n dL_cell_1 rfl, ?_⟩
  refine List.forall_mem_cons.mpr ⟨zs_alen dL_cell_2, ?_⟩
  refine List.forall_mem_cons.mpr ⟨zs_icge dL_cell_3 (by decide), ?_⟩
  refine List.forall_mem_cons.mpr ⟨zs_aload_n dL_cell_6 rfl, ?_⟩
  refine List.forall_mem_cons.mpr ⟨zs_iload_n dL_cell_7 rfl, ?_⟩
  refine List.forall_mem_cons.mpr ⟨zs_iald dL_cell_8, ?_⟩
  refine List.forall_mem_cons.mpr ⟨zs_goto dL_cell_9 (by decide), ?_⟩
  refine List.forall_mem_cons.mpr ⟨zs_ldc dL_cell_12 (List.mem_of_getElem? (i := 1) rfl), ?_⟩
  refine List.forall_mem_cons.mpr ⟨zs_iload_n dL_cell_14 rfl, ?_⟩
  refine List.forall_mem_cons.mpr ⟨zs_iconst dL_cell_15 (by decide), ?_⟩
  refine List.forall_mem_cons.mpr ⟨zs_iadd dL_cell_16, ?_⟩
  refine List.forall_mem_cons.mpr ⟨zs_imul dL_cell_17, ?_⟩
  refine List.forall_mem_cons.mpr ⟨zs_reti (ty := .int) rfl (fun x h => (zni x h).1) dL_cell_18, ?_⟩
  exact fun _ h => absurd h List.not_mem_nil
theorem zM_L_cell (sc : List Int32) : zMeets (zES sc) yL_cell wsL_cell zR_L_cell (m_L_cell sc) := zmeth_M (zES_ok sc) (zlook_all (zcs_L_cell sc rfl)) (by decide +kernel) rfl
theorem zr_L_cell_0 {sc : List Int32} (a0 : Option zAV) (st : List zAV) (s : zAS) (k : Nat × Nat) (x : Int32) : zev (zk_L_cell sc) (0, [a0, some (Sum.inl (Value.int x))], st, s, k) = zev (zk_L_cell sc) (1, [a0, some (Sum.inl (Value.int x))], Sum.inl (Value.int x) :: st, s, k) := zev_go rfl rfl
theorem zr_L_cell_1 {sc : List Int32} (a1 : Option zAV) (st : List zAV) (s : zAS) (k : Nat × Nat) (o : Nat × Nat) : zev (zk_L_cell sc) (1, [some (Sum.inr o), a1], st, s, k) = zev (zk_L_cell sc) (2, [some (Sum.inr o), a1], Sum.inr o :: st, s, k) := zev_go rfl rfl
theorem zr_L_cell_2 {sc : List Int32} (ls : zLs) (st : List zAV) (s : zAS) (k : Nat × Nat) (o i : Nat) : zev (zk_L_cell sc) (2, ls, Sum.inr (o, i) :: st, s, k) = zpush (zk_L_cell sc) 3 ls st s k (zalen (zES sc) o i s.2) := zf_alen rfl
theorem zr_L_cell_3 {sc : List Int32} (ls : zLs) (st : List zAV) (s : zAS) (k : Nat × Nat) (x y : Int32) : zev (zk_L_cell sc) (3, ls, Sum.inl (Value.int y) :: Sum.inl (Value.int x) :: st, s, k) = if decide (y ≤ x) = true then zev (zk_L_cell sc) (12, ls, st, s, k) else zev (zk_L_cell sc) (6, ls, st, s, k) := zf_cmp (f := fun x y => decide (y ≤ x)) rfl
theorem zr_L_cell_6 {sc : List Int32} (a1 : Option zAV) (st : List zAV) (s : zAS) (k : Nat × Nat) (o : Nat × Nat) : zev (zk_L_cell sc) (6, [some (Sum.inr o), a1], st, s, k) = zev (zk_L_cell sc) (7, [some (Sum.inr o), a1], Sum.inr o :: st, s, k) := zev_go rfl rfl
theorem zr_L_cell_7 {sc : List Int32} (a0 : Option zAV) (st : List zAV) (s : zAS) (k : Nat × Nat) (x : Int32) : zev (zk_L_cell sc) (7, [a0, some (Sum.inl (Value.int x))], st, s, k) = zev (zk_L_cell sc) (8, [a0, some (Sum.inl (Value.int x))], Sum.inl (Value.int x) :: st, s, k) := zev_go rfl rfl
theorem zr_L_cell_8 {sc : List Int32} (ls : zLs) (st : List zAV) (s : zAS) (k : Nat × Nat) (o i : Nat) (j : Int32) : zev (zk_L_cell sc) (8, ls, Sum.inl (Value.int j) :: Sum.inr (o, i) :: st, s, k) = zpush (zk_L_cell sc) 9 ls st s k (zald (zES sc) o i j s) := zf_iald rfl
theorem zr_L_cell_9 {sc : List Int32} (ls : zLs) (st : List zAV) (s : zAS) (k : Nat × Nat) : zev (zk_L_cell sc) (9, ls, st, s, k) = zev (zk_L_cell sc) (18, ls, st, s, k) := zev_go rfl rfl
theorem zr_L_cell_12 {sc : List Int32} (ls : zLs) (st : List zAV) (s : zAS) (k : Nat × Nat) : zev (zk_L_cell sc) (12, ls, st, s, k) = zev (zk_L_cell sc) (14, ls, Sum.inl (Value.int (790386105)) :: st, s, k) := zev_go rfl rfl
theorem zr_L_cell_14 {sc : List Int32} (a0 : Option zAV) (st : List zAV) (s : zAS) (k : Nat × Nat) (x : Int32) : zev (zk_L_cell sc) (14, [a0, some (Sum.inl (Value.int x))], st, s, k) = zev (zk_L_cell sc) (15, [a0, some (Sum.inl (Value.int x))], Sum.inl (Value.int x) :: st, s, k) := zev_go rfl rfl
theorem zr_L_cell_15 {sc : List Int32} (ls : zLs) (st : List zAV) (s : zAS) (k : Nat × Nat) : zev (zk_L_cell sc) (15, ls, st, s, k) = zev (zk_L_cell sc) (16, ls, Sum.inl (Value.int (3)) :: st, s, k) := zev_go rfl rfl
theorem zr_L_cell_16 {sc : List Int32} (ls : zLs) (st : List zAV) (s : zAS) (k : Nat × Nat) (x y : Int32) : zev (zk_L_cell sc) (16, ls, Sum.inl (Value.int y) :: Sum.inl (Value.int x) :: st, s, k) = zev (zk_L_cell sc) (17, ls, Sum.inl (Value.int (x + y)) :: st, s, k) := zev_go rfl rfl
theorem zr_L_cell_17 {sc : List Int32} (ls : zLs) (st : List zAV) (s : zAS) (k : Nat × Nat) (x y : Int32) : zev (zk_L_cell sc) (17, ls, Sum.inl (Value.int y) :: Sum.inl (Value.int x) :: st, s, k) = zev (zk_L_cell sc) (18, ls, Sum.inl (Value.int (x * y)) :: st, s, k) := zev_go rfl rfl
theorem zr_L_cell_18 {sc : List Int32} (ls : zLs) (s : zAS) (k : Nat × Nat) (x : Int32) : zev (zk_L_cell sc) (18, ls, [Sum.inl (Value.int x)], s, k) = some (.inl (some (Sum.inl (Value.int x))), s) := zf_reti rfl
/-! L_square: PrimePlaneLaw.square(IIIII)I -/
abbrev zR_L_square : Room := ({ frames := 0, cells := 0, slots := 0, locals := 0 } : Room)
noncomputable def zl_L_square (sc : List Int32) : List (Nat × zOp) := [(0, z_ldi 1 1), (1, z_ldi 3 2), (2, z_bin (fun x y => x - y) 3), (3, z_ldi 1 4), (4, z_ldi 3 5), (5, z_bin (fun x y => x - y) 6), (6, z_bin (fun x y => x * y) 7), (7, z_ldi 2 8), (8, z_ldi 4 10), (10, z_bin (fun x y => x - y) 11), (11, z_ldi 2 12), (12, z_ldi 4 14), (14, z_bin (fun x y => x - y) 15), (15, z_bin (fun x y => x * y) 16), (16, z_bin (fun x y => x + y) 17), (17, z_ldi 0 18), (18, z_rem 19), (19, z_reti false)]
noncomputable def zk_L_square (sc : List Int32) (pc : Nat) : Option zOp := zlook (zl_L_square sc) pc
noncomputable def m_L_square (sc : List Int32) : List zAV → zAS → Option zOut := zmeth (zk_L_square sc) 5
set_option maxRecDepth 100000 in
set_option maxHeartbeats 4000000 in
theorem zcs_L_square (sc : List Int32) {R : Room} (hR : R = zR_L_square) : ∀ q ∈ zl_L_square sc, zS (zES sc) yL_square.cls cL_square 5 wsL_square (some .int) R q.1 q.2 := by
  subst hR
  refine List.forall_mem_cons.mpr ⟨zs_iload_n dL_square_0 rfl, ?_⟩
  refine List.forall_mem_cons.mpr ⟨zs_iload_n dL_square_1 rfl, ?_⟩
  refine List.forall_mem_cons.mpr ⟨zs_isub dL_square_2, ?_⟩
  refine List.forall_mem_cons.mpr ⟨zs_iload_n dL_square_3 rfl, ?_⟩
  refine List.forall_mem_cons.mpr ⟨zs_iload_n dL_square_4 rfl, ?_⟩
  refine List.forall_mem_cons.mpr ⟨zs_isub dL_square_5, ?_⟩
  refine List.forall_mem_cons.mpr ⟨zs_imul dL_square_6, ?_⟩
  refine List.forall_mem_cons.mpr ⟨zs_iload_n dL_square_7 rfl, ?_⟩
  refine List.forall_mem_cons.mpr ⟨zs_iload dL_square_8, ?_⟩
  refine List.forall_mem_cons.mpr ⟨zs_isub dL_square_10, ?_⟩
  refine List.forall_mem_cons.mpr ⟨zs_iload_n dL_square_11 rfl, ?_⟩
  refine List.forall_mem_cons.mpr ⟨zs_iload dL_square_12, ?_⟩
  refine List.forall_mem_cons.mpr ⟨zs_isub dL_square_14, ?_⟩
  refine List.forall_mem_cons.mpr ⟨zs_imul dL_square_15, ?_⟩
  refine List.forall_mem_cons.mpr ⟨zs_iadd dL_square_16, ?_⟩
  refine List.forall_mem_cons.mpr ⟨zs_iload_n dL_square_17 rfl, ?_⟩
  refine List.forall_mem_cons.mpr ⟨zs_irem dL_square_18, ?_⟩
  refine List.forall_mem_cons.mpr ⟨zs_reti (ty := .int) rfl (fun x h => (zni x h).1) dL_square_19, ?_⟩
  exact fun _ h => absurd h List.not_mem_nil
theorem zM_L_square (sc : List Int32) : zMeets (zES sc) yL_square wsL_square zR_L_square (m_L_square sc) := zmeth_M (zES_ok sc) (zlook_all (zcs_L_square sc rfl)) (by decide +kernel) rfl
theorem zr_L_square_0 {sc : List Int32} (a0 a2 a3 a4 : Option zAV) (st : List zAV) (s : zAS) (k : Nat × Nat) (x : Int32) : zev (zk_L_square sc) (0, [a0, some (Sum.inl (Value.int x)), a2, a3, a4], st, s, k) = zev (zk_L_square sc) (1, [a0, some (Sum.inl (Value.int x)), a2, a3, a4], Sum.inl (Value.int x) :: st, s, k) := zev_go rfl rfl
theorem zr_L_square_1 {sc : List Int32} (a0 a1 a2 a4 : Option zAV) (st : List zAV) (s : zAS) (k : Nat × Nat) (x : Int32) : zev (zk_L_square sc) (1, [a0, a1, a2, some (Sum.inl (Value.int x)), a4], st, s, k) = zev (zk_L_square sc) (2, [a0, a1, a2, some (Sum.inl (Value.int x)), a4], Sum.inl (Value.int x) :: st, s, k) := zev_go rfl rfl
theorem zr_L_square_2 {sc : List Int32} (ls : zLs) (st : List zAV) (s : zAS) (k : Nat × Nat) (x y : Int32) : zev (zk_L_square sc) (2, ls, Sum.inl (Value.int y) :: Sum.inl (Value.int x) :: st, s, k) = zev (zk_L_square sc) (3, ls, Sum.inl (Value.int (x - y)) :: st, s, k) := zev_go rfl rfl
theorem zr_L_square_3 {sc : List Int32} (a0 a2 a3 a4 : Option zAV) (st : List zAV) (s : zAS) (k : Nat × Nat) (x : Int32) : zev (zk_L_square sc) (3, [a0, some (Sum.inl (Value.int x)), a2, a3, a4], st, s, k) = zev (zk_L_square sc) (4, [a0, some (Sum.inl (Value.int x)), a2, a3, a4], Sum.inl (Value.int x) :: st, s, k) := zev_go rfl rfl
theorem zr_L_square_4 {sc : List Int32} (a0 a1 a2 a4 : Option zAV) (st : List zAV) (s : zAS) (k : Nat × Nat) (x : Int32) : zev (zk_L_square sc) (4, [a0, a1, a2, some (Sum.inl (Value.int x)), a4], st, s, k) = zev (zk_L_square sc) (5, [a0, a1, a2, some (Sum.inl (Value.int x)), a4], Sum.inl (Value.int x) :: st, s, k) := zev_go rfl rfl
theorem zr_L_square_5 {sc : List Int32} (ls : zLs) (st : List zAV) (s : zAS) (k : Nat × Nat) (x y : Int32) : zev (zk_L_square sc) (5, ls, Sum.inl (Value.int y) :: Sum.inl (Value.int x) :: st, s, k) = zev (zk_L_square sc) (6, ls, Sum.inl (Value.int (x - y)) :: st, s, k) := zev_go rfl rfl
theorem zr_L_square_6 {sc : List Int32} (ls : zLs) (st : List zAV) (s : zAS) (k : Nat × Nat) (x y : Int32) : zev (zk_L_square sc) (6, ls, Sum.inl (Value.int y) :: Sum.inl (Value.int x) :: st, s, k) = zev (zk_L_square sc) (7, ls, Sum.inl (Value.int (x * y)) :: st, s, k) := zev_go rfl rfl
theorem zr_L_square_7 {sc : List Int32} (a0 a1 a3 a4 : Option zAV) (st : List zAV) (s : zAS) (k : Nat × Nat) (x : Int32) : zev (zk_L_square sc) (7, [a0, a1, some (Sum.inl (Value.int x)), a3, a4], st, s, k) = zev (zk_L_square sc) (8, [a0, a1, some (Sum.inl (Value.int x)), a3, a4], Sum.inl (Value.int x) :: st, s, k) := zev_go rfl rfl
theorem zr_L_square_8 {sc : List Int32} (a0 a1 a2 a3 : Option zAV) (st : List zAV) (s : zAS) (k : Nat × Nat) (x : Int32) : zev (zk_L_square sc) (8, [a0, a1, a2, a3, some (Sum.inl (Value.int x))], st, s, k) = zev (zk_L_square sc) (10, [a0, a1, a2, a3, some (Sum.inl (Value.int x))], Sum.inl (Value.int x) :: st, s, k) := zev_go rfl rfl
theorem zr_L_square_10 {sc : List Int32} (ls : zLs) (st : List zAV) (s : zAS) (k : Nat × Nat) (x y : Int32) : zev (zk_L_square sc) (10, ls, Sum.inl (Value.int y) :: Sum.inl (Value.int x) :: st, s, k) = zev (zk_L_square sc) (11, ls, Sum.inl (Value.int (x - y)) :: st, s, k) := zev_go rfl rfl
theorem zr_L_square_11 {sc : List Int32} (a0 a1 a3 a4 : Option zAV) (st : List zAV) (s : zAS) (k : Nat × Nat) (x : Int32) : zev (zk_L_square sc) (11, [a0, a1, some (Sum.inl (Value.int x)), a3, a4], st, s, k) = zev (zk_L_square sc) (12, [a0, a1, some (Sum.inl (Value.int x)), a3, a4], Sum.inl (Value.int x) :: st, s, k) := zev_go rfl rfl
theorem zr_L_square_12 {sc : List Int32} (a0 a1 a2 a3 : Option zAV) (st : List zAV) (s : zAS) (k : Nat × Nat) (x : Int32) : zev (zk_L_square sc) (12, [a0, a1, a2, a3, some (Sum.inl (Value.int x))], st, s, k) = zev (zk_L_square sc) (14, [a0, a1, a2, a3, some (Sum.inl (Value.int x))], Sum.inl (Value.int x) :: st, s, k) := zev_go rfl rfl
theorem zr_L_square_14 {sc : List Int32} (ls : zLs) (st : List zAV) (s : zAS) (k : Nat × Nat) (x y : Int32) : zev (zk_L_square sc) (14, ls, Sum.inl (Value.int y) :: Sum.inl (Value.int x) :: st, s, k) = zev (zk_L_square sc) (15, ls, Sum.inl (Value.int (x - y)) :: st, s, k) := zev_go rfl rfl
theorem zr_L_square_15 {sc : List Int32} (ls : zLs) (st : List zAV) (s : zAS) (k : Nat × Nat) (x y : Int32) : zev (zk_L_square sc) (15, ls, Sum.inl (Value.int y) :: Sum.inl (Value.int x) :: st, s, k) = zev (zk_L_square sc) (16, ls, Sum.inl (Value.int (x * y)) :: st, s, k) := zev_go rfl rfl
theorem zr_L_square_16 {sc : List Int32} (ls : zLs) (st : List zAV) (s : zAS) (k : Nat × Nat) (x y : Int32) : zev (zk_L_square sc) (16, ls, Sum.inl (Value.int y) :: Sum.inl (Value.int x) :: st, s, k) = zev (zk_L_square sc) (17, ls, Sum.inl (Value.int (x + y)) :: st, s, k) := zev_go rfl rfl
theorem zr_L_square_17 {sc : List Int32} (a1 a2 a3 a4 : Option zAV) (st : List zAV) (s : zAS) (k : Nat × Nat) (x : Int32) : zev (zk_L_square sc) (17, [some (Sum.inl (Value.int x)), a1, a2, a3, a4], st, s, k) = zev (zk_L_square sc) (18, [some (Sum.inl (Value.int x)), a1, a2, a3, a4], Sum.inl (Value.int x) :: st, s, k) := zev_go rfl rfl
theorem zr_L_square_18 {sc : List Int32} (ls : zLs) (st : List zAV) (s : zAS) (k : Nat × Nat) (x y : Int32) : zev (zk_L_square sc) (18, ls, Sum.inl (Value.int y) :: Sum.inl (Value.int x) :: st, s, k) = if y = 0 then none else zev (zk_L_square sc) (19, ls, Sum.inl (Value.int (x - x / y * y)) :: st, s, k) := zf_rem rfl
theorem zr_L_square_19 {sc : List Int32} (ls : zLs) (s : zAS) (k : Nat × Nat) (x : Int32) : zev (zk_L_square sc) (19, ls, [Sum.inl (Value.int x)], s, k) = some (.inl (some (Sum.inl (Value.int x))), s) := zf_reti rfl
/-! L_has: PrimePlaneLaw.has(LPrimePlane;IIII)Z -/
abbrev zR_L_has : Room := ({ frames := 3, cells := 0, slots := 0, locals := 63 } : Room)
noncomputable def zl_L_has (sc : List Int32) : List (Nat × zOp) := [(0, z_lda 0 1), (1, z_ldi 2 2), (2, z_ic (0) 3), (3, z_callV (zES sc) 8 m_X8_number 2 0 0 (zR_L_has).cells (zR_L_has).slots 6), (6, z_sti 5 8), (8, z_lda 0 9), (9, z_ldi 2 10), (10, z_ic (1) 11), (11, z_callV (zES sc) 8 m_X8_number 2 0 0 (zR_L_has).cells (zR_L_has).slots 14), (14, z_sti 6 16), (16, z_lda 0 17), (17, z_ldi 2 18), (18, z_ic (2) 19), (19, z_callV (zES sc) 8 m_X8_number 2 0 0 (zR_L_has).cells (zR_L_has).slots 22), (22, z_sti 7 24), (24, z_lda 0 25), (25, z_ldi 2 26), (26, z_ic (0) 27), (27, z_callV (zES sc) 8 m_X8_object 2 0 0 (zR_L_has).cells (zR_L_has).slots 30), (30, z_sti 8 32), (32, z_ldi 8 34), (34, z_if (fun x => decide (¬ x = 0)) 58 37), (37, z_ldi 5 39), (39, z_ldi 3 40), (40, z_cmp (fun x y => decide (¬ x = y)) 54 43), (43, z_ldi 6 45), (45, z_ldi 4 47), (47, z_cmp (fun x y => decide (¬ x = y)) 54 50), (50, z_ic (1) 51), (51, z_goto 111), (54, z_ic (0) 55), (55, z_goto 111), (58, z_ldi 8 60), (60, z_ic (1) 61), (61, z_cmp (fun x y => decide (¬ x = y)) 90 64), (64, z_ldi 5 66), (66, z_ldi 3 67), (67, z_bin (fun x y => x * y) 68), (68, z_ldi 6 70), (70, z_ldi 4 72), (72, z_bin (fun x y => x * y) 73), (73, z_bin (fun x y => x + y) 74), (74, z_ldi 7 76), (76, z_bin (fun x y => x + y) 77), (77, z_ldi 1 78), (78, z_rem 79), (79, z_if (fun x => decide (¬ x = 0)) 86 82), (82, z_ic (1) 83), (83, z_goto 111), (86, z_ic (0) 87), (87, z_goto 111), (90, z_ldi 1 91), (91, z_ldi 3 92), (92, z_ldi 4 94), (94, z_ldi 5 96), (96, z_ldi 6 98), (98, z_callS (m_L_square sc) 5 0 0 (zR_L_has).cells (zR_L_has).slots 101), (101, z_ldi 7 103), (103, z_cmp (fun x y => decide (¬ x = y)) 110 106), (106, z_ic (1) 107), (107, z_goto 111), (110, z_ic (0) 111), (111, z_reti true)]
noncomputable def zk_L_has (sc : List Int32) (pc : Nat) : Option zOp := zlook (zl_L_has sc) pc
noncomputable def m_L_has (sc : List Int32) : List zAV → zAS → Option zOut := zmeth (zk_L_has sc) 9
set_option maxRecDepth 100000 in
set_option maxHeartbeats 4000000 in
theorem zcs_L_has (sc : List Int32) {R : Room} (hR : R = zR_L_has) : ∀ q ∈ zl_L_has sc, zS (zES sc) yL_has.cls cL_has 9 wsL_has (some .boolean) R q.1 q.2 := by
  subst hR
  refine List.forall_mem_cons.mpr ⟨zs_aload_n dL_has_0 rfl, ?_⟩
  refine List.forall_mem_cons.mpr ⟨zs_iload_n dL_has_1 rfl, ?_⟩
  refine List.forall_mem_cons.mpr ⟨zs_iconst dL_has_2 (by decide), ?_⟩
  refine List.forall_mem_cons.mpr ⟨zs_callV (ci := 8) (rm := zR_X8_number) (n := 2) rfl (zMeets_ex (zES_ex sc) zM_X8_number) gL_has_X8_number rfl (by decide +kernel) ⟨by decide, by decide⟩ dL_has_3, ?_⟩
  refine List.forall_mem_cons.mpr ⟨zs_istore dL_has_6, ?_⟩
  refine List.forall_mem_cons.mpr ⟨zs_aload_n dL_has_8 rfl, ?_⟩
  refine List.forall_mem_cons.mpr ⟨zs_iload_n dL_has_9 rfl, ?_⟩
  refine List.forall_mem_cons.mpr ⟨zs_iconst dL_has_10 (by decide), ?_⟩
  refine List.forall_mem_cons.mpr ⟨zs_callV (ci := 8) (rm := zR_X8_number) (n := 2) rfl (zMeets_ex (zES_ex sc) zM_X8_number) gL_has_X8_number rfl (by decide +kernel) ⟨by decide, by decide⟩ dL_has_11, ?_⟩
  refine List.forall_mem_cons.mpr ⟨zs_istore dL_has_14, ?_⟩
  refine List.forall_mem_cons.mpr ⟨zs_aload_n dL_has_16 rfl, ?_⟩
  refine List.forall_mem_cons.mpr ⟨zs_iload_n dL_has_17 rfl, ?_⟩
  refine List.forall_mem_cons.mpr ⟨zs_iconst dL_has_18 (by decide), ?_⟩
  refine List.forall_mem_cons.mpr ⟨zs_callV (ci := 8) (rm := zR_X8_number) (n := 2) rfl (zMeets_ex (zES_ex sc) zM_X8_number) gL_has_X8_number rfl (by decide +kernel) ⟨by decide, by decide⟩ dL_has_19, ?_⟩
  refine List.forall_mem_cons.mpr ⟨zs_istore dL_has_22, ?_⟩
  refine List.forall_mem_cons.mpr ⟨zs_aload_n dL_has_24 rfl, ?_⟩
  refine List.forall_mem_cons.mpr ⟨zs_iload_n dL_has_25 rfl, ?_⟩
  refine List.forall_mem_cons.mpr ⟨zs_iconst dL_has_26 (by decide), ?_⟩
  refine List.forall_mem_cons.mpr ⟨zs_callV (ci := 8) (rm := zR_X8_object) (n := 2) rfl (zMeets_ex (zES_ex sc) zM_X8_object) gL_has_X8_object rfl (by decide +kernel) ⟨by decide, by decide⟩ dL_has_27, ?_⟩
  refine List.forall_mem_cons.mpr ⟨zs_istore dL_has_30, ?_⟩
  refine List.forall_mem_cons.mpr ⟨zs_iload dL_has_32, ?_⟩
  refine List.forall_mem_cons.mpr ⟨zs_ifne dL_has_34 (by decide), ?_⟩
  refine List.forall_mem_cons.mpr ⟨zs_iload dL_has_37, ?_⟩
  refine List.forall_mem_cons.mpr ⟨zs_iload_n dL_has_39 rfl, ?_⟩
  refine List.forall_mem_cons.mpr ⟨zs_icne dL_has_40 (by decide), ?_⟩
  refine List.forall_mem_cons.mpr ⟨zs_iload dL_has_43, ?_⟩
  refine List.forall_mem_cons.mpr ⟨zs_iload dL_has_45, ?_⟩
  refine List.forall_mem_cons.mpr ⟨zs_icne dL_has_47 (by decide), ?_⟩
  refine List.forall_mem_cons.mpr ⟨zs_iconst dL_has_50 (by decide), ?_⟩
  refine List.forall_mem_cons.mpr ⟨zs_goto dL_has_51 (by decide), ?_⟩
  refine List.forall_mem_cons.mpr ⟨zs_iconst dL_has_54 (by decide), ?_⟩
  refine List.forall_mem_cons.mpr ⟨zs_goto dL_has_55 (by decide), ?_⟩
  refine List.forall_mem_cons.mpr ⟨zs_iload dL_has_58, ?_⟩
  refine List.forall_mem_cons.mpr ⟨zs_iconst dL_has_60 (by decide), ?_⟩
  refine List.forall_mem_cons.mpr ⟨zs_icne dL_has_61 (by decide), ?_⟩
  refine List.forall_mem_cons.mpr ⟨zs_iload dL_has_64, ?_⟩
  refine List.forall_mem_cons.mpr ⟨zs_iload_n dL_has_66 rfl, ?_⟩
  refine List.forall_mem_cons.mpr ⟨zs_imul dL_has_67, ?_⟩
  refine List.forall_mem_cons.mpr ⟨zs_iload dL_has_68, ?_⟩
  refine List.forall_mem_cons.mpr ⟨zs_iload dL_has_70, ?_⟩
  refine List.forall_mem_cons.mpr ⟨zs_imul dL_has_72, ?_⟩
  refine List.forall_mem_cons.mpr ⟨zs_iadd dL_has_73, ?_⟩
  refine List.forall_mem_cons.mpr ⟨zs_iload dL_has_74, ?_⟩
  refine List.forall_mem_cons.mpr ⟨zs_iadd dL_has_76, ?_⟩
  refine List.forall_mem_cons.mpr ⟨zs_iload_n dL_has_77 rfl, ?_⟩
  refine List.forall_mem_cons.mpr ⟨zs_irem dL_has_78, ?_⟩
  refine List.forall_mem_cons.mpr ⟨zs_ifne dL_has_79 (by decide), ?_⟩
  refine List.forall_mem_cons.mpr ⟨zs_iconst dL_has_82 (by decide), ?_⟩
  refine List.forall_mem_cons.mpr ⟨zs_goto dL_has_83 (by decide), ?_⟩
  refine List.forall_mem_cons.mpr ⟨zs_iconst dL_has_86 (by decide), ?_⟩
  refine List.forall_mem_cons.mpr ⟨zs_goto dL_has_87 (by decide), ?_⟩
  refine List.forall_mem_cons.mpr ⟨zs_iload_n dL_has_90 rfl, ?_⟩
  refine List.forall_mem_cons.mpr ⟨zs_iload_n dL_has_91 rfl, ?_⟩
  refine List.forall_mem_cons.mpr ⟨zs_iload dL_has_92, ?_⟩
  refine List.forall_mem_cons.mpr ⟨zs_iload dL_has_94, ?_⟩
  refine List.forall_mem_cons.mpr ⟨zs_iload dL_has_96, ?_⟩
  refine List.forall_mem_cons.mpr ⟨zs_callS (rm := zR_L_square) (n := 5) (zM_L_square sc) gL_has_L_square rfl (by decide +kernel) ⟨by decide, by decide⟩ dL_has_98, ?_⟩
  refine List.forall_mem_cons.mpr ⟨zs_iload dL_has_101, ?_⟩
  refine List.forall_mem_cons.mpr ⟨zs_icne dL_has_103 (by decide), ?_⟩
  refine List.forall_mem_cons.mpr ⟨zs_iconst dL_has_106 (by decide), ?_⟩
  refine List.forall_mem_cons.mpr ⟨zs_goto dL_has_107 (by decide), ?_⟩
  refine List.forall_mem_cons.mpr ⟨zs_iconst dL_has_110 (by decide), ?_⟩
  refine List.forall_mem_cons.mpr ⟨zs_reti (ty := .boolean) rfl (fun x h => (znz x h).1) dL_has_111, ?_⟩
  exact fun _ h => absurd h List.not_mem_nil
theorem zM_L_has (sc : List Int32) : zMeets (zES sc) yL_has wsL_has zR_L_has (m_L_has sc) := zmeth_M (zES_ok sc) (zlook_all (zcs_L_has sc rfl)) (by decide +kernel) rfl
theorem zr_L_has_0 {sc : List Int32} (a1 a2 a3 a4 a5 a6 a7 a8 : Option zAV) (st : List zAV) (s : zAS) (k : Nat × Nat) (o : Nat × Nat) : zev (zk_L_has sc) (0, [some (Sum.inr o), a1, a2, a3, a4, a5, a6, a7, a8], st, s, k) = zev (zk_L_has sc) (1, [some (Sum.inr o), a1, a2, a3, a4, a5, a6, a7, a8], Sum.inr o :: st, s, k) := zev_go rfl rfl
theorem zr_L_has_1 {sc : List Int32} (a0 a1 a3 a4 a5 a6 a7 a8 : Option zAV) (st : List zAV) (s : zAS) (k : Nat × Nat) (x : Int32) : zev (zk_L_has sc) (1, [a0, a1, some (Sum.inl (Value.int x)), a3, a4, a5, a6, a7, a8], st, s, k) = zev (zk_L_has sc) (2, [a0, a1, some (Sum.inl (Value.int x)), a3, a4, a5, a6, a7, a8], Sum.inl (Value.int x) :: st, s, k) := zev_go rfl rfl
theorem zr_L_has_2 {sc : List Int32} (ls : zLs) (st : List zAV) (s : zAS) (k : Nat × Nat) : zev (zk_L_has sc) (2, ls, st, s, k) = zev (zk_L_has sc) (3, ls, Sum.inl (Value.int (0)) :: st, s, k) := zev_go rfl rfl
theorem zr_L_has_3 {sc : List Int32} (ls : zLs) (st : List zAV) (s : zAS) (k : Nat × Nat) (r v0 v1 : zAV) (h : zcok (zES sc) 8 0 0 (zR_L_has).cells (zR_L_has).slots r st k) : zev (zk_L_has sc) (3, ls, v1 :: v0 :: r :: st, s, k) = zret (zk_L_has sc) 6 ls st (k.1 + 0, k.2 + 0) (m_X8_number [r, v0, v1] s) := zf_callV (as := [v1, v0]) 2 rfl rfl h
theorem zr_L_has_6 {sc : List Int32} (a0 a1 a2 a3 a4 a5 a6 a7 a8 : Option zAV) (st : List zAV) (s : zAS) (k : Nat × Nat) (x : Int32) : zev (zk_L_has sc) (6, [a0, a1, a2, a3, a4, a5, a6, a7, a8], Sum.inl (Value.int x) :: st, s, k) = zev (zk_L_has sc) (8, [a0, a1, a2, a3, zk1 a4, some (Sum.inl (Value.int x)), a6, a7, a8], st, s, k) := zev_go rfl rfl
theorem zr_L_has_8 {sc : List Int32} (a1 a2 a3 a4 a5 a6 a7 a8 : Option zAV) (st : List zAV) (s : zAS) (k : Nat × Nat) (o : Nat × Nat) : zev (zk_L_has sc) (8, [some (Sum.inr o), a1, a2, a3, a4, a5, a6, a7, a8], st, s, k) = zev (zk_L_has sc) (9, [some (Sum.inr o), a1, a2, a3, a4, a5, a6, a7, a8], Sum.inr o :: st, s, k) := zev_go rfl rfl
theorem zr_L_has_9 {sc : List Int32} (a0 a1 a3 a4 a5 a6 a7 a8 : Option zAV) (st : List zAV) (s : zAS) (k : Nat × Nat) (x : Int32) : zev (zk_L_has sc) (9, [a0, a1, some (Sum.inl (Value.int x)), a3, a4, a5, a6, a7, a8], st, s, k) = zev (zk_L_has sc) (10, [a0, a1, some (Sum.inl (Value.int x)), a3, a4, a5, a6, a7, a8], Sum.inl (Value.int x) :: st, s, k) := zev_go rfl rfl
theorem zr_L_has_10 {sc : List Int32} (ls : zLs) (st : List zAV) (s : zAS) (k : Nat × Nat) : zev (zk_L_has sc) (10, ls, st, s, k) = zev (zk_L_has sc) (11, ls, Sum.inl (Value.int (1)) :: st, s, k) := zev_go rfl rfl
theorem zr_L_has_11 {sc : List Int32} (ls : zLs) (st : List zAV) (s : zAS) (k : Nat × Nat) (r v0 v1 : zAV) (h : zcok (zES sc) 8 0 0 (zR_L_has).cells (zR_L_has).slots r st k) : zev (zk_L_has sc) (11, ls, v1 :: v0 :: r :: st, s, k) = zret (zk_L_has sc) 14 ls st (k.1 + 0, k.2 + 0) (m_X8_number [r, v0, v1] s) := zf_callV (as := [v1, v0]) 2 rfl rfl h
theorem zr_L_has_14 {sc : List Int32} (a0 a1 a2 a3 a4 a5 a6 a7 a8 : Option zAV) (st : List zAV) (s : zAS) (k : Nat × Nat) (x : Int32) : zev (zk_L_has sc) (14, [a0, a1, a2, a3, a4, a5, a6, a7, a8], Sum.inl (Value.int x) :: st, s, k) = zev (zk_L_has sc) (16, [a0, a1, a2, a3, a4, zk1 a5, some (Sum.inl (Value.int x)), a7, a8], st, s, k) := zev_go rfl rfl
theorem zr_L_has_16 {sc : List Int32} (a1 a2 a3 a4 a5 a6 a7 a8 : Option zAV) (st : List zAV) (s : zAS) (k : Nat × Nat) (o : Nat × Nat) : zev (zk_L_has sc) (16, [some (Sum.inr o), a1, a2, a3, a4, a5, a6, a7, a8], st, s, k) = zev (zk_L_has sc) (17, [some (Sum.inr o), a1, a2, a3, a4, a5, a6, a7, a8], Sum.inr o :: st, s, k) := zev_go rfl rfl
theorem zr_L_has_17 {sc : List Int32} (a0 a1 a3 a4 a5 a6 a7 a8 : Option zAV) (st : List zAV) (s : zAS) (k : Nat × Nat) (x : Int32) : zev (zk_L_has sc) (17, [a0, a1, some (Sum.inl (Value.int x)), a3, a4, a5, a6, a7, a8], st, s, k) = zev (zk_L_has sc) (18, [a0, a1, some (Sum.inl (Value.int x)), a3, a4, a5, a6, a7, a8], Sum.inl (Value.int x) :: st, s, k) := zev_go rfl rfl
theorem zr_L_has_18 {sc : List Int32} (ls : zLs) (st : List zAV) (s : zAS) (k : Nat × Nat) : zev (zk_L_has sc) (18, ls, st, s, k) = zev (zk_L_has sc) (19, ls, Sum.inl (Value.int (2)) :: st, s, k) := zev_go rfl rfl
theorem zr_L_has_19 {sc : List Int32} (ls : zLs) (st : List zAV) (s : zAS) (k : Nat × Nat) (r v0 v1 : zAV) (h : zcok (zES sc) 8 0 0 (zR_L_has).cells (zR_L_has).slots r st k) : zev (zk_L_has sc) (19, ls, v1 :: v0 :: r :: st, s, k) = zret (zk_L_has sc) 22 ls st (k.1 + 0, k.2 + 0) (m_X8_number [r, v0, v1] s) := zf_callV (as := [v1, v0]) 2 rfl rfl h
theorem zr_L_has_22 {sc : List Int32} (a0 a1 a2 a3 a4 a5 a6 a7 a8 : Option zAV) (st : List zAV) (s : zAS) (k : Nat × Nat) (x : Int32) : zev (zk_L_has sc) (22, [a0, a1, a2, a3, a4, a5, a6, a7, a8], Sum.inl (Value.int x) :: st, s, k) = zev (zk_L_has sc) (24, [a0, a1, a2, a3, a4, a5, zk1 a6, some (Sum.inl (Value.int x)), a8], st, s, k) := zev_go rfl rfl
theorem zr_L_has_24 {sc : List Int32} (a1 a2 a3 a4 a5 a6 a7 a8 : Option zAV) (st : List zAV) (s : zAS) (k : Nat × Nat) (o : Nat × Nat) : zev (zk_L_has sc) (24, [some (Sum.inr o), a1, a2, a3, a4, a5, a6, a7, a8], st, s, k) = zev (zk_L_has sc) (25, [some (Sum.inr o), a1, a2, a3, a4, a5, a6, a7, a8], Sum.inr o :: st, s, k) := zev_go rfl rfl
theorem zr_L_has_25 {sc : List Int32} (a0 a1 a3 a4 a5 a6 a7 a8 : Option zAV) (st : List zAV) (s : zAS) (k : Nat × Nat) (x : Int32) : zev (zk_L_has sc) (25, [a0, a1, some (Sum.inl (Value.int x)), a3, a4, a5, a6, a7, a8], st, s, k) = zev (zk_L_has sc) (26, [a0, a1, some (Sum.inl (Value.int x)), a3, a4, a5, a6, a7, a8], Sum.inl (Value.int x) :: st, s, k) := zev_go rfl rfl
theorem zr_L_has_26 {sc : List Int32} (ls : zLs) (st : List zAV) (s : zAS) (k : Nat × Nat) : zev (zk_L_has sc) (26, ls, st, s, k) = zev (zk_L_has sc) (27, ls, Sum.inl (Value.int (0)) :: st, s, k) := zev_go rfl rfl
theorem zr_L_has_27 {sc : List Int32} (ls : zLs) (st : List zAV) (s : zAS) (k : Nat × Nat) (r v0 v1 : zAV) (h : zcok (zES sc) 8 0 0 (zR_L_has).cells (zR_L_has).slots r st k) : zev (zk_L_has sc) (27, ls, v1 :: v0 :: r :: st, s, k) = zret (zk_L_has sc) 30 ls st (k.1 + 0, k.2 + 0) (m_X8_object [r, v0, v1] s) := zf_callV (as := [v1, v0]) 2 rfl rfl h
theorem zr_L_has_30 {sc : List Int32} (a0 a1 a2 a3 a4 a5 a6 a7 a8 : Option zAV) (st : List zAV) (s : zAS) (k : Nat × Nat) (x : Int32) : zev (zk_L_has sc) (30, [a0, a1, a2, a3, a4, a5, a6, a7, a8], Sum.inl (Value.int x) :: st, s, k) = zev (zk_L_has sc) (32, [a0, a1, a2, a3, a4, a5, a6, zk1 a7, some (Sum.inl (Value.int x))], st, s, k) := zev_go rfl rfl
theorem zr_L_has_32 {sc : List Int32} (a0 a1 a2 a3 a4 a5 a6 a7 : Option zAV) (st : List zAV) (s : zAS) (k : Nat × Nat) (x : Int32) : zev (zk_L_has sc) (32, [a0, a1, a2, a3, a4, a5, a6, a7, some (Sum.inl (Value.int x))], st, s, k) = zev (zk_L_has sc) (34, [a0, a1, a2, a3, a4, a5, a6, a7, some (Sum.inl (Value.int x))], Sum.inl (Value.int x) :: st, s, k) := zev_go rfl rfl
theorem zr_L_has_34 {sc : List Int32} (ls : zLs) (st : List zAV) (s : zAS) (k : Nat × Nat) (x : Int32) : zev (zk_L_has sc) (34, ls, Sum.inl (Value.int x) :: st, s, k) = if decide (¬ x = 0) = true then zev (zk_L_has sc) (58, ls, st, s, k) else zev (zk_L_has sc) (37, ls, st, s, k) := zf_if (f := fun x => decide (¬ x = 0)) rfl
theorem zr_L_has_37 {sc : List Int32} (a0 a1 a2 a3 a4 a6 a7 a8 : Option zAV) (st : List zAV) (s : zAS) (k : Nat × Nat) (x : Int32) : zev (zk_L_has sc) (37, [a0, a1, a2, a3, a4, some (Sum.inl (Value.int x)), a6, a7, a8], st, s, k) = zev (zk_L_has sc) (39, [a0, a1, a2, a3, a4, some (Sum.inl (Value.int x)), a6, a7, a8], Sum.inl (Value.int x) :: st, s, k) := zev_go rfl rfl
theorem zr_L_has_39 {sc : List Int32} (a0 a1 a2 a4 a5 a6 a7 a8 : Option zAV) (st : List zAV) (s : zAS) (k : Nat × Nat) (x : Int32) : zev (zk_L_has sc) (39, [a0, a1, a2, some (Sum.inl (Value.int x)), a4, a5, a6, a7, a8], st, s, k) = zev (zk_L_has sc) (40, [a0, a1, a2, some (Sum.inl (Value.int x)), a4, a5, a6, a7, a8], Sum.inl (Value.int x) :: st, s, k) := zev_go rfl rfl
theorem zr_L_has_40 {sc : List Int32} (ls : zLs) (st : List zAV) (s : zAS) (k : Nat × Nat) (x y : Int32) : zev (zk_L_has sc) (40, ls, Sum.inl (Value.int y) :: Sum.inl (Value.int x) :: st, s, k) = if decide (¬ x = y) = true then zev (zk_L_has sc) (54, ls, st, s, k) else zev (zk_L_has sc) (43, ls, st, s, k) := zf_cmp (f := fun x y => decide (¬ x = y)) rfl
theorem zr_L_has_43 {sc : List Int32} (a0 a1 a2 a3 a4 a5 a7 a8 : Option zAV) (st : List zAV) (s : zAS) (k : Nat × Nat) (x : Int32) : zev (zk_L_has sc) (43, [a0, a1, a2, a3, a4, a5, some (Sum.inl (Value.int x)), a7, a8], st, s, k) = zev (zk_L_has sc) (45, [a0, a1, a2, a3, a4, a5, some (Sum.inl (Value.int x)), a7, a8], Sum.inl (Value.int x) :: st, s, k) := zev_go rfl rfl
theorem zr_L_has_45 {sc : List Int32} (a0 a1 a2 a3 a5 a6 a7 a8 : Option zAV) (st : List zAV) (s : zAS) (k : Nat × Nat) (x : Int32) : zev (zk_L_has sc) (45, [a0, a1, a2, a3, some (Sum.inl (Value.int x)), a5, a6, a7, a8], st, s, k) = zev (zk_L_has sc) (47, [a0, a1, a2, a3, some (Sum.inl (Value.int x)), a5, a6, a7, a8], Sum.inl (Value.int x) :: st, s, k) := zev_go rfl rfl
theorem zr_L_has_47 {sc : List Int32} (ls : zLs) (st : List zAV) (s : zAS) (k : Nat × Nat) (x y : Int32) : zev (zk_L_has sc) (47, ls, Sum.inl (Value.int y) :: Sum.inl (Value.int x) :: st, s, k) = if decide (¬ x = y) = true then zev (zk_L_has sc) (54, ls, st, s, k) else zev (zk_L_has sc) (50, ls, st, s, k) := zf_cmp (f := fun x y => decide (¬ x = y)) rfl
theorem zr_L_has_50 {sc : List Int32} (ls : zLs) (st : List zAV) (s : zAS) (k : Nat × Nat) : zev (zk_L_has sc) (50, ls, st, s, k) = zev (zk_L_has sc) (51, ls, Sum.inl (Value.int (1)) :: st, s, k) := zev_go rfl rfl
theorem zr_L_has_51 {sc : List Int32} (ls : zLs) (st : List zAV) (s : zAS) (k : Nat × Nat) : zev (zk_L_has sc) (51, ls, st, s, k) = zev (zk_L_has sc) (111, ls, st, s, k) := zev_go rfl rfl
theorem zr_L_has_54 {sc : List Int32} (ls : zLs) (st : List zAV) (s : zAS) (k : Nat × Nat) : zev (zk_L_has sc) (54, ls, st, s, k) = zev (zk_L_has sc) (55, ls, Sum.inl (Value.int (0)) :: st, s, k) := zev_go rfl rfl
theorem zr_L_has_55 {sc : List Int32} (ls : zLs) (st : List zAV) (s : zAS) (k : Nat × Nat) : zev (zk_L_has sc) (55, ls, st, s, k) = zev (zk_L_has sc) (111, ls, st, s, k) := zev_go rfl rfl
theorem zr_L_has_58 {sc : List Int32} (a0 a1 a2 a3 a4 a5 a6 a7 : Option zAV) (st : List zAV) (s : zAS) (k : Nat × Nat) (x : Int32) : zev (zk_L_has sc) (58, [a0, a1, a2, a3, a4, a5, a6, a7, some (Sum.inl (Value.int x))], st, s, k) = zev (zk_L_has sc) (60, [a0, a1, a2, a3, a4, a5, a6, a7, some (Sum.inl (Value.int x))], Sum.inl (Value.int x) :: st, s, k) := zev_go rfl rfl
theorem zr_L_has_60 {sc : List Int32} (ls : zLs) (st : List zAV) (s : zAS) (k : Nat × Nat) : zev (zk_L_has sc) (60, ls, st, s, k) = zev (zk_L_has sc) (61, ls, Sum.inl (Value.int (1)) :: st, s, k) := zev_go rfl rfl
theorem zr_L_has_61 {sc : List Int32} (ls : zLs) (st : List zAV) (s : zAS) (k : Nat × Nat) (x y : Int32) : zev (zk_L_has sc) (61, ls, Sum.inl (Value.int y) :: Sum.inl (Value.int x) :: st, s, k) = if decide (¬ x = y) = true then zev (zk_L_has sc) (90, ls, st, s, k) else zev (zk_L_has sc) (64, ls, st, s, k) := zf_cmp (f := fun x y => decide (¬ x = y)) rfl
theorem zr_L_has_64 {sc : List Int32} (a0 a1 a2 a3 a4 a6 a7 a8 : Option zAV) (st : List zAV) (s : zAS) (k : Nat × Nat) (x : Int32) : zev (zk_L_has sc) (64, [a0, a1, a2, a3, a4, some (Sum.inl (Value.int x)), a6, a7, a8], st, s, k) = zev (zk_L_has sc) (66, [a0, a1, a2, a3, a4, some (Sum.inl (Value.int x)), a6, a7, a8], Sum.inl (Value.int x) :: st, s, k) := zev_go rfl rfl
theorem zr_L_has_66 {sc : List Int32} (a0 a1 a2 a4 a5 a6 a7 a8 : Option zAV) (st : List zAV) (s : zAS) (k : Nat × Nat) (x : Int32) : zev (zk_L_has sc) (66, [a0, a1, a2, some (Sum.inl (Value.int x)), a4, a5, a6, a7, a8], st, s, k) = zev (zk_L_has sc) (67, [a0, a1, a2, some (Sum.inl (Value.int x)), a4, a5, a6, a7, a8], Sum.inl (Value.int x) :: st, s, k) := zev_go rfl rfl
theorem zr_L_has_67 {sc : List Int32} (ls : zLs) (st : List zAV) (s : zAS) (k : Nat × Nat) (x y : Int32) : zev (zk_L_has sc) (67, ls, Sum.inl (Value.int y) :: Sum.inl (Value.int x) :: st, s, k) = zev (zk_L_has sc) (68, ls, Sum.inl (Value.int (x * y)) :: st, s, k) := zev_go rfl rfl
theorem zr_L_has_68 {sc : List Int32} (a0 a1 a2 a3 a4 a5 a7 a8 : Option zAV) (st : List zAV) (s : zAS) (k : Nat × Nat) (x : Int32) : zev (zk_L_has sc) (68, [a0, a1, a2, a3, a4, a5, some (Sum.inl (Value.int x)), a7, a8], st, s, k) = zev (zk_L_has sc) (70, [a0, a1, a2, a3, a4, a5, some (Sum.inl (Value.int x)), a7, a8], Sum.inl (Value.int x) :: st, s, k) := zev_go rfl rfl
theorem zr_L_has_70 {sc : List Int32} (a0 a1 a2 a3 a5 a6 a7 a8 : Option zAV) (st : List zAV) (s : zAS) (k : Nat × Nat) (x : Int32) : zev (zk_L_has sc) (70, [a0, a1, a2, a3, some (Sum.inl (Value.int x)), a5, a6, a7, a8], st, s, k) = zev (zk_L_has sc) (72, [a0, a1, a2, a3, some (Sum.inl (Value.int x)), a5, a6, a7, a8], Sum.inl (Value.int x) :: st, s, k) := zev_go rfl rfl
theorem zr_L_has_72 {sc : List Int32} (ls : zLs) (st : List zAV) (s : zAS) (k : Nat × Nat) (x y : Int32) : zev (zk_L_has sc) (72, ls, Sum.inl (Value.int y) :: Sum.inl (Value.int x) :: st, s, k) = zev (zk_L_has sc) (73, ls, Sum.inl (Value.int (x * y)) :: st, s, k) := zev_go rfl rfl
theorem zr_L_has_73 {sc : List Int32} (ls : zLs) (st : List zAV) (s : zAS) (k : Nat × Nat) (x y : Int32) : zev (zk_L_has sc) (73, ls, Sum.inl (Value.int y) :: Sum.inl (Value.int x) :: st, s, k) = zev (zk_L_has sc) (74, ls, Sum.inl (Value.int (x + y)) :: st, s, k) := zev_go rfl rfl
theorem zr_L_has_74 {sc : List Int32} (a0 a1 a2 a3 a4 a5 a6 a8 : Option zAV) (st : List zAV) (s : zAS) (k : Nat × Nat) (x : Int32) : zev (zk_L_has sc) (74, [a0, a1, a2, a3, a4, a5, a6, some (Sum.inl (Value.int x)), a8], st, s, k) = zev (zk_L_has sc) (76, [a0, a1, a2, a3, a4, a5, a6, some (Sum.inl (Value.int x)), a8], Sum.inl (Value.int x) :: st, s, k) := zev_go rfl rfl
theorem zr_L_has_76 {sc : List Int32} (ls : zLs) (st : List zAV) (s : zAS) (k : Nat × Nat) (x y : Int32) : zev (zk_L_has sc) (76, ls, Sum.inl (Value.int y) :: Sum.inl (Value.int x) :: st, s, k) = zev (zk_L_has sc) (77, ls, Sum.inl (Value.int (x + y)) :: st, s, k) := zev_go rfl rfl
theorem zr_L_has_77 {sc : List Int32} (a0 a2 a3 a4 a5 a6 a7 a8 : Option zAV) (st : List zAV) (s : zAS) (k : Nat × Nat) (x : Int32) : zev (zk_L_has sc) (77, [a0, some (Sum.inl (Value.int x)), a2, a3, a4, a5, a6, a7, a8], st, s, k) = zev (zk_L_has sc) (78, [a0, some (Sum.inl (Value.int x)), a2, a3, a4, a5, a6, a7, a8], Sum.inl (Value.int x) :: st, s, k) := zev_go rfl rfl
theorem zr_L_has_78 {sc : List Int32} (ls : zLs) (st : List zAV) (s : zAS) (k : Nat × Nat) (x y : Int32) : zev (zk_L_has sc) (78, ls, Sum.inl (Value.int y) :: Sum.inl (Value.int x) :: st, s, k) = if y = 0 then none else zev (zk_L_has sc) (79, ls, Sum.inl (Value.int (x - x / y * y)) :: st, s, k) := zf_rem rfl
theorem zr_L_has_79 {sc : List Int32} (ls : zLs) (st : List zAV) (s : zAS) (k : Nat × Nat) (x : Int32) : zev (zk_L_has sc) (79, ls, Sum.inl (Value.int x) :: st, s, k) = if decide (¬ x = 0) = true then zev (zk_L_has sc) (86, ls, st, s, k) else zev (zk_L_has sc) (82, ls, st, s, k) := zf_if (f := fun x => decide (¬ x = 0)) rfl
theorem zr_L_has_82 {sc : List Int32} (ls : zLs) (st : List zAV) (s : zAS) (k : Nat × Nat) : zev (zk_L_has sc) (82, ls, st, s, k) = zev (zk_L_has sc) (83, ls, Sum.inl (Value.int (1)) :: st, s, k) := zev_go rfl rfl
theorem zr_L_has_83 {sc : List Int32} (ls : zLs) (st : List zAV) (s : zAS) (k : Nat × Nat) : zev (zk_L_has sc) (83, ls, st, s, k) = zev (zk_L_has sc) (111, ls, st, s, k) := zev_go rfl rfl
theorem zr_L_has_86 {sc : List Int32} (ls : zLs) (st : List zAV) (s : zAS) (k : Nat × Nat) : zev (zk_L_has sc) (86, ls, st, s, k) = zev (zk_L_has sc) (87, ls, Sum.inl (Value.int (0)) :: st, s, k) := zev_go rfl rfl
theorem zr_L_has_87 {sc : List Int32} (ls : zLs) (st : List zAV) (s : zAS) (k : Nat × Nat) : zev (zk_L_has sc) (87, ls, st, s, k) = zev (zk_L_has sc) (111, ls, st, s, k) := zev_go rfl rfl
theorem zr_L_has_90 {sc : List Int32} (a0 a2 a3 a4 a5 a6 a7 a8 : Option zAV) (st : List zAV) (s : zAS) (k : Nat × Nat) (x : Int32) : zev (zk_L_has sc) (90, [a0, some (Sum.inl (Value.int x)), a2, a3, a4, a5, a6, a7, a8], st, s, k) = zev (zk_L_has sc) (91, [a0, some (Sum.inl (Value.int x)), a2, a3, a4, a5, a6, a7, a8], Sum.inl (Value.int x) :: st, s, k) := zev_go rfl rfl
theorem zr_L_has_91 {sc : List Int32} (a0 a1 a2 a4 a5 a6 a7 a8 : Option zAV) (st : List zAV) (s : zAS) (k : Nat × Nat) (x : Int32) : zev (zk_L_has sc) (91, [a0, a1, a2, some (Sum.inl (Value.int x)), a4, a5, a6, a7, a8], st, s, k) = zev (zk_L_has sc) (92, [a0, a1, a2, some (Sum.inl (Value.int x)), a4, a5, a6, a7, a8], Sum.inl (Value.int x) :: st, s, k) := zev_go rfl rfl
theorem zr_L_has_92 {sc : List Int32} (a0 a1 a2 a3 a5 a6 a7 a8 : Option zAV) (st : List zAV) (s : zAS) (k : Nat × Nat) (x : Int32) : zev (zk_L_has sc) (92, [a0, a1, a2, a3, some (Sum.inl (Value.int x)), a5, a6, a7, a8], st, s, k) = zev (zk_L_has sc) (94, [a0, a1, a2, a3, some (Sum.inl (Value.int x)), a5, a6, a7, a8], Sum.inl (Value.int x) :: st, s, k) := zev_go rfl rfl
theorem zr_L_has_94 {sc : List Int32} (a0 a1 a2 a3 a4 a6 a7 a8 : Option zAV) (st : List zAV) (s : zAS) (k : Nat × Nat) (x : Int32) : zev (zk_L_has sc) (94, [a0, a1, a2, a3, a4, some (Sum.inl (Value.int x)), a6, a7, a8], st, s, k) = zev (zk_L_has sc) (96, [a0, a1, a2, a3, a4, some (Sum.inl (Value.int x)), a6, a7, a8], Sum.inl (Value.int x) :: st, s, k) := zev_go rfl rfl
theorem zr_L_has_96 {sc : List Int32} (a0 a1 a2 a3 a4 a5 a7 a8 : Option zAV) (st : List zAV) (s : zAS) (k : Nat × Nat) (x : Int32) : zev (zk_L_has sc) (96, [a0, a1, a2, a3, a4, a5, some (Sum.inl (Value.int x)), a7, a8], st, s, k) = zev (zk_L_has sc) (98, [a0, a1, a2, a3, a4, a5, some (Sum.inl (Value.int x)), a7, a8], Sum.inl (Value.int x) :: st, s, k) := zev_go rfl rfl
theorem zr_L_has_98 {sc : List Int32} (ls : zLs) (st : List zAV) (s : zAS) (k : Nat × Nat) (v0 v1 v2 v3 v4 : zAV) (h : (st.map zcat).sum ≤ 8 ∧ k.1 + 0 ≤ (zR_L_has).cells ∧ k.2 + 0 ≤ (zR_L_has).slots) : zev (zk_L_has sc) (98, ls, v4 :: v3 :: v2 :: v1 :: v0 :: st, s, k) = zret (zk_L_has sc) 101 ls st (k.1 + 0, k.2 + 0) ((m_L_square sc) [v0, v1, v2, v3, v4] s) := zf_callS (as := [v4, v3, v2, v1, v0]) 5 rfl rfl h
theorem zr_L_has_101 {sc : List Int32} (a0 a1 a2 a3 a4 a5 a6 a8 : Option zAV) (st : List zAV) (s : zAS) (k : Nat × Nat) (x : Int32) : zev (zk_L_has sc) (101, [a0, a1, a2, a3, a4, a5, a6, some (Sum.inl (Value.int x)), a8], st, s, k) = zev (zk_L_has sc) (103, [a0, a1, a2, a3, a4, a5, a6, some (Sum.inl (Value.int x)), a8], Sum.inl (Value.int x) :: st, s, k) := zev_go rfl rfl
theorem zr_L_has_103 {sc : List Int32} (ls : zLs) (st : List zAV) (s : zAS) (k : Nat × Nat) (x y : Int32) : zev (zk_L_has sc) (103, ls, Sum.inl (Value.int y) :: Sum.inl (Value.int x) :: st, s, k) = if decide (¬ x = y) = true then zev (zk_L_has sc) (110, ls, st, s, k) else zev (zk_L_has sc) (106, ls, st, s, k) := zf_cmp (f := fun x y => decide (¬ x = y)) rfl
theorem zr_L_has_106 {sc : List Int32} (ls : zLs) (st : List zAV) (s : zAS) (k : Nat × Nat) : zev (zk_L_has sc) (106, ls, st, s, k) = zev (zk_L_has sc) (107, ls, Sum.inl (Value.int (1)) :: st, s, k) := zev_go rfl rfl
theorem zr_L_has_107 {sc : List Int32} (ls : zLs) (st : List zAV) (s : zAS) (k : Nat × Nat) : zev (zk_L_has sc) (107, ls, st, s, k) = zev (zk_L_has sc) (111, ls, st, s, k) := zev_go rfl rfl
theorem zr_L_has_110 {sc : List Int32} (ls : zLs) (st : List zAV) (s : zAS) (k : Nat × Nat) : zev (zk_L_has sc) (110, ls, st, s, k) = zev (zk_L_has sc) (111, ls, Sum.inl (Value.int (0)) :: st, s, k) := zev_go rfl rfl
theorem zr_L_has_111 {sc : List Int32} (ls : zLs) (s : zAS) (k : Nat × Nat) (x : Int32) (hx : x = 0 ∨ x = 1) : zev (zk_L_has sc) (111, ls, [Sum.inl (Value.int x)], s, k) = some (.inl (some (Sum.inl (Value.int x))), s) := zf_retz rfl hx
/-! L_pick: PrimePlaneLaw.pick([IIII)I -/
abbrev zR_L_pick : Room := ({ frames := 1, cells := 0, slots := 0, locals := 21 } : Room)
noncomputable def zl_L_pick (sc : List Int32) : List (Nat × zOp) := [(0, z_ic (0) 1), (1, z_sti 4 3), (3, z_ic (0) 4), (4, z_sti 5 6), (6, z_ldi 5 8), (8, z_ldi 1 9), (9, z_cmp (fun x y => decide (y ≤ x)) 36 12), (12, z_ldi 4 14), (14, z_lda 0 15), (15, z_ldi 5 17), (17, z_iald (zES sc) 18), (18, z_ldi 2 19), (19, z_cmp (fun x y => decide (¬ x = y)) 26 22), (22, z_ic (1) 23), (23, z_goto 27), (26, z_ic (0) 27), (27, z_bin (fun x y => x + y) 28), (28, z_sti 4 30), (30, z_iinc 5 (1) 33), (33, z_goto 6), (36, z_ldi 4 38), (38, z_if (fun x => decide (¬ x = 0)) 43 41), (41, z_ic (-1) 42), (42, z_reti false), (43, z_ldi 3 44), (44, z_ldi 4 46), (46, z_callS (m_L_below sc) 2 0 0 (zR_L_pick).cells (zR_L_pick).slots 49), (49, z_sti 5 51), (51, z_ic (0) 52), (52, z_sti 6 54), (54, z_ldi 6 56), (56, z_ldi 1 57), (57, z_cmp (fun x y => decide (y ≤ x)) 88 60), (60, z_lda 0 61), (61, z_ldi 6 63), (63, z_iald (zES sc) 64), (64, z_ldi 2 65), (65, z_cmp (fun x y => decide (x = y)) 71 68), (68, z_goto 82), (71, z_ldi 5 73), (73, z_if (fun x => decide (¬ x = 0)) 79 76), (76, z_ldi 6 78), (78, z_reti false), (79, z_iinc 5 (-1) 82), (82, z_iinc 6 (1) 85), (85, z_goto 54), (88, z_ic (-1) 89), (89, z_reti false)]
noncomputable def zk_L_pick (sc : List Int32) (pc : Nat) : Option zOp := zlook (zl_L_pick sc) pc
noncomputable def m_L_pick (sc : List Int32) : List zAV → zAS → Option zOut := zmeth (zk_L_pick sc) 7
set_option maxRecDepth 100000 in
set_option maxHeartbeats 4000000 in
theorem zcs_L_pick (sc : List Int32) {R : Room} (hR : R = zR_L_pick) : ∀ q ∈ zl_L_pick sc, zS (zES sc) yL_pick.cls cL_pick 7 wsL_pick (some .int) R q.1 q.2 := by
  subst hR
  refine List.forall_mem_cons.mpr ⟨zs_iconst dL_pick_0 (by decide), ?_⟩
  refine List.forall_mem_cons.mpr ⟨zs_istore dL_pick_1, ?_⟩
  refine List.forall_mem_cons.mpr ⟨zs_iconst dL_pick_3 (by decide), ?_⟩
  refine List.forall_mem_cons.mpr ⟨zs_istore dL_pick_4, ?_⟩
  refine List.forall_mem_cons.mpr ⟨zs_iload dL_pick_6, ?_⟩
  refine List.forall_mem_cons.mpr ⟨zs_iload_n dL_pick_8 rfl, ?_⟩
  refine List.forall_mem_cons.mpr ⟨zs_icge dL_pick_9 (by decide), ?_⟩
  refine List.forall_mem_cons.mpr ⟨zs_iload dL_pick_12, ?_⟩
  refine List.forall_mem_cons.mpr ⟨zs_aload_n dL_pick_14 rfl, ?_⟩
  refine List.forall_mem_cons.mpr ⟨zs_iload dL_pick_15, ?_⟩
  refine List.forall_mem_cons.mpr ⟨zs_iald dL_pick_17, ?_⟩
  refine List.forall_mem_cons.mpr ⟨zs_iload_n dL_pick_18 rfl, ?_⟩
  refine List.forall_mem_cons.mpr ⟨zs_icne dL_pick_19 (by decide), ?_⟩
  refine List.forall_mem_cons.mpr ⟨zs_iconst dL_pick_22 (by decide), ?_⟩
  refine List.forall_mem_cons.mpr ⟨zs_goto dL_pick_23 (by decide), ?_⟩
  refine List.forall_mem_cons.mpr ⟨zs_iconst dL_pick_26 (by decide), ?_⟩
  refine List.forall_mem_cons.mpr ⟨zs_iadd dL_pick_27, ?_⟩
  refine List.forall_mem_cons.mpr ⟨zs_istore dL_pick_28, ?_⟩
  refine List.forall_mem_cons.mpr ⟨zs_iinc dL_pick_30 (by decide), ?_⟩
  refine List.forall_mem_cons.mpr ⟨zs_goto dL_pick_33 (by decide), ?_⟩
  refine List.forall_mem_cons.mpr ⟨zs_iload dL_pick_36, ?_⟩
  refine List.forall_mem_cons.mpr ⟨zs_ifne dL_pick_38 (by decide), ?_⟩
  refine List.forall_mem_cons.mpr ⟨zs_iconst dL_pick_41 (by decide), ?_⟩
  refine List.forall_mem_cons.mpr ⟨zs_reti (ty := .int) rfl (fun x h => (zni x h).1) dL_pick_42, ?_⟩
  refine List.forall_mem_cons.mpr ⟨zs_iload_n dL_pick_43 rfl, ?_⟩
  refine List.forall_mem_cons.mpr ⟨zs_iload dL_pick_44, ?_⟩
  refine List.forall_mem_cons.mpr ⟨zs_callS (rm := zR_L_below) (n := 2) (zM_L_below sc) gL_pick_L_below rfl (by decide +kernel) ⟨by decide, by decide⟩ dL_pick_46, ?_⟩
  refine List.forall_mem_cons.mpr ⟨zs_istore dL_pick_49, ?_⟩
  refine List.forall_mem_cons.mpr ⟨zs_iconst dL_pick_51 (by decide), ?_⟩
  refine List.forall_mem_cons.mpr ⟨zs_istore dL_pick_52, ?_⟩
  refine List.forall_mem_cons.mpr ⟨zs_iload dL_pick_54, ?_⟩
  refine List.forall_mem_cons.mpr ⟨zs_iload_n dL_pick_56 rfl, ?_⟩
  refine List.forall_mem_cons.mpr ⟨zs_icge dL_pick_57 (by decide), ?_⟩
  refine List.forall_mem_cons.mpr ⟨zs_aload_n dL_pick_60 rfl, ?_⟩
  refine List.forall_mem_cons.mpr ⟨zs_iload dL_pick_61, ?_⟩
  refine List.forall_mem_cons.mpr ⟨zs_iald dL_pick_63, ?_⟩
  refine List.forall_mem_cons.mpr ⟨zs_iload_n dL_pick_64 rfl, ?_⟩
  refine List.forall_mem_cons.mpr ⟨zs_iceq dL_pick_65 (by decide), ?_⟩
  refine List.forall_mem_cons.mpr ⟨zs_goto dL_pick_68 (by decide), ?_⟩
  refine List.forall_mem_cons.mpr ⟨zs_iload dL_pick_71, ?_⟩
  refine List.forall_mem_cons.mpr ⟨zs_ifne dL_pick_73 (by decide), ?_⟩
  refine List.forall_mem_cons.mpr ⟨zs_iload dL_pick_76, ?_⟩
  refine List.forall_mem_cons.mpr ⟨zs_reti (ty := .int) rfl (fun x h => (zni x h).1) dL_pick_78, ?_⟩
  refine List.forall_mem_cons.mpr ⟨zs_iinc dL_pick_79 (by decide), ?_⟩
  refine List.forall_mem_cons.mpr ⟨zs_iinc dL_pick_82 (by decide), ?_⟩
  refine List.forall_mem_cons.mpr ⟨zs_goto dL_pick_85 (by decide), ?_⟩
  refine List.forall_mem_cons.mpr ⟨zs_iconst dL_pick_88 (by decide), ?_⟩
  refine List.forall_mem_cons.mpr ⟨zs_reti (ty := .int) rfl (fun x h => (zni x h).1) dL_pick_89, ?_⟩
  exact fun _ h => absurd h List.not_mem_nil
theorem zM_L_pick (sc : List Int32) : zMeets (zES sc) yL_pick wsL_pick zR_L_pick (m_L_pick sc) := zmeth_M (zES_ok sc) (zlook_all (zcs_L_pick sc rfl)) (by decide +kernel) rfl
theorem zr_L_pick_0 {sc : List Int32} (ls : zLs) (st : List zAV) (s : zAS) (k : Nat × Nat) : zev (zk_L_pick sc) (0, ls, st, s, k) = zev (zk_L_pick sc) (1, ls, Sum.inl (Value.int (0)) :: st, s, k) := zev_go rfl rfl
theorem zr_L_pick_1 {sc : List Int32} (a0 a1 a2 a3 a4 a5 a6 : Option zAV) (st : List zAV) (s : zAS) (k : Nat × Nat) (x : Int32) : zev (zk_L_pick sc) (1, [a0, a1, a2, a3, a4, a5, a6], Sum.inl (Value.int x) :: st, s, k) = zev (zk_L_pick sc) (3, [a0, a1, a2, zk1 a3, some (Sum.inl (Value.int x)), a5, a6], st, s, k) := zev_go rfl rfl
theorem zr_L_pick_3 {sc : List Int32} (ls : zLs) (st : List zAV) (s : zAS) (k : Nat × Nat) : zev (zk_L_pick sc) (3, ls, st, s, k) = zev (zk_L_pick sc) (4, ls, Sum.inl (Value.int (0)) :: st, s, k) := zev_go rfl rfl
theorem zr_L_pick_4 {sc : List Int32} (a0 a1 a2 a3 a4 a5 a6 : Option zAV) (st : List zAV) (s : zAS) (k : Nat × Nat) (x : Int32) : zev (zk_L_pick sc) (4, [a0, a1, a2, a3, a4, a5, a6], Sum.inl (Value.int x) :: st, s, k) = zev (zk_L_pick sc) (6, [a0, a1, a2, a3, zk1 a4, some (Sum.inl (Value.int x)), a6], st, s, k) := zev_go rfl rfl
theorem zr_L_pick_6 {sc : List Int32} (a0 a1 a2 a3 a4 a6 : Option zAV) (st : List zAV) (s : zAS) (k : Nat × Nat) (x : Int32) : zev (zk_L_pick sc) (6, [a0, a1, a2, a3, a4, some (Sum.inl (Value.int x)), a6], st, s, k) = zev (zk_L_pick sc) (8, [a0, a1, a2, a3, a4, some (Sum.inl (Value.int x)), a6], Sum.inl (Value.int x) :: st, s, k) := zev_go rfl rfl
theorem zr_L_pick_8 {sc : List Int32} (a0 a2 a3 a4 a5 a6 : Option zAV) (st : List zAV) (s : zAS) (k : Nat × Nat) (x : Int32) : zev (zk_L_pick sc) (8, [a0, some (Sum.inl (Value.int x)), a2, a3, a4, a5, a6], st, s, k) = zev (zk_L_pick sc) (9, [a0, some (Sum.inl (Value.int x)), a2, a3, a4, a5, a6], Sum.inl (Value.int x) :: st, s, k) := zev_go rfl rfl
theorem zr_L_pick_9 {sc : List Int32} (ls : zLs) (st : List zAV) (s : zAS) (k : Nat × Nat) (x y : Int32) : zev (zk_L_pick sc) (9, ls, Sum.inl (Value.int y) :: Sum.inl (Value.int x) :: st, s, k) = if decide (y ≤ x) = true then zev (zk_L_pick sc) (36, ls, st, s, k) else zev (zk_L_pick sc) (12, ls, st, s, k) := zf_cmp (f := fun x y => decide (y ≤ x)) rfl
theorem zr_L_pick_12 {sc : List Int32} (a0 a1 a2 a3 a5 a6 : Option zAV) (st : List zAV) (s : zAS) (k : Nat × Nat) (x : Int32) : zev (zk_L_pick sc) (12, [a0, a1, a2, a3, some (Sum.inl (Value.int x)), a5, a6], st, s, k) = zev (zk_L_pick sc) (14, [a0, a1, a2, a3, some (Sum.inl (Value.int x)), a5, a6], Sum.inl (Value.int x) :: st, s, k) := zev_go rfl rfl
theorem zr_L_pick_14 {sc : List Int32} (a1 a2 a3 a4 a5 a6 : Option zAV) (st : List zAV) (s : zAS) (k : Nat × Nat) (o : Nat × Nat) : zev (zk_L_pick sc) (14, [some (Sum.inr o), a1, a2, a3, a4, a5, a6], st, s, k) = zev (zk_L_pick sc) (15, [some (Sum.inr o), a1, a2, a3, a4, a5, a6], Sum.inr o :: st, s, k) := zev_go rfl rfl
theorem zr_L_pick_15 {sc : List Int32} (a0 a1 a2 a3 a4 a6 : Option zAV) (st : List zAV) (s : zAS) (k : Nat × Nat) (x : Int32) : zev (zk_L_pick sc) (15, [a0, a1, a2, a3, a4, some (Sum.inl (Value.int x)), a6], st, s, k) = zev (zk_L_pick sc) (17, [a0, a1, a2, a3, a4, some (Sum.inl (Value.int x)), a6], Sum.inl (Value.int x) :: st, s, k) := zev_go rfl rfl
theorem zr_L_pick_17 {sc : List Int32} (ls : zLs) (st : List zAV) (s : zAS) (k : Nat × Nat) (o i : Nat) (j : Int32) : zev (zk_L_pick sc) (17, ls, Sum.inl (Value.int j) :: Sum.inr (o, i) :: st, s, k) = zpush (zk_L_pick sc) 18 ls st s k (zald (zES sc) o i j s) := zf_iald rfl
theorem zr_L_pick_18 {sc : List Int32} (a0 a1 a3 a4 a5 a6 : Option zAV) (st : List zAV) (s : zAS) (k : Nat × Nat) (x : Int32) : zev (zk_L_pick sc) (18, [a0, a1, some (Sum.inl (Value.int x)), a3, a4, a5, a6], st, s, k) = zev (zk_L_pick sc) (19, [a0, a1, some (Sum.inl (Value.int x)), a3, a4, a5, a6], Sum.inl (Value.int x) :: st, s, k) := zev_go rfl rfl
theorem zr_L_pick_19 {sc : List Int32} (ls : zLs) (st : List zAV) (s : zAS) (k : Nat × Nat) (x y : Int32) : zev (zk_L_pick sc) (19, ls, Sum.inl (Value.int y) :: Sum.inl (Value.int x) :: st, s, k) = if decide (¬ x = y) = true then zev (zk_L_pick sc) (26, ls, st, s, k) else zev (zk_L_pick sc) (22, ls, st, s, k) := zf_cmp (f := fun x y => decide (¬ x = y)) rfl
theorem zr_L_pick_22 {sc : List Int32} (ls : zLs) (st : List zAV) (s : zAS) (k : Nat × Nat) : zev (zk_L_pick sc) (22, ls, st, s, k) = zev (zk_L_pick sc) (23, ls, Sum.inl (Value.int (1)) :: st, s, k) := zev_go rfl rfl
theorem zr_L_pick_23 {sc : List Int32} (ls : zLs) (st : List zAV) (s : zAS) (k : Nat × Nat) : zev (zk_L_pick sc) (23, ls, st, s, k) = zev (zk_L_pick sc) (27, ls, st, s, k) := zev_go rfl rfl
theorem zr_L_pick_26 {sc : List Int32} (ls : zLs) (st : List zAV) (s : zAS) (k : Nat × Nat) : zev (zk_L_pick sc) (26, ls, st, s, k) = zev (zk_L_pick sc) (27, ls, Sum.inl (Value.int (0)) :: st, s, k) := zev_go rfl rfl
theorem zr_L_pick_27 {sc : List Int32} (ls : zLs) (st : List zAV) (s : zAS) (k : Nat × Nat) (x y : Int32) : zev (zk_L_pick sc) (27, ls, Sum.inl (Value.int y) :: Sum.inl (Value.int x) :: st, s, k) = zev (zk_L_pick sc) (28, ls, Sum.inl (Value.int (x + y)) :: st, s, k) := zev_go rfl rfl
theorem zr_L_pick_28 {sc : List Int32} (a0 a1 a2 a3 a4 a5 a6 : Option zAV) (st : List zAV) (s : zAS) (k : Nat × Nat) (x : Int32) : zev (zk_L_pick sc) (28, [a0, a1, a2, a3, a4, a5, a6], Sum.inl (Value.int x) :: st, s, k) = zev (zk_L_pick sc) (30, [a0, a1, a2, zk1 a3, some (Sum.inl (Value.int x)), a5, a6], st, s, k) := zev_go rfl rfl
theorem zr_L_pick_30 {sc : List Int32} (a0 a1 a2 a3 a4 a6 : Option zAV) (st : List zAV) (s : zAS) (k : Nat × Nat) (x : Int32) : zev (zk_L_pick sc) (30, [a0, a1, a2, a3, a4, some (Sum.inl (Value.int x)), a6], st, s, k) = zev (zk_L_pick sc) (33, [a0, a1, a2, a3, zk1 a4, some (Sum.inl (Value.int (x + (1)))), a6], st, s, k) := zev_go rfl rfl
theorem zr_L_pick_33 {sc : List Int32} (ls : zLs) (st : List zAV) (s : zAS) (k : Nat × Nat) : zev (zk_L_pick sc) (33, ls, st, s, k) = zev (zk_L_pick sc) (6, ls, st, s, k) := zev_go rfl rfl
theorem zr_L_pick_36 {sc : List Int32} (a0 a1 a2 a3 a5 a6 : Option zAV) (st : List zAV) (s : zAS) (k : Nat × Nat) (x : Int32) : zev (zk_L_pick sc) (36, [a0, a1, a2, a3, some (Sum.inl (Value.int x)), a5, a6], st, s, k) = zev (zk_L_pick sc) (38, [a0, a1, a2, a3, some (Sum.inl (Value.int x)), a5, a6], Sum.inl (Value.int x) :: st, s, k) := zev_go rfl rfl
theorem zr_L_pick_38 {sc : List Int32} (ls : zLs) (st : List zAV) (s : zAS) (k : Nat × Nat) (x : Int32) : zev (zk_L_pick sc) (38, ls, Sum.inl (Value.int x) :: st, s, k) = if decide (¬ x = 0) = true then zev (zk_L_pick sc) (43, ls, st, s, k) else zev (zk_L_pick sc) (41, ls, st, s, k) := zf_if (f := fun x => decide (¬ x = 0)) rfl
theorem zr_L_pick_41 {sc : List Int32} (ls : zLs) (st : List zAV) (s : zAS) (k : Nat × Nat) : zev (zk_L_pick sc) (41, ls, st, s, k) = zev (zk_L_pick sc) (42, ls, Sum.inl (Value.int (-1)) :: st, s, k) := zev_go rfl rfl
theorem zr_L_pick_42 {sc : List Int32} (ls : zLs) (s : zAS) (k : Nat × Nat) (x : Int32) : zev (zk_L_pick sc) (42, ls, [Sum.inl (Value.int x)], s, k) = some (.inl (some (Sum.inl (Value.int x))), s) := zf_reti rfl
theorem zr_L_pick_43 {sc : List Int32} (a0 a1 a2 a4 a5 a6 : Option zAV) (st : List zAV) (s : zAS) (k : Nat × Nat) (x : Int32) : zev (zk_L_pick sc) (43, [a0, a1, a2, some (Sum.inl (Value.int x)), a4, a5, a6], st, s, k) = zev (zk_L_pick sc) (44, [a0, a1, a2, some (Sum.inl (Value.int x)), a4, a5, a6], Sum.inl (Value.int x) :: st, s, k) := zev_go rfl rfl
theorem zr_L_pick_44 {sc : List Int32} (a0 a1 a2 a3 a5 a6 : Option zAV) (st : List zAV) (s : zAS) (k : Nat × Nat) (x : Int32) : zev (zk_L_pick sc) (44, [a0, a1, a2, a3, some (Sum.inl (Value.int x)), a5, a6], st, s, k) = zev (zk_L_pick sc) (46, [a0, a1, a2, a3, some (Sum.inl (Value.int x)), a5, a6], Sum.inl (Value.int x) :: st, s, k) := zev_go rfl rfl
theorem zr_L_pick_46 {sc : List Int32} (ls : zLs) (st : List zAV) (s : zAS) (k : Nat × Nat) (v0 v1 : zAV) (h : (st.map zcat).sum ≤ 8 ∧ k.1 + 0 ≤ (zR_L_pick).cells ∧ k.2 + 0 ≤ (zR_L_pick).slots) : zev (zk_L_pick sc) (46, ls, v1 :: v0 :: st, s, k) = zret (zk_L_pick sc) 49 ls st (k.1 + 0, k.2 + 0) ((m_L_below sc) [v0, v1] s) := zf_callS (as := [v1, v0]) 2 rfl rfl h
theorem zr_L_pick_49 {sc : List Int32} (a0 a1 a2 a3 a4 a5 a6 : Option zAV) (st : List zAV) (s : zAS) (k : Nat × Nat) (x : Int32) : zev (zk_L_pick sc) (49, [a0, a1, a2, a3, a4, a5, a6], Sum.inl (Value.int x) :: st, s, k) = zev (zk_L_pick sc) (51, [a0, a1, a2, a3, zk1 a4, some (Sum.inl (Value.int x)), a6], st, s, k) := zev_go rfl rfl
theorem zr_L_pick_51 {sc : List Int32} (ls : zLs) (st : List zAV) (s : zAS) (k : Nat × Nat) : zev (zk_L_pick sc) (51, ls, st, s, k) = zev (zk_L_pick sc) (52, ls, Sum.inl (Value.int (0)) :: st, s, k) := zev_go rfl rfl
theorem zr_L_pick_52 {sc : List Int32} (a0 a1 a2 a3 a4 a5 a6 : Option zAV) (st : List zAV) (s : zAS) (k : Nat × Nat) (x : Int32) : zev (zk_L_pick sc) (52, [a0, a1, a2, a3, a4, a5, a6], Sum.inl (Value.int x) :: st, s, k) = zev (zk_L_pick sc) (54, [a0, a1, a2, a3, a4, zk1 a5, some (Sum.inl (Value.int x))], st, s, k) := zev_go rfl rfl
theorem zr_L_pick_54 {sc : List Int32} (a0 a1 a2 a3 a4 a5 : Option zAV) (st : List zAV) (s : zAS) (k : Nat × Nat) (x : Int32) : zev (zk_L_pick sc) (54, [a0, a1, a2, a3, a4, a5, some (Sum.inl (Value.int x))], st, s, k) = zev (zk_L_pick sc) (56, [a0, a1, a2, a3, a4, a5, some (Sum.inl (Value.int x))], Sum.inl (Value.int x) :: st, s, k) := zev_go rfl rfl
theorem zr_L_pick_56 {sc : List Int32} (a0 a2 a3 a4 a5 a6 : Option zAV) (st : List zAV) (s : zAS) (k : Nat × Nat) (x : Int32) : zev (zk_L_pick sc) (56, [a0, some (Sum.inl (Value.int x)), a2, a3, a4, a5, a6], st, s, k) = zev (zk_L_pick sc) (57, [a0, some (Sum.inl (Value.int x)), a2, a3, a4, a5, a6], Sum.inl (Value.int x) :: st, s, k) := zev_go rfl rfl
theorem zr_L_pick_57 {sc : List Int32} (ls : zLs) (st : List zAV) (s : zAS) (k : Nat × Nat) (x y : Int32) : zev (zk_L_pick sc) (57, ls, Sum.inl (Value.int y) :: Sum.inl (Value.int x) :: st, s, k) = if decide (y ≤ x) = true then zev (zk_L_pick sc) (88, ls, st, s, k) else zev (zk_L_pick sc) (60, ls, st, s, k) := zf_cmp (f := fun x y => decide (y ≤ x)) rfl
theorem zr_L_pick_60 {sc : List Int32} (a1 a2 a3 a4 a5 a6 : Option zAV) (st : List zAV) (s : zAS) (k : Nat × Nat) (o : Nat × Nat) : zev (zk_L_pick sc) (60, [some (Sum.inr o), a1, a2, a3, a4, a5, a6], st, s, k) = zev (zk_L_pick sc) (61, [some (Sum.inr o), a1, a2, a3, a4, a5, a6], Sum.inr o :: st, s, k) := zev_go rfl rfl
theorem zr_L_pick_61 {sc : List Int32} (a0 a1 a2 a3 a4 a5 : Option zAV) (st : List zAV) (s : zAS) (k : Nat × Nat) (x : Int32) : zev (zk_L_pick sc) (61, [a0, a1, a2, a3, a4, a5, some (Sum.inl (Value.int x))], st, s, k) = zev (zk_L_pick sc) (63, [a0, a1, a2, a3, a4, a5, some (Sum.inl (Value.int x))], Sum.inl (Value.int x) :: st, s, k) := zev_go rfl rfl
theorem zr_L_pick_63 {sc : List Int32} (ls : zLs) (st : List zAV) (s : zAS) (k : Nat × Nat) (o i : Nat) (j : Int32) : zev (zk_L_pick sc) (63, ls, Sum.inl (Value.int j) :: Sum.inr (o, i) :: st, s, k) = zpush (zk_L_pick sc) 64 ls st s k (zald (zES sc) o i j s) := zf_iald rfl
theorem zr_L_pick_64 {sc : List Int32} (a0 a1 a3 a4 a5 a6 : Option zAV) (st : List zAV) (s : zAS) (k : Nat × Nat) (x : Int32) : zev (zk_L_pick sc) (64, [a0, a1, some (Sum.inl (Value.int x)), a3, a4, a5, a6], st, s, k) = zev (zk_L_pick sc) (65, [a0, a1, some (Sum.inl (Value.int x)), a3, a4, a5, a6], Sum.inl (Value.int x) :: st, s, k) := zev_go rfl rfl
theorem zr_L_pick_65 {sc : List Int32} (ls : zLs) (st : List zAV) (s : zAS) (k : Nat × Nat) (x y : Int32) : zev (zk_L_pick sc) (65, ls, Sum.inl (Value.int y) :: Sum.inl (Value.int x) :: st, s, k) = if decide (x = y) = true then zev (zk_L_pick sc) (71, ls, st, s, k) else zev (zk_L_pick sc) (68, ls, st, s, k) := zf_cmp (f := fun x y => decide (x = y)) rfl
theorem zr_L_pick_68 {sc : List Int32} (ls : zLs) (st : List zAV) (s : zAS) (k : Nat × Nat) : zev (zk_L_pick sc) (68, ls, st, s, k) = zev (zk_L_pick sc) (82, ls, st, s, k) := zev_go rfl rfl
theorem zr_L_pick_71 {sc : List Int32} (a0 a1 a2 a3 a4 a6 : Option zAV) (st : List zAV) (s : zAS) (k : Nat × Nat) (x : Int32) : zev (zk_L_pick sc) (71, [a0, a1, a2, a3, a4, some (Sum.inl (Value.int x)), a6], st, s, k) = zev (zk_L_pick sc) (73, [a0, a1, a2, a3, a4, some (Sum.inl (Value.int x)), a6], Sum.inl (Value.int x) :: st, s, k) := zev_go rfl rfl
theorem zr_L_pick_73 {sc : List Int32} (ls : zLs) (st : List zAV) (s : zAS) (k : Nat × Nat) (x : Int32) : zev (zk_L_pick sc) (73, ls, Sum.inl (Value.int x) :: st, s, k) = if decide (¬ x = 0) = true then zev (zk_L_pick sc) (79, ls, st, s, k) else zev (zk_L_pick sc) (76, ls, st, s, k) := zf_if (f := fun x => decide (¬ x = 0)) rfl
theorem zr_L_pick_76 {sc : List Int32} (a0 a1 a2 a3 a4 a5 : Option zAV) (st : List zAV) (s : zAS) (k : Nat × Nat) (x : Int32) : zev (zk_L_pick sc) (76, [a0, a1, a2, a3, a4, a5, some (Sum.inl (Value.int x))], st, s, k) = zev (zk_L_pick sc) (78, [a0, a1, a2, a3, a4, a5, some (Sum.inl (Value.int x))], Sum.inl (Value.int x) :: st, s, k) := zev_go rfl rfl
theorem zr_L_pick_78 {sc : List Int32} (ls : zLs) (s : zAS) (k : Nat × Nat) (x : Int32) : zev (zk_L_pick sc) (78, ls, [Sum.inl (Value.int x)], s, k) = some (.inl (some (Sum.inl (Value.int x))), s) := zf_reti rfl
theorem zr_L_pick_79 {sc : List Int32} (a0 a1 a2 a3 a4 a6 : Option zAV) (st : List zAV) (s : zAS) (k : Nat × Nat) (x : Int32) : zev (zk_L_pick sc) (79, [a0, a1, a2, a3, a4, some (Sum.inl (Value.int x)), a6], st, s, k) = zev (zk_L_pick sc) (82, [a0, a1, a2, a3, zk1 a4, some (Sum.inl (Value.int (x + (-1)))), a6], st, s, k) := zev_go rfl rfl
theorem zr_L_pick_82 {sc : List Int32} (a0 a1 a2 a3 a4 a5 : Option zAV) (st : List zAV) (s : zAS) (k : Nat × Nat) (x : Int32) : zev (zk_L_pick sc) (82, [a0, a1, a2, a3, a4, a5, some (Sum.inl (Value.int x))], st, s, k) = zev (zk_L_pick sc) (85, [a0, a1, a2, a3, a4, zk1 a5, some (Sum.inl (Value.int (x + (1))))], st, s, k) := zev_go rfl rfl
theorem zr_L_pick_85 {sc : List Int32} (ls : zLs) (st : List zAV) (s : zAS) (k : Nat × Nat) : zev (zk_L_pick sc) (85, ls, st, s, k) = zev (zk_L_pick sc) (54, ls, st, s, k) := zev_go rfl rfl
theorem zr_L_pick_88 {sc : List Int32} (ls : zLs) (st : List zAV) (s : zAS) (k : Nat × Nat) : zev (zk_L_pick sc) (88, ls, st, s, k) = zev (zk_L_pick sc) (89, ls, Sum.inl (Value.int (-1)) :: st, s, k) := zev_go rfl rfl
theorem zr_L_pick_89 {sc : List Int32} (ls : zLs) (s : zAS) (k : Nat × Nat) (x : Int32) : zev (zk_L_pick sc) (89, ls, [Sum.inl (Value.int x)], s, k) = some (.inl (some (Sum.inl (Value.int x))), s) := zf_reti rfl
/-! L_build: PrimePlaneLaw.build(LPrimePlane;[III)I -/
abbrev zR_L_build : Room := ({ frames := 7, cells := 40, slots := 200, locals := 177 } : Room)
noncomputable def zl_L_build (sc : List Int32) : List (Nat × zOp) := [(0, z_ic (14) 2), (2, z_newa (zR_L_build).cells (zR_L_build).slots 4), (4, z_dup 5), (5, z_ic (0) 6), (6, z_ic (2) 7), (7, z_iast (zES sc) 8), (8, z_dup 9), (9, z_ic (1) 10), (10, z_ic (3) 11), (11, z_iast (zES sc) 12), (12, z_dup 13), (13, z_ic (2) 14), (14, z_ic (4) 15), (15, z_iast (zES sc) 16), (16, z_dup 17), (17, z_ic (3) 18), (18, z_ic (5) 19), (19, z_iast (zES sc) 20), (20, z_dup 21), (21, z_ic (4) 22), (22, z_ic (6) 24), (24, z_iast (zES sc) 25), (25, z_dup 26), (26, z_ic (5) 27), (27, z_ic (7) 29), (29, z_iast (zES sc) 30), (30, z_dup 31), (31, z_ic (6) 33), (33, z_ic (8) 35), (35, z_iast (zES sc) 36), (36, z_dup 37), (37, z_ic (7) 39), (39, z_ic (10) 41), (41, z_iast (zES sc) 42), (42, z_dup 43), (43, z_ic (8) 45), (45, z_ic (11) 47), (47, z_iast (zES sc) 48), (48, z_dup 49), (49, z_ic (9) 51), (51, z_ic (12) 53), (53, z_iast (zES sc) 54), (54, z_dup 55), (55, z_ic (10) 57), (57, z_ic (13) 59), (59, z_iast (zES sc) 60), (60, z_dup 61), (61, z_ic (11) 63), (63, z_ic (20) 65), (65, z_iast (zES sc) 66), (66, z_dup 67), (67, z_ic (12) 69), (69, z_ic (21) 71), (71, z_iast (zES sc) 72), (72, z_dup 73), (73, z_ic (13) 75), (75, z_ic (22) 77), (77, z_iast (zES sc) 78), (78, z_sta 4 80), (80, z_ic (14) 82), (82, z_anewa (zR_L_build).cells (zR_L_build).slots 85), (85, z_dup 86), (86, z_ic (0) 87), (87, z_sldc (zES sc) 0 89), (89, z_aasts (zES sc) 90), (90, z_dup 91), (91, z_ic (1) 92), (92, z_sldc (zES sc) 1 94), (94, z_aasts (zES sc) 95), (95, z_dup 96), (96, z_ic (2) 97), (97, z_sldc (zES sc) 1 99), (99, z_aasts (zES sc) 100), (100, z_dup 101), (101, z_ic (3) 102), (102, z_sldc (zES sc) 2 104), (104, z_aasts (zES sc) 105), (105, z_dup 106), (106, z_ic (4) 107), (107, z_sldc (zES sc) 2 109), (109, z_aasts (zES sc) 110), (110, z_dup 111), (111, z_ic (5) 112), (112, z_sldc (zES sc) 3 114), (114, z_aasts (zES sc) 115), (115, z_dup 116), (116, z_ic (6) 118), (118, z_sldc (zES sc) 4 120), (120, z_aasts (zES sc) 121), (121, z_dup 122), (122, z_ic (7) 124), (124, z_sldc (zES sc) 3 126), (126, z_aasts (zES sc) 127), (127, z_dup 128), (128, z_ic (8) 130), (130, z_sldc (zES sc) 4 132), (132, z_aasts (zES sc) 133), (133, z_dup 134), (134, z_ic (9) 136), (136, z_sldc (zES sc) 4 138), (138, z_aasts (zES sc) 139), (139, z_dup 140), (140, z_ic (10) 142), (142, z_sldc (zES sc) 3 144), (144, z_aasts (zES sc) 145), (145, z_dup 146), (146, z_ic (11) 148), (148, z_sldc (zES sc) 3 150), (150, z_aasts (zES sc) 151), (151, z_dup 152), (152, z_ic (12) 154), (154, z_sldc (zES sc) 5 156), (156, z_aasts (zES sc) 157), (157, z_dup 158), (158, z_ic (13) 160), (160, z_sldc (zES sc) 5 162), (162, z_aasts (zES sc) 163), (163, z_sta 5 165), (165, z_ldi 3 166), (166, z_newa (zR_L_build).cells (zR_L_build).slots 168), (168, z_sta 6 170), (170, z_ic (0) 171), (171, z_sti 7 173), (173, z_ic (0) 174), (174, z_sti 8 176), (176, z_ldi 8 178), (178, z_ldi 3 179), (179, z_cmp (fun x y => decide (y ≤ x)) 624 182), (182, z_lda 1 183), (183, z_ldi 8 185), (185, z_ic (16) 187), (187, z_rem 188), (188, z_callS (m_L_cell sc) 2 0 0 (zR_L_build).cells (zR_L_build).slots 191), (191, z_ldi 8 193), (193, z_ic (16) 195), (195, z_div 196), (196, z_ic (4) 197), (197, z_bin (fun x y => x * y) 198), (198, z_bin (fun x y => x >>> (y &&& 31)) 199), (199, z_sti 9 201), (201, z_ldi 9 203), (203, z_ic (16) 205), (205, z_callS (m_L_below sc) 2 0 0 (zR_L_build).cells (zR_L_build).slots 208), (208, z_sti 10 210), (210, z_ldi 8 212), (212, z_ic (3) 213), (213, z_cmp (fun x y => decide (x < y)) 223 216), (216, z_ldi 10 218), (218, z_ic (14) 220), (220, z_cmp (fun x y => decide (¬ x = y)) 275 223), (223, z_lda 0 224), (224, z_ic (-1) 225), (225, z_ldi 9 227), (227, z_ic (3) 228), (228, z_bin (fun x y => x >>> (y &&& 31)) 229), (229, z_ldi 2 230), (230, z_callS (m_L_below sc) 2 0 0 (zR_L_build).cells (zR_L_build).slots 233), (233, z_ldi 9 235), (235, z_ic (9) 237), (237, z_bin (fun x y => x >>> (y &&& 31)) 238), (238, z_ldi 2 239), (239, z_callS (m_L_below sc) 2 0 0 (zR_L_build).cells (zR_L_build).slots 242), (242, z_callV (zES sc) 8 m_X8_point 3 0 0 (zR_L_build).cells (zR_L_build).slots 245), (245, z_sti 11 247), (247, z_ldi 11 249), (249, z_ldi 7 251), (251, z_cmp (fun x y => decide (¬ x = y)) 264 254), (254, z_lda 0 255), (255, z_ldi 11 257), (257, z_ic (1) 258), (258, z_callV (zES sc) 8 m_X8_object 2 0 0 (zR_L_build).cells (zR_L_build).slots 261), (261, z_if (fun x => decide (x = 0)) 266 264), (264, z_ic (-1) 265), (265, z_reti false), (266, z_lda 6 268), (268, z_ldi 7 270), (270, z_ic (0) 271), (271, z_iast (zES sc) 272), (272, z_goto 598), (275, z_ldi 10 277), (277, z_ic (15) 279), (279, z_cmp (fun x y => decide (¬ x = y)) 363 282), (282, z_lda 6 284), (284, z_ldi 7 286), (286, z_ic (1) 287), (287, z_ldi 9 289), (289, z_ic (4) 290), (290, z_bin (fun x y => x >>> (y &&& 31)) 291), (291, z_callS (m_L_pick sc) 4 0 0 (zR_L_build).cells (zR_L_build).slots 294), (294, z_sti 12 296), (296, z_ldi 12 298), (298, z_if (fun x => decide (0 ≤ x)) 304 301), (301, z_goto 618), (304, z_lda 0 305), (305, z_ldi 12 307), (307, z_ldi 9 309), (309, z_ic (3) 310), (310, z_bin (fun x y => x >>> (y &&& 31)) 311), (311, z_ldi 2 312), (312, z_callS (m_L_below sc) 2 0 0 (zR_L_build).cells (zR_L_build).slots 315), (315, z_ic (99) 317), (317, z_callV (zES sc) 8 m_X8_point 3 0 0 (zR_L_build).cells (zR_L_build).slots 320), (320, z_sti 11 322), (322, z_ldi 11 324), (324, z_ldi 7 326), (326, z_cmp (fun x y => decide (¬ x = y)) 352 329), (329, z_lda 0 330), (330, z_ldi 11 332), (332, z_ic (1) 333), (333, z_callV (zES sc) 8 m_X8_object 2 0 0 (zR_L_build).cells (zR_L_build).slots 336), (336, z_ic (1) 337), (337, z_cmp (fun x y => decide (¬ x = y)) 352 340), (340, z_lda 0 341), (341, z_ldi 11 343), (343, z_ic (2) 344), (344, z_callV (zES sc) 8 m_X8_object 2 0 0 (zR_L_build).cells (zR_L_build).slots 347), (347, z_ldi 12 349), (349, z_cmp (fun x y => decide (x = y)) 354 352), (352, z_ic (-1) 353), (353, z_reti false), (354, z_lda 6 356), (356, z_ldi 7 358), (358, z_ic (0) 359), (359, z_iast (zES sc) 360), (360, z_goto 598), (363, z_ic (3) 364), (364, z_newa (zR_L_build).cells (zR_L_build).slots 366), (366, z_sta 12 368), (368, z_ic (1) 369), (369, z_sti 13 371), (371, z_ic (0) 372), (372, z_sti 14 374), (374, z_ldi 14 376), (376, z_lda 5 378), (378, z_ldi 10 380), (380, z_aalds 381), (381, z_scall m_J0_length_8abf5 0 0 0 (zR_L_build).cells (zR_L_build).slots 384), (384, z_cmp (fun x y => decide (y ≤ x)) 453 387), (387, z_lda 12 389), (389, z_ldi 14 391), (391, z_lda 6 393), (393, z_ldi 7 395), (395, z_lda 5 397), (397, z_ldi 10 399), (399, z_aalds 400), (400, z_ldi 14 402), (402, z_scall m_J0_charAt_5068e 1 0 0 (zR_L_build).cells (zR_L_build).slots 405), (405, z_ic (48) 407), (407, z_bin (fun x y => x - y) 408), (408, z_ldi 9 410), (410, z_ic (3) 411), (411, z_ic (2) 412), (412, z_ldi 14 414), (414, z_bin (fun x y => x * y) 415), (415, z_bin (fun x y => x + y) 416), (416, z_bin (fun x y => x >>> (y &&& 31)) 417), (417, z_ic (7) 419), (419, z_ldi 14 421), (421, z_bin (fun x y => x * y) 422), (422, z_bin (fun x y => x + y) 423), (423, z_callS (m_L_pick sc) 4 0 0 (zR_L_build).cells (zR_L_build).slots 426), (426, z_iast (zES sc) 427), (427, z_ldi 13 429), (429, z_if (fun x => decide (x = 0)) 444 432), (432, z_lda 12 434), (434, z_ldi 14 436), (436, z_iald (zES sc) 437), (437, z_if (fun x => decide (x < 0)) 444 440), (440, z_ic (1) 441), (441, z_goto 445), (444, z_ic (0) 445), (445, z_sti 13 447), (447, z_iinc 14 (1) 450), (450, z_goto 374), (453, z_ldi 13 455), (455, z_if (fun x => decide (¬ x = 0)) 461 458), (458, z_goto 618), (461, z_lda 0 462), (462, z_lda 4 464), (464, z_ldi 10 466), (466, z_iald (zES sc) 467), (467, z_lda 12 469), (469, z_ic (0) 470), (470, z_iald (zES sc) 471), (471, z_lda 12 473), (473, z_ic (1) 474), (474, z_iald (zES sc) 475), (475, z_lda 12 477), (477, z_ic (2) 478), (478, z_iald (zES sc) 479), (479, z_callV (zES sc) 8 m_X8_make 4 0 0 (zR_L_build).cells (zR_L_build).slots 482), (482, z_sti 11 484), (484, z_ldi 11 486), (486, z_ldi 7 488), (488, z_cmp (fun x y => decide (¬ x = y)) 562 491), (491, z_lda 0 492), (492, z_ldi 11 494), (494, z_ic (1) 495), (495, z_callV (zES sc) 8 m_X8_object 2 0 0 (zR_L_build).cells (zR_L_build).slots 498), (498, z_lda 4 500), (500, z_ldi 10 502), (502, z_iald (zES sc) 503), (503, z_cmp (fun x y => decide (¬ x = y)) 562 506), (506, z_lda 0 507), (507, z_ldi 11 509), (509, z_ic (2) 510), (510, z_callV (zES sc) 8 m_X8_object 2 0 0 (zR_L_build).cells (zR_L_build).slots 513), (513, z_lda 12 515), (515, z_ic (0) 516), (516, z_iald (zES sc) 517), (517, z_cmp (fun x y => decide (¬ x = y)) 562 520), (520, z_lda 0 521), (521, z_ldi 11 523), (523, z_ic (3) 524), (524, z_callV (zES sc) 8 m_X8_object 2 0 0 (zR_L_build).cells (zR_L_build).slots 527), (527, z_lda 12 529), (529, z_ic (1) 530), (530, z_iald (zES sc) 531), (531, z_cmp (fun x y => decide (¬ x = y)) 562 534), (534, z_lda 0 535), (535, z_ldi 11 537), (537, z_ic (4) 538), (538, z_callV (zES sc) 8 m_X8_object 2 0 0 (zR_L_build).cells (zR_L_build).slots 541), (541, z_lda 4 543), (543, z_ldi 10 545), (545, z_iald (zES sc) 546), (546, z_ic (20) 548), (548, z_cmp (fun x y => decide (x ≤ y)) 558 551), (551, z_lda 12 553), (553, z_ic (2) 554), (554, z_iald (zES sc) 555), (555, z_goto 559), (558, z_ic (-1) 559), (559, z_cmp (fun x y => decide (x = y)) 564 562), (562, z_ic (-1) 563), (563, z_reti false), (564, z_lda 6 566), (566, z_ldi 7 568), (568, z_lda 4 570), (570, z_ldi 10 572), (572, z_iald (zES sc) 573), (573, z_ic (10) 575), (575, z_cmp (fun x y => decide (y ≤ x)) 582 578), (578, z_ic (0) 579), (579, z_goto 597), (582, z_lda 4 584), (584, z_ldi 10 586), (586, z_iald (zES sc) 587), (587, z_ic (20) 589), (589, z_cmp (fun x y => decide (y ≤ x)) 596 592), (592, z_ic (1) 593), (593, z_goto 597), (596, z_ic (2) 597), (597, z_iast (zES sc) 598), (598, z_lda 0 599), (599, z_ldi 7 601), (601, z_ic (0) 602), (602, z_callV (zES sc) 8 m_X8_object 2 0 0 (zR_L_build).cells (zR_L_build).slots 605), (605, z_lda 6 607), (607, z_ldi 7 609), (609, z_iald (zES sc) 610), (610, z_cmp (fun x y => decide (x = y)) 615 613), (613, z_ic (-1) 614), (614, z_reti false), (615, z_iinc 7 (1) 618), (618, z_iinc 8 (1) 621), (621, z_goto 176), (624, z_ldi 7 626), (626, z_reti false)]
noncomputable def zk_L_build (sc : List Int32) (pc : Nat) : Option zOp := zlook (zl_L_build sc) pc
noncomputable def m_L_build (sc : List Int32) : List zAV → zAS → Option zOut := zmeth (zk_L_build sc) 15
set_option maxRecDepth 100000 in
set_option maxHeartbeats 4000000 in
theorem zcs_L_build (sc : List Int32) {R : Room} (hR : R = zR_L_build) : ∀ q ∈ zl_L_build sc, zS (zES sc) yL_build.cls cL_build 15 wsL_build (some .int) R q.1 q.2 := by
  subst hR
  refine List.forall_mem_cons.mpr ⟨zs_bipush dL_build_0 (by decide), ?_⟩
  refine List.forall_mem_cons.mpr ⟨zs_newa (zES_ok sc) (List.mem_of_getElem? (i := 1) rfl) dL_build_2, ?_⟩
  refine List.forall_mem_cons.mpr ⟨zs_dup dL_build_4, ?_⟩
  refine List.forall_mem_cons.mpr ⟨zs_iconst dL_build_5 (by decide), ?_⟩
  refine List.forall_mem_cons.mpr ⟨zs_iconst dL_build_6 (by decide), ?_⟩
  refine List.forall_mem_cons.mpr ⟨zs_iast dL_build_7, ?_⟩
  refine List.forall_mem_cons.mpr ⟨zs_dup dL_build_8, ?_⟩
  refine List.forall_mem_cons.mpr ⟨zs_iconst dL_build_9 (by decide), ?_⟩
  refine List.forall_mem_cons.mpr ⟨zs_iconst dL_build_10 (by decide), ?_⟩
  refine List.forall_mem_cons.mpr ⟨zs_iast dL_build_11, ?_⟩
  refine List.forall_mem_cons.mpr ⟨zs_dup dL_build_12, ?_⟩
  refine List.forall_mem_cons.mpr ⟨zs_iconst dL_build_13 (by decide), ?_⟩
  refine List.forall_mem_cons.mpr ⟨zs_iconst dL_build_14 (by decide), ?_⟩
  refine List.forall_mem_cons.mpr ⟨zs_iast dL_build_15, ?_⟩
  refine List.forall_mem_cons.mpr ⟨zs_dup dL_build_16, ?_⟩
  refine List.forall_mem_cons.mpr ⟨zs_iconst dL_build_17 (by decide), ?_⟩
  refine List.forall_mem_cons.mpr ⟨zs_iconst dL_build_18 (by decide), ?_⟩
  refine List.forall_mem_cons.mpr ⟨zs_iast dL_build_19, ?_⟩
  refine List.forall_mem_cons.mpr ⟨zs_dup dL_build_20, ?_⟩
  refine List.forall_mem_cons.mpr ⟨zs_iconst dL_build_21 (by decide), ?_⟩
  refine List.forall_mem_cons.mpr ⟨zs_bipush dL_build_22 (by decide), ?_⟩
  refine List.forall_mem_cons.mpr ⟨zs_iast dL_build_24, ?_⟩
  refine List.forall_mem_cons.mpr ⟨zs_dup dL_build_25, ?_⟩
  refine List.forall_mem_cons.mpr ⟨zs_iconst dL_build_26 (by decide), ?_⟩
  refine List.forall_mem_cons.mpr ⟨zs_bipush dL_build_27 (by decide), ?_⟩
  refine List.forall_mem_cons.mpr ⟨zs_iast dL_build_29, ?_⟩
  refine List.forall_mem_cons.mpr ⟨zs_dup dL_build_30, ?_⟩
  refine List.forall_mem_cons.mpr ⟨zs_bipush dL_build_31 (by decide), ?_⟩
  refine List.forall_mem_cons.mpr ⟨zs_bipush dL_build_33 (by decide), ?_⟩
  refine List.forall_mem_cons.mpr ⟨zs_iast dL_build_35, ?_⟩
  refine List.forall_mem_cons.mpr ⟨zs_dup dL_build_36, ?_⟩
  refine List.forall_mem_cons.mpr ⟨zs_bipush dL_build_37 (by decide), ?_⟩
  refine List.forall_mem_cons.mpr ⟨zs_bipush dL_build_39 (by decide), ?_⟩
  refine List.forall_mem_cons.mpr ⟨zs_iast dL_build_41, ?_⟩
  refine List.forall_mem_cons.mpr ⟨zs_dup dL_build_42, ?_⟩
  refine List.forall_mem_cons.mpr ⟨zs_bipush dL_build_43 (by decide), ?_⟩
  refine List.forall_mem_cons.mpr ⟨zs_bipush dL_build_45 (by decide), ?_⟩
  refine List.forall_mem_cons.mpr ⟨zs_iast dL_build_47, ?_⟩
  refine List.forall_mem_cons.mpr ⟨zs_dup dL_build_48, ?_⟩
  refine List.forall_mem_cons.mpr ⟨zs_bipush dL_build_49 (by decide), ?_⟩
  refine List.forall_mem_cons.mpr ⟨zs_bipush dL_build_51 (by decide), ?_⟩
  refine List.forall_mem_cons.mpr ⟨zs_iast dL_build_53, ?_⟩
  refine List.forall_mem_cons.mpr ⟨zs_dup dL_build_54, ?_⟩
  refine List.forall_mem_cons.mpr ⟨zs_bipush dL_build_55 (by decide), ?_⟩
  refine List.forall_mem_cons.mpr ⟨zs_bipush dL_build_57 (by decide), ?_⟩
  refine List.forall_mem_cons.mpr ⟨zs_iast dL_build_59, ?_⟩
  refine List.forall_mem_cons.mpr ⟨zs_dup dL_build_60, ?_⟩
  refine List.forall_mem_cons.mpr ⟨zs_bipush dL_build_61 (by decide), ?_⟩
  refine List.forall_mem_cons.mpr ⟨zs_bipush dL_build_63 (by decide), ?_⟩
  refine List.forall_mem_cons.mpr ⟨zs_iast dL_build_65, ?_⟩
  refine List.forall_mem_cons.mpr ⟨zs_dup dL_build_66, ?_⟩
  refine List.forall_mem_cons.mpr ⟨zs_bipush dL_build_67 (by decide), ?_⟩
  refine List.forall_mem_cons.mpr ⟨zs_bipush dL_build_69 (by decide), ?_⟩
  refine List.forall_mem_cons.mpr ⟨zs_iast dL_build_71, ?_⟩
  refine List.forall_mem_cons.mpr ⟨zs_dup dL_build_72, ?_⟩
  refine List.forall_mem_cons.mpr ⟨zs_bipush dL_build_73 (by decide), ?_⟩
  refine List.forall_mem_cons.mpr ⟨zs_bipush dL_build_75 (by decide), ?_⟩
  refine List.forall_mem_cons.mpr ⟨zs_iast dL_build_77, ?_⟩
  refine List.forall_mem_cons.mpr ⟨zs_astore dL_build_78, ?_⟩
  refine List.forall_mem_cons.mpr ⟨zs_bipush dL_build_80 (by decide), ?_⟩
  refine List.forall_mem_cons.mpr ⟨zs_anewa (index := 28) (zES_ok sc) rfl (List.mem_of_getElem? (i := 2) rfl) dL_build_82, ?_⟩
  refine List.forall_mem_cons.mpr ⟨zs_dup dL_build_85, ?_⟩
  refine List.forall_mem_cons.mpr ⟨zs_iconst dL_build_86 (by decide), ?_⟩
  refine List.forall_mem_cons.mpr ⟨zs_sldc (is := 30) (tx := "11") (by simp [zLtx]) dL_build_87, ?_⟩
  refine List.forall_mem_cons.mpr ⟨zs_aasts dL_build_89, ?_⟩
  refine List.forall_mem_cons.mpr ⟨zs_dup dL_build_90, ?_⟩
  refine List.forall_mem_cons.mpr ⟨zs_iconst dL_build_91 (by decide), ?_⟩
  refine List.forall_mem_cons.mpr ⟨zs_sldc (is := 32) (tx := "12") (by simp [zLtx]) dL_build_92, ?_⟩
  refine List.forall_mem_cons.mpr ⟨zs_aasts dL_build_94, ?_⟩
  refine List.forall_mem_cons.mpr ⟨zs_dup dL_build_95, ?_⟩
  refine List.forall_mem_cons.mpr ⟨zs_iconst dL_build_96 (by decide), ?_⟩
  refine List.forall_mem_cons.mpr ⟨zs_sldc (is := 32) (tx := "12") (by simp [zLtx]) dL_build_97, ?_⟩
  refine List.forall_mem_cons.mpr ⟨zs_aasts dL_build_99, ?_⟩
  refine List.forall_mem_cons.mpr ⟨zs_dup dL_build_100, ?_⟩
  refine List.forall_mem_cons.mpr ⟨zs_iconst dL_build_101 (by decide), ?_⟩
  refine List.forall_mem_cons.mpr ⟨zs_sldc (is := 34) (tx := "22") (by simp [zLtx]) dL_build_102, ?_⟩
  refine List.forall_mem_cons.mpr ⟨zs_aasts dL_build_104, ?_⟩
  refine List.forall_mem_cons.mpr ⟨zs_dup dL_build_105, ?_⟩
  refine List.forall_mem_cons.mpr ⟨zs_iconst dL_build_106 (by decide), ?_⟩
  refine List.forall_mem_cons.mpr ⟨zs_sldc (is := 34) (tx := "22") (by simp [zLtx]) dL_build_107, ?_⟩
  refine List.forall_mem_cons.mpr ⟨zs_aasts dL_build_109, ?_⟩
  refine List.forall_mem_cons.mpr ⟨zs_dup dL_build_110, ?_⟩
  refine List.forall_mem_cons.mpr ⟨zs_iconst dL_build_111 (by decide), ?_⟩
  refine List.forall_mem_cons.mpr ⟨zs_sldc (is := 36) (tx := "00") (by simp [zLtx]) dL_build_112, ?_⟩
  refine List.forall_mem_cons.mpr ⟨zs_aasts dL_build_114, ?_⟩
  refine List.forall_mem_cons.mpr ⟨zs_dup dL_build_115, ?_⟩
  refine List.forall_mem_cons.mpr ⟨zs_bipush dL_build_116 (by decide), ?_⟩
  refine List.forall_mem_cons.mpr ⟨zs_sldc (is := 38) (tx := "01") (by simp [zLtx]) dL_build_118, ?_⟩
  refine List.forall_mem_cons.mpr ⟨zs_aasts dL_build_120, ?_⟩
  refine List.forall_mem_cons.mpr ⟨zs_dup dL_build_121, ?_⟩
  refine List.forall_mem_cons.mpr ⟨zs_bipush dL_build_122 (by decide), ?_⟩
  refine List.forall_mem_cons.mpr ⟨zs_sldc (is := 36) (tx := "00") (by simp [zLtx]) dL_build_124, ?_⟩
  refine List.forall_mem_cons.mpr ⟨zs_aasts dL_build_126, ?_⟩
  refine List.forall_mem_cons.mpr ⟨zs_dup dL_build_127, ?_⟩
  refine List.forall_mem_cons.mpr ⟨zs_bipush dL_build_128 (by decide), ?_⟩
  refine List.forall_mem_cons.mpr ⟨zs_sldc (is := 38) (tx := "01") (by simp [zLtx]) dL_build_130, ?_⟩
  refine List.forall_mem_cons.mpr ⟨zs_aasts dL_build_132, ?_⟩
  refine List.forall_mem_cons.mpr ⟨zs_dup dL_build_133, ?_⟩
  refine List.forall_mem_cons.mpr ⟨zs_bipush dL_build_134 (by decide), ?_⟩
  refine List.forall_mem_cons.mpr ⟨zs_sldc (is := 38) (tx := "01") (by simp [zLtx]) dL_build_136, ?_⟩
  refine List.forall_mem_cons.mpr ⟨zs_aasts dL_build_138, ?_⟩
  refine List.forall_mem_cons.mpr ⟨zs_dup dL_build_139, ?_⟩
  refine List.forall_mem_cons.mpr ⟨zs_bipush dL_build_140 (by decide), ?_⟩
  refine List.forall_mem_cons.mpr ⟨zs_sldc (is := 36) (tx := "00") (by simp [zLtx]) dL_build_142, ?_⟩
  refine List.forall_mem_cons.mpr ⟨zs_aasts dL_build_144, ?_⟩
  refine List.forall_mem_cons.mpr ⟨zs_dup dL_build_145, ?_⟩
  refine List.forall_mem_cons.mpr ⟨zs_bipush dL_build_146 (by decide), ?_⟩
  refine List.forall_mem_cons.mpr ⟨zs_sldc (is := 36) (tx := "00") (by simp [zLtx]) dL_build_148, ?_⟩
  refine List.forall_mem_cons.mpr ⟨zs_aasts dL_build_150, ?_⟩
  refine List.forall_mem_cons.mpr ⟨zs_dup dL_build_151, ?_⟩
  refine List.forall_mem_cons.mpr ⟨zs_bipush dL_build_152 (by decide), ?_⟩
  refine List.forall_mem_cons.mpr ⟨zs_sldc (is := 40) (tx := "000") (by simp [zLtx]) dL_build_154, ?_⟩
  refine List.forall_mem_cons.mpr ⟨zs_aasts dL_build_156, ?_⟩
  refine List.forall_mem_cons.mpr ⟨zs_dup dL_build_157, ?_⟩
  refine List.forall_mem_cons.mpr ⟨zs_bipush dL_build_158 (by decide), ?_⟩
  refine List.forall_mem_cons.mpr ⟨zs_sldc (is := 40) (tx := "000") (by simp [zLtx]) dL_build_160, ?_⟩
  refine List.forall_mem_cons.mpr ⟨zs_aasts dL_build_162, ?_⟩
  refine List.forall_mem_cons.mpr ⟨zs_astore dL_build_163, ?_⟩
  refine List.forall_mem_cons.mpr ⟨zs_iload_n dL_build_165 rfl, ?_⟩
  refine List.forall_mem_cons.mpr ⟨zs_newa (zES_ok sc) (List.mem_of_getElem? (i := 1) rfl) dL_build_166, ?_⟩
  refine List.forall_mem_cons.mpr ⟨zs_astore dL_build_168, ?_⟩
  refine List.forall_mem_cons.mpr ⟨zs_iconst dL_build_170 (by decide), ?_⟩
  refine List.forall_mem_cons.mpr ⟨zs_istore dL_build_171, ?_⟩
  refine List.forall_mem_cons.mpr ⟨zs_iconst dL_build_173 (by decide), ?_⟩
  refine List.forall_mem_cons.mpr ⟨zs_istore dL_build_174, ?_⟩
  refine List.forall_mem_cons.mpr ⟨zs_iload dL_build_176, ?_⟩
  refine List.forall_mem_cons.mpr ⟨zs_iload_n dL_build_178 rfl, ?_⟩
  refine List.forall_mem_cons.mpr ⟨zs_icge dL_build_179 (by decide), ?_⟩
  refine List.forall_mem_cons.mpr ⟨zs_aload_n dL_build_182 rfl, ?_⟩
  refine List.forall_mem_cons.mpr ⟨zs_iload dL_build_183, ?_⟩
  refine List.forall_mem_cons.mpr ⟨zs_bipush dL_build_185 (by decide), ?_⟩
  refine List.forall_mem_cons.mpr ⟨zs_irem dL_build_187, ?_⟩
  refine List.forall_mem_cons.mpr ⟨zs_callS (rm := zR_L_cell) (n := 2) (zM_L_cell sc) gL_build_L_cell rfl (by decide +kernel) ⟨by decide, by decide⟩ dL_build_188, ?_⟩
  refine List.forall_mem_cons.mpr ⟨zs_iload dL_build_191, ?_⟩
  refine List.forall_mem_cons.mpr ⟨zs_bipush dL_build_193 (by decide), ?_⟩
  refine List.forall_mem_cons.mpr ⟨zs_idiv dL_build_195, ?_⟩
  refine List.forall_mem_cons.mpr ⟨zs_iconst dL_build_196 (by decide), ?_⟩
  refine List.forall_mem_cons.mpr ⟨zs_imul dL_build_197, ?_⟩
  refine List.forall_mem_cons.mpr ⟨zs_ishr dL_build_198, ?_⟩
  refine List.forall_mem_cons.mpr ⟨zs_istore dL_build_199, ?_⟩
  refine List.forall_mem_cons.mpr ⟨zs_iload dL_build_201, ?_⟩
  refine List.forall_mem_cons.mpr ⟨zs_bipush dL_build_203 (by decide), ?_⟩
  refine List.forall_mem_cons.mpr ⟨zs_callS (rm := zR_L_below) (n := 2) (zM_L_below sc) gL_build_L_below rfl (by decide +kernel) ⟨by decide, by decide⟩ dL_build_205, ?_⟩
  refine List.forall_mem_cons.mpr ⟨zs_istore dL_build_208, ?_⟩
  refine List.forall_mem_cons.mpr ⟨zs_iload dL_build_210, ?_⟩
  refine List.forall_mem_cons.mpr ⟨zs_iconst dL_build_212 (by decide), ?_⟩
  refine List.forall_mem_cons.mpr ⟨zs_iclt dL_build_213 (by decide), ?_⟩
  refine List.forall_mem_cons.mpr ⟨zs_iload dL_build_216, ?_⟩
  refine List.forall_mem_cons.mpr ⟨zs_bipush dL_build_218 (by decide), ?_⟩
  refine List.forall_mem_cons.mpr ⟨zs_icne dL_build_220 (by decide), ?_⟩
  refine List.forall_mem_cons.mpr ⟨zs_aload_n dL_build_223 rfl, ?_⟩
  refine List.forall_mem_cons.mpr ⟨zs_iconst dL_build_224 (by decide), ?_⟩
  refine List.forall_mem_cons.mpr ⟨zs_iload dL_build_225, ?_⟩
  refine List.forall_mem_cons.mpr ⟨zs_iconst dL_build_227 (by decide), ?_⟩
  refine List.forall_mem_cons.mpr ⟨zs_ishr dL_build_228, ?_⟩
  refine List.forall_mem_cons.mpr ⟨zs_iload_n dL_build_229 rfl, ?_⟩
  refine List.forall_mem_cons.mpr ⟨zs_callS (rm := zR_L_below) (n := 2) (zM_L_below sc) gL_build_L_below rfl (by decide +kernel) ⟨by decide, by decide⟩ dL_build_230, ?_⟩
  refine List.forall_mem_cons.mpr ⟨zs_iload dL_build_233, ?_⟩
  refine List.forall_mem_cons.mpr ⟨zs_bipush dL_build_235 (by decide), ?_⟩
  refine List.forall_mem_cons.mpr ⟨zs_ishr dL_build_237, ?_⟩
  refine List.forall_mem_cons.mpr ⟨zs_iload_n dL_build_238 rfl, ?_⟩
  refine List.forall_mem_cons.mpr ⟨zs_callS (rm := zR_L_below) (n := 2) (zM_L_below sc) gL_build_L_below rfl (by decide +kernel) ⟨by decide, by decide⟩ dL_build_239, ?_⟩
  refine List.forall_mem_cons.mpr ⟨zs_callV (ci := 8) (rm := zR_X8_point) (n := 3) rfl (zMeets_ex (zES_ex sc) zM_X8_point) gL_build_X8_point rfl (by decide +kernel) ⟨by decide, by decide⟩ dL_build_242, ?_⟩
  refine List.forall_mem_cons.mpr ⟨zs_istore dL_build_245, ?_⟩
  refine List.forall_mem_cons.mpr ⟨zs_iload dL_build_247, ?_⟩
  refine List.forall_mem_cons.mpr ⟨zs_iload dL_build_249, ?_⟩
  refine List.forall_mem_cons.mpr ⟨zs_icne dL_build_251 (by decide), ?_⟩
  refine List.forall_mem_cons.mpr ⟨zs_aload_n dL_build_254 rfl, ?_⟩
  refine List.forall_mem_cons.mpr ⟨zs_iload dL_build_255, ?_⟩
  refine List.forall_mem_cons.mpr ⟨zs_iconst dL_build_257 (by decide), ?_⟩
  refine List.forall_mem_cons.mpr ⟨zs_callV (ci := 8) (rm := zR_X8_object) (n := 2) rfl (zMeets_ex (zES_ex sc) zM_X8_object) gL_build_X8_object rfl (by decide +kernel) ⟨by decide, by decide⟩ dL_build_258, ?_⟩
  refine List.forall_mem_cons.mpr ⟨zs_ifeq dL_build_261 (by decide), ?_⟩
  refine List.forall_mem_cons.mpr ⟨zs_iconst dL_build_264 (by decide), ?_⟩
  refine List.forall_mem_cons.mpr ⟨zs_reti (ty := .int) rfl (fun x h => (zni x h).1) dL_build_265, ?_⟩
  refine List.forall_mem_cons.mpr ⟨zs_aload dL_build_266, ?_⟩
  refine List.forall_mem_cons.mpr ⟨zs_iload dL_build_268, ?_⟩
  refine List.forall_mem_cons.mpr ⟨zs_iconst dL_build_270 (by decide), ?_⟩
  refine List.forall_mem_cons.mpr ⟨zs_iast dL_build_271, ?_⟩
  refine List.forall_mem_cons.mpr ⟨zs_goto dL_build_272 (by decide), ?_⟩
  refine List.forall_mem_cons.mpr ⟨zs_iload dL_build_275, ?_⟩
  refine List.forall_mem_cons.mpr ⟨zs_bipush dL_build_277 (by decide), ?_⟩
  refine List.forall_mem_cons.mpr ⟨zs_icne dL_build_279 (by decide), ?_⟩
  refine List.forall_mem_cons.mpr ⟨zs_aload dL_build_282, ?_⟩
  refine List.forall_mem_cons.mpr ⟨zs_iload dL_build_284, ?_⟩
  refine List.forall_mem_cons.mpr ⟨zs_iconst dL_build_286 (by decide), ?_⟩
  refine List.forall_mem_cons.mpr ⟨zs_iload dL_build_287, ?_⟩
  refine List.forall_mem_cons.mpr ⟨zs_iconst dL_build_289 (by decide), ?_⟩
  refine List.forall_mem_cons.mpr ⟨zs_ishr dL_build_290, ?_⟩
  refine List.forall_mem_cons.mpr ⟨zs_callS (rm := zR_L_pick) (n := 4) (zM_L_pick sc) gL_build_L_pick rfl (by decide +kernel) ⟨by decide, by decide⟩ dL_build_291, ?_⟩
  refine List.forall_mem_cons.mpr ⟨zs_istore dL_build_294, ?_⟩
  refine List.forall_mem_cons.mpr ⟨zs_iload dL_build_296, ?_⟩
  refine List.forall_mem_cons.mpr ⟨zs_ifge dL_build_298 (by decide), ?_⟩
  refine List.forall_mem_cons.mpr ⟨zs_goto dL_build_301 (by decide), ?_⟩
  refine List.forall_mem_cons.mpr ⟨zs_aload_n dL_build_304 rfl, ?_⟩
  refine List.forall_mem_cons.mpr ⟨zs_iload dL_build_305, ?_⟩
  refine List.forall_mem_cons.mpr ⟨zs_iload dL_build_307, ?_⟩
  refine List.forall_mem_cons.mpr ⟨zs_iconst dL_build_309 (by decide), ?_⟩
  refine List.forall_mem_cons.mpr ⟨zs_ishr dL_build_310, ?_⟩
  refine List.forall_mem_cons.mpr ⟨zs_iload_n dL_build_311 rfl, ?_⟩
  refine List.forall_mem_cons.mpr ⟨zs_callS (rm := zR_L_below) (n := 2) (zM_L_below sc) gL_build_L_below rfl (by decide +kernel) ⟨by decide, by decide⟩ dL_build_312, ?_⟩
  refine List.forall_mem_cons.mpr ⟨zs_bipush dL_build_315 (by decide), ?_⟩
  refine List.forall_mem_cons.mpr ⟨zs_callV (ci := 8) (rm := zR_X8_point) (n := 3) rfl (zMeets_ex (zES_ex sc) zM_X8_point) gL_build_X8_point rfl (by decide +kernel) ⟨by decide, by decide⟩ dL_build_317, ?_⟩
  refine List.forall_mem_cons.mpr ⟨zs_istore dL_build_320, ?_⟩
  refine List.forall_mem_cons.mpr ⟨zs_iload dL_build_322, ?_⟩
  refine List.forall_mem_cons.mpr ⟨zs_iload dL_build_324, ?_⟩
  refine List.forall_mem_cons.mpr ⟨zs_icne dL_build_326 (by decide), ?_⟩
  refine List.forall_mem_cons.mpr ⟨zs_aload_n dL_build_329 rfl, ?_⟩
  refine List.forall_mem_cons.mpr ⟨zs_iload dL_build_330, ?_⟩
  refine List.forall_mem_cons.mpr ⟨zs_iconst dL_build_332 (by decide), ?_⟩
  refine List.forall_mem_cons.mpr ⟨zs_callV (ci := 8) (rm := zR_X8_object) (n := 2) rfl (zMeets_ex (zES_ex sc) zM_X8_object) gL_build_X8_object rfl (by decide +kernel) ⟨by decide, by decide⟩ dL_build_333, ?_⟩
  refine List.forall_mem_cons.mpr ⟨zs_iconst dL_build_336 (by decide), ?_⟩
  refine List.forall_mem_cons.mpr ⟨zs_icne dL_build_337 (by decide), ?_⟩
  refine List.forall_mem_cons.mpr ⟨zs_aload_n dL_build_340 rfl, ?_⟩
  refine List.forall_mem_cons.mpr ⟨zs_iload dL_build_341, ?_⟩
  refine List.forall_mem_cons.mpr ⟨zs_iconst dL_build_343 (by decide), ?_⟩
  refine List.forall_mem_cons.mpr ⟨zs_callV (ci := 8) (rm := zR_X8_object) (n := 2) rfl (zMeets_ex (zES_ex sc) zM_X8_object) gL_build_X8_object rfl (by decide +kernel) ⟨by decide, by decide⟩ dL_build_344, ?_⟩
  refine List.forall_mem_cons.mpr ⟨zs_iload dL_build_347, ?_⟩
  refine List.forall_mem_cons.mpr ⟨zs_iceq dL_build_349 (by decide), ?_⟩
  refine List.forall_mem_cons.mpr ⟨zs_iconst dL_build_352 (by decide), ?_⟩
  refine List.forall_mem_cons.mpr ⟨zs_reti (ty := .int) rfl (fun x h => (zni x h).1) dL_build_353, ?_⟩
  refine List.forall_mem_cons.mpr ⟨zs_aload dL_build_354, ?_⟩
  refine List.forall_mem_cons.mpr ⟨zs_iload dL_build_356, ?_⟩
  refine List.forall_mem_cons.mpr ⟨zs_iconst dL_build_358 (by decide), ?_⟩
  refine List.forall_mem_cons.mpr ⟨zs_iast dL_build_359, ?_⟩
  refine List.forall_mem_cons.mpr ⟨zs_goto dL_build_360 (by decide), ?_⟩
  refine List.forall_mem_cons.mpr ⟨zs_iconst dL_build_363 (by decide), ?_⟩
  refine List.forall_mem_cons.mpr ⟨zs_newa (zES_ok sc) (List.mem_of_getElem? (i := 1) rfl) dL_build_364, ?_⟩
  refine List.forall_mem_cons.mpr ⟨zs_astore dL_build_366, ?_⟩
  refine List.forall_mem_cons.mpr ⟨zs_iconst dL_build_368 (by decide), ?_⟩
  refine List.forall_mem_cons.mpr ⟨zs_istore dL_build_369, ?_⟩
  refine List.forall_mem_cons.mpr ⟨zs_iconst dL_build_371 (by decide), ?_⟩
  refine List.forall_mem_cons.mpr ⟨zs_istore dL_build_372, ?_⟩
  refine List.forall_mem_cons.mpr ⟨zs_iload dL_build_374, ?_⟩
  refine List.forall_mem_cons.mpr ⟨zs_aload dL_build_376, ?_⟩
  refine List.forall_mem_cons.mpr ⟨zs_iload dL_build_378, ?_⟩
  refine List.forall_mem_cons.mpr ⟨zs_aalds dL_build_380, ?_⟩
  refine List.forall_mem_cons.mpr ⟨zs_scall (rm := zR_J0_length_8abf5) (n := 0) rfl (zM_J0_length_8abf5 sc) gL_build_J0_length_8abf5 rfl (by decide +kernel) ⟨by decide, by decide⟩ dL_build_381, ?_⟩
  refine List.forall_mem_cons.mpr ⟨zs_icge dL_build_384 (by decide), ?_⟩
  refine List.forall_mem_cons.mpr ⟨zs_aload dL_build_387, ?_⟩
  refine List.forall_mem_cons.mpr ⟨zs_iload dL_build_389, ?_⟩
  refine List.forall_mem_cons.mpr ⟨zs_aload dL_build_391, ?_⟩
  refine List.forall_mem_cons.mpr ⟨zs_iload dL_build_393, ?_⟩
  refine List.forall_mem_cons.mpr ⟨zs_aload dL_build_395, ?_⟩
  refine List.forall_mem_cons.mpr ⟨zs_iload dL_build_397, ?_⟩
  refine List.forall_mem_cons.mpr ⟨zs_aalds dL_build_399, ?_⟩
  refine List.forall_mem_cons.mpr ⟨zs_iload dL_build_400, ?_⟩
  refine List.forall_mem_cons.mpr ⟨zs_scall (rm := zR_J0_charAt_5068e) (n := 1) rfl (zM_J0_charAt_5068e sc) gL_build_J0_charAt_5068e rfl (by decide +kernel) ⟨by decide, by decide⟩ dL_build_402, ?_⟩
  refine List.forall_mem_cons.mpr ⟨zs_bipush dL_build_405 (by decide), ?_⟩
  refine List.forall_mem_cons.mpr ⟨zs_isub dL_build_407, ?_⟩
  refine List.forall_mem_cons.mpr ⟨zs_iload dL_build_408, ?_⟩
  refine List.forall_mem_cons.mpr ⟨zs_iconst dL_build_410 (by decide), ?_⟩
  refine List.forall_mem_cons.mpr ⟨zs_iconst dL_build_411 (by decide), ?_⟩
  refine List.forall_mem_cons.mpr ⟨zs_iload dL_build_412, ?_⟩
  refine List.forall_mem_cons.mpr ⟨zs_imul dL_build_414, ?_⟩
  refine List.forall_mem_cons.mpr ⟨zs_iadd dL_build_415, ?_⟩
  refine List.forall_mem_cons.mpr ⟨zs_ishr dL_build_416, ?_⟩
  refine List.forall_mem_cons.mpr ⟨zs_bipush dL_build_417 (by decide), ?_⟩
  refine List.forall_mem_cons.mpr ⟨zs_iload dL_build_419, ?_⟩
  refine List.forall_mem_cons.mpr ⟨zs_imul dL_build_421, ?_⟩
  refine List.forall_mem_cons.mpr ⟨zs_iadd dL_build_422, ?_⟩
  refine List.forall_mem_cons.mpr ⟨zs_callS (rm := zR_L_pick) (n := 4) (zM_L_pick sc) gL_build_L_pick rfl (by decide +kernel) ⟨by decide, by decide⟩ dL_build_423, ?_⟩
  refine List.forall_mem_cons.mpr ⟨zs_iast dL_build_426, ?_⟩
  refine List.forall_mem_cons.mpr ⟨zs_iload dL_build_427, ?_⟩
  refine List.forall_mem_cons.mpr ⟨zs_ifeq dL_build_429 (by decide), ?_⟩
  refine List.forall_mem_cons.mpr ⟨zs_aload dL_build_432, ?_⟩
  refine List.forall_mem_cons.mpr ⟨zs_iload dL_build_434, ?_⟩
  refine List.forall_mem_cons.mpr ⟨zs_iald dL_build_436, ?_⟩
  refine List.forall_mem_cons.mpr ⟨zs_iflt dL_build_437 (by decide), ?_⟩
  refine List.forall_mem_cons.mpr ⟨zs_iconst dL_build_440 (by decide), ?_⟩
  refine List.forall_mem_cons.mpr ⟨zs_goto dL_build_441 (by decide), ?_⟩
  refine List.forall_mem_cons.mpr ⟨zs_iconst dL_build_444 (by decide), ?_⟩
  refine List.forall_mem_cons.mpr ⟨zs_istore dL_build_445, ?_⟩
  refine List.forall_mem_cons.mpr ⟨zs_iinc dL_build_447 (by decide), ?_⟩
  refine List.forall_mem_cons.mpr ⟨zs_goto dL_build_450 (by decide), ?_⟩
  refine List.forall_mem_cons.mpr ⟨zs_iload dL_build_453, ?_⟩
  refine List.forall_mem_cons.mpr ⟨zs_ifne dL_build_455 (by decide), ?_⟩
  refine List.forall_mem_cons.mpr ⟨zs_goto dL_build_458 (by decide), ?_⟩
  refine List.forall_mem_cons.mpr ⟨zs_aload_n dL_build_461 rfl, ?_⟩
  refine List.forall_mem_cons.mpr ⟨zs_aload dL_build_462, ?_⟩
  refine List.forall_mem_cons.mpr ⟨zs_iload dL_build_464, ?_⟩
  refine List.forall_mem_cons.mpr ⟨zs_iald dL_build_466, ?_⟩
  refine List.forall_mem_cons.mpr ⟨zs_aload dL_build_467, ?_⟩
  refine List.forall_mem_cons.mpr ⟨zs_iconst dL_build_469 (by decide), ?_⟩
  refine List.forall_mem_cons.mpr ⟨zs_iald dL_build_470, ?_⟩
  refine List.forall_mem_cons.mpr ⟨zs_aload dL_build_471, ?_⟩
  refine List.forall_mem_cons.mpr ⟨zs_iconst dL_build_473 (by decide), ?_⟩
  refine List.forall_mem_cons.mpr ⟨zs_iald dL_build_474, ?_⟩
  refine List.forall_mem_cons.mpr ⟨zs_aload dL_build_475, ?_⟩
  refine List.forall_mem_cons.mpr ⟨zs_iconst dL_build_477 (by decide), ?_⟩
  refine List.forall_mem_cons.mpr ⟨zs_iald dL_build_478, ?_⟩
  refine List.forall_mem_cons.mpr ⟨zs_callV (ci := 8) (rm := zR_X8_make) (n := 4) rfl (zMeets_ex (zES_ex sc) zM_X8_make) gL_build_X8_make rfl (by decide +kernel) ⟨by decide, by decide⟩ dL_build_479, ?_⟩
  refine List.forall_mem_cons.mpr ⟨zs_istore dL_build_482, ?_⟩
  refine List.forall_mem_cons.mpr ⟨zs_iload dL_build_484, ?_⟩
  refine List.forall_mem_cons.mpr ⟨zs_iload dL_build_486, ?_⟩
  refine List.forall_mem_cons.mpr ⟨zs_icne dL_build_488 (by decide), ?_⟩
  refine List.forall_mem_cons.mpr ⟨zs_aload_n dL_build_491 rfl, ?_⟩
  refine List.forall_mem_cons.mpr ⟨zs_iload dL_build_492, ?_⟩
  refine List.forall_mem_cons.mpr ⟨zs_iconst dL_build_494 (by decide), ?_⟩
  refine List.forall_mem_cons.mpr ⟨zs_callV (ci := 8) (rm := zR_X8_object) (n := 2) rfl (zMeets_ex (zES_ex sc) zM_X8_object) gL_build_X8_object rfl (by decide +kernel) ⟨by decide, by decide⟩ dL_build_495, ?_⟩
  refine List.forall_mem_cons.mpr ⟨zs_aload dL_build_498, ?_⟩
  refine List.forall_mem_cons.mpr ⟨zs_iload dL_build_500, ?_⟩
  refine List.forall_mem_cons.mpr ⟨zs_iald dL_build_502, ?_⟩
  refine List.forall_mem_cons.mpr ⟨zs_icne dL_build_503 (by decide), ?_⟩
  refine List.forall_mem_cons.mpr ⟨zs_aload_n dL_build_506 rfl, ?_⟩
  refine List.forall_mem_cons.mpr ⟨zs_iload dL_build_507, ?_⟩
  refine List.forall_mem_cons.mpr ⟨zs_iconst dL_build_509 (by decide), ?_⟩
  refine List.forall_mem_cons.mpr ⟨zs_callV (ci := 8) (rm := zR_X8_object) (n := 2) rfl (zMeets_ex (zES_ex sc) zM_X8_object) gL_build_X8_object rfl (by decide +kernel) ⟨by decide, by decide⟩ dL_build_510, ?_⟩
  refine List.forall_mem_cons.mpr ⟨zs_aload dL_build_513, ?_⟩
  refine List.forall_mem_cons.mpr ⟨zs_iconst dL_build_515 (by decide), ?_⟩
  refine List.forall_mem_cons.mpr ⟨zs_iald dL_build_516, ?_⟩
  refine List.forall_mem_cons.mpr ⟨zs_icne dL_build_517 (by decide), ?_⟩
  refine List.forall_mem_cons.mpr ⟨zs_aload_n dL_build_520 rfl, ?_⟩
  refine List.forall_mem_cons.mpr ⟨zs_iload dL_build_521, ?_⟩
  refine List.forall_mem_cons.mpr ⟨zs_iconst dL_build_523 (by decide), ?_⟩
  refine List.forall_mem_cons.mpr ⟨zs_callV (ci := 8) (rm := zR_X8_object) (n := 2) rfl (zMeets_ex (zES_ex sc) zM_X8_object) gL_build_X8_object rfl (by decide +kernel) ⟨by decide, by decide⟩ dL_build_524, ?_⟩
  refine List.forall_mem_cons.mpr ⟨zs_aload dL_build_527, ?_⟩
  refine List.forall_mem_cons.mpr ⟨zs_iconst dL_build_529 (by decide), ?_⟩
  refine List.forall_mem_cons.mpr ⟨zs_iald dL_build_530, ?_⟩
  refine List.forall_mem_cons.mpr ⟨zs_icne dL_build_531 (by decide), ?_⟩
  refine List.forall_mem_cons.mpr ⟨zs_aload_n dL_build_534 rfl, ?_⟩
  refine List.forall_mem_cons.mpr ⟨zs_iload dL_build_535, ?_⟩
  refine List.forall_mem_cons.mpr ⟨zs_iconst dL_build_537 (by decide), ?_⟩
  refine List.forall_mem_cons.mpr ⟨zs_callV (ci := 8) (rm := zR_X8_object) (n := 2) rfl (zMeets_ex (zES_ex sc) zM_X8_object) gL_build_X8_object rfl (by decide +kernel) ⟨by decide, by decide⟩ dL_build_538, ?_⟩
  refine List.forall_mem_cons.mpr ⟨zs_aload dL_build_541, ?_⟩
  refine List.forall_mem_cons.mpr ⟨zs_iload dL_build_543, ?_⟩
  refine List.forall_mem_cons.mpr ⟨zs_iald dL_build_545, ?_⟩
  refine List.forall_mem_cons.mpr ⟨zs_bipush dL_build_546 (by decide), ?_⟩
  refine List.forall_mem_cons.mpr ⟨zs_icle dL_build_548 (by decide), ?_⟩
  refine List.forall_mem_cons.mpr ⟨zs_aload dL_build_551, ?_⟩
  refine List.forall_mem_cons.mpr ⟨zs_iconst dL_build_553 (by decide), ?_⟩
  refine List.forall_mem_cons.mpr ⟨zs_iald dL_build_554, ?_⟩
  refine List.forall_mem_cons.mpr ⟨zs_goto dL_build_555 (by decide), ?_⟩
  refine List.forall_mem_cons.mpr ⟨zs_iconst dL_build_558 (by decide), ?_⟩
  refine List.forall_mem_cons.mpr ⟨zs_iceq dL_build_559 (by decide), ?_⟩
  refine List.forall_mem_cons.mpr ⟨zs_iconst dL_build_562 (by decide), ?_⟩
  refine List.forall_mem_cons.mpr ⟨zs_reti (ty := .int) rfl (fun x h => (zni x h).1) dL_build_563, ?_⟩
  refine List.forall_mem_cons.mpr ⟨zs_aload dL_build_564, ?_⟩
  refine List.forall_mem_cons.mpr ⟨zs_iload dL_build_566, ?_⟩
  refine List.forall_mem_cons.mpr ⟨zs_aload dL_build_568, ?_⟩
  refine List.forall_mem_cons.mpr ⟨zs_iload dL_build_570, ?_⟩
  refine List.forall_mem_cons.mpr ⟨zs_iald dL_build_572, ?_⟩
  refine List.forall_mem_cons.mpr ⟨zs_bipush dL_build_573 (by decide), ?_⟩
  refine List.forall_mem_cons.mpr ⟨zs_icge dL_build_575 (by decide), ?_⟩
  refine List.forall_mem_cons.mpr ⟨zs_iconst dL_build_578 (by decide), ?_⟩
  refine List.forall_mem_cons.mpr ⟨zs_goto dL_build_579 (by decide), ?_⟩
  refine List.forall_mem_cons.mpr ⟨zs_aload dL_build_582, ?_⟩
  refine List.forall_mem_cons.mpr ⟨zs_iload dL_build_584, ?_⟩
  refine List.forall_mem_cons.mpr ⟨zs_iald dL_build_586, ?_⟩
  refine List.forall_mem_cons.mpr ⟨zs_bipush dL_build_587 (by decide), ?_⟩
  refine List.forall_mem_cons.mpr ⟨zs_icge dL_build_589 (by decide), ?_⟩
  refine List.forall_mem_cons.mpr ⟨zs_iconst dL_build_592 (by decide), ?_⟩
  refine List.forall_mem_cons.mpr ⟨zs_goto dL_build_593 (by decide), ?_⟩
  refine List.forall_mem_cons.mpr ⟨zs_iconst dL_build_596 (by decide), ?_⟩
  refine List.forall_mem_cons.mpr ⟨zs_iast dL_build_597, ?_⟩
  refine List.forall_mem_cons.mpr ⟨zs_aload_n dL_build_598 rfl, ?_⟩
  refine List.forall_mem_cons.mpr ⟨zs_iload dL_build_599, ?_⟩
  refine List.forall_mem_cons.mpr ⟨zs_iconst dL_build_601 (by decide), ?_⟩
  refine List.forall_mem_cons.mpr ⟨zs_callV (ci := 8) (rm := zR_X8_object) (n := 2) rfl (zMeets_ex (zES_ex sc) zM_X8_object) gL_build_X8_object rfl (by decide +kernel) ⟨by decide, by decide⟩ dL_build_602, ?_⟩
  refine List.forall_mem_cons.mpr ⟨zs_aload dL_build_605, ?_⟩
  refine List.forall_mem_cons.mpr ⟨zs_iload dL_build_607, ?_⟩
  refine List.forall_mem_cons.mpr ⟨zs_iald dL_build_609, ?_⟩
  refine List.forall_mem_cons.mpr ⟨zs_iceq dL_build_610 (by decide), ?_⟩
  refine List.forall_mem_cons.mpr ⟨zs_iconst dL_build_613 (by decide), ?_⟩
  refine List.forall_mem_cons.mpr ⟨zs_reti (ty := .int) rfl (fun x h => (zni x h).1) dL_build_614, ?_⟩
  refine List.forall_mem_cons.mpr ⟨zs_iinc dL_build_615 (by decide), ?_⟩
  refine List.forall_mem_cons.mpr ⟨zs_iinc dL_build_618 (by decide), ?_⟩
  refine List.forall_mem_cons.mpr ⟨zs_goto dL_build_621 (by decide), ?_⟩
  refine List.forall_mem_cons.mpr ⟨zs_iload dL_build_624, ?_⟩
  refine List.forall_mem_cons.mpr ⟨zs_reti (ty := .int) rfl (fun x h => (zni x h).1) dL_build_626, ?_⟩
  exact fun _ h => absurd h List.not_mem_nil
theorem zM_L_build (sc : List Int32) : zMeets (zES sc) yL_build wsL_build zR_L_build (m_L_build sc) := zmeth_M (zES_ok sc) (zlook_all (zcs_L_build sc rfl)) (by decide +kernel) rfl
set_option maxRecDepth 8000 in
theorem zr_L_build_0 {sc : List Int32} (ls : zLs) (st : List zAV) (s : zAS) (k : Nat × Nat) : zev (zk_L_build sc) (0, ls, st, s, k) = zev (zk_L_build sc) (2, ls, Sum.inl (Value.int (14)) :: st, s, k) := zev_go rfl rfl
set_option maxRecDepth 8000 in
theorem zr_L_build_2 {sc : List Int32} (ls : zLs) (st : List zAV) (s : zAS) (k : Nat × Nat) (x : Int32) (h : ¬ x < 0 ∧ x.toNatClampNeg ≤ 100 ∧ k.1 + 1 ≤ (zR_L_build).cells ∧ k.2 + x.toNatClampNeg ≤ (zR_L_build).slots ∧ st.all (zfr s.2.length) = true ∧ ls.all (zfr' s.2.length) = true) : zev (zk_L_build sc) (2, ls, Sum.inl (Value.int x) :: st, s, k) = zev (zk_L_build sc) (4, ls, Sum.inr (99, s.2.length) :: st, (s.1, s.2 ++ [(x.toNatClampNeg, fun _ => 0)]), (k.1 + 1, k.2 + x.toNatClampNeg)) := zf_newa rfl h
set_option maxRecDepth 8000 in
theorem zr_L_build_4 {sc : List Int32} (ls : zLs) (st : List zAV) (s : zAS) (k : Nat × Nat) (v : zAV) (hv : zc1 v = true) : zev (zk_L_build sc) (4, ls, v :: st, s, k) = zev (zk_L_build sc) (5, ls, v :: v :: st, s, k) := zf_dup rfl hv
set_option maxRecDepth 8000 in
theorem zr_L_build_5 {sc : List Int32} (ls : zLs) (st : List zAV) (s : zAS) (k : Nat × Nat) : zev (zk_L_build sc) (5, ls, st, s, k) = zev (zk_L_build sc) (6, ls, Sum.inl (Value.int (0)) :: st, s, k) := zev_go rfl rfl
set_option maxRecDepth 8000 in
theorem zr_L_build_6 {sc : List Int32} (ls : zLs) (st : List zAV) (s : zAS) (k : Nat × Nat) : zev (zk_L_build sc) (6, ls, st, s, k) = zev (zk_L_build sc) (7, ls, Sum.inl (Value.int (2)) :: st, s, k) := zev_go rfl rfl
set_option maxRecDepth 8000 in
theorem zr_L_build_7 {sc : List Int32} (ls : zLs) (st : List zAV) (s : zAS) (k : Nat × Nat) (o i : Nat) (j x : Int32) : zev (zk_L_build sc) (7, ls, Sum.inl (Value.int x) :: Sum.inl (Value.int j) :: Sum.inr (o, i) :: st, s, k) = zgo (zk_L_build sc) 8 ls st k (zast (zES sc) o i j x s) := zf_iast rfl
set_option maxRecDepth 8000 in
theorem zr_L_build_8 {sc : List Int32} (ls : zLs) (st : List zAV) (s : zAS) (k : Nat × Nat) (v : zAV) (hv : zc1 v = true) : zev (zk_L_build sc) (8, ls, v :: st, s, k) = zev (zk_L_build sc) (9, ls, v :: v :: st, s, k) := zf_dup rfl hv
set_option maxRecDepth 8000 in
theorem zr_L_build_9 {sc : List Int32} (ls : zLs) (st : List zAV) (s : zAS) (k : Nat × Nat) : zev (zk_L_build sc) (9, ls, st, s, k) = zev (zk_L_build sc) (10, ls, Sum.inl (Value.int (1)) :: st, s, k) := zev_go rfl rfl
set_option maxRecDepth 8000 in
theorem zr_L_build_10 {sc : List Int32} (ls : zLs) (st : List zAV) (s : zAS) (k : Nat × Nat) : zev (zk_L_build sc) (10, ls, st, s, k) = zev (zk_L_build sc) (11, ls, Sum.inl (Value.int (3)) :: st, s, k) := zev_go rfl rfl
set_option maxRecDepth 8000 in
theorem zr_L_build_11 {sc : List Int32} (ls : zLs) (st : List zAV) (s : zAS) (k : Nat × Nat) (o i : Nat) (j x : Int32) : zev (zk_L_build sc) (11, ls, Sum.inl (Value.int x) :: Sum.inl (Value.int j) :: Sum.inr (o, i) :: st, s, k) = zgo (zk_L_build sc) 12 ls st k (zast (zES sc) o i j x s) := zf_iast rfl
set_option maxRecDepth 8000 in
theorem zr_L_build_12 {sc : List Int32} (ls : zLs) (st : List zAV) (s : zAS) (k : Nat × Nat) (v : zAV) (hv : zc1 v = true) : zev (zk_L_build sc) (12, ls, v :: st, s, k) = zev (zk_L_build sc) (13, ls, v :: v :: st, s, k) := zf_dup rfl hv
set_option maxRecDepth 8000 in
theorem zr_L_build_13 {sc : List Int32} (ls : zLs) (st : List zAV) (s : zAS) (k : Nat × Nat) : zev (zk_L_build sc) (13, ls, st, s, k) = zev (zk_L_build sc) (14, ls, Sum.inl (Value.int (2)) :: st, s, k) := zev_go rfl rfl
set_option maxRecDepth 8000 in
theorem zr_L_build_14 {sc : List Int32} (ls : zLs) (st : List zAV) (s : zAS) (k : Nat × Nat) : zev (zk_L_build sc) (14, ls, st, s, k) = zev (zk_L_build sc) (15, ls, Sum.inl (Value.int (4)) :: st, s, k) := zev_go rfl rfl
set_option maxRecDepth 8000 in
theorem zr_L_build_15 {sc : List Int32} (ls : zLs) (st : List zAV) (s : zAS) (k : Nat × Nat) (o i : Nat) (j x : Int32) : zev (zk_L_build sc) (15, ls, Sum.inl (Value.int x) :: Sum.inl (Value.int j) :: Sum.inr (o, i) :: st, s, k) = zgo (zk_L_build sc) 16 ls st k (zast (zES sc) o i j x s) := zf_iast rfl
set_option maxRecDepth 8000 in
theorem zr_L_build_16 {sc : List Int32} (ls : zLs) (st : List zAV) (s : zAS) (k : Nat × Nat) (v : zAV) (hv : zc1 v = true) : zev (zk_L_build sc) (16, ls, v :: st, s, k) = zev (zk_L_build sc) (17, ls, v :: v :: st, s, k) := zf_dup rfl hv
set_option maxRecDepth 8000 in
theorem zr_L_build_17 {sc : List Int32} (ls : zLs) (st : List zAV) (s : zAS) (k : Nat × Nat) : zev (zk_L_build sc) (17, ls, st, s, k) = zev (zk_L_build sc) (18, ls, Sum.inl (Value.int (3)) :: st, s, k) := zev_go rfl rfl
set_option maxRecDepth 8000 in
theorem zr_L_build_18 {sc : List Int32} (ls : zLs) (st : List zAV) (s : zAS) (k : Nat × Nat) : zev (zk_L_build sc) (18, ls, st, s, k) = zev (zk_L_build sc) (19, ls, Sum.inl (Value.int (5)) :: st, s, k) := zev_go rfl rfl
set_option maxRecDepth 8000 in
theorem zr_L_build_19 {sc : List Int32} (ls : zLs) (st : List zAV) (s : zAS) (k : Nat × Nat) (o i : Nat) (j x : Int32) : zev (zk_L_build sc) (19, ls, Sum.inl (Value.int x) :: Sum.inl (Value.int j) :: Sum.inr (o, i) :: st, s, k) = zgo (zk_L_build sc) 20 ls st k (zast (zES sc) o i j x s) := zf_iast rfl
set_option maxRecDepth 8000 in
theorem zr_L_build_20 {sc : List Int32} (ls : zLs) (st : List zAV) (s : zAS) (k : Nat × Nat) (v : zAV) (hv : zc1 v = true) : zev (zk_L_build sc) (20, ls, v :: st, s, k) = zev (zk_L_build sc) (21, ls, v :: v :: st, s, k) := zf_dup rfl hv
set_option maxRecDepth 8000 in
theorem zr_L_build_21 {sc : List Int32} (ls : zLs) (st : List zAV) (s : zAS) (k : Nat × Nat) : zev (zk_L_build sc) (21, ls, st, s, k) = zev (zk_L_build sc) (22, ls, Sum.inl (Value.int (4)) :: st, s, k) := zev_go rfl rfl
set_option maxRecDepth 8000 in
theorem zr_L_build_22 {sc : List Int32} (ls : zLs) (st : List zAV) (s : zAS) (k : Nat × Nat) : zev (zk_L_build sc) (22, ls, st, s, k) = zev (zk_L_build sc) (24, ls, Sum.inl (Value.int (6)) :: st, s, k) := zev_go rfl rfl
set_option maxRecDepth 8000 in
theorem zr_L_build_24 {sc : List Int32} (ls : zLs) (st : List zAV) (s : zAS) (k : Nat × Nat) (o i : Nat) (j x : Int32) : zev (zk_L_build sc) (24, ls, Sum.inl (Value.int x) :: Sum.inl (Value.int j) :: Sum.inr (o, i) :: st, s, k) = zgo (zk_L_build sc) 25 ls st k (zast (zES sc) o i j x s) := zf_iast rfl
set_option maxRecDepth 8000 in
theorem zr_L_build_25 {sc : List Int32} (ls : zLs) (st : List zAV) (s : zAS) (k : Nat × Nat) (v : zAV) (hv : zc1 v = true) : zev (zk_L_build sc) (25, ls, v :: st, s, k) = zev (zk_L_build sc) (26, ls, v :: v :: st, s, k) := zf_dup rfl hv
set_option maxRecDepth 8000 in
theorem zr_L_build_26 {sc : List Int32} (ls : zLs) (st : List zAV) (s : zAS) (k : Nat × Nat) : zev (zk_L_build sc) (26, ls, st, s, k) = zev (zk_L_build sc) (27, ls, Sum.inl (Value.int (5)) :: st, s, k) := zev_go rfl rfl
set_option maxRecDepth 8000 in
theorem zr_L_build_27 {sc : List Int32} (ls : zLs) (st : List zAV) (s : zAS) (k : Nat × Nat) : zev (zk_L_build sc) (27, ls, st, s, k) = zev (zk_L_build sc) (29, ls, Sum.inl (Value.int (7)) :: st, s, k) := zev_go rfl rfl
set_option maxRecDepth 8000 in
theorem zr_L_build_29 {sc : List Int32} (ls : zLs) (st : List zAV) (s : zAS) (k : Nat × Nat) (o i : Nat) (j x : Int32) : zev (zk_L_build sc) (29, ls, Sum.inl (Value.int x) :: Sum.inl (Value.int j) :: Sum.inr (o, i) :: st, s, k) = zgo (zk_L_build sc) 30 ls st k (zast (zES sc) o i j x s) := zf_iast rfl
set_option maxRecDepth 8000 in
theorem zr_L_build_30 {sc : List Int32} (ls : zLs) (st : List zAV) (s : zAS) (k : Nat × Nat) (v : zAV) (hv : zc1 v = true) : zev (zk_L_build sc) (30, ls, v :: st, s, k) = zev (zk_L_build sc) (31, ls, v :: v :: st, s, k) := zf_dup rfl hv
set_option maxRecDepth 8000 in
theorem zr_L_build_31 {sc : List Int32} (ls : zLs) (st : List zAV) (s : zAS) (k : Nat × Nat) : zev (zk_L_build sc) (31, ls, st, s, k) = zev (zk_L_build sc) (33, ls, Sum.inl (Value.int (6)) :: st, s, k) := zev_go rfl rfl
set_option maxRecDepth 8000 in
theorem zr_L_build_33 {sc : List Int32} (ls : zLs) (st : List zAV) (s : zAS) (k : Nat × Nat) : zev (zk_L_build sc) (33, ls, st, s, k) = zev (zk_L_build sc) (35, ls, Sum.inl (Value.int (8)) :: st, s, k) := zev_go rfl rfl
set_option maxRecDepth 8000 in
theorem zr_L_build_35 {sc : List Int32} (ls : zLs) (st : List zAV) (s : zAS) (k : Nat × Nat) (o i : Nat) (j x : Int32) : zev (zk_L_build sc) (35, ls, Sum.inl (Value.int x) :: Sum.inl (Value.int j) :: Sum.inr (o, i) :: st, s, k) = zgo (zk_L_build sc) 36 ls st k (zast (zES sc) o i j x s) := zf_iast rfl
set_option maxRecDepth 8000 in
theorem zr_L_build_36 {sc : List Int32} (ls : zLs) (st : List zAV) (s : zAS) (k : Nat × Nat) (v : zAV) (hv : zc1 v = true) : zev (zk_L_build sc) (36, ls, v :: st, s, k) = zev (zk_L_build sc) (37, ls, v :: v :: st, s, k) := zf_dup rfl hv
set_option maxRecDepth 8000 in
theorem zr_L_build_37 {sc : List Int32} (ls : zLs) (st : List zAV) (s : zAS) (k : Nat × Nat) : zev (zk_L_build sc) (37, ls, st, s, k) = zev (zk_L_build sc) (39, ls, Sum.inl (Value.int (7)) :: st, s, k) := zev_go rfl rfl
set_option maxRecDepth 8000 in
theorem zr_L_build_39 {sc : List Int32} (ls : zLs) (st : List zAV) (s : zAS) (k : Nat × Nat) : zev (zk_L_build sc) (39, ls, st, s, k) = zev (zk_L_build sc) (41, ls, Sum.inl (Value.int (10)) :: st, s, k) := zev_go rfl rfl
set_option maxRecDepth 8000 in
theorem zr_L_build_41 {sc : List Int32} (ls : zLs) (st : List zAV) (s : zAS) (k : Nat × Nat) (o i : Nat) (j x : Int32) : zev (zk_L_build sc) (41, ls, Sum.inl (Value.int x) :: Sum.inl (Value.int j) :: Sum.inr (o, i) :: st, s, k) = zgo (zk_L_build sc) 42 ls st k (zast (zES sc) o i j x s) := zf_iast rfl
set_option maxRecDepth 8000 in
theorem zr_L_build_42 {sc : List Int32} (ls : zLs) (st : List zAV) (s : zAS) (k : Nat × Nat) (v : zAV) (hv : zc1 v = true) : zev (zk_L_build sc) (42, ls, v :: st, s, k) = zev (zk_L_build sc) (43, ls, v :: v :: st, s, k) := zf_dup rfl hv
set_option maxRecDepth 8000 in
theorem zr_L_build_43 {sc : List Int32} (ls : zLs) (st : List zAV) (s : zAS) (k : Nat × Nat) : zev (zk_L_build sc) (43, ls, st, s, k) = zev (zk_L_build sc) (45, ls, Sum.inl (Value.int (8)) :: st, s, k) := zev_go rfl rfl
set_option maxRecDepth 8000 in
theorem zr_L_build_45 {sc : List Int32} (ls : zLs) (st : List zAV) (s : zAS) (k : Nat × Nat) : zev (zk_L_build sc) (45, ls, st, s, k) = zev (zk_L_build sc) (47, ls, Sum.inl (Value.int (11)) :: st, s, k) := zev_go rfl rfl
set_option maxRecDepth 8000 in
theorem zr_L_build_47 {sc : List Int32} (ls : zLs) (st : List zAV) (s : zAS) (k : Nat × Nat) (o i : Nat) (j x : Int32) : zev (zk_L_build sc) (47, ls, Sum.inl (Value.int x) :: Sum.inl (Value.int j) :: Sum.inr (o, i) :: st, s, k) = zgo (zk_L_build sc) 48 ls st k (zast (zES sc) o i j x s) := zf_iast rfl
set_option maxRecDepth 8000 in
theorem zr_L_build_48 {sc : List Int32} (ls : zLs) (st : List zAV) (s : zAS) (k : Nat × Nat) (v : zAV) (hv : zc1 v = true) : zev (zk_L_build sc) (48, ls, v :: st, s, k) = zev (zk_L_build sc) (49, ls, v :: v :: st, s, k) := zf_dup rfl hv
set_option maxRecDepth 8000 in
theorem zr_L_build_49 {sc : List Int32} (ls : zLs) (st : List zAV) (s : zAS) (k : Nat × Nat) : zev (zk_L_build sc) (49, ls, st, s, k) = zev (zk_L_build sc) (51, ls, Sum.inl (Value.int (9)) :: st, s, k) := zev_go rfl rfl
set_option maxRecDepth 8000 in
theorem zr_L_build_51 {sc : List Int32} (ls : zLs) (st : List zAV) (s : zAS) (k : Nat × Nat) : zev (zk_L_build sc) (51, ls, st, s, k) = zev (zk_L_build sc) (53, ls, Sum.inl (Value.int (12)) :: st, s, k) := zev_go rfl rfl
set_option maxRecDepth 8000 in
theorem zr_L_build_53 {sc : List Int32} (ls : zLs) (st : List zAV) (s : zAS) (k : Nat × Nat) (o i : Nat) (j x : Int32) : zev (zk_L_build sc) (53, ls, Sum.inl (Value.int x) :: Sum.inl (Value.int j) :: Sum.inr (o, i) :: st, s, k) = zgo (zk_L_build sc) 54 ls st k (zast (zES sc) o i j x s) := zf_iast rfl
set_option maxRecDepth 8000 in
theorem zr_L_build_54 {sc : List Int32} (ls : zLs) (st : List zAV) (s : zAS) (k : Nat × Nat) (v : zAV) (hv : zc1 v = true) : zev (zk_L_build sc) (54, ls, v :: st, s, k) = zev (zk_L_build sc) (55, ls, v :: v :: st, s, k) := zf_dup rfl hv
set_option maxRecDepth 8000 in
theorem zr_L_build_55 {sc : List Int32} (ls : zLs) (st : List zAV) (s : zAS) (k : Nat × Nat) : zev (zk_L_build sc) (55, ls, st, s, k) = zev (zk_L_build sc) (57, ls, Sum.inl (Value.int (10)) :: st, s, k) := zev_go rfl rfl
set_option maxRecDepth 8000 in
theorem zr_L_build_57 {sc : List Int32} (ls : zLs) (st : List zAV) (s : zAS) (k : Nat × Nat) : zev (zk_L_build sc) (57, ls, st, s, k) = zev (zk_L_build sc) (59, ls, Sum.inl (Value.int (13)) :: st, s, k) := zev_go rfl rfl
set_option maxRecDepth 8000 in
theorem zr_L_build_59 {sc : List Int32} (ls : zLs) (st : List zAV) (s : zAS) (k : Nat × Nat) (o i : Nat) (j x : Int32) : zev (zk_L_build sc) (59, ls, Sum.inl (Value.int x) :: Sum.inl (Value.int j) :: Sum.inr (o, i) :: st, s, k) = zgo (zk_L_build sc) 60 ls st k (zast (zES sc) o i j x s) := zf_iast rfl
set_option maxRecDepth 8000 in
theorem zr_L_build_60 {sc : List Int32} (ls : zLs) (st : List zAV) (s : zAS) (k : Nat × Nat) (v : zAV) (hv : zc1 v = true) : zev (zk_L_build sc) (60, ls, v :: st, s, k) = zev (zk_L_build sc) (61, ls, v :: v :: st, s, k) := zf_dup rfl hv
set_option maxRecDepth 8000 in
theorem zr_L_build_61 {sc : List Int32} (ls : zLs) (st : List zAV) (s : zAS) (k : Nat × Nat) : zev (zk_L_build sc) (61, ls, st, s, k) = zev (zk_L_build sc) (63, ls, Sum.inl (Value.int (11)) :: st, s, k) := zev_go rfl rfl
set_option maxRecDepth 8000 in
theorem zr_L_build_63 {sc : List Int32} (ls : zLs) (st : List zAV) (s : zAS) (k : Nat × Nat) : zev (zk_L_build sc) (63, ls, st, s, k) = zev (zk_L_build sc) (65, ls, Sum.inl (Value.int (20)) :: st, s, k) := zev_go rfl rfl
set_option maxRecDepth 8000 in
theorem zr_L_build_65 {sc : List Int32} (ls : zLs) (st : List zAV) (s : zAS) (k : Nat × Nat) (o i : Nat) (j x : Int32) : zev (zk_L_build sc) (65, ls, Sum.inl (Value.int x) :: Sum.inl (Value.int j) :: Sum.inr (o, i) :: st, s, k) = zgo (zk_L_build sc) 66 ls st k (zast (zES sc) o i j x s) := zf_iast rfl
set_option maxRecDepth 8000 in
theorem zr_L_build_66 {sc : List Int32} (ls : zLs) (st : List zAV) (s : zAS) (k : Nat × Nat) (v : zAV) (hv : zc1 v = true) : zev (zk_L_build sc) (66, ls, v :: st, s, k) = zev (zk_L_build sc) (67, ls, v :: v :: st, s, k) := zf_dup rfl hv
set_option maxRecDepth 8000 in
theorem zr_L_build_67 {sc : List Int32} (ls : zLs) (st : List zAV) (s : zAS) (k : Nat × Nat) : zev (zk_L_build sc) (67, ls, st, s, k) = zev (zk_L_build sc) (69, ls, Sum.inl (Value.int (12)) :: st, s, k) := zev_go rfl rfl
set_option maxRecDepth 8000 in
theorem zr_L_build_69 {sc : List Int32} (ls : zLs) (st : List zAV) (s : zAS) (k : Nat × Nat) : zev (zk_L_build sc) (69, ls, st, s, k) = zev (zk_L_build sc) (71, ls, Sum.inl (Value.int (21)) :: st, s, k) := zev_go rfl rfl
set_option maxRecDepth 8000 in
theorem zr_L_build_71 {sc : List Int32} (ls : zLs) (st : List zAV) (s : zAS) (k : Nat × Nat) (o i : Nat) (j x : Int32) : zev (zk_L_build sc) (71, ls, Sum.inl (Value.int x) :: Sum.inl (Value.int j) :: Sum.inr (o, i) :: st, s, k) = zgo (zk_L_build sc) 72 ls st k (zast (zES sc) o i j x s) := zf_iast rfl
set_option maxRecDepth 8000 in
theorem zr_L_build_72 {sc : List Int32} (ls : zLs) (st : List zAV) (s : zAS) (k : Nat × Nat) (v : zAV) (hv : zc1 v = true) : zev (zk_L_build sc) (72, ls, v :: st, s, k) = zev (zk_L_build sc) (73, ls, v :: v :: st, s, k) := zf_dup rfl hv
set_option maxRecDepth 8000 in
theorem zr_L_build_73 {sc : List Int32} (ls : zLs) (st : List zAV) (s : zAS) (k : Nat × Nat) : zev (zk_L_build sc) (73, ls, st, s, k) = zev (zk_L_build sc) (75, ls, Sum.inl (Value.int (13)) :: st, s, k) := zev_go rfl rfl
set_option maxRecDepth 8000 in
theorem zr_L_build_75 {sc : List Int32} (ls : zLs) (st : List zAV) (s : zAS) (k : Nat × Nat) : zev (zk_L_build sc) (75, ls, st, s, k) = zev (zk_L_build sc) (77, ls, Sum.inl (Value.int (22)) :: st, s, k) := zev_go rfl rfl
set_option maxRecDepth 8000 in
theorem zr_L_build_77 {sc : List Int32} (ls : zLs) (st : List zAV) (s : zAS) (k : Nat × Nat) (o i : Nat) (j x : Int32) : zev (zk_L_build sc) (77, ls, Sum.inl (Value.int x) :: Sum.inl (Value.int j) :: Sum.inr (o, i) :: st, s, k) = zgo (zk_L_build sc) 78 ls st k (zast (zES sc) o i j x s) := zf_iast rfl
set_option maxRecDepth 8000 in
theorem zr_L_build_78 {sc : List Int32} (a0 a1 a2 a3 a4 a5 a6 a7 a8 a9 a10 a11 a12 a13 a14 : Option zAV) (st : List zAV) (s : zAS) (k : Nat × Nat) (o : Nat × Nat) : zev (zk_L_build sc) (78, [a0, a1, a2, a3, a4, a5, a6, a7, a8, a9, a10, a11, a12, a13, a14], Sum.inr o :: st, s, k) = zev (zk_L_build sc) (80, [a0, a1, a2, zk1 a3, some (Sum.inr o), a5, a6, a7, a8, a9, a10, a11, a12, a13, a14], st, s, k) := zev_go rfl rfl
set_option maxRecDepth 8000 in
theorem zr_L_build_80 {sc : List Int32} (ls : zLs) (st : List zAV) (s : zAS) (k : Nat × Nat) : zev (zk_L_build sc) (80, ls, st, s, k) = zev (zk_L_build sc) (82, ls, Sum.inl (Value.int (14)) :: st, s, k) := zev_go rfl rfl
set_option maxRecDepth 8000 in
theorem zr_L_build_82 {sc : List Int32} (ls : zLs) (st : List zAV) (s : zAS) (k : Nat × Nat) (x : Int32) (h : ¬ x < 0 ∧ x.toNatClampNeg ≤ 100 ∧ k.1 + 1 ≤ (zR_L_build).cells ∧ k.2 + x.toNatClampNeg ≤ (zR_L_build).slots ∧ st.all (zfr s.2.length) = true ∧ ls.all (zfr' s.2.length) = true) : zev (zk_L_build sc) (82, ls, Sum.inl (Value.int x) :: st, s, k) = zev (zk_L_build sc) (85, ls, Sum.inr (99, s.2.length) :: st, (s.1, s.2 ++ [(1000 + x.toNatClampNeg, fun _ => -1)]), (k.1 + 1, k.2 + x.toNatClampNeg)) := zf_anewa rfl h
set_option maxRecDepth 8000 in
theorem zr_L_build_85 {sc : List Int32} (ls : zLs) (st : List zAV) (s : zAS) (k : Nat × Nat) (v : zAV) (hv : zc1 v = true) : zev (zk_L_build sc) (85, ls, v :: st, s, k) = zev (zk_L_build sc) (86, ls, v :: v :: st, s, k) := zf_dup rfl hv
set_option maxRecDepth 8000 in
theorem zr_L_build_86 {sc : List Int32} (ls : zLs) (st : List zAV) (s : zAS) (k : Nat × Nat) : zev (zk_L_build sc) (86, ls, st, s, k) = zev (zk_L_build sc) (87, ls, Sum.inl (Value.int (0)) :: st, s, k) := zev_go rfl rfl
set_option maxRecDepth 8000 in
theorem zr_L_build_87 {sc : List Int32} (ls : zLs) (st : List zAV) (s : zAS) (k : Nat × Nat) : zev (zk_L_build sc) (87, ls, st, s, k) = zev (zk_L_build sc) (89, ls, zO 96 0 :: st, s, k) := zf_sldc (E := (zES sc)) (i := 0) rfl rfl
set_option maxRecDepth 8000 in
theorem zr_L_build_89 {sc : List Int32} (ls : zLs) (st : List zAV) (s : zAS) (k : Nat × Nat) (i i0 : Nat) (j : Int32) : zev (zk_L_build sc) (89, ls, Sum.inr (96, i0) :: Sum.inl (Value.int j) :: Sum.inr (99, i) :: st, s, k) = zgo (zk_L_build sc) 90 ls st k (zasts (zES sc) i0 i j s) := zf_aasts rfl
set_option maxRecDepth 8000 in
theorem zr_L_build_90 {sc : List Int32} (ls : zLs) (st : List zAV) (s : zAS) (k : Nat × Nat) (v : zAV) (hv : zc1 v = true) : zev (zk_L_build sc) (90, ls, v :: st, s, k) = zev (zk_L_build sc) (91, ls, v :: v :: st, s, k) := zf_dup rfl hv
set_option maxRecDepth 8000 in
theorem zr_L_build_91 {sc : List Int32} (ls : zLs) (st : List zAV) (s : zAS) (k : Nat × Nat) : zev (zk_L_build sc) (91, ls, st, s, k) = zev (zk_L_build sc) (92, ls, Sum.inl (Value.int (1)) :: st, s, k) := zev_go rfl rfl
set_option maxRecDepth 8000 in
theorem zr_L_build_92 {sc : List Int32} (ls : zLs) (st : List zAV) (s : zAS) (k : Nat × Nat) : zev (zk_L_build sc) (92, ls, st, s, k) = zev (zk_L_build sc) (94, ls, zO 96 1 :: st, s, k) := zf_sldc (E := (zES sc)) (i := 1) rfl rfl
set_option maxRecDepth 8000 in
theorem zr_L_build_94 {sc : List Int32} (ls : zLs) (st : List zAV) (s : zAS) (k : Nat × Nat) (i i0 : Nat) (j : Int32) : zev (zk_L_build sc) (94, ls, Sum.inr (96, i0) :: Sum.inl (Value.int j) :: Sum.inr (99, i) :: st, s, k) = zgo (zk_L_build sc) 95 ls st k (zasts (zES sc) i0 i j s) := zf_aasts rfl
set_option maxRecDepth 8000 in
theorem zr_L_build_95 {sc : List Int32} (ls : zLs) (st : List zAV) (s : zAS) (k : Nat × Nat) (v : zAV) (hv : zc1 v = true) : zev (zk_L_build sc) (95, ls, v :: st, s, k) = zev (zk_L_build sc) (96, ls, v :: v :: st, s, k) := zf_dup rfl hv
set_option maxRecDepth 8000 in
theorem zr_L_build_96 {sc : List Int32} (ls : zLs) (st : List zAV) (s : zAS) (k : Nat × Nat) : zev (zk_L_build sc) (96, ls, st, s, k) = zev (zk_L_build sc) (97, ls, Sum.inl (Value.int (2)) :: st, s, k) := zev_go rfl rfl
set_option maxRecDepth 8000 in
theorem zr_L_build_97 {sc : List Int32} (ls : zLs) (st : List zAV) (s : zAS) (k : Nat × Nat) : zev (zk_L_build sc) (97, ls, st, s, k) = zev (zk_L_build sc) (99, ls, zO 96 1 :: st, s, k) := zf_sldc (E := (zES sc)) (i := 1) rfl rfl
set_option maxRecDepth 8000 in
theorem zr_L_build_99 {sc : List Int32} (ls : zLs) (st : List zAV) (s : zAS) (k : Nat × Nat) (i i0 : Nat) (j : Int32) : zev (zk_L_build sc) (99, ls, Sum.inr (96, i0) :: Sum.inl (Value.int j) :: Sum.inr (99, i) :: st, s, k) = zgo (zk_L_build sc) 100 ls st k (zasts (zES sc) i0 i j s) := zf_aasts rfl
set_option maxRecDepth 8000 in
theorem zr_L_build_100 {sc : List Int32} (ls : zLs) (st : List zAV) (s : zAS) (k : Nat × Nat) (v : zAV) (hv : zc1 v = true) : zev (zk_L_build sc) (100, ls, v :: st, s, k) = zev (zk_L_build sc) (101, ls, v :: v :: st, s, k) := zf_dup rfl hv
set_option maxRecDepth 8000 in
theorem zr_L_build_101 {sc : List Int32} (ls : zLs) (st : List zAV) (s : zAS) (k : Nat × Nat) : zev (zk_L_build sc) (101, ls, st, s, k) = zev (zk_L_build sc) (102, ls, Sum.inl (Value.int (3)) :: st, s, k) := zev_go rfl rfl
set_option maxRecDepth 8000 in
theorem zr_L_build_102 {sc : List Int32} (ls : zLs) (st : List zAV) (s : zAS) (k : Nat × Nat) : zev (zk_L_build sc) (102, ls, st, s, k) = zev (zk_L_build sc) (104, ls, zO 96 2 :: st, s, k) := zf_sldc (E := (zES sc)) (i := 2) rfl rfl
set_option maxRecDepth 8000 in
theorem zr_L_build_104 {sc : List Int32} (ls : zLs) (st : List zAV) (s : zAS) (k : Nat × Nat) (i i0 : Nat) (j : Int32) : zev (zk_L_build sc) (104, ls, Sum.inr (96, i0) :: Sum.inl (Value.int j) :: Sum.inr (99, i) :: st, s, k) = zgo (zk_L_build sc) 105 ls st k (zasts (zES sc) i0 i j s) := zf_aasts rfl
set_option maxRecDepth 8000 in
theorem zr_L_build_105 {sc : List Int32} (ls : zLs) (st : List zAV) (s : zAS) (k : Nat × Nat) (v : zAV) (hv : zc1 v = true) : zev (zk_L_build sc) (105, ls, v :: st, s, k) = zev (zk_L_build sc) (106, ls, v :: v :: st, s, k) := zf_dup rfl hv
set_option maxRecDepth 8000 in
theorem zr_L_build_106 {sc : List Int32} (ls : zLs) (st : List zAV) (s : zAS) (k : Nat × Nat) : zev (zk_L_build sc) (106, ls, st, s, k) = zev (zk_L_build sc) (107, ls, Sum.inl (Value.int (4)) :: st, s, k) := zev_go rfl rfl
set_option maxRecDepth 8000 in
theorem zr_L_build_107 {sc : List Int32} (ls : zLs) (st : List zAV) (s : zAS) (k : Nat × Nat) : zev (zk_L_build sc) (107, ls, st, s, k) = zev (zk_L_build sc) (109, ls, zO 96 2 :: st, s, k) := zf_sldc (E := (zES sc)) (i := 2) rfl rfl
set_option maxRecDepth 8000 in
theorem zr_L_build_109 {sc : List Int32} (ls : zLs) (st : List zAV) (s : zAS) (k : Nat × Nat) (i i0 : Nat) (j : Int32) : zev (zk_L_build sc) (109, ls, Sum.inr (96, i0) :: Sum.inl (Value.int j) :: Sum.inr (99, i) :: st, s, k) = zgo (zk_L_build sc) 110 ls st k (zasts (zES sc) i0 i j s) := zf_aasts rfl
set_option maxRecDepth 8000 in
theorem zr_L_build_110 {sc : List Int32} (ls : zLs) (st : List zAV) (s : zAS) (k : Nat × Nat) (v : zAV) (hv : zc1 v = true) : zev (zk_L_build sc) (110, ls, v :: st, s, k) = zev (zk_L_build sc) (111, ls, v :: v :: st, s, k) := zf_dup rfl hv
set_option maxRecDepth 8000 in
theorem zr_L_build_111 {sc : List Int32} (ls : zLs) (st : List zAV) (s : zAS) (k : Nat × Nat) : zev (zk_L_build sc) (111, ls, st, s, k) = zev (zk_L_build sc) (112, ls, Sum.inl (Value.int (5)) :: st, s, k) := zev_go rfl rfl
set_option maxRecDepth 8000 in
theorem zr_L_build_112 {sc : List Int32} (ls : zLs) (st : List zAV) (s : zAS) (k : Nat × Nat) : zev (zk_L_build sc) (112, ls, st, s, k) = zev (zk_L_build sc) (114, ls, zO 96 3 :: st, s, k) := zf_sldc (E := (zES sc)) (i := 3) rfl rfl
set_option maxRecDepth 8000 in
theorem zr_L_build_114 {sc : List Int32} (ls : zLs) (st : List zAV) (s : zAS) (k : Nat × Nat) (i i0 : Nat) (j : Int32) : zev (zk_L_build sc) (114, ls, Sum.inr (96, i0) :: Sum.inl (Value.int j) :: Sum.inr (99, i) :: st, s, k) = zgo (zk_L_build sc) 115 ls st k (zasts (zES sc) i0 i j s) := zf_aasts rfl
set_option maxRecDepth 8000 in
theorem zr_L_build_115 {sc : List Int32} (ls : zLs) (st : List zAV) (s : zAS) (k : Nat × Nat) (v : zAV) (hv : zc1 v = true) : zev (zk_L_build sc) (115, ls, v :: st, s, k) = zev (zk_L_build sc) (116, ls, v :: v :: st, s, k) := zf_dup rfl hv
set_option maxRecDepth 8000 in
theorem zr_L_build_116 {sc : List Int32} (ls : zLs) (st : List zAV) (s : zAS) (k : Nat × Nat) : zev (zk_L_build sc) (116, ls, st, s, k) = zev (zk_L_build sc) (118, ls, Sum.inl (Value.int (6)) :: st, s, k) := zev_go rfl rfl
set_option maxRecDepth 8000 in
theorem zr_L_build_118 {sc : List Int32} (ls : zLs) (st : List zAV) (s : zAS) (k : Nat × Nat) : zev (zk_L_build sc) (118, ls, st, s, k) = zev (zk_L_build sc) (120, ls, zO 96 4 :: st, s, k) := zf_sldc (E := (zES sc)) (i := 4) rfl rfl
set_option maxRecDepth 8000 in
theorem zr_L_build_120 {sc : List Int32} (ls : zLs) (st : List zAV) (s : zAS) (k : Nat × Nat) (i i0 : Nat) (j : Int32) : zev (zk_L_build sc) (120, ls, Sum.inr (96, i0) :: Sum.inl (Value.int j) :: Sum.inr (99, i) :: st, s, k) = zgo (zk_L_build sc) 121 ls st k (zasts (zES sc) i0 i j s) := zf_aasts rfl
set_option maxRecDepth 8000 in
theorem zr_L_build_121 {sc : List Int32} (ls : zLs) (st : List zAV) (s : zAS) (k : Nat × Nat) (v : zAV) (hv : zc1 v = true) : zev (zk_L_build sc) (121, ls, v :: st, s, k) = zev (zk_L_build sc) (122, ls, v :: v :: st, s, k) := zf_dup rfl hv
set_option maxRecDepth 8000 in
theorem zr_L_build_122 {sc : List Int32} (ls : zLs) (st : List zAV) (s : zAS) (k : Nat × Nat) : zev (zk_L_build sc) (122, ls, st, s, k) = zev (zk_L_build sc) (124, ls, Sum.inl (Value.int (7)) :: st, s, k) := zev_go rfl rfl
set_option maxRecDepth 8000 in
theorem zr_L_build_124 {sc : List Int32} (ls : zLs) (st : List zAV) (s : zAS) (k : Nat × Nat) : zev (zk_L_build sc) (124, ls, st, s, k) = zev (zk_L_build sc) (126, ls, zO 96 3 :: st, s, k) := zf_sldc (E := (zES sc)) (i := 3) rfl rfl
set_option maxRecDepth 8000 in
theorem zr_L_build_126 {sc : List Int32} (ls : zLs) (st : List zAV) (s : zAS) (k : Nat × Nat) (i i0 : Nat) (j : Int32) : zev (zk_L_build sc) (126, ls, Sum.inr (96, i0) :: Sum.inl (Value.int j) :: Sum.inr (99, i) :: st, s, k) = zgo (zk_L_build sc) 127 ls st k (zasts (zES sc) i0 i j s) := zf_aasts rfl
set_option maxRecDepth 8000 in
theorem zr_L_build_127 {sc : List Int32} (ls : zLs) (st : List zAV) (s : zAS) (k : Nat × Nat) (v : zAV) (hv : zc1 v = true) : zev (zk_L_build sc) (127, ls, v :: st, s, k) = zev (zk_L_build sc) (128, ls, v :: v :: st, s, k) := zf_dup rfl hv
set_option maxRecDepth 8000 in
theorem zr_L_build_128 {sc : List Int32} (ls : zLs) (st : List zAV) (s : zAS) (k : Nat × Nat) : zev (zk_L_build sc) (128, ls, st, s, k) = zev (zk_L_build sc) (130, ls, Sum.inl (Value.int (8)) :: st, s, k) := zev_go rfl rfl
set_option maxRecDepth 8000 in
theorem zr_L_build_130 {sc : List Int32} (ls : zLs) (st : List zAV) (s : zAS) (k : Nat × Nat) : zev (zk_L_build sc) (130, ls, st, s, k) = zev (zk_L_build sc) (132, ls, zO 96 4 :: st, s, k) := zf_sldc (E := (zES sc)) (i := 4) rfl rfl
set_option maxRecDepth 8000 in
theorem zr_L_build_132 {sc : List Int32} (ls : zLs) (st : List zAV) (s : zAS) (k : Nat × Nat) (i i0 : Nat) (j : Int32) : zev (zk_L_build sc) (132, ls, Sum.inr (96, i0) :: Sum.inl (Value.int j) :: Sum.inr (99, i) :: st, s, k) = zgo (zk_L_build sc) 133 ls st k (zasts (zES sc) i0 i j s) := zf_aasts rfl
set_option maxRecDepth 8000 in
theorem zr_L_build_133 {sc : List Int32} (ls : zLs) (st : List zAV) (s : zAS) (k : Nat × Nat) (v : zAV) (hv : zc1 v = true) : zev (zk_L_build sc) (133, ls, v :: st, s, k) = zev (zk_L_build sc) (134, ls, v :: v :: st, s, k) := zf_dup rfl hv
set_option maxRecDepth 8000 in
theorem zr_L_build_134 {sc : List Int32} (ls : zLs) (st : List zAV) (s : zAS) (k : Nat × Nat) : zev (zk_L_build sc) (134, ls, st, s, k) = zev (zk_L_build sc) (136, ls, Sum.inl (Value.int (9)) :: st, s, k) := zev_go rfl rfl
set_option maxRecDepth 8000 in
theorem zr_L_build_136 {sc : List Int32} (ls : zLs) (st : List zAV) (s : zAS) (k : Nat × Nat) : zev (zk_L_build sc) (136, ls, st, s, k) = zev (zk_L_build sc) (138, ls, zO 96 4 :: st, s, k) := zf_sldc (E := (zES sc)) (i := 4) rfl rfl
set_option maxRecDepth 8000 in
theorem zr_L_build_138 {sc : List Int32} (ls : zLs) (st : List zAV) (s : zAS) (k : Nat × Nat) (i i0 : Nat) (j : Int32) : zev (zk_L_build sc) (138, ls, Sum.inr (96, i0) :: Sum.inl (Value.int j) :: Sum.inr (99, i) :: st, s, k) = zgo (zk_L_build sc) 139 ls st k (zasts (zES sc) i0 i j s) := zf_aasts rfl
set_option maxRecDepth 8000 in
theorem zr_L_build_139 {sc : List Int32} (ls : zLs) (st : List zAV) (s : zAS) (k : Nat × Nat) (v : zAV) (hv : zc1 v = true) : zev (zk_L_build sc) (139, ls, v :: st, s, k) = zev (zk_L_build sc) (140, ls, v :: v :: st, s, k) := zf_dup rfl hv
set_option maxRecDepth 8000 in
theorem zr_L_build_140 {sc : List Int32} (ls : zLs) (st : List zAV) (s : zAS) (k : Nat × Nat) : zev (zk_L_build sc) (140, ls, st, s, k) = zev (zk_L_build sc) (142, ls, Sum.inl (Value.int (10)) :: st, s, k) := zev_go rfl rfl
set_option maxRecDepth 8000 in
theorem zr_L_build_142 {sc : List Int32} (ls : zLs) (st : List zAV) (s : zAS) (k : Nat × Nat) : zev (zk_L_build sc) (142, ls, st, s, k) = zev (zk_L_build sc) (144, ls, zO 96 3 :: st, s, k) := zf_sldc (E := (zES sc)) (i := 3) rfl rfl
set_option maxRecDepth 8000 in
theorem zr_L_build_144 {sc : List Int32} (ls : zLs) (st : List zAV) (s : zAS) (k : Nat × Nat) (i i0 : Nat) (j : Int32) : zev (zk_L_build sc) (144, ls, Sum.inr (96, i0) :: Sum.inl (Value.int j) :: Sum.inr (99, i) :: st, s, k) = zgo (zk_L_build sc) 145 ls st k (zasts (zES sc) i0 i j s) := zf_aasts rfl
set_option maxRecDepth 8000 in
theorem zr_L_build_145 {sc : List Int32} (ls : zLs) (st : List zAV) (s : zAS) (k : Nat × Nat) (v : zAV) (hv : zc1 v = true) : zev (zk_L_build sc) (145, ls, v :: st, s, k) = zev (zk_L_build sc) (146, ls, v :: v :: st, s, k) := zf_dup rfl hv
set_option maxRecDepth 8000 in
theorem zr_L_build_146 {sc : List Int32} (ls : zLs) (st : List zAV) (s : zAS) (k : Nat × Nat) : zev (zk_L_build sc) (146, ls, st, s, k) = zev (zk_L_build sc) (148, ls, Sum.inl (Value.int (11)) :: st, s, k) := zev_go rfl rfl
set_option maxRecDepth 8000 in
theorem zr_L_build_148 {sc : List Int32} (ls : zLs) (st : List zAV) (s : zAS) (k : Nat × Nat) : zev (zk_L_build sc) (148, ls, st, s, k) = zev (zk_L_build sc) (150, ls, zO 96 3 :: st, s, k) := zf_sldc (E := (zES sc)) (i := 3) rfl rfl
set_option maxRecDepth 8000 in
theorem zr_L_build_150 {sc : List Int32} (ls : zLs) (st : List zAV) (s : zAS) (k : Nat × Nat) (i i0 : Nat) (j : Int32) : zev (zk_L_build sc) (150, ls, Sum.inr (96, i0) :: Sum.inl (Value.int j) :: Sum.inr (99, i) :: st, s, k) = zgo (zk_L_build sc) 151 ls st k (zasts (zES sc) i0 i j s) := zf_aasts rfl
set_option maxRecDepth 8000 in
theorem zr_L_build_151 {sc : List Int32} (ls : zLs) (st : List zAV) (s : zAS) (k : Nat × Nat) (v : zAV) (hv : zc1 v = true) : zev (zk_L_build sc) (151, ls, v :: st, s, k) = zev (zk_L_build sc) (152, ls, v :: v :: st, s, k) := zf_dup rfl hv
set_option maxRecDepth 8000 in
theorem zr_L_build_152 {sc : List Int32} (ls : zLs) (st : List zAV) (s : zAS) (k : Nat × Nat) : zev (zk_L_build sc) (152, ls, st, s, k) = zev (zk_L_build sc) (154, ls, Sum.inl (Value.int (12)) :: st, s, k) := zev_go rfl rfl
set_option maxRecDepth 8000 in
theorem zr_L_build_154 {sc : List Int32} (ls : zLs) (st : List zAV) (s : zAS) (k : Nat × Nat) : zev (zk_L_build sc) (154, ls, st, s, k) = zev (zk_L_build sc) (156, ls, zO 96 5 :: st, s, k) := zf_sldc (E := (zES sc)) (i := 5) rfl rfl
set_option maxRecDepth 8000 in
theorem zr_L_build_156 {sc : List Int32} (ls : zLs) (st : List zAV) (s : zAS) (k : Nat × Nat) (i i0 : Nat) (j : Int32) : zev (zk_L_build sc) (156, ls, Sum.inr (96, i0) :: Sum.inl (Value.int j) :: Sum.inr (99, i) :: st, s, k) = zgo (zk_L_build sc) 157 ls st k (zasts (zES sc) i0 i j s) := zf_aasts rfl
set_option maxRecDepth 8000 in
theorem zr_L_build_157 {sc : List Int32} (ls : zLs) (st : List zAV) (s : zAS) (k : Nat × Nat) (v : zAV) (hv : zc1 v = true) : zev (zk_L_build sc) (157, ls, v :: st, s, k) = zev (zk_L_build sc) (158, ls, v :: v :: st, s, k) := zf_dup rfl hv
set_option maxRecDepth 8000 in
theorem zr_L_build_158 {sc : List Int32} (ls : zLs) (st : List zAV) (s : zAS) (k : Nat × Nat) : zev (zk_L_build sc) (158, ls, st, s, k) = zev (zk_L_build sc) (160, ls, Sum.inl (Value.int (13)) :: st, s, k) := zev_go rfl rfl
set_option maxRecDepth 8000 in
theorem zr_L_build_160 {sc : List Int32} (ls : zLs) (st : List zAV) (s : zAS) (k : Nat × Nat) : zev (zk_L_build sc) (160, ls, st, s, k) = zev (zk_L_build sc) (162, ls, zO 96 5 :: st, s, k) := zf_sldc (E := (zES sc)) (i := 5) rfl rfl
set_option maxRecDepth 8000 in
theorem zr_L_build_162 {sc : List Int32} (ls : zLs) (st : List zAV) (s : zAS) (k : Nat × Nat) (i i0 : Nat) (j : Int32) : zev (zk_L_build sc) (162, ls, Sum.inr (96, i0) :: Sum.inl (Value.int j) :: Sum.inr (99, i) :: st, s, k) = zgo (zk_L_build sc) 163 ls st k (zasts (zES sc) i0 i j s) := zf_aasts rfl
set_option maxRecDepth 8000 in
theorem zr_L_build_163 {sc : List Int32} (a0 a1 a2 a3 a4 a5 a6 a7 a8 a9 a10 a11 a12 a13 a14 : Option zAV) (st : List zAV) (s : zAS) (k : Nat × Nat) (o : Nat × Nat) : zev (zk_L_build sc) (163, [a0, a1, a2, a3, a4, a5, a6, a7, a8, a9, a10, a11, a12, a13, a14], Sum.inr o :: st, s, k) = zev (zk_L_build sc) (165, [a0, a1, a2, a3, zk1 a4, some (Sum.inr o), a6, a7, a8, a9, a10, a11, a12, a13, a14], st, s, k) := zev_go rfl rfl
set_option maxRecDepth 8000 in
theorem zr_L_build_165 {sc : List Int32} (a0 a1 a2 a4 a5 a6 a7 a8 a9 a10 a11 a12 a13 a14 : Option zAV) (st : List zAV) (s : zAS) (k : Nat × Nat) (x : Int32) : zev (zk_L_build sc) (165, [a0, a1, a2, some (Sum.inl (Value.int x)), a4, a5, a6, a7, a8, a9, a10, a11, a12, a13, a14], st, s, k) = zev (zk_L_build sc) (166, [a0, a1, a2, some (Sum.inl (Value.int x)), a4, a5, a6, a7, a8, a9, a10, a11, a12, a13, a14], Sum.inl (Value.int x) :: st, s, k) := zev_go rfl rfl
set_option maxRecDepth 8000 in
theorem zr_L_build_166 {sc : List Int32} (ls : zLs) (st : List zAV) (s : zAS) (k : Nat × Nat) (x : Int32) (h : ¬ x < 0 ∧ x.toNatClampNeg ≤ 100 ∧ k.1 + 1 ≤ (zR_L_build).cells ∧ k.2 + x.toNatClampNeg ≤ (zR_L_build).slots ∧ st.all (zfr s.2.length) = true ∧ ls.all (zfr' s.2.length) = true) : zev (zk_L_build sc) (166, ls, Sum.inl (Value.int x) :: st, s, k) = zev (zk_L_build sc) (168, ls, Sum.inr (99, s.2.length) :: st, (s.1, s.2 ++ [(x.toNatClampNeg, fun _ => 0)]), (k.1 + 1, k.2 + x.toNatClampNeg)) := zf_newa rfl h
set_option maxRecDepth 8000 in
theorem zr_L_build_168 {sc : List Int32} (a0 a1 a2 a3 a4 a5 a6 a7 a8 a9 a10 a11 a12 a13 a14 : Option zAV) (st : List zAV) (s : zAS) (k : Nat × Nat) (o : Nat × Nat) : zev (zk_L_build sc) (168, [a0, a1, a2, a3, a4, a5, a6, a7, a8, a9, a10, a11, a12, a13, a14], Sum.inr o :: st, s, k) = zev (zk_L_build sc) (170, [a0, a1, a2, a3, a4, zk1 a5, some (Sum.inr o), a7, a8, a9, a10, a11, a12, a13, a14], st, s, k) := zev_go rfl rfl
set_option maxRecDepth 8000 in
theorem zr_L_build_170 {sc : List Int32} (ls : zLs) (st : List zAV) (s : zAS) (k : Nat × Nat) : zev (zk_L_build sc) (170, ls, st, s, k) = zev (zk_L_build sc) (171, ls, Sum.inl (Value.int (0)) :: st, s, k) := zev_go rfl rfl
set_option maxRecDepth 8000 in
theorem zr_L_build_171 {sc : List Int32} (a0 a1 a2 a3 a4 a5 a6 a7 a8 a9 a10 a11 a12 a13 a14 : Option zAV) (st : List zAV) (s : zAS) (k : Nat × Nat) (x : Int32) : zev (zk_L_build sc) (171, [a0, a1, a2, a3, a4, a5, a6, a7, a8, a9, a10, a11, a12, a13, a14], Sum.inl (Value.int x) :: st, s, k) = zev (zk_L_build sc) (173, [a0, a1, a2, a3, a4, a5, zk1 a6, some (Sum.inl (Value.int x)), a8, a9, a10, a11, a12, a13, a14], st, s, k) := zev_go rfl rfl
set_option maxRecDepth 8000 in
theorem zr_L_build_173 {sc : List Int32} (ls : zLs) (st : List zAV) (s : zAS) (k : Nat × Nat) : zev (zk_L_build sc) (173, ls, st, s, k) = zev (zk_L_build sc) (174, ls, Sum.inl (Value.int (0)) :: st, s, k) := zev_go rfl rfl
set_option maxRecDepth 8000 in
theorem zr_L_build_174 {sc : List Int32} (a0 a1 a2 a3 a4 a5 a6 a7 a8 a9 a10 a11 a12 a13 a14 : Option zAV) (st : List zAV) (s : zAS) (k : Nat × Nat) (x : Int32) : zev (zk_L_build sc) (174, [a0, a1, a2, a3, a4, a5, a6, a7, a8, a9, a10, a11, a12, a13, a14], Sum.inl (Value.int x) :: st, s, k) = zev (zk_L_build sc) (176, [a0, a1, a2, a3, a4, a5, a6, zk1 a7, some (Sum.inl (Value.int x)), a9, a10, a11, a12, a13, a14], st, s, k) := zev_go rfl rfl
set_option maxRecDepth 8000 in
theorem zr_L_build_176 {sc : List Int32} (a0 a1 a2 a3 a4 a5 a6 a7 a9 a10 a11 a12 a13 a14 : Option zAV) (st : List zAV) (s : zAS) (k : Nat × Nat) (x : Int32) : zev (zk_L_build sc) (176, [a0, a1, a2, a3, a4, a5, a6, a7, some (Sum.inl (Value.int x)), a9, a10, a11, a12, a13, a14], st, s, k) = zev (zk_L_build sc) (178, [a0, a1, a2, a3, a4, a5, a6, a7, some (Sum.inl (Value.int x)), a9, a10, a11, a12, a13, a14], Sum.inl (Value.int x) :: st, s, k) := zev_go rfl rfl
set_option maxRecDepth 8000 in
theorem zr_L_build_178 {sc : List Int32} (a0 a1 a2 a4 a5 a6 a7 a8 a9 a10 a11 a12 a13 a14 : Option zAV) (st : List zAV) (s : zAS) (k : Nat × Nat) (x : Int32) : zev (zk_L_build sc) (178, [a0, a1, a2, some (Sum.inl (Value.int x)), a4, a5, a6, a7, a8, a9, a10, a11, a12, a13, a14], st, s, k) = zev (zk_L_build sc) (179, [a0, a1, a2, some (Sum.inl (Value.int x)), a4, a5, a6, a7, a8, a9, a10, a11, a12, a13, a14], Sum.inl (Value.int x) :: st, s, k) := zev_go rfl rfl
set_option maxRecDepth 8000 in
theorem zr_L_build_179 {sc : List Int32} (ls : zLs) (st : List zAV) (s : zAS) (k : Nat × Nat) (x y : Int32) : zev (zk_L_build sc) (179, ls, Sum.inl (Value.int y) :: Sum.inl (Value.int x) :: st, s, k) = if decide (y ≤ x) = true then zev (zk_L_build sc) (624, ls, st, s, k) else zev (zk_L_build sc) (182, ls, st, s, k) := zf_cmp (f := fun x y => decide (y ≤ x)) rfl
set_option maxRecDepth 8000 in
theorem zr_L_build_182 {sc : List Int32} (a0 a2 a3 a4 a5 a6 a7 a8 a9 a10 a11 a12 a13 a14 : Option zAV) (st : List zAV) (s : zAS) (k : Nat × Nat) (o : Nat × Nat) : zev (zk_L_build sc) (182, [a0, some (Sum.inr o), a2, a3, a4, a5, a6, a7, a8, a9, a10, a11, a12, a13, a14], st, s, k) = zev (zk_L_build sc) (183, [a0, some (Sum.inr o), a2, a3, a4, a5, a6, a7, a8, a9, a10, a11, a12, a13, a14], Sum.inr o :: st, s, k) := zev_go rfl rfl
set_option maxRecDepth 8000 in
theorem zr_L_build_183 {sc : List Int32} (a0 a1 a2 a3 a4 a5 a6 a7 a9 a10 a11 a12 a13 a14 : Option zAV) (st : List zAV) (s : zAS) (k : Nat × Nat) (x : Int32) : zev (zk_L_build sc) (183, [a0, a1, a2, a3, a4, a5, a6, a7, some (Sum.inl (Value.int x)), a9, a10, a11, a12, a13, a14], st, s, k) = zev (zk_L_build sc) (185, [a0, a1, a2, a3, a4, a5, a6, a7, some (Sum.inl (Value.int x)), a9, a10, a11, a12, a13, a14], Sum.inl (Value.int x) :: st, s, k) := zev_go rfl rfl
set_option maxRecDepth 8000 in
theorem zr_L_build_185 {sc : List Int32} (ls : zLs) (st : List zAV) (s : zAS) (k : Nat × Nat) : zev (zk_L_build sc) (185, ls, st, s, k) = zev (zk_L_build sc) (187, ls, Sum.inl (Value.int (16)) :: st, s, k) := zev_go rfl rfl
set_option maxRecDepth 8000 in
theorem zr_L_build_187 {sc : List Int32} (ls : zLs) (st : List zAV) (s : zAS) (k : Nat × Nat) (x y : Int32) : zev (zk_L_build sc) (187, ls, Sum.inl (Value.int y) :: Sum.inl (Value.int x) :: st, s, k) = if y = 0 then none else zev (zk_L_build sc) (188, ls, Sum.inl (Value.int (x - x / y * y)) :: st, s, k) := zf_rem rfl
set_option maxRecDepth 8000 in
theorem zr_L_build_188 {sc : List Int32} (ls : zLs) (st : List zAV) (s : zAS) (k : Nat × Nat) (v0 v1 : zAV) (h : (st.map zcat).sum ≤ 8 ∧ k.1 + 0 ≤ (zR_L_build).cells ∧ k.2 + 0 ≤ (zR_L_build).slots) : zev (zk_L_build sc) (188, ls, v1 :: v0 :: st, s, k) = zret (zk_L_build sc) 191 ls st (k.1 + 0, k.2 + 0) ((m_L_cell sc) [v0, v1] s) := zf_callS (as := [v1, v0]) 2 rfl rfl h
set_option maxRecDepth 8000 in
theorem zr_L_build_191 {sc : List Int32} (a0 a1 a2 a3 a4 a5 a6 a7 a9 a10 a11 a12 a13 a14 : Option zAV) (st : List zAV) (s : zAS) (k : Nat × Nat) (x : Int32) : zev (zk_L_build sc) (191, [a0, a1, a2, a3, a4, a5, a6, a7, some (Sum.inl (Value.int x)), a9, a10, a11, a12, a13, a14], st, s, k) = zev (zk_L_build sc) (193, [a0, a1, a2, a3, a4, a5, a6, a7, some (Sum.inl (Value.int x)), a9, a10, a11, a12, a13, a14], Sum.inl (Value.int x) :: st, s, k) := zev_go rfl rfl
set_option maxRecDepth 8000 in
theorem zr_L_build_193 {sc : List Int32} (ls : zLs) (st : List zAV) (s : zAS) (k : Nat × Nat) : zev (zk_L_build sc) (193, ls, st, s, k) = zev (zk_L_build sc) (195, ls, Sum.inl (Value.int (16)) :: st, s, k) := zev_go rfl rfl
set_option maxRecDepth 8000 in
theorem zr_L_build_195 {sc : List Int32} (ls : zLs) (st : List zAV) (s : zAS) (k : Nat × Nat) (x y : Int32) : zev (zk_L_build sc) (195, ls, Sum.inl (Value.int y) :: Sum.inl (Value.int x) :: st, s, k) = if y = 0 then none else zev (zk_L_build sc) (196, ls, Sum.inl (Value.int (x / y)) :: st, s, k) := zf_div rfl
set_option maxRecDepth 8000 in
theorem zr_L_build_196 {sc : List Int32} (ls : zLs) (st : List zAV) (s : zAS) (k : Nat × Nat) : zev (zk_L_build sc) (196, ls, st, s, k) = zev (zk_L_build sc) (197, ls, Sum.inl (Value.int (4)) :: st, s, k) := zev_go rfl rfl
set_option maxRecDepth 8000 in
theorem zr_L_build_197 {sc : List Int32} (ls : zLs) (st : List zAV) (s : zAS) (k : Nat × Nat) (x y : Int32) : zev (zk_L_build sc) (197, ls, Sum.inl (Value.int y) :: Sum.inl (Value.int x) :: st, s, k) = zev (zk_L_build sc) (198, ls, Sum.inl (Value.int (x * y)) :: st, s, k) := zev_go rfl rfl
set_option maxRecDepth 8000 in
theorem zr_L_build_198 {sc : List Int32} (ls : zLs) (st : List zAV) (s : zAS) (k : Nat × Nat) (x y : Int32) : zev (zk_L_build sc) (198, ls, Sum.inl (Value.int y) :: Sum.inl (Value.int x) :: st, s, k) = zev (zk_L_build sc) (199, ls, Sum.inl (Value.int (x >>> (y &&& 31))) :: st, s, k) := zev_go rfl rfl
set_option maxRecDepth 8000 in
theorem zr_L_build_199 {sc : List Int32} (a0 a1 a2 a3 a4 a5 a6 a7 a8 a9 a10 a11 a12 a13 a14 : Option zAV) (st : List zAV) (s : zAS) (k : Nat × Nat) (x : Int32) : zev (zk_L_build sc) (199, [a0, a1, a2, a3, a4, a5, a6, a7, a8, a9, a10, a11, a12, a13, a14], Sum.inl (Value.int x) :: st, s, k) = zev (zk_L_build sc) (201, [a0, a1, a2, a3, a4, a5, a6, a7, zk1 a8, some (Sum.inl (Value.int x)), a10, a11, a12, a13, a14], st, s, k) := zev_go rfl rfl
set_option maxRecDepth 8000 in
theorem zr_L_build_201 {sc : List Int32} (a0 a1 a2 a3 a4 a5 a6 a7 a8 a10 a11 a12 a13 a14 : Option zAV) (st : List zAV) (s : zAS) (k : Nat × Nat) (x : Int32) : zev (zk_L_build sc) (201, [a0, a1, a2, a3, a4, a5, a6, a7, a8, some (Sum.inl (Value.int x)), a10, a11, a12, a13, a14], st, s, k) = zev (zk_L_build sc) (203, [a0, a1, a2, a3, a4, a5, a6, a7, a8, some (Sum.inl (Value.int x)), a10, a11, a12, a13, a14], Sum.inl (Value.int x) :: st, s, k) := zev_go rfl rfl
set_option maxRecDepth 8000 in
theorem zr_L_build_203 {sc : List Int32} (ls : zLs) (st : List zAV) (s : zAS) (k : Nat × Nat) : zev (zk_L_build sc) (203, ls, st, s, k) = zev (zk_L_build sc) (205, ls, Sum.inl (Value.int (16)) :: st, s, k) := zev_go rfl rfl
set_option maxRecDepth 8000 in
theorem zr_L_build_205 {sc : List Int32} (ls : zLs) (st : List zAV) (s : zAS) (k : Nat × Nat) (v0 v1 : zAV) (h : (st.map zcat).sum ≤ 8 ∧ k.1 + 0 ≤ (zR_L_build).cells ∧ k.2 + 0 ≤ (zR_L_build).slots) : zev (zk_L_build sc) (205, ls, v1 :: v0 :: st, s, k) = zret (zk_L_build sc) 208 ls st (k.1 + 0, k.2 + 0) ((m_L_below sc) [v0, v1] s) := zf_callS (as := [v1, v0]) 2 rfl rfl h
set_option maxRecDepth 8000 in
theorem zr_L_build_208 {sc : List Int32} (a0 a1 a2 a3 a4 a5 a6 a7 a8 a9 a10 a11 a12 a13 a14 : Option zAV) (st : List zAV) (s : zAS) (k : Nat × Nat) (x : Int32) : zev (zk_L_build sc) (208, [a0, a1, a2, a3, a4, a5, a6, a7, a8, a9, a10, a11, a12, a13, a14], Sum.inl (Value.int x) :: st, s, k) = zev (zk_L_build sc) (210, [a0, a1, a2, a3, a4, a5, a6, a7, a8, zk1 a9, some (Sum.inl (Value.int x)), a11, a12, a13, a14], st, s, k) := zev_go rfl rfl
set_option maxRecDepth 8000 in
theorem zr_L_build_210 {sc : List Int32} (a0 a1 a2 a3 a4 a5 a6 a7 a9 a10 a11 a12 a13 a14 : Option zAV) (st : List zAV) (s : zAS) (k : Nat × Nat) (x : Int32) : zev (zk_L_build sc) (210, [a0, a1, a2, a3, a4, a5, a6, a7, some (Sum.inl (Value.int x)), a9, a10, a11, a12, a13, a14], st, s, k) = zev (zk_L_build sc) (212, [a0, a1, a2, a3, a4, a5, a6, a7, some (Sum.inl (Value.int x)), a9, a10, a11, a12, a13, a14], Sum.inl (Value.int x) :: st, s, k) := zev_go rfl rfl
set_option maxRecDepth 8000 in
theorem zr_L_build_212 {sc : List Int32} (ls : zLs) (st : List zAV) (s : zAS) (k : Nat × Nat) : zev (zk_L_build sc) (212, ls, st, s, k) = zev (zk_L_build sc) (213, ls, Sum.inl (Value.int (3)) :: st, s, k) := zev_go rfl rfl
set_option maxRecDepth 8000 in
theorem zr_L_build_213 {sc : List Int32} (ls : zLs) (st : List zAV) (s : zAS) (k : Nat × Nat) (x y : Int32) : zev (zk_L_build sc) (213, ls, Sum.inl (Value.int y) :: Sum.inl (Value.int x) :: st, s, k) = if decide (x < y) = true then zev (zk_L_build sc) (223, ls, st, s, k) else zev (zk_L_build sc) (216, ls, st, s, k) := zf_cmp (f := fun x y => decide (x < y)) rfl
set_option maxRecDepth 8000 in
theorem zr_L_build_216 {sc : List Int32} (a0 a1 a2 a3 a4 a5 a6 a7 a8 a9 a11 a12 a13 a14 : Option zAV) (st : List zAV) (s : zAS) (k : Nat × Nat) (x : Int32) : zev (zk_L_build sc) (216, [a0, a1, a2, a3, a4, a5, a6, a7, a8, a9, some (Sum.inl (Value.int x)), a11, a12, a13, a14], st, s, k) = zev (zk_L_build sc) (218, [a0, a1, a2, a3, a4, a5, a6, a7, a8, a9, some (Sum.inl (Value.int x)), a11, a12, a13, a14], Sum.inl (Value.int x) :: st, s, k) := zev_go rfl rfl
set_option maxRecDepth 8000 in
theorem zr_L_build_218 {sc : List Int32} (ls : zLs) (st : List zAV) (s : zAS) (k : Nat × Nat) : zev (zk_L_build sc) (218, ls, st, s, k) = zev (zk_L_build sc) (220, ls, Sum.inl (Value.int (14)) :: st, s, k) := zev_go rfl rfl
set_option maxRecDepth 8000 in
theorem zr_L_build_220 {sc : List Int32} (ls : zLs) (st : List zAV) (s : zAS) (k : Nat × Nat) (x y : Int32) : zev (zk_L_build sc) (220, ls, Sum.inl (Value.int y) :: Sum.inl (Value.int x) :: st, s, k) = if decide (¬ x = y) = true then zev (zk_L_build sc) (275, ls, st, s, k) else zev (zk_L_build sc) (223, ls, st, s, k) := zf_cmp (f := fun x y => decide (¬ x = y)) rfl
set_option maxRecDepth 8000 in
theorem zr_L_build_223 {sc : List Int32} (a1 a2 a3 a4 a5 a6 a7 a8 a9 a10 a11 a12 a13 a14 : Option zAV) (st : List zAV) (s : zAS) (k : Nat × Nat) (o : Nat × Nat) : zev (zk_L_build sc) (223, [some (Sum.inr o), a1, a2, a3, a4, a5, a6, a7, a8, a9, a10, a11, a12, a13, a14], st, s, k) = zev (zk_L_build sc) (224, [some (Sum.inr o), a1, a2, a3, a4, a5, a6, a7, a8, a9, a10, a11, a12, a13, a14], Sum.inr o :: st, s, k) := zev_go rfl rfl
set_option maxRecDepth 8000 in
theorem zr_L_build_224 {sc : List Int32} (ls : zLs) (st : List zAV) (s : zAS) (k : Nat × Nat) : zev (zk_L_build sc) (224, ls, st, s, k) = zev (zk_L_build sc) (225, ls, Sum.inl (Value.int (-1)) :: st, s, k) := zev_go rfl rfl
set_option maxRecDepth 8000 in
theorem zr_L_build_225 {sc : List Int32} (a0 a1 a2 a3 a4 a5 a6 a7 a8 a10 a11 a12 a13 a14 : Option zAV) (st : List zAV) (s : zAS) (k : Nat × Nat) (x : Int32) : zev (zk_L_build sc) (225, [a0, a1, a2, a3, a4, a5, a6, a7, a8, some (Sum.inl (Value.int x)), a10, a11, a12, a13, a14], st, s, k) = zev (zk_L_build sc) (227, [a0, a1, a2, a3, a4, a5, a6, a7, a8, some (Sum.inl (Value.int x)), a10, a11, a12, a13, a14], Sum.inl (Value.int x) :: st, s, k) := zev_go rfl rfl
set_option maxRecDepth 8000 in
theorem zr_L_build_227 {sc : List Int32} (ls : zLs) (st : List zAV) (s : zAS) (k : Nat × Nat) : zev (zk_L_build sc) (227, ls, st, s, k) = zev (zk_L_build sc) (228, ls, Sum.inl (Value.int (3)) :: st, s, k) := zev_go rfl rfl
set_option maxRecDepth 8000 in
theorem zr_L_build_228 {sc : List Int32} (ls : zLs) (st : List zAV) (s : zAS) (k : Nat × Nat) (x y : Int32) : zev (zk_L_build sc) (228, ls, Sum.inl (Value.int y) :: Sum.inl (Value.int x) :: st, s, k) = zev (zk_L_build sc) (229, ls, Sum.inl (Value.int (x >>> (y &&& 31))) :: st, s, k) := zev_go rfl rfl
set_option maxRecDepth 8000 in
theorem zr_L_build_229 {sc : List Int32} (a0 a1 a3 a4 a5 a6 a7 a8 a9 a10 a11 a12 a13 a14 : Option zAV) (st : List zAV) (s : zAS) (k : Nat × Nat) (x : Int32) : zev (zk_L_build sc) (229, [a0, a1, some (Sum.inl (Value.int x)), a3, a4, a5, a6, a7, a8, a9, a10, a11, a12, a13, a14], st, s, k) = zev (zk_L_build sc) (230, [a0, a1, some (Sum.inl (Value.int x)), a3, a4, a5, a6, a7, a8, a9, a10, a11, a12, a13, a14], Sum.inl (Value.int x) :: st, s, k) := zev_go rfl rfl
set_option maxRecDepth 8000 in
theorem zr_L_build_230 {sc : List Int32} (ls : zLs) (st : List zAV) (s : zAS) (k : Nat × Nat) (v0 v1 : zAV) (h : (st.map zcat).sum ≤ 8 ∧ k.1 + 0 ≤ (zR_L_build).cells ∧ k.2 + 0 ≤ (zR_L_build).slots) : zev (zk_L_build sc) (230, ls, v1 :: v0 :: st, s, k) = zret (zk_L_build sc) 233 ls st (k.1 + 0, k.2 + 0) ((m_L_below sc) [v0, v1] s) := zf_callS (as := [v1, v0]) 2 rfl rfl h
set_option maxRecDepth 8000 in
theorem zr_L_build_233 {sc : List Int32} (a0 a1 a2 a3 a4 a5 a6 a7 a8 a10 a11 a12 a13 a14 : Option zAV) (st : List zAV) (s : zAS) (k : Nat × Nat) (x : Int32) : zev (zk_L_build sc) (233, [a0, a1, a2, a3, a4, a5, a6, a7, a8, some (Sum.inl (Value.int x)), a10, a11, a12, a13, a14], st, s, k) = zev (zk_L_build sc) (235, [a0, a1, a2, a3, a4, a5, a6, a7, a8, some (Sum.inl (Value.int x)), a10, a11, a12, a13, a14], Sum.inl (Value.int x) :: st, s, k) := zev_go rfl rfl
set_option maxRecDepth 8000 in
theorem zr_L_build_235 {sc : List Int32} (ls : zLs) (st : List zAV) (s : zAS) (k : Nat × Nat) : zev (zk_L_build sc) (235, ls, st, s, k) = zev (zk_L_build sc) (237, ls, Sum.inl (Value.int (9)) :: st, s, k) := zev_go rfl rfl
set_option maxRecDepth 8000 in
theorem zr_L_build_237 {sc : List Int32} (ls : zLs) (st : List zAV) (s : zAS) (k : Nat × Nat) (x y : Int32) : zev (zk_L_build sc) (237, ls, Sum.inl (Value.int y) :: Sum.inl (Value.int x) :: st, s, k) = zev (zk_L_build sc) (238, ls, Sum.inl (Value.int (x >>> (y &&& 31))) :: st, s, k) := zev_go rfl rfl
set_option maxRecDepth 8000 in
theorem zr_L_build_238 {sc : List Int32} (a0 a1 a3 a4 a5 a6 a7 a8 a9 a10 a11 a12 a13 a14 : Option zAV) (st : List zAV) (s : zAS) (k : Nat × Nat) (x : Int32) : zev (zk_L_build sc) (238, [a0, a1, some (Sum.inl (Value.int x)), a3, a4, a5, a6, a7, a8, a9, a10, a11, a12, a13, a14], st, s, k) = zev (zk_L_build sc) (239, [a0, a1, some (Sum.inl (Value.int x)), a3, a4, a5, a6, a7, a8, a9, a10, a11, a12, a13, a14], Sum.inl (Value.int x) :: st, s, k) := zev_go rfl rfl
set_option maxRecDepth 8000 in
theorem zr_L_build_239 {sc : List Int32} (ls : zLs) (st : List zAV) (s : zAS) (k : Nat × Nat) (v0 v1 : zAV) (h : (st.map zcat).sum ≤ 8 ∧ k.1 + 0 ≤ (zR_L_build).cells ∧ k.2 + 0 ≤ (zR_L_build).slots) : zev (zk_L_build sc) (239, ls, v1 :: v0 :: st, s, k) = zret (zk_L_build sc) 242 ls st (k.1 + 0, k.2 + 0) ((m_L_below sc) [v0, v1] s) := zf_callS (as := [v1, v0]) 2 rfl rfl h
set_option maxRecDepth 8000 in
theorem zr_L_build_242 {sc : List Int32} (ls : zLs) (st : List zAV) (s : zAS) (k : Nat × Nat) (r v0 v1 v2 : zAV) (h : zcok (zES sc) 8 0 0 (zR_L_build).cells (zR_L_build).slots r st k) : zev (zk_L_build sc) (242, ls, v2 :: v1 :: v0 :: r :: st, s, k) = zret (zk_L_build sc) 245 ls st (k.1 + 0, k.2 + 0) (m_X8_point [r, v0, v1, v2] s) := zf_callV (as := [v2, v1, v0]) 3 rfl rfl h
set_option maxRecDepth 8000 in
theorem zr_L_build_245 {sc : List Int32} (a0 a1 a2 a3 a4 a5 a6 a7 a8 a9 a10 a11 a12 a13 a14 : Option zAV) (st : List zAV) (s : zAS) (k : Nat × Nat) (x : Int32) : zev (zk_L_build sc) (245, [a0, a1, a2, a3, a4, a5, a6, a7, a8, a9, a10, a11, a12, a13, a14], Sum.inl (Value.int x) :: st, s, k) = zev (zk_L_build sc) (247, [a0, a1, a2, a3, a4, a5, a6, a7, a8, a9, zk1 a10, some (Sum.inl (Value.int x)), a12, a13, a14], st, s, k) := zev_go rfl rfl
set_option maxRecDepth 8000 in
theorem zr_L_build_247 {sc : List Int32} (a0 a1 a2 a3 a4 a5 a6 a7 a8 a9 a10 a12 a13 a14 : Option zAV) (st : List zAV) (s : zAS) (k : Nat × Nat) (x : Int32) : zev (zk_L_build sc) (247, [a0, a1, a2, a3, a4, a5, a6, a7, a8, a9, a10, some (Sum.inl (Value.int x)), a12, a13, a14], st, s, k) = zev (zk_L_build sc) (249, [a0, a1, a2, a3, a4, a5, a6, a7, a8, a9, a10, some (Sum.inl (Value.int x)), a12, a13, a14], Sum.inl (Value.int x) :: st, s, k) := zev_go rfl rfl
set_option maxRecDepth 8000 in
theorem zr_L_build_249 {sc : List Int32} (a0 a1 a2 a3 a4 a5 a6 a8 a9 a10 a11 a12 a13 a14 : Option zAV) (st : List zAV) (s : zAS) (k : Nat × Nat) (x : Int32) : zev (zk_L_build sc) (249, [a0, a1, a2, a3, a4, a5, a6, some (Sum.inl (Value.int x)), a8, a9, a10, a11, a12, a13, a14], st, s, k) = zev (zk_L_build sc) (251, [a0, a1, a2, a3, a4, a5, a6, some (Sum.inl (Value.int x)), a8, a9, a10, a11, a12, a13, a14], Sum.inl (Value.int x) :: st, s, k) := zev_go rfl rfl
set_option maxRecDepth 8000 in
theorem zr_L_build_251 {sc : List Int32} (ls : zLs) (st : List zAV) (s : zAS) (k : Nat × Nat) (x y : Int32) : zev (zk_L_build sc) (251, ls, Sum.inl (Value.int y) :: Sum.inl (Value.int x) :: st, s, k) = if decide (¬ x = y) = true then zev (zk_L_build sc) (264, ls, st, s, k) else zev (zk_L_build sc) (254, ls, st, s, k) := zf_cmp (f := fun x y => decide (¬ x = y)) rfl
set_option maxRecDepth 8000 in
theorem zr_L_build_254 {sc : List Int32} (a1 a2 a3 a4 a5 a6 a7 a8 a9 a10 a11 a12 a13 a14 : Option zAV) (st : List zAV) (s : zAS) (k : Nat × Nat) (o : Nat × Nat) : zev (zk_L_build sc) (254, [some (Sum.inr o), a1, a2, a3, a4, a5, a6, a7, a8, a9, a10, a11, a12, a13, a14], st, s, k) = zev (zk_L_build sc) (255, [some (Sum.inr o), a1, a2, a3, a4, a5, a6, a7, a8, a9, a10, a11, a12, a13, a14], Sum.inr o :: st, s, k) := zev_go rfl rfl
set_option maxRecDepth 8000 in
theorem zr_L_build_255 {sc : List Int32} (a0 a1 a2 a3 a4 a5 a6 a7 a8 a9 a10 a12 a13 a14 : Option zAV) (st : List zAV) (s : zAS) (k : Nat × Nat) (x : Int32) : zev (zk_L_build sc) (255, [a0, a1, a2, a3, a4, a5, a6, a7, a8, a9, a10, some (Sum.inl (Value.int x)), a12, a13, a14], st, s, k) = zev (zk_L_build sc) (257, [a0, a1, a2, a3, a4, a5, a6, a7, a8, a9, a10, some (Sum.inl (Value.int x)), a12, a13, a14], Sum.inl (Value.int x) :: st, s, k) := zev_go rfl rfl
set_option maxRecDepth 8000 in
theorem zr_L_build_257 {sc : List Int32} (ls : zLs) (st : List zAV) (s : zAS) (k : Nat × Nat) : zev (zk_L_build sc) (257, ls, st, s, k) = zev (zk_L_build sc) (258, ls, Sum.inl (Value.int (1)) :: st, s, k) := zev_go rfl rfl
set_option maxRecDepth 8000 in
theorem zr_L_build_258 {sc : List Int32} (ls : zLs) (st : List zAV) (s : zAS) (k : Nat × Nat) (r v0 v1 : zAV) (h : zcok (zES sc) 8 0 0 (zR_L_build).cells (zR_L_build).slots r st k) : zev (zk_L_build sc) (258, ls, v1 :: v0 :: r :: st, s, k) = zret (zk_L_build sc) 261 ls st (k.1 + 0, k.2 + 0) (m_X8_object [r, v0, v1] s) := zf_callV (as := [v1, v0]) 2 rfl rfl h
set_option maxRecDepth 8000 in
theorem zr_L_build_261 {sc : List Int32} (ls : zLs) (st : List zAV) (s : zAS) (k : Nat × Nat) (x : Int32) : zev (zk_L_build sc) (261, ls, Sum.inl (Value.int x) :: st, s, k) = if decide (x = 0) = true then zev (zk_L_build sc) (266, ls, st, s, k) else zev (zk_L_build sc) (264, ls, st, s, k) := zf_if (f := fun x => decide (x = 0)) rfl
set_option maxRecDepth 8000 in
theorem zr_L_build_264 {sc : List Int32} (ls : zLs) (st : List zAV) (s : zAS) (k : Nat × Nat) : zev (zk_L_build sc) (264, ls, st, s, k) = zev (zk_L_build sc) (265, ls, Sum.inl (Value.int (-1)) :: st, s, k) := zev_go rfl rfl
set_option maxRecDepth 8000 in
theorem zr_L_build_265 {sc : List Int32} (ls : zLs) (s : zAS) (k : Nat × Nat) (x : Int32) : zev (zk_L_build sc) (265, ls, [Sum.inl (Value.int x)], s, k) = some (.inl (some (Sum.inl (Value.int x))), s) := zf_reti rfl
set_option maxRecDepth 8000 in
theorem zr_L_build_266 {sc : List Int32} (a0 a1 a2 a3 a4 a5 a7 a8 a9 a10 a11 a12 a13 a14 : Option zAV) (st : List zAV) (s : zAS) (k : Nat × Nat) (o : Nat × Nat) : zev (zk_L_build sc) (266, [a0, a1, a2, a3, a4, a5, some (Sum.inr o), a7, a8, a9, a10, a11, a12, a13, a14], st, s, k) = zev (zk_L_build sc) (268, [a0, a1, a2, a3, a4, a5, some (Sum.inr o), a7, a8, a9, a10, a11, a12, a13, a14], Sum.inr o :: st, s, k) := zev_go rfl rfl
set_option maxRecDepth 8000 in
theorem zr_L_build_268 {sc : List Int32} (a0 a1 a2 a3 a4 a5 a6 a8 a9 a10 a11 a12 a13 a14 : Option zAV) (st : List zAV) (s : zAS) (k : Nat × Nat) (x : Int32) : zev (zk_L_build sc) (268, [a0, a1, a2, a3, a4, a5, a6, some (Sum.inl (Value.int x)), a8, a9, a10, a11, a12, a13, a14], st, s, k) = zev (zk_L_build sc) (270, [a0, a1, a2, a3, a4, a5, a6, some (Sum.inl (Value.int x)), a8, a9, a10, a11, a12, a13, a14], Sum.inl (Value.int x) :: st, s, k) := zev_go rfl rfl
set_option maxRecDepth 8000 in
theorem zr_L_build_270 {sc : List Int32} (ls : zLs) (st : List zAV) (s : zAS) (k : Nat × Nat) : zev (zk_L_build sc) (270, ls, st, s, k) = zev (zk_L_build sc) (271, ls, Sum.inl (Value.int (0)) :: st, s, k) := zev_go rfl rfl
set_option maxRecDepth 8000 in
theorem zr_L_build_271 {sc : List Int32} (ls : zLs) (st : List zAV) (s : zAS) (k : Nat × Nat) (o i : Nat) (j x : Int32) : zev (zk_L_build sc) (271, ls, Sum.inl (Value.int x) :: Sum.inl (Value.int j) :: Sum.inr (o, i) :: st, s, k) = zgo (zk_L_build sc) 272 ls st k (zast (zES sc) o i j x s) := zf_iast rfl
set_option maxRecDepth 8000 in
theorem zr_L_build_272 {sc : List Int32} (ls : zLs) (st : List zAV) (s : zAS) (k : Nat × Nat) : zev (zk_L_build sc) (272, ls, st, s, k) = zev (zk_L_build sc) (598, ls, st, s, k) := zev_go rfl rfl
set_option maxRecDepth 8000 in
theorem zr_L_build_275 {sc : List Int32} (a0 a1 a2 a3 a4 a5 a6 a7 a8 a9 a11 a12 a13 a14 : Option zAV) (st : List zAV) (s : zAS) (k : Nat × Nat) (x : Int32) : zev (zk_L_build sc) (275, [a0, a1, a2, a3, a4, a5, a6, a7, a8, a9, some (Sum.inl (Value.int x)), a11, a12, a13, a14], st, s, k) = zev (zk_L_build sc) (277, [a0, a1, a2, a3, a4, a5, a6, a7, a8, a9, some (Sum.inl (Value.int x)), a11, a12, a13, a14], Sum.inl (Value.int x) :: st, s, k) := zev_go rfl rfl
set_option maxRecDepth 8000 in
theorem zr_L_build_277 {sc : List Int32} (ls : zLs) (st : List zAV) (s : zAS) (k : Nat × Nat) : zev (zk_L_build sc) (277, ls, st, s, k) = zev (zk_L_build sc) (279, ls, Sum.inl (Value.int (15)) :: st, s, k) := zev_go rfl rfl
set_option maxRecDepth 8000 in
theorem zr_L_build_279 {sc : List Int32} (ls : zLs) (st : List zAV) (s : zAS) (k : Nat × Nat) (x y : Int32) : zev (zk_L_build sc) (279, ls, Sum.inl (Value.int y) :: Sum.inl (Value.int x) :: st, s, k) = if decide (¬ x = y) = true then zev (zk_L_build sc) (363, ls, st, s, k) else zev (zk_L_build sc) (282, ls, st, s, k) := zf_cmp (f := fun x y => decide (¬ x = y)) rfl
set_option maxRecDepth 8000 in
theorem zr_L_build_282 {sc : List Int32} (a0 a1 a2 a3 a4 a5 a7 a8 a9 a10 a11 a12 a13 a14 : Option zAV) (st : List zAV) (s : zAS) (k : Nat × Nat) (o : Nat × Nat) : zev (zk_L_build sc) (282, [a0, a1, a2, a3, a4, a5, some (Sum.inr o), a7, a8, a9, a10, a11, a12, a13, a14], st, s, k) = zev (zk_L_build sc) (284, [a0, a1, a2, a3, a4, a5, some (Sum.inr o), a7, a8, a9, a10, a11, a12, a13, a14], Sum.inr o :: st, s, k) := zev_go rfl rfl
set_option maxRecDepth 8000 in
theorem zr_L_build_284 {sc : List Int32} (a0 a1 a2 a3 a4 a5 a6 a8 a9 a10 a11 a12 a13 a14 : Option zAV) (st : List zAV) (s : zAS) (k : Nat × Nat) (x : Int32) : zev (zk_L_build sc) (284, [a0, a1, a2, a3, a4, a5, a6, some (Sum.inl (Value.int x)), a8, a9, a10, a11, a12, a13, a14], st, s, k) = zev (zk_L_build sc) (286, [a0, a1, a2, a3, a4, a5, a6, some (Sum.inl (Value.int x)), a8, a9, a10, a11, a12, a13, a14], Sum.inl (Value.int x) :: st, s, k) := zev_go rfl rfl
set_option maxRecDepth 8000 in
theorem zr_L_build_286 {sc : List Int32} (ls : zLs) (st : List zAV) (s : zAS) (k : Nat × Nat) : zev (zk_L_build sc) (286, ls, st, s, k) = zev (zk_L_build sc) (287, ls, Sum.inl (Value.int (1)) :: st, s, k) := zev_go rfl rfl
set_option maxRecDepth 8000 in
theorem zr_L_build_287 {sc : List Int32} (a0 a1 a2 a3 a4 a5 a6 a7 a8 a10 a11 a12 a13 a14 : Option zAV) (st : List zAV) (s : zAS) (k : Nat × Nat) (x : Int32) : zev (zk_L_build sc) (287, [a0, a1, a2, a3, a4, a5, a6, a7, a8, some (Sum.inl (Value.int x)), a10, a11, a12, a13, a14], st, s, k) = zev (zk_L_build sc) (289, [a0, a1, a2, a3, a4, a5, a6, a7, a8, some (Sum.inl (Value.int x)), a10, a11, a12, a13, a14], Sum.inl (Value.int x) :: st, s, k) := zev_go rfl rfl
set_option maxRecDepth 8000 in
theorem zr_L_build_289 {sc : List Int32} (ls : zLs) (st : List zAV) (s : zAS) (k : Nat × Nat) : zev (zk_L_build sc) (289, ls, st, s, k) = zev (zk_L_build sc) (290, ls, Sum.inl (Value.int (4)) :: st, s, k) := zev_go rfl rfl
set_option maxRecDepth 8000 in
theorem zr_L_build_290 {sc : List Int32} (ls : zLs) (st : List zAV) (s : zAS) (k : Nat × Nat) (x y : Int32) : zev (zk_L_build sc) (290, ls, Sum.inl (Value.int y) :: Sum.inl (Value.int x) :: st, s, k) = zev (zk_L_build sc) (291, ls, Sum.inl (Value.int (x >>> (y &&& 31))) :: st, s, k) := zev_go rfl rfl
set_option maxRecDepth 8000 in
theorem zr_L_build_291 {sc : List Int32} (ls : zLs) (st : List zAV) (s : zAS) (k : Nat × Nat) (v0 v1 v2 v3 : zAV) (h : (st.map zcat).sum ≤ 8 ∧ k.1 + 0 ≤ (zR_L_build).cells ∧ k.2 + 0 ≤ (zR_L_build).slots) : zev (zk_L_build sc) (291, ls, v3 :: v2 :: v1 :: v0 :: st, s, k) = zret (zk_L_build sc) 294 ls st (k.1 + 0, k.2 + 0) ((m_L_pick sc) [v0, v1, v2, v3] s) := zf_callS (as := [v3, v2, v1, v0]) 4 rfl rfl h
set_option maxRecDepth 8000 in
theorem zr_L_build_294 {sc : List Int32} (a0 a1 a2 a3 a4 a5 a6 a7 a8 a9 a10 a11 a12 a13 a14 : Option zAV) (st : List zAV) (s : zAS) (k : Nat × Nat) (x : Int32) : zev (zk_L_build sc) (294, [a0, a1, a2, a3, a4, a5, a6, a7, a8, a9, a10, a11, a12, a13, a14], Sum.inl (Value.int x) :: st, s, k) = zev (zk_L_build sc) (296, [a0, a1, a2, a3, a4, a5, a6, a7, a8, a9, a10, zk1 a11, some (Sum.inl (Value.int x)), a13, a14], st, s, k) := zev_go rfl rfl
set_option maxRecDepth 8000 in
theorem zr_L_build_296 {sc : List Int32} (a0 a1 a2 a3 a4 a5 a6 a7 a8 a9 a10 a11 a13 a14 : Option zAV) (st : List zAV) (s : zAS) (k : Nat × Nat) (x : Int32) : zev (zk_L_build sc) (296, [a0, a1, a2, a3, a4, a5, a6, a7, a8, a9, a10, a11, some (Sum.inl (Value.int x)), a13, a14], st, s, k) = zev (zk_L_build sc) (298, [a0, a1, a2, a3, a4, a5, a6, a7, a8, a9, a10, a11, some (Sum.inl (Value.int x)), a13, a14], Sum.inl (Value.int x) :: st, s, k) := zev_go rfl rfl
set_option maxRecDepth 8000 in
theorem zr_L_build_298 {sc : List Int32} (ls : zLs) (st : List zAV) (s : zAS) (k : Nat × Nat) (x : Int32) : zev (zk_L_build sc) (298, ls, Sum.inl (Value.int x) :: st, s, k) = if decide (0 ≤ x) = true then zev (zk_L_build sc) (304, ls, st, s, k) else zev (zk_L_build sc) (301, ls, st, s, k) := zf_if (f := fun x => decide (0 ≤ x)) rfl
set_option maxRecDepth 8000 in
theorem zr_L_build_301 {sc : List Int32} (ls : zLs) (st : List zAV) (s : zAS) (k : Nat × Nat) : zev (zk_L_build sc) (301, ls, st, s, k) = zev (zk_L_build sc) (618, ls, st, s, k) := zev_go rfl rfl
set_option maxRecDepth 8000 in
theorem zr_L_build_304 {sc : List Int32} (a1 a2 a3 a4 a5 a6 a7 a8 a9 a10 a11 a12 a13 a14 : Option zAV) (st : List zAV) (s : zAS) (k : Nat × Nat) (o : Nat × Nat) : zev (zk_L_build sc) (304, [some (Sum.inr o), a1, a2, a3, a4, a5, a6, a7, a8, a9, a10, a11, a12, a13, a14], st, s, k) = zev (zk_L_build sc) (305, [some (Sum.inr o), a1, a2, a3, a4, a5, a6, a7, a8, a9, a10, a11, a12, a13, a14], Sum.inr o :: st, s, k) := zev_go rfl rfl
set_option maxRecDepth 8000 in
theorem zr_L_build_305 {sc : List Int32} (a0 a1 a2 a3 a4 a5 a6 a7 a8 a9 a10 a11 a13 a14 : Option zAV) (st : List zAV) (s : zAS) (k : Nat × Nat) (x : Int32) : zev (zk_L_build sc) (305, [a0, a1, a2, a3, a4, a5, a6, a7, a8, a9, a10, a11, some (Sum.inl (Value.int x)), a13, a14], st, s, k) = zev (zk_L_build sc) (307, [a0, a1, a2, a3, a4, a5, a6, a7, a8, a9, a10, a11, some (Sum.inl (Value.int x)), a13, a14], Sum.inl (Value.int x) :: st, s, k) := zev_go rfl rfl
set_option maxRecDepth 8000 in
theorem zr_L_build_307 {sc : List Int32} (a0 a1 a2 a3 a4 a5 a6 a7 a8 a10 a11 a12 a13 a14 : Option zAV) (st : List zAV) (s : zAS) (k : Nat × Nat) (x : Int32) : zev (zk_L_build sc) (307, [a0, a1, a2, a3, a4, a5, a6, a7, a8, some (Sum.inl (Value.int x)), a10, a11, a12, a13, a14], st, s, k) = zev (zk_L_build sc) (309, [a0, a1, a2, a3, a4, a5, a6, a7, a8, some (Sum.inl (Value.int x)), a10, a11, a12, a13, a14], Sum.inl (Value.int x) :: st, s, k) := zev_go rfl rfl
set_option maxRecDepth 8000 in
theorem zr_L_build_309 {sc : List Int32} (ls : zLs) (st : List zAV) (s : zAS) (k : Nat × Nat) : zev (zk_L_build sc) (309, ls, st, s, k) = zev (zk_L_build sc) (310, ls, Sum.inl (Value.int (3)) :: st, s, k) := zev_go rfl rfl
set_option maxRecDepth 8000 in
theorem zr_L_build_310 {sc : List Int32} (ls : zLs) (st : List zAV) (s : zAS) (k : Nat × Nat) (x y : Int32) : zev (zk_L_build sc) (310, ls, Sum.inl (Value.int y) :: Sum.inl (Value.int x) :: st, s, k) = zev (zk_L_build sc) (311, ls, Sum.inl (Value.int (x >>> (y &&& 31))) :: st, s, k) := zev_go rfl rfl
set_option maxRecDepth 8000 in
theorem zr_L_build_311 {sc : List Int32} (a0 a1 a3 a4 a5 a6 a7 a8 a9 a10 a11 a12 a13 a14 : Option zAV) (st : List zAV) (s : zAS) (k : Nat × Nat) (x : Int32) : zev (zk_L_build sc) (311, [a0, a1, some (Sum.inl (Value.int x)), a3, a4, a5, a6, a7, a8, a9, a10, a11, a12, a13, a14], st, s, k) = zev (zk_L_build sc) (312, [a0, a1, some (Sum.inl (Value.int x)), a3, a4, a5, a6, a7, a8, a9, a10, a11, a12, a13, a14], Sum.inl (Value.int x) :: st, s, k) := zev_go rfl rfl
set_option maxRecDepth 8000 in
theorem zr_L_build_312 {sc : List Int32} (ls : zLs) (st : List zAV) (s : zAS) (k : Nat × Nat) (v0 v1 : zAV) (h : (st.map zcat).sum ≤ 8 ∧ k.1 + 0 ≤ (zR_L_build).cells ∧ k.2 + 0 ≤ (zR_L_build).slots) : zev (zk_L_build sc) (312, ls, v1 :: v0 :: st, s, k) = zret (zk_L_build sc) 315 ls st (k.1 + 0, k.2 + 0) ((m_L_below sc) [v0, v1] s) := zf_callS (as := [v1, v0]) 2 rfl rfl h
set_option maxRecDepth 8000 in
theorem zr_L_build_315 {sc : List Int32} (ls : zLs) (st : List zAV) (s : zAS) (k : Nat × Nat) : zev (zk_L_build sc) (315, ls, st, s, k) = zev (zk_L_build sc) (317, ls, Sum.inl (Value.int (99)) :: st, s, k) := zev_go rfl rfl
set_option maxRecDepth 8000 in
theorem zr_L_build_317 {sc : List Int32} (ls : zLs) (st : List zAV) (s : zAS) (k : Nat × Nat) (r v0 v1 v2 : zAV) (h : zcok (zES sc) 8 0 0 (zR_L_build).cells (zR_L_build).slots r st k) : zev (zk_L_build sc) (317, ls, v2 :: v1 :: v0 :: r :: st, s, k) = zret (zk_L_build sc) 320 ls st (k.1 + 0, k.2 + 0) (m_X8_point [r, v0, v1, v2] s) := zf_callV (as := [v2, v1, v0]) 3 rfl rfl h
set_option maxRecDepth 8000 in
theorem zr_L_build_320 {sc : List Int32} (a0 a1 a2 a3 a4 a5 a6 a7 a8 a9 a10 a11 a12 a13 a14 : Option zAV) (st : List zAV) (s : zAS) (k : Nat × Nat) (x : Int32) : zev (zk_L_build sc) (320, [a0, a1, a2, a3, a4, a5, a6, a7, a8, a9, a10, a11, a12, a13, a14], Sum.inl (Value.int x) :: st, s, k) = zev (zk_L_build sc) (322, [a0, a1, a2, a3, a4, a5, a6, a7, a8, a9, zk1 a10, some (Sum.inl (Value.int x)), a12, a13, a14], st, s, k) := zev_go rfl rfl
set_option maxRecDepth 8000 in
theorem zr_L_build_322 {sc : List Int32} (a0 a1 a2 a3 a4 a5 a6 a7 a8 a9 a10 a12 a13 a14 : Option zAV) (st : List zAV) (s : zAS) (k : Nat × Nat) (x : Int32) : zev (zk_L_build sc) (322, [a0, a1, a2, a3, a4, a5, a6, a7, a8, a9, a10, some (Sum.inl (Value.int x)), a12, a13, a14], st, s, k) = zev (zk_L_build sc) (324, [a0, a1, a2, a3, a4, a5, a6, a7, a8, a9, a10, some (Sum.inl (Value.int x)), a12, a13, a14], Sum.inl (Value.int x) :: st, s, k) := zev_go rfl rfl
set_option maxRecDepth 8000 in
theorem zr_L_build_324 {sc : List Int32} (a0 a1 a2 a3 a4 a5 a6 a8 a9 a10 a11 a12 a13 a14 : Option zAV) (st : List zAV) (s : zAS) (k : Nat × Nat) (x : Int32) : zev (zk_L_build sc) (324, [a0, a1, a2, a3, a4, a5, a6, some (Sum.inl (Value.int x)), a8, a9, a10, a11, a12, a13, a14], st, s, k) = zev (zk_L_build sc) (326, [a0, a1, a2, a3, a4, a5, a6, some (Sum.inl (Value.int x)), a8, a9, a10, a11, a12, a13, a14], Sum.inl (Value.int x) :: st, s, k) := zev_go rfl rfl
set_option maxRecDepth 8000 in
theorem zr_L_build_326 {sc : List Int32} (ls : zLs) (st : List zAV) (s : zAS) (k : Nat × Nat) (x y : Int32) : zev (zk_L_build sc) (326, ls, Sum.inl (Value.int y) :: Sum.inl (Value.int x) :: st, s, k) = if decide (¬ x = y) = true then zev (zk_L_build sc) (352, ls, st, s, k) else zev (zk_L_build sc) (329, ls, st, s, k) := zf_cmp (f := fun x y => decide (¬ x = y)) rfl
set_option maxRecDepth 8000 in
theorem zr_L_build_329 {sc : List Int32} (a1 a2 a3 a4 a5 a6 a7 a8 a9 a10 a11 a12 a13 a14 : Option zAV) (st : List zAV) (s : zAS) (k : Nat × Nat) (o : Nat × Nat) : zev (zk_L_build sc) (329, [some (Sum.inr o), a1, a2, a3, a4, a5, a6, a7, a8, a9, a10, a11, a12, a13, a14], st, s, k) = zev (zk_L_build sc) (330, [some (Sum.inr o), a1, a2, a3, a4, a5, a6, a7, a8, a9, a10, a11, a12, a13, a14], Sum.inr o :: st, s, k) := zev_go rfl rfl
set_option maxRecDepth 8000 in
theorem zr_L_build_330 {sc : List Int32} (a0 a1 a2 a3 a4 a5 a6 a7 a8 a9 a10 a12 a13 a14 : Option zAV) (st : List zAV) (s : zAS) (k : Nat × Nat) (x : Int32) : zev (zk_L_build sc) (330, [a0, a1, a2, a3, a4, a5, a6, a7, a8, a9, a10, some (Sum.inl (Value.int x)), a12, a13, a14], st, s, k) = zev (zk_L_build sc) (332, [a0, a1, a2, a3, a4, a5, a6, a7, a8, a9, a10, some (Sum.inl (Value.int x)), a12, a13, a14], Sum.inl (Value.int x) :: st, s, k) := zev_go rfl rfl
set_option maxRecDepth 8000 in
theorem zr_L_build_332 {sc : List Int32} (ls : zLs) (st : List zAV) (s : zAS) (k : Nat × Nat) : zev (zk_L_build sc) (332, ls, st, s, k) = zev (zk_L_build sc) (333, ls, Sum.inl (Value.int (1)) :: st, s, k) := zev_go rfl rfl
set_option maxRecDepth 8000 in
theorem zr_L_build_333 {sc : List Int32} (ls : zLs) (st : List zAV) (s : zAS) (k : Nat × Nat) (r v0 v1 : zAV) (h : zcok (zES sc) 8 0 0 (zR_L_build).cells (zR_L_build).slots r st k) : zev (zk_L_build sc) (333, ls, v1 :: v0 :: r :: st, s, k) = zret (zk_L_build sc) 336 ls st (k.1 + 0, k.2 + 0) (m_X8_object [r, v0, v1] s) := zf_callV (as := [v1, v0]) 2 rfl rfl h
set_option maxRecDepth 8000 in
theorem zr_L_build_336 {sc : List Int32} (ls : zLs) (st : List zAV) (s : zAS) (k : Nat × Nat) : zev (zk_L_build sc) (336, ls, st, s, k) = zev (zk_L_build sc) (337, ls, Sum.inl (Value.int (1)) :: st, s, k) := zev_go rfl rfl
set_option maxRecDepth 8000 in
theorem zr_L_build_337 {sc : List Int32} (ls : zLs) (st : List zAV) (s : zAS) (k : Nat × Nat) (x y : Int32) : zev (zk_L_build sc) (337, ls, Sum.inl (Value.int y) :: Sum.inl (Value.int x) :: st, s, k) = if decide (¬ x = y) = true then zev (zk_L_build sc) (352, ls, st, s, k) else zev (zk_L_build sc) (340, ls, st, s, k) := zf_cmp (f := fun x y => decide (¬ x = y)) rfl
set_option maxRecDepth 8000 in
theorem zr_L_build_340 {sc : List Int32} (a1 a2 a3 a4 a5 a6 a7 a8 a9 a10 a11 a12 a13 a14 : Option zAV) (st : List zAV) (s : zAS) (k : Nat × Nat) (o : Nat × Nat) : zev (zk_L_build sc) (340, [some (Sum.inr o), a1, a2, a3, a4, a5, a6, a7, a8, a9, a10, a11, a12, a13, a14], st, s, k) = zev (zk_L_build sc) (341, [some (Sum.inr o), a1, a2, a3, a4, a5, a6, a7, a8, a9, a10, a11, a12, a13, a14], Sum.inr o :: st, s, k) := zev_go rfl rfl
set_option maxRecDepth 8000 in
theorem zr_L_build_341 {sc : List Int32} (a0 a1 a2 a3 a4 a5 a6 a7 a8 a9 a10 a12 a13 a14 : Option zAV) (st : List zAV) (s : zAS) (k : Nat × Nat) (x : Int32) : zev (zk_L_build sc) (341, [a0, a1, a2, a3, a4, a5, a6, a7, a8, a9, a10, some (Sum.inl (Value.int x)), a12, a13, a14], st, s, k) = zev (zk_L_build sc) (343, [a0, a1, a2, a3, a4, a5, a6, a7, a8, a9, a10, some (Sum.inl (Value.int x)), a12, a13, a14], Sum.inl (Value.int x) :: st, s, k) := zev_go rfl rfl
set_option maxRecDepth 8000 in
theorem zr_L_build_343 {sc : List Int32} (ls : zLs) (st : List zAV) (s : zAS) (k : Nat × Nat) : zev (zk_L_build sc) (343, ls, st, s, k) = zev (zk_L_build sc) (344, ls, Sum.inl (Value.int (2)) :: st, s, k) := zev_go rfl rfl
set_option maxRecDepth 8000 in
theorem zr_L_build_344 {sc : List Int32} (ls : zLs) (st : List zAV) (s : zAS) (k : Nat × Nat) (r v0 v1 : zAV) (h : zcok (zES sc) 8 0 0 (zR_L_build).cells (zR_L_build).slots r st k) : zev (zk_L_build sc) (344, ls, v1 :: v0 :: r :: st, s, k) = zret (zk_L_build sc) 347 ls st (k.1 + 0, k.2 + 0) (m_X8_object [r, v0, v1] s) := zf_callV (as := [v1, v0]) 2 rfl rfl h
set_option maxRecDepth 8000 in
theorem zr_L_build_347 {sc : List Int32} (a0 a1 a2 a3 a4 a5 a6 a7 a8 a9 a10 a11 a13 a14 : Option zAV) (st : List zAV) (s : zAS) (k : Nat × Nat) (x : Int32) : zev (zk_L_build sc) (347, [a0, a1, a2, a3, a4, a5, a6, a7, a8, a9, a10, a11, some (Sum.inl (Value.int x)), a13, a14], st, s, k) = zev (zk_L_build sc) (349, [a0, a1, a2, a3, a4, a5, a6, a7, a8, a9, a10, a11, some (Sum.inl (Value.int x)), a13, a14], Sum.inl (Value.int x) :: st, s, k) := zev_go rfl rfl
set_option maxRecDepth 8000 in
theorem zr_L_build_349 {sc : List Int32} (ls : zLs) (st : List zAV) (s : zAS) (k : Nat × Nat) (x y : Int32) : zev (zk_L_build sc) (349, ls, Sum.inl (Value.int y) :: Sum.inl (Value.int x) :: st, s, k) = if decide (x = y) = true then zev (zk_L_build sc) (354, ls, st, s, k) else zev (zk_L_build sc) (352, ls, st, s, k) := zf_cmp (f := fun x y => decide (x = y)) rfl
set_option maxRecDepth 8000 in
theorem zr_L_build_352 {sc : List Int32} (ls : zLs) (st : List zAV) (s : zAS) (k : Nat × Nat) : zev (zk_L_build sc) (352, ls, st, s, k) = zev (zk_L_build sc) (353, ls, Sum.inl (Value.int (-1)) :: st, s, k) := zev_go rfl rfl
set_option maxRecDepth 8000 in
theorem zr_L_build_353 {sc : List Int32} (ls : zLs) (s : zAS) (k : Nat × Nat) (x : Int32) : zev (zk_L_build sc) (353, ls, [Sum.inl (Value.int x)], s, k) = some (.inl (some (Sum.inl (Value.int x))), s) := zf_reti rfl
set_option maxRecDepth 8000 in
theorem zr_L_build_354 {sc : List Int32} (a0 a1 a2 a3 a4 a5 a7 a8 a9 a10 a11 a12 a13 a14 : Option zAV) (st : List zAV) (s : zAS) (k : Nat × Nat) (o : Nat × Nat) : zev (zk_L_build sc) (354, [a0, a1, a2, a3, a4, a5, some (Sum.inr o), a7, a8, a9, a10, a11, a12, a13, a14], st, s, k) = zev (zk_L_build sc) (356, [a0, a1, a2, a3, a4, a5, some (Sum.inr o), a7, a8, a9, a10, a11, a12, a13, a14], Sum.inr o :: st, s, k) := zev_go rfl rfl
set_option maxRecDepth 8000 in
theorem zr_L_build_356 {sc : List Int32} (a0 a1 a2 a3 a4 a5 a6 a8 a9 a10 a11 a12 a13 a14 : Option zAV) (st : List zAV) (s : zAS) (k : Nat × Nat) (x : Int32) : zev (zk_L_build sc) (356, [a0, a1, a2, a3, a4, a5, a6, some (Sum.inl (Value.int x)), a8, a9, a10, a11, a12, a13, a14], st, s, k) = zev (zk_L_build sc) (358, [a0, a1, a2, a3, a4, a5, a6, some (Sum.inl (Value.int x)), a8, a9, a10, a11, a12, a13, a14], Sum.inl (Value.int x) :: st, s, k) := zev_go rfl rfl
set_option maxRecDepth 8000 in
theorem zr_L_build_358 {sc : List Int32} (ls : zLs) (st : List zAV) (s : zAS) (k : Nat × Nat) : zev (zk_L_build sc) (358, ls, st, s, k) = zev (zk_L_build sc) (359, ls, Sum.inl (Value.int (0)) :: st, s, k) := zev_go rfl rfl
set_option maxRecDepth 8000 in
theorem zr_L_build_359 {sc : List Int32} (ls : zLs) (st : List zAV) (s : zAS) (k : Nat × Nat) (o i : Nat) (j x : Int32) : zev (zk_L_build sc) (359, ls, Sum.inl (Value.int x) :: Sum.inl (Value.int j) :: Sum.inr (o, i) :: st, s, k) = zgo (zk_L_build sc) 360 ls st k (zast (zES sc) o i j x s) := zf_iast rfl
set_option maxRecDepth 8000 in
theorem zr_L_build_360 {sc : List Int32} (ls : zLs) (st : List zAV) (s : zAS) (k : Nat × Nat) : zev (zk_L_build sc) (360, ls, st, s, k) = zev (zk_L_build sc) (598, ls, st, s, k) := zev_go rfl rfl
set_option maxRecDepth 8000 in
theorem zr_L_build_363 {sc : List Int32} (ls : zLs) (st : List zAV) (s : zAS) (k : Nat × Nat) : zev (zk_L_build sc) (363, ls, st, s, k) = zev (zk_L_build sc) (364, ls, Sum.inl (Value.int (3)) :: st, s, k) := zev_go rfl rfl
set_option maxRecDepth 8000 in
theorem zr_L_build_364 {sc : List Int32} (ls : zLs) (st : List zAV) (s : zAS) (k : Nat × Nat) (x : Int32) (h : ¬ x < 0 ∧ x.toNatClampNeg ≤ 100 ∧ k.1 + 1 ≤ (zR_L_build).cells ∧ k.2 + x.toNatClampNeg ≤ (zR_L_build).slots ∧ st.all (zfr s.2.length) = true ∧ ls.all (zfr' s.2.length) = true) : zev (zk_L_build sc) (364, ls, Sum.inl (Value.int x) :: st, s, k) = zev (zk_L_build sc) (366, ls, Sum.inr (99, s.2.length) :: st, (s.1, s.2 ++ [(x.toNatClampNeg, fun _ => 0)]), (k.1 + 1, k.2 + x.toNatClampNeg)) := zf_newa rfl h
set_option maxRecDepth 8000 in
theorem zr_L_build_366 {sc : List Int32} (a0 a1 a2 a3 a4 a5 a6 a7 a8 a9 a10 a11 a12 a13 a14 : Option zAV) (st : List zAV) (s : zAS) (k : Nat × Nat) (o : Nat × Nat) : zev (zk_L_build sc) (366, [a0, a1, a2, a3, a4, a5, a6, a7, a8, a9, a10, a11, a12, a13, a14], Sum.inr o :: st, s, k) = zev (zk_L_build sc) (368, [a0, a1, a2, a3, a4, a5, a6, a7, a8, a9, a10, zk1 a11, some (Sum.inr o), a13, a14], st, s, k) := zev_go rfl rfl
set_option maxRecDepth 8000 in
theorem zr_L_build_368 {sc : List Int32} (ls : zLs) (st : List zAV) (s : zAS) (k : Nat × Nat) : zev (zk_L_build sc) (368, ls, st, s, k) = zev (zk_L_build sc) (369, ls, Sum.inl (Value.int (1)) :: st, s, k) := zev_go rfl rfl
set_option maxRecDepth 8000 in
theorem zr_L_build_369 {sc : List Int32} (a0 a1 a2 a3 a4 a5 a6 a7 a8 a9 a10 a11 a12 a13 a14 : Option zAV) (st : List zAV) (s : zAS) (k : Nat × Nat) (x : Int32) : zev (zk_L_build sc) (369, [a0, a1, a2, a3, a4, a5, a6, a7, a8, a9, a10, a11, a12, a13, a14], Sum.inl (Value.int x) :: st, s, k) = zev (zk_L_build sc) (371, [a0, a1, a2, a3, a4, a5, a6, a7, a8, a9, a10, a11, zk1 a12, some (Sum.inl (Value.int x)), a14], st, s, k) := zev_go rfl rfl
set_option maxRecDepth 8000 in
theorem zr_L_build_371 {sc : List Int32} (ls : zLs) (st : List zAV) (s : zAS) (k : Nat × Nat) : zev (zk_L_build sc) (371, ls, st, s, k) = zev (zk_L_build sc) (372, ls, Sum.inl (Value.int (0)) :: st, s, k) := zev_go rfl rfl
set_option maxRecDepth 8000 in
theorem zr_L_build_372 {sc : List Int32} (a0 a1 a2 a3 a4 a5 a6 a7 a8 a9 a10 a11 a12 a13 a14 : Option zAV) (st : List zAV) (s : zAS) (k : Nat × Nat) (x : Int32) : zev (zk_L_build sc) (372, [a0, a1, a2, a3, a4, a5, a6, a7, a8, a9, a10, a11, a12, a13, a14], Sum.inl (Value.int x) :: st, s, k) = zev (zk_L_build sc) (374, [a0, a1, a2, a3, a4, a5, a6, a7, a8, a9, a10, a11, a12, zk1 a13, some (Sum.inl (Value.int x))], st, s, k) := zev_go rfl rfl
set_option maxRecDepth 8000 in
theorem zr_L_build_374 {sc : List Int32} (a0 a1 a2 a3 a4 a5 a6 a7 a8 a9 a10 a11 a12 a13 : Option zAV) (st : List zAV) (s : zAS) (k : Nat × Nat) (x : Int32) : zev (zk_L_build sc) (374, [a0, a1, a2, a3, a4, a5, a6, a7, a8, a9, a10, a11, a12, a13, some (Sum.inl (Value.int x))], st, s, k) = zev (zk_L_build sc) (376, [a0, a1, a2, a3, a4, a5, a6, a7, a8, a9, a10, a11, a12, a13, some (Sum.inl (Value.int x))], Sum.inl (Value.int x) :: st, s, k) := zev_go rfl rfl
set_option maxRecDepth 8000 in
theorem zr_L_build_376 {sc : List Int32} (a0 a1 a2 a3 a4 a6 a7 a8 a9 a10 a11 a12 a13 a14 : Option zAV) (st : List zAV) (s : zAS) (k : Nat × Nat) (o : Nat × Nat) : zev (zk_L_build sc) (376, [a0, a1, a2, a3, a4, some (Sum.inr o), a6, a7, a8, a9, a10, a11, a12, a13, a14], st, s, k) = zev (zk_L_build sc) (378, [a0, a1, a2, a3, a4, some (Sum.inr o), a6, a7, a8, a9, a10, a11, a12, a13, a14], Sum.inr o :: st, s, k) := zev_go rfl rfl
set_option maxRecDepth 8000 in
theorem zr_L_build_378 {sc : List Int32} (a0 a1 a2 a3 a4 a5 a6 a7 a8 a9 a11 a12 a13 a14 : Option zAV) (st : List zAV) (s : zAS) (k : Nat × Nat) (x : Int32) : zev (zk_L_build sc) (378, [a0, a1, a2, a3, a4, a5, a6, a7, a8, a9, some (Sum.inl (Value.int x)), a11, a12, a13, a14], st, s, k) = zev (zk_L_build sc) (380, [a0, a1, a2, a3, a4, a5, a6, a7, a8, a9, some (Sum.inl (Value.int x)), a11, a12, a13, a14], Sum.inl (Value.int x) :: st, s, k) := zev_go rfl rfl
set_option maxRecDepth 8000 in
theorem zr_L_build_380 {sc : List Int32} (ls : zLs) (st : List zAV) (s : zAS) (k : Nat × Nat) (i : Nat) (j : Int32) : zev (zk_L_build sc) (380, ls, Sum.inl (Value.int j) :: Sum.inr (99, i) :: st, s, k) = zpush (zk_L_build sc) 381 ls st s k (zalds i j s.2) := zf_aalds rfl
set_option maxRecDepth 8000 in
theorem zr_L_build_381 {sc : List Int32} (ls : zLs) (st : List zAV) (s : zAS) (k : Nat × Nat) (i : Nat) (h : i < 6 ∧ (st.map zcat).sum ≤ 8 ∧ k.1 + 0 ≤ (zR_L_build).cells ∧ k.2 + 0 ≤ (zR_L_build).slots) : zev (zk_L_build sc) (381, ls, Sum.inr (96, i) :: st, s, k) = zret (zk_L_build sc) 384 ls st (k.1 + 0, k.2 + 0) (m_J0_length_8abf5 [Sum.inr (96, i)] s) := zf_scall (as := []) 0 rfl rfl h
set_option maxRecDepth 8000 in
theorem zr_L_build_384 {sc : List Int32} (ls : zLs) (st : List zAV) (s : zAS) (k : Nat × Nat) (x y : Int32) : zev (zk_L_build sc) (384, ls, Sum.inl (Value.int y) :: Sum.inl (Value.int x) :: st, s, k) = if decide (y ≤ x) = true then zev (zk_L_build sc) (453, ls, st, s, k) else zev (zk_L_build sc) (387, ls, st, s, k) := zf_cmp (f := fun x y => decide (y ≤ x)) rfl
set_option maxRecDepth 8000 in
theorem zr_L_build_387 {sc : List Int32} (a0 a1 a2 a3 a4 a5 a6 a7 a8 a9 a10 a11 a13 a14 : Option zAV) (st : List zAV) (s : zAS) (k : Nat × Nat) (o : Nat × Nat) : zev (zk_L_build sc) (387, [a0, a1, a2, a3, a4, a5, a6, a7, a8, a9, a10, a11, some (Sum.inr o), a13, a14], st, s, k) = zev (zk_L_build sc) (389, [a0, a1, a2, a3, a4, a5, a6, a7, a8, a9, a10, a11, some (Sum.inr o), a13, a14], Sum.inr o :: st, s, k) := zev_go rfl rfl
set_option maxRecDepth 8000 in
theorem zr_L_build_389 {sc : List Int32} (a0 a1 a2 a3 a4 a5 a6 a7 a8 a9 a10 a11 a12 a13 : Option zAV) (st : List zAV) (s : zAS) (k : Nat × Nat) (x : Int32) : zev (zk_L_build sc) (389, [a0, a1, a2, a3, a4, a5, a6, a7, a8, a9, a10, a11, a12, a13, some (Sum.inl (Value.int x))], st, s, k) = zev (zk_L_build sc) (391, [a0, a1, a2, a3, a4, a5, a6, a7, a8, a9, a10, a11, a12, a13, some (Sum.inl (Value.int x))], Sum.inl (Value.int x) :: st, s, k) := zev_go rfl rfl
set_option maxRecDepth 8000 in
theorem zr_L_build_391 {sc : List Int32} (a0 a1 a2 a3 a4 a5 a7 a8 a9 a10 a11 a12 a13 a14 : Option zAV) (st : List zAV) (s : zAS) (k : Nat × Nat) (o : Nat × Nat) : zev (zk_L_build sc) (391, [a0, a1, a2, a3, a4, a5, some (Sum.inr o), a7, a8, a9, a10, a11, a12, a13, a14], st, s, k) = zev (zk_L_build sc) (393, [a0, a1, a2, a3, a4, a5, some (Sum.inr o), a7, a8, a9, a10, a11, a12, a13, a14], Sum.inr o :: st, s, k) := zev_go rfl rfl
set_option maxRecDepth 8000 in
theorem zr_L_build_393 {sc : List Int32} (a0 a1 a2 a3 a4 a5 a6 a8 a9 a10 a11 a12 a13 a14 : Option zAV) (st : List zAV) (s : zAS) (k : Nat × Nat) (x : Int32) : zev (zk_L_build sc) (393, [a0, a1, a2, a3, a4, a5, a6, some (Sum.inl (Value.int x)), a8, a9, a10, a11, a12, a13, a14], st, s, k) = zev (zk_L_build sc) (395, [a0, a1, a2, a3, a4, a5, a6, some (Sum.inl (Value.int x)), a8, a9, a10, a11, a12, a13, a14], Sum.inl (Value.int x) :: st, s, k) := zev_go rfl rfl
set_option maxRecDepth 8000 in
theorem zr_L_build_395 {sc : List Int32} (a0 a1 a2 a3 a4 a6 a7 a8 a9 a10 a11 a12 a13 a14 : Option zAV) (st : List zAV) (s : zAS) (k : Nat × Nat) (o : Nat × Nat) : zev (zk_L_build sc) (395, [a0, a1, a2, a3, a4, some (Sum.inr o), a6, a7, a8, a9, a10, a11, a12, a13, a14], st, s, k) = zev (zk_L_build sc) (397, [a0, a1, a2, a3, a4, some (Sum.inr o), a6, a7, a8, a9, a10, a11, a12, a13, a14], Sum.inr o :: st, s, k) := zev_go rfl rfl
set_option maxRecDepth 8000 in
theorem zr_L_build_397 {sc : List Int32} (a0 a1 a2 a3 a4 a5 a6 a7 a8 a9 a11 a12 a13 a14 : Option zAV) (st : List zAV) (s : zAS) (k : Nat × Nat) (x : Int32) : zev (zk_L_build sc) (397, [a0, a1, a2, a3, a4, a5, a6, a7, a8, a9, some (Sum.inl (Value.int x)), a11, a12, a13, a14], st, s, k) = zev (zk_L_build sc) (399, [a0, a1, a2, a3, a4, a5, a6, a7, a8, a9, some (Sum.inl (Value.int x)), a11, a12, a13, a14], Sum.inl (Value.int x) :: st, s, k) := zev_go rfl rfl
set_option maxRecDepth 8000 in
theorem zr_L_build_399 {sc : List Int32} (ls : zLs) (st : List zAV) (s : zAS) (k : Nat × Nat) (i : Nat) (j : Int32) : zev (zk_L_build sc) (399, ls, Sum.inl (Value.int j) :: Sum.inr (99, i) :: st, s, k) = zpush (zk_L_build sc) 400 ls st s k (zalds i j s.2) := zf_aalds rfl
set_option maxRecDepth 8000 in
theorem zr_L_build_400 {sc : List Int32} (a0 a1 a2 a3 a4 a5 a6 a7 a8 a9 a10 a11 a12 a13 : Option zAV) (st : List zAV) (s : zAS) (k : Nat × Nat) (x : Int32) : zev (zk_L_build sc) (400, [a0, a1, a2, a3, a4, a5, a6, a7, a8, a9, a10, a11, a12, a13, some (Sum.inl (Value.int x))], st, s, k) = zev (zk_L_build sc) (402, [a0, a1, a2, a3, a4, a5, a6, a7, a8, a9, a10, a11, a12, a13, some (Sum.inl (Value.int x))], Sum.inl (Value.int x) :: st, s, k) := zev_go rfl rfl
set_option maxRecDepth 8000 in
theorem zr_L_build_402 {sc : List Int32} (ls : zLs) (st : List zAV) (s : zAS) (k : Nat × Nat) (i : Nat) (v0 : zAV) (h : i < 6 ∧ (st.map zcat).sum ≤ 8 ∧ k.1 + 0 ≤ (zR_L_build).cells ∧ k.2 + 0 ≤ (zR_L_build).slots) : zev (zk_L_build sc) (402, ls, v0 :: Sum.inr (96, i) :: st, s, k) = zret (zk_L_build sc) 405 ls st (k.1 + 0, k.2 + 0) (m_J0_charAt_5068e [Sum.inr (96, i), v0] s) := zf_scall (as := [v0]) 1 rfl rfl h
set_option maxRecDepth 8000 in
theorem zr_L_build_405 {sc : List Int32} (ls : zLs) (st : List zAV) (s : zAS) (k : Nat × Nat) : zev (zk_L_build sc) (405, ls, st, s, k) = zev (zk_L_build sc) (407, ls, Sum.inl (Value.int (48)) :: st, s, k) := zev_go rfl rfl
set_option maxRecDepth 8000 in
theorem zr_L_build_407 {sc : List Int32} (ls : zLs) (st : List zAV) (s : zAS) (k : Nat × Nat) (x y : Int32) : zev (zk_L_build sc) (407, ls, Sum.inl (Value.int y) :: Sum.inl (Value.int x) :: st, s, k) = zev (zk_L_build sc) (408, ls, Sum.inl (Value.int (x - y)) :: st, s, k) := zev_go rfl rfl
set_option maxRecDepth 8000 in
theorem zr_L_build_408 {sc : List Int32} (a0 a1 a2 a3 a4 a5 a6 a7 a8 a10 a11 a12 a13 a14 : Option zAV) (st : List zAV) (s : zAS) (k : Nat × Nat) (x : Int32) : zev (zk_L_build sc) (408, [a0, a1, a2, a3, a4, a5, a6, a7, a8, some (Sum.inl (Value.int x)), a10, a11, a12, a13, a14], st, s, k) = zev (zk_L_build sc) (410, [a0, a1, a2, a3, a4, a5, a6, a7, a8, some (Sum.inl (Value.int x)), a10, a11, a12, a13, a14], Sum.inl (Value.int x) :: st, s, k) := zev_go rfl rfl
set_option maxRecDepth 8000 in
theorem zr_L_build_410 {sc : List Int32} (ls : zLs) (st : List zAV) (s : zAS) (k : Nat × Nat) : zev (zk_L_build sc) (410, ls, st, s, k) = zev (zk_L_build sc) (411, ls, Sum.inl (Value.int (3)) :: st, s, k) := zev_go rfl rfl
set_option maxRecDepth 8000 in
theorem zr_L_build_411 {sc : List Int32} (ls : zLs) (st : List zAV) (s : zAS) (k : Nat × Nat) : zev (zk_L_build sc) (411, ls, st, s, k) = zev (zk_L_build sc) (412, ls, Sum.inl (Value.int (2)) :: st, s, k) := zev_go rfl rfl
set_option maxRecDepth 8000 in
theorem zr_L_build_412 {sc : List Int32} (a0 a1 a2 a3 a4 a5 a6 a7 a8 a9 a10 a11 a12 a13 : Option zAV) (st : List zAV) (s : zAS) (k : Nat × Nat) (x : Int32) : zev (zk_L_build sc) (412, [a0, a1, a2, a3, a4, a5, a6, a7, a8, a9, a10, a11, a12, a13, some (Sum.inl (Value.int x))], st, s, k) = zev (zk_L_build sc) (414, [a0, a1, a2, a3, a4, a5, a6, a7, a8, a9, a10, a11, a12, a13, some (Sum.inl (Value.int x))], Sum.inl (Value.int x) :: st, s, k) := zev_go rfl rfl
set_option maxRecDepth 8000 in
theorem zr_L_build_414 {sc : List Int32} (ls : zLs) (st : List zAV) (s : zAS) (k : Nat × Nat) (x y : Int32) : zev (zk_L_build sc) (414, ls, Sum.inl (Value.int y) :: Sum.inl (Value.int x) :: st, s, k) = zev (zk_L_build sc) (415, ls, Sum.inl (Value.int (x * y)) :: st, s, k) := zev_go rfl rfl
set_option maxRecDepth 8000 in
theorem zr_L_build_415 {sc : List Int32} (ls : zLs) (st : List zAV) (s : zAS) (k : Nat × Nat) (x y : Int32) : zev (zk_L_build sc) (415, ls, Sum.inl (Value.int y) :: Sum.inl (Value.int x) :: st, s, k) = zev (zk_L_build sc) (416, ls, Sum.inl (Value.int (x + y)) :: st, s, k) := zev_go rfl rfl
set_option maxRecDepth 8000 in
theorem zr_L_build_416 {sc : List Int32} (ls : zLs) (st : List zAV) (s : zAS) (k : Nat × Nat) (x y : Int32) : zev (zk_L_build sc) (416, ls, Sum.inl (Value.int y) :: Sum.inl (Value.int x) :: st, s, k) = zev (zk_L_build sc) (417, ls, Sum.inl (Value.int (x >>> (y &&& 31))) :: st, s, k) := zev_go rfl rfl
set_option maxRecDepth 8000 in
theorem zr_L_build_417 {sc : List Int32} (ls : zLs) (st : List zAV) (s : zAS) (k : Nat × Nat) : zev (zk_L_build sc) (417, ls, st, s, k) = zev (zk_L_build sc) (419, ls, Sum.inl (Value.int (7)) :: st, s, k) := zev_go rfl rfl
set_option maxRecDepth 8000 in
theorem zr_L_build_419 {sc : List Int32} (a0 a1 a2 a3 a4 a5 a6 a7 a8 a9 a10 a11 a12 a13 : Option zAV) (st : List zAV) (s : zAS) (k : Nat × Nat) (x : Int32) : zev (zk_L_build sc) (419, [a0, a1, a2, a3, a4, a5, a6, a7, a8, a9, a10, a11, a12, a13, some (Sum.inl (Value.int x))], st, s, k) = zev (zk_L_build sc) (421, [a0, a1, a2, a3, a4, a5, a6, a7, a8, a9, a10, a11, a12, a13, some (Sum.inl (Value.int x))], Sum.inl (Value.int x) :: st, s, k) := zev_go rfl rfl
set_option maxRecDepth 8000 in
theorem zr_L_build_421 {sc : List Int32} (ls : zLs) (st : List zAV) (s : zAS) (k : Nat × Nat) (x y : Int32) : zev (zk_L_build sc) (421, ls, Sum.inl (Value.int y) :: Sum.inl (Value.int x) :: st, s, k) = zev (zk_L_build sc) (422, ls, Sum.inl (Value.int (x * y)) :: st, s, k) := zev_go rfl rfl
set_option maxRecDepth 8000 in
theorem zr_L_build_422 {sc : List Int32} (ls : zLs) (st : List zAV) (s : zAS) (k : Nat × Nat) (x y : Int32) : zev (zk_L_build sc) (422, ls, Sum.inl (Value.int y) :: Sum.inl (Value.int x) :: st, s, k) = zev (zk_L_build sc) (423, ls, Sum.inl (Value.int (x + y)) :: st, s, k) := zev_go rfl rfl
set_option maxRecDepth 8000 in
theorem zr_L_build_423 {sc : List Int32} (ls : zLs) (st : List zAV) (s : zAS) (k : Nat × Nat) (v0 v1 v2 v3 : zAV) (h : (st.map zcat).sum ≤ 8 ∧ k.1 + 0 ≤ (zR_L_build).cells ∧ k.2 + 0 ≤ (zR_L_build).slots) : zev (zk_L_build sc) (423, ls, v3 :: v2 :: v1 :: v0 :: st, s, k) = zret (zk_L_build sc) 426 ls st (k.1 + 0, k.2 + 0) ((m_L_pick sc) [v0, v1, v2, v3] s) := zf_callS (as := [v3, v2, v1, v0]) 4 rfl rfl h
set_option maxRecDepth 8000 in
theorem zr_L_build_426 {sc : List Int32} (ls : zLs) (st : List zAV) (s : zAS) (k : Nat × Nat) (o i : Nat) (j x : Int32) : zev (zk_L_build sc) (426, ls, Sum.inl (Value.int x) :: Sum.inl (Value.int j) :: Sum.inr (o, i) :: st, s, k) = zgo (zk_L_build sc) 427 ls st k (zast (zES sc) o i j x s) := zf_iast rfl
set_option maxRecDepth 8000 in
theorem zr_L_build_427 {sc : List Int32} (a0 a1 a2 a3 a4 a5 a6 a7 a8 a9 a10 a11 a12 a14 : Option zAV) (st : List zAV) (s : zAS) (k : Nat × Nat) (x : Int32) : zev (zk_L_build sc) (427, [a0, a1, a2, a3, a4, a5, a6, a7, a8, a9, a10, a11, a12, some (Sum.inl (Value.int x)), a14], st, s, k) = zev (zk_L_build sc) (429, [a0, a1, a2, a3, a4, a5, a6, a7, a8, a9, a10, a11, a12, some (Sum.inl (Value.int x)), a14], Sum.inl (Value.int x) :: st, s, k) := zev_go rfl rfl
set_option maxRecDepth 8000 in
theorem zr_L_build_429 {sc : List Int32} (ls : zLs) (st : List zAV) (s : zAS) (k : Nat × Nat) (x : Int32) : zev (zk_L_build sc) (429, ls, Sum.inl (Value.int x) :: st, s, k) = if decide (x = 0) = true then zev (zk_L_build sc) (444, ls, st, s, k) else zev (zk_L_build sc) (432, ls, st, s, k) := zf_if (f := fun x => decide (x = 0)) rfl
set_option maxRecDepth 8000 in
theorem zr_L_build_432 {sc : List Int32} (a0 a1 a2 a3 a4 a5 a6 a7 a8 a9 a10 a11 a13 a14 : Option zAV) (st : List zAV) (s : zAS) (k : Nat × Nat) (o : Nat × Nat) : zev (zk_L_build sc) (432, [a0, a1, a2, a3, a4, a5, a6, a7, a8, a9, a10, a11, some (Sum.inr o), a13, a14], st, s, k) = zev (zk_L_build sc) (434, [a0, a1, a2, a3, a4, a5, a6, a7, a8, a9, a10, a11, some (Sum.inr o), a13, a14], Sum.inr o :: st, s, k) := zev_go rfl rfl
set_option maxRecDepth 8000 in
theorem zr_L_build_434 {sc : List Int32} (a0 a1 a2 a3 a4 a5 a6 a7 a8 a9 a10 a11 a12 a13 : Option zAV) (st : List zAV) (s : zAS) (k : Nat × Nat) (x : Int32) : zev (zk_L_build sc) (434, [a0, a1, a2, a3, a4, a5, a6, a7, a8, a9, a10, a11, a12, a13, some (Sum.inl (Value.int x))], st, s, k) = zev (zk_L_build sc) (436, [a0, a1, a2, a3, a4, a5, a6, a7, a8, a9, a10, a11, a12, a13, some (Sum.inl (Value.int x))], Sum.inl (Value.int x) :: st, s, k) := zev_go rfl rfl
set_option maxRecDepth 8000 in
theorem zr_L_build_436 {sc : List Int32} (ls : zLs) (st : List zAV) (s : zAS) (k : Nat × Nat) (o i : Nat) (j : Int32) : zev (zk_L_build sc) (436, ls, Sum.inl (Value.int j) :: Sum.inr (o, i) :: st, s, k) = zpush (zk_L_build sc) 437 ls st s k (zald (zES sc) o i j s) := zf_iald rfl
set_option maxRecDepth 8000 in
theorem zr_L_build_437 {sc : List Int32} (ls : zLs) (st : List zAV) (s : zAS) (k : Nat × Nat) (x : Int32) : zev (zk_L_build sc) (437, ls, Sum.inl (Value.int x) :: st, s, k) = if decide (x < 0) = true then zev (zk_L_build sc) (444, ls, st, s, k) else zev (zk_L_build sc) (440, ls, st, s, k) := zf_if (f := fun x => decide (x < 0)) rfl
set_option maxRecDepth 8000 in
theorem zr_L_build_440 {sc : List Int32} (ls : zLs) (st : List zAV) (s : zAS) (k : Nat × Nat) : zev (zk_L_build sc) (440, ls, st, s, k) = zev (zk_L_build sc) (441, ls, Sum.inl (Value.int (1)) :: st, s, k) := zev_go rfl rfl
set_option maxRecDepth 8000 in
theorem zr_L_build_441 {sc : List Int32} (ls : zLs) (st : List zAV) (s : zAS) (k : Nat × Nat) : zev (zk_L_build sc) (441, ls, st, s, k) = zev (zk_L_build sc) (445, ls, st, s, k) := zev_go rfl rfl
set_option maxRecDepth 8000 in
theorem zr_L_build_444 {sc : List Int32} (ls : zLs) (st : List zAV) (s : zAS) (k : Nat × Nat) : zev (zk_L_build sc) (444, ls, st, s, k) = zev (zk_L_build sc) (445, ls, Sum.inl (Value.int (0)) :: st, s, k) := zev_go rfl rfl
set_option maxRecDepth 8000 in
theorem zr_L_build_445 {sc : List Int32} (a0 a1 a2 a3 a4 a5 a6 a7 a8 a9 a10 a11 a12 a13 a14 : Option zAV) (st : List zAV) (s : zAS) (k : Nat × Nat) (x : Int32) : zev (zk_L_build sc) (445, [a0, a1, a2, a3, a4, a5, a6, a7, a8, a9, a10, a11, a12, a13, a14], Sum.inl (Value.int x) :: st, s, k) = zev (zk_L_build sc) (447, [a0, a1, a2, a3, a4, a5, a6, a7, a8, a9, a10, a11, zk1 a12, some (Sum.inl (Value.int x)), a14], st, s, k) := zev_go rfl rfl
set_option maxRecDepth 8000 in
theorem zr_L_build_447 {sc : List Int32} (a0 a1 a2 a3 a4 a5 a6 a7 a8 a9 a10 a11 a12 a13 : Option zAV) (st : List zAV) (s : zAS) (k : Nat × Nat) (x : Int32) : zev (zk_L_build sc) (447, [a0, a1, a2, a3, a4, a5, a6, a7, a8, a9, a10, a11, a12, a13, some (Sum.inl (Value.int x))], st, s, k) = zev (zk_L_build sc) (450, [a0, a1, a2, a3, a4, a5, a6, a7, a8, a9, a10, a11, a12, zk1 a13, some (Sum.inl (Value.int (x + (1))))], st, s, k) := zev_go rfl rfl
set_option maxRecDepth 8000 in
theorem zr_L_build_450 {sc : List Int32} (ls : zLs) (st : List zAV) (s : zAS) (k : Nat × Nat) : zev (zk_L_build sc) (450, ls, st, s, k) = zev (zk_L_build sc) (374, ls, st, s, k) := zev_go rfl rfl
set_option maxRecDepth 8000 in
theorem zr_L_build_453 {sc : List Int32} (a0 a1 a2 a3 a4 a5 a6 a7 a8 a9 a10 a11 a12 a14 : Option zAV) (st : List zAV) (s : zAS) (k : Nat × Nat) (x : Int32) : zev (zk_L_build sc) (453, [a0, a1, a2, a3, a4, a5, a6, a7, a8, a9, a10, a11, a12, some (Sum.inl (Value.int x)), a14], st, s, k) = zev (zk_L_build sc) (455, [a0, a1, a2, a3, a4, a5, a6, a7, a8, a9, a10, a11, a12, some (Sum.inl (Value.int x)), a14], Sum.inl (Value.int x) :: st, s, k) := zev_go rfl rfl
set_option maxRecDepth 8000 in
theorem zr_L_build_455 {sc : List Int32} (ls : zLs) (st : List zAV) (s : zAS) (k : Nat × Nat) (x : Int32) : zev (zk_L_build sc) (455, ls, Sum.inl (Value.int x) :: st, s, k) = if decide (¬ x = 0) = true then zev (zk_L_build sc) (461, ls, st, s, k) else zev (zk_L_build sc) (458, ls, st, s, k) := zf_if (f := fun x => decide (¬ x = 0)) rfl
set_option maxRecDepth 8000 in
theorem zr_L_build_458 {sc : List Int32} (ls : zLs) (st : List zAV) (s : zAS) (k : Nat × Nat) : zev (zk_L_build sc) (458, ls, st, s, k) = zev (zk_L_build sc) (618, ls, st, s, k) := zev_go rfl rfl
set_option maxRecDepth 8000 in
theorem zr_L_build_461 {sc : List Int32} (a1 a2 a3 a4 a5 a6 a7 a8 a9 a10 a11 a12 a13 a14 : Option zAV) (st : List zAV) (s : zAS) (k : Nat × Nat) (o : Nat × Nat) : zev (zk_L_build sc) (461, [some (Sum.inr o), a1, a2, a3, a4, a5, a6, a7, a8, a9, a10, a11, a12, a13, a14], st, s, k) = zev (zk_L_build sc) (462, [some (Sum.inr o), a1, a2, a3, a4, a5, a6, a7, a8, a9, a10, a11, a12, a13, a14], Sum.inr o :: st, s, k) := zev_go rfl rfl
set_option maxRecDepth 8000 in
theorem zr_L_build_462 {sc : List Int32} (a0 a1 a2 a3 a5 a6 a7 a8 a9 a10 a11 a12 a13 a14 : Option zAV) (st : List zAV) (s : zAS) (k : Nat × Nat) (o : Nat × Nat) : zev (zk_L_build sc) (462, [a0, a1, a2, a3, some (Sum.inr o), a5, a6, a7, a8, a9, a10, a11, a12, a13, a14], st, s, k) = zev (zk_L_build sc) (464, [a0, a1, a2, a3, some (Sum.inr o), a5, a6, a7, a8, a9, a10, a11, a12, a13, a14], Sum.inr o :: st, s, k) := zev_go rfl rfl
set_option maxRecDepth 8000 in
theorem zr_L_build_464 {sc : List Int32} (a0 a1 a2 a3 a4 a5 a6 a7 a8 a9 a11 a12 a13 a14 : Option zAV) (st : List zAV) (s : zAS) (k : Nat × Nat) (x : Int32) : zev (zk_L_build sc) (464, [a0, a1, a2, a3, a4, a5, a6, a7, a8, a9, some (Sum.inl (Value.int x)), a11, a12, a13, a14], st, s, k) = zev (zk_L_build sc) (466, [a0, a1, a2, a3, a4, a5, a6, a7, a8, a9, some (Sum.inl (Value.int x)), a11, a12, a13, a14], Sum.inl (Value.int x) :: st, s, k) := zev_go rfl rfl
set_option maxRecDepth 8000 in
theorem zr_L_build_466 {sc : List Int32} (ls : zLs) (st : List zAV) (s : zAS) (k : Nat × Nat) (o i : Nat) (j : Int32) : zev (zk_L_build sc) (466, ls, Sum.inl (Value.int j) :: Sum.inr (o, i) :: st, s, k) = zpush (zk_L_build sc) 467 ls st s k (zald (zES sc) o i j s) := zf_iald rfl
set_option maxRecDepth 8000 in
theorem zr_L_build_467 {sc : List Int32} (a0 a1 a2 a3 a4 a5 a6 a7 a8 a9 a10 a11 a13 a14 : Option zAV) (st : List zAV) (s : zAS) (k : Nat × Nat) (o : Nat × Nat) : zev (zk_L_build sc) (467, [a0, a1, a2, a3, a4, a5, a6, a7, a8, a9, a10, a11, some (Sum.inr o), a13, a14], st, s, k) = zev (zk_L_build sc) (469, [a0, a1, a2, a3, a4, a5, a6, a7, a8, a9, a10, a11, some (Sum.inr o), a13, a14], Sum.inr o :: st, s, k) := zev_go rfl rfl
set_option maxRecDepth 8000 in
theorem zr_L_build_469 {sc : List Int32} (ls : zLs) (st : List zAV) (s : zAS) (k : Nat × Nat) : zev (zk_L_build sc) (469, ls, st, s, k) = zev (zk_L_build sc) (470, ls, Sum.inl (Value.int (0)) :: st, s, k) := zev_go rfl rfl
set_option maxRecDepth 8000 in
theorem zr_L_build_470 {sc : List Int32} (ls : zLs) (st : List zAV) (s : zAS) (k : Nat × Nat) (o i : Nat) (j : Int32) : zev (zk_L_build sc) (470, ls, Sum.inl (Value.int j) :: Sum.inr (o, i) :: st, s, k) = zpush (zk_L_build sc) 471 ls st s k (zald (zES sc) o i j s) := zf_iald rfl
set_option maxRecDepth 8000 in
theorem zr_L_build_471 {sc : List Int32} (a0 a1 a2 a3 a4 a5 a6 a7 a8 a9 a10 a11 a13 a14 : Option zAV) (st : List zAV) (s : zAS) (k : Nat × Nat) (o : Nat × Nat) : zev (zk_L_build sc) (471, [a0, a1, a2, a3, a4, a5, a6, a7, a8, a9, a10, a11, some (Sum.inr o), a13, a14], st, s, k) = zev (zk_L_build sc) (473, [a0, a1, a2, a3, a4, a5, a6, a7, a8, a9, a10, a11, some (Sum.inr o), a13, a14], Sum.inr o :: st, s, k) := zev_go rfl rfl
set_option maxRecDepth 8000 in
theorem zr_L_build_473 {sc : List Int32} (ls : zLs) (st : List zAV) (s : zAS) (k : Nat × Nat) : zev (zk_L_build sc) (473, ls, st, s, k) = zev (zk_L_build sc) (474, ls, Sum.inl (Value.int (1)) :: st, s, k) := zev_go rfl rfl
set_option maxRecDepth 8000 in
theorem zr_L_build_474 {sc : List Int32} (ls : zLs) (st : List zAV) (s : zAS) (k : Nat × Nat) (o i : Nat) (j : Int32) : zev (zk_L_build sc) (474, ls, Sum.inl (Value.int j) :: Sum.inr (o, i) :: st, s, k) = zpush (zk_L_build sc) 475 ls st s k (zald (zES sc) o i j s) := zf_iald rfl
set_option maxRecDepth 8000 in
theorem zr_L_build_475 {sc : List Int32} (a0 a1 a2 a3 a4 a5 a6 a7 a8 a9 a10 a11 a13 a14 : Option zAV) (st : List zAV) (s : zAS) (k : Nat × Nat) (o : Nat × Nat) : zev (zk_L_build sc) (475, [a0, a1, a2, a3, a4, a5, a6, a7, a8, a9, a10, a11, some (Sum.inr o), a13, a14], st, s, k) = zev (zk_L_build sc) (477, [a0, a1, a2, a3, a4, a5, a6, a7, a8, a9, a10, a11, some (Sum.inr o), a13, a14], Sum.inr o :: st, s, k) := zev_go rfl rfl
set_option maxRecDepth 8000 in
theorem zr_L_build_477 {sc : List Int32} (ls : zLs) (st : List zAV) (s : zAS) (k : Nat × Nat) : zev (zk_L_build sc) (477, ls, st, s, k) = zev (zk_L_build sc) (478, ls, Sum.inl (Value.int (2)) :: st, s, k) := zev_go rfl rfl
set_option maxRecDepth 8000 in
theorem zr_L_build_478 {sc : List Int32} (ls : zLs) (st : List zAV) (s : zAS) (k : Nat × Nat) (o i : Nat) (j : Int32) : zev (zk_L_build sc) (478, ls, Sum.inl (Value.int j) :: Sum.inr (o, i) :: st, s, k) = zpush (zk_L_build sc) 479 ls st s k (zald (zES sc) o i j s) := zf_iald rfl
set_option maxRecDepth 8000 in
theorem zr_L_build_479 {sc : List Int32} (ls : zLs) (st : List zAV) (s : zAS) (k : Nat × Nat) (r v0 v1 v2 v3 : zAV) (h : zcok (zES sc) 8 0 0 (zR_L_build).cells (zR_L_build).slots r st k) : zev (zk_L_build sc) (479, ls, v3 :: v2 :: v1 :: v0 :: r :: st, s, k) = zret (zk_L_build sc) 482 ls st (k.1 + 0, k.2 + 0) (m_X8_make [r, v0, v1, v2, v3] s) := zf_callV (as := [v3, v2, v1, v0]) 4 rfl rfl h
set_option maxRecDepth 8000 in
theorem zr_L_build_482 {sc : List Int32} (a0 a1 a2 a3 a4 a5 a6 a7 a8 a9 a10 a11 a12 a13 a14 : Option zAV) (st : List zAV) (s : zAS) (k : Nat × Nat) (x : Int32) : zev (zk_L_build sc) (482, [a0, a1, a2, a3, a4, a5, a6, a7, a8, a9, a10, a11, a12, a13, a14], Sum.inl (Value.int x) :: st, s, k) = zev (zk_L_build sc) (484, [a0, a1, a2, a3, a4, a5, a6, a7, a8, a9, zk1 a10, some (Sum.inl (Value.int x)), a12, a13, a14], st, s, k) := zev_go rfl rfl
set_option maxRecDepth 8000 in
theorem zr_L_build_484 {sc : List Int32} (a0 a1 a2 a3 a4 a5 a6 a7 a8 a9 a10 a12 a13 a14 : Option zAV) (st : List zAV) (s : zAS) (k : Nat × Nat) (x : Int32) : zev (zk_L_build sc) (484, [a0, a1, a2, a3, a4, a5, a6, a7, a8, a9, a10, some (Sum.inl (Value.int x)), a12, a13, a14], st, s, k) = zev (zk_L_build sc) (486, [a0, a1, a2, a3, a4, a5, a6, a7, a8, a9, a10, some (Sum.inl (Value.int x)), a12, a13, a14], Sum.inl (Value.int x) :: st, s, k) := zev_go rfl rfl
set_option maxRecDepth 8000 in
theorem zr_L_build_486 {sc : List Int32} (a0 a1 a2 a3 a4 a5 a6 a8 a9 a10 a11 a12 a13 a14 : Option zAV) (st : List zAV) (s : zAS) (k : Nat × Nat) (x : Int32) : zev (zk_L_build sc) (486, [a0, a1, a2, a3, a4, a5, a6, some (Sum.inl (Value.int x)), a8, a9, a10, a11, a12, a13, a14], st, s, k) = zev (zk_L_build sc) (488, [a0, a1, a2, a3, a4, a5, a6, some (Sum.inl (Value.int x)), a8, a9, a10, a11, a12, a13, a14], Sum.inl (Value.int x) :: st, s, k) := zev_go rfl rfl
set_option maxRecDepth 8000 in
theorem zr_L_build_488 {sc : List Int32} (ls : zLs) (st : List zAV) (s : zAS) (k : Nat × Nat) (x y : Int32) : zev (zk_L_build sc) (488, ls, Sum.inl (Value.int y) :: Sum.inl (Value.int x) :: st, s, k) = if decide (¬ x = y) = true then zev (zk_L_build sc) (562, ls, st, s, k) else zev (zk_L_build sc) (491, ls, st, s, k) := zf_cmp (f := fun x y => decide (¬ x = y)) rfl
set_option maxRecDepth 8000 in
theorem zr_L_build_491 {sc : List Int32} (a1 a2 a3 a4 a5 a6 a7 a8 a9 a10 a11 a12 a13 a14 : Option zAV) (st : List zAV) (s : zAS) (k : Nat × Nat) (o : Nat × Nat) : zev (zk_L_build sc) (491, [some (Sum.inr o), a1, a2, a3, a4, a5, a6, a7, a8, a9, a10, a11, a12, a13, a14], st, s, k) = zev (zk_L_build sc) (492, [some (Sum.inr o), a1, a2, a3, a4, a5, a6, a7, a8, a9, a10, a11, a12, a13, a14], Sum.inr o :: st, s, k) := zev_go rfl rfl
set_option maxRecDepth 8000 in
theorem zr_L_build_492 {sc : List Int32} (a0 a1 a2 a3 a4 a5 a6 a7 a8 a9 a10 a12 a13 a14 : Option zAV) (st : List zAV) (s : zAS) (k : Nat × Nat) (x : Int32) : zev (zk_L_build sc) (492, [a0, a1, a2, a3, a4, a5, a6, a7, a8, a9, a10, some (Sum.inl (Value.int x)), a12, a13, a14], st, s, k) = zev (zk_L_build sc) (494, [a0, a1, a2, a3, a4, a5, a6, a7, a8, a9, a10, some (Sum.inl (Value.int x)), a12, a13, a14], Sum.inl (Value.int x) :: st, s, k) := zev_go rfl rfl
set_option maxRecDepth 8000 in
theorem zr_L_build_494 {sc : List Int32} (ls : zLs) (st : List zAV) (s : zAS) (k : Nat × Nat) : zev (zk_L_build sc) (494, ls, st, s, k) = zev (zk_L_build sc) (495, ls, Sum.inl (Value.int (1)) :: st, s, k) := zev_go rfl rfl
set_option maxRecDepth 8000 in
theorem zr_L_build_495 {sc : List Int32} (ls : zLs) (st : List zAV) (s : zAS) (k : Nat × Nat) (r v0 v1 : zAV) (h : zcok (zES sc) 8 0 0 (zR_L_build).cells (zR_L_build).slots r st k) : zev (zk_L_build sc) (495, ls, v1 :: v0 :: r :: st, s, k) = zret (zk_L_build sc) 498 ls st (k.1 + 0, k.2 + 0) (m_X8_object [r, v0, v1] s) := zf_callV (as := [v1, v0]) 2 rfl rfl h
set_option maxRecDepth 8000 in
theorem zr_L_build_498 {sc : List Int32} (a0 a1 a2 a3 a5 a6 a7 a8 a9 a10 a11 a12 a13 a14 : Option zAV) (st : List zAV) (s : zAS) (k : Nat × Nat) (o : Nat × Nat) : zev (zk_L_build sc) (498, [a0, a1, a2, a3, some (Sum.inr o), a5, a6, a7, a8, a9, a10, a11, a12, a13, a14], st, s, k) = zev (zk_L_build sc) (500, [a0, a1, a2, a3, some (Sum.inr o), a5, a6, a7, a8, a9, a10, a11, a12, a13, a14], Sum.inr o :: st, s, k) := zev_go rfl rfl
set_option maxRecDepth 8000 in
theorem zr_L_build_500 {sc : List Int32} (a0 a1 a2 a3 a4 a5 a6 a7 a8 a9 a11 a12 a13 a14 : Option zAV) (st : List zAV) (s : zAS) (k : Nat × Nat) (x : Int32) : zev (zk_L_build sc) (500, [a0, a1, a2, a3, a4, a5, a6, a7, a8, a9, some (Sum.inl (Value.int x)), a11, a12, a13, a14], st, s, k) = zev (zk_L_build sc) (502, [a0, a1, a2, a3, a4, a5, a6, a7, a8, a9, some (Sum.inl (Value.int x)), a11, a12, a13, a14], Sum.inl (Value.int x) :: st, s, k) := zev_go rfl rfl
set_option maxRecDepth 8000 in
theorem zr_L_build_502 {sc : List Int32} (ls : zLs) (st : List zAV) (s : zAS) (k : Nat × Nat) (o i : Nat) (j : Int32) : zev (zk_L_build sc) (502, ls, Sum.inl (Value.int j) :: Sum.inr (o, i) :: st, s, k) = zpush (zk_L_build sc) 503 ls st s k (zald (zES sc) o i j s) := zf_iald rfl
set_option maxRecDepth 8000 in
theorem zr_L_build_503 {sc : List Int32} (ls : zLs) (st : List zAV) (s : zAS) (k : Nat × Nat) (x y : Int32) : zev (zk_L_build sc) (503, ls, Sum.inl (Value.int y) :: Sum.inl (Value.int x) :: st, s, k) = if decide (¬ x = y) = true then zev (zk_L_build sc) (562, ls, st, s, k) else zev (zk_L_build sc) (506, ls, st, s, k) := zf_cmp (f := fun x y => decide (¬ x = y)) rfl
set_option maxRecDepth 8000 in
theorem zr_L_build_506 {sc : List Int32} (a1 a2 a3 a4 a5 a6 a7 a8 a9 a10 a11 a12 a13 a14 : Option zAV) (st : List zAV) (s : zAS) (k : Nat × Nat) (o : Nat × Nat) : zev (zk_L_build sc) (506, [some (Sum.inr o), a1, a2, a3, a4, a5, a6, a7, a8, a9, a10, a11, a12, a13, a14], st, s, k) = zev (zk_L_build sc) (507, [some (Sum.inr o), a1, a2, a3, a4, a5, a6, a7, a8, a9, a10, a11, a12, a13, a14], Sum.inr o :: st, s, k) := zev_go rfl rfl
set_option maxRecDepth 8000 in
theorem zr_L_build_507 {sc : List Int32} (a0 a1 a2 a3 a4 a5 a6 a7 a8 a9 a10 a12 a13 a14 : Option zAV) (st : List zAV) (s : zAS) (k : Nat × Nat) (x : Int32) : zev (zk_L_build sc) (507, [a0, a1, a2, a3, a4, a5, a6, a7, a8, a9, a10, some (Sum.inl (Value.int x)), a12, a13, a14], st, s, k) = zev (zk_L_build sc) (509, [a0, a1, a2, a3, a4, a5, a6, a7, a8, a9, a10, some (Sum.inl (Value.int x)), a12, a13, a14], Sum.inl (Value.int x) :: st, s, k) := zev_go rfl rfl
set_option maxRecDepth 8000 in
theorem zr_L_build_509 {sc : List Int32} (ls : zLs) (st : List zAV) (s : zAS) (k : Nat × Nat) : zev (zk_L_build sc) (509, ls, st, s, k) = zev (zk_L_build sc) (510, ls, Sum.inl (Value.int (2)) :: st, s, k) := zev_go rfl rfl
set_option maxRecDepth 8000 in
theorem zr_L_build_510 {sc : List Int32} (ls : zLs) (st : List zAV) (s : zAS) (k : Nat × Nat) (r v0 v1 : zAV) (h : zcok (zES sc) 8 0 0 (zR_L_build).cells (zR_L_build).slots r st k) : zev (zk_L_build sc) (510, ls, v1 :: v0 :: r :: st, s, k) = zret (zk_L_build sc) 513 ls st (k.1 + 0, k.2 + 0) (m_X8_object [r, v0, v1] s) := zf_callV (as := [v1, v0]) 2 rfl rfl h
set_option maxRecDepth 8000 in
theorem zr_L_build_513 {sc : List Int32} (a0 a1 a2 a3 a4 a5 a6 a7 a8 a9 a10 a11 a13 a14 : Option zAV) (st : List zAV) (s : zAS) (k : Nat × Nat) (o : Nat × Nat) : zev (zk_L_build sc) (513, [a0, a1, a2, a3, a4, a5, a6, a7, a8, a9, a10, a11, some (Sum.inr o), a13, a14], st, s, k) = zev (zk_L_build sc) (515, [a0, a1, a2, a3, a4, a5, a6, a7, a8, a9, a10, a11, some (Sum.inr o), a13, a14], Sum.inr o :: st, s, k) := zev_go rfl rfl
set_option maxRecDepth 8000 in
theorem zr_L_build_515 {sc : List Int32} (ls : zLs) (st : List zAV) (s : zAS) (k : Nat × Nat) : zev (zk_L_build sc) (515, ls, st, s, k) = zev (zk_L_build sc) (516, ls, Sum.inl (Value.int (0)) :: st, s, k) := zev_go rfl rfl
set_option maxRecDepth 8000 in
theorem zr_L_build_516 {sc : List Int32} (ls : zLs) (st : List zAV) (s : zAS) (k : Nat × Nat) (o i : Nat) (j : Int32) : zev (zk_L_build sc) (516, ls, Sum.inl (Value.int j) :: Sum.inr (o, i) :: st, s, k) = zpush (zk_L_build sc) 517 ls st s k (zald (zES sc) o i j s) := zf_iald rfl
set_option maxRecDepth 8000 in
theorem zr_L_build_517 {sc : List Int32} (ls : zLs) (st : List zAV) (s : zAS) (k : Nat × Nat) (x y : Int32) : zev (zk_L_build sc) (517, ls, Sum.inl (Value.int y) :: Sum.inl (Value.int x) :: st, s, k) = if decide (¬ x = y) = true then zev (zk_L_build sc) (562, ls, st, s, k) else zev (zk_L_build sc) (520, ls, st, s, k) := zf_cmp (f := fun x y => decide (¬ x = y)) rfl
set_option maxRecDepth 8000 in
theorem zr_L_build_520 {sc : List Int32} (a1 a2 a3 a4 a5 a6 a7 a8 a9 a10 a11 a12 a13 a14 : Option zAV) (st : List zAV) (s : zAS) (k : Nat × Nat) (o : Nat × Nat) : zev (zk_L_build sc) (520, [some (Sum.inr o), a1, a2, a3, a4, a5, a6, a7, a8, a9, a10, a11, a12, a13, a14], st, s, k) = zev (zk_L_build sc) (521, [some (Sum.inr o), a1, a2, a3, a4, a5, a6, a7, a8, a9, a10, a11, a12, a13, a14], Sum.inr o :: st, s, k) := zev_go rfl rfl
set_option maxRecDepth 8000 in
theorem zr_L_build_521 {sc : List Int32} (a0 a1 a2 a3 a4 a5 a6 a7 a8 a9 a10 a12 a13 a14 : Option zAV) (st : List zAV) (s : zAS) (k : Nat × Nat) (x : Int32) : zev (zk_L_build sc) (521, [a0, a1, a2, a3, a4, a5, a6, a7, a8, a9, a10, some (Sum.inl (Value.int x)), a12, a13, a14], st, s, k) = zev (zk_L_build sc) (523, [a0, a1, a2, a3, a4, a5, a6, a7, a8, a9, a10, some (Sum.inl (Value.int x)), a12, a13, a14], Sum.inl (Value.int x) :: st, s, k) := zev_go rfl rfl
set_option maxRecDepth 8000 in
theorem zr_L_build_523 {sc : List Int32} (ls : zLs) (st : List zAV) (s : zAS) (k : Nat × Nat) : zev (zk_L_build sc) (523, ls, st, s, k) = zev (zk_L_build sc) (524, ls, Sum.inl (Value.int (3)) :: st, s, k) := zev_go rfl rfl
set_option maxRecDepth 8000 in
theorem zr_L_build_524 {sc : List Int32} (ls : zLs) (st : List zAV) (s : zAS) (k : Nat × Nat) (r v0 v1 : zAV) (h : zcok (zES sc) 8 0 0 (zR_L_build).cells (zR_L_build).slots r st k) : zev (zk_L_build sc) (524, ls, v1 :: v0 :: r :: st, s, k) = zret (zk_L_build sc) 527 ls st (k.1 + 0, k.2 + 0) (m_X8_object [r, v0, v1] s) := zf_callV (as := [v1, v0]) 2 rfl rfl h
set_option maxRecDepth 8000 in
theorem zr_L_build_527 {sc : List Int32} (a0 a1 a2 a3 a4 a5 a6 a7 a8 a9 a10 a11 a13 a14 : Option zAV) (st : List zAV) (s : zAS) (k : Nat × Nat) (o : Nat × Nat) : zev (zk_L_build sc) (527, [a0, a1, a2, a3, a4, a5, a6, a7, a8, a9, a10, a11, some (Sum.inr o), a13, a14], st, s, k) = zev (zk_L_build sc) (529, [a0, a1, a2, a3, a4, a5, a6, a7, a8, a9, a10, a11, some (Sum.inr o), a13, a14], Sum.inr o :: st, s, k) := zev_go rfl rfl
set_option maxRecDepth 8000 in
theorem zr_L_build_529 {sc : List Int32} (ls : zLs) (st : List zAV) (s : zAS) (k : Nat × Nat) : zev (zk_L_build sc) (529, ls, st, s, k) = zev (zk_L_build sc) (530, ls, Sum.inl (Value.int (1)) :: st, s, k) := zev_go rfl rfl
set_option maxRecDepth 8000 in
theorem zr_L_build_530 {sc : List Int32} (ls : zLs) (st : List zAV) (s : zAS) (k : Nat × Nat) (o i : Nat) (j : Int32) : zev (zk_L_build sc) (530, ls, Sum.inl (Value.int j) :: Sum.inr (o, i) :: st, s, k) = zpush (zk_L_build sc) 531 ls st s k (zald (zES sc) o i j s) := zf_iald rfl
set_option maxRecDepth 8000 in
theorem zr_L_build_531 {sc : List Int32} (ls : zLs) (st : List zAV) (s : zAS) (k : Nat × Nat) (x y : Int32) : zev (zk_L_build sc) (531, ls, Sum.inl (Value.int y) :: Sum.inl (Value.int x) :: st, s, k) = if decide (¬ x = y) = true then zev (zk_L_build sc) (562, ls, st, s, k) else zev (zk_L_build sc) (534, ls, st, s, k) := zf_cmp (f := fun x y => decide (¬ x = y)) rfl
set_option maxRecDepth 8000 in
theorem zr_L_build_534 {sc : List Int32} (a1 a2 a3 a4 a5 a6 a7 a8 a9 a10 a11 a12 a13 a14 : Option zAV) (st : List zAV) (s : zAS) (k : Nat × Nat) (o : Nat × Nat) : zev (zk_L_build sc) (534, [some (Sum.inr o), a1, a2, a3, a4, a5, a6, a7, a8, a9, a10, a11, a12, a13, a14], st, s, k) = zev (zk_L_build sc) (535, [some (Sum.inr o), a1, a2, a3, a4, a5, a6, a7, a8, a9, a10, a11, a12, a13, a14], Sum.inr o :: st, s, k) := zev_go rfl rfl
set_option maxRecDepth 8000 in
theorem zr_L_build_535 {sc : List Int32} (a0 a1 a2 a3 a4 a5 a6 a7 a8 a9 a10 a12 a13 a14 : Option zAV) (st : List zAV) (s : zAS) (k : Nat × Nat) (x : Int32) : zev (zk_L_build sc) (535, [a0, a1, a2, a3, a4, a5, a6, a7, a8, a9, a10, some (Sum.inl (Value.int x)), a12, a13, a14], st, s, k) = zev (zk_L_build sc) (537, [a0, a1, a2, a3, a4, a5, a6, a7, a8, a9, a10, some (Sum.inl (Value.int x)), a12, a13, a14], Sum.inl (Value.int x) :: st, s, k) := zev_go rfl rfl
set_option maxRecDepth 8000 in
theorem zr_L_build_537 {sc : List Int32} (ls : zLs) (st : List zAV) (s : zAS) (k : Nat × Nat) : zev (zk_L_build sc) (537, ls, st, s, k) = zev (zk_L_build sc) (538, ls, Sum.inl (Value.int (4)) :: st, s, k) := zev_go rfl rfl
set_option maxRecDepth 8000 in
theorem zr_L_build_538 {sc : List Int32} (ls : zLs) (st : List zAV) (s : zAS) (k : Nat × Nat) (r v0 v1 : zAV) (h : zcok (zES sc) 8 0 0 (zR_L_build).cells (zR_L_build).slots r st k) : zev (zk_L_build sc) (538, ls, v1 :: v0 :: r :: st, s, k) = zret (zk_L_build sc) 541 ls st (k.1 + 0, k.2 + 0) (m_X8_object [r, v0, v1] s) := zf_callV (as := [v1, v0]) 2 rfl rfl h
set_option maxRecDepth 8000 in
theorem zr_L_build_541 {sc : List Int32} (a0 a1 a2 a3 a5 a6 a7 a8 a9 a10 a11 a12 a13 a14 : Option zAV) (st : List zAV) (s : zAS) (k : Nat × Nat) (o : Nat × Nat) : zev (zk_L_build sc) (541, [a0, a1, a2, a3, some (Sum.inr o), a5, a6, a7, a8, a9, a10, a11, a12, a13, a14], st, s, k) = zev (zk_L_build sc) (543, [a0, a1, a2, a3, some (Sum.inr o), a5, a6, a7, a8, a9, a10, a11, a12, a13, a14], Sum.inr o :: st, s, k) := zev_go rfl rfl
set_option maxRecDepth 8000 in
theorem zr_L_build_543 {sc : List Int32} (a0 a1 a2 a3 a4 a5 a6 a7 a8 a9 a11 a12 a13 a14 : Option zAV) (st : List zAV) (s : zAS) (k : Nat × Nat) (x : Int32) : zev (zk_L_build sc) (543, [a0, a1, a2, a3, a4, a5, a6, a7, a8, a9, some (Sum.inl (Value.int x)), a11, a12, a13, a14], st, s, k) = zev (zk_L_build sc) (545, [a0, a1, a2, a3, a4, a5, a6, a7, a8, a9, some (Sum.inl (Value.int x)), a11, a12, a13, a14], Sum.inl (Value.int x) :: st, s, k) := zev_go rfl rfl
set_option maxRecDepth 8000 in
theorem zr_L_build_545 {sc : List Int32} (ls : zLs) (st : List zAV) (s : zAS) (k : Nat × Nat) (o i : Nat) (j : Int32) : zev (zk_L_build sc) (545, ls, Sum.inl (Value.int j) :: Sum.inr (o, i) :: st, s, k) = zpush (zk_L_build sc) 546 ls st s k (zald (zES sc) o i j s) := zf_iald rfl
set_option maxRecDepth 8000 in
theorem zr_L_build_546 {sc : List Int32} (ls : zLs) (st : List zAV) (s : zAS) (k : Nat × Nat) : zev (zk_L_build sc) (546, ls, st, s, k) = zev (zk_L_build sc) (548, ls, Sum.inl (Value.int (20)) :: st, s, k) := zev_go rfl rfl
set_option maxRecDepth 8000 in
theorem zr_L_build_548 {sc : List Int32} (ls : zLs) (st : List zAV) (s : zAS) (k : Nat × Nat) (x y : Int32) : zev (zk_L_build sc) (548, ls, Sum.inl (Value.int y) :: Sum.inl (Value.int x) :: st, s, k) = if decide (x ≤ y) = true then zev (zk_L_build sc) (558, ls, st, s, k) else zev (zk_L_build sc) (551, ls, st, s, k) := zf_cmp (f := fun x y => decide (x ≤ y)) rfl
set_option maxRecDepth 8000 in
theorem zr_L_build_551 {sc : List Int32} (a0 a1 a2 a3 a4 a5 a6 a7 a8 a9 a10 a11 a13 a14 : Option zAV) (st : List zAV) (s : zAS) (k : Nat × Nat) (o : Nat × Nat) : zev (zk_L_build sc) (551, [a0, a1, a2, a3, a4, a5, a6, a7, a8, a9, a10, a11, some (Sum.inr o), a13, a14], st, s, k) = zev (zk_L_build sc) (553, [a0, a1, a2, a3, a4, a5, a6, a7, a8, a9, a10, a11, some (Sum.inr o), a13, a14], Sum.inr o :: st, s, k) := zev_go rfl rfl
set_option maxRecDepth 8000 in
theorem zr_L_build_553 {sc : List Int32} (ls : zLs) (st : List zAV) (s : zAS) (k : Nat × Nat) : zev (zk_L_build sc) (553, ls, st, s, k) = zev (zk_L_build sc) (554, ls, Sum.inl (Value.int (2)) :: st, s, k) := zev_go rfl rfl
set_option maxRecDepth 8000 in
theorem zr_L_build_554 {sc : List Int32} (ls : zLs) (st : List zAV) (s : zAS) (k : Nat × Nat) (o i : Nat) (j : Int32) : zev (zk_L_build sc) (554, ls, Sum.inl (Value.int j) :: Sum.inr (o, i) :: st, s, k) = zpush (zk_L_build sc) 555 ls st s k (zald (zES sc) o i j s) := zf_iald rfl
set_option maxRecDepth 8000 in
theorem zr_L_build_555 {sc : List Int32} (ls : zLs) (st : List zAV) (s : zAS) (k : Nat × Nat) : zev (zk_L_build sc) (555, ls, st, s, k) = zev (zk_L_build sc) (559, ls, st, s, k) := zev_go rfl rfl
set_option maxRecDepth 8000 in
theorem zr_L_build_558 {sc : List Int32} (ls : zLs) (st : List zAV) (s : zAS) (k : Nat × Nat) : zev (zk_L_build sc) (558, ls, st, s, k) = zev (zk_L_build sc) (559, ls, Sum.inl (Value.int (-1)) :: st, s, k) := zev_go rfl rfl
set_option maxRecDepth 8000 in
theorem zr_L_build_559 {sc : List Int32} (ls : zLs) (st : List zAV) (s : zAS) (k : Nat × Nat) (x y : Int32) : zev (zk_L_build sc) (559, ls, Sum.inl (Value.int y) :: Sum.inl (Value.int x) :: st, s, k) = if decide (x = y) = true then zev (zk_L_build sc) (564, ls, st, s, k) else zev (zk_L_build sc) (562, ls, st, s, k) := zf_cmp (f := fun x y => decide (x = y)) rfl
set_option maxRecDepth 8000 in
theorem zr_L_build_562 {sc : List Int32} (ls : zLs) (st : List zAV) (s : zAS) (k : Nat × Nat) : zev (zk_L_build sc) (562, ls, st, s, k) = zev (zk_L_build sc) (563, ls, Sum.inl (Value.int (-1)) :: st, s, k) := zev_go rfl rfl
set_option maxRecDepth 8000 in
theorem zr_L_build_563 {sc : List Int32} (ls : zLs) (s : zAS) (k : Nat × Nat) (x : Int32) : zev (zk_L_build sc) (563, ls, [Sum.inl (Value.int x)], s, k) = some (.inl (some (Sum.inl (Value.int x))), s) := zf_reti rfl
set_option maxRecDepth 8000 in
theorem zr_L_build_564 {sc : List Int32} (a0 a1 a2 a3 a4 a5 a7 a8 a9 a10 a11 a12 a13 a14 : Option zAV) (st : List zAV) (s : zAS) (k : Nat × Nat) (o : Nat × Nat) : zev (zk_L_build sc) (564, [a0, a1, a2, a3, a4, a5, some (Sum.inr o), a7, a8, a9, a10, a11, a12, a13, a14], st, s, k) = zev (zk_L_build sc) (566, [a0, a1, a2, a3, a4, a5, some (Sum.inr o), a7, a8, a9, a10, a11, a12, a13, a14], Sum.inr o :: st, s, k) := zev_go rfl rfl
set_option maxRecDepth 8000 in
theorem zr_L_build_566 {sc : List Int32} (a0 a1 a2 a3 a4 a5 a6 a8 a9 a10 a11 a12 a13 a14 : Option zAV) (st : List zAV) (s : zAS) (k : Nat × Nat) (x : Int32) : zev (zk_L_build sc) (566, [a0, a1, a2, a3, a4, a5, a6, some (Sum.inl (Value.int x)), a8, a9, a10, a11, a12, a13, a14], st, s, k) = zev (zk_L_build sc) (568, [a0, a1, a2, a3, a4, a5, a6, some (Sum.inl (Value.int x)), a8, a9, a10, a11, a12, a13, a14], Sum.inl (Value.int x) :: st, s, k) := zev_go rfl rfl
set_option maxRecDepth 8000 in
theorem zr_L_build_568 {sc : List Int32} (a0 a1 a2 a3 a5 a6 a7 a8 a9 a10 a11 a12 a13 a14 : Option zAV) (st : List zAV) (s : zAS) (k : Nat × Nat) (o : Nat × Nat) : zev (zk_L_build sc) (568, [a0, a1, a2, a3, some (Sum.inr o), a5, a6, a7, a8, a9, a10, a11, a12, a13, a14], st, s, k) = zev (zk_L_build sc) (570, [a0, a1, a2, a3, some (Sum.inr o), a5, a6, a7, a8, a9, a10, a11, a12, a13, a14], Sum.inr o :: st, s, k) := zev_go rfl rfl
set_option maxRecDepth 8000 in
theorem zr_L_build_570 {sc : List Int32} (a0 a1 a2 a3 a4 a5 a6 a7 a8 a9 a11 a12 a13 a14 : Option zAV) (st : List zAV) (s : zAS) (k : Nat × Nat) (x : Int32) : zev (zk_L_build sc) (570, [a0, a1, a2, a3, a4, a5, a6, a7, a8, a9, some (Sum.inl (Value.int x)), a11, a12, a13, a14], st, s, k) = zev (zk_L_build sc) (572, [a0, a1, a2, a3, a4, a5, a6, a7, a8, a9, some (Sum.inl (Value.int x)), a11, a12, a13, a14], Sum.inl (Value.int x) :: st, s, k) := zev_go rfl rfl
set_option maxRecDepth 8000 in
theorem zr_L_build_572 {sc : List Int32} (ls : zLs) (st : List zAV) (s : zAS) (k : Nat × Nat) (o i : Nat) (j : Int32) : zev (zk_L_build sc) (572, ls, Sum.inl (Value.int j) :: Sum.inr (o, i) :: st, s, k) = zpush (zk_L_build sc) 573 ls st s k (zald (zES sc) o i j s) := zf_iald rfl
set_option maxRecDepth 8000 in
theorem zr_L_build_573 {sc : List Int32} (ls : zLs) (st : List zAV) (s : zAS) (k : Nat × Nat) : zev (zk_L_build sc) (573, ls, st, s, k) = zev (zk_L_build sc) (575, ls, Sum.inl (Value.int (10)) :: st, s, k) := zev_go rfl rfl
set_option maxRecDepth 8000 in
theorem zr_L_build_575 {sc : List Int32} (ls : zLs) (st : List zAV) (s : zAS) (k : Nat × Nat) (x y : Int32) : zev (zk_L_build sc) (575, ls, Sum.inl (Value.int y) :: Sum.inl (Value.int x) :: st, s, k) = if decide (y ≤ x) = true then zev (zk_L_build sc) (582, ls, st, s, k) else zev (zk_L_build sc) (578, ls, st, s, k) := zf_cmp (f := fun x y => decide (y ≤ x)) rfl
set_option maxRecDepth 8000 in
theorem zr_L_build_578 {sc : List Int32} (ls : zLs) (st : List zAV) (s : zAS) (k : Nat × Nat) : zev (zk_L_build sc) (578, ls, st, s, k) = zev (zk_L_build sc) (579, ls, Sum.inl (Value.int (0)) :: st, s, k) := zev_go rfl rfl
set_option maxRecDepth 8000 in
theorem zr_L_build_579 {sc : List Int32} (ls : zLs) (st : List zAV) (s : zAS) (k : Nat × Nat) : zev (zk_L_build sc) (579, ls, st, s, k) = zev (zk_L_build sc) (597, ls, st, s, k) := zev_go rfl rfl
set_option maxRecDepth 8000 in
theorem zr_L_build_582 {sc : List Int32} (a0 a1 a2 a3 a5 a6 a7 a8 a9 a10 a11 a12 a13 a14 : Option zAV) (st : List zAV) (s : zAS) (k : Nat × Nat) (o : Nat × Nat) : zev (zk_L_build sc) (582, [a0, a1, a2, a3, some (Sum.inr o), a5, a6, a7, a8, a9, a10, a11, a12, a13, a14], st, s, k) = zev (zk_L_build sc) (584, [a0, a1, a2, a3, some (Sum.inr o), a5, a6, a7, a8, a9, a10, a11, a12, a13, a14], Sum.inr o :: st, s, k) := zev_go rfl rfl
set_option maxRecDepth 8000 in
theorem zr_L_build_584 {sc : List Int32} (a0 a1 a2 a3 a4 a5 a6 a7 a8 a9 a11 a12 a13 a14 : Option zAV) (st : List zAV) (s : zAS) (k : Nat × Nat) (x : Int32) : zev (zk_L_build sc) (584, [a0, a1, a2, a3, a4, a5, a6, a7, a8, a9, some (Sum.inl (Value.int x)), a11, a12, a13, a14], st, s, k) = zev (zk_L_build sc) (586, [a0, a1, a2, a3, a4, a5, a6, a7, a8, a9, some (Sum.inl (Value.int x)), a11, a12, a13, a14], Sum.inl (Value.int x) :: st, s, k) := zev_go rfl rfl
set_option maxRecDepth 8000 in
theorem zr_L_build_586 {sc : List Int32} (ls : zLs) (st : List zAV) (s : zAS) (k : Nat × Nat) (o i : Nat) (j : Int32) : zev (zk_L_build sc) (586, ls, Sum.inl (Value.int j) :: Sum.inr (o, i) :: st, s, k) = zpush (zk_L_build sc) 587 ls st s k (zald (zES sc) o i j s) := zf_iald rfl
set_option maxRecDepth 8000 in
theorem zr_L_build_587 {sc : List Int32} (ls : zLs) (st : List zAV) (s : zAS) (k : Nat × Nat) : zev (zk_L_build sc) (587, ls, st, s, k) = zev (zk_L_build sc) (589, ls, Sum.inl (Value.int (20)) :: st, s, k) := zev_go rfl rfl
set_option maxRecDepth 8000 in
theorem zr_L_build_589 {sc : List Int32} (ls : zLs) (st : List zAV) (s : zAS) (k : Nat × Nat) (x y : Int32) : zev (zk_L_build sc) (589, ls, Sum.inl (Value.int y) :: Sum.inl (Value.int x) :: st, s, k) = if decide (y ≤ x) = true then zev (zk_L_build sc) (596, ls, st, s, k) else zev (zk_L_build sc) (592, ls, st, s, k) := zf_cmp (f := fun x y => decide (y ≤ x)) rfl
set_option maxRecDepth 8000 in
theorem zr_L_build_592 {sc : List Int32} (ls : zLs) (st : List zAV) (s : zAS) (k : Nat × Nat) : zev (zk_L_build sc) (592, ls, st, s, k) = zev (zk_L_build sc) (593, ls, Sum.inl (Value.int (1)) :: st, s, k) := zev_go rfl rfl
set_option maxRecDepth 8000 in
theorem zr_L_build_593 {sc : List Int32} (ls : zLs) (st : List zAV) (s : zAS) (k : Nat × Nat) : zev (zk_L_build sc) (593, ls, st, s, k) = zev (zk_L_build sc) (597, ls, st, s, k) := zev_go rfl rfl
set_option maxRecDepth 8000 in
theorem zr_L_build_596 {sc : List Int32} (ls : zLs) (st : List zAV) (s : zAS) (k : Nat × Nat) : zev (zk_L_build sc) (596, ls, st, s, k) = zev (zk_L_build sc) (597, ls, Sum.inl (Value.int (2)) :: st, s, k) := zev_go rfl rfl
set_option maxRecDepth 8000 in
theorem zr_L_build_597 {sc : List Int32} (ls : zLs) (st : List zAV) (s : zAS) (k : Nat × Nat) (o i : Nat) (j x : Int32) : zev (zk_L_build sc) (597, ls, Sum.inl (Value.int x) :: Sum.inl (Value.int j) :: Sum.inr (o, i) :: st, s, k) = zgo (zk_L_build sc) 598 ls st k (zast (zES sc) o i j x s) := zf_iast rfl
set_option maxRecDepth 8000 in
theorem zr_L_build_598 {sc : List Int32} (a1 a2 a3 a4 a5 a6 a7 a8 a9 a10 a11 a12 a13 a14 : Option zAV) (st : List zAV) (s : zAS) (k : Nat × Nat) (o : Nat × Nat) : zev (zk_L_build sc) (598, [some (Sum.inr o), a1, a2, a3, a4, a5, a6, a7, a8, a9, a10, a11, a12, a13, a14], st, s, k) = zev (zk_L_build sc) (599, [some (Sum.inr o), a1, a2, a3, a4, a5, a6, a7, a8, a9, a10, a11, a12, a13, a14], Sum.inr o :: st, s, k) := zev_go rfl rfl
set_option maxRecDepth 8000 in
theorem zr_L_build_599 {sc : List Int32} (a0 a1 a2 a3 a4 a5 a6 a8 a9 a10 a11 a12 a13 a14 : Option zAV) (st : List zAV) (s : zAS) (k : Nat × Nat) (x : Int32) : zev (zk_L_build sc) (599, [a0, a1, a2, a3, a4, a5, a6, some (Sum.inl (Value.int x)), a8, a9, a10, a11, a12, a13, a14], st, s, k) = zev (zk_L_build sc) (601, [a0, a1, a2, a3, a4, a5, a6, some (Sum.inl (Value.int x)), a8, a9, a10, a11, a12, a13, a14], Sum.inl (Value.int x) :: st, s, k) := zev_go rfl rfl
set_option maxRecDepth 8000 in
theorem zr_L_build_601 {sc : List Int32} (ls : zLs) (st : List zAV) (s : zAS) (k : Nat × Nat) : zev (zk_L_build sc) (601, ls, st, s, k) = zev (zk_L_build sc) (602, ls, Sum.inl (Value.int (0)) :: st, s, k) := zev_go rfl rfl
set_option maxRecDepth 8000 in
theorem zr_L_build_602 {sc : List Int32} (ls : zLs) (st : List zAV) (s : zAS) (k : Nat × Nat) (r v0 v1 : zAV) (h : zcok (zES sc) 8 0 0 (zR_L_build).cells (zR_L_build).slots r st k) : zev (zk_L_build sc) (602, ls, v1 :: v0 :: r :: st, s, k) = zret (zk_L_build sc) 605 ls st (k.1 + 0, k.2 + 0) (m_X8_object [r, v0, v1] s) := zf_callV (as := [v1, v0]) 2 rfl rfl h
set_option maxRecDepth 8000 in
theorem zr_L_build_605 {sc : List Int32} (a0 a1 a2 a3 a4 a5 a7 a8 a9 a10 a11 a12 a13 a14 : Option zAV) (st : List zAV) (s : zAS) (k : Nat × Nat) (o : Nat × Nat) : zev (zk_L_build sc) (605, [a0, a1, a2, a3, a4, a5, some (Sum.inr o), a7, a8, a9, a10, a11, a12, a13, a14], st, s, k) = zev (zk_L_build sc) (607, [a0, a1, a2, a3, a4, a5, some (Sum.inr o), a7, a8, a9, a10, a11, a12, a13, a14], Sum.inr o :: st, s, k) := zev_go rfl rfl
set_option maxRecDepth 8000 in
theorem zr_L_build_607 {sc : List Int32} (a0 a1 a2 a3 a4 a5 a6 a8 a9 a10 a11 a12 a13 a14 : Option zAV) (st : List zAV) (s : zAS) (k : Nat × Nat) (x : Int32) : zev (zk_L_build sc) (607, [a0, a1, a2, a3, a4, a5, a6, some (Sum.inl (Value.int x)), a8, a9, a10, a11, a12, a13, a14], st, s, k) = zev (zk_L_build sc) (609, [a0, a1, a2, a3, a4, a5, a6, some (Sum.inl (Value.int x)), a8, a9, a10, a11, a12, a13, a14], Sum.inl (Value.int x) :: st, s, k) := zev_go rfl rfl
set_option maxRecDepth 8000 in
theorem zr_L_build_609 {sc : List Int32} (ls : zLs) (st : List zAV) (s : zAS) (k : Nat × Nat) (o i : Nat) (j : Int32) : zev (zk_L_build sc) (609, ls, Sum.inl (Value.int j) :: Sum.inr (o, i) :: st, s, k) = zpush (zk_L_build sc) 610 ls st s k (zald (zES sc) o i j s) := zf_iald rfl
set_option maxRecDepth 8000 in
theorem zr_L_build_610 {sc : List Int32} (ls : zLs) (st : List zAV) (s : zAS) (k : Nat × Nat) (x y : Int32) : zev (zk_L_build sc) (610, ls, Sum.inl (Value.int y) :: Sum.inl (Value.int x) :: st, s, k) = if decide (x = y) = true then zev (zk_L_build sc) (615, ls, st, s, k) else zev (zk_L_build sc) (613, ls, st, s, k) := zf_cmp (f := fun x y => decide (x = y)) rfl
set_option maxRecDepth 8000 in
theorem zr_L_build_613 {sc : List Int32} (ls : zLs) (st : List zAV) (s : zAS) (k : Nat × Nat) : zev (zk_L_build sc) (613, ls, st, s, k) = zev (zk_L_build sc) (614, ls, Sum.inl (Value.int (-1)) :: st, s, k) := zev_go rfl rfl
set_option maxRecDepth 8000 in
theorem zr_L_build_614 {sc : List Int32} (ls : zLs) (s : zAS) (k : Nat × Nat) (x : Int32) : zev (zk_L_build sc) (614, ls, [Sum.inl (Value.int x)], s, k) = some (.inl (some (Sum.inl (Value.int x))), s) := zf_reti rfl
set_option maxRecDepth 8000 in
theorem zr_L_build_615 {sc : List Int32} (a0 a1 a2 a3 a4 a5 a6 a8 a9 a10 a11 a12 a13 a14 : Option zAV) (st : List zAV) (s : zAS) (k : Nat × Nat) (x : Int32) : zev (zk_L_build sc) (615, [a0, a1, a2, a3, a4, a5, a6, some (Sum.inl (Value.int x)), a8, a9, a10, a11, a12, a13, a14], st, s, k) = zev (zk_L_build sc) (618, [a0, a1, a2, a3, a4, a5, zk1 a6, some (Sum.inl (Value.int (x + (1)))), a8, a9, a10, a11, a12, a13, a14], st, s, k) := zev_go rfl rfl
set_option maxRecDepth 8000 in
theorem zr_L_build_618 {sc : List Int32} (a0 a1 a2 a3 a4 a5 a6 a7 a9 a10 a11 a12 a13 a14 : Option zAV) (st : List zAV) (s : zAS) (k : Nat × Nat) (x : Int32) : zev (zk_L_build sc) (618, [a0, a1, a2, a3, a4, a5, a6, a7, some (Sum.inl (Value.int x)), a9, a10, a11, a12, a13, a14], st, s, k) = zev (zk_L_build sc) (621, [a0, a1, a2, a3, a4, a5, a6, zk1 a7, some (Sum.inl (Value.int (x + (1)))), a9, a10, a11, a12, a13, a14], st, s, k) := zev_go rfl rfl
set_option maxRecDepth 8000 in
theorem zr_L_build_621 {sc : List Int32} (ls : zLs) (st : List zAV) (s : zAS) (k : Nat × Nat) : zev (zk_L_build sc) (621, ls, st, s, k) = zev (zk_L_build sc) (176, ls, st, s, k) := zev_go rfl rfl
set_option maxRecDepth 8000 in
theorem zr_L_build_624 {sc : List Int32} (a0 a1 a2 a3 a4 a5 a6 a8 a9 a10 a11 a12 a13 a14 : Option zAV) (st : List zAV) (s : zAS) (k : Nat × Nat) (x : Int32) : zev (zk_L_build sc) (624, [a0, a1, a2, a3, a4, a5, a6, some (Sum.inl (Value.int x)), a8, a9, a10, a11, a12, a13, a14], st, s, k) = zev (zk_L_build sc) (626, [a0, a1, a2, a3, a4, a5, a6, some (Sum.inl (Value.int x)), a8, a9, a10, a11, a12, a13, a14], Sum.inl (Value.int x) :: st, s, k) := zev_go rfl rfl
set_option maxRecDepth 8000 in
theorem zr_L_build_626 {sc : List Int32} (ls : zLs) (s : zAS) (k : Nat × Nat) (x : Int32) : zev (zk_L_build sc) (626, ls, [Sum.inl (Value.int x)], s, k) = some (.inl (some (Sum.inl (Value.int x))), s) := zf_reti rfl
