/-! ===== what the start gives (printed by wip/whole/gen_start.py) ===== -/
def xFl : List Cond := flatC (Cond.and given_1 narrow_1)
theorem xk_flags {l : Launch} (h : l.flags = flags0) : l.stackTraces = false := by
  unfold Launch.stackTraces
  rw [h]
  decide +kernel
theorem xt_t {w : Cond} (h : w ∈ tables_1) : w ∈ lw_tbl := List.mem_append_right _ h
theorem xt_mem {N k : Nat} {w : Nat → Cond} (h : (List.range N).map w = (xFl.drop k).take N) {j : Nat} (hj : j < N) : w j ∈ xFl := by
  have h1 : w j ∈ (xFl.drop k).take N := by rw [← h]; exact List.mem_map.mpr ⟨j, List.mem_range.mpr hj, rfl⟩
  exact List.mem_of_mem_drop (List.mem_of_mem_take h1)
theorem xt_0 : (List.range 69).map (fun j => Cond.eq (.elem (.static "PrimePlane" "PARENTS" "[I") (.int (Int32.ofNat j))) (.int ((zTab 0).getD j 0))) = (xFl.drop 9).take 69 := by decide +kernel
theorem xt_l0 : xFl[7]? = some (Cond.arrayOf (.static "PrimePlane" "PARENTS" "[I") .int) ∧ xFl[8]? = some (Cond.eq (.length (.static "PrimePlane" "PARENTS" "[I")) (.int (Int32.ofNat 69))) := by decide +kernel
theorem xt_1 : (List.range 32).map (fun j => Cond.eq (.elem (.static "PrimePlane" "SUBJECTS" "[I") (.int (Int32.ofNat j))) (.int ((zTab 1).getD j 0))) = (xFl.drop 81).take 32 := by decide +kernel
theorem xt_l1 : xFl[79]? = some (Cond.arrayOf (.static "PrimePlane" "SUBJECTS" "[I") .int) ∧ xFl[80]? = some (Cond.eq (.length (.static "PrimePlane" "SUBJECTS" "[I")) (.int (Int32.ofNat 32))) := by decide +kernel
theorem xt_2 : (List.range 23).map (fun j => Cond.eq (.elem (.static "PrimePlaneModel" "NEEDS" "[I") (.int (Int32.ofNat j))) (.int ((zTab 2).getD j 0))) = (xFl.drop 116).take 23 := by decide +kernel
theorem xt_l2 : xFl[114]? = some (Cond.arrayOf (.static "PrimePlaneModel" "NEEDS" "[I") .int) ∧ xFl[115]? = some (Cond.eq (.length (.static "PrimePlaneModel" "NEEDS" "[I")) (.int (Int32.ofNat 23))) := by decide +kernel
theorem xt_3 : (List.range 8).map (fun j => Cond.eq (.elem (.static "PrimePlaneModel" "CLAIM_NEEDS" "[I") (.int (Int32.ofNat j))) (.int ((zTab 3).getD j 0))) = (xFl.drop 142).take 8 := by decide +kernel
theorem xt_l3 : xFl[140]? = some (Cond.arrayOf (.static "PrimePlaneModel" "CLAIM_NEEDS" "[I") .int) ∧ xFl[141]? = some (Cond.eq (.length (.static "PrimePlaneModel" "CLAIM_NEEDS" "[I")) (.int (Int32.ofNat 8))) := by decide +kernel
theorem xt_s : xFl[4]? = some (Cond.isRef (.static Bundle.tN "UNASSIGNED_STACK" Bundle.steD)) ∧ xFl[5]? = some (Cond.isRef (.static Bundle.tN "SUPPRESSED_SENTINEL" Bundle.listD)) := by decide +kernel
theorem xt_r61 : tables_1[429]? = some (Cond.stringRef "PrimePlane" 61 "p is none of the six primes") ∧ xFl[214]? = some (Cond.exactly (.string "PrimePlane" 61) "java/lang/String") := by decide +kernel
theorem xt_r74 : tables_1[467]? = some (Cond.stringRef "PrimePlane" 74 "a is not 1 to p - 1") ∧ xFl[245]? = some (Cond.exactly (.string "PrimePlane" 74) "java/lang/String") := by decide +kernel
theorem xt_r80 : tables_1[476]? = some (Cond.stringRef "PrimePlane" 80 "a is not 0 to p - 1") ∧ xFl[268]? = some (Cond.exactly (.string "PrimePlane" 80) "java/lang/String") := by decide +kernel
theorem xt_r97 : tables_1[498]? = some (Cond.stringRef "PrimePlane" 97 "what is not 0 to 4") ∧ xFl[291]? = some (Cond.exactly (.string "PrimePlane" 97) "java/lang/String") := by decide +kernel
theorem xt_r101 : tables_1[517]? = some (Cond.stringRef "PrimePlane" 101 "line is no object") ∧ xFl[313]? = some (Cond.exactly (.string "PrimePlane" 101) "java/lang/String") := by decide +kernel
theorem xt_r112 : tables_1[519]? = some (Cond.stringRef "PrimePlane" 112 "the object is no line") ∧ xFl[334]? = some (Cond.exactly (.string "PrimePlane" 112) "java/lang/String") := by decide +kernel
theorem xt_r114 : tables_1[520]? = some (Cond.stringRef "PrimePlane" 114 "x or y is not 0 to p - 1") ∧ xFl[359]? = some (Cond.exactly (.string "PrimePlane" 114) "java/lang/String") := by decide +kernel
theorem xt_r118 : tables_1[530]? = some (Cond.stringRef "PrimePlane" 118 "there are 40 objects") ∧ xFl[387]? = some (Cond.exactly (.string "PrimePlane" 118) "java/lang/String") := by decide +kernel
theorem xt_r143 : tables_1[621]? = some (Cond.stringRef "PrimePlane" 143 "no such way") ∧ xFl[411]? = some (Cond.exactly (.string "PrimePlane" 143) "java/lang/String") := by decide +kernel
theorem xt_r157 : tables_1[626]? = some (Cond.stringRef "PrimePlane" 157 "a parent is no object") ∧ xFl[426]? = some (Cond.exactly (.string "PrimePlane" 157) "java/lang/String") := by decide +kernel
theorem xt_r162 : tables_1[631]? = some (Cond.stringRef "PrimePlane" 162 "a parent of another sort, or a third one that is not needed") ∧ xFl[451]? = some (Cond.exactly (.string "PrimePlane" 162) "java/lang/String") := by decide +kernel
theorem xt_r164 : tables_1[639]? = some (Cond.stringRef "PrimePlane" 164 "no such object") ∧ xFl[514]? = some (Cond.exactly (.string "PrimePlane" 164) "java/lang/String") := by decide +kernel
theorem xt_r169 : tables_1[640]? = some (Cond.stringRef "PrimePlane" 169 "neither a free point nor one on a line") ∧ xFl[532]? = some (Cond.exactly (.string "PrimePlane" 169) "java/lang/String") := by decide +kernel
theorem xt_r181 : tables_1[664]? = some (Cond.stringRef "PrimePlane" 181 "no such object, or what is not 0 to 5") ∧ xFl[574]? = some (Cond.exactly (.string "PrimePlane" 181) "java/lang/String") := by decide +kernel
theorem xt_r186 : tables_1[673]? = some (Cond.stringRef "PrimePlane" 186 "no such object, or index is not 0 to 2") ∧ xFl[615]? = some (Cond.exactly (.string "PrimePlane" 186) "java/lang/String") := by decide +kernel
theorem xt_r192 : tables_1[674]? = some (Cond.stringRef "PrimePlane" 192 "the object is lacking") ∧ xFl[657]? = some (Cond.exactly (.string "PrimePlane" 192) "java/lang/String") := by decide +kernel
theorem xt_r203 : tables_1[689]? = some (Cond.stringRef "PrimePlane" 203 "no point, or lacking") ∧ xFl[682]? = some (Cond.exactly (.string "PrimePlane" 203) "java/lang/String") := by decide +kernel
theorem xt_r209 : tables_1[698]? = some (Cond.stringRef "PrimePlane" 209 "sort is not 0 to 7") ∧ xFl[706]? = some (Cond.exactly (.string "PrimePlane" 209) "java/lang/String") := by decide +kernel
theorem xt_r214 : tables_1[701]? = some (Cond.stringRef "PrimePlane" 214 "the claim is about what is no object") ∧ xFl[728]? = some (Cond.exactly (.string "PrimePlane" 214) "java/lang/String") := by decide +kernel
theorem xt_r216 : tables_1[702]? = some (Cond.stringRef "PrimePlane" 216 "an object of another sort, or one that is not needed") ∧ xFl[768]? = some (Cond.exactly (.string "PrimePlane" 216) "java/lang/String") := by decide +kernel
theorem xt_r218 : tables_1[703]? = some (Cond.stringRef "PrimePlane" 218 "the objects are not of the same sort") ∧ xFl[824]? = some (Cond.exactly (.string "PrimePlane" 218) "java/lang/String") := by decide +kernel
theorem xt_r220 : tables_1[704]? = some (Cond.stringRef "PrimePlane" 220 "there are 20 claims") ∧ xFl[864]? = some (Cond.exactly (.string "PrimePlane" 220) "java/lang/String") := by decide +kernel
theorem xt_r231 : tables_1[725]? = some (Cond.stringRef "PrimePlane" 231 "no such claim") ∧ xFl[887]? = some (Cond.exactly (.string "PrimePlane" 231) "java/lang/String") := by decide +kernel
theorem xt_r240 : tables_1[733]? = some (Cond.stringRef "PrimePlane" 240 "no such claim or object, or what is not 0 to 2") ∧ xFl[904]? = some (Cond.exactly (.string "PrimePlane" 240) "java/lang/String") := by decide +kernel
theorem xt_r242 : tables_1[734]? = some (Cond.stringRef "PrimePlane" 242 "the object is no free point") ∧ xFl[954]? = some (Cond.exactly (.string "PrimePlane" 242) "java/lang/String") := by decide +kernel
theorem xt_r254 : tables_1[750]? = some (Cond.stringRef "PrimePlane" 254 "no such object, or what is not 0 to 3") ∧ xFl[985]? = some (Cond.exactly (.string "PrimePlane" 254) "java/lang/String") := by decide +kernel
theorem xt_r256 : tables_1[751]? = some (Cond.stringRef "PrimePlane" 256 "no point, or not one on a line") ∧ xFl[1026]? = some (Cond.exactly (.string "PrimePlane" 256) "java/lang/String") := by decide +kernel
theorem xt_str {args : Array Value} {s : State} {k : Nat} {tx : String} (h1 : (Cond.stringRef "PrimePlane" k tx).before args s = true) (h2 : (Cond.exactly (.string "PrimePlane" k) "java/lang/String").before args s = true) : ∃ sa, vk_R "PrimePlane" k tx sa s := by
  obtain ⟨a, c, cell, kk, e1, -⟩ := Cond.exactly_spec h2
  exact ⟨a, vk_R.of h1 e1⟩
set_option maxRecDepth 20000 in
theorem xt_ST {args : Array Value} {s : State} (hfw : ∀ w ∈ xFl, w.before args s = true) (hts : ∀ w ∈ lw_tbl, w.before args s = true) {A : Nat → Prop} (hA : ∀ a : Nat, a < s.heap.size → ¬ A a) : ∃ L0 : Nat → Nat → Nat, zST L0 A s s.heap := by
  obtain ⟨t0, e0, T0⟩ := va_Tof (tm := .static "PrimePlane" "PARENTS" "[I") (ty := .int) (N := 69) (f := fun j => .int ((zTab 0).getD j 0)) (A := A) (by decide) (hfw _ (List.mem_of_getElem? xt_l0.1)) (va_eqt (hfw _ (List.mem_of_getElem? xt_l0.2))) (fun j hj => va_eqt (hfw _ (xt_mem xt_0 hj))) hA
  obtain ⟨t1, e1, T1⟩ := va_Tof (tm := .static "PrimePlane" "SUBJECTS" "[I") (ty := .int) (N := 32) (f := fun j => .int ((zTab 1).getD j 0)) (A := A) (by decide) (hfw _ (List.mem_of_getElem? xt_l1.1)) (va_eqt (hfw _ (List.mem_of_getElem? xt_l1.2))) (fun j hj => va_eqt (hfw _ (xt_mem xt_1 hj))) hA
  obtain ⟨t2, e2, T2⟩ := va_Tof (tm := .static "PrimePlaneModel" "NEEDS" "[I") (ty := .int) (N := 23) (f := fun j => .int ((zTab 2).getD j 0)) (A := A) (by decide) (hfw _ (List.mem_of_getElem? xt_l2.1)) (va_eqt (hfw _ (List.mem_of_getElem? xt_l2.2))) (fun j hj => va_eqt (hfw _ (xt_mem xt_2 hj))) hA
  obtain ⟨t3, e3, T3⟩ := va_Tof (tm := .static "PrimePlaneModel" "CLAIM_NEEDS" "[I") (ty := .int) (N := 8) (f := fun j => .int ((zTab 3).getD j 0)) (A := A) (by decide) (hfw _ (List.mem_of_getElem? xt_l3.1)) (va_eqt (hfw _ (List.mem_of_getElem? xt_l3.2))) (fun j hj => va_eqt (hfw _ (xt_mem xt_3 hj))) hA
  refine ⟨fun k t => if t = 0 then t0 else if t = 1 then t1 else if t = 2 then t2 else t3, fun q hq => ?_, fun t ht => ?_, ?_, ?_, fun q hq => ?_, fun x w hw => ?_⟩
  · simp only [zStat, List.mem_cons, List.not_mem_nil, or_false] at hq
    rcases hq with rfl | rfl | rfl | rfl
    · exact va_Zref (hts _ (xt_t (List.mem_of_getElem? (i := 617) rfl))) (hts _ (xt_t (List.mem_of_getElem? (i := 1) rfl))) e0 hA
    · exact va_Zref (hts _ (xt_t (List.mem_of_getElem? (i := 700) rfl))) (hts _ (xt_t (List.mem_of_getElem? (i := 1) rfl))) e1 hA
    · exact va_Zref (hts _ (xt_t (List.mem_of_getElem? (i := 971) rfl))) (hts _ (xt_t (List.mem_of_getElem? (i := 11) rfl))) e2 hA
    · exact va_Zref (hts _ (xt_t (List.mem_of_getElem? (i := 1009) rfl))) (hts _ (xt_t (List.mem_of_getElem? (i := 11) rfl))) e3 hA
  · have h4 : t = 0 ∨ t = 1 ∨ t = 2 ∨ t = 3 := by omega
    rcases h4 with rfl | rfl | rfl | rfl
    · exact T0
    · exact T1
    · exact T2
    · exact T3
  · exact vx_Zqof (hts _ (xt_t (List.mem_of_getElem? (i := 415) rfl))) (hts _ (xt_t (List.mem_of_getElem? (i := 12) rfl))) (hfw _ (List.mem_of_getElem? xt_s.1)) hA
  · exact vx_Zqof (hts _ (xt_t (List.mem_of_getElem? (i := 417) rfl))) (hts _ (xt_t (List.mem_of_getElem? (i := 12) rfl))) (hfw _ (List.mem_of_getElem? xt_s.2)) hA
  · simp only [zStr, List.mem_cons, List.not_mem_nil, or_false] at hq
    rcases hq with rfl | rfl | rfl | rfl | rfl | rfl | rfl | rfl | rfl | rfl | rfl | rfl | rfl | rfl | rfl | rfl | rfl | rfl | rfl | rfl | rfl | rfl | rfl | rfl | rfl | rfl | rfl
    · exact xt_str (hts _ (xt_t (List.mem_of_getElem? xt_r61.1))) (hfw _ (List.mem_of_getElem? xt_r61.2))
    · exact xt_str (hts _ (xt_t (List.mem_of_getElem? xt_r74.1))) (hfw _ (List.mem_of_getElem? xt_r74.2))
    · exact xt_str (hts _ (xt_t (List.mem_of_getElem? xt_r80.1))) (hfw _ (List.mem_of_getElem? xt_r80.2))
    · exact xt_str (hts _ (xt_t (List.mem_of_getElem? xt_r97.1))) (hfw _ (List.mem_of_getElem? xt_r97.2))
    · exact xt_str (hts _ (xt_t (List.mem_of_getElem? xt_r101.1))) (hfw _ (List.mem_of_getElem? xt_r101.2))
    · exact xt_str (hts _ (xt_t (List.mem_of_getElem? xt_r112.1))) (hfw _ (List.mem_of_getElem? xt_r112.2))
    · exact xt_str (hts _ (xt_t (List.mem_of_getElem? xt_r114.1))) (hfw _ (List.mem_of_getElem? xt_r114.2))
    · exact xt_str (hts _ (xt_t (List.mem_of_getElem? xt_r118.1))) (hfw _ (List.mem_of_getElem? xt_r118.2))
    · exact xt_str (hts _ (xt_t (List.mem_of_getElem? xt_r143.1))) (hfw _ (List.mem_of_getElem? xt_r143.2))
    · exact xt_str (hts _ (xt_t (List.mem_of_getElem? xt_r157.1))) (hfw _ (List.mem_of_getElem? xt_r157.2))
    · exact xt_str (hts _ (xt_t (List.mem_of_getElem? xt_r162.1))) (hfw _ (List.mem_of_getElem? xt_r162.2))
    · exact xt_str (hts _ (xt_t (List.mem_of_getElem? xt_r164.1))) (hfw _ (List.mem_of_getElem? xt_r164.2))
    · exact xt_str (hts _ (xt_t (List.mem_of_getElem? xt_r169.1))) (hfw _ (List.mem_of_getElem? xt_r169.2))
    · exact xt_str (hts _ (xt_t (List.mem_of_getElem? xt_r181.1))) (hfw _ (List.mem_of_getElem? xt_r181.2))
    · exact xt_str (hts _ (xt_t (List.mem_of_getElem? xt_r186.1))) (hfw _ (List.mem_of_getElem? xt_r186.2))
    · exact xt_str (hts _ (xt_t (List.mem_of_getElem? xt_r192.1))) (hfw _ (List.mem_of_getElem? xt_r192.2))
    · exact xt_str (hts _ (xt_t (List.mem_of_getElem? xt_r203.1))) (hfw _ (List.mem_of_getElem? xt_r203.2))
    · exact xt_str (hts _ (xt_t (List.mem_of_getElem? xt_r209.1))) (hfw _ (List.mem_of_getElem? xt_r209.2))
    · exact xt_str (hts _ (xt_t (List.mem_of_getElem? xt_r214.1))) (hfw _ (List.mem_of_getElem? xt_r214.2))
    · exact xt_str (hts _ (xt_t (List.mem_of_getElem? xt_r216.1))) (hfw _ (List.mem_of_getElem? xt_r216.2))
    · exact xt_str (hts _ (xt_t (List.mem_of_getElem? xt_r218.1))) (hfw _ (List.mem_of_getElem? xt_r218.2))
    · exact xt_str (hts _ (xt_t (List.mem_of_getElem? xt_r220.1))) (hfw _ (List.mem_of_getElem? xt_r220.2))
    · exact xt_str (hts _ (xt_t (List.mem_of_getElem? xt_r231.1))) (hfw _ (List.mem_of_getElem? xt_r231.2))
    · exact xt_str (hts _ (xt_t (List.mem_of_getElem? xt_r240.1))) (hfw _ (List.mem_of_getElem? xt_r240.2))
    · exact xt_str (hts _ (xt_t (List.mem_of_getElem? xt_r242.1))) (hfw _ (List.mem_of_getElem? xt_r242.2))
    · exact xt_str (hts _ (xt_t (List.mem_of_getElem? xt_r254.1))) (hfw _ (List.mem_of_getElem? xt_r254.2))
    · exact xt_str (hts _ (xt_t (List.mem_of_getElem? xt_r256.1))) (hfw _ (List.mem_of_getElem? xt_r256.2))
  · simp only [zBad, List.mem_cons, List.not_mem_nil, or_false] at hw
    rcases hw with rfl | rfl | rfl | rfl
    · rcases x with _ | _ | x
      · exact va_Nw.of (by rfl) (hts _ (xt_t (List.mem_of_getElem? (i := 390) rfl)))
      · exact va_Nw.of (by rfl) (hts _ (xt_t (List.mem_of_getElem? (i := 491) rfl)))
      · exact va_Nw.of (by rfl) (hts _ (xt_t (List.mem_of_getElem? (i := 523) rfl)))
    · exact va_Nw.of (by rfl) (hts _ (xt_t (List.mem_of_getElem? (i := 392) rfl)))
    · exact va_Nw.of (by rfl) (hts _ (xt_t (List.mem_of_getElem? (i := 394) rfl)))
    · exact va_Nw.of (by rfl) (hts _ (xt_t (List.mem_of_getElem? (i := 396) rfl)))
theorem xt_n : xFl[160]? = some (Cond.not (.castable (zExc 1) (zExc 0))) ∧ xFl[161]? = some (Cond.not (.castable (zExc 2) (zExc 0))) ∧ xFl[172]? = some (Cond.not (.castable (zExc 0) (zExc 1))) ∧ xFl[173]? = some (Cond.not (.castable (zExc 2) (zExc 1))) ∧ xFl[184]? = some (Cond.not (.castable (zExc 0) (zExc 2))) ∧ xFl[185]? = some (Cond.not (.castable (zExc 1) (zExc 2))) := by decide +kernel
theorem xt_Nc {args : Array Value} {s : State} (hfw : ∀ w ∈ xFl, w.before args s = true) : xNc s := by
  obtain ⟨h10, h20, h01, h21, h02, h12⟩ := xt_n
  intro x y hx hy hne
  have h3 : x = 0 ∨ x = 1 ∨ x = 2 := by omega
  have h4 : y = 0 ∨ y = 1 ∨ y = 2 := by omega
  rcases h3 with rfl | rfl | rfl <;> rcases h4 with rfl | rfl | rfl
  · exact absurd rfl hne
  · exact va_Nc.of (hfw _ (List.mem_of_getElem? h01))
  · exact va_Nc.of (hfw _ (List.mem_of_getElem? h02))
  · exact va_Nc.of (hfw _ (List.mem_of_getElem? h10))
  · exact absurd rfl hne
  · exact va_Nc.of (hfw _ (List.mem_of_getElem? h12))
  · exact va_Nc.of (hfw _ (List.mem_of_getElem? h20))
  · exact va_Nc.of (hfw _ (List.mem_of_getElem? h21))
  · exact absurd rfl hne
set_option maxRecDepth 20000 in
theorem xt_Wd {args : Array Value} {s : State} (hts : ∀ w ∈ lw_tbl, w.before args s = true) : xWd s := by
  refine ⟨va_AO.of (hts _ (xt_t (List.mem_of_getElem? (i := 188) rfl))), va_AO.of (hts _ (xt_t (List.mem_of_getElem? (i := 166) rfl))), fun q hq => ?_⟩
  simp only [xNest, List.mem_cons, List.not_mem_nil, or_false] at hq
  rcases hq with rfl | rfl | rfl | rfl | rfl
  · exact va_Nw.of rfl (hts _ (xt_t (List.mem_of_getElem? (i := 190) rfl)))
  · exact va_Nw.of rfl (hts _ (xt_t (List.mem_of_getElem? (i := 41) rfl)))
  · exact va_Nw.of rfl (hts _ (xt_t (List.mem_of_getElem? (i := 35) rfl)))
  · exact va_Nw.of rfl (hts _ (xt_t (List.mem_of_getElem? (i := 29) rfl)))
  · exact va_Nw.of rfl (hts _ (xt_t (List.mem_of_getElem? (i := 232) rfl)))
theorem xt_ai {args : Array Value} {s : State} (h : (Cond.arrayClass .int).before args s = true) : ∃ cA, ArrOfT s cA .int ∧ va_RA s cA .int := by
  obtain ⟨c, k, comp, h1, h2, h3⟩ := Cond.arrayClass_spec h
  exact ⟨c, fun n z => ⟨fun k h => (by cases h), k, h2, comp, h3⟩, h1⟩
theorem xt_aq {s : State} {C : String} (h : va_AO C s) : ∃ cA, ArrOfT s cA (.object C) ∧ va_RA s cA (.object C) := by
  obtain ⟨comp, c, k, h1, -, h2, h3, h4⟩ := Cond.arrayOver_spec h
  exact ⟨c, fun n z => ⟨fun k h => (by cases h), k, h2, comp, h3⟩, k, comp, h2, h3, h1, h4⟩
set_option maxRecDepth 20000 in
theorem xt_K {args : Array Value} {s : State} (hts : ∀ w ∈ lw_tbl, w.before args s = true) (htl : ∀ w ∈ wsL_law, w.before args s = true) : ∃ (D : va_G) (cy : Nat → ClassId), va_K D vwCl (ztys cy) s := by
  obtain ⟨c0, i0, k0⟩ := u_known htl inlX0 (hts _ (xt_t (List.mem_of_getElem? (i := 189) rfl)))
  obtain ⟨c1, i1, k1⟩ := u_known htl inlX1 (hts _ (xt_t (List.mem_of_getElem? (i := 182) rfl)))
  obtain ⟨c2, i2, k2⟩ := u_known htl inlX2 (hts _ (xt_t (List.mem_of_getElem? (i := 34) rfl)))
  obtain ⟨c3, i3, k3⟩ := u_known htl inlX3 (hts _ (xt_t (List.mem_of_getElem? (i := 40) rfl)))
  obtain ⟨c4, i4, k4⟩ := u_known htl inlX4 (hts _ (xt_t (List.mem_of_getElem? (i := 58) rfl)))
  obtain ⟨c5, i5, k5⟩ := u_known htl inlX5 (hts _ (xt_t (List.mem_of_getElem? (i := 28) rfl)))
  obtain ⟨c6, i6, k6⟩ := u_known htl inlX6 (hts _ (xt_t (List.mem_of_getElem? (i := 160) rfl)))
  obtain ⟨c7, i7, k7⟩ := u_known htl inlX7 (hts _ (xt_t (List.mem_of_getElem? (i := 231) rfl)))
  obtain ⟨c8, i8, k8⟩ := u_known htl inlX8 (hts _ (xt_t (List.mem_of_getElem? (i := 20) rfl)))
  obtain ⟨c9, i9, k9⟩ := u_known htl inlX9 (hts _ (xt_t (List.mem_of_getElem? (i := 791) rfl)))
  have hwd := xt_Wd hts
  obtain ⟨a0, A0⟩ := xt_ai (hts _ (xt_t (List.mem_of_getElem? (i := 56) rfl)))
  obtain ⟨a1, A1⟩ := xt_aq hwd.1
  obtain ⟨a2, A2⟩ := xt_aq hwd.2.1
  refine ⟨((fun c => if c = 0 then c0 else if c = 1 then c1 else if c = 2 then c2 else if c = 3 then c3 else if c = 4 then c4 else if c = 5 then c5 else if c = 6 then c6 else if c = 7 then c7 else if c = 8 then c8 else c9), (fun c => if c = 0 then i0 else if c = 1 then i1 else if c = 2 then i2 else if c = 3 then i3 else if c = 4 then i4 else if c = 5 then i5 else if c = 6 then i6 else if c = 7 then i7 else if c = 8 then i8 else i9)), fun c => if c = 0 then a0 else if c = 1 then a1 else a2, fun c q hc => ?_, fun k q hk => ?_⟩
  · have hl : c < 10 := (List.getElem?_eq_some_iff.mp hc).1
    have h10 : c = 0 ∨ c = 1 ∨ c = 2 ∨ c = 3 ∨ c = 4 ∨ c = 5 ∨ c = 6 ∨ c = 7 ∨ c = 8 ∨ c = 9 := by omega
    rcases h10 with rfl | rfl | rfl | rfl | rfl | rfl | rfl | rfl | rfl | rfl
    · cases hc; exact k0
    · cases hc; exact k1
    · cases hc; exact k2
    · cases hc; exact k3
    · cases hc; exact k4
    · cases hc; exact k5
    · cases hc; exact k6
    · cases hc; exact k7
    · cases hc; exact k8
    · cases hc; exact k9
  · have hl : k < 3 := (List.getElem?_eq_some_iff.mp hk).1
    have h3 : k = 0 ∨ k = 1 ∨ k = 2 := by omega
    rcases h3 with rfl | rfl | rfl
    · cases hk; exact A0
    · cases hk; exact A1
    · cases hk; exact A2
