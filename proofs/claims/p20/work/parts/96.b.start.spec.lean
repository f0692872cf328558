/-! ===== what the start gives (printed by wip/p20/gen_start.py) ===== -/
def xFl : List Cond := flatC (Cond.and given_1 narrow_1)
theorem xk_flags {l : Launch} (h : l.flags = flags0) : l.stackTraces = false := by
  unfold Launch.stackTraces
  rw [h]
  decide +kernel
theorem xt_t {w : Cond} (h : w ∈ tables_1) : w ∈ lw_tbl := List.mem_append_right _ h
theorem xt_mem {N k : Nat} {w : Nat → Cond} (h : (List.range N).map w = (xFl.drop k).take N) {j : Nat} (hj : j < N) : w j ∈ xFl := by
  have h1 : w j ∈ (xFl.drop k).take N := by rw [← h]; exact List.mem_map.mpr ⟨j, List.mem_range.mpr hj, rfl⟩
  exact List.mem_of_mem_drop (List.mem_of_mem_take h1)
theorem xt_0 : (List.range 69).map (fun j => Cond.eq (.elem (.static "PrimePlane" "PARENTS" "[I") (.int (Int32.ofNat j))) (.int ((zTab 0).getD j 0))) = (xFl.drop 49).take 69 := by decide +kernel
theorem xt_l0 : xFl[47]? = some (Cond.arrayOf (.static "PrimePlane" "PARENTS" "[I") .int) ∧ xFl[48]? = some (Cond.eq (.length (.static "PrimePlane" "PARENTS" "[I")) (.int (Int32.ofNat 69))) := by decide +kernel
theorem xt_1 : (List.range 32).map (fun j => Cond.eq (.elem (.static "PrimePlane" "SUBJECTS" "[I") (.int (Int32.ofNat j))) (.int ((zTab 1).getD j 0))) = (xFl.drop 9).take 32 := by decide +kernel
theorem xt_l1 : xFl[7]? = some (Cond.arrayOf (.static "PrimePlane" "SUBJECTS" "[I") .int) ∧ xFl[8]? = some (Cond.eq (.length (.static "PrimePlane" "SUBJECTS" "[I")) (.int (Int32.ofNat 32))) := by decide +kernel
theorem xt_2 : (List.range 6).map (fun j => Cond.eq (.elem (.static "PrimePlaneLaw" "PRIMES" "[I") (.int (Int32.ofNat j))) (.int ((zTab 2).getD j 0))) = (xFl.drop 121).take 6 := by decide +kernel
theorem xt_l2 : xFl[119]? = some (Cond.arrayOf (.static "PrimePlaneLaw" "PRIMES" "[I") .int) ∧ xFl[120]? = some (Cond.eq (.length (.static "PrimePlaneLaw" "PRIMES" "[I")) (.int (Int32.ofNat 6))) := by decide +kernel
theorem xt_s : xFl[41]? = some (Cond.eq (.static "java/lang/String" "COMPACT_STRINGS" "Z") (.int 1)) ∧ xFl[42]? = some (Cond.isRef (.static "jdk/internal/util/Preconditions" zSF.1 zSF.2)) := by decide +kernel
abbrev xtm (i : Nat) : Term := .string "PrimePlaneLaw" (30 + 2 * i)
abbrev xtv (i : Nat) : Term := .field (xtm i) "java/lang/String" "value" "[B"
theorem xt_e : ∀ i, i < 6 → xFl[730 + 6 * i]? = some (Cond.exactly (xtm i) "java/lang/String") := by decide +kernel
theorem xt_c : ∀ i, i < 6 → xFl[731 + 6 * i]? = some (Cond.eq (.field (xtm i) "java/lang/String" "coder" "B") (.int 0)) := by decide +kernel
theorem xt_v : ∀ i, i < 6 → xFl[732 + 6 * i]? = some (Cond.arrayOf (xtv i) .byte) := by decide +kernel
theorem xt_z : ∀ i, i < 6 → xFl[733 + 6 * i]? = some (Cond.eq (.length (xtv i)) (.int (Int32.ofNat (zSl.getD i 0)))) := by decide +kernel
theorem xt_b : ∀ i, i < 6 → ∀ j, j < zSl.getD i 0 → xFl[734 + 6 * i + j]? = some (Cond.eq (.elem (xtv i) (.int (Int32.ofNat j))) (.int ((zSb.getD i []).getD j 0))) := by decide +kernel
theorem xt_r : ∀ q ∈ zLtx, tables_1[721 + q.2.2]? = some (Cond.stringRef "PrimePlaneLaw" q.1 q.2.1) ∧ q.1 = 30 + 2 * q.2.2 ∧ q.2.2 < 6 := by decide +kernel
theorem xt_d : ∀ i, i < 6 → ∀ j, j < 6 → i ≠ j → zSl.getD i 0 ≠ zSl.getD j 0 ∨ ∃ k, k < 3 ∧ k < zSl.getD i 0 ∧ k < zSl.getD j 0 ∧ (zSb.getD i []).getD k 0 ≠ (zSb.getD j []).getD k 0 := by decide +kernel
theorem xt_fe {args : Array Value} {s : State} {t u : Term} {C n d : String} (h : t.eval args s none [] s = u.eval args s none [] s) : (Term.field t C n d).eval args s none [] s = (Term.field u C n d).eval args s none [] s := by simp only [Term.eval, h]
theorem xt_le {args : Array Value} {s : State} {t u : Term} (h : t.eval args s none [] s = u.eval args s none [] s) : (Term.length t).eval args s none [] s = (Term.length u).eval args s none [] s := by simp only [Term.eval, h]
theorem xt_ee {args : Array Value} {s : State} {t u k : Term} (h : t.eval args s none [] s = u.eval args s none [] s) : (Term.elem t k).eval args s none [] s = (Term.elem u k).eval args s none [] s := by simp only [Term.eval, h]
/-- two of the law's texts are two objects, for their letters differ -/
theorem xt_ne {args : Array Value} {s : State} (hfw : ∀ w ∈ xFl, w.before args s = true) {i j : Nat} (hi : i < 6) (hj : j < 6) (hij : i ≠ j) : (Cond.not (Cond.eq (xtm i) (xtm j))).before args s = true := by
  obtain ⟨a, ca, ka, na, ha, -⟩ := Cond.exactly_spec (hfw _ (List.mem_of_getElem? (xt_e i hi)))
  obtain ⟨b, cb, kb, nb, hb, -⟩ := Cond.exactly_spec (hfw _ (List.mem_of_getElem? (xt_e j hj)))
  have hab : a ≠ b := by
    intro hab
    subst hab
    rcases xt_d i hi j hj hij with g | ⟨k, k3, k1, k2, g⟩
    · have e1 := va_eqt (hfw _ (List.mem_of_getElem? (xt_z i hi)))
      have e2 := va_eqt (hfw _ (List.mem_of_getElem? (xt_z j hj)))
      have e : (Term.length (xtv i)).eval args s none [] s = (Term.length (xtv j)).eval args s none [] s := xt_le (xt_fe (ha.trans hb.symm))
      rw [e1, e2] at e
      have e3 : Int32.ofNat (zSl.getD i 0) = Int32.ofNat (zSl.getD j 0) := by injection e with e; injection e
      have hl : ∀ i, i < 6 → ∀ j, j < 6 → Int32.ofNat (zSl.getD i 0) = Int32.ofNat (zSl.getD j 0) → zSl.getD i 0 = zSl.getD j 0 := by decide +kernel
      exact g (hl i hi j hj e3)
    · have e1 := va_eqt (hfw _ (List.mem_of_getElem? (xt_b i hi k k1)))
      have e2 := va_eqt (hfw _ (List.mem_of_getElem? (xt_b j hj k k2)))
      have e : (Term.elem (xtv i) (.int (Int32.ofNat k))).eval args s none [] s = (Term.elem (xtv j) (.int (Int32.ofNat k))).eval args s none [] s := xt_ee (xt_fe (ha.trans hb.symm))
      rw [e1, e2] at e
      have e3 : (zSb.getD i []).getD k 0 = (zSb.getD j []).getD k 0 := by injection e with e; injection e
      exact g e3
  simp [Cond.before, Cond.holds, Cond.value, ha, hb, hab]
theorem xt_S {args : Array Value} {s : State} (hfw : ∀ w ∈ xFl, w.before args s = true) {A : Nat → Prop} (hA : ∀ a : Nat, a < s.heap.size → ¬ A a) : ∃ adK adV : Nat → Nat, vk_S 6 zSl zSb adK adV A s s.heap ∧ ∀ i : Nat, i < 6 → (xtm i).eval args s none [] s = some (.ref (adK i)) :=
  vk_Sof (by decide +kernel) (fun i hi => hfw _ (List.mem_of_getElem? (xt_e i hi))) (fun i hi => hfw _ (List.mem_of_getElem? (xt_c i hi))) (fun i hi => hfw _ (List.mem_of_getElem? (xt_v i hi))) (fun i hi => hfw _ (List.mem_of_getElem? (xt_z i hi))) (fun i hi j hj => hfw _ (List.mem_of_getElem? (xt_b i hi j hj))) (fun i j hi hj hij => Or.inl (xt_ne hfw hi hj hij)) hA
set_option maxRecDepth 20000 in
theorem xt_ST {args : Array Value} {s : State} (hfw : ∀ w ∈ xFl, w.before args s = true) (hts : ∀ w ∈ lw_tbl, w.before args s = true) {A : Nat → Prop} (hA : ∀ a : Nat, a < s.heap.size → ¬ A a) {b L : Nat} {xs : Nat → Int32} (hX : va_X b L xs s s.heap) (hbl : b < s.heap.size) : ∃ L0 : Nat → Nat → Nat, L0 97 0 = b ∧ zST (zES ((List.range L).map xs)) L0 A s s.heap := by
  obtain ⟨t0, e0, T0⟩ := va_Tof (tm := .static "PrimePlane" "PARENTS" "[I") (ty := .int) (N := 69) (f := fun j => .int ((zTab 0).getD j 0)) (A := A) (by decide) (hfw _ (List.mem_of_getElem? xt_l0.1)) (va_eqt (hfw _ (List.mem_of_getElem? xt_l0.2))) (fun j hj => va_eqt (hfw _ (xt_mem xt_0 hj))) hA
  obtain ⟨t1, e1, T1⟩ := va_Tof (tm := .static "PrimePlane" "SUBJECTS" "[I") (ty := .int) (N := 32) (f := fun j => .int ((zTab 1).getD j 0)) (A := A) (by decide) (hfw _ (List.mem_of_getElem? xt_l1.1)) (va_eqt (hfw _ (List.mem_of_getElem? xt_l1.2))) (fun j hj => va_eqt (hfw _ (xt_mem xt_1 hj))) hA
  obtain ⟨t2, e2, T2⟩ := va_Tof (tm := .static "PrimePlaneLaw" "PRIMES" "[I") (ty := .int) (N := 6) (f := fun j => .int ((zTab 2).getD j 0)) (A := A) (by decide) (hfw _ (List.mem_of_getElem? xt_l2.1)) (va_eqt (hfw _ (List.mem_of_getElem? xt_l2.2))) (fun j hj => va_eqt (hfw _ (xt_mem xt_2 hj))) hA
  obtain ⟨adK, adV, hS, hev⟩ := xt_S hfw hA
  refine ⟨fun k t => if k = 98 then (if t = 0 then t0 else if t = 1 then t1 else t2) else if k = 97 then b else if k = 96 then adK t else adV t, rfl, fun q hq => ?_, fun t ht => ?_, fun _ => ⟨?_, hbl, hA b hbl, ?_, hS, fun q hq => ?_, ?_, ?_⟩⟩
  · simp only [zStat, List.mem_cons, List.not_mem_nil, or_false] at hq
    rcases hq with rfl | rfl | rfl
    · exact va_Zref (hts _ (xt_t (List.mem_of_getElem? (i := 798) rfl))) (hts _ (xt_t (List.mem_of_getElem? (i := 1) rfl))) e0 hA
    · exact va_Zref (hts _ (xt_t (List.mem_of_getElem? (i := 556) rfl))) (hts _ (xt_t (List.mem_of_getElem? (i := 1) rfl))) e1 hA
    · exact va_Zref (hts _ (xt_t (List.mem_of_getElem? (i := 803) rfl))) (hts _ (xt_t (List.mem_of_getElem? (i := 0) rfl))) e2 hA
  · have h4 : t = 0 ∨ t = 1 ∨ t = 2 ∨ t = 3 := by omega
    rcases h4 with rfl | rfl | rfl | rfl
    · exact T0
    · exact T1
    · exact T2
    · exact T2
  · rw [zES_scr]
    obtain ⟨scr, g1, g2, g3, g4, g5⟩ := hX
    refine ⟨scr, g1, g2, g3, by rw [g4, List.length_map, List.length_range], fun j hj => ?_⟩
    rw [List.length_map, List.length_range] at hj
    rw [g5 j hj]
    simp [List.getD_eq_getElem?_getD, hj]
  · exact va_AO.of (hts _ (xt_t (List.mem_of_getElem? (i := 720) rfl)))
  · obtain ⟨g1, g2, g3⟩ := xt_r q hq
    refine vk_R.of (hts _ (xt_t (List.mem_of_getElem? g1))) ?_
    rw [g2]
    exact hev _ g3
  · exact va_Zof (hts _ (xt_t (List.mem_of_getElem? (i := 751) rfl))) (hts _ (xt_t (List.mem_of_getElem? (i := 17) rfl))) (va_eqi (hfw _ (List.mem_of_getElem? xt_s.1))) hA
  · exact vx_Zqof (hts _ (xt_t (List.mem_of_getElem? (i := 767) rfl))) (hts _ (xt_t (List.mem_of_getElem? (i := 19) rfl))) (hfw _ (List.mem_of_getElem? xt_s.2)) hA
set_option maxRecDepth 20000 in
theorem xt_Wd {args : Array Value} {s : State} (hts : ∀ w ∈ lw_tbl, w.before args s = true) : xWd s := by
  refine ⟨va_AO.of (hts _ (xt_t (List.mem_of_getElem? (i := 190) rfl))), va_AO.of (hts _ (xt_t (List.mem_of_getElem? (i := 168) rfl))), fun q hq => ?_⟩
  simp only [xNest, List.mem_cons, List.not_mem_nil, or_false] at hq
  rcases hq with rfl | rfl | rfl | rfl | rfl
  · exact va_Nw.of rfl (hts _ (xt_t (List.mem_of_getElem? (i := 192) rfl)))
  · exact va_Nw.of rfl (hts _ (xt_t (List.mem_of_getElem? (i := 43) rfl)))
  · exact va_Nw.of rfl (hts _ (xt_t (List.mem_of_getElem? (i := 37) rfl)))
  · exact va_Nw.of rfl (hts _ (xt_t (List.mem_of_getElem? (i := 31) rfl)))
  · exact va_Nw.of rfl (hts _ (xt_t (List.mem_of_getElem? (i := 234) rfl)))
theorem xt_ai {args : Array Value} {s : State} (h : (Cond.arrayClass .int).before args s = true) : ∃ cA, ArrOfT s cA .int ∧ va_RA s cA .int := by
  obtain ⟨c, k, comp, h1, h2, h3⟩ := Cond.arrayClass_spec h
  exact ⟨c, fun n z => ⟨fun k h => (by cases h), k, h2, comp, h3⟩, h1⟩
theorem xt_aq {s : State} {C : String} (h : va_AO C s) : ∃ cA, ArrOfT s cA (.object C) ∧ va_RA s cA (.object C) := by
  obtain ⟨comp, c, k, h1, -, h2, h3, h4⟩ := Cond.arrayOver_spec h
  exact ⟨c, fun n z => ⟨fun k h => (by cases h), k, h2, comp, h3⟩, k, comp, h2, h3, h1, h4⟩
set_option maxRecDepth 20000 in
theorem xt_K {args : Array Value} {s : State} (hts : ∀ w ∈ lw_tbl, w.before args s = true) (htl : ∀ w ∈ wsL_law, w.before args s = true) : ∃ (D : va_G) (cy : Nat → ClassId), va_K D vwCl (ztys cy) s := by
  obtain ⟨c0, i0, k0⟩ := u_known htl inlX0 (hts _ (xt_t (List.mem_of_getElem? (i := 191) rfl)))
  obtain ⟨c1, i1, k1⟩ := u_known htl inlX1 (hts _ (xt_t (List.mem_of_getElem? (i := 184) rfl)))
  obtain ⟨c2, i2, k2⟩ := u_known htl inlX2 (hts _ (xt_t (List.mem_of_getElem? (i := 36) rfl)))
  obtain ⟨c3, i3, k3⟩ := u_known htl inlX3 (hts _ (xt_t (List.mem_of_getElem? (i := 42) rfl)))
  obtain ⟨c4, i4, k4⟩ := u_known htl inlX4 (hts _ (xt_t (List.mem_of_getElem? (i := 60) rfl)))
  obtain ⟨c5, i5, k5⟩ := u_known htl inlX5 (hts _ (xt_t (List.mem_of_getElem? (i := 30) rfl)))
  obtain ⟨c6, i6, k6⟩ := u_known htl inlX6 (hts _ (xt_t (List.mem_of_getElem? (i := 162) rfl)))
  obtain ⟨c7, i7, k7⟩ := u_known htl inlX7 (hts _ (xt_t (List.mem_of_getElem? (i := 233) rfl)))
  obtain ⟨c8, i8, k8⟩ := u_known htl inlX8 (hts _ (xt_t (List.mem_of_getElem? (i := 22) rfl)))
  have hwd := xt_Wd hts
  obtain ⟨a0, A0⟩ := xt_ai (hts _ (xt_t (List.mem_of_getElem? (i := 58) rfl)))
  obtain ⟨a1, A1⟩ := xt_aq hwd.1
  obtain ⟨a2, A2⟩ := xt_aq hwd.2.1
  obtain ⟨a3, A3⟩ := xt_aq (va_AO.of (hts _ (xt_t (List.mem_of_getElem? (i := 720) rfl))))
  refine ⟨((fun c => if c = 0 then c0 else if c = 1 then c1 else if c = 2 then c2 else if c = 3 then c3 else if c = 4 then c4 else if c = 5 then c5 else if c = 6 then c6 else if c = 7 then c7 else c8), (fun c => if c = 0 then i0 else if c = 1 then i1 else if c = 2 then i2 else if c = 3 then i3 else if c = 4 then i4 else if c = 5 then i5 else if c = 6 then i6 else if c = 7 then i7 else i8)), fun c => if c = 0 then a0 else if c = 1 then a1 else if c = 2 then a2 else a3, fun c q hc => ?_, fun k q hk => ?_⟩
  · have hl : c < 9 := (List.getElem?_eq_some_iff.mp hc).1
    have h10 : c = 0 ∨ c = 1 ∨ c = 2 ∨ c = 3 ∨ c = 4 ∨ c = 5 ∨ c = 6 ∨ c = 7 ∨ c = 8 := by omega
    rcases h10 with rfl | rfl | rfl | rfl | rfl | rfl | rfl | rfl | rfl
    · cases hc; exact k0
    · cases hc; exact k1
    · cases hc; exact k2
    · cases hc; exact k3
    · cases hc; exact k4
    · cases hc; exact k5
    · cases hc; exact k6
    · cases hc; exact k7
    · cases hc; exact k8
  · have hl : k < 4 := (List.getElem?_eq_some_iff.mp hk).1
    have h3 : k = 0 ∨ k = 1 ∨ k = 2 ∨ k = 3 := by omega
    rcases h3 with rfl | rfl | rfl | rfl
    · cases hk; exact A0
    · cases hk; exact A1
    · cases hk; exact A2
    · cases hk; exact A3
