/-! ===== the small machine's steps are the machine's ===== -/
def ztys (cy : Nat → ClassId) : List (ClassId × FieldType) := [(cy 0, .int), (cy 1, .object "PrimePlane$Claim"), (cy 2, .object "PrimePlane$Figure"), (cy 3, .object "java/lang/String")]
def zStat : List (String × String × Nat) := [("PrimePlane", "PARENTS", 0), ("PrimePlane", "SUBJECTS", 1), ("PrimePlaneLaw", "PRIMES", 2)]
def zExc (e : Nat) : String := match e with
  | 0 => "java/lang/IllegalArgumentException"
  | 1 => "java/lang/IndexOutOfBoundsException"
  | _ => "java/lang/IllegalStateException"
/-- the law's texts: place in its pool, text, number; their lengths and letters -/
def zLtx : List (Nat × String × Nat) := [(30, "11", 0), (32, "12", 1), (34, "22", 2), (36, "00", 3), (38, "01", 4), (40, "000", 5)]
def zSl : List Nat := [2, 2, 2, 2, 2, 3]
def zSb : List (List Int32) := [[49, 49], [49, 50], [50, 50], [48, 48], [48, 49], [48, 48, 48]]
def zSF : String × String := ("SIOOBE_FORMATTER", "Ljava/util/function/BiFunction;")
/-- what the law's own methods see beside the class's world: the script, the texts -/
def zXT (E : zEnv) (L : Nat → Nat → Nat) (A : Nat → Prop) (U : State) (H : Heap) : Prop := (E 97).1 = 1 →
  va_X (L 97 0) (zscr E).length (fun j => (zscr E).getD j 0) U H ∧ L 97 0 < H.size ∧ ¬ A (L 97 0) ∧ va_AO "java/lang/String" U ∧ vk_S 6 zSl zSb (L 96) (L 95) A U H ∧ (∀ q ∈ zLtx, vk_R "PrimePlaneLaw" q.1 q.2.1 (L 96 q.2.2) U) ∧
  va_Z "java/lang/String" "COMPACT_STRINGS" "Z" (.int 1) A U H ∧ vx_Zq "jdk/internal/util/Preconditions" zSF.1 zSF.2 A U H
theorem zXT.pass {E : zEnv} {L L' : Nat → Nat → Nat} {A B : Nat → Prop} {s U : State} {H : Heap} {locs : List Loc} (h : zXT E L A s s.heap) (hL : ∀ t i, t = 95 ∨ t = 96 ∨ t = 97 → L' t i = L t i) (hS : va_S A s.heap H locs) (hAB : ∀ q, B q → A q) (hW : s.WarmedH U.vm) : zXT E L' B U H := by
  intro he
  obtain ⟨h1, h2, h3, h4, h5, h6, h7, h8⟩ := h he
  have hq : ∀ a : Nat, a < s.heap.size → ¬ A a → H[a]? = s.heap[a]? := fun a ha hn => hS.2.1 a ha hn
  have e95 : L' 95 = L 95 := funext fun i => hL 95 i (Or.inl rfl)
  have e96 : L' 96 = L 96 := funext fun i => hL 96 i (Or.inr (Or.inl rfl))
  have e97 : L' 97 0 = L 97 0 := hL 97 0 (Or.inr (Or.inr rfl))
  rw [e97, e96, e95]
  refine ⟨(h1.moved hW.alike).kept (hq _ h2 h3), Nat.lt_of_lt_of_le h2 hS.1, fun g => h3 (hAB _ g), h4.moved hW.alike, ((h5.moved hW.alike).kept hq).narrow hAB, fun q hq' => (h6 q hq').warm hW, ((h7.moved hW.alike).kept hq).narrow hAB, ((h8.moved hW.alike).kept hq).narrow hAB⟩
/-- what nobody writes: the tables -/
def zST (E : zEnv) (L : Nat → Nat → Nat) (A : Nat → Prop) (U : State) (H : Heap) : Prop :=
  (∀ q ∈ zStat, va_Z q.1 q.2.1 "[I" (.ref (L 98 q.2.2)) A U H) ∧ (∀ t, t < 4 → va_T .int (L 98 t) (zTab t).length (fun j => .int ((zTab t).getD j 0)) A U H) ∧ zXT E L A U H
theorem zST.pass {E : zEnv} {L L' : Nat → Nat → Nat} {A B : Nat → Prop} {s U : State} {H : Heap} {locs : List Loc} (h : zST E L A s s.heap) (hL : ∀ t i, t = 98 ∨ t = 95 ∨ t = 96 ∨ t = 97 → L' t i = L t i) (hS : va_S A s.heap H locs) (hAB : ∀ q, B q → A q) (hW : s.WarmedH U.vm) : zST E L' B U H := by
  obtain ⟨h1, h2, h3⟩ := h
  have hq : ∀ a : Nat, a < s.heap.size → ¬ A a → H[a]? = s.heap[a]? := fun a ha hn => hS.2.1 a ha hn
  refine ⟨fun q hq' => ?_, fun t ht => ?_, h3.pass (fun t i g => hL t i (Or.inr g)) hS hAB hW⟩
  · rw [hL 98 _ (Or.inl rfl)]
    exact (((h1 q hq').moved hW.alike).kept hq).narrow hAB
  · rw [hL 98 _ (Or.inl rfl)]
    exact (((h2 t ht).moved hW.alike).kept hq).narrow hAB
def zC (E : zEnv) (own : String) (cc : ByteArray) (nL : Nat) (Ts : List Cond) (ret : Option FieldType) (p : Program) (l : Launch) (s : State) (m : MethodId) (args : Array Value) (meth : Method) (c : Code) (D : va_G) (cy : Nat → ClassId) (A : Nat → Prop) (L : Nat → Nat → Nat) : Prop :=
  p.tables.exec = Jvm.exec ∧ c.code = cc ∧ c.maxLocals = nL ∧ s.vm.findClass own = some m.cls ∧ (∀ w ∈ Ts, w.before args s = true) ∧ va_K D vwCl (ztys cy) s ∧ (∀ q, s.heap.size ≤ q → A q) ∧ meth.locks = false ∧ meth.sig.returnType = ret ∧ (∀ x ∈ c.exceptionTable.toList, False) ∧ zST E L A s s.heap ∧ l.stackTraces = false
/-- the end: what is owed of an outcome -/
def zEnd (E : zEnv) (D : va_G) (cy : Nat → ClassId) (A : Nat → Prop) (Qc : Array Value → State → Outcome → State → Prop) (XC : String → State → State → Prop) (args : Array Value) (s : State) (L : Nat → Nat → Nat) (o : zOut) : Prop :=
  ∀ (H : Heap) (locs : List Loc), zW E D cy A L o.2 H → va_S A s.heap H locs → match o.1 with
    | .inl v => ∀ t : State, t.heap = H → s.WarmedH t.vm → Qc args s (.returned (v.map (zc L))) t
    | .inr e => ∀ t : State, s.vm.Alike t.vm → H.size ≤ t.heap.size → (∀ q : Nat, q < H.size → t.heap[q]? = H[q]?) → XC (zExc e) s t
def zS (E : zEnv) (own : String) (cc : ByteArray) (nL : Nat) (Ts : List Cond) (ret : Option FieldType) (R : Room) (pc : Nat) (op : zOp) : Prop :=
  ∀ (p : Program) (l : Launch) (e : Env) (s : State) (m : MethodId) (args : Array Value) (below : List Frame) (meth : Method) (c : Code) (D : va_G) (cy : Nat → ClassId) (A : Nat → Prop) (L : Nat → Nat → Nat) (Qc : Array Value → State → Outcome → State → Prop) (XC : String → State → State → Prop) (ls : zLs) (st : List zAV) (as : zAS) (kk : Nat × Nat) (H : Heap) (locs : List Loc) (lsC : Array Slot),
    zC E own cc nL Ts ret p l s m args meth c D cy A L → zW E D cy A L as H → va_S A s.heap H locs → zHas L lsC nL ls → kk.1 ≤ R.cells ∧ kk.2 ≤ R.slots →
    (∀ c' : zCfg, op ls st as kk = some (.inl c') → as.2.length ≤ c'.2.2.2.1.2.length ∧ (c'.2.2.2.2.1 ≤ R.cells ∧ c'.2.2.2.2.2 ≤ R.slots) ∧
      ((∀ (L' : Nat → Nat → Nat) (H' : Heap) (locs' : List Loc) (lsC' : Array Slot), zsame as.2.length L L' → zW E D cy A L' c'.2.2.2.1 H' → va_S A s.heap H' locs' → zHas L' lsC' nL c'.2.1 →
        W p l e R s m args below meth c H' locs' c'.2.2.2.2.1 c'.2.2.2.2.2 (vx_MQ below Qc XC args s R.cells R.slots A) (F0 m c'.1 lsC' (c'.2.2.1.map (zc L')))) →
      W p l e R s m args below meth c H locs kk.1 kk.2 (vx_MQ below Qc XC args s R.cells R.slots A) (F0 m pc lsC (st.map (zc L))))) ∧
    ∀ o : zOut, op ls st as kk = some (.inr o) → zEnd E D cy A Qc XC args s L o → W p l e R s m args below meth c H locs kk.1 kk.2 (vx_MQ below Qc XC args s R.cells R.slots A) (F0 m pc lsC (st.map (zc L)))
theorem zC.move {E : zEnv} {own : String} {cc : ByteArray} {nL : Nat} {Ts : List Cond} {ret : Option FieldType} {p : Program} {l : Launch} {s : State} {m : MethodId} {args : Array Value} {meth : Method} {c : Code} {D : va_G} {cy : Nat → ClassId} {A : Nat → Prop} {L L' : Nat → Nat → Nat} {n : Nat} (h : zC E own cc nL Ts ret p l s m args meth c D cy A L) (hL : zsame n L L') : zC E own cc nL Ts ret p l s m args meth c D cy A L' := by
  obtain ⟨hx, hb, hml, hown, hts, hK, hA, hlocks, hr, hxt, hst, hfl⟩ := h
  exact ⟨hx, hb, hml, hown, hts, hK, hA, hlocks, hr, hxt, hst.pass (locs := []) (fun t i g => hL t i (Or.inl (by omega))) va_S.rf (fun _ h => h) (State.WarmedH.refl s), hfl⟩
theorem zrun_sound {code : Nat → Option zOp} {E : zEnv} {own : String} {cc : ByteArray} {nL : Nat} {Ts : List Cond} {ret : Option FieldType} {R : Room} (hcode : ∀ pc op, code pc = some op → zS E own cc nL Ts ret R pc op)
    {p : Program} {l : Launch} {e : Env} {s : State} {m : MethodId} {args : Array Value} {below : List Frame} {meth : Method} {c : Code} {D : va_G} {cy : Nat → ClassId} {A : Nat → Prop} {Qc : Array Value → State → Outcome → State → Prop} {XC : String → State → State → Prop} :
    ∀ (n pc : Nat) (ls : zLs) (st : List zAV) (as : zAS) (kk : Nat × Nat) (o : zOut), zrun code n (pc, ls, st, as, kk) = some o → ∀ (L : Nat → Nat → Nat) (H : Heap) (locs : List Loc) (lsC : Array Slot),
      zC E own cc nL Ts ret p l s m args meth c D cy A L → zW E D cy A L as H → va_S A s.heap H locs → zHas L lsC nL ls → kk.1 ≤ R.cells ∧ kk.2 ≤ R.slots → (∀ L', zsame as.2.length L L' → zEnd E D cy A Qc XC args s L' o) →
      W p l e R s m args below meth c H locs kk.1 kk.2 (vx_MQ below Qc XC args s R.cells R.slots A) (F0 m pc lsC (st.map (zc L))) := by
  intro n
  induction n with
  | zero => intro pc ls st as kk o h; simp [zrun] at h
  | succ n ih =>
    intro pc ls st as kk o h L H locs lsC hC hW hS hl hkk hEnd
    rw [zrun] at h
    split at h
    · cases h
    · rename_i op hop
      obtain ⟨h1, h2⟩ := hcode pc op hop p l e s m args below meth c D cy A L Qc XC ls st as kk H locs lsC hC hW hS hl hkk
      split at h
      · cases h
      · rename_i c' hc'
        obtain ⟨pc', ls', st', as', kk'⟩ := c'
        obtain ⟨g1, g2, g3⟩ := h1 _ hc'
        refine g3 (fun L' H' locs' lsC' hLL hW' hS' hl' => ih pc' ls' st' as' kk' o h L' H' locs' lsC' (hC.move hLL) hW' hS' hl' g2 (fun L'' h'' => hEnd L'' (hLL.trans h'' g1)))
      · rename_i o' ho'
        cases h
        exact h2 _ ho' (hEnd L zsame.rfl')

theorem zs_iconst {E : zEnv} {own : String} {cc : ByteArray} {nL : Nat} {Ts : List Cond} {ret : Option FieldType} {R : Room} {pc : Nat} {n : Int} {v : Int32} (hdg : decode cc pc = .ok (.iconst n, 1)) (hv : Int32.ofInt n = v) : zS E own cc nL Ts ret R pc (z_ic v (pc + 1)) := by
  intro p l e s m args below meth c D cy A L Qc XC ls st as kk H locs lsC hC hW hS hl hkk
  obtain ⟨hx, hb, hml, hown, hts, hK, hA, hlocks, hr, hxt, hst, hfl⟩ := hC
  refine ⟨fun c' h => ?_, fun o h => ?_⟩
  · unfold z_ic at h
    cases h
    refine ⟨Nat.le_refl _, hkk, fun K => ?_⟩
    refine lv_iconst hx hb hdg hv ?_
    exact K L _ locs lsC zsame.rfl' hW hS hl
  · unfold z_ic at h
    cases h

theorem zs_bipush {E : zEnv} {own : String} {cc : ByteArray} {nL : Nat} {Ts : List Cond} {ret : Option FieldType} {R : Room} {pc : Nat} {n : Int} {v : Int32} (hdg : decode cc pc = .ok (.bipush n, 2)) (hv : (Int8.ofInt n).toInt32 = v) : zS E own cc nL Ts ret R pc (z_ic v (pc + 2)) := by
  intro p l e s m args below meth c D cy A L Qc XC ls st as kk H locs lsC hC hW hS hl hkk
  obtain ⟨hx, hb, hml, hown, hts, hK, hA, hlocks, hr, hxt, hst, hfl⟩ := hC
  refine ⟨fun c' h => ?_, fun o h => ?_⟩
  · unfold z_ic at h
    cases h
    refine ⟨Nat.le_refl _, hkk, fun K => ?_⟩
    refine lv_bipush hx hb hdg hv ?_
    exact K L _ locs lsC zsame.rfl' hW hS hl
  · unfold z_ic at h
    cases h

theorem zs_sipush {E : zEnv} {own : String} {cc : ByteArray} {nL : Nat} {Ts : List Cond} {ret : Option FieldType} {R : Room} {pc : Nat} {n : Int} {v : Int32} (hdg : decode cc pc = .ok (.sipush n, 3)) (hv : (Int16.ofInt n).toInt32 = v) : zS E own cc nL Ts ret R pc (z_ic v (pc + 3)) := by
  intro p l e s m args below meth c D cy A L Qc XC ls st as kk H locs lsC hC hW hS hl hkk
  obtain ⟨hx, hb, hml, hown, hts, hK, hA, hlocks, hr, hxt, hst, hfl⟩ := hC
  refine ⟨fun c' h => ?_, fun o h => ?_⟩
  · unfold z_ic at h
    cases h
    refine ⟨Nat.le_refl _, hkk, fun K => ?_⟩
    refine lv_sipush hx hb hdg hv ?_
    exact K L _ locs lsC zsame.rfl' hW hS hl
  · unfold z_ic at h
    cases h

theorem zs_ldc {E : zEnv} {own : String} {cc : ByteArray} {nL : Nat} {Ts : List Cond} {ret : Option FieldType} {R : Room} {pc : Nat} {i : Nat} {v : Int32} (hdg : decode cc pc = .ok (.ldc i, 2)) (hw : Jvm.Cond.constant own i v ∈ Ts) : zS E own cc nL Ts ret R pc (z_ic v (pc + 2)) := by
  intro p l e s m args below meth c D cy A L Qc XC ls st as kk H locs lsC hC hW hS hl hkk
  obtain ⟨hx, hb, hml, hown, hts, hK, hA, hlocks, hr, hxt, hst, hfl⟩ := hC
  refine ⟨fun c' h => ?_, fun o h => ?_⟩
  · unfold z_ic at h
    cases h
    refine ⟨Nat.le_refl _, hkk, fun K => ?_⟩
    refine lv_ldc hx hb hown (hts _ hw) hdg ?_
    exact K L _ locs lsC zsame.rfl' hW hS hl
  · unfold z_ic at h
    cases h

theorem zs_ldc2 {E : zEnv} {own : String} {cc : ByteArray} {nL : Nat} {Ts : List Cond} {ret : Option FieldType} {R : Room} {pc : Nat} {i : Nat} {v : Int64} (hdg : decode cc pc = .ok (.ldc2_w i, 3)) (hw : Jvm.Cond.constantLong own i v ∈ Ts) : zS E own cc nL Ts ret R pc (z_lc v (pc + 3)) := by
  intro p l e s m args below meth c D cy A L Qc XC ls st as kk H locs lsC hC hW hS hl hkk
  obtain ⟨hx, hb, hml, hown, hts, hK, hA, hlocks, hr, hxt, hst, hfl⟩ := hC
  refine ⟨fun c' h => ?_, fun o h => ?_⟩
  · unfold z_lc at h
    cases h
    refine ⟨Nat.le_refl _, hkk, fun K => ?_⟩
    refine lv_ldc2 hx hb hown (hts _ hw) hdg ?_
    exact K L _ locs lsC zsame.rfl' hW hS hl
  · unfold z_lc at h
    cases h

theorem zs_dconst1 {E : zEnv} {own : String} {cc : ByteArray} {nL : Nat} {Ts : List Cond} {ret : Option FieldType} {R : Room} {pc : Nat}  (hdg : decode cc pc = .ok (.dconst 1, 1)) : zS E own cc nL Ts ret R pc (z_dc 0x3ff0000000000000 (pc + 1)) := by
  intro p l e s m args below meth c D cy A L Qc XC ls st as kk H locs lsC hC hW hS hl hkk
  obtain ⟨hx, hb, hml, hown, hts, hK, hA, hlocks, hr, hxt, hst, hfl⟩ := hC
  refine ⟨fun c' h => ?_, fun o h => ?_⟩
  · unfold z_dc at h
    cases h
    refine ⟨Nat.le_refl _, hkk, fun K => ?_⟩
    refine lv_dconst1 hx hb hdg ?_
    exact K L _ locs lsC zsame.rfl' hW hS hl
  · unfold z_dc at h
    cases h

theorem zs_iadd {E : zEnv} {own : String} {cc : ByteArray} {nL : Nat} {Ts : List Cond} {ret : Option FieldType} {R : Room} {pc : Nat}  (hdg : decode cc pc = .ok (.iadd, 1)) : zS E own cc nL Ts ret R pc (z_bin (fun x y => x + y) (pc + 1)) := by
  intro p l e s m args below meth c D cy A L Qc XC ls st as kk H locs lsC hC hW hS hl hkk
  obtain ⟨hx, hb, hml, hown, hts, hK, hA, hlocks, hr, hxt, hst, hfl⟩ := hC
  refine ⟨fun c' h => ?_, fun o h => ?_⟩
  · unfold z_bin at h
    split at h
    · cases h
      refine ⟨Nat.le_refl _, hkk, fun K => ?_⟩
      refine lv_iadd hx hb hdg ?_
      exact K L _ locs lsC zsame.rfl' hW hS hl
    · cases h
  · unfold z_bin at h
    split at h <;> cases h

theorem zs_isub {E : zEnv} {own : String} {cc : ByteArray} {nL : Nat} {Ts : List Cond} {ret : Option FieldType} {R : Room} {pc : Nat}  (hdg : decode cc pc = .ok (.isub, 1)) : zS E own cc nL Ts ret R pc (z_bin (fun x y => x - y) (pc + 1)) := by
  intro p l e s m args below meth c D cy A L Qc XC ls st as kk H locs lsC hC hW hS hl hkk
  obtain ⟨hx, hb, hml, hown, hts, hK, hA, hlocks, hr, hxt, hst, hfl⟩ := hC
  refine ⟨fun c' h => ?_, fun o h => ?_⟩
  · unfold z_bin at h
    split at h
    · cases h
      refine ⟨Nat.le_refl _, hkk, fun K => ?_⟩
      refine lv_isub hx hb hdg ?_
      exact K L _ locs lsC zsame.rfl' hW hS hl
    · cases h
  · unfold z_bin at h
    split at h <;> cases h

theorem zs_imul {E : zEnv} {own : String} {cc : ByteArray} {nL : Nat} {Ts : List Cond} {ret : Option FieldType} {R : Room} {pc : Nat}  (hdg : decode cc pc = .ok (.imul, 1)) : zS E own cc nL Ts ret R pc (z_bin (fun x y => x * y) (pc + 1)) := by
  intro p l e s m args below meth c D cy A L Qc XC ls st as kk H locs lsC hC hW hS hl hkk
  obtain ⟨hx, hb, hml, hown, hts, hK, hA, hlocks, hr, hxt, hst, hfl⟩ := hC
  refine ⟨fun c' h => ?_, fun o h => ?_⟩
  · unfold z_bin at h
    split at h
    · cases h
      refine ⟨Nat.le_refl _, hkk, fun K => ?_⟩
      refine lv_imul hx hb hdg ?_
      exact K L _ locs lsC zsame.rfl' hW hS hl
    · cases h
  · unfold z_bin at h
    split at h <;> cases h

theorem zs_iand {E : zEnv} {own : String} {cc : ByteArray} {nL : Nat} {Ts : List Cond} {ret : Option FieldType} {R : Room} {pc : Nat}  (hdg : decode cc pc = .ok (.iand, 1)) : zS E own cc nL Ts ret R pc (z_bin (fun x y => x &&& y) (pc + 1)) := by
  intro p l e s m args below meth c D cy A L Qc XC ls st as kk H locs lsC hC hW hS hl hkk
  obtain ⟨hx, hb, hml, hown, hts, hK, hA, hlocks, hr, hxt, hst, hfl⟩ := hC
  refine ⟨fun c' h => ?_, fun o h => ?_⟩
  · unfold z_bin at h
    split at h
    · cases h
      refine ⟨Nat.le_refl _, hkk, fun K => ?_⟩
      refine lv_iand hx hb hdg ?_
      exact K L _ locs lsC zsame.rfl' hW hS hl
    · cases h
  · unfold z_bin at h
    split at h <;> cases h

theorem zs_ixor {E : zEnv} {own : String} {cc : ByteArray} {nL : Nat} {Ts : List Cond} {ret : Option FieldType} {R : Room} {pc : Nat}  (hdg : decode cc pc = .ok (.ixor, 1)) : zS E own cc nL Ts ret R pc (z_bin (fun x y => x ^^^ y) (pc + 1)) := by
  intro p l e s m args below meth c D cy A L Qc XC ls st as kk H locs lsC hC hW hS hl hkk
  obtain ⟨hx, hb, hml, hown, hts, hK, hA, hlocks, hr, hxt, hst, hfl⟩ := hC
  refine ⟨fun c' h => ?_, fun o h => ?_⟩
  · unfold z_bin at h
    split at h
    · cases h
      refine ⟨Nat.le_refl _, hkk, fun K => ?_⟩
      refine lv_ixor hx hb hdg ?_
      exact K L _ locs lsC zsame.rfl' hW hS hl
    · cases h
  · unfold z_bin at h
    split at h <;> cases h

theorem zs_ladd {E : zEnv} {own : String} {cc : ByteArray} {nL : Nat} {Ts : List Cond} {ret : Option FieldType} {R : Room} {pc : Nat}  (hdg : decode cc pc = .ok (.ladd, 1)) : zS E own cc nL Ts ret R pc (z_lbin (fun x y => x + y) (pc + 1)) := by
  intro p l e s m args below meth c D cy A L Qc XC ls st as kk H locs lsC hC hW hS hl hkk
  obtain ⟨hx, hb, hml, hown, hts, hK, hA, hlocks, hr, hxt, hst, hfl⟩ := hC
  refine ⟨fun c' h => ?_, fun o h => ?_⟩
  · unfold z_lbin at h
    split at h
    · cases h
      refine ⟨Nat.le_refl _, hkk, fun K => ?_⟩
      refine lv_ladd hx hb hdg ?_
      exact K L _ locs lsC zsame.rfl' hW hS hl
    · cases h
  · unfold z_lbin at h
    split at h <;> cases h

theorem zs_lmul {E : zEnv} {own : String} {cc : ByteArray} {nL : Nat} {Ts : List Cond} {ret : Option FieldType} {R : Room} {pc : Nat}  (hdg : decode cc pc = .ok (.lmul, 1)) : zS E own cc nL Ts ret R pc (z_lbin (fun x y => x * y) (pc + 1)) := by
  intro p l e s m args below meth c D cy A L Qc XC ls st as kk H locs lsC hC hW hS hl hkk
  obtain ⟨hx, hb, hml, hown, hts, hK, hA, hlocks, hr, hxt, hst, hfl⟩ := hC
  refine ⟨fun c' h => ?_, fun o h => ?_⟩
  · unfold z_lbin at h
    split at h
    · cases h
      refine ⟨Nat.le_refl _, hkk, fun K => ?_⟩
      refine lv_lmul hx hb hdg ?_
      exact K L _ locs lsC zsame.rfl' hW hS hl
    · cases h
  · unfold z_lbin at h
    split at h <;> cases h

theorem zs_ineg {E : zEnv} {own : String} {cc : ByteArray} {nL : Nat} {Ts : List Cond} {ret : Option FieldType} {R : Room} {pc : Nat}  (hdg : decode cc pc = .ok (.ineg, 1)) : zS E own cc nL Ts ret R pc (z_neg (pc + 1)) := by
  intro p l e s m args below meth c D cy A L Qc XC ls st as kk H locs lsC hC hW hS hl hkk
  obtain ⟨hx, hb, hml, hown, hts, hK, hA, hlocks, hr, hxt, hst, hfl⟩ := hC
  refine ⟨fun c' h => ?_, fun o h => ?_⟩
  · unfold z_neg at h
    split at h
    · cases h
      refine ⟨Nat.le_refl _, hkk, fun K => ?_⟩
      refine lv_ineg hx hb hdg ?_
      exact K L _ locs lsC zsame.rfl' hW hS hl
    · cases h
  · unfold z_neg at h
    split at h <;> cases h

theorem zs_i2l {E : zEnv} {own : String} {cc : ByteArray} {nL : Nat} {Ts : List Cond} {ret : Option FieldType} {R : Room} {pc : Nat}  (hdg : decode cc pc = .ok (.i2l, 1)) : zS E own cc nL Ts ret R pc (z_i2l (pc + 1)) := by
  intro p l e s m args below meth c D cy A L Qc XC ls st as kk H locs lsC hC hW hS hl hkk
  obtain ⟨hx, hb, hml, hown, hts, hK, hA, hlocks, hr, hxt, hst, hfl⟩ := hC
  refine ⟨fun c' h => ?_, fun o h => ?_⟩
  · unfold z_i2l at h
    split at h
    · cases h
      refine ⟨Nat.le_refl _, hkk, fun K => ?_⟩
      refine lv_i2l hx hb hdg rfl ?_
      exact K L _ locs lsC zsame.rfl' hW hS hl
    · cases h
  · unfold z_i2l at h
    split at h <;> cases h

theorem zs_i2d {E : zEnv} {own : String} {cc : ByteArray} {nL : Nat} {Ts : List Cond} {ret : Option FieldType} {R : Room} {pc : Nat}  (hdg : decode cc pc = .ok (.i2d, 1)) : zS E own cc nL Ts ret R pc (z_i2d (pc + 1)) := by
  intro p l e s m args below meth c D cy A L Qc XC ls st as kk H locs lsC hC hW hS hl hkk
  obtain ⟨hx, hb, hml, hown, hts, hK, hA, hlocks, hr, hxt, hst, hfl⟩ := hC
  refine ⟨fun c' h => ?_, fun o h => ?_⟩
  · unfold z_i2d at h
    split at h
    · cases h
      refine ⟨Nat.le_refl _, hkk, fun K => ?_⟩
      refine lv_i2d hx hb hdg ?_
      exact K L _ locs lsC zsame.rfl' hW hS hl
    · cases h
  · unfold z_i2d at h
    split at h <;> cases h

theorem zs_goto {E : zEnv} {own : String} {cc : ByteArray} {nL : Nat} {Ts : List Cond} {ret : Option FieldType} {R : Room} {pc : Nat} {off : Int} {tgt : Nat} (hdg : decode cc pc = .ok (.goto off, 3)) (ht : (pc : Int) + off = (tgt : Int)) : zS E own cc nL Ts ret R pc (z_goto tgt) := by
  intro p l e s m args below meth c D cy A L Qc XC ls st as kk H locs lsC hC hW hS hl hkk
  obtain ⟨hx, hb, hml, hown, hts, hK, hA, hlocks, hr, hxt, hst, hfl⟩ := hC
  refine ⟨fun c' h => ?_, fun o h => ?_⟩
  · unfold z_goto at h
    cases h
    refine ⟨Nat.le_refl _, hkk, fun K => ?_⟩
    refine lv_goto hx hb hdg ht ?_
    exact K L _ locs lsC zsame.rfl' hW hS hl
  · unfold z_goto at h
    cases h

theorem zs_ifeq {E : zEnv} {own : String} {cc : ByteArray} {nL : Nat} {Ts : List Cond} {ret : Option FieldType} {R : Room} {pc : Nat} {off : Int} {tgt : Nat} (hdg : decode cc pc = .ok (.ifCond .eq off, 3)) (ht : (pc : Int) + off = (tgt : Int)) : zS E own cc nL Ts ret R pc (z_if (fun x => decide (x = 0)) tgt (pc + 3)) := by
  intro p l e s m args below meth c D cy A L Qc XC ls st as kk H locs lsC hC hW hS hl hkk
  obtain ⟨hx, hb, hml, hown, hts, hK, hA, hlocks, hr, hxt, hst, hfl⟩ := hC
  refine ⟨fun c' h => ?_, fun o h => ?_⟩
  · unfold z_if at h
    split at h
    · cases h
      refine ⟨Nat.le_refl _, hkk, fun K => ?_⟩
      refine lv_if_eq (tgt := tgt) hx hb hdg ht (fun hc => ?_) (fun hc => ?_)
      · have K' := K L _ locs lsC zsame.rfl' hW hS hl
        simpa [hc] using K'
      · have K' := K L _ locs lsC zsame.rfl' hW hS hl
        simpa [hc] using K'
    · cases h
  · unfold z_if at h
    split at h <;> cases h

theorem zs_ifne {E : zEnv} {own : String} {cc : ByteArray} {nL : Nat} {Ts : List Cond} {ret : Option FieldType} {R : Room} {pc : Nat} {off : Int} {tgt : Nat} (hdg : decode cc pc = .ok (.ifCond .ne off, 3)) (ht : (pc : Int) + off = (tgt : Int)) : zS E own cc nL Ts ret R pc (z_if (fun x => decide (¬ x = 0)) tgt (pc + 3)) := by
  intro p l e s m args below meth c D cy A L Qc XC ls st as kk H locs lsC hC hW hS hl hkk
  obtain ⟨hx, hb, hml, hown, hts, hK, hA, hlocks, hr, hxt, hst, hfl⟩ := hC
  refine ⟨fun c' h => ?_, fun o h => ?_⟩
  · unfold z_if at h
    split at h
    · cases h
      refine ⟨Nat.le_refl _, hkk, fun K => ?_⟩
      refine lv_if_ne (tgt := tgt) hx hb hdg ht (fun hc => ?_) (fun hc => ?_)
      · have K' := K L _ locs lsC zsame.rfl' hW hS hl
        simpa [hc] using K'
      · have K' := K L _ locs lsC zsame.rfl' hW hS hl
        simpa [hc] using K'
    · cases h
  · unfold z_if at h
    split at h <;> cases h

theorem zs_iflt {E : zEnv} {own : String} {cc : ByteArray} {nL : Nat} {Ts : List Cond} {ret : Option FieldType} {R : Room} {pc : Nat} {off : Int} {tgt : Nat} (hdg : decode cc pc = .ok (.ifCond .lt off, 3)) (ht : (pc : Int) + off = (tgt : Int)) : zS E own cc nL Ts ret R pc (z_if (fun x => decide (x < 0)) tgt (pc + 3)) := by
  intro p l e s m args below meth c D cy A L Qc XC ls st as kk H locs lsC hC hW hS hl hkk
  obtain ⟨hx, hb, hml, hown, hts, hK, hA, hlocks, hr, hxt, hst, hfl⟩ := hC
  refine ⟨fun c' h => ?_, fun o h => ?_⟩
  · unfold z_if at h
    split at h
    · cases h
      refine ⟨Nat.le_refl _, hkk, fun K => ?_⟩
      refine lv_if_lt (tgt := tgt) hx hb hdg ht (fun hc => ?_) (fun hc => ?_)
      · have K' := K L _ locs lsC zsame.rfl' hW hS hl
        simpa [hc] using K'
      · have K' := K L _ locs lsC zsame.rfl' hW hS hl
        simpa [hc] using K'
    · cases h
  · unfold z_if at h
    split at h <;> cases h

theorem zs_ifge {E : zEnv} {own : String} {cc : ByteArray} {nL : Nat} {Ts : List Cond} {ret : Option FieldType} {R : Room} {pc : Nat} {off : Int} {tgt : Nat} (hdg : decode cc pc = .ok (.ifCond .ge off, 3)) (ht : (pc : Int) + off = (tgt : Int)) : zS E own cc nL Ts ret R pc (z_if (fun x => decide (0 ≤ x)) tgt (pc + 3)) := by
  intro p l e s m args below meth c D cy A L Qc XC ls st as kk H locs lsC hC hW hS hl hkk
  obtain ⟨hx, hb, hml, hown, hts, hK, hA, hlocks, hr, hxt, hst, hfl⟩ := hC
  refine ⟨fun c' h => ?_, fun o h => ?_⟩
  · unfold z_if at h
    split at h
    · cases h
      refine ⟨Nat.le_refl _, hkk, fun K => ?_⟩
      refine lv_if_ge (tgt := tgt) hx hb hdg ht (fun hc => ?_) (fun hc => ?_)
      · have K' := K L _ locs lsC zsame.rfl' hW hS hl
        simpa [hc] using K'
      · have K' := K L _ locs lsC zsame.rfl' hW hS hl
        simpa [hc] using K'
    · cases h
  · unfold z_if at h
    split at h <;> cases h

theorem zs_ifgt {E : zEnv} {own : String} {cc : ByteArray} {nL : Nat} {Ts : List Cond} {ret : Option FieldType} {R : Room} {pc : Nat} {off : Int} {tgt : Nat} (hdg : decode cc pc = .ok (.ifCond .gt off, 3)) (ht : (pc : Int) + off = (tgt : Int)) : zS E own cc nL Ts ret R pc (z_if (fun x => decide (0 < x)) tgt (pc + 3)) := by
  intro p l e s m args below meth c D cy A L Qc XC ls st as kk H locs lsC hC hW hS hl hkk
  obtain ⟨hx, hb, hml, hown, hts, hK, hA, hlocks, hr, hxt, hst, hfl⟩ := hC
  refine ⟨fun c' h => ?_, fun o h => ?_⟩
  · unfold z_if at h
    split at h
    · cases h
      refine ⟨Nat.le_refl _, hkk, fun K => ?_⟩
      refine lv_if_gt (tgt := tgt) hx hb hdg ht (fun hc => ?_) (fun hc => ?_)
      · have K' := K L _ locs lsC zsame.rfl' hW hS hl
        simpa [hc] using K'
      · have K' := K L _ locs lsC zsame.rfl' hW hS hl
        simpa [hc] using K'
    · cases h
  · unfold z_if at h
    split at h <;> cases h

theorem zs_ifle {E : zEnv} {own : String} {cc : ByteArray} {nL : Nat} {Ts : List Cond} {ret : Option FieldType} {R : Room} {pc : Nat} {off : Int} {tgt : Nat} (hdg : decode cc pc = .ok (.ifCond .le off, 3)) (ht : (pc : Int) + off = (tgt : Int)) : zS E own cc nL Ts ret R pc (z_if (fun x => decide (x ≤ 0)) tgt (pc + 3)) := by
  intro p l e s m args below meth c D cy A L Qc XC ls st as kk H locs lsC hC hW hS hl hkk
  obtain ⟨hx, hb, hml, hown, hts, hK, hA, hlocks, hr, hxt, hst, hfl⟩ := hC
  refine ⟨fun c' h => ?_, fun o h => ?_⟩
  · unfold z_if at h
    split at h
    · cases h
      refine ⟨Nat.le_refl _, hkk, fun K => ?_⟩
      refine lv_if_le (tgt := tgt) hx hb hdg ht (fun hc => ?_) (fun hc => ?_)
      · have K' := K L _ locs lsC zsame.rfl' hW hS hl
        simpa [hc] using K'
      · have K' := K L _ locs lsC zsame.rfl' hW hS hl
        simpa [hc] using K'
    · cases h
  · unfold z_if at h
    split at h <;> cases h

theorem zs_iceq {E : zEnv} {own : String} {cc : ByteArray} {nL : Nat} {Ts : List Cond} {ret : Option FieldType} {R : Room} {pc : Nat} {off : Int} {tgt : Nat} (hdg : decode cc pc = .ok (.if_icmp .eq off, 3)) (ht : (pc : Int) + off = (tgt : Int)) : zS E own cc nL Ts ret R pc (z_cmp (fun x y => decide (x = y)) tgt (pc + 3)) := by
  intro p l e s m args below meth c D cy A L Qc XC ls st as kk H locs lsC hC hW hS hl hkk
  obtain ⟨hx, hb, hml, hown, hts, hK, hA, hlocks, hr, hxt, hst, hfl⟩ := hC
  refine ⟨fun c' h => ?_, fun o h => ?_⟩
  · unfold z_cmp at h
    split at h
    · cases h
      refine ⟨Nat.le_refl _, hkk, fun K => ?_⟩
      refine lv_icmp_eq (tgt := tgt) hx hb hdg ht (fun hc => ?_) (fun hc => ?_)
      · have K' := K L _ locs lsC zsame.rfl' hW hS hl
        simpa [hc] using K'
      · have K' := K L _ locs lsC zsame.rfl' hW hS hl
        simpa [hc] using K'
    · cases h
  · unfold z_cmp at h
    split at h <;> cases h

theorem zs_icne {E : zEnv} {own : String} {cc : ByteArray} {nL : Nat} {Ts : List Cond} {ret : Option FieldType} {R : Room} {pc : Nat} {off : Int} {tgt : Nat} (hdg : decode cc pc = .ok (.if_icmp .ne off, 3)) (ht : (pc : Int) + off = (tgt : Int)) : zS E own cc nL Ts ret R pc (z_cmp (fun x y => decide (¬ x = y)) tgt (pc + 3)) := by
  intro p l e s m args below meth c D cy A L Qc XC ls st as kk H locs lsC hC hW hS hl hkk
  obtain ⟨hx, hb, hml, hown, hts, hK, hA, hlocks, hr, hxt, hst, hfl⟩ := hC
  refine ⟨fun c' h => ?_, fun o h => ?_⟩
  · unfold z_cmp at h
    split at h
    · cases h
      refine ⟨Nat.le_refl _, hkk, fun K => ?_⟩
      refine lv_icmp_ne (tgt := tgt) hx hb hdg ht (fun hc => ?_) (fun hc => ?_)
      · have K' := K L _ locs lsC zsame.rfl' hW hS hl
        simpa [hc] using K'
      · have K' := K L _ locs lsC zsame.rfl' hW hS hl
        simpa [hc] using K'
    · cases h
  · unfold z_cmp at h
    split at h <;> cases h

theorem zs_iclt {E : zEnv} {own : String} {cc : ByteArray} {nL : Nat} {Ts : List Cond} {ret : Option FieldType} {R : Room} {pc : Nat} {off : Int} {tgt : Nat} (hdg : decode cc pc = .ok (.if_icmp .lt off, 3)) (ht : (pc : Int) + off = (tgt : Int)) : zS E own cc nL Ts ret R pc (z_cmp (fun x y => decide (x < y)) tgt (pc + 3)) := by
  intro p l e s m args below meth c D cy A L Qc XC ls st as kk H locs lsC hC hW hS hl hkk
  obtain ⟨hx, hb, hml, hown, hts, hK, hA, hlocks, hr, hxt, hst, hfl⟩ := hC
  refine ⟨fun c' h => ?_, fun o h => ?_⟩
  · unfold z_cmp at h
    split at h
    · cases h
      refine ⟨Nat.le_refl _, hkk, fun K => ?_⟩
      refine lv_icmp_lt (tgt := tgt) hx hb hdg ht (fun hc => ?_) (fun hc => ?_)
      · have K' := K L _ locs lsC zsame.rfl' hW hS hl
        simpa [hc] using K'
      · have K' := K L _ locs lsC zsame.rfl' hW hS hl
        simpa [hc] using K'
    · cases h
  · unfold z_cmp at h
    split at h <;> cases h

theorem zs_icge {E : zEnv} {own : String} {cc : ByteArray} {nL : Nat} {Ts : List Cond} {ret : Option FieldType} {R : Room} {pc : Nat} {off : Int} {tgt : Nat} (hdg : decode cc pc = .ok (.if_icmp .ge off, 3)) (ht : (pc : Int) + off = (tgt : Int)) : zS E own cc nL Ts ret R pc (z_cmp (fun x y => decide (y ≤ x)) tgt (pc + 3)) := by
  intro p l e s m args below meth c D cy A L Qc XC ls st as kk H locs lsC hC hW hS hl hkk
  obtain ⟨hx, hb, hml, hown, hts, hK, hA, hlocks, hr, hxt, hst, hfl⟩ := hC
  refine ⟨fun c' h => ?_, fun o h => ?_⟩
  · unfold z_cmp at h
    split at h
    · cases h
      refine ⟨Nat.le_refl _, hkk, fun K => ?_⟩
      refine lv_icmp_ge (tgt := tgt) hx hb hdg ht (fun hc => ?_) (fun hc => ?_)
      · have K' := K L _ locs lsC zsame.rfl' hW hS hl
        simpa [hc] using K'
      · have K' := K L _ locs lsC zsame.rfl' hW hS hl
        simpa [hc] using K'
    · cases h
  · unfold z_cmp at h
    split at h <;> cases h

theorem zs_icgt {E : zEnv} {own : String} {cc : ByteArray} {nL : Nat} {Ts : List Cond} {ret : Option FieldType} {R : Room} {pc : Nat} {off : Int} {tgt : Nat} (hdg : decode cc pc = .ok (.if_icmp .gt off, 3)) (ht : (pc : Int) + off = (tgt : Int)) : zS E own cc nL Ts ret R pc (z_cmp (fun x y => decide (y < x)) tgt (pc + 3)) := by
  intro p l e s m args below meth c D cy A L Qc XC ls st as kk H locs lsC hC hW hS hl hkk
  obtain ⟨hx, hb, hml, hown, hts, hK, hA, hlocks, hr, hxt, hst, hfl⟩ := hC
  refine ⟨fun c' h => ?_, fun o h => ?_⟩
  · unfold z_cmp at h
    split at h
    · cases h
      refine ⟨Nat.le_refl _, hkk, fun K => ?_⟩
      refine lv_icmp_gt (tgt := tgt) hx hb hdg ht (fun hc => ?_) (fun hc => ?_)
      · have K' := K L _ locs lsC zsame.rfl' hW hS hl
        simpa [hc] using K'
      · have K' := K L _ locs lsC zsame.rfl' hW hS hl
        simpa [hc] using K'
    · cases h
  · unfold z_cmp at h
    split at h <;> cases h

theorem zs_icle {E : zEnv} {own : String} {cc : ByteArray} {nL : Nat} {Ts : List Cond} {ret : Option FieldType} {R : Room} {pc : Nat} {off : Int} {tgt : Nat} (hdg : decode cc pc = .ok (.if_icmp .le off, 3)) (ht : (pc : Int) + off = (tgt : Int)) : zS E own cc nL Ts ret R pc (z_cmp (fun x y => decide (x ≤ y)) tgt (pc + 3)) := by
  intro p l e s m args below meth c D cy A L Qc XC ls st as kk H locs lsC hC hW hS hl hkk
  obtain ⟨hx, hb, hml, hown, hts, hK, hA, hlocks, hr, hxt, hst, hfl⟩ := hC
  refine ⟨fun c' h => ?_, fun o h => ?_⟩
  · unfold z_cmp at h
    split at h
    · cases h
      refine ⟨Nat.le_refl _, hkk, fun K => ?_⟩
      refine lv_icmp_le (tgt := tgt) hx hb hdg ht (fun hc => ?_) (fun hc => ?_)
      · have K' := K L _ locs lsC zsame.rfl' hW hS hl
        simpa [hc] using K'
      · have K' := K L _ locs lsC zsame.rfl' hW hS hl
        simpa [hc] using K'
    · cases h
  · unfold z_cmp at h
    split at h <;> cases h

theorem zs_idiv {E : zEnv} {own : String} {cc : ByteArray} {nL : Nat} {Ts : List Cond} {ret : Option FieldType} {R : Room} {pc : Nat} (hdg : decode cc pc = .ok (.idiv, 1)) : zS E own cc nL Ts ret R pc (z_div (pc + 1)) := by
  intro p l e s m args below meth c D cy A L Qc XC ls st as kk H locs lsC hC hW hS hl hkk
  obtain ⟨hx, hb, hml, hown, hts, hK, hA, hlocks, hr, hxt, hst, hfl⟩ := hC
  refine ⟨fun c' h => ?_, fun o h => ?_⟩
  · unfold z_div at h
    split at h
    · split at h
      · cases h
      · rename_i hne
        cases h
        refine ⟨Nat.le_refl _, hkk, fun K => ?_⟩
        refine lv_idiv hx hb hdg hne ?_
        exact K L _ locs lsC zsame.rfl' hW hS hl
    · cases h
  · unfold z_div at h
    split at h
    · split at h <;> cases h
    · cases h

theorem zs_irem {E : zEnv} {own : String} {cc : ByteArray} {nL : Nat} {Ts : List Cond} {ret : Option FieldType} {R : Room} {pc : Nat} (hdg : decode cc pc = .ok (.irem, 1)) : zS E own cc nL Ts ret R pc (z_rem (pc + 1)) := by
  intro p l e s m args below meth c D cy A L Qc XC ls st as kk H locs lsC hC hW hS hl hkk
  obtain ⟨hx, hb, hml, hown, hts, hK, hA, hlocks, hr, hxt, hst, hfl⟩ := hC
  refine ⟨fun c' h => ?_, fun o h => ?_⟩
  · unfold z_rem at h
    split at h
    · split at h
      · cases h
      · rename_i hne
        cases h
        refine ⟨Nat.le_refl _, hkk, fun K => ?_⟩
        refine lv_irem hx hb hdg hne ?_
        exact K L _ locs lsC zsame.rfl' hW hS hl
    · cases h
  · unfold z_rem at h
    split at h
    · split at h <;> cases h
    · cases h

theorem zs_ddiv {E : zEnv} {own : String} {cc : ByteArray} {nL : Nat} {Ts : List Cond} {ret : Option FieldType} {R : Room} {pc : Nat} (hdg : decode cc pc = .ok (.ddiv, 1)) : zS E own cc nL Ts ret R pc (z_ddiv (pc + 1)) := by
  intro p l e s m args below meth c D cy A L Qc XC ls st as kk H locs lsC hC hW hS hl hkk
  obtain ⟨hx, hb, hml, hown, hts, hK, hA, hlocks, hr, hxt, hst, hfl⟩ := hC
  refine ⟨fun c' h => ?_, fun o h => ?_⟩
  · unfold z_ddiv at h
    split at h
    · split at h
      · rename_i hne
        cases h
        refine ⟨Nat.le_refl _, hkk, fun K => ?_⟩
        refine lv_ddiv hx hb hdg hne ?_
        exact K L _ locs lsC zsame.rfl' hW hS hl
      · cases h
    · cases h
  · unfold z_ddiv at h
    split at h
    · split at h <;> cases h
    · cases h

theorem zc_cases {L : Nat → Nat → Nat} {v : zAV} {a : Value} (h : v = .inl a) : zc L v = a := by subst h; rfl

theorem zs_iload_n {E : zEnv} {own : String} {cc : ByteArray} {nL : Nat} {Ts : List Cond} {ret : Option FieldType} {R : Room} {pc : Nat} {k : Fin 4} {i : Nat} (hdg : decode cc pc = .ok (.iload_n k, 1)) (hi : (k : Nat) = i) : zS E own cc nL Ts ret R pc (z_ldi i (pc + 1)) := by
  intro p l e s m args below meth c D cy A L Qc XC ls st as kk H locs lsC hC hW hS hl hkk
  obtain ⟨hx, hb, hml, hown, hts, hK, hA, hlocks, hr, hxt, hst, hfl⟩ := hC
  refine ⟨fun c' h => ?_, fun o h => ?_⟩
  · unfold z_ldi at h
    split at h
    · rename_i x hv
      cases h
      refine ⟨Nat.le_refl _, hkk, fun K => ?_⟩
      refine lv_iload_n hx hb hdg hi (hl.2.2.2 i _ hv) ?_
      exact K L _ locs lsC zsame.rfl' hW hS hl
    · cases h
  · unfold z_ldi at h
    split at h <;> cases h

theorem zs_iload {E : zEnv} {own : String} {cc : ByteArray} {nL : Nat} {Ts : List Cond} {ret : Option FieldType} {R : Room} {pc : Nat} {i : Nat} (hdg : decode cc pc = .ok (.iload i, 2)) : zS E own cc nL Ts ret R pc (z_ldi i (pc + 2)) := by
  intro p l e s m args below meth c D cy A L Qc XC ls st as kk H locs lsC hC hW hS hl hkk
  obtain ⟨hx, hb, hml, hown, hts, hK, hA, hlocks, hr, hxt, hst, hfl⟩ := hC
  refine ⟨fun c' h => ?_, fun o h => ?_⟩
  · unfold z_ldi at h
    split at h
    · rename_i x hv
      cases h
      refine ⟨Nat.le_refl _, hkk, fun K => ?_⟩
      refine lv_iload hx hb hdg (hl.2.2.2 i _ hv) ?_
      exact K L _ locs lsC zsame.rfl' hW hS hl
    · cases h
  · unfold z_ldi at h
    split at h <;> cases h

theorem zs_lload_n {E : zEnv} {own : String} {cc : ByteArray} {nL : Nat} {Ts : List Cond} {ret : Option FieldType} {R : Room} {pc : Nat} {k : Fin 4} {i : Nat} (hdg : decode cc pc = .ok (.lload_n k, 1)) (hi : (k : Nat) = i) : zS E own cc nL Ts ret R pc (z_ldl i (pc + 1)) := by
  intro p l e s m args below meth c D cy A L Qc XC ls st as kk H locs lsC hC hW hS hl hkk
  obtain ⟨hx, hb, hml, hown, hts, hK, hA, hlocks, hr, hxt, hst, hfl⟩ := hC
  refine ⟨fun c' h => ?_, fun o h => ?_⟩
  · unfold z_ldl at h
    split at h
    · rename_i x hv
      cases h
      refine ⟨Nat.le_refl _, hkk, fun K => ?_⟩
      refine lv_lload_n hx hb hdg hi (hl.2.2.2 i _ hv) ?_
      exact K L _ locs lsC zsame.rfl' hW hS hl
    · cases h
  · unfold z_ldl at h
    split at h <;> cases h

theorem zs_aload_n {E : zEnv} {own : String} {cc : ByteArray} {nL : Nat} {Ts : List Cond} {ret : Option FieldType} {R : Room} {pc : Nat} {k : Fin 4} {i : Nat} (hdg : decode cc pc = .ok (.aload_n k, 1)) (hi : (k : Nat) = i) : zS E own cc nL Ts ret R pc (z_lda i (pc + 1)) := by
  intro p l e s m args below meth c D cy A L Qc XC ls st as kk H locs lsC hC hW hS hl hkk
  obtain ⟨hx, hb, hml, hown, hts, hK, hA, hlocks, hr, hxt, hst, hfl⟩ := hC
  refine ⟨fun c' h => ?_, fun o h => ?_⟩
  · unfold z_lda at h
    split at h
    · rename_i x hv
      cases h
      refine ⟨Nat.le_refl _, hkk, fun K => ?_⟩
      refine lv_aload_n hx hb hdg hi (hl.2.2.2 i _ hv) ?_
      exact K L _ locs lsC zsame.rfl' hW hS hl
    · cases h
  · unfold z_lda at h
    split at h <;> cases h

theorem zs_aload {E : zEnv} {own : String} {cc : ByteArray} {nL : Nat} {Ts : List Cond} {ret : Option FieldType} {R : Room} {pc : Nat} {i : Nat} (hdg : decode cc pc = .ok (.aload i, 2)) : zS E own cc nL Ts ret R pc (z_lda i (pc + 2)) := by
  intro p l e s m args below meth c D cy A L Qc XC ls st as kk H locs lsC hC hW hS hl hkk
  obtain ⟨hx, hb, hml, hown, hts, hK, hA, hlocks, hr, hxt, hst, hfl⟩ := hC
  refine ⟨fun c' h => ?_, fun o h => ?_⟩
  · unfold z_lda at h
    split at h
    · rename_i x hv
      cases h
      refine ⟨Nat.le_refl _, hkk, fun K => ?_⟩
      refine lv_aload hx hb hdg (hl.2.2.2 i _ hv) ?_
      exact K L _ locs lsC zsame.rfl' hW hS hl
    · cases h
  · unfold z_lda at h
    split at h <;> cases h

theorem zs_istore_n {E : zEnv} {own : String} {cc : ByteArray} {nL : Nat} {Ts : List Cond} {ret : Option FieldType} {R : Room} {pc : Nat} {k : Fin 4} {i : Nat} (hdg : decode cc pc = .ok (.istore_n k, 1)) (hi : (k : Nat) = i) : zS E own cc nL Ts ret R pc (z_sti i (pc + 1)) := by
  intro p l e s m args below meth c D cy A L Qc XC ls st as kk H locs lsC hC hW hS hl hkk
  obtain ⟨hx, hb, hml, hown, hts, hK, hA, hlocks, hr, hxt, hst, hfl⟩ := hC
  refine ⟨fun c' h => ?_, fun o h => ?_⟩
  · unfold z_sti at h
    split at h
    · rename_i hi9
      split at h
      · cases h
        refine ⟨Nat.le_refl _, hkk, fun K => ?_⟩
        refine lv_istore_n hx hb hdg hi hl.lv (by rw [← hl.2.2.1]; exact hi9) rfl (fun lsC9 hl9 => ?_)
        exact K L _ locs lsC9 zsame.rfl' hW hS (hl.set1 hi9 hl9)
      · cases h
    · cases h
  · unfold z_sti at h
    split at h
    · split at h <;> cases h
    · cases h

theorem zs_istore {E : zEnv} {own : String} {cc : ByteArray} {nL : Nat} {Ts : List Cond} {ret : Option FieldType} {R : Room} {pc : Nat} {i : Nat} (hdg : decode cc pc = .ok (.istore i, 2)) : zS E own cc nL Ts ret R pc (z_sti i (pc + 2)) := by
  intro p l e s m args below meth c D cy A L Qc XC ls st as kk H locs lsC hC hW hS hl hkk
  obtain ⟨hx, hb, hml, hown, hts, hK, hA, hlocks, hr, hxt, hst, hfl⟩ := hC
  refine ⟨fun c' h => ?_, fun o h => ?_⟩
  · unfold z_sti at h
    split at h
    · rename_i hi9
      split at h
      · cases h
        refine ⟨Nat.le_refl _, hkk, fun K => ?_⟩
        refine lv_istore hx hb hdg hl.lv (by rw [← hl.2.2.1]; exact hi9) rfl (fun lsC9 hl9 => ?_)
        exact K L _ locs lsC9 zsame.rfl' hW hS (hl.set1 hi9 hl9)
      · cases h
    · cases h
  · unfold z_sti at h
    split at h
    · split at h <;> cases h
    · cases h

theorem zs_astore_n {E : zEnv} {own : String} {cc : ByteArray} {nL : Nat} {Ts : List Cond} {ret : Option FieldType} {R : Room} {pc : Nat} {k : Fin 4} {i : Nat} (hdg : decode cc pc = .ok (.astore_n k, 1)) (hi : (k : Nat) = i) : zS E own cc nL Ts ret R pc (z_sta i (pc + 1)) := by
  intro p l e s m args below meth c D cy A L Qc XC ls st as kk H locs lsC hC hW hS hl hkk
  obtain ⟨hx, hb, hml, hown, hts, hK, hA, hlocks, hr, hxt, hst, hfl⟩ := hC
  refine ⟨fun c' h => ?_, fun o h => ?_⟩
  · unfold z_sta at h
    split at h
    · rename_i hi9
      split at h
      · cases h
        refine ⟨Nat.le_refl _, hkk, fun K => ?_⟩
        refine lv_astore_n hx hb hdg hi hl.lv (by rw [← hl.2.2.1]; exact hi9) rfl (fun lsC9 hl9 => ?_)
        exact K L _ locs lsC9 zsame.rfl' hW hS (hl.set1 hi9 hl9)
      · cases h
    · cases h
  · unfold z_sta at h
    split at h
    · split at h <;> cases h
    · cases h

theorem zs_astore {E : zEnv} {own : String} {cc : ByteArray} {nL : Nat} {Ts : List Cond} {ret : Option FieldType} {R : Room} {pc : Nat} {i : Nat} (hdg : decode cc pc = .ok (.astore i, 2)) : zS E own cc nL Ts ret R pc (z_sta i (pc + 2)) := by
  intro p l e s m args below meth c D cy A L Qc XC ls st as kk H locs lsC hC hW hS hl hkk
  obtain ⟨hx, hb, hml, hown, hts, hK, hA, hlocks, hr, hxt, hst, hfl⟩ := hC
  refine ⟨fun c' h => ?_, fun o h => ?_⟩
  · unfold z_sta at h
    split at h
    · rename_i hi9
      split at h
      · cases h
        refine ⟨Nat.le_refl _, hkk, fun K => ?_⟩
        refine lv_astore hx hb hdg hl.lv (by rw [← hl.2.2.1]; exact hi9) rfl (fun lsC9 hl9 => ?_)
        exact K L _ locs lsC9 zsame.rfl' hW hS (hl.set1 hi9 hl9)
      · cases h
    · cases h
  · unfold z_sta at h
    split at h
    · split at h <;> cases h
    · cases h

theorem zs_lstore_n {E : zEnv} {own : String} {cc : ByteArray} {nL : Nat} {Ts : List Cond} {ret : Option FieldType} {R : Room} {pc : Nat} {k : Fin 4} {i : Nat} (hdg : decode cc pc = .ok (.lstore_n k, 1)) (hi : (k : Nat) = i) : zS E own cc nL Ts ret R pc (z_st2 i (pc + 1)) := by
  intro p l e s m args below meth c D cy A L Qc XC ls st as kk H locs lsC hC hW hS hl hkk
  obtain ⟨hx, hb, hml, hown, hts, hK, hA, hlocks, hr, hxt, hst, hfl⟩ := hC
  refine ⟨fun c' h => ?_, fun o h => ?_⟩
  · unfold z_st2 at h
    split at h
    · rename_i hi9
      split at h
      · cases h
        refine ⟨Nat.le_refl _, hkk, fun K => ?_⟩
        refine lv_lstore_n hx hb hdg hi hl.lv (by rw [← hl.2.2.1]; exact hi9) rfl (fun lsC9 hl9 => ?_)
        exact K L _ locs lsC9 zsame.rfl' hW hS (hl.set2 hi9 hl9)
      · cases h
    · cases h
  · unfold z_st2 at h
    split at h
    · split at h <;> cases h
    · cases h

theorem zs_iinc {E : zEnv} {own : String} {cc : ByteArray} {nL : Nat} {Ts : List Cond} {ret : Option FieldType} {R : Room} {pc : Nat} {i : Nat} {n : Int} {d : Int32} (hdg : decode cc pc = .ok (.iinc i n, 3)) (hd : Int32.ofInt n = d) : zS E own cc nL Ts ret R pc (z_iinc i d (pc + 3)) := by
  intro p l e s m args below meth c D cy A L Qc XC ls st as kk H locs lsC hC hW hS hl hkk
  obtain ⟨hx, hb, hml, hown, hts, hK, hA, hlocks, hr, hxt, hst, hfl⟩ := hC
  subst hd
  refine ⟨fun c' h => ?_, fun o h => ?_⟩
  · unfold z_iinc at h
    split at h
    · rename_i x hv
      cases h
      refine ⟨Nat.le_refl _, hkk, fun K => ?_⟩
      have hi9 : i < ls.length := (List.getElem?_eq_some_iff.mp hv).1
      obtain ⟨k, hk⟩ := List.getElem?_of_mem (zlv_mem (L := L).mpr ⟨_, hv, rfl⟩)
      refine lv_iinc hx hb hdg hl.lv hk rfl (by rw [← hl.2.2.1]; exact hi9) rfl (fun lsC9 hl9 => ?_)
      exact K L _ locs lsC9 zsame.rfl' hW hS (hl.set1 hi9 hl9)
    · cases h
  · unfold z_iinc at h
    split at h <;> cases h

theorem zc1_cat {L : Nat → Nat → Nat} {v : zAV} (h : zc1 v = true) : (zc L v).category = 1 := by
  cases v with
  | inl w => cases w <;> simp at h <;> rfl
  | inr o => rfl

theorem zs_dup {E : zEnv} {own : String} {cc : ByteArray} {nL : Nat} {Ts : List Cond} {ret : Option FieldType} {R : Room} {pc : Nat} (hdg : decode cc pc = .ok (.dup, 1)) : zS E own cc nL Ts ret R pc (z_dup (pc + 1)) := by
  intro p l e s m args below meth c D cy A L Qc XC ls st as kk H locs lsC hC hW hS hl hkk
  obtain ⟨hx, hb, hml, hown, hts, hK, hA, hlocks, hr, hxt, hst, hfl⟩ := hC
  refine ⟨fun c' h => ?_, fun o h => ?_⟩
  · unfold z_dup at h
    split at h
    · split at h
      · rename_i hz
        cases h
        refine ⟨Nat.le_refl _, hkk, fun K => ?_⟩
        refine lv_dup hx hb hdg (zc1_cat hz) ?_
        exact K L _ locs lsC zsame.rfl' hW hS hl
      · cases h
    · cases h
  · unfold z_dup at h
    split at h
    · split at h <;> cases h
    · cases h

theorem zs_pop {E : zEnv} {own : String} {cc : ByteArray} {nL : Nat} {Ts : List Cond} {ret : Option FieldType} {R : Room} {pc : Nat} (hdg : decode cc pc = .ok (.pop, 1)) : zS E own cc nL Ts ret R pc (z_pop (pc + 1)) := by
  intro p l e s m args below meth c D cy A L Qc XC ls st as kk H locs lsC hC hW hS hl hkk
  obtain ⟨hx, hb, hml, hown, hts, hK, hA, hlocks, hr, hxt, hst, hfl⟩ := hC
  refine ⟨fun c' h => ?_, fun o h => ?_⟩
  · unfold z_pop at h
    split at h
    · split at h
      · rename_i hz
        cases h
        refine ⟨Nat.le_refl _, hkk, fun K => ?_⟩
        refine lv_pop hx hb hdg (zc1_cat hz) ?_
        exact K L _ locs lsC zsame.rfl' hW hS hl
      · cases h
    · cases h
  · unfold z_pop at h
    split at h
    · split at h <;> cases h
    · cases h

theorem zs_dup2 {E : zEnv} {own : String} {cc : ByteArray} {nL : Nat} {Ts : List Cond} {ret : Option FieldType} {R : Room} {pc : Nat} (hdg : decode cc pc = .ok (.dup2, 1)) : zS E own cc nL Ts ret R pc (z_dup2 (pc + 1)) := by
  intro p l e s m args below meth c D cy A L Qc XC ls st as kk H locs lsC hC hW hS hl hkk
  obtain ⟨hx, hb, hml, hown, hts, hK, hA, hlocks, hr, hxt, hst, hfl⟩ := hC
  refine ⟨fun c' h => ?_, fun o h => ?_⟩
  · unfold z_dup2 at h
    split at h
    · split at h
      · rename_i hz
        cases h
        refine ⟨Nat.le_refl _, hkk, fun K => ?_⟩
        refine lv_dup2_11 hx hb hdg (zc1_cat hz.1) (zc1_cat hz.2) ?_
        exact K L _ locs lsC zsame.rfl' hW hS hl
      · cases h
    · cases h
  · unfold z_dup2 at h
    split at h
    · split at h <;> cases h
    · cases h
