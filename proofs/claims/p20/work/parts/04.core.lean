/-! ===== a small machine beside the machine: objects by kind and place, ints in one memory ===== -/
abbrev zAV : Type := Value ⊕ (Nat × Nat)
abbrev zMem : Type := Nat → Nat → Nat → Int32
abbrev zTmp : Type := List (Nat × (Nat → Int32))
abbrev zAS : Type := zMem × zTmp
abbrev zOut : Type := (Option zAV ⊕ Nat) × zAS
abbrev zLs : Type := List (Option zAV)
abbrev zCfg : Type := Nat × zLs × List zAV × zAS × (Nat × Nat)
abbrev zOp : Type := zLs → List zAV → zAS → Nat × Nat → Option (zCfg ⊕ zOut)
abbrev zI (x : Int32) : zAV := .inl (.int x)
abbrev zJ (x : Int64) : zAV := .inl (.long x)
abbrev zO (k i : Nat) : zAV := .inr (k, i)
def zrun (code : Nat → Option zOp) : Nat → zCfg → Option zOut
  | 0, _ => none
  | n + 1, (pc, ls, st, s, k) => match code pc with
    | none => none
    | some op => match op ls st s k with
      | none => none
      | some (.inl c) => zrun code n c
      | some (.inr o) => some o
theorem zrun_succ {code : Nat → Option zOp} : ∀ (n : Nat) (c : zCfg) (o : zOut), zrun code n c = some o → zrun code (n + 1) c = some o := by
  intro n
  induction n with
  | zero => intro c o h; simp [zrun] at h
  | succ n ih =>
    rintro ⟨pc, ls, st, s, k⟩ o h
    rw [zrun] at h ⊢
    split at h
    · cases h
    · rename_i op hop
      split at h
      · cases h
      · rename_i c hc
        exact ih _ _ h
      · exact h
theorem zrun_le {code : Nat → Option zOp} {n m : Nat} (h : n ≤ m) {c : zCfg} {o : zOut} (hr : zrun code n c = some o) : zrun code m c = some o := by
  induction h with
  | refl => exact hr
  | step _ ih => exact zrun_succ _ _ _ ih
noncomputable def zev (code : Nat → Option zOp) (c : zCfg) : Option zOut :=
  @dite _ (∃ n o, zrun code n c = some o) (Classical.propDecidable _) (fun h => zrun code (Classical.choose h) c) (fun _ => none)
theorem zev_iff {code : Nat → Option zOp} {c : zCfg} {o : zOut} : zev code c = some o ↔ ∃ n, zrun code n c = some o := by
  unfold zev
  constructor
  · intro h
    split at h
    · exact ⟨_, h⟩
    · cases h
  · rintro ⟨n, hn⟩
    have hex : ∃ n o, zrun code n c = some o := ⟨n, o, hn⟩
    rw [dif_pos hex]
    obtain ⟨o', ho'⟩ := Classical.choose_spec hex
    rw [ho']
    have h1 := zrun_le (Nat.le_max_left n (Classical.choose hex)) hn
    have h2 := zrun_le (Nat.le_max_right n (Classical.choose hex)) ho'
    rw [h1] at h2
    exact h2.symm
noncomputable def zcont (code : Nat → Option zOp) (r : Option (zCfg ⊕ zOut)) : Option zOut := match r with
  | none => none
  | some (.inl c) => zev code c
  | some (.inr o) => some o
theorem zev_step {code : Nat → Option zOp} {pc : Nat} {op : zOp} (h : code pc = some op) (ls : zLs) (st : List zAV) (s : zAS) (k : Nat × Nat) : zev code (pc, ls, st, s, k) = zcont code (op ls st s k) := by
  apply Option.ext
  intro o
  rw [zev_iff]
  constructor
  · rintro ⟨n, hn⟩
    cases n with
    | zero => simp [zrun] at hn
    | succ n =>
      rw [zrun, h] at hn
      unfold zcont
      cases hr : op ls st s k with
      | none => simp [hr] at hn
      | some r =>
        cases r with
        | inl c => simp only [hr] at hn; exact zev_iff.mpr ⟨n, hn⟩
        | inr o' => simpa [hr] using hn
  · intro hn
    unfold zcont at hn
    cases hr : op ls st s k with
    | none => simp [hr] at hn
    | some r =>
      cases r with
      | inl c =>
        simp only [hr] at hn
        obtain ⟨n, hn⟩ := zev_iff.mp hn
        exact ⟨n + 1, by rw [zrun, h]; simp only [hr]; exact hn⟩
      | inr o' => exact ⟨1, by rw [zrun, h]; simpa [hr] using hn⟩
/-! the operations -/
abbrev zk1 (v : Option zAV) : Option zAV := match v with
  | some (.inl (.long _)) => none
  | some (.inl (.double _)) => none
  | v => v
def zset1 (ls : zLs) (i : Nat) (v : zAV) : zLs := match i with
  | 0 => ls.set 0 (some v)
  | i + 1 => (ls.set i (zk1 (ls.getD i none))).set (i + 1) (some v)
def zset2 (ls : zLs) (i : Nat) (v : zAV) : zLs := (zset1 ls i v).set (i + 1) none
def z_ldi (i nxt : Nat) : zOp := fun ls st s k => match ls[i]? with
  | some (some (.inl (.int x))) => some (.inl (nxt, ls, .inl (.int x) :: st, s, k))
  | _ => none
def z_ldl (i nxt : Nat) : zOp := fun ls st s k => match ls[i]? with
  | some (some (.inl (.long x))) => some (.inl (nxt, ls, .inl (.long x) :: st, s, k))
  | _ => none
def z_lda (i nxt : Nat) : zOp := fun ls st s k => match ls[i]? with
  | some (some (.inr o)) => some (.inl (nxt, ls, .inr o :: st, s, k))
  | _ => none
def z_sti (i nxt : Nat) : zOp := fun ls st s k => if i < ls.length then match st with
  | .inl (.int x) :: st' => some (.inl (nxt, zset1 ls i (.inl (.int x)), st', s, k))
  | _ => none else none
def z_sta (i nxt : Nat) : zOp := fun ls st s k => if i < ls.length then match st with
  | .inr o :: st' => some (.inl (nxt, zset1 ls i (.inr o), st', s, k))
  | _ => none else none
def z_st2 (i nxt : Nat) : zOp := fun ls st s k => if i + 1 < ls.length then match st with
  | .inl (.long x) :: st' => some (.inl (nxt, zset2 ls i (.inl (.long x)), st', s, k))
  | _ => none else none
def z_iinc (i : Nat) (d : Int32) (nxt : Nat) : zOp := fun ls st s k => match ls[i]? with
  | some (some (.inl (.int x))) => some (.inl (nxt, zset1 ls i (.inl (.int (x + d))), st, s, k))
  | _ => none
def z_ic (x : Int32) (nxt : Nat) : zOp := fun ls st s k => some (.inl (nxt, ls, zI x :: st, s, k))
def z_lc (x : Int64) (nxt : Nat) : zOp := fun ls st s k => some (.inl (nxt, ls, zJ x :: st, s, k))
def z_bin (f : Int32 → Int32 → Int32) (nxt : Nat) : zOp := fun ls st s k => match st with
  | .inl (.int y) :: .inl (.int x) :: st' => some (.inl (nxt, ls, zI (f x y) :: st', s, k))
  | _ => none
def z_div (nxt : Nat) : zOp := fun ls st s k => match st with
  | .inl (.int y) :: .inl (.int x) :: st' => if y = 0 then none else some (.inl (nxt, ls, zI (x / y) :: st', s, k))
  | _ => none
def z_rem (nxt : Nat) : zOp := fun ls st s k => match st with
  | .inl (.int y) :: .inl (.int x) :: st' => if y = 0 then none else some (.inl (nxt, ls, zI (x - x / y * y) :: st', s, k))
  | _ => none
def z_neg (nxt : Nat) : zOp := fun ls st s k => match st with
  | .inl (.int x) :: st' => some (.inl (nxt, ls, zI (-x) :: st', s, k))
  | _ => none
def z_lbin (f : Int64 → Int64 → Int64) (nxt : Nat) : zOp := fun ls st s k => match st with
  | .inl (.long y) :: .inl (.long x) :: st' => some (.inl (nxt, ls, zJ (f x y) :: st', s, k))
  | _ => none
def z_i2l (nxt : Nat) : zOp := fun ls st s k => match st with
  | .inl (.int x) :: st' => some (.inl (nxt, ls, zJ x.toInt64 :: st', s, k))
  | _ => none
def z_i2d (nxt : Nat) : zOp := fun ls st s k => match st with
  | .inl (.int x) :: st' => some (.inl (nxt, ls, .inl (.double (FP.i2d x)) :: st', s, k))
  | _ => none
def z_dc (x : UInt64) (nxt : Nat) : zOp := fun ls st s k => some (.inl (nxt, ls, .inl (.double x) :: st, s, k))
def z_ddiv (nxt : Nat) : zOp := fun ls st s k => match st with
  | .inl (.double y) :: .inl (.double x) :: st' => if FP.ddiv x y &&& 0x7fffffffffffffff ≤ 0x7ff0000000000000 then some (.inl (nxt, ls, .inl (.double (FP.ddiv x y)) :: st', s, k)) else none
  | _ => none
def z_if (f : Int32 → Bool) (tgt nxt : Nat) : zOp := fun ls st s k => match st with
  | .inl (.int x) :: st' => some (.inl (if f x = true then tgt else nxt, ls, st', s, k))
  | _ => none
def z_cmp (f : Int32 → Int32 → Bool) (tgt nxt : Nat) : zOp := fun ls st s k => match st with
  | .inl (.int y) :: .inl (.int x) :: st' => some (.inl (if f x y = true then tgt else nxt, ls, st', s, k))
  | _ => none
def z_goto (tgt : Nat) : zOp := fun ls st s k => some (.inl (tgt, ls, st, s, k))
abbrev zc1 (v : zAV) : Bool := match v with
  | .inl (.int _) => true
  | .inr _ => true
  | _ => false
def z_dup (nxt : Nat) : zOp := fun ls st s k => match st with
  | v :: st' => if zc1 v = true then some (.inl (nxt, ls, v :: v :: st', s, k)) else none
  | _ => none
def z_dup2 (nxt : Nat) : zOp := fun ls st s k => match st with
  | v :: w :: st' => if zc1 v = true ∧ zc1 w = true then some (.inl (nxt, ls, v :: w :: v :: w :: st', s, k)) else none
  | _ => none
def z_pop (nxt : Nat) : zOp := fun ls st s k => match st with
  | v :: st' => if zc1 v = true then some (.inl (nxt, ls, st', s, k)) else none
  | _ => none
abbrev zSD : Type := List (Option (Nat × Nat))
/-- a kind: its objects' class and slots (none: an int; some: the object that lies there), or int rows of a length, or rows of references (length, place of the type, the kind of what lies there) -/
abbrev zKD : Type := (Nat × zSD) ⊕ (Nat ⊕ (Nat × Nat × Nat))
abbrev zEnv : Type := Nat → Nat × zKD
def zup (σ : zMem) (k i j : Nat) (x : Int32) : zMem := fun k' i' j' => if k' = k ∧ i' = i ∧ j' = j then x else σ k' i' j'
def z_get (E : zEnv) (ci j nxt : Nat) : zOp := fun ls st s kk => match st with
  | .inr (k, i) :: st' => if k < 20 ∧ i < (E k).1 then match (E k).2 with
    | .inl (ci', sd) => if ci' = ci then match sd[j]? with
      | some none => some (.inl (nxt, ls, zI (s.1 k i j) :: st', s, kk))
      | some (some (k', i')) => some (.inl (nxt, ls, zO k' i' :: st', s, kk))
      | none => none else none
    | _ => none else none
  | _ => none
/-- b: a boolean field takes 0 and 1 alone -/
def z_put (E : zEnv) (ci j : Nat) (b : Bool) (nxt : Nat) : zOp := fun ls st s kk => match st with
  | .inl (.int x) :: .inr (k, i) :: st' => if (b = true → x = 0 ∨ x = 1) ∧ k < 20 ∧ i < (E k).1 then match (E k).2 with
    | .inl (ci', sd) => if ci' = ci then match sd[j]? with
      | some none => some (.inl (nxt, ls, st', (zup s.1 k i j x, s.2), kk))
      | _ => none else none
    | _ => none else none
  | _ => none
def zTab (t : Nat) : List Int32 := match t with
  | 0 => [-1, -1, -1, 1, -1, -1, 1, 1, -1, 1, 2, -1, 1, 2, -1, 2, 2, -1, 2, 2, -1, 0, 0, -1, 0, 1, -1, -1, -1, -1, 0, 0, -1, 0, 1, -1, 0, 1, -1, 0, 0, -1, -1, -1, -1, -1, -1, -1, -1, -1, -1, -1, -1, -1, -1, -1, -1, -1, -1, -1, 0, 0, -1, 0, 0, 0, 0, 0, 0]
  | 1 => [0, 1, -1, -1, 0, 2, -1, -1, 0, 0, 0, -1, 1, 1, -1, -1, 1, 1, -1, -1, 0, 0, 0, 0, 3, 3, -1, -1, 1, 1, 1, -1]
  | _ => [7, 11, 19, 23, 31, 43]
/-- the law's script, as the environment has it (kind 97) -/
def zdec (q : Option (Nat × Nat)) : Int32 := match q with
  | some q => Int32.ofNat q.1
  | none => 0
def zscr (E : zEnv) : List Int32 := match (E 97).2 with
  | .inl o => o.2.map zdec
  | .inr _ => []
def z_iald (E : zEnv) (nxt : Nat) : zOp := fun ls st s kk => match st with
  | .inl (.int j) :: .inr (k, i) :: st' =>
    if j < 0 then none else
    if k = 99 then match s.2[i]? with
      | some t => if j.toNatClampNeg < t.1 ∧ t.1 < 1000 then some (.inl (nxt, ls, zI (t.2 j.toNatClampNeg) :: st', s, kk)) else none
      | none => none
    else if k = 97 then if (E 97).1 = 1 ∧ i = 0 ∧ j.toNatClampNeg < (zscr E).length then some (.inl (nxt, ls, zI ((zscr E).getD j.toNatClampNeg 0) :: st', s, kk)) else none
    else if k = 98 then if i < 4 ∧ j.toNatClampNeg < (zTab i).length then some (.inl (nxt, ls, zI ((zTab i).getD j.toNatClampNeg 0) :: st', s, kk)) else none
    else if k < 20 ∧ i < (E k).1 then match (E k).2 with
      | .inr (.inl n) => if j.toNatClampNeg < n then some (.inl (nxt, ls, zI (s.1 k i j.toNatClampNeg) :: st', s, kk)) else none
      | _ => none
    else none
  | _ => none
def z_iast (E : zEnv) (nxt : Nat) : zOp := fun ls st s kk => match st with
  | .inl (.int x) :: .inl (.int j) :: .inr (k, i) :: st' =>
    if j < 0 then none else
    if k = 99 then match s.2[i]? with
      | some t => if j.toNatClampNeg < t.1 ∧ t.1 < 1000 then some (.inl (nxt, ls, st', (s.1, s.2.set i (t.1, upd t.2 j.toNatClampNeg x)), kk)) else none
      | none => none
    else if k < 20 ∧ i < (E k).1 then match (E k).2 with
      | .inr (.inl n) => if j.toNatClampNeg < n then some (.inl (nxt, ls, st', (zup s.1 k i j.toNatClampNeg x, s.2), kk)) else none
      | _ => none
    else none
  | _ => none
def z_aald (E : zEnv) (t nxt : Nat) : zOp := fun ls st s kk => match st with
  | .inl (.int j) :: .inr (k, i) :: st' =>
    if j < 0 then none else
    if k < 20 ∧ i < (E k).1 then match (E k).2 with
      | .inr (.inr (n, t', k')) => if j.toNatClampNeg < n ∧ t' = t then some (.inl (nxt, ls, zO k' j.toNatClampNeg :: st', s, kk)) else none
      | _ => none
    else none
  | _ => none
def z_alen (E : zEnv) (nxt : Nat) : zOp := fun ls st s kk => match st with
  | .inr (k, i) :: st' =>
    if k = 99 then match s.2[i]? with
      | some t => if t.1 < 1000 then some (.inl (nxt, ls, zI (Int32.ofNat t.1) :: st', s, kk)) else none
      | none => none
    else if k = 97 then if (E 97).1 = 1 ∧ i = 0 then some (.inl (nxt, ls, zI (Int32.ofNat (zscr E).length) :: st', s, kk)) else none
    else if k = 98 then if i < 4 then some (.inl (nxt, ls, zI (Int32.ofNat (zTab i).length) :: st', s, kk)) else none
    else if k < 20 ∧ i < (E k).1 then match (E k).2 with
      | .inr (.inl n) => some (.inl (nxt, ls, zI (Int32.ofNat n) :: st', s, kk))
      | .inr (.inr (n, t, _)) => if t < 3 then some (.inl (nxt, ls, zI (Int32.ofNat n) :: st', s, kk)) else none
      | _ => none
    else none
  | _ => none
def z_sget (t nxt : Nat) : zOp := fun ls st s kk => some (.inl (nxt, ls, zO 98 t :: st, s, kk))
def z_nn (tgt : Nat) : zOp := fun ls st s kk => match st with
  | .inr _ :: st' => some (.inl (tgt, ls, st', s, kk))
  | _ => none
/-- no reference to the row that is made now -/
abbrev zfr (n : Nat) (v : zAV) : Bool := match v with
  | .inl _ => true
  | .inr (k, i) => !(k == 99) || decide (i < n)
abbrev zfr' (n : Nat) (v : Option zAV) : Bool := match v with
  | none => true
  | some v => zfr n v
def z_newa (MC MS nxt : Nat) : zOp := fun ls st s kk => match st with
  | .inl (.int x) :: st' => if x < 0 then none else if x.toNatClampNeg ≤ 100 ∧ kk.1 + 1 ≤ MC ∧ kk.2 + x.toNatClampNeg ≤ MS ∧ st'.all (fun v => zfr s.2.length v) = true ∧ ls.all (fun v => zfr' s.2.length v) = true then some (Sum.inl (nxt, ls, zO 99 s.2.length :: st', ((s.1, s.2 ++ [(x.toNatClampNeg, fun (_ : Nat) => (0 : Int32))]) : zAS), (kk.1 + 1, kk.2 + x.toNatClampNeg))) else none
  | _ => none
/-- an int row anew -/
def zrow (σ : zMem) (k i : Nat) (g : Nat → Int32) : zMem := fun k' i' j' => if k' = k ∧ i' = i then g j' else σ k' i' j'
/-- a row of Strings: its length has 1000 added; an element is the number of a constant, -1 for none -/
def z_anewa (MC MS nxt : Nat) : zOp := fun ls st s kk => match st with
  | .inl (.int x) :: st' => if x < 0 then none else if x.toNatClampNeg ≤ 100 ∧ kk.1 + 1 ≤ MC ∧ kk.2 + x.toNatClampNeg ≤ MS ∧ st'.all (fun v => zfr s.2.length v) = true ∧ ls.all (fun v => zfr' s.2.length v) = true then some (Sum.inl (nxt, ls, zO 99 s.2.length :: st', ((s.1, s.2 ++ [(1000 + x.toNatClampNeg, fun (_ : Nat) => (-1 : Int32))]) : zAS), (kk.1 + 1, kk.2 + x.toNatClampNeg))) else none
  | _ => none
def z_sldc (E : zEnv) (i nxt : Nat) : zOp := fun ls st s kk => if (E 97).1 = 1 then some (.inl (nxt, ls, zO 96 i :: st, s, kk)) else none
def z_aasts (E : zEnv) (nxt : Nat) : zOp := fun ls st s kk => match st with
  | .inr (k0, i0) :: .inl (.int j) :: .inr (k, i) :: st' => if (E 97).1 = 1 ∧ k0 = 96 ∧ i0 < 6 ∧ k = 99 ∧ ¬ j < 0 then match s.2[i]? with
      | some t => if j.toNatClampNeg + 1000 < t.1 then some (.inl (nxt, ls, st', (s.1, s.2.set i (t.1, upd t.2 j.toNatClampNeg (nI i0))), kk)) else none
      | none => none else none
  | _ => none
def z_aalds (nxt : Nat) : zOp := fun ls st s kk => match st with
  | .inl (.int j) :: .inr (k, i) :: st' => if k = 99 ∧ ¬ j < 0 then match s.2[i]? with
      | some t => if j.toNatClampNeg + 1000 < t.1 ∧ ¬ t.2 j.toNatClampNeg < 0 then some (.inl (nxt, ls, zO 96 (t.2 j.toNatClampNeg).toNatClampNeg :: st', s, kk)) else none
      | none => none else none
  | _ => none
def z_lcmp (nxt : Nat) : zOp := fun ls st s k => match st with
  | .inl (.long y) :: .inl (.long x) :: st' => some (.inl (nxt, ls, zI (lg_cmp x y) :: st', s, k))
  | _ => none
def z_dcmp (op : CmpOp) (nxt : Nat) : zOp := fun ls st s k => match st with
  | .inl (.double y) :: .inl (.double x) :: st' => some (.inl (nxt, ls, zI (Op.cmpValue (FP.dcmp x y) op) :: st', s, k))
  | _ => none
def zrec (E : zEnv) (ci : Nat) (v : zAV) : Bool := match v with
  | .inr (k, i) => decide (k < 20) && decide (i < (E k).1) && (match (E k).2 with
    | .inl o => o.1 == ci
    | _ => false)
  | _ => false
def zcat (v : zAV) : Nat := match v with
  | .inl v => v.category
  | .inr _ => 1
/-- behind a call -/
def zback (nxt : Nat) (ls : zLs) (st : List zAV) (kk : Nat × Nat) (r : Option zOut) : Option (zCfg ⊕ zOut) := match r with
  | some (.inl (some v), s') => some (.inl (nxt, ls, v :: st, s', kk))
  | some (.inl none, s') => some (.inl (nxt, ls, st, s', kk))
  | _ => none
def z_callV (E : zEnv) (ci : Nat) (f : List zAV → zAS → Option zOut) (n mc ms MC MS nxt : Nat) : zOp := fun ls st s kk => match st.drop n with
  | r :: st' => if zrec E ci r = true ∧ (st'.map zcat).sum ≤ 8 ∧ kk.1 + mc ≤ MC ∧ kk.2 + ms ≤ MS then zback nxt ls st' (kk.1 + mc, kk.2 + ms) (f (r :: (st.take n).reverse) s) else none
  | [] => none
def z_callS (f : List zAV → zAS → Option zOut) (n mc ms MC MS nxt : Nat) : zOp := fun ls st s kk =>
  if n ≤ st.length ∧ ((st.drop n).map zcat).sum ≤ 8 ∧ kk.1 + mc ≤ MC ∧ kk.2 + ms ≤ MS then zback nxt ls (st.drop n) (kk.1 + mc, kk.2 + ms) (f (st.take n).reverse s) else none
/-- a call of a String's own method, its answer told by f -/
def z_scall (f : List zAV → zAS → Option zOut) (n mc ms MC MS nxt : Nat) : zOp := fun ls st s kk => match st.drop n with
  | .inr (k, i) :: st' => if k = 96 ∧ i < 6 ∧ (st'.map zcat).sum ≤ 8 ∧ kk.1 + mc ≤ MC ∧ kk.2 + ms ≤ MS then zback nxt ls st' (kk.1 + mc, kk.2 + ms) (f (.inr (k, i) :: (st.take n).reverse) s) else none
  | _ => none
def z_reti (bb : Bool) : zOp := fun _ st s _ => match st with
  | [.inl (.int x)] => if bb = true → x = 0 ∨ x = 1 then some (.inr (.inl (some (zI x)), s)) else none
  | _ => none
def z_retl : zOp := fun _ st s _ => match st with
  | [.inl (.long x)] => some (.inr (.inl (some (zJ x)), s))
  | _ => none
def z_retd : zOp := fun _ st s _ => match st with
  | [.inl (.double x)] => some (.inr (.inl (some (.inl (.double x))), s))
  | _ => none
def z_retr : zOp := fun _ st s _ => match st with
  | [.inr (k, i)] => if k = 99 then none else some (.inr (.inl (some (zO k i)), s))
  | _ => none
def z_retv : zOp := fun _ st s _ => match st with
  | [] => some (.inr (.inl none, s))
  | _ => none
def z_thr (MC MS e : Nat) : zOp := fun _ st s kk => if st = [] ∧ kk.1 + 1 ≤ MC ∧ kk.2 + 6 ≤ MS then some (.inr (.inr e, s)) else none
def z_tsw (lo hi : Int) (tg : List Nat) (dflt : Nat) : zOp := fun ls st s kk => match st with
  | .inl (.int x) :: st' => if x.toInt < lo ∨ hi < x.toInt then some (.inl (dflt, ls, st', s, kk)) else match tg[(x.toInt - lo).toNat]? with
    | some t => some (.inl (t, ls, st', s, kk))
    | none => none
  | _ => none
def z_lsw2 (t0 t1 d : Nat) : zOp := fun ls st s kk => match st with
  | .inl (.int x) :: st' => some (.inl (if x = 0 then t0 else if x = 1 then t1 else d, ls, st', s, kk))
  | _ => none
/-- a method: its code from the entry, over the locals that its arguments fill; rows made in it are gone behind it -/
def zargs : List zAV → zLs
  | [] => []
  | .inl (.long x) :: t => some (.inl (.long x)) :: none :: zargs t
  | v :: t => some v :: zargs t
def zargsok (args : List zAV) : Bool := args.all fun v => match v with
  | .inl (.double _) => false
  | _ => true
def zrok (r : Option zAV ⊕ Nat) : Bool := match r with
  | .inl (some v) => zfr 0 v
  | _ => true
def zfin (n : Nat) (r : Option zOut) : Option zOut := match r with
  | some o => if n ≤ o.2.2.length ∧ zrok o.1 = true then some (o.1, (o.2.1, o.2.2.take n)) else none
  | none => none
noncomputable def zmeth (code : Nat → Option zOp) (nL : Nat) (args : List zAV) (s : zAS) : Option zOut :=
  if zargsok args = true ∧ (zargs args).length ≤ nL then zfin s.2.length (zev code (0, zargs args ++ List.replicate (nL - (zargs args).length) none, [], s, (0, 0))) else none
