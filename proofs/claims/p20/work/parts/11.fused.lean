/-! ===== the steps as equations ===== -/
def zlook (l : List (Nat × zOp)) (pc : Nat) : Option zOp := match l with
  | [] => none
  | q :: t => match Nat.decEq q.1 pc with
    | isTrue _ => some q.2
    | isFalse _ => zlook t pc
theorem zlook_mem : ∀ (l : List (Nat × zOp)) (pc : Nat) (op : zOp), zlook l pc = some op → (pc, op) ∈ l := by
  intro l
  induction l with
  | nil => intro pc op h; cases h
  | cons q t ih =>
    intro pc op h
    unfold zlook at h
    split at h
    · rename_i e _
      cases h
      subst e
      exact List.mem_cons_self
    · exact List.mem_cons_of_mem _ (ih pc op h)
theorem zlook_all {l : List (Nat × zOp)} {P : Nat → zOp → Prop} (h : ∀ q ∈ l, P q.1 q.2) : ∀ pc op, zlook l pc = some op → P pc op := fun pc op hq => h (pc, op) (zlook_mem l pc op hq)
noncomputable def zpush (code : Nat → Option zOp) (nxt : Nat) (ls : zLs) (st : List zAV) (s : zAS) (kk : Nat × Nat) (r : Option zAV) : Option zOut := match r with
  | some w => zev code (nxt, ls, w :: st, s, kk)
  | none => none
noncomputable def zgo (code : Nat → Option zOp) (nxt : Nat) (ls : zLs) (st : List zAV) (kk : Nat × Nat) (r : Option zAS) : Option zOut := match r with
  | some s' => zev code (nxt, ls, st, s', kk)
  | none => none
noncomputable def zret (code : Nat → Option zOp) (nxt : Nat) (ls : zLs) (st : List zAV) (kk : Nat × Nat) (r : Option zOut) : Option zOut := match r with
  | some (.inl (some v), s') => zev code (nxt, ls, v :: st, s', kk)
  | some (.inl none, s') => zev code (nxt, ls, st, s', kk)
  | _ => none
theorem zev_go {code : Nat → Option zOp} {pc : Nat} {ls : zLs} {st : List zAV} {s : zAS} {k : Nat × Nat} {op : zOp} {c : zCfg} (h : code pc = some op) (hc : op ls st s k = some (.inl c)) : zev code (pc, ls, st, s, k) = zev code c := by
  rw [zev_step h, hc]; rfl
theorem zev_end {code : Nat → Option zOp} {pc : Nat} {ls : zLs} {st : List zAV} {s : zAS} {k : Nat × Nat} {op : zOp} {o : zOut} (h : code pc = some op) (hc : op ls st s k = some (.inr o)) : zev code (pc, ls, st, s, k) = some o := by
  rw [zev_step h, hc]; rfl
section ZF
variable {code : Nat → Option zOp} {pc nxt tgt : Nat} {ls : zLs} {st : List zAV} {s : zAS} {kk : Nat × Nat} {E : zEnv}
theorem zpush_some {w : zAV} : zpush code nxt ls st s kk (some w) = zev code (nxt, ls, w :: st, s, kk) := rfl
theorem zpush_none : zpush code nxt ls st s kk none = none := rfl
theorem zgo_some {s' : zAS} : zgo code nxt ls st kk (some s') = zev code (nxt, ls, st, s', kk) := rfl
theorem zgo_none : zgo code nxt ls st kk none = none := rfl
theorem zret_some {v : zAV} {s' : zAS} : zret code nxt ls st kk (some (.inl (some v), s')) = zev code (nxt, ls, v :: st, s', kk) := rfl
theorem zret_void {s' : zAS} : zret code nxt ls st kk (some (.inl none, s')) = zev code (nxt, ls, st, s', kk) := rfl
def zgv (E : zEnv) (ci j k i : Nat) (σ : zMem) : Option zAV := if k < 20 ∧ i < (E k).1 then match (E k).2 with
    | .inl o => if o.1 = ci then match o.2[j]? with
      | some none => some (zI (σ k i j))
      | some (some q) => some (.inr q)
      | none => none else none
    | _ => none else none
theorem zf_get {ci j k i : Nat} (h : code pc = some (z_get E ci j nxt)) : zev code (pc, ls, .inr (k, i) :: st, s, kk) = zpush code nxt ls st s kk (zgv E ci j k i s.1) := by
  rw [zev_step h]
  unfold z_get zgv
  simp only []
  by_cases h1 : k < 20 ∧ i < (E k).1
  · rw [if_pos h1, if_pos h1]
    cases hE : (E k).2 with
    | inl o =>
      obtain ⟨ci', sd⟩ := o
      simp only []
      by_cases h2 : ci' = ci
      · rw [if_pos h2, if_pos h2]
        cases hd : sd[j]? with
        | none => rfl
        | some d => cases d <;> rfl
      · rw [if_neg h2, if_neg h2]; rfl
    | inr o => rfl
  · rw [if_neg h1, if_neg h1]; rfl
def zpok (E : zEnv) (ci j : Nat) (b : Bool) (k i : Nat) (x : Int32) : Prop := (b = true → x = 0 ∨ x = 1) ∧ k < 20 ∧ i < (E k).1 ∧ ∃ sd, (E k).2 = .inl (ci, sd) ∧ sd[j]? = some none
theorem zf_put {ci j k i : Nat} {b : Bool} {x : Int32} (h : code pc = some (z_put E ci j b nxt)) (hok : zpok E ci j b k i x) : zev code (pc, ls, .inl (.int x) :: .inr (k, i) :: st, s, kk) = zev code (nxt, ls, st, (zup s.1 k i j x, s.2), kk) := by
  rw [zev_step h]
  obtain ⟨h1, h2, h3, sd, h4, h5⟩ := hok
  unfold z_put
  simp only [if_pos (And.intro h1 (And.intro h2 h3)), h4, h5]
  simp [zcont]
theorem zf_if {f : Int32 → Bool} {x : Int32} (h : code pc = some (z_if f tgt nxt)) : zev code (pc, ls, .inl (.int x) :: st, s, kk) = if f x = true then zev code (tgt, ls, st, s, kk) else zev code (nxt, ls, st, s, kk) := by
  rw [zev_step h]
  unfold z_if
  simp only [zcont]
  split <;> rfl
theorem zf_cmp {f : Int32 → Int32 → Bool} {x y : Int32} (h : code pc = some (z_cmp f tgt nxt)) : zev code (pc, ls, .inl (.int y) :: .inl (.int x) :: st, s, kk) = if f x y = true then zev code (tgt, ls, st, s, kk) else zev code (nxt, ls, st, s, kk) := by
  rw [zev_step h]
  unfold z_cmp
  simp only [zcont]
  split <;> rfl
theorem zf_dup {v : zAV} (h : code pc = some (z_dup nxt)) (hv : zc1 v = true) : zev code (pc, ls, v :: st, s, kk) = zev code (nxt, ls, v :: v :: st, s, kk) := by
  rw [zev_step h]
  simp [z_dup, hv, zcont]
theorem zf_pop {v : zAV} (h : code pc = some (z_pop nxt)) (hv : zc1 v = true) : zev code (pc, ls, v :: st, s, kk) = zev code (nxt, ls, st, s, kk) := by
  rw [zev_step h]
  simp [z_pop, hv, zcont]
theorem zf_dup2 {v w : zAV} (h : code pc = some (z_dup2 nxt)) (hv : zc1 v = true) (hw : zc1 w = true) : zev code (pc, ls, v :: w :: st, s, kk) = zev code (nxt, ls, v :: w :: v :: w :: st, s, kk) := by
  rw [zev_step h]
  simp [z_dup2, hv, hw, zcont]
def zald (E : zEnv) (k i : Nat) (j : Int32) (s : zAS) : Option zAV :=
    if j < 0 then none else
    if k = 99 then match s.2[i]? with
      | some t => if j.toNatClampNeg < t.1 ∧ t.1 < 1000 then some (zI (t.2 j.toNatClampNeg)) else none
      | none => none
    else if k = 97 then if (E 97).1 = 1 ∧ i = 0 ∧ j.toNatClampNeg < (zscr E).length then some (zI ((zscr E).getD j.toNatClampNeg 0)) else none
    else if k = 98 then if i < 4 ∧ j.toNatClampNeg < (zTab i).length then some (zI ((zTab i).getD j.toNatClampNeg 0)) else none
    else if k < 20 ∧ i < (E k).1 then match (E k).2 with
      | .inr (.inl n) => if j.toNatClampNeg < n then some (zI (s.1 k i j.toNatClampNeg)) else none
      | _ => none
    else none
theorem zf_iald {k i : Nat} {j : Int32} (h : code pc = some (z_iald E nxt)) : zev code (pc, ls, .inl (.int j) :: .inr (k, i) :: st, s, kk) = zpush code nxt ls st s kk (zald E k i j s) := by
  rw [zev_step h]
  unfold z_iald zald
  simp only []
  by_cases h0 : j < 0
  · rw [if_pos h0, if_pos h0]; rfl
  rw [if_neg h0, if_neg h0]
  by_cases h1 : k = 99
  · rw [if_pos h1, if_pos h1]
    cases ht : s.2[i]? with
    | none => rfl
    | some t =>
      simp only []
      by_cases h2 : j.toNatClampNeg < t.1 ∧ t.1 < 1000
      · rw [if_pos h2, if_pos h2]; rfl
      · rw [if_neg h2, if_neg h2]; rfl
  rw [if_neg h1, if_neg h1]
  by_cases h97 : k = 97
  · rw [if_pos h97, if_pos h97]
    by_cases h4 : (E 97).1 = 1 ∧ i = 0 ∧ j.toNatClampNeg < (zscr E).length
    · rw [if_pos h4, if_pos h4]; rfl
    · rw [if_neg h4, if_neg h4]; rfl
  rw [if_neg h97, if_neg h97]
  by_cases h3 : k = 98
  · rw [if_pos h3, if_pos h3]
    by_cases h4 : i < 4 ∧ j.toNatClampNeg < (zTab i).length
    · rw [if_pos h4, if_pos h4]; rfl
    · rw [if_neg h4, if_neg h4]; rfl
  rw [if_neg h3, if_neg h3]
  by_cases h5 : k < 20 ∧ i < (E k).1
  · rw [if_pos h5, if_pos h5]
    cases hE : (E k).2 with
    | inl o => rfl
    | inr o =>
      cases o with
      | inr q => rfl
      | inl n =>
        simp only []
        by_cases h2 : j.toNatClampNeg < n
        · rw [if_pos h2, if_pos h2]; rfl
        · rw [if_neg h2, if_neg h2]; rfl
  · rw [if_neg h5, if_neg h5]; rfl
def zast (E : zEnv) (k i : Nat) (j x : Int32) (s : zAS) : Option zAS :=
    if j < 0 then none else
    if k = 99 then match s.2[i]? with
      | some t => if j.toNatClampNeg < t.1 ∧ t.1 < 1000 then some (s.1, s.2.set i (t.1, upd t.2 j.toNatClampNeg x)) else none
      | none => none
    else if k < 20 ∧ i < (E k).1 then match (E k).2 with
      | .inr (.inl n) => if j.toNatClampNeg < n then some (zup s.1 k i j.toNatClampNeg x, s.2) else none
      | _ => none
    else none
theorem zf_iast {k i : Nat} {j x : Int32} (h : code pc = some (z_iast E nxt)) : zev code (pc, ls, .inl (.int x) :: .inl (.int j) :: .inr (k, i) :: st, s, kk) = zgo code nxt ls st kk (zast E k i j x s) := by
  rw [zev_step h]
  unfold z_iast zast
  simp only []
  by_cases h0 : j < 0
  · rw [if_pos h0, if_pos h0]; rfl
  rw [if_neg h0, if_neg h0]
  by_cases h1 : k = 99
  · rw [if_pos h1, if_pos h1]
    cases ht : s.2[i]? with
    | none => rfl
    | some t =>
      simp only []
      by_cases h2 : j.toNatClampNeg < t.1 ∧ t.1 < 1000
      · rw [if_pos h2, if_pos h2]; rfl
      · rw [if_neg h2, if_neg h2]; rfl
  rw [if_neg h1, if_neg h1]
  by_cases h5 : k < 20 ∧ i < (E k).1
  · rw [if_pos h5, if_pos h5]
    cases hE : (E k).2 with
    | inl o => rfl
    | inr o =>
      cases o with
      | inr q => rfl
      | inl n =>
        simp only []
        by_cases h2 : j.toNatClampNeg < n
        · rw [if_pos h2, if_pos h2]; rfl
        · rw [if_neg h2, if_neg h2]; rfl
  · rw [if_neg h5, if_neg h5]; rfl
def zaald (E : zEnv) (t k i : Nat) (j : Int32) : Option zAV :=
    if j < 0 then none else
    if k < 20 ∧ i < (E k).1 then match (E k).2 with
      | .inr (.inr q) => if j.toNatClampNeg < q.1 ∧ q.2.1 = t then some (zO q.2.2 j.toNatClampNeg) else none
      | _ => none
    else none
theorem zf_aald {t k i : Nat} {j : Int32} (h : code pc = some (z_aald E t nxt)) : zev code (pc, ls, .inl (.int j) :: .inr (k, i) :: st, s, kk) = zpush code nxt ls st s kk (zaald E t k i j) := by
  rw [zev_step h]
  unfold z_aald zaald
  simp only []
  by_cases h0 : j < 0
  · rw [if_pos h0, if_pos h0]; rfl
  rw [if_neg h0, if_neg h0]
  by_cases h5 : k < 20 ∧ i < (E k).1
  · rw [if_pos h5, if_pos h5]
    cases hE : (E k).2 with
    | inl o => rfl
    | inr o =>
      cases o with
      | inl q => rfl
      | inr q =>
        obtain ⟨n, t', k'⟩ := q
        simp only []
        by_cases h2 : j.toNatClampNeg < n ∧ t' = t
        · rw [if_pos h2, if_pos h2]; rfl
        · rw [if_neg h2, if_neg h2]; rfl
  · rw [if_neg h5, if_neg h5]; rfl
def zalen (E : zEnv) (k i : Nat) (τ : zTmp) : Option zAV :=
    if k = 99 then match τ[i]? with
      | some t => if t.1 < 1000 then some (zI (Int32.ofNat t.1)) else none
      | none => none
    else if k = 97 then if (E 97).1 = 1 ∧ i = 0 then some (zI (Int32.ofNat (zscr E).length)) else none
    else if k = 98 then if i < 4 then some (zI (Int32.ofNat (zTab i).length)) else none
    else if k < 20 ∧ i < (E k).1 then match (E k).2 with
      | .inr (.inl n) => some (zI (Int32.ofNat n))
      | .inr (.inr q) => if q.2.1 < 3 then some (zI (Int32.ofNat q.1)) else none
      | _ => none
    else none
theorem zf_alen {k i : Nat} (h : code pc = some (z_alen E nxt)) : zev code (pc, ls, .inr (k, i) :: st, s, kk) = zpush code nxt ls st s kk (zalen E k i s.2) := by
  rw [zev_step h]
  unfold z_alen zalen
  simp only []
  by_cases h1 : k = 99
  · rw [if_pos h1, if_pos h1]
    cases ht : s.2[i]? with
    | none => rfl
    | some t =>
      simp only []
      by_cases h2 : t.1 < 1000
      · rw [if_pos h2, if_pos h2]; rfl
      · rw [if_neg h2, if_neg h2]; rfl
  rw [if_neg h1, if_neg h1]
  by_cases h97 : k = 97
  · rw [if_pos h97, if_pos h97]
    by_cases h4 : (E 97).1 = 1 ∧ i = 0
    · rw [if_pos h4, if_pos h4]; rfl
    · rw [if_neg h4, if_neg h4]; rfl
  rw [if_neg h97, if_neg h97]
  by_cases h3 : k = 98
  · rw [if_pos h3, if_pos h3]
    by_cases h4 : i < 4
    · rw [if_pos h4, if_pos h4]; rfl
    · rw [if_neg h4, if_neg h4]; rfl
  rw [if_neg h3, if_neg h3]
  by_cases h5 : k < 20 ∧ i < (E k).1
  · rw [if_pos h5, if_pos h5]
    cases hE : (E k).2 with
    | inl o => rfl
    | inr o =>
      cases o with
      | inl q => rfl
      | inr q =>
        obtain ⟨n, t', k'⟩ := q
        simp only []
        by_cases h2 : t' < 3
        · rw [if_pos h2, if_pos h2]; rfl
        · rw [if_neg h2, if_neg h2]; rfl
  · rw [if_neg h5, if_neg h5]; rfl
theorem zf_div {x y : Int32} (h : code pc = some (z_div nxt)) : zev code (pc, ls, .inl (.int y) :: .inl (.int x) :: st, s, kk) = if y = 0 then none else zev code (nxt, ls, .inl (.int (x / y)) :: st, s, kk) := by
  rw [zev_step h]
  unfold z_div
  simp only []
  split <;> rfl
theorem zf_rem {x y : Int32} (h : code pc = some (z_rem nxt)) : zev code (pc, ls, .inl (.int y) :: .inl (.int x) :: st, s, kk) = if y = 0 then none else zev code (nxt, ls, .inl (.int (x - x / y * y)) :: st, s, kk) := by
  rw [zev_step h]
  unfold z_rem
  simp only []
  split <;> rfl
theorem zf_reti {x : Int32} (h : code pc = some (z_reti false)) : zev code (pc, ls, [.inl (.int x)], s, kk) = some (.inl (some (.inl (.int x))), s) := by
  rw [zev_step h]; rfl
theorem zf_retz {x : Int32} (h : code pc = some (z_reti true)) (hx : x = 0 ∨ x = 1) : zev code (pc, ls, [.inl (.int x)], s, kk) = some (.inl (some (.inl (.int x))), s) := by
  rw [zev_step h]; simp [z_reti, hx, zcont]
theorem zf_retr {k i : Nat} (h : code pc = some z_retr) (hk : k ≠ 99) : zev code (pc, ls, [.inr (k, i)], s, kk) = some (.inl (some (.inr (k, i))), s) := by
  rw [zev_step h]; simp [z_retr, hk, zcont]
/-- what a call asks of the place where it stands -/
def zcok (E : zEnv) (ci mc ms MC MS : Nat) (r : zAV) (st : List zAV) (kk : Nat × Nat) : Prop := zrec E ci r = true ∧ (st.map zcat).sum ≤ 8 ∧ kk.1 + mc ≤ MC ∧ kk.2 + ms ≤ MS
theorem zback_ret {r : Option zOut} : zcont code (zback nxt ls st kk r) = zret code nxt ls st kk r := by
  unfold zback zret
  cases r with
  | none => rfl
  | some o =>
    obtain ⟨r, s'⟩ := o
    cases r with
    | inr e => rfl
    | inl v => cases v <;> rfl
theorem zf_callV {ci mc ms MC MS : Nat} {f : List zAV → zAS → Option zOut} {as : List zAV} {r : zAV} (n : Nat) (hn : as.length = n) (h : code pc = some (z_callV E ci f n mc ms MC MS nxt)) (hok : zcok E ci mc ms MC MS r st kk) : zev code (pc, ls, as ++ r :: st, s, kk) = zret code nxt ls st (kk.1 + mc, kk.2 + ms) (f (r :: as.reverse) s) := by
  rw [zev_step h]
  unfold z_callV
  subst hn
  rw [List.drop_left, List.take_left]
  simp only []
  unfold zcok at hok
  rw [if_pos hok, zback_ret]
theorem zf_callS {mc ms MC MS : Nat} {f : List zAV → zAS → Option zOut} {as : List zAV} (n : Nat) (hn : as.length = n) (h : code pc = some (z_callS f n mc ms MC MS nxt)) (hok : (st.map zcat).sum ≤ 8 ∧ kk.1 + mc ≤ MC ∧ kk.2 + ms ≤ MS) : zev code (pc, ls, as ++ st, s, kk) = zret code nxt ls st (kk.1 + mc, kk.2 + ms) (f as.reverse s) := by
  rw [zev_step h]
  unfold z_callS
  subst hn
  rw [List.drop_left, List.take_left, if_pos ⟨by simp, hok⟩, zback_ret]
theorem zf_tsw {lo hi : Int} {tg : List Nat} {d : Nat} {x : Int32} (h : code pc = some (z_tsw lo hi tg d)) : zev code (pc, ls, .inl (.int x) :: st, s, kk) = if x.toInt < lo ∨ hi < x.toInt then zev code (d, ls, st, s, kk) else match tg[(x.toInt - lo).toNat]? with
    | some t => zev code (t, ls, st, s, kk)
    | none => none := by
  rw [zev_step h]
  unfold z_tsw
  simp only []
  by_cases h1 : x.toInt < lo ∨ hi < x.toInt
  · rw [if_pos h1, if_pos h1]; rfl
  · rw [if_neg h1, if_neg h1]
    cases tg[(x.toInt - lo).toNat]? <;> rfl
theorem zf_newa {MC MS : Nat} {x : Int32} (h : code pc = some (z_newa MC MS nxt)) (hx : ¬ x < 0 ∧ x.toNatClampNeg ≤ 100 ∧ kk.1 + 1 ≤ MC ∧ kk.2 + x.toNatClampNeg ≤ MS ∧ st.all (zfr s.2.length) = true ∧ ls.all (zfr' s.2.length) = true) :
    zev code (pc, ls, .inl (.int x) :: st, s, kk) = zev code (nxt, ls, zO 99 s.2.length :: st, (s.1, s.2 ++ [(x.toNatClampNeg, fun _ => 0)]), (kk.1 + 1, kk.2 + x.toNatClampNeg)) := by
  rw [zev_step h]
  unfold z_newa
  simp only [if_neg hx.1, if_pos hx.2, zcont]
theorem zf_anewa {MC MS : Nat} {x : Int32} (h : code pc = some (z_anewa MC MS nxt)) (hx : ¬ x < 0 ∧ x.toNatClampNeg ≤ 100 ∧ kk.1 + 1 ≤ MC ∧ kk.2 + x.toNatClampNeg ≤ MS ∧ st.all (zfr s.2.length) = true ∧ ls.all (zfr' s.2.length) = true) :
    zev code (pc, ls, .inl (.int x) :: st, s, kk) = zev code (nxt, ls, zO 99 s.2.length :: st, (s.1, s.2 ++ [(1000 + x.toNatClampNeg, fun _ => -1)]), (kk.1 + 1, kk.2 + x.toNatClampNeg)) := by
  rw [zev_step h]
  unfold z_anewa
  simp only [if_neg hx.1, if_pos hx.2, zcont]
theorem zf_sldc {i : Nat} (h : code pc = some (z_sldc E i nxt)) (he : (E 97).1 = 1) : zev code (pc, ls, st, s, kk) = zev code (nxt, ls, zO 96 i :: st, s, kk) := by
  rw [zev_step h]
  simp [z_sldc, he, zcont]
def zasts (E : zEnv) (i0 i : Nat) (j : Int32) (s : zAS) : Option zAS := if (E 97).1 = 1 ∧ i0 < 6 ∧ ¬ j < 0 then match s.2[i]? with
      | some t => if j.toNatClampNeg + 1000 < t.1 then some (s.1, s.2.set i (t.1, upd t.2 j.toNatClampNeg (nI i0))) else none
      | none => none else none
theorem zf_aasts {i0 i : Nat} {j : Int32} (h : code pc = some (z_aasts E nxt)) : zev code (pc, ls, .inr (96, i0) :: .inl (.int j) :: .inr (99, i) :: st, s, kk) = zgo code nxt ls st kk (zasts E i0 i j s) := by
  rw [zev_step h]
  unfold z_aasts zasts
  simp only [true_and]
  by_cases h1 : (E 97).1 = 1 ∧ i0 < 6 ∧ ¬ j < 0
  · rw [if_pos h1, if_pos h1]
    cases ht : s.2[i]? with
    | none => rfl
    | some t =>
      simp only []
      by_cases h2 : j.toNatClampNeg + 1000 < t.1
      · rw [if_pos h2, if_pos h2]; rfl
      · rw [if_neg h2, if_neg h2]; rfl
  · rw [if_neg h1, if_neg h1]; rfl
def zalds (i : Nat) (j : Int32) (τ : zTmp) : Option zAV := if ¬ j < 0 then match τ[i]? with
      | some t => if j.toNatClampNeg + 1000 < t.1 ∧ ¬ t.2 j.toNatClampNeg < 0 then some (zO 96 (t.2 j.toNatClampNeg).toNatClampNeg) else none
      | none => none else none
theorem zf_aalds {i : Nat} {j : Int32} (h : code pc = some (z_aalds nxt)) : zev code (pc, ls, .inl (.int j) :: .inr (99, i) :: st, s, kk) = zpush code nxt ls st s kk (zalds i j s.2) := by
  rw [zev_step h]
  unfold z_aalds zalds
  simp only [true_and]
  by_cases h1 : ¬ j < 0
  · rw [if_pos h1, if_pos h1]
    cases ht : s.2[i]? with
    | none => rfl
    | some t =>
      simp only []
      by_cases h2 : j.toNatClampNeg + 1000 < t.1 ∧ ¬ t.2 j.toNatClampNeg < 0
      · rw [if_pos h2, if_pos h2]; rfl
      · rw [if_neg h2, if_neg h2]; rfl
  · rw [if_neg h1, if_neg h1]; rfl
theorem zf_scall {mc ms MC MS i : Nat} {f : List zAV → zAS → Option zOut} {as : List zAV} (n : Nat) (hn : as.length = n) (h : code pc = some (z_scall f n mc ms MC MS nxt)) (hok : i < 6 ∧ (st.map zcat).sum ≤ 8 ∧ kk.1 + mc ≤ MC ∧ kk.2 + ms ≤ MS) : zev code (pc, ls, as ++ .inr (96, i) :: st, s, kk) = zret code nxt ls st (kk.1 + mc, kk.2 + ms) (f (.inr (96, i) :: as.reverse) s) := by
  rw [zev_step h]
  unfold z_scall
  subst hn
  rw [List.drop_left, List.take_left]
  simp only [true_and]
  rw [if_pos hok, zback_ret]
theorem zf_lsw2 {t0 t1 d : Nat} {x : Int32} (h : code pc = some (z_lsw2 t0 t1 d)) : zev code (pc, ls, .inl (.int x) :: st, s, kk) = if x = 0 then zev code (t0, ls, st, s, kk) else if x = 1 then zev code (t1, ls, st, s, kk) else zev code (d, ls, st, s, kk) := by
  rw [zev_step h]
  unfold z_lsw2
  simp only [zcont]
  repeat' split
  all_goals rfl
end ZF
