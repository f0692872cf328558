/-! ===== the small machine's world in the heap ===== -/
def zc (L : Nat → Nat → Nat) (v : zAV) : Value := match v with
  | .inl v => v
  | .inr (k, i) => .ref (L k i)
def zsv (L : Nat → Nat → Nat) (σ : zMem) (k i j : Nat) (d : Option (Nat × Nat)) : Value := match d with
  | none => .int (σ k i j)
  | some q => .ref (L q.1 q.2)
def zcell (E : zEnv) (cy : Nat → ClassId) (L : Nat → Nat → Nat) (σ : zMem) (k i : Nat) : va_E := match (E k).2 with
  | .inl o => .inr (o.1, o.2.mapIdx (fun j d => zsv L σ k i j d))
  | .inr (.inl n) => .inl (cy 0, n, .inl (σ k i))
  | .inr (.inr q) => .inl (cy q.2.1, q.1, .inr (.inr (.inr (.inr (fun j => some (L q.2.2 j))))))
/-- a string constant's address, none for -1 -/
def zsr (L : Nat → Nat → Nat) (x : Int32) : Option Nat := if x < 0 then none else some (L 96 x.toNatClampNeg)
def ztc (cy : Nat → ClassId) (L : Nat → Nat → Nat) (t : Nat × (Nat → Int32)) : va_E := if t.1 < 1000 then .inl (cy 0, t.1, .inl t.2) else .inl (cy 3, t.1 - 1000, .inr (.inr (.inr (.inr (fun j => zsr L (t.2 j))))))
theorem ztc_i {cy : Nat → ClassId} {L : Nat → Nat → Nat} {t : Nat × (Nat → Int32)} (h : t.1 < 1000) : ztc cy L t = .inl (cy 0, t.1, .inl t.2) := if_pos h
theorem ztc_s {cy : Nat → ClassId} {L : Nat → Nat → Nat} {t : Nat × (Nat → Int32)} (h : ¬ t.1 < 1000) : ztc cy L t = .inl (cy 3, t.1 - 1000, .inr (.inr (.inr (.inr (fun j => zsr L (t.2 j)))))) := if_neg h
def zall (E : zEnv) : List (Nat × Nat) := (List.range 20).flatMap (fun k => (List.range (E k).1).map (fun i => (k, i)))
theorem zall_mem {E : zEnv} {k i : Nat} (hk : k < 20) (hi : i < (E k).1) : (k, i) ∈ zall E :=
  List.mem_flatMap.mpr ⟨k, List.mem_range.mpr hk, List.mem_map.mpr ⟨i, List.mem_range.mpr hi, rfl⟩⟩
theorem zall_lt {E : zEnv} {q : Nat × Nat} (h : q ∈ zall E) : q.1 < 20 ∧ q.2 < (E q.1).1 := by
  obtain ⟨k, hk, h⟩ := List.mem_flatMap.mp h
  obtain ⟨i, hi, rfl⟩ := List.mem_map.mp h
  exact ⟨List.mem_range.mp hk, List.mem_range.mp hi⟩
def zws (E : zEnv) (cy : Nat → ClassId) (L : Nat → Nat → Nat) (s : zAS) : va_W :=
  (zall E).map (fun q => (L q.1 q.2, zcell E cy L s.1 q.1 q.2)) ++ s.2.mapIdx (fun i t => (L 99 i, ztc cy L t))
def zW (E : zEnv) (D : va_G) (cy : Nat → ClassId) (A : Nat → Prop) (L : Nat → Nat → Nat) (s : zAS) (H : Heap) : Prop := va_P D vwCl (zws E cy L s) H ∧ va_D A (zws E cy L s)
theorem zws_get {E : zEnv} (cy : Nat → ClassId) (L : Nat → Nat → Nat) (s : zAS) {k i : Nat} (hk : k < 20) (hi : i < (E k).1) : ∃ q : Nat, (zall E)[q]? = some (k, i) ∧ (zws E cy L s)[q]? = some (L k i, zcell E cy L s.1 k i) := by
  obtain ⟨q, hq⟩ := List.getElem?_of_mem (zall_mem hk hi)
  refine ⟨q, hq, ?_⟩
  have hl : q < (zall E).length := (List.getElem?_eq_some_iff.mp hq).1
  unfold zws
  rw [List.getElem?_append_left (by simpa using hl), List.getElem?_map, hq]
  rfl
theorem zws_tmp {E : zEnv} (cy : Nat → ClassId) (L : Nat → Nat → Nat) (s : zAS) {i : Nat} {t : Nat × (Nat → Int32)} (h : s.2[i]? = some t) : (zws E cy L s)[(zall E).length + i]? = some (L 99 i, ztc cy L t) := by
  unfold zws
  rw [List.getElem?_append_right (by simp)]
  simp [h]
theorem zws_set {E : zEnv} {cy : Nat → ClassId} {A : Nat → Prop} {L : Nat → Nat → Nat} {σ σ' : zMem} {τ : zTmp} (hD : va_D A (zws E cy L (σ, τ))) {k i q : Nat} (hq : (zall E)[q]? = some (k, i))
    (hne : ∀ k' i', (k', i') ≠ (k, i) → zcell E cy L σ' k' i' = zcell E cy L σ k' i') : (zws E cy L (σ, τ)).set q (L k i, zcell E cy L σ' k i) = zws E cy L (σ', τ) := by
  have hl : q < (zall E).length := (List.getElem?_eq_some_iff.mp hq).1
  have hw : ∀ (σ : zMem) (j : Nat) (w : Nat × Nat), (zall E)[j]? = some w → (zws E cy L (σ, τ))[j]? = some (L w.1 w.2, zcell E cy L σ w.1 w.2) := by
    intro σ j w hj
    have hl : j < (zall E).length := (List.getElem?_eq_some_iff.mp hj).1
    unfold zws
    rw [List.getElem?_append_left (by simpa using hl), List.getElem?_map, hj]
    rfl
  have hlen : ∀ σ : zMem, (zws E cy L (σ, τ)).length = (zall E).length + τ.length := fun σ => by simp [zws]
  apply List.ext_getElem?
  intro j
  by_cases hjq : j = q
  · subst hjq
    rw [List.getElem?_set_self (by rw [hlen]; omega), hw σ' j _ hq]
  · rw [List.getElem?_set_ne (Ne.symm hjq)]
    by_cases hj : j < (zall E).length
    · obtain ⟨w, hw'⟩ : ∃ w, (zall E)[j]? = some w := ⟨_, List.getElem?_eq_getElem hj⟩
      rw [hw σ j w hw', hw σ' j w hw']
      by_cases hwk : w = (k, i)
      · subst hwk
        exact absurd (hD.1 j q _ _ (hw σ j _ hw') (hw σ q _ hq) rfl) hjq
      · rw [hne w.1 w.2 hwk]
    · unfold zws
      rw [List.getElem?_append_right (by simpa using hj), List.getElem?_append_right (by simpa using hj)]
      simp
theorem zcell_up {E : zEnv} {cy : Nat → ClassId} {L : Nat → Nat → Nat} {σ : zMem} {k i j : Nat} {x : Int32} : ∀ k' i', (k', i') ≠ (k, i) → zcell E cy L (zup σ k i j x) k' i' = zcell E cy L σ k' i' := by
  intro k' i' hne
  have h : ∀ j', zup σ k i j x k' i' j' = σ k' i' j' := by
    intro j'
    unfold zup
    rw [if_neg]
    rintro ⟨rfl, rfl, -⟩
    exact hne rfl
  have h2 : (zup σ k i j x) k' i' = σ k' i' := funext h
  unfold zcell
  have h3 : ∀ j' d, zsv L (zup σ k i j x) k' i' j' d = zsv L σ k' i' j' d := by
    intro j' d
    cases d with
    | none => exact congrArg Value.int (h j')
    | some q => rfl
  simp only [h2, h3]
theorem ztc_L {cy : Nat → ClassId} {L L' : Nat → Nat → Nat} {t : Nat × (Nat → Int32)} (h : ∀ i, L' 96 i = L 96 i) : ztc cy L' t = ztc cy L t := by
  have e : ∀ x, zsr L' x = zsr L x := fun x => by unfold zsr; rw [h]
  unfold ztc
  simp only [e]
/-- addresses agree, but for rows made since -/
def zsame (n : Nat) (L L' : Nat → Nat → Nat) : Prop := ∀ k i, (k ≠ 99 ∨ i < n) → L' k i = L k i
theorem zsame.rfl' {n : Nat} {L : Nat → Nat → Nat} : zsame n L L := fun _ _ _ => rfl
theorem zsame.trans {n n' : Nat} {L L' L'' : Nat → Nat → Nat} (h : zsame n L L') (h' : zsame n' L' L'') (hn : n ≤ n') : zsame n L L'' := fun k i q => (h' k i (q.elim Or.inl (fun q => Or.inr (by omega)))).trans (h k i q)
/-- the locals as the machine has them -/
def zHas (L : Nat → Nat → Nat) (lsC : Array Slot) (nL : Nat) (ls : zLs) : Prop := lsC.size = nL ∧ lv_wf lsC ∧ ls.length = nL ∧ ∀ (j : Nat) (v : zAV), ls[j]? = some (some v) → lsC[j]? = some (.val (zc L v))
def zlv (L : Nat → Nat → Nat) (ls : zLs) : List (Nat × Value) := (List.range ls.length).filterMap (fun j => match ls[j]? with
  | some (some v) => some (j, zc L v)
  | _ => none)
theorem zlv_mem {L : Nat → Nat → Nat} {ls : zLs} {j : Nat} {w : Value} : (j, w) ∈ zlv L ls ↔ ∃ v, ls[j]? = some (some v) ∧ w = zc L v := by
  unfold zlv
  rw [List.mem_filterMap]
  constructor
  · rintro ⟨j', hj', h⟩
    split at h
    · rename_i v hv
      cases h
      exact ⟨v, hv, rfl⟩
    · cases h
  · rintro ⟨v, hv, rfl⟩
    refine ⟨j, List.mem_range.mpr (List.getElem?_eq_some_iff.mp hv).1, ?_⟩
    simp [hv]
theorem zHas.lv {L : Nat → Nat → Nat} {lsC : Array Slot} {nL : Nat} {ls : zLs} (h : zHas L lsC nL ls) : lv_has lsC nL (zlv L ls) := by
  refine ⟨h.1, h.2.1, ?_⟩
  rintro ⟨j, w⟩ hq
  obtain ⟨v, hv, rfl⟩ := zlv_mem.mp hq
  exact h.2.2.2 j v hv
theorem zset1_len {ls : zLs} {i : Nat} {v : zAV} : (zset1 ls i v).length = ls.length := by
  cases i <;> simp [zset1]
theorem zset1_get {ls : zLs} {i : Nat} {v : zAV} (hi : i < ls.length) (j : Nat) : (zset1 ls i v)[j]? = if j = i then some (some v) else if j + 1 = i then (ls[j]?).map zk1 else ls[j]? := by
  cases i with
  | zero =>
    unfold zset1
    by_cases hj : j = 0
    · subst hj
      rw [List.getElem?_set_self (by simpa using hi)]
      simp
    · rw [List.getElem?_set_ne (Ne.symm hj), if_neg hj, if_neg (by omega)]
  | succ i =>
    unfold zset1
    by_cases hj : j = i + 1
    · subst hj
      rw [List.getElem?_set_self (by simpa using hi), if_pos rfl]
    · rw [List.getElem?_set_ne (Ne.symm hj), if_neg hj]
      by_cases hj2 : j = i
      · subst hj2
        rw [List.getElem?_set_self (by omega), if_pos rfl, List.getD_eq_getElem?_getD, List.getElem?_eq_getElem (by omega)]
        rfl
      · rw [List.getElem?_set_ne (Ne.symm hj2), if_neg (by omega)]
theorem zk1_cat {v : zAV} {L : Nat → Nat → Nat} {w : Option zAV} (h : zk1 w = some v) : w = some v ∧ (zc L v).category ≠ 2 := by
  cases w with
  | none => simp at h
  | some w =>
    cases w with
    | inl w =>
      cases w <;> simp at h <;> (subst h; exact ⟨rfl, by simp [zc, Value.category]⟩)
    | inr o =>
      simp at h
      subst h
      exact ⟨rfl, by simp [zc, Value.category]⟩
theorem zHas.set1 {L : Nat → Nat → Nat} {lsC lsC' : Array Slot} {nL : Nat} {ls : zLs} {i : Nat} {v : zAV} (h : zHas L lsC nL ls) (hi : i < ls.length)
    (h' : lv_has lsC' nL ((i, zc L v) :: (zlv L ls).filter (fun q => !(q.1 == i) && !(q.1 + 1 == i && q.2.category == 2)))) : zHas L lsC' nL (zset1 ls i v) := by
  refine ⟨h'.1, h'.2.1, by rw [zset1_len]; exact h.2.2.1, ?_⟩
  intro j w hw
  rw [zset1_get hi] at hw
  by_cases hji : j = i
  · subst hji
    rw [if_pos rfl] at hw
    cases hw
    exact h'.2.2 _ List.mem_cons_self
  · rw [if_neg hji] at hw
    have key : ls[j]? = some (some w) → ¬ (j + 1 = i ∧ (zc L w).category = 2) → lsC'[j]? = some (.val (zc L w)) := by
      intro h1 h2
      refine h'.2.2 (j, zc L w) (List.mem_cons_of_mem _ (List.mem_filter.mpr ⟨zlv_mem.mpr ⟨w, h1, rfl⟩, ?_⟩))
      simp only [Bool.and_eq_true, Bool.not_eq_true', beq_eq_false_iff_ne, ne_eq, Bool.and_eq_false_iff]
      refine ⟨hji, ?_⟩
      by_cases h3 : j + 1 = i
      · exact Or.inr (fun h4 => h2 ⟨h3, h4⟩)
      · exact Or.inl h3
    by_cases hj2 : j + 1 = i
    · rw [if_pos hj2] at hw
      cases hl : ls[j]? with
      | none => rw [hl] at hw; cases hw
      | some u =>
        rw [hl] at hw
        have hz : zk1 u = some w := Option.some.inj hw
        obtain ⟨rfl, hc⟩ := zk1_cat (L := L) hz
        exact key hl (fun q => hc q.2)
    · rw [if_neg hj2] at hw
      exact key hw (fun q => hj2 q.1)
theorem zHas.set2 {L : Nat → Nat → Nat} {lsC lsC' : Array Slot} {nL : Nat} {ls : zLs} {i : Nat} {v : zAV} (h : zHas L lsC nL ls) (hi : i + 1 < ls.length)
    (h' : lv_has lsC' nL ((i, zc L v) :: (zlv L ls).filter (fun q => !(q.1 == i) && (!(q.1 == i + 1) && !(q.1 + 1 == i && q.2.category == 2))))) : zHas L lsC' nL (zset2 ls i v) := by
  refine ⟨h'.1, h'.2.1, by unfold zset2; rw [List.length_set, zset1_len]; exact h.2.2.1, ?_⟩
  intro j w hw
  unfold zset2 at hw
  by_cases hj1 : j = i + 1
  · subst hj1
    rw [List.getElem?_set_self (by rw [zset1_len]; exact hi)] at hw
    cases hw
  rw [List.getElem?_set_ne (Ne.symm hj1), zset1_get (by omega)] at hw
  by_cases hji : j = i
  · subst hji
    rw [if_pos rfl] at hw
    cases hw
    exact h'.2.2 _ List.mem_cons_self
  · rw [if_neg hji] at hw
    have key : ls[j]? = some (some w) → ¬ (j + 1 = i ∧ (zc L w).category = 2) → lsC'[j]? = some (.val (zc L w)) := by
      intro h1 h2
      refine h'.2.2 (j, zc L w) (List.mem_cons_of_mem _ (List.mem_filter.mpr ⟨zlv_mem.mpr ⟨w, h1, rfl⟩, ?_⟩))
      simp only [Bool.and_eq_true, Bool.not_eq_true', beq_eq_false_iff_ne, ne_eq, Bool.and_eq_false_iff]
      refine ⟨hji, hj1, ?_⟩
      by_cases h3 : j + 1 = i
      · exact Or.inr (fun h4 => h2 ⟨h3, h4⟩)
      · exact Or.inl h3
    by_cases hj2 : j + 1 = i
    · rw [if_pos hj2] at hw
      cases hl : ls[j]? with
      | none => rw [hl] at hw; cases hw
      | some u =>
        rw [hl] at hw
        have hz : zk1 u = some w := Option.some.inj hw
        obtain ⟨rfl, hc⟩ := zk1_cat (L := L) hz
        exact key hl (fun q => hc q.2)
    · rw [if_neg hj2] at hw
      exact key hw (fun q => hj2 q.1)
