/-! ===== the class's first memory ===== -/
def xM0 : zMem := fun k i j => match k with
  | 3 => if j = 0 then 43 else 0
  | 4 => if j = 0 then (if i = 43 then -1 else nI i) else if j = 2 ∨ j = 3 ∨ j = 4 then -1 else 0
  | 13 => if j = 0 then (if i = 43 then -1 else nI i) else if j = 2 ∨ j = 3 ∨ j = 4 then -1 else 0
  | 14 => if j = 0 then -1 else if j = 2 ∨ j = 3 ∨ j = 4 then -1 else 0
  | 16 => if j = 0 then 0 else -1
  | _ => 0
def xW : List (Nat × Nat) := [(0, 0), (1, 0), (2, 0), (3, 0), (9, 0), (10, 0), (14, 0), (14, 1), (14, 2)] ++ ([(5, 0), (11, 0), (4, 43)] ++ (List.range 43).map (fun j => (4, j))) ++ ([(7, 0), (15, 0), (16, 20)] ++ (List.range 20).map (fun j => (16, j))) ++ ([(8, 0)] ++ ([(6, 0), (12, 0), (13, 43)] ++ (List.range 43).map (fun j => (13, j))))
theorem xW_perm : xW.Perm (zall zEC) := by decide +kernel
theorem xall_nd : (zall zEC).Nodup := by decide +kernel
def xL (L0 : Nat → Nat → Nat) (h0 hJ hC hF iv ro ch cr ri hR qa hCR qc hT hR2 qb : Nat) (g gc g2 : Nat → Nat) : Nat → Nat → Nat := fun k i => match k with
  | 0 => h0
  | 1 => hJ
  | 2 => hC
  | 3 => hF
  | 4 => g i
  | 5 => hR
  | 6 => hR2
  | 7 => hCR
  | 8 => hT
  | 9 => iv
  | 10 => ro
  | 11 => qa
  | 12 => qb
  | 13 => g2 i
  | 14 => if i = 0 then ch else if i = 1 then cr else ri
  | 15 => qc
  | 16 => gc i
  | 98 => L0 98 i
  | 95 => L0 95 i
  | 96 => L0 96 i
  | 97 => L0 97 i
  | _ => 0
def xf (cy : Nat → ClassId) (L : Nat → Nat → Nat) (σ : zMem) (q : Nat × Nat) : va_E := match q.1 with
  | 11 => .inl (cy 2, 43, .inr (.inr (.inr (.inr (xpf (L 4) 43)))))
  | 12 => .inl (cy 2, 43, .inr (.inr (.inr (.inr (xpf (L 13) 43)))))
  | 15 => .inl (cy 1, 20, .inr (.inr (.inr (.inr (xpf (L 16) 20)))))
  | _ => zcell zEC cy L σ q.1 q.2
theorem x_refs {c : ClassId} {g : Nat → Nat} {n : Nat} : vp_cell c (n, .inr (.inr (.inr (.inr (xpf g n))))) = vp_cell c (n, .inr (.inr (.inr (.inr (fun j => some (g j)))))) := by
  unfold vp_cell
  dsimp only
  unfold arrV
  congr 1
  congr 1
  funext j
  dsimp only
  unfold xpf
  rw [if_pos j.isLt]
theorem x_asm {D : va_G} {cy : Nat → ClassId} {A : Nat → Prop} {L : Nat → Nat → Nat} {σ : zMem} {H : Heap} {l : va_W} (hl : l = xW.map (fun q => (L q.1 q.2, xf cy L σ q))) (hP : va_P D vwCl l H) (hD : va_D A l) : zW zEC D cy A L (σ, []) H := by
  subst hl
  have at_ : ∀ q ∈ xW, ∃ k : Nat, xW[k]? = some q ∧ (xW.map (fun q => (L q.1 q.2, xf cy L σ q)))[k]? = some (L q.1 q.2, xf cy L σ q) := by
    intro q hq
    obtain ⟨k, hk⟩ := List.getElem?_of_mem hq
    exact ⟨k, hk, by rw [List.getElem?_map, hk]; rfl⟩
  have same : ∀ q, va_at D vwCl (L q.1 q.2, xf cy L σ q) H → va_at D vwCl (L q.1 q.2, zcell zEC cy L σ q.1 q.2) H := by
    rintro ⟨k, i⟩ h
    unfold xf at h
    split at h
    · rename_i hk
      dsimp only at hk
      subst hk
      have h : H[L 11 i]? = some (vp_cell _ _) := h
      rw [x_refs] at h
      exact h
    · rename_i hk
      dsimp only at hk
      subst hk
      have h : H[L 12 i]? = some (vp_cell _ _) := h
      rw [x_refs] at h
      exact h
    · rename_i hk
      dsimp only at hk
      subst hk
      have h : H[L 15 i]? = some (vp_cell _ _) := h
      rw [x_refs] at h
      exact h
    · exact h
  have gw : ∀ (j : Nat) (x : Nat × va_E), (zws zEC cy L (σ, []))[j]? = some x → ∃ q, (zall zEC)[j]? = some q ∧ x = (L q.1 q.2, zcell zEC cy L σ q.1 q.2) := by
    intro j x hx
    have e : zws zEC cy L (σ, []) = (zall zEC).map (fun q => (L q.1 q.2, zcell zEC cy L σ q.1 q.2)) := List.append_nil _
    rw [e, List.getElem?_map] at hx
    cases hz : (zall zEC)[j]? with
    | none => rw [hz] at hx; cases hx
    | some q => rw [hz] at hx; exact ⟨q, rfl, (Option.some.inj hx).symm⟩
  refine ⟨fun j x hx => ?_, fun i j a b ha hb hab => ?_, fun j x hx => ?_⟩
  · obtain ⟨q, hq, rfl⟩ := gw j x hx
    obtain ⟨k, -, hk⟩ := at_ q (xW_perm.mem_iff.mpr (List.mem_of_getElem? hq))
    exact same q (hP k _ hk)
  · obtain ⟨q, hq, rfl⟩ := gw i a ha
    obtain ⟨r, hr, rfl⟩ := gw j b hb
    obtain ⟨k, k1, k2⟩ := at_ q (xW_perm.mem_iff.mpr (List.mem_of_getElem? hq))
    obtain ⟨n, n1, n2⟩ := at_ r (xW_perm.mem_iff.mpr (List.mem_of_getElem? hr))
    have := hD.1 k n _ _ k2 n2 hab
    subst this
    rw [k1] at n1
    cases n1
    obtain ⟨i1, i2⟩ := List.getElem?_eq_some_iff.mp hq
    obtain ⟨j1, j2⟩ := List.getElem?_eq_some_iff.mp hr
    have nd := List.pairwise_iff_getElem.mp xall_nd
    rcases Nat.lt_trichotomy i j with h | h | h
    · exact absurd (i2.trans j2.symm) (nd i j i1 j1 h)
    · exact h
    · exact absurd (j2.trans i2.symm) (nd j i j1 i1 h)
  · obtain ⟨q, hq, rfl⟩ := gw j x hx
    obtain ⟨k, -, hk⟩ := at_ q (xW_perm.mem_iff.mpr (List.mem_of_getElem? hq))
    exact hD.2 k (L q.1 q.2, xf cy L σ q) hk
theorem x_list {cy : Nat → ClassId} {L0 : Nat → Nat → Nat} {h0 hJ hC hF iv ro ch cr ri hR qa hCR qc hT hR2 qb : Nat} {g gc g2 : Nat → Nat} :
    ([(h0, (.inr (8, [.ref hJ, .ref hC, .ref hF, .ref hR, .ref hCR, .ref hT]) : va_E)), (hJ, .inr (5, [.ref hC, .ref hF, .ref cr, .ref ri])), (hC, .inr (2, [.ref hF, .ref ch])), (hF, .inr (3, [.int 43, .ref iv, .ref ro])), (iv, .inl (cy 0, 43, .inl (fun _ => 0))), (ro, .inl (cy 0, 43, .inl (fun _ => 0))), (ch, xfig (-1)), (cr, xfig (-1)), (ri, xfig (-1))]
      ++ ([(hR, .inr (6, [.ref qa, .ref (g 43), .int 0])), (qa, .inl (cy 2, 43, .inr (.inr (.inr (.inr (xpf g 43)))))), (g 43, xfig (-1))] ++ xfam (fun j => xfig (nI j)) g 43)
      ++ ([(hCR, .inr (1, [.ref qc, .ref (gc 20), .int 0])), (qc, .inl (cy 1, 20, .inr (.inr (.inr (.inr (xpf gc 20)))))), (gc 20, xcl)] ++ xfam (fun _ => xcl) gc 20)
      ++ ([(hT, .inr (7, [.ref hR2, .int 0]))] ++ ([(hR2, .inr (6, [.ref qb, .ref (g2 43), .int 0])), (qb, .inl (cy 2, 43, .inr (.inr (.inr (.inr (xpf g2 43)))))), (g2 43, xfig (-1))] ++ xfam (fun j => xfig (nI j)) g2 43)))
    = xW.map (fun q => (xL L0 h0 hJ hC hF iv ro ch cr ri hR qa hCR qc hT hR2 qb g gc g2 q.1 q.2, xf cy (xL L0 h0 hJ hC hF iv ro ch cr ri hR qa hCR qc hT hR2 qb g gc g2) xM0 q)) := by
  have f1 : xfam (fun j => xfig (nI j)) g 43 = ((List.range 43).map (fun j => (4, j))).map (fun q => (xL L0 h0 hJ hC hF iv ro ch cr ri hR qa hCR qc hT hR2 qb g gc g2 q.1 q.2, xf cy (xL L0 h0 hJ hC hF iv ro ch cr ri hR qa hCR qc hT hR2 qb g gc g2) xM0 q)) := by
    unfold xfam
    rw [List.map_map]
    apply List.map_congr_left
    intro j hj
    rw [List.mem_range] at hj
    show (g j, xfig (nI j)) = (g j, .inr (4, [.int (if j = 43 then -1 else nI j), .int 0, .int (-1), .int (-1), .int (-1), .int 0, .int 0, .int 0, .int 0, .int 0, .int 0, .int 0, .int 0]))
    rw [if_neg (by omega)]
  have f2 : xfam (fun j => xfig (nI j)) g2 43 = ((List.range 43).map (fun j => (13, j))).map (fun q => (xL L0 h0 hJ hC hF iv ro ch cr ri hR qa hCR qc hT hR2 qb g gc g2 q.1 q.2, xf cy (xL L0 h0 hJ hC hF iv ro ch cr ri hR qa hCR qc hT hR2 qb g gc g2) xM0 q)) := by
    unfold xfam
    rw [List.map_map]
    apply List.map_congr_left
    intro j hj
    rw [List.mem_range] at hj
    show (g2 j, xfig (nI j)) = (g2 j, .inr (4, [.int (if j = 43 then -1 else nI j), .int 0, .int (-1), .int (-1), .int (-1), .int 0, .int 0, .int 0, .int 0, .int 0, .int 0, .int 0, .int 0]))
    rw [if_neg (by omega)]
  have f3 : xfam (fun _ => xcl) gc 20 = ((List.range 20).map (fun j => (16, j))).map (fun q => (xL L0 h0 hJ hC hF iv ro ch cr ri hR qa hCR qc hT hR2 qb g gc g2 q.1 q.2, xf cy (xL L0 h0 hJ hC hF iv ro ch cr ri hR qa hCR qc hT hR2 qb g gc g2) xM0 q)) := by
    unfold xfam
    rw [List.map_map]
    apply List.map_congr_left
    intro j hj
    rfl
  unfold xW
  rw [f1, f2, f3, List.map_append, List.map_append, List.map_append, List.map_append, List.map_append, List.map_append, List.map_append]
  rfl
