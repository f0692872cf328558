/-! ===== truth, digest ===== -/
theorem yver_3 {p s : Nat} {v : Nat → Option yT} {q : Nat → Option Nat} : yver p v s q = -1 ∨ yver p v s q = 0 ∨ yver p v s q = 1 := by
  unfold yver
  split
  · exact Or.inr zb01
  · exact Or.inl rfl
def zAgD (τ τ' : zTmp) (oC oR : Option zOut) : Prop := ∃ d σ σ', oC = some (.inl (some (.inl (.double d))), (σ, τ)) ∧ oR = some (.inl (some (.inl (.double d))), (σ', τ')) ∧ zRel σ σ'
def zAgL (τ τ' : zTmp) (oC oR : Option zOut) : Prop := ∃ d σ σ', oC = some (.inl (some (.inl (.long d))), (σ, τ)) ∧ oR = some (.inl (some (.inl (.long d))), (σ', τ')) ∧ zRel σ σ'
theorem ag_truth {σ σ' : zMem} {τ τ' : zTmp} (h : zRel σ σ') : zAgD τ τ' (m_X8_truth [zO 0 0] (σ, τ)) (m_X9_truth [zO 0 0] (σ', τ')) := by
  obtain ⟨p, m, mc, P, t, cl, hS, hC, hR⟩ := h
  have hmc := hS.2.2.1
  obtain ⟨σ1, e1, h1⟩ := sp_truth (c := mc) (τ := τ) (fun k => yver p (yval p P t) (cl.1 k) (cl.2 k)) (fun σ => zSC p m mc P t cl σ) hC hmc (fun σ h => h.2.2.1) (fun k hk σ h => c_ver hS h hk)
  obtain ⟨σ2, e2, h2⟩ := rp_truth (c := mc) (τ := τ') (fun k => yver p (yval p P t) (cl.1 k) (cl.2 k)) (fun σ => zSR p m mc P t cl σ) (zSR_t0 hR) hmc (fun σ h => h.2.2.1) (fun k hk σ h => by
    obtain ⟨σ', e, hL⟩ := r_ver (τ := τ') hS h hk
    exact ⟨σ', e, zSR_L3 hL h⟩)
  have en : zsum (fun j => znon (yver p (yval p P t) (cl.1 j) (cl.2 j))) mc = zsum (fun j => znoR (yver p (yval p P t) (cl.1 j) (cl.2 j))) mc := zsum_eq mc (fun j _ => by
    rcases yver_3 (p := p) (v := yval p P t) (s := cl.1 j) (q := cl.2 j) with g | g | g <;> rw [g] <;> decide)
  rw [← en] at e2
  exact ⟨_, σ1, σ2, e1, e2, p, m, mc, P, t, cl, hS, h1, h2⟩
theorem zdcl_fl {V : Nat → Int32} {d : Int64} : ∀ n, zdcl V d n = zfl V d n
  | 0 => rfl
  | n + 1 => by rw [zdcl, zfl, zdcl_fl n]
theorem zfl_eq {f g : Nat → Int32} {d : Int64} : ∀ n, (∀ k, k < n → f k = g k) → zfl f d n = zfl g d n
  | 0, _ => rfl
  | n + 1, h => by rw [zfl, zfl, zfl_eq n (fun k hk => h k (by omega)), h n (by omega)]
theorem zadd_eq {σ σ' : zMem} {j : Nat} {d : Int64} {v : Option yT} {P : yP} {t : yTo} (cv : zcv σ j v) (rv : zrv σ' j v) (co : zCo P t σ j) (ro : zRo P t σ' j) : zadd σ 4 j d = zdR σ' j d := by
  obtain ⟨_, c1, c2, _, _⟩ := co
  obtain ⟨r0, r1, r2, _, _⟩ := ro
  have e : zdg (zdg (zdg (zdg (zdg (zdg d (zfeat σ 4 j 0)) (zfeat σ 4 j 1)) (zfeat σ 4 j 2)) (zfeat σ 4 j 3)) (zfeat σ 4 j 4)) (zfeat σ 4 j 5) = zfl (zfR σ' j) d 6 := by
    have f0 : zfeat σ 4 j 0 = zfR σ' j 0 := by show zsort (σ 4 j 1) = zg σ' j 0; rw [c1, r0]
    have f1 : zfeat σ 4 j 1 = zfR σ' j 1 := by show σ 4 j 1 = zg σ' j 1; rw [c1, r1]
    have f2 : zfeat σ 4 j 2 = zfR σ' j 2 := by show σ 4 j (2 + 0) = zg σ' j (2 + 0); rw [c2 0 (by decide), r2 0 (by decide)]
    have f3 : zfeat σ 4 j 3 = zfR σ' j 3 := by show σ 4 j (2 + 1) = zg σ' j (2 + 1); rw [c2 1 (by decide), r2 1 (by decide)]
    have f4 : zfeat σ 4 j 4 = zfR σ' j 4 := by show σ 4 j (2 + 2) = zg σ' j (2 + 2); rw [c2 2 (by decide), r2 2 (by decide)]
    have f5 : zfeat σ 4 j 5 = zfR σ' j 5 := v7 cv rv
    rw [f0, f1, f2, f3, f4, f5]
    rfl
  unfold zadd zdR
  dsimp only
  rw [e]
  by_cases g : σ 4 j 7 = 0
  · have g' : ¬ zg σ' j 7 = 1 := fun q => (v7i cv rv).mpr q g
    obtain ⟨A, eA⟩ := Option.ne_none_iff_exists'.mp ((zcv_01 cv).1.mp g)
    rw [eA] at cv rv
    obtain ⟨_, a1, a2, a3⟩ := cv
    obtain ⟨_, b1, b2, b3⟩ := rv
    rw [if_pos g, if_neg g', a1, a2, a3, ← b1, ← b2, ← b3]
    rfl
  · rw [if_neg g, if_pos ((v7i cv rv).mp g)]
theorem ag_digest {σ σ' : zMem} {τ τ' : zTmp} (h : zRel σ σ') : zAgL τ τ' (m_X8_digest [zO 0 0] (σ, τ)) (m_X9_digest [zO 0 0] (σ', τ')) := by
  obtain ⟨p, m, mc, P, t, cl, hS, hC, hR⟩ := h
  have hmc := hS.2.2.1
  have hm := hS.2.1
  have hR0 := zSR_t0 hR
  obtain ⟨σ1, e1, h1⟩ := sp_digest (m := m) (c := mc) (τ := τ) (fun k => yver p (yval p P t) (cl.1 k) (cl.2 k)) (fun σ => zSC p m mc P t cl σ) hC hC.1.2.1 (by omega) hmc (fun σ h => h.2.2.1) (fun k hk σ h => c_ver hS h hk)
  obtain ⟨σ2, e2, h2⟩ := rp_digest (m := m) (c := mc) (τ := τ') (fun k => yver p (yval p P t) (cl.1 k) (cl.2 k)) (fun σ => zSR p m mc P t cl σ) hR0 hR.1.2.1 hm hmc (fun σ h => h.2.2.1) (fun k hk σ h => by
    obtain ⟨σ', e, hL⟩ := r_ver (τ := τ') hS h hk
    exact ⟨σ', e, zSR_L3 hL h⟩)
  have head : zdhd (σ 3 0 0) (nI m) (nI mc) (zsum (fun j => if σ 4 j 1 = 0 then 1 else 0) m) (zsum (fun j => if σ 4 j 7 = 0 then 0 else 1) m) = zfl (zcn (zt0 σ') m) 421 5 := by
    have s3 : zsum (fun j => if σ 4 j 1 = 0 then 1 else 0) m = zcn (zt0 σ') m 3 := zsum_eq m (fun j hj => by
      rw [(hC.1.2.2.2.2 j hj).2.1]
      show _ = if zg (zt0 σ') j 1 = 0 then (1 : Int32) else 0
      rw [(hR0.1.2.2 j hj).2.1])
    have s4 : zsum (fun j => if σ 4 j 7 = 0 then 0 else 1) m = zcn (zt0 σ') m 4 := zsum_eq m (fun j hj => v7 (hC.2.1 j hj) (hR0.2.1 j hj))
    have s0 : σ 3 0 0 = zcn (zt0 σ') m 0 := hC.1.1.1.trans hR0.1.1.symm
    have s1 : nI m = zcn (zt0 σ') m 1 := hR0.1.2.1.symm
    have s2 : nI mc = zcn (zt0 σ') m 2 := hR0.2.2.1.symm
    rw [s0, s1, s2, s3, s4]
    rfl
  have objs : ∀ d n, n ≤ m → zdob σ d n = zdRo (zt0 σ') d n := by
    intro d n
    induction n with
    | zero => intro _; rfl
    | succ n ih =>
      intro hn
      rw [zdob, zdRo, ih (by omega)]
      exact zadd_eq (hC.2.1 n (by omega)) (hR0.2.1 n (by omega)) (hC.1.2.2.2.2 n (by omega)) (hR0.1.2.2 n (by omega))
  have e : zdig σ m mc (fun k => yver p (yval p P t) (cl.1 k) (cl.2 k)) = zdigR (zt0 σ') m mc (fun k => yver p (yval p P t) (cl.1 k) (cl.2 k)) := by
    unfold zdig zdigR
    rw [head, objs _ m (Nat.le_refl m), zdcl_fl]
  rw [← e] at e2
  exact ⟨_, σ1, σ2, e1, e2, p, m, mc, P, t, cl, hS, h1, h2⟩
