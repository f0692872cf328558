/-! ===== truth, digest ===== -/
theorem yver_3 {p s : Nat} {v : Nat → Option yT} {q : Nat → Option Nat} : yver p v s q = -1 ∨ yver p v s q = 0 ∨ yver p v s q = 1 := by
  unfold yver
  split
  · exact Or.inr zb01
  · exact Or.inl rfl
def zAgD (τ τ' : zTmp) (oC oR : Option zOut) : Prop := ∃ d σ σ', oC = some (.inl (some (.inl (.double d))), (σ, τ)) ∧ oR = some (.inl (some (.inl (.double d))), (σ', τ')) ∧ zRel σ σ'
def zAgL (τ τ' : zTmp) (oC oR : Option zOut) : Prop := ∃ d σ σ', oC = some (.inl (some (.inl (.long d))), (σ, τ)) ∧ oR = some (.inl (some (.inl (.long d))), (σ', τ')) ∧ zRel σ σ'
theorem zdcl_fl {V : Nat → Int32} {d : Int64} : ∀ n, zdcl V d n = zfl V d n
  | 0 => rfl
  | n + 1 => by rw [zdcl, zfl, zdcl_fl n]
theorem zfl_eq {f g : Nat → Int32} {d : Int64} : ∀ n, (∀ k, k < n → f k = g k) → zfl f d n = zfl g d n
  | 0, _ => rfl
  | n + 1, h => by rw [zfl, zfl, zfl_eq n (fun k hk => h k (by omega)), h n (by omega)]
theorem zadd_eq {σ σ' : zMem} {j : Nat} {d : Int64} {v : Option yT} {P : yP} {t : yTo} (cv : zcv σ j v) (rv : zrv σ' j v) (co : zCo P t σ j) (ro : zRo P t σ' j) : zadd σ 4 j d = zdR σ' j d := by
  obtain ⟨_, c1, c2, _, _⟩ := co
  obtain ⟨r0, r1, r2, _, _⟩ := ro
  have e : zdg (zdg (zdg (zdg (zdg (zdg d (zfeat σ 4 j 0)) (zfeat σ 4 j 1)) (zfeat σ 4 j 2)) (zfeat σ 4 j 3)) (zfeat σ 4 j 4)) (zfeat σ 4 j 5) = zfl (zfR σ' j) d 6 := by
    have f0 : zfeat σ 4 j 0 = zfR σ' j 0 := by show zsort (σ 4 j 1) = zg σ' j 0; rw [c1, r0]
    have f1 : zfeat σ 4 j 1 = zfR σ' j 1 := by show σ 4 j 1 = zg σ' j 1; rw [c1, r1]
    have f2 : zfeat σ 4 j 2 = zfR σ' j 2 := by show σ 4 j (2 + 0) = zg σ' j (2 + 0); rw [c2 0 (by decide), r2 0 (by decide)]
    have f3 : zfeat σ 4 j 3 = zfR σ' j 3 := by show σ 4 j (2 + 1) = zg σ' j (2 + 1); rw [c2 1 (by decide), r2 1 (by decide)]
    have f4 : zfeat σ 4 j 4 = zfR σ' j 4 := by show σ 4 j (2 + 2) = zg σ' j (2 + 2); rw [c2 2 (by decide), r2 2 (by decide)]
    have f5 : zfeat σ 4 j 5 = zfR σ' j 5 := v7 cv rv
    rw [f0, f1, f2, f3, f4, f5]
    rfl
  unfold zadd zdR
  dsimp only
  rw [e]
  by_cases g : σ 4 j 7 = 0
  · have g' : ¬ zg σ' j 7 = 1 := fun q => (v7i cv rv).mpr q g
    obtain ⟨A, eA⟩ := Option.ne_none_iff_exists'.mp ((zcv_01 cv).1.mp g)
    rw [eA] at cv rv
    obtain ⟨_, a1, a2, a3⟩ := cv
    obtain ⟨_, b1, b2, b3⟩ := rv
    rw [if_pos g, if_neg g', a1, a2, a3, ← b1, ← b2, ← b3]
    rfl
  · rw [if_neg g, if_pos ((v7i cv rv).mp g)]
