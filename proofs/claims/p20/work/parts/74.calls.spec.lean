/-! ===== the short calls ===== -/
theorem ag_no {τ τ' : zTmp} {cd : Nat → Int32} {oC oR : Option zOut} {σ σ' : zMem} {e : Nat} {n : Int32} (h : zRel σ σ') (he : e ≤ 2) (hc : cd e = n) (hn : n ≠ 0) (eC : oC = some (.inr e, (σ, τ))) (eR : oR = some (.inl (some (zI 0)), (ztf σ' n, τ'))) : zAg τ τ' cd oC oR := by
  obtain ⟨p, m, mc, P, t, cl, hS, hC, hR⟩ := h
  exact Or.inr ⟨e, 0, σ, _, eC, eR, ztf_th.trans hc.symm, by rw [hc]; exact hn, he, p, m, mc, P, t, cl, hS, hC, zSR_tf hR⟩
theorem ag_is {τ τ' : zTmp} {cd : Nat → Int32} {oC oR : Option zOut} {σ σ' : zMem} {v w : Int32} (h : zRel σ σ') (hv : v = w) (eC : oC = some (.inl (some (zI v)), (σ, τ))) (eR : oR = some (.inl (some (zI w)), (zt0 σ', τ'))) : zAg τ τ' cd oC oR := by
  obtain ⟨p, m, mc, P, t, cl, hS, hC, hR⟩ := h
  subst hv
  exact Or.inl ⟨v, σ, _, eC, eR, zt0_th, p, m, mc, P, t, cl, hS, hC, zSR_t0 hR⟩
theorem hasR_iff {m : Nat} {σ : zMem} {o : Int32} (hs : σ 5 0 2 = nI m) (hm : m ≤ 40) : zhasR σ o ↔ ∃ j, j < m ∧ o = nI j := by unfold zhasR; rw [hs]; exact has_lt (by omega)
theorem hasC_iff {m : Nat} {σ : zMem} {o : Int32} (hs : σ 7 0 2 = nI m) (hm : m ≤ 20) : zhasC σ o ↔ ∃ j, j < m ∧ o = nI j := by unfold zhasC; rw [hs]; exact has_lt (by omega)
theorem hasF_iff {p : Nat} {σ : zMem} {o : Int32} (hs : σ 3 0 0 = nI p) (hp : zpr p) : zhasF σ o ↔ ∃ j, j < p ∧ o = nI j := by unfold zhasF; rw [hs]; exact has_lt (by have := zpr_lt hp; omega)
theorem zob_iff {m : Nat} {σ : zMem} {o : Int32} (hs : σ 0 0 2 = nI m) (hm : m ≤ 40) : zob σ o ↔ ∃ j, j < m ∧ o = nI j := by unfold zob; rw [hs]; exact in_lt (by omega)
theorem zcm_iff {m : Nat} {σ : zMem} {o : Int32} (hs : σ 0 0 4 = nI m) (hm : m ≤ 20) : zcm σ o ↔ ∃ j, j < m ∧ o = nI j := by unfold zcm; rw [hs]; exact in_lt (by omega)
theorem zinp_iff {p : Nat} {σ : zMem} {o : Int32} (hs : σ 0 0 1 = nI p) (hp : zpr p) : zin o 0 (σ 0 0 1 - 1) ↔ ∃ j, j < p ∧ o = nI j := by rw [hs]; exact in_lt (by have := zpr_lt hp; omega)
theorem v7 {σ σ' : zMem} {j : Nat} {v : Option yT} (hc : zcv σ j v) (hr : zrv σ' j v) : (if σ 4 j 7 = 0 then 0 else 1) = zg σ' j 7 := by
  cases v with
  | none =>
    have h1 : σ 4 j 7 = 1 := hc
    have h2 : zg σ' j 7 = 1 := hr
    rw [h1, h2, if_neg (by decide)]
  | some A =>
    rw [if_pos hc.1]
    exact hr.1.symm
theorem v7i {σ σ' : zMem} {j : Nat} {v : Option yT} (hc : zcv σ j v) (hr : zrv σ' j v) : ¬ σ 4 j 7 = 0 ↔ zg σ' j 7 = 1 := by
  rw [(zrv_01 hr).1, (zcv_01 hc).1]
  cases v <;> simp
theorem zsum_eq {f g : Nat → Int32} : ∀ m, (∀ j, j < m → f j = g j) → zsum f m = zsum g m
  | 0, _ => rfl
  | m + 1, h => by rw [zsum, zsum, zsum_eq m (fun j hj => h j (by omega)), h m (by omega)]
theorem zoff_pr {n : Int32} : zoff n ↔ ∃ p, zpr p ∧ n = nI p := by
  unfold zoff zpr
  constructor
  · rintro (h | h | h | h | h | h)
    · exact ⟨7, Or.inl rfl, h⟩
    · exact ⟨11, Or.inr (Or.inl rfl), h⟩
    · exact ⟨19, Or.inr (Or.inr (Or.inl rfl)), h⟩
    · exact ⟨23, Or.inr (Or.inr (Or.inr (Or.inl rfl))), h⟩
    · exact ⟨31, Or.inr (Or.inr (Or.inr (Or.inr (Or.inl rfl)))), h⟩
    · exact ⟨43, Or.inr (Or.inr (Or.inr (Or.inr (Or.inr rfl)))), h⟩
  · rintro ⟨p, h | h | h | h | h | h, e⟩ <;> subst h
    · exact Or.inl e
    · exact Or.inr (Or.inl e)
    · exact Or.inr (Or.inr (Or.inl e))
    · exact Or.inr (Or.inr (Or.inr (Or.inl e)))
    · exact Or.inr (Or.inr (Or.inr (Or.inr (Or.inl e))))
    · exact Or.inr (Or.inr (Or.inr (Or.inr (Or.inr e))))
theorem zopp_00 {p : Nat} (hp : zpr p) : zopp p 0 = 0 := by rcases hp with h | h | h | h | h | h <;> subst h <;> decide +kernel
theorem zin_cl {n : Int32} {k : Nat} (hk : k < 100) : ¬ (n < 0 ∨ nI k < n) ↔ zin n 0 (nI k) := by
  unfold zin
  constructor
  · intro h
    exact ⟨Int32.not_lt.mp (fun q => h (Or.inl q)), Int32.not_lt.mp (fun q => h (Or.inr q))⟩
  · rintro ⟨h1, h2⟩ (g | g)
    · exact absurd g (Int32.not_lt.mpr h1)
    · exact absurd g (Int32.not_lt.mpr h2)
/-! verdicts in a state -/
theorem zCv_of {p m mc k : Nat} {P : yP} {t : yTo} {cl : yCl} {σ : zMem} (hp : zpr p) (hm : m ≤ 40) (hP : yPok m P) (hK : yCok m mc P cl) (hk : k < mc) (hF : zField σ p) (hs : σ 5 0 2 = nI m) (h43 : σ 4 43 7 = 0) (hv : ∀ i q, i < 4 → cl.2 k i = some q → zcv σ q (yval p P t q)) : zCv p m (yval p P t) (cl.1 k) (cl.2 k) σ := by
  obtain ⟨h8, ho⟩ := hK k hk
  refine ⟨hF, hs, h43, h8, fun i hi => ⟨fun g => ?_, (ho i hi).2⟩⟩
  obtain ⟨q, e, l, f⟩ := (ho i hi).1 g
  refine ⟨q, e, l, hv i q hi e, fun A hA => ?_⟩
  have ok := yval_ok hp hP l hA
  exact ⟨ok.1, fun h7 => ok.2 (f h7).1 (f h7).2⟩
theorem zRv_of {p m mc k : Nat} {P : yP} {t : yTo} {cl : yCl} {σ : zMem} (hp : zpr p) (hP : yPok m P) (hK : yCok m mc P cl) (hk : k < mc) (h1 : σ 0 0 1 = nI p) (hv : ∀ j, j < m → zrv σ j (yval p P t j)) : zRv p m (yval p P t) (cl.1 k) (cl.2 k) σ := by
  obtain ⟨h8, ho⟩ := hK k hk
  refine ⟨h1, h8, fun i hi => ⟨fun g => ?_, (ho i hi).2⟩⟩
  obtain ⟨q, e, l, f⟩ := (ho i hi).1 g
  refine ⟨q, e, l, hv q l, fun A hA => ?_⟩
  have ok := yval_ok hp hP l hA
  exact ⟨ok.1, fun h7 => ok.2 (f h7).1 (f h7).2⟩
theorem c_ver {p m mc k : Nat} {P : yP} {t : yTo} {cl : yCl} {σ : zMem} {τ : zTmp} (hS : zSt p m mc P t cl) (hC : zSC p m mc P t cl σ) (hk : k < mc) : ∃ σ', m_X8_verdict [zO 0 0, zO 16 k] (σ, τ) = some (.inl (some (zI (yver p (yval p P t) (cl.1 k) (cl.2 k)))), (σ', τ)) ∧ zSC p m mc P t cl σ' := by
  obtain ⟨hp, hm, hmc, hP, hT, hK⟩ := hS
  obtain ⟨hB, hv, h7, hc⟩ := hC
  obtain ⟨c1, c2⟩ := hc k hk
  obtain ⟨σ', e, h14⟩ := c_verdict (τ := τ) hp (show m ≤ 43 by omega) (show k < 21 by omega) (zCv_of (t := t) hp hm hP hK hk hB.1 hB.2.1 hB.2.2.2.1.1 (fun i q hi hq => hv q (by
    obtain ⟨_, ho⟩ := hK k hk
    by_cases g : i < zna (cl.1 k)
    · obtain ⟨q', e, l, _⟩ := (ho i hi).1 g
      rw [hq] at e
      have := Option.some.inj e
      omega
    · rw [(ho i hi).2 (by omega)] at hq
      exact absurd hq (by simp)))) c1 c2
  exact ⟨σ', e, zSC_14 (by omega) h14 ⟨hB, hv, h7, hc⟩⟩
