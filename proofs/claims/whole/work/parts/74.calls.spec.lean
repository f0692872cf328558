/-! ===== the short calls ===== -/
theorem ag_no {τ τ' : zTmp} {cd : Nat → Int32} {oC oR : Option zOut} {σ σ' : zMem} {e : Nat} {n : Int32} (h : zRel σ σ') (he : e ≤ 2) (hc : cd e = n) (hn : n ≠ 0) (eC : oC = some (.inr e, (σ, τ))) (eR : oR = some (.inl (some (zI 0)), (ztf σ' n, τ'))) : zAg τ τ' cd oC oR := by
  obtain ⟨p, m, mc, P, t, cl, hS, hC, hR⟩ := h
  exact Or.inr ⟨e, 0, σ, _, eC, eR, ztf_th.trans hc.symm, by rw [hc]; exact hn, he, p, m, mc, P, t, cl, hS, hC, zSR_tf hR⟩
theorem ag_is {τ τ' : zTmp} {cd : Nat → Int32} {oC oR : Option zOut} {σ σ' : zMem} {v w : Int32} (h : zRel σ σ') (hv : v = w) (eC : oC = some (.inl (some (zI v)), (σ, τ))) (eR : oR = some (.inl (some (zI w)), (zt0 σ', τ'))) : zAg τ τ' cd oC oR := by
  obtain ⟨p, m, mc, P, t, cl, hS, hC, hR⟩ := h
  subst hv
  exact Or.inl ⟨v, σ, _, eC, eR, zt0_th, p, m, mc, P, t, cl, hS, hC, zSR_t0 hR⟩
theorem hasR_iff {m : Nat} {σ : zMem} {o : Int32} (hs : σ 5 0 2 = nI m) (hm : m ≤ 40) : zhasR σ o ↔ ∃ j, j < m ∧ o = nI j := by unfold zhasR; rw [hs]; exact has_lt (by omega)
theorem hasC_iff {m : Nat} {σ : zMem} {o : Int32} (hs : σ 7 0 2 = nI m) (hm : m ≤ 20) : zhasC σ o ↔ ∃ j, j < m ∧ o = nI j := by unfold zhasC; rw [hs]; exact has_lt (by omega)
theorem hasF_iff {p : Nat} {σ : zMem} {o : Int32} (hs : σ 3 0 0 = nI p) (hp : zpr p) : zhasF σ o ↔ ∃ j, j < p ∧ o = nI j := by unfold zhasF; rw [hs]; exact has_lt (by have := zpr_lt hp; omega)
theorem zob_iff {m : Nat} {σ : zMem} {o : Int32} (hs : σ 0 0 2 = nI m) (hm : m ≤ 40) : zob σ o ↔ ∃ j, j < m ∧ o = nI j := by unfold zob; rw [hs]; exact in_lt (by omega)
theorem zcm_iff {m : Nat} {σ : zMem} {o : Int32} (hs : σ 0 0 4 = nI m) (hm : m ≤ 20) : zcm σ o ↔ ∃ j, j < m ∧ o = nI j := by unfold zcm; rw [hs]; exact in_lt (by omega)
theorem zinp_iff {p : Nat} {σ : zMem} {o : Int32} (hs : σ 0 0 1 = nI p) (hp : zpr p) : zin o 0 (σ 0 0 1 - 1) ↔ ∃ j, j < p ∧ o = nI j := by rw [hs]; exact in_lt (by have := zpr_lt hp; omega)
theorem v7 {σ σ' : zMem} {j : Nat} {v : Option yT} (hc : zcv σ j v) (hr : zrv σ' j v) : (if σ 4 j 7 = 0 then 0 else 1) = zg σ' j 7 := by
  cases v with
  | none =>
    have h1 : σ 4 j 7 = 1 := hc
    have h2 : zg σ' j 7 = 1 := hr
    rw [h1, h2, if_neg (by decide)]
  | some A =>
    rw [if_pos hc.1]
    exact hr.1.symm
theorem v7i {σ σ' : zMem} {j : Nat} {v : Option yT} (hc : zcv σ j v) (hr : zrv σ' j v) : ¬ σ 4 j 7 = 0 ↔ zg σ' j 7 = 1 := by
  rw [(zrv_01 hr).1, (zcv_01 hc).1]
  cases v <;> simp
theorem zsum_eq {f g : Nat → Int32} : ∀ m, (∀ j, j < m → f j = g j) → zsum f m = zsum g m
  | 0, _ => rfl
  | m + 1, h => by rw [zsum, zsum, zsum_eq m (fun j hj => h j (by omega)), h m (by omega)]
theorem zoff_pr {n : Int32} : zoff n ↔ ∃ p, zpr p ∧ n = nI p := by
  unfold zoff zpr
  constructor
  · rintro (h | h | h | h | h | h)
    · exact ⟨7, Or.inl rfl, h⟩
    · exact ⟨11, Or.inr (Or.inl rfl), h⟩
    · exact ⟨19, Or.inr (Or.inr (Or.inl rfl)), h⟩
    · exact ⟨23, Or.inr (Or.inr (Or.inr (Or.inl rfl))), h⟩
    · exact ⟨31, Or.inr (Or.inr (Or.inr (Or.inr (Or.inl rfl)))), h⟩
    · exact ⟨43, Or.inr (Or.inr (Or.inr (Or.inr (Or.inr rfl)))), h⟩
  · rintro ⟨p, h | h | h | h | h | h, e⟩ <;> subst h
    · exact Or.inl e
    · exact Or.inr (Or.inl e)
    · exact Or.inr (Or.inr (Or.inl e))
    · exact Or.inr (Or.inr (Or.inr (Or.inl e)))
    · exact Or.inr (Or.inr (Or.inr (Or.inr (Or.inl e))))
    · exact Or.inr (Or.inr (Or.inr (Or.inr (Or.inr e))))
theorem zopp_00 {p : Nat} (hp : zpr p) : zopp p 0 = 0 := by rcases hp with h | h | h | h | h | h <;> subst h <;> decide +kernel
theorem ag_begin {σ σ' : zMem} {τ τ' : zTmp} {n : Int32} (h : zRel σ σ') : zAg τ τ' (zcd 1 0 0) (m_X8_begin [zO 0 0, zI n] (σ, τ)) (m_X9_begin [zO 0 0, zI n] (σ', τ')) := by
  by_cases ho : zoff n
  · obtain ⟨p, m, mc, P, t, cl, ⟨hp, hm, hmc, hP, hT, hK⟩, ⟨⟨hF, hs, hr, h43, hob⟩, hv, hcl⟩, hR⟩ := h
    obtain ⟨q, hq, e⟩ := zoff_pr.mp ho
    have hl := zpr_lt hq
    have h9 : σ 9 0 0 = 0 := by rw [hF.2.1 0 (zpr_pos hp), zopp_00 hp]; rfl
    obtain ⟨zf, zk⟩ := zchs_ok (p := q) (σ := σ) hq h9
    refine Or.inl ⟨n * n, _, _, sp_begin.2 q e (by omega) hl.2 ho, rp_begin ho, ?_, q, 0, 0, P, t, cl, ⟨hq, by decide, by decide, fun j hj => by omega, fun j hj => by omega, fun k hk => by omega⟩, ⟨⟨?_, ?_, ?_, ?_, fun j hj => by omega⟩, fun j hj => by omega, ?_, fun k hk => by omega⟩, ⟨⟨?_, ?_, fun j hj => by omega⟩, fun j hj => by omega, ?_, fun k hk => by omega⟩⟩
    · unfold zbgS
      rw [zup_ne (fun q => by omega), zup_ne (fun q => by omega), zup_ne (fun q => by omega)]
      exact zt0_th
    · exact zField_of (fun k' j' g => (zup_ne (fun q => by omega)).trans (zup_ne (fun q => by omega))) zf
    · rw [zup_ne (fun q => by omega), zup_eq]; rfl
    · intro j hj
      rw [zup_ne (fun q => by omega), zup_ne (fun q => by omega), zk 4 j 0 (by decide) (by decide) (by decide)]
      exact hr j hj
    · exact ⟨by rw [zup_ne (fun q => by omega), zup_ne (fun q => by omega), zk 4 43 7 (by decide) (by decide) (by decide)]; exact h43.1, by rw [zup_ne (fun q => by omega), zup_ne (fun q => by omega), zk 4 43 11 (by decide) (by decide) (by decide)]; exact h43.2⟩
    · rw [zup_eq]; rfl
    · unfold zbgS
      rw [zup_ne (fun q => by omega), zup_ne (fun q => by omega), zup_eq]; exact e
    · unfold zbgS
      rw [zup_ne (fun q => by omega), zup_eq]; rfl
    · unfold zbgS
      rw [zup_eq]; rfl
  · exact ag_no h (by decide) rfl (by decide) (sp_begin.1 ho) (rp_begin_no ho)
theorem ag_inverse {σ σ' : zMem} {τ τ' : zTmp} {n : Int32} (h : zRel σ σ') : zAg τ τ' (zcd 1 0 0) (m_X8_inverse [zO 0 0, zI n] (σ, τ)) (m_X9_inverse [zO 0 0, zI n] (σ', τ')) := by
  obtain ⟨p, m, mc, P, t, cl, hS, hC, hR⟩ := id h
  have hp := hS.1
  have hl := zpr_lt hp
  have hF := hC.1.1
  have h1 := hR.1.1
  have hh := hasF_iff (o := n) hF.1 hp
  have zi : zin n 1 (σ' 0 0 1 - 1) ↔ ∃ j, j < p ∧ n = nI j ∧ 0 < j := by
    have a := zinp_iff (o := n) h1 hp
    unfold zin at a ⊢
    constructor
    · rintro ⟨g1, g2⟩
      have g0 : (0 : Int32) ≤ n := Int32.le_trans (by decide) g1
      obtain ⟨j, hj, e⟩ := a.mp ⟨g0, g2⟩
      refine ⟨j, hj, e, ?_⟩
      rcases Nat.eq_zero_or_pos j with z | z
      · subst z; subst e; exact absurd g1 (by decide)
      · exact z
    · rintro ⟨j, hj, e, z⟩
      have g := a.mpr ⟨j, hj, e⟩
      refine ⟨?_, g.2⟩
      subst e
      exact nI_le (a := 1) z (by omega)
  by_cases g : n = 0 ∨ ¬ zhasF σ n
  · have gn : ¬ zin n 1 (σ' 0 0 1 - 1) := by
      rw [zi]
      rintro ⟨j, hj, e, z⟩
      rcases g with g | g
      · rw [e] at g
        have := (nI_z0 (by omega)).mp g
        omega
      · exact g (hh.mpr ⟨j, hj, e⟩)
    exact ag_no h (by decide) rfl (by decide) (sp_inverse.1 g) (rp_inverse_no gn)
  · have g0 : ¬ n = 0 := fun q => g (Or.inl q)
    have gF : zhasF σ n := Classical.byContradiction fun q => g (Or.inr q)
    obtain ⟨j, hj, e⟩ := hh.mp gF
    subst e
    have j0 : 0 < j := Nat.pos_of_ne_zero fun q => g0 (by rw [q]; rfl)
    refine ag_is h ?_ (sp_inverse.2 g0 gF) (rp_inverse hp h1 j0 hj (zi.mpr ⟨j, hj, rfl, j0⟩))
    rw [nI_tab (by omega), hF.2.1 j hj]
theorem ag_root {σ σ' : zMem} {τ τ' : zTmp} {n : Int32} (h : zRel σ σ') : zAg τ τ' (zcd 1 0 0) (m_X8_root [zO 0 0, zI n] (σ, τ)) (m_X9_root [zO 0 0, zI n] (σ', τ')) := by
  obtain ⟨p, m, mc, P, t, cl, hS, hC, hR⟩ := id h
  have hp := hS.1
  have hl := zpr_lt hp
  have hF := hC.1.1
  have h1 := hR.1.1
  have hh := hasF_iff (o := n) hF.1 hp
  have zi := zinp_iff (o := n) h1 hp
  by_cases g : zhasF σ n
  · obtain ⟨j, hj, e⟩ := hh.mp g
    subst e
    refine ag_is h ?_ (sp_root.2 g) (rp_root hp h1 (zi.mpr ⟨j, hj, rfl⟩))
    have e1 : zrest (σ 3 0 0) (nI j) = nI j := cRn (σ := σ) hp hF hj
    rw [e1, nI_tab (by omega), hF.2.2 j hj, zrs_ok hp hj]
  · exact ag_no h (by decide) rfl (by decide) (sp_root.1 g) (rp_root_no (fun q => g (hh.mpr (zi.mp q))))
theorem ag_count {σ σ' : zMem} {τ τ' : zTmp} {n : Int32} (h : zRel σ σ') : zAg τ τ' (zcd 0 1 0) (m_X8_count [zO 0 0, zI n] (σ, τ)) (m_X9_count [zO 0 0, zI n] (σ', τ')) := by
  obtain ⟨p, m, mc, P, t, cl, ⟨hp, hm, hmc, hP, hT, hK⟩, hC, hR⟩ := id h
  have hs := hC.1.2.1
  have hs' := hR.1.2.1
  have ec := sp_count (n := n) (τ := τ) hs (show m ≤ 43 by omega)
  by_cases g : zin n 0 4
  · obtain ⟨w, hw, e⟩ := (zin_nI (n := 4) (by decide)).mp (show zin n 0 (nI 4) from g)
    subst e
    have er := rp_count (τ := τ') hs' hm hw g
    have zn : ∀ (w : Nat), zcn (zt0 σ') m w = if w = 0 then σ' 0 0 1 else if w = 1 then σ' 0 0 2 else if w = 2 then σ' 0 0 4 else zsum (fun o => if w = 3 then (if zg σ' o 1 = 0 then 1 else 0) else zg σ' o 7) m := by
      intro w
      unfold zcn
      rw [zt0_0 (by decide), zt0_0 (by decide), zt0_0 (by decide)]
      have : (fun o => if w = 3 then (if zg (zt0 σ') o 1 = 0 then 1 else 0) else zg (zt0 σ') o 7) = fun o => if w = 3 then (if zg σ' o 1 = 0 then (1 : Int32) else 0) else zg σ' o 7 := by funext o; rw [zt0_g, zt0_g]
      rw [this]
    rw [zn] at er
    have cases : w = 0 ∨ w = 1 ∨ w = 2 ∨ w = 3 ∨ w = 4 := by omega
    rcases cases with q | q | q | q | q <;> subst q
    · rw [if_pos (by decide)] at ec er
      exact ag_is h (by rw [hC.1.1.1, hR.1.1]) ec er
    · rw [if_neg (by decide), if_pos (by decide)] at ec er
      exact ag_is h hs'.symm ec er
    · rw [if_neg (by decide), if_neg (by decide), if_pos (by decide)] at ec er
      exact ag_is h (by rw [hC.2.2.1, hR.2.2.1]) ec er
    · rw [if_neg (by decide), if_neg (by decide), if_neg (by decide), if_pos (by decide)] at ec
      rw [if_neg (by decide), if_neg (by decide), if_neg (by decide)] at er
      refine ag_is h (zsum_eq m (fun j hj => ?_)) ec er
      rw [if_pos rfl, (hC.1.2.2.2.2 j hj).2.1, (hR.1.2.2 j hj).2.1]
    · rw [if_neg (by decide), if_neg (by decide), if_neg (by decide), if_neg (by decide), if_pos (by decide)] at ec
      rw [if_neg (by decide), if_neg (by decide), if_neg (by decide)] at er
      refine ag_is h (zsum_eq m (fun j hj => ?_)) ec er
      have e4 : (if 4 = 3 then (if zg σ' j 1 = 0 then (1 : Int32) else 0) else zg σ' j 7) = zg σ' j 7 := if_neg (by decide)
      exact (v7 (hC.2.1 j hj) (hR.2.1 j hj)).trans e4.symm
  · have ne : ∀ w : Nat, w ≤ 4 → ¬ n = nI w := fun w hw e => g ((zin_nI (n := 4) (by decide)).mpr ⟨w, hw, e⟩)
    have n0 : ¬ n = 0 := ne 0 (by decide)
    have n1 : ¬ n = 1 := ne 1 (by decide)
    have n2 : ¬ n = 2 := ne 2 (by decide)
    have n3 : ¬ n = 3 := ne 3 (by decide)
    have n4 : ¬ n = 4 := ne 4 (by decide)
    rw [if_neg n0, if_neg n1, if_neg n2, if_neg n3, if_neg n4] at ec
    exact ag_no h (by decide) rfl (by decide) ec (rp_count_no g)
theorem zin_cl {n : Int32} {k : Nat} (hk : k < 100) : ¬ (n < 0 ∨ nI k < n) ↔ zin n 0 (nI k) := by
  unfold zin
  constructor
  · intro h
    exact ⟨Int32.not_lt.mp (fun q => h (Or.inl q)), Int32.not_lt.mp (fun q => h (Or.inr q))⟩
  · rintro ⟨h1, h2⟩ (g | g)
    · exact absurd g (Int32.not_lt.mpr h1)
    · exact absurd g (Int32.not_lt.mpr h2)
theorem ag_object {σ σ' : zMem} {τ τ' : zTmp} {o n : Int32} (h : zRel σ σ') : zAg τ τ' (zcd 0 1 0) (m_X8_object [zO 0 0, zI o, zI n] (σ, τ)) (m_X9_object [zO 0 0, zI o, zI n] (σ', τ')) := by
  obtain ⟨p, m, mc, P, t, cl, ⟨hp, hm, hmc, hP, hT, hK⟩, hC, hR⟩ := id h
  have hs := hC.1.2.1
  have hs' := hR.1.2.1
  have h1 := hasR_iff (o := o) hs hm
  have h2 := zob_iff (o := o) hs' hm
  have h3 := zin_cl (n := n) (k := 5) (by decide)
  by_cases g1 : zhasR σ o
  · by_cases g2 : zin n 0 (nI 5)
    · obtain ⟨j, hj, e⟩ := h1.mp g1
      subst e
      have hn := h3.mpr g2
      obtain ⟨w, hw, e⟩ := (zin_nI (n := 5) (by decide)).mp g2
      subst e
      refine ag_is h ?_ (sp_object_2 g1 (fun q => hn (Or.inl q)) (Int32.not_lt.mp (fun q => hn (Or.inr q)))) (rp_object_2 (by omega) (by omega) (h2.mpr ⟨j, hj, rfl⟩) g2)
      rw [zat_in hs (by omega) hj]
      obtain ⟨_, c1, c2, _, _⟩ := hC.1.2.2.2.2 j hj
      obtain ⟨r0, r1, r2, _, _⟩ := hR.1.2.2 j hj
      have cases : w = 0 ∨ w = 1 ∨ w = 2 ∨ w = 3 ∨ w = 4 ∨ w = 5 := by omega
      rcases cases with q | q | q | q | q | q <;> subst q
      · show zsort (σ 4 j 1) = zg σ' j 0
        rw [c1, r0]
      · show σ 4 j 1 = zg σ' j 1
        rw [c1, r1]
      · show σ 4 j (2 + 0) = zg σ' j (2 + 0)
        rw [c2 0 (by decide), r2 0 (by decide)]
      · show σ 4 j (2 + 1) = zg σ' j (2 + 1)
        rw [c2 1 (by decide), r2 1 (by decide)]
      · show σ 4 j (2 + 2) = zg σ' j (2 + 2)
        rw [c2 2 (by decide), r2 2 (by decide)]
      · exact v7 (hC.2.1 j hj) (hR.2.1 j hj)
    · exact ag_no h (by decide) rfl (by decide) (sp_object_1 (Or.inr (Classical.byContradiction fun q => g2 (h3.mp q)))) (rp_object_1 (fun q => g2 q.2))
  · exact ag_no h (by decide) rfl (by decide) (sp_object_1 (Or.inl g1)) (rp_object_1 (fun q => g1 (h1.mpr (h2.mp q.1))))
theorem ag_number {σ σ' : zMem} {τ τ' : zTmp} {o n : Int32} (h : zRel σ σ') : zAg τ τ' (zcd 0 1 2) (m_X8_number [zO 0 0, zI o, zI n] (σ, τ)) (m_X9_number [zO 0 0, zI o, zI n] (σ', τ')) := by
  obtain ⟨p, m, mc, P, t, cl, ⟨hp, hm, hmc, hP, hT, hK⟩, hC, hR⟩ := id h
  have hs := hC.1.2.1
  have hs' := hR.1.2.1
  have h1 := hasR_iff (o := o) hs hm
  have h2 := zob_iff (o := o) hs' hm
  have h3 := zin_cl (n := n) (k := 2) (by decide)
  by_cases g1 : zhasR σ o
  · by_cases g2 : zin n 0 (nI 2)
    · obtain ⟨j, hj, e⟩ := h1.mp g1
      subst e
      have hn := h3.mpr g2
      have n1 : ¬ n < 0 := fun q => hn (Or.inl q)
      have n2 : n ≤ 2 := Int32.not_lt.mp (fun q => hn (Or.inr q))
      have hz := zat_in hs (by omega) hj
      have hv := hC.2.1 j hj
      have hr := hR.2.1 j hj
      have ho := h2.mpr ⟨j, hj, rfl⟩
      by_cases g7 : σ 4 j 7 = 0
      · obtain ⟨w, hw, e⟩ := (zin_nI (n := 2) (by decide)).mp g2
        subst e
        refine ag_is h ?_ (sp_number_3 g1 n1 n2 (by rw [hz]; exact g7)) (rp_number_3 (by omega) (by omega) ho g2 (fun q => (v7i hv hr).mpr q g7))
        rw [hz]
        obtain ⟨A, eA⟩ := Option.ne_none_iff_exists'.mp ((zcv_01 hv).1.mp g7)
        rw [eA] at hv hr
        obtain ⟨_, v1, v2, v3⟩ := hv
        obtain ⟨_, u1, u2, u3⟩ := hr
        have cases : w = 0 ∨ w = 1 ∨ w = 2 := by omega
        rcases cases with q | q | q <;> subst q
        · show σ 4 j 8 = zg σ' j 8
          rw [v1, u1]
        · show σ 4 j 9 = zg σ' j 9
          rw [v2, u2]
        · show σ 4 j 10 = zg σ' j 10
          rw [v3, u3]
      · exact ag_no h (by decide) rfl (by decide) (sp_number_2 g1 n1 n2 (by rw [hz]; exact g7)) (rp_number_2 (by omega) ho g2 ((v7i hv hr).mp g7))
    · exact ag_no h (by decide) rfl (by decide) (sp_number_1 (Or.inr (Classical.byContradiction fun q => g2 (h3.mp q)))) (rp_number_1 (fun q => g2 q.2))
  · exact ag_no h (by decide) rfl (by decide) (sp_number_1 (Or.inl g1)) (rp_number_1 (fun q => g1 (h1.mpr (h2.mp q.1))))
theorem ag_places {σ σ' : zMem} {τ τ' : zTmp} {o : Int32} (h : zRel σ σ') : zAg τ τ' (zcd 0 1 0) (m_X8_places [zO 0 0, zI o] (σ, τ)) (m_X9_places [zO 0 0, zI o] (σ', τ')) := by
  obtain ⟨p, m, mc, P, t, cl, ⟨hp, hm, hmc, hP, hT, hK⟩, hC, hR⟩ := id h
  have hs := hC.1.2.1
  have hs' := hR.1.2.1
  have h1 := hasR_iff (o := o) hs hm
  have h2 := zob_iff (o := o) hs' hm
  by_cases g1 : zhasR σ o
  · obtain ⟨j, hj, e⟩ := h1.mp g1
    subst e
    refine ag_is h ?_ (sp_places_2 g1) (rp_places_2 (by omega) (h2.mpr ⟨j, hj, rfl⟩))
    rw [zat_in hs (by omega) hj, (hC.1.2.2.2.2 j hj).2.1, (hR.1.2.2 j hj).1, hC.1.1.1, hR.1.1]
    have v := v7i (hC.2.1 j hj) (hR.2.1 j hj)
    by_cases g7 : σ 4 j 7 = 0
    · rw [if_pos g7, if_neg (fun q => v.mpr q g7)]
    · rw [if_neg g7, if_pos (v.mp g7)]
  · exact ag_no h (by decide) rfl (by decide) (sp_places_1 g1) (rp_places_1 (fun q => g1 (h1.mpr (h2.mp q))))
theorem ag_square {σ σ' : zMem} {τ τ' : zTmp} {a b : Int32} (h : zRel σ σ') : zAg τ τ' (zcd 0 1 2) (m_X8_square [zO 0 0, zI a, zI b] (σ, τ)) (m_X9_square [zO 0 0, zI a, zI b] (σ', τ')) := by
  obtain ⟨p, m, mc, P, t, cl, ⟨hp, hm, hmc, hP, hT, hK⟩, hC, hR⟩ := id h
  have hs := hC.1.2.1
  have hs' := hR.1.2.1
  have a1 := hasR_iff (o := a) hs hm
  have a2 := zob_iff (o := a) hs' hm
  have b1 := hasR_iff (o := b) hs hm
  have b2 := zob_iff (o := b) hs' hm
  by_cases g : zhasR σ a ∧ zhasR σ b
  · obtain ⟨ga, gb⟩ := g
    obtain ⟨i, hi, e⟩ := a1.mp ga
    subst e
    obtain ⟨j, hj, e⟩ := b1.mp gb
    subst e
    have zi := zat_in hs (by omega) hi
    have zj := zat_in hs (by omega) hj
    have vi := v7i (hC.2.1 i hi) (hR.2.1 i hi)
    have vj := v7i (hC.2.1 j hj) (hR.2.1 j hj)
    have hq : zsqP σ (nI i) (nI j) ↔ zsqR σ' i j := by
      unfold zsqP zsqR
      rw [zi, zj, (hC.1.2.2.2.2 i hi).2.1, (hC.1.2.2.2.2 j hj).2.1, (hR.1.2.2 i hi).1, (hR.1.2.2 j hj).1, ← vi, ← vj, Classical.not_not, Classical.not_not]
    by_cases gq : zsqP σ (nI i) (nI j)
    · refine ag_is h ?_ (sp_square_3 ga gb gq) (rp_square_3 (zp_ne hp hR.1.1) (by omega) (by omega) (a2.mpr ⟨i, hi, rfl⟩) (b2.mpr ⟨j, hj, rfl⟩) (hq.mp gq))
      obtain ⟨_, _, g3, g4⟩ := gq
      rw [zi] at g3
      rw [zj] at g4
      rw [zi, zj]
      have ci := hC.2.1 i hi
      have cj := hC.2.1 j hj
      have ri := hR.2.1 i hi
      have rj := hR.2.1 j hj
      obtain ⟨A, eA⟩ := Option.ne_none_iff_exists'.mp ((zcv_01 ci).1.mp g3)
      obtain ⟨B, eB⟩ := Option.ne_none_iff_exists'.mp ((zcv_01 cj).1.mp g4)
      have oA := yval_ok hp hP hi eA
      have oB := yval_ok hp hP hj eB
      rw [eA] at ci ri
      rw [eB] at cj rj
      rw [c_sq hp hC.1.1 ci.2 oA.1 cj.2 oB.1, r_sq hp hR.1.1 ri.2 oA.1 rj.2 oB.1]
    · exact ag_no h (by decide) rfl (by decide) (sp_square_2 ga gb gq) (rp_square_2 (by omega) (by omega) (a2.mpr ⟨i, hi, rfl⟩) (b2.mpr ⟨j, hj, rfl⟩) (fun q => gq (hq.mpr q)))
  · exact ag_no h (by decide) rfl (by decide) (sp_square_1 g) (rp_square_1 (fun q => g ⟨a1.mpr (a2.mp q.1), b1.mpr (b2.mp q.2)⟩))
/-! verdicts in a state -/
theorem zCv_of {p m mc k : Nat} {P : yP} {t : yTo} {cl : yCl} {σ : zMem} (hp : zpr p) (hm : m ≤ 40) (hP : yPok m P) (hK : yCok m mc P cl) (hk : k < mc) (hF : zField σ p) (hs : σ 5 0 2 = nI m) (h43 : σ 4 43 7 = 0) (hv : ∀ i q, i < 4 → cl.2 k i = some q → zcv σ q (yval p P t q)) : zCv p m (yval p P t) (cl.1 k) (cl.2 k) σ := by
  obtain ⟨h8, ho⟩ := hK k hk
  refine ⟨hF, hs, h43, h8, fun i hi => ⟨fun g => ?_, (ho i hi).2⟩⟩
  obtain ⟨q, e, l, f⟩ := (ho i hi).1 g
  refine ⟨q, e, l, hv i q hi e, fun A hA => ?_⟩
  have ok := yval_ok hp hP l hA
  exact ⟨ok.1, fun h7 => ok.2 (f h7).1 (f h7).2⟩
theorem zRv_of {p m mc k : Nat} {P : yP} {t : yTo} {cl : yCl} {σ : zMem} (hp : zpr p) (hP : yPok m P) (hK : yCok m mc P cl) (hk : k < mc) (h1 : σ 0 0 1 = nI p) (hv : ∀ j, j < m → zrv σ j (yval p P t j)) : zRv p m (yval p P t) (cl.1 k) (cl.2 k) σ := by
  obtain ⟨h8, ho⟩ := hK k hk
  refine ⟨h1, h8, fun i hi => ⟨fun g => ?_, (ho i hi).2⟩⟩
  obtain ⟨q, e, l, f⟩ := (ho i hi).1 g
  refine ⟨q, e, l, hv q l, fun A hA => ?_⟩
  have ok := yval_ok hp hP l hA
  exact ⟨ok.1, fun h7 => ok.2 (f h7).1 (f h7).2⟩
theorem c_ver {p m mc k : Nat} {P : yP} {t : yTo} {cl : yCl} {σ : zMem} {τ : zTmp} (hS : zSt p m mc P t cl) (hC : zSC p m mc P t cl σ) (hk : k < mc) : ∃ σ', m_X8_verdict [zO 0 0, zO 16 k] (σ, τ) = some (.inl (some (zI (yver p (yval p P t) (cl.1 k) (cl.2 k)))), (σ', τ)) ∧ zSC p m mc P t cl σ' := by
  obtain ⟨hp, hm, hmc, hP, hT, hK⟩ := hS
  obtain ⟨hB, hv, h7, hc⟩ := hC
  obtain ⟨c1, c2⟩ := hc k hk
  obtain ⟨σ', e, h14⟩ := c_verdict (τ := τ) hp (show m ≤ 43 by omega) (show k < 21 by omega) (zCv_of (t := t) hp hm hP hK hk hB.1 hB.2.1 hB.2.2.2.1.1 (fun i q hi hq => hv q (by
    obtain ⟨_, ho⟩ := hK k hk
    by_cases g : i < zna (cl.1 k)
    · obtain ⟨q', e, l, _⟩ := (ho i hi).1 g
      rw [hq] at e
      have := Option.some.inj e
      omega
    · rw [(ho i hi).2 (by omega)] at hq
      exact absurd hq (by simp)))) c1 c2
  exact ⟨σ', e, zSC_14 (by omega) h14 ⟨hB, hv, h7, hc⟩⟩
theorem r_ver {p m mc k : Nat} {P : yP} {t : yTo} {cl : yCl} {σ : zMem} {τ : zTmp} (hS : zSt p m mc P t cl) (hR : zSR p m mc P t cl σ) (hk : k < mc) : ∃ σ', m_X9_verdict [zO 0 0, zI (nI k)] (σ, τ) = some (.inl (some (zI (yver p (yval p P t) (cl.1 k) (cl.2 k)))), (σ', τ)) ∧ zL3 σ σ' := by
  obtain ⟨hp, hm, hmc, hP, hT, hK⟩ := hS
  obtain ⟨hB, hv, h4, hc⟩ := hR
  obtain ⟨c1, c2⟩ := hc k hk
  exact r_verdict (τ := τ) hp hm (by omega) (zRv_of hp hP hK hk hB.1 hv) c1 c2
theorem ag_holds {σ σ' : zMem} {τ τ' : zTmp} {n : Int32} (h : zRel σ σ') : zAg τ τ' (zcd 0 1 0) (m_X8_holds [zO 0 0, zI n] (σ, τ)) (m_X9_holds [zO 0 0, zI n] (σ', τ')) := by
  obtain ⟨p, m, mc, P, t, cl, hS, hC, hR⟩ := id h
  have hmc := hS.2.2.1
  have h1 := hasC_iff (o := n) hC.2.2.1 hmc
  have h2 := zcm_iff (o := n) hR.2.2.1 hmc
  by_cases g : zhasC σ n
  · obtain ⟨k, hk, e⟩ := h1.mp g
    subst e
    obtain ⟨σ1, e1, hC1⟩ := c_ver (τ := τ) hS hC hk
    obtain ⟨σ2, e2, hL⟩ := r_ver (τ := τ') hS (zSR_t0 hR) hk
    refine Or.inl ⟨_, σ1, σ2, sp_holds_2 g (by rw [zclat_in hC.2.2.1 hmc hk]; exact e1), rp_holds_2 (h2.mpr ⟨k, hk, rfl⟩) e2, ?_, p, m, mc, P, t, cl, hS, hC1, zSR_L3 hL (zSR_t0 hR)⟩
    rw [zL3_0 hL]
    exact zt0_th
  · exact ag_no h (by decide) rfl (by decide) (sp_holds_1 g) (rp_holds_1 (fun q => g (h1.mpr (h2.mp q))))
