/-! ===== make ===== -/
def zwayB (w : Nat) : Bool := decide ((1 : Int32) < nI w) && decide (nI w ≤ 22) && !decide (zent 0 (3 * nI w) = -1)
def ywyB (w : Nat) : Bool := (decide (w < 9) || decide (10 ≤ w ∧ w < 14) || decide (20 ≤ w ∧ w < 23)) && decide (2 ≤ w)
theorem mk_way : ∀ w : Fin 23, zwayB w.1 = ywyB w.1 := by decide +kernel
def zneB (w : Nat) : Bool := decide ((2 : Int32) ≤ nI w) && decide (nI w ≤ 22) && decide (0 ≤ zne w)
theorem mk_ne : ∀ w : Fin 23, zneB w.1 = ywyB w.1 := by decide +kernel
theorem mk_dg : ∀ w : Fin 23, ywyB w.1 = false ∨ (zdgt (zne w.1) (zp3 0) = zent 0 (3 * nI w.1) + 1 ∧ zdgt (zne w.1) (zp3 1) = zent 0 (3 * nI w.1 + 1) + 1 ∧ zdgt (zne w.1) (zp3 2) = zent 0 (3 * nI w.1 + 2) + 1 ∧ zent 0 (3 * nI w.1) ≠ -1 ∧ zent 0 (3 * nI w.1 + 1) ≠ -1 ∧ (zent 0 (3 * nI w.1 + 2) = -1 ↔ w.1 < 21) ∧ zent 0 (3 * nI w.1) ≠ 3 ∧ zent 0 (3 * nI w.1 + 1) ≠ 3 ∧ zent 0 (3 * nI w.1 + 2) ≠ 3 ∧ (zne w.1 - zne w.1 / 10 * 10 = 0 ↔ w.1 < 21) ∧ (w.1 = 2 ∨ w.1 = 3 ∨ w.1 = 4 → zent 0 (3 * nI w.1) = 1) ∧ (w.1 = 2 ∨ w.1 = 8 ∨ w.1 = 11 ∨ w.1 = 12 → zent 0 (3 * nI w.1 + 1) = 1)) := by decide +kernel
theorem ywyB_iff {w : Nat} : ywyB w = true ↔ ywy w ∧ 2 ≤ w := by
  unfold ywyB ywy
  simp only [Bool.and_eq_true, Bool.or_eq_true, decide_eq_true_eq]
  constructor
  · rintro ⟨(h | h) | h, h2⟩
    · exact ⟨Or.inl h, h2⟩
    · exact ⟨Or.inr (Or.inl h), h2⟩
    · exact ⟨Or.inr (Or.inr h), h2⟩
  · rintro ⟨h | h | h, h2⟩
    · exact ⟨Or.inl (Or.inl h), h2⟩
    · exact ⟨Or.inl (Or.inr h), h2⟩
    · exact ⟨Or.inr h, h2⟩
theorem in_of {w : Int32} (h1 : (0 : Int32) ≤ w) (h2 : w ≤ 22) : ∃ n : Nat, n < 23 ∧ w = nI n := by
  obtain ⟨j, hj, e⟩ := (zin_nI (n := 22) (by decide)).mp (show zin w 0 (nI 22) from ⟨h1, h2⟩)
  exact ⟨j, by omega, e⟩
theorem zway_iff {w : Int32} : zway w ↔ ∃ n : Nat, n < 23 ∧ w = nI n ∧ ywyB n = true := by
  constructor
  · intro h
    obtain ⟨n, hn, e⟩ := in_of (Int32.le_trans (by decide) (Int32.le_of_lt h.1)) h.2.1
    refine ⟨n, hn, e, ?_⟩
    have m := mk_way ⟨n, hn⟩
    rw [← m]
    subst e
    unfold zwayB
    simp only [Bool.and_eq_true, decide_eq_true_eq, Bool.not_eq_true', decide_eq_false_iff_not]
    exact ⟨⟨h.1, h.2.1⟩, h.2.2⟩
  · rintro ⟨n, hn, e, hb⟩
    have m := mk_way ⟨n, hn⟩
    rw [hb] at m
    unfold zwayB at m
    simp only [Bool.and_eq_true, decide_eq_true_eq, Bool.not_eq_true', decide_eq_false_iff_not] at m
    subst e
    exact ⟨m.1.1, m.1.2, m.2⟩
theorem zne_iff {n : Nat} (hn : n < 23) : (zin (nI n) 2 22 ∧ 0 ≤ zne n) ↔ ywyB n = true := by
  rw [← mk_ne ⟨n, hn⟩]
  unfold zneB zin
  simp only [Bool.and_eq_true, decide_eq_true_eq]
theorem fit_ao {m mc p : Nat} {P : yP} {t : yTo} {cl : yCl} {σ σ' : zMem} {o e dg : Int32} (hm : m ≤ 40) (hC : zSC p m mc P t cl σ) (hR : zSR p m mc P t cl σ') (hd : dg = e + 1) (h3 : e ≠ 3) (ho : e ≠ -1 → ∃ i, i < m ∧ o = nI i) : zfits σ o e ↔ ((dg = 0 → o = 0) ∧ (∀ q, ¬ dg = 0 → o = nI q → q < 40 → zg (zt0 σ') q 0 = dg - 1)) := by
  have d1 : dg - 1 = e := by rw [hd]; exact Int32.add_sub_cancel e 1
  have d0 : dg = 0 ↔ e = -1 := by
    constructor
    · intro g; rw [← d1, g]; decide
    · intro g; rw [hd, g]; decide
  unfold zfits
  rw [d1, d0]
  by_cases g : e = -1
  · rw [if_pos g]
    exact ⟨fun h => ⟨fun _ => h, fun q h' => absurd g h'⟩, fun h => h.1 g⟩
  · rw [if_neg g]
    obtain ⟨i, hi, eo⟩ := ho g
    subst eo
    rw [zat_in hC.1.2.1 (by omega) hi, (hC.1.2.2.2.2 i hi).2.1]
    constructor
    · rintro (h | h)
      · exact absurd h h3
      · refine ⟨fun q => absurd q g, fun q _ hq hq40 => ?_⟩
        have : i = q := nI_inj' (by omega) (by omega) hq
        subst this
        rw [zt0_g, (hR.1.2.2 i hi).1]
        exact h
    · rintro ⟨_, h⟩
      have := h i g rfl (by omega)
      rw [zt0_g, (hR.1.2.2 i hi).1] at this
      exact Or.inr this
theorem ag_make {σ σ' : zMem} {τ τ' : zTmp} {w a b c : Int32} (h : zRel σ σ') : zAg τ τ' (zcd 1 2 3) (m_X8_make [zO 0 0, zI w, zI a, zI b, zI c] (σ, τ)) (m_X9_make [zO 0 0, zI w, zI a, zI b, zI c] (σ', τ')) := by
  obtain ⟨p, m, mc, P, t, cl, hS, hC, hR⟩ := id h
  obtain ⟨hp, hm, hmc, hP, hT, hK⟩ := id hS
  have hs := hC.1.2.1
  have hs' := hR.1.2.1
  have hr : ∀ o, zhasR σ o ↔ zob σ' o := fun o => (hasR_iff hs hm).trans (zob_iff hs' hm).symm
  by_cases hw : zway w
  · obtain ⟨n, hn, ew, hb⟩ := zway_iff.mp hw
    subst ew
    obtain ⟨hy, h2⟩ := ywyB_iff.mp hb
    obtain ⟨hz, hne⟩ := (zne_iff hn).mpr hb
    have mk := mk_dg ⟨n, hn⟩
    dsimp only at mk
    rcases mk with g | ⟨d0, d1, d2, e0, e1, e2, f0, f1, f2, e3, l0, l1⟩
    · exact absurd (hb.symm.trans g) (by decide)
    have th : zthr3 n ↔ 21 ≤ n := by
      unfold zthr3
      rw [e3]
      exact Nat.not_lt
    have tT : zmkT σ (nI n) a b c ↔ zmrT σ' n a b c := by
      unfold zmkT zmrT zthere
      rw [hr, hr, hr, th]
      constructor
      · rintro ⟨g0, g1, g2⟩
        exact ⟨g0.elim (fun q => absurd q e0) id, g1.elim (fun q => absurd q e1) id, fun q => g2.elim (fun z => by have := e2.mp z; omega) id⟩
      · rintro ⟨g0, g1, g2⟩
        refine ⟨Or.inr g0, Or.inr g1, ?_⟩
        by_cases z : n < 21
        · exact Or.inl (e2.mpr z)
        · exact Or.inr (g2 (by omega))
    by_cases hTT : zmkT σ (nI n) a b c
    · obtain ⟨ga, gb, gc⟩ := tT.mp hTT
      obtain ⟨ia, hia, ea⟩ := (zob_iff hs' hm).mp ga
      obtain ⟨ib, hib, eb⟩ := (zob_iff hs' hm).mp gb
      have gc' : 21 ≤ n → ∃ ic, ic < m ∧ c = nI ic := fun q => (zob_iff hs' hm).mp (gc (th.mpr q))
      have hob : ∀ k, k < 3 → ¬ zdgt (zne n) (zp3 k) = 0 → ∃ q, q < 40 ∧ zrw3 a b c k = nI q := by
        intro k hk hd
        have : k = 0 ∨ k = 1 ∨ k = 2 := by omega
        rcases this with g | g | g <;> subst g
        · exact ⟨ia, by omega, ea⟩
        · exact ⟨ib, by omega, eb⟩
        · have : ¬ n < 21 := fun q => hd (by rw [d2, e2.mpr q]; decide)
          obtain ⟨ic, hic, ec⟩ := gc' (by omega)
          exact ⟨ic, by omega, ec⟩
      have a0 := fit_ao (o := a) hm hC hR d0 f0 (fun _ => ⟨ia, hia, ea⟩)
      have a1 := fit_ao (o := b) hm hC hR d1 f1 (fun _ => ⟨ib, hib, eb⟩)
      have a2 := fit_ao (o := c) hm hC hR d2 f2 (fun q => gc' (by have : ¬ n < 21 := fun z => q (e2.mpr z); omega))
      have fF : zmkF σ (nI n) a b c ↔ zmrS σ' n a b c := by
        unfold zmkF zmrS
        rw [a0, a1, a2]
        constructor
        · rintro ⟨g0, g1, g2⟩ k hk
          have : k = 0 ∨ k = 1 ∨ k = 2 := by omega
          rcases this with g | g | g <;> subst g
          · exact g0
          · exact g1
          · exact g2
        · intro g
          exact ⟨g 0 (by decide), g 1 (by decide), g 2 (by decide)⟩
      by_cases hFF : zmkF σ (nI n) a b c
      · by_cases h40 : 40 ≤ m
        · have e40 : m = 40 := by omega
          exact ag_no h (by decide) rfl (by decide) (sp_make_4 hw hTT hFF hs h40 (by omega)) (rp_make_3 hn hz hne (tT.mp hTT) hob (fun q => q.2 (by rw [hs', e40]; rfl)))
        · obtain ⟨qs, q0, q1, q2, q2'⟩ : ∃ qs : Nat → Option Nat, qs 0 = some ia ∧ qs 1 = some ib ∧ (n < 21 → qs 2 = none) ∧ (21 ≤ n → ∃ ic, qs 2 = some ic ∧ ic < m ∧ c = nI ic) := by
            by_cases g : n < 21
            · exact ⟨fun k => if k = 0 then some ia else if k = 1 then some ib else none, rfl, rfl, fun _ => rfl, fun q => by omega⟩
            · obtain ⟨ic, hic, ec⟩ := gc' (by omega)
              exact ⟨fun k => if k = 0 then some ia else if k = 1 then some ib else some ic, rfl, rfl, fun q => absurd q g, fun _ => ⟨ic, rfl, hic, ec⟩⟩
          have sA : n = 1 ∨ n = 2 ∨ n = 3 ∨ n = 4 → 10 ≤ P.1 ia ∧ P.1 ia < 20 := by
            intro q
            have l := l0 (by omega)
            have f := hFF.1
            unfold zfits at f
            rw [if_neg e0, ea, zat_in hs (by omega) hia, (hC.1.2.2.2.2 ia hia).2.1] at f
            have f := f.elim (fun z => absurd z f0) id
            rw [l] at f
            exact (zsort_1 (hP ia hia).1).mp f
          have sB : n = 2 ∨ n = 8 ∨ n = 11 ∨ n = 12 → 10 ≤ P.1 ib ∧ P.1 ib < 20 := by
            intro q
            have l := l1 q
            have f := hFF.2.1
            unfold zfits at f
            rw [if_neg e1, eb, zat_in hs (by omega) hib, (hC.1.2.2.2.2 ib hib).2.1] at f
            have f := f.elim (fun z => absurd z f1) id
            rw [l] at f
            exact (zsort_1 (hP ib hib).1).mp f
          have hP' : yPok (m + 1) (yNp P m n qs) := yPok_next hP hy ⟨fun q => by omega, fun _ => ⟨ia, q0, hia, sA⟩⟩ ⟨fun q => by omega, fun _ => ⟨ib, q1, hib, sB⟩⟩ ⟨q2, fun q => by obtain ⟨ic, e, l, _⟩ := q2' q; exact ⟨ic, e, l⟩⟩
          have em : (yNp P m n qs).1 m = n := if_pos rfl
          have em2 : (yNp P m n qs).2 m = qs := if_pos rfl
          have hN : yNx p m mc P t cl (yNp P m n qs) t := by
            have n1 : ∀ j, j < m → (yNp P m n qs).1 j = P.1 j := fun j hj => if_neg (by omega)
            refine ⟨n1, fun j hj => if_neg (by omega), fun j hj => rfl, hp, by omega, hmc, hP', fun j hj => ?_, yCok_next hK n1⟩
            rcases Nat.eq_or_lt_of_le (Nat.le_of_lt_succ hj) with g | g
            · subst g
              rw [em]
              exact ⟨fun q => by omega, fun q => by omega⟩
            · rw [n1 j g]
              exact hT j g
          have e2c : (if zent 0 (3 * nI n + 2) = -1 then -1 else c) = yq (qs 2) := by
            by_cases g : n < 21
            · rw [if_pos (e2.mpr g), q2 g]; rfl
            · obtain ⟨ic, e, _, ec⟩ := q2' (by omega)
              rw [if_neg (fun z => g (e2.mp z)), e]; exact ec
          obtain ⟨σ1, ec, hC1, hrk⟩ := c_app (τ := τ) (σ1 := zmk σ m (nI n) a b (if zent 0 (3 * nI n + 2) = -1 then -1 else c)) hS hC hN
            (fun k i j g1 g2 => by
              unfold zmk
              rw [zup_ne (fun q => g2 (by omega)), zup_ne (fun q => g2 (by omega)), zup_ne (fun q => g2 (by omega)), zup_ne (fun q => g2 (by omega)), zup_ne (fun q => g1 q)])
            (by
              unfold zmk
              rw [zup_ne (fun q => by omega), zup_ne (fun q => by omega), zup_ne (fun q => by omega), zup_ne (fun q => by omega), zup_eq])
            (by
              rw [em]
              unfold zmk
              rw [zup_ne (fun q => by omega), zup_ne (fun q => by omega), zup_ne (fun q => by omega), zup_eq])
            (fun k hk => by
              rw [em2]
              have : k = 0 ∨ k = 1 ∨ k = 2 := by omega
              unfold zmk
              rcases this with g | g | g <;> subst g
              · rw [zup_ne (fun q => by omega), zup_ne (fun q => by omega), zup_eq, q0]; exact ea
              · rw [zup_ne (fun q => by omega), zup_eq, q1]; exact eb
              · rw [zup_eq]; exact e2c)
            (fun g => by rw [em] at g; omega) (fun g => by rw [em] at g; omega)
          have addE : ∀ c', c' = yq (qs 2) → ∃ σ2, m_X9_add [zO 0 0, zI (zsort (nI n)), zI (nI n), zI a, zI b, zI c', zI 0, zI 0] (zt0 σ', τ' ++ [(3, zrw3 a b c)]) = some (.inl (some (zI (nI m))), (σ2, τ' ++ [(3, zrw3 a b c)])) ∧ zSR p (m + 1) mc (yNp P m n qs) t cl σ2 ∧ σ2 0 0 0 = zt0 σ' 0 0 0 := fun c' ec' => r_app hS (zSR_t0 hR) hN (by rw [em]) (by rw [em]) (by rw [em2, q0]; exact ea) (by rw [em2, q1]; exact eb) (by rw [em2]; exact ec') (fun g => by rw [em] at g; omega) (fun g => by rw [em] at g; omega)
          obtain ⟨σ2, er, hR1, hth⟩ := addE (yq (qs 2)) rfl
          have n40 : ¬ σ' 0 0 2 = 40 := by rw [hs']; exact nI_nq (b := 40) (by omega) (by decide) (by omega)
          refine Or.inl ⟨nI m, σ1, σ2, ?_, rp_make_5 hn hz hne (tT.mp hTT) hob (fF.mp hFF) n40 (fun c' g1 g2 => ?_), hth.trans zt0_th, p, m + 1, mc, _, _, cl, hN.2.2.2, hC1, hR1⟩
          · have e5 := sp_make_5 hw hTT hFF hs (by omega) ec
            rw [hrk] at e5
            exact e5
          · have : c' = yq (qs 2) := by
              by_cases g : n < 21
              · rw [q2 g]; exact g2 (fun q => by have := th.mp q; omega)
              · obtain ⟨ic, e, _, ec⟩ := q2' (by omega)
                rw [e, g1 (th.mpr (by omega))]; exact ec
            rw [this]
            exact er
      · exact ag_no h (by decide) rfl (by decide) (sp_make_3 hw hTT hFF) (rp_make_3 hn hz hne (tT.mp hTT) hob (fun q => hFF (fF.mpr q.1)))
    · exact ag_no h (by decide) rfl (by decide) (sp_make_2 hw hTT) (rp_make_2 hn hz hne (fun q => hTT (tT.mpr q)))
  · by_cases hz : zin w 2 22
    · obtain ⟨n, hn, ew⟩ := in_of (Int32.le_trans (by decide) hz.1) hz.2
      subst ew
      exact ag_no h (by decide) rfl (by decide) (sp_make_1 hw) (rp_make_1' hn hz (fun q => hw (zway_iff.mpr ⟨n, hn, rfl, (zne_iff hn).mp ⟨hz, q⟩⟩)))
    · exact ag_no h (by decide) rfl (by decide) (sp_make_1 hw) (rp_make_1 hz)
