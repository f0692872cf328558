/-! ===== move ===== -/
theorem ag_move {σ σ' : zMem} {τ τ' : zTmp} {o x y : Int32} (h : zRel σ σ') : zAg τ τ' (zcd 2 1 3) (m_X8_move [zO 0 0, zI o, zI x, zI y] (σ, τ)) (m_X9_move [zO 0 0, zI o, zI x, zI y] (σ', τ')) := by
  obtain ⟨p, m, mc, P, t, cl, hS, hC, hR⟩ := id h
  obtain ⟨hp, hm, hmc, hP, hT, hK⟩ := id hS
  have hs := hC.1.2.1
  have hs' := hR.1.2.1
  have h1 := hasR_iff (o := o) hs hm
  have h2 := zob_iff (o := o) hs' hm
  have fx := hasF_iff (o := x) hC.1.1.1 hp
  have fy := hasF_iff (o := y) hC.1.1.1 hp
  have ix := zinp_iff (o := x) hR.1.1 hp
  have iy := zinp_iff (o := y) hR.1.1 hp
  by_cases g1 : zhasR σ o
  · obtain ⟨i, hi, e⟩ := h1.mp g1
    subst e
    have hz := zat_in hs (show m ≤ 43 by omega) hi
    have cw := (hC.1.2.2.2.2 i hi).2.1
    have rw' := (hR.1.2.2 i hi).2.1
    have ho := h2.mpr ⟨i, hi, rfl⟩
    have wl := ywy_lt (hP i hi).1
    have w0 : nI (P.1 i) = 0 ↔ P.1 i = 0 := nI_eq (b := 0) (by omega) (by decide)
    have w1 : nI (P.1 i) = 1 ↔ P.1 i = 1 := nI_eq (b := 1) (by omega) (by decide)
    have wle : nI (P.1 i) ≤ 1 ↔ P.1 i ≤ 1 := nI_leI (b := 1) (by omega) (by decide)
    have hXX : zmvX σ (nI i) x y ↔ zpl2 σ' (zg σ' i 1 = 0) x y := by
      unfold zmvX zpl2
      rw [hz, cw, rw', fx, ix]
      constructor
      · rintro ⟨a, b⟩; exact ⟨a, fun q => iy.mpr (fy.mp (b q))⟩
      · rintro ⟨a, b⟩; exact ⟨a, fun q => fy.mpr (iy.mp (b q))⟩
    by_cases hX : zmvX σ (nI i) x y
    · by_cases g2 : P.1 i ≤ 1
      · obtain ⟨xn, hxn, ex⟩ := fx.mp hX.1
        obtain ⟨yn, hyn, hy⟩ : ∃ yn, (P.1 i = 0 → yn < p) ∧ (P.1 i = 0 → y = nI yn) := by
          by_cases g : P.1 i = 0
          · obtain ⟨yn, h1, h2⟩ := fy.mp (hX.2 (by rw [hz, cw]; exact w0.mpr g))
            exact ⟨yn, fun _ => h1, fun _ => h2⟩
          · exact ⟨0, fun q => absurd q g, fun q => absurd q g⟩
        subst ex
        have hT' : yTok p m P (yto t i xn yn) := by
          intro j hj
          by_cases g : j = i
          · subst g; rw [yto_eq]; exact ⟨fun _ => hxn, hyn⟩
          · rw [yto_ne g]; exact hT j hj
        have hPa := yPok_a hP
        have er := (hC.1.2.2.1 i (by omega))
        have fg : zFg σ (zwant (zmark σ (nI i) m) 1 m) := zFg_trans (zmark_fg m (by omega)) (zwant_fg m)
        have hFo := zmark_Fo hPa (show m ≤ 43 by omega) hi hC.1
        have hCw : zCw p m P t (fun j => zmark σ (nI i) m 4 j 11 ≠ 0) (fun _ => True) (zwant (zmark σ (nI i) m) 1 m) := by
          refine ⟨zFg_Cb (by omega) fg hC.1, fun j hj => ⟨?_, ?_⟩, fun j hj _ _ => zFg_cv fg (hC.2.1 j hj)⟩
          · rw [zwant_11]
          · rw [zwant_in m hj]
            exact ⟨fun _ => trivial, fun _ => by decide⟩
        obtain ⟨σ1, es, hC1, hv1, hk1⟩ := yc_shift (τ := τ) hp hP hm hi hFo (fun _ _ _ _ _ _ _ => trivial) hT' hCw hy
        obtain ⟨σ2, ep, hR2, hv2, hk2, hg2, _⟩ := r_place (τ := τ') hp hP hm hi hT' (zSR_t0 hR).1 hy
        have hSt : zSt p m mc P (yto t i xn yn) cl := ⟨hp, hm, hmc, hP, hT', hK⟩
        have ne : ∀ k' i' j', k' ≠ 14 → k' ≠ 4 → σ1 k' i' j' = σ k' i' j' := fun k' i' j' q1 q2 => (hk1 k' i' j' q1 (fun q => q2 q.1) (fun q => q2 q.1)).trans (fg k' i' j' (fun q => q2 q.1))
        have e4 := sp_move_4 (τ := τ) (σ' := σ1) g1 hX (by rw [hz, cw, w0, w1]; omega) hs (show m ≤ 43 by omega) hC1.1.2.1 (by rw [hz, er]; exact es)
        have r4 := rp_move_4 (τ := τ') (σ' := σ2) (show i < 40 by omega) ho (hXX.mp hX) (by rw [rw']; exact wle.mpr g2) hR2.2.1 hm ep
        have ev : zsum (fun j => if σ1 4 j 7 = 0 then 0 else 1) m = zsum (fun o => zg σ2 o 7) m := zsum_eq m (fun j hj => v7 (hv1 j hj trivial) (hv2 j hj))
        rw [ev] at e4
        refine Or.inl ⟨_, σ1, σ2, e4, r4, ?_, p, m, mc, P, _, cl, hSt, ⟨hC1.1, fun j hj => hv1 j hj trivial, ?_, fun k hk => ?_⟩, ⟨hR2, hv2, ?_, fun k hk => ?_⟩⟩
        · rw [hk2 0 0 0 (by decide) (by decide)]; exact zt0_th
        · rw [ne 7 0 2 (by decide) (by decide)]; exact hC.2.2.1
        · obtain ⟨c1, c2⟩ := hC.2.2.2 k hk
          exact ⟨by rw [ne 16 k 0 (by decide) (by decide)]; exact c1, fun i' hi' => by rw [ne 16 k _ (by decide) (by decide)]; exact c2 i' hi'⟩
        · rw [hk2 0 0 4 (by decide) (by decide)]; exact (zSR_t0 hR).2.2.1
        · obtain ⟨c1, c2⟩ := (zSR_t0 hR).2.2.2 k hk
          refine ⟨?_, fun i' hi' => ?_⟩
          · show σ2 2 0 _ = _
            rw [hk2 2 0 _ (by decide) (by decide)]; exact c1
          · show σ2 2 0 _ = _
            rw [hk2 2 0 _ (by decide) (by decide)]; exact c2 i' hi'
      · refine ag_no h (by decide) rfl (by decide) (sp_move_3 g1 hX (by rw [hz, cw, w0]; omega) (by rw [hz, cw, w1]; omega)) (rp_move_3 (by omega) ho (hXX.mp hX) (by rw [rw', wle]; exact g2))
    · exact ag_no h (by decide) rfl (by decide) (sp_move_2 g1 hX) (rp_move_2 (by omega) ho (fun q => hX (hXX.mpr q)))
  · exact ag_no h (by decide) rfl (by decide) (sp_move_1 g1) (rp_move_1 (fun q => g1 (h1.mpr (h2.mp q))))
/-! ===== claim ===== -/
theorem four {i : Nat} (h : i < 4) : i = 0 ∨ i = 1 ∨ i = 2 ∨ i = 3 := by omega
theorem five {i n : Nat} (h : i < n) (h4 : n ≤ 4) : 1 + i < 5 := by omega
theorem zCb_of {p m : Nat} {P : yP} {t : yTo} {σ σ' : zMem} (h : ∀ k i j, (k = 3 ∨ k = 4 ∨ k = 5 ∨ k = 9 ∨ k = 10) → σ' k i j = σ k i j) (hB : zCb p m P t σ) : zCb p m P t σ' := by
  obtain ⟨hF, hs, hr, ⟨h1, h2⟩, ho⟩ := hB
  have e4 : ∀ i' j', σ' 4 i' j' = σ 4 i' j' := fun i' j' => h 4 i' j' (by decide)
  refine ⟨zField_of (fun k' j' g => h k' 0 j' (by omega)) hF, (h 5 0 2 (by decide)).trans hs, fun j hj => (e4 j 0).trans (hr j hj), ⟨(e4 43 7).trans h1, (e4 43 11).trans h2⟩, fun j hj => ?_⟩
  obtain ⟨o1, o2, o3, o4, o5⟩ := ho j hj
  exact ⟨(e4 j 0).trans o1, (e4 j 1).trans o2, fun k hk => (e4 j (2 + k)).trans (o3 k hk), fun g => (e4 j 5).trans (o4 g), fun g => (e4 j 6).trans (o5 g)⟩
theorem zclm_ne {σ : zMem} {m : Nat} {w a b c d : Int32} {k i j : Nat} (h7 : k ≠ 7) (h16 : k ≠ 16) : zclm σ m w a b c d k i j = σ k i j := by
  unfold zclm
  rw [zup_ne (fun q => h16 q.1), zup_ne (fun q => h16 q.1), zup_ne (fun q => h16 q.1), zup_ne (fun q => h16 q.1), zup_ne (fun q => h16 q.1), zup_ne (fun q => h7 q.1)]
theorem zclm_7 {σ : zMem} {m : Nat} {w a b c d : Int32} : zclm σ m w a b c d 7 0 2 = nI (m + 1) := by
  unfold zclm
  rw [zup_ne (fun q => by omega), zup_ne (fun q => by omega), zup_ne (fun q => by omega), zup_ne (fun q => by omega), zup_ne (fun q => by omega), zup_eq]
theorem zclm_lo {σ : zMem} {m : Nat} {w a b c d : Int32} {k j : Nat} (h : ¬ k = m) : zclm σ m w a b c d 16 k j = σ 16 k j := by
  unfold zclm
  rw [zup_ne (fun q => h q.2.1), zup_ne (fun q => h q.2.1), zup_ne (fun q => h q.2.1), zup_ne (fun q => h q.2.1), zup_ne (fun q => h q.2.1), zup_ne (fun q => by omega)]
theorem zclm_16 {σ : zMem} {m : Nat} {w a b c d : Int32} : zclm σ m w a b c d 16 m 0 = w ∧ zclm σ m w a b c d 16 m 1 = a ∧ zclm σ m w a b c d 16 m 2 = b ∧ zclm σ m w a b c d 16 m 3 = c ∧ zclm σ m w a b c d 16 m 4 = d := by
  unfold zclm
  refine ⟨?_, ?_, ?_, ?_, ?_⟩
  · rw [zup_ne (fun q => by omega), zup_ne (fun q => by omega), zup_ne (fun q => by omega), zup_ne (fun q => by omega), zup_eq]
  · rw [zup_ne (fun q => by omega), zup_ne (fun q => by omega), zup_ne (fun q => by omega), zup_eq]
  · rw [zup_ne (fun q => by omega), zup_ne (fun q => by omega), zup_eq]
  · rw [zup_ne (fun q => by omega), zup_eq]
  · exact zup_eq
theorem zrclS_ne {σ : zMem} {m : Nat} {w a b c d : Int32} {k i j : Nat} (h2 : k ≠ 2) (h : ¬ (k = 0 ∧ (j = 0 ∨ j = 4))) : zrclS σ m w a b c d k i j = σ k i j := by
  unfold zrclS
  rw [zup_ne (fun q => h ⟨q.1, Or.inr q.2.2⟩)]
  unfold zrow
  rw [if_neg (fun q => h2 q.1)]
  exact zt0_ne (fun q => h ⟨q.1, Or.inl q.2⟩)
theorem zrclS_g {σ : zMem} {m : Nat} {w a b c d : Int32} {o k : Nat} : zg (zrclS σ m w a b c d) o k = zg σ o k := zrclS_ne (by decide) (fun q => by omega)
theorem zrclS_c {σ : zMem} {m : Nat} {w a b c d : Int32} {k j : Nat} (hj : j < 5) : zcf (zrclS σ m w a b c d) k j = if k = m then zsaidC w a b c d j else zcf σ k j := by
  show zrclS σ m w a b c d 2 0 (5 * k + j) = _
  unfold zrclS
  rw [zup_ne (fun q => by omega)]
  unfold zrow
  rw [if_pos ⟨rfl, rfl⟩]
  unfold va_cpy
  by_cases g : k = m
  · subst g
    rw [if_pos rfl, if_pos (by omega)]
    have : 0 + (5 * k + j - 5 * k) = j := by omega
    rw [this]
  · rw [if_neg g, if_neg (by omega)]
    rfl
theorem cl_dg : ∀ w : Fin 8, w.1 = 6 ∨ (∀ k : Fin 4, zdgt ((zTab 3).getD w.1 0) (zp4 k.1) = zent 1 (4 * nI w.1 + nI k.1) + 1 ∧ zent 1 (4 * nI w.1 + nI k.1) ≠ 3) := by decide +kernel
theorem cl_na : ∀ w : Fin 8, ∀ k : Fin 4, (zent 1 (4 * nI w.1 + nI k.1) = -1 ↔ zna w.1 ≤ k.1) := by decide +kernel
theorem cl_7 : ∀ k : Fin 3, zent 1 (4 * nI 7 + nI k.1) = 1 := by decide +kernel
theorem cl_6 : ∀ s : Fin 3, zdgt (1100 * (nI s.1 + 1)) (zp4 0) = nI s.1 + 1 ∧ zdgt (1100 * (nI s.1 + 1)) (zp4 1) = nI s.1 + 1 ∧ zdgt (1100 * (nI s.1 + 1)) (zp4 2) = 0 ∧ zdgt (1100 * (nI s.1 + 1)) (zp4 3) = 0 := by decide +kernel
theorem cl_e6 : zent 1 (4 * nI 6) = 3 ∧ zent 1 (4 * nI 6 + 1) = 3 ∧ zent 1 (4 * nI 6 + 2) = -1 ∧ zent 1 (4 * nI 6 + 3) = -1 := by decide +kernel
theorem cl_th3 : ∀ w : Fin 8, (zth3 (nI w.1) ↔ 2 < zna w.1) := by
  have e : ∀ w : Fin 8, ((nI w.1 = 2 ∨ nI w.1 = 5 ∨ nI w.1 = 7) ↔ 2 < zna w.1) := by decide +kernel
  exact e
theorem cl_5 : ∀ w : Fin 8, (nI w.1 = 5 ↔ 3 < zna w.1) := by decide +kernel
theorem zsort_3 {w : Nat} (h : ywy w) : ∃ s, s < 3 ∧ zsort (nI w) = nI s := by
  rw [zsort_nI (ywy_lt h)]
  by_cases g : w < 10
  · exact ⟨0, by decide, by rw [if_pos g]; rfl⟩
  · by_cases g' : w < 20
    · exact ⟨1, by decide, by rw [if_neg g, if_pos g']; rfl⟩
    · exact ⟨2, by decide, by rw [if_neg g, if_neg g']; rfl⟩
def yclx (cl : yCl) (mc w : Nat) (qs : Nat → Option Nat) : yCl := (fun k => if k = mc then w else cl.1 k, fun k => if k = mc then qs else cl.2 k)
theorem ag_claim {σ σ' : zMem} {τ τ' : zTmp} {w a b c d : Int32} (h : zRel σ σ') : zAg τ τ' (zcd 1 2 3) (m_X8_claim [zO 0 0, zI w, zI a, zI b, zI c, zI d] (σ, τ)) (m_X9_claim [zO 0 0, zI w, zI a, zI b, zI c, zI d] (σ', τ')) := by
  obtain ⟨p, m, mc, P, t, cl, hS, hC, hR⟩ := id h
  obtain ⟨hp, hm, hmc, hP, hT, hK⟩ := id hS
  have hs := hC.1.2.1
  have hs' := hR.1.2.1
  have hr : ∀ o, zhasR σ o ↔ zob σ' o := fun o => (hasR_iff hs hm).trans (zob_iff hs' hm).symm
  have hcl := zin_cl (n := w) (k := 7) (by decide)
  by_cases hw : zin w 0 (nI 7)
  · obtain ⟨n, hn, ew⟩ := (zin_nI (n := 7) (by decide)).mp hw
    subst ew
    have hw' : zin (nI n) 0 7 := hw
    have nw := hcl.mpr hw
    have w0 : ¬ nI n < 0 := fun q => nw (Or.inl q)
    have w7 : nI n ≤ 7 := Int32.not_lt.mp (fun q => nw (Or.inr q))
    have hn8 : n < 8 := by omega
    have na : ∀ k : Nat, k < 4 → (zent 1 (4 * nI n + nI k) = -1 ↔ zna n ≤ k) := fun k hk => cl_na ⟨n, hn8⟩ ⟨k, hk⟩
    have na0 : zent 1 (4 * nI n) = -1 ↔ zna n ≤ 0 := by have := na 0 (by decide); rw [nI_0, Int32.add_zero] at this; exact this
    have na1 : zent 1 (4 * nI n + 1) = -1 ↔ zna n ≤ 1 := na 1 (by decide)
    have na2 : zent 1 (4 * nI n + 2) = -1 ↔ zna n ≤ 2 := na 2 (by decide)
    have na3 : zent 1 (4 * nI n + 3) = -1 ↔ zna n ≤ 3 := na 3 (by decide)
    have n2 : 2 ≤ zna n := by unfold zna; split; decide; split <;> decide
    have th3 : zth3 (nI n) ↔ 2 < zna n := cl_th3 ⟨n, hn8⟩
    have th5 : nI n = 5 ↔ 3 < zna n := cl_5 ⟨n, hn8⟩
    have tT : zclTh σ (nI n) a b c d ↔ zclR σ' (nI n) a b c d := by
      unfold zclTh zclR zthere
      rw [hr, hr, hr, hr, th3, th5, na0, na1, na2, na3]
      constructor
      · rintro ⟨g0, g1, g2, g3⟩
        exact ⟨g0.elim (fun q => by omega) id, g1.elim (fun q => by omega) id, fun q => g2.elim (fun z => by omega) id, fun q => g3.elim (fun z => by omega) id⟩
      · rintro ⟨g0, g1, g2, g3⟩
        refine ⟨Or.inr g0, Or.inr g1, ?_, ?_⟩
        · by_cases z : zna n ≤ 2
          · exact Or.inl z
          · exact Or.inr (g2 (by omega))
        · by_cases z : zna n ≤ 3
          · exact Or.inl z
          · exact Or.inr (g3 (by omega))
    by_cases hTT : zclTh σ (nI n) a b c d
    · obtain ⟨ga, gb, gc, gd⟩ := tT.mp hTT
      have gc := fun q => (zob_iff hs' hm).mp (gc (th3.mpr q))
      have gd := fun q => (zob_iff hs' hm).mp (gd (th5.mpr q))
      obtain ⟨ia, hia, ea⟩ := (zob_iff hs' hm).mp ga
      obtain ⟨ib, hib, eb⟩ := (zob_iff hs' hm).mp gb
      have oa : zat σ 5 a = ia := by rw [ea]; exact zat_in hs (by omega) hia
      have ob : zat σ 5 b = ib := by rw [eb]; exact zat_in hs (by omega) hib
      obtain ⟨sa, hsa, esa⟩ := zsort_3 (hP ia hia).1
      obtain ⟨sb, hsb, esb⟩ := zsort_3 (hP ib hib).1
      have ca : zsort (σ 4 (zat σ 5 a) 1) = nI sa := by rw [oa, (hC.1.2.2.2.2 ia hia).2.1, esa]
      have cb : zsort (σ 4 (zat σ 5 b) 1) = nI sb := by rw [ob, (hC.1.2.2.2.2 ib hib).2.1, esb]
      have ra : zg σ' ia 0 = nI sa := by rw [(hR.1.2.2 ia hia).1, esa]
      have rb : zg σ' ib 0 = nI sb := by rw [(hR.1.2.2 ib hib).1, esb]
      obtain ⟨ns, h6, hn6⟩ : ∃ ns : Int32, (n = 6 → ∃ q, q < 40 ∧ a = nI q ∧ ns = 1100 * (zg σ' q 0 + 1)) ∧ (¬ n = 6 → ns = (zTab 3).getD n 0) := by
        by_cases g : n = 6
        · exact ⟨1100 * (nI sa + 1), fun _ => ⟨ia, by omega, ea, by rw [ra]⟩, fun q => absurd g q⟩
        · exact ⟨(zTab 3).getD n 0, fun q => absurd q g, fun _ => rfl⟩
      have n6 : n = 6 → ns = 1100 * (nI sa + 1) := by
        intro g
        obtain ⟨q, hq, e1, e2⟩ := h6 g
        have : ia = q := nI_inj' (by omega) (by omega) (ea.symm.trans e1)
        rw [e2, ← this, ra]
      have hob : ∀ k, k < 4 → ¬ zdgt ns (zp4 k) = 0 → ∃ q, q < 40 ∧ zrw4 a b c d k = nI q := by
        intro k hk hd
        have kk : k = 0 ∨ k = 1 ∨ k = 2 ∨ k = 3 := by omega
        have big : 2 ≤ k → k < zna n := by
          intro hk2
          by_cases g : n = 6
          · exfalso
            rw [n6 g] at hd
            obtain ⟨_, _, z2, z3⟩ := cl_6 ⟨sa, hsa⟩
            rcases kk with q | q | q | q
            · omega
            · omega
            · subst q; exact hd z2
            · subst q; exact hd z3
          · have := cl_dg ⟨n, hn8⟩
            rcases this with q | q
            · exact absurd q g
            · have q := (q ⟨k, hk⟩).1
              rw [hn6 g] at hd
              by_cases z : zna n ≤ k
              · exfalso
                apply hd
                rw [show zdgt ((zTab 3).getD n 0) (zp4 k) = zent 1 (4 * nI n + nI k) + 1 from q, (na k hk).mpr z]
                decide
              · omega
        rcases kk with g | g | g | g <;> subst g
        · exact ⟨ia, by omega, ea⟩
        · exact ⟨ib, by omega, eb⟩
        · obtain ⟨q, hq, e⟩ := gc (big (by decide))
          exact ⟨q, by omega, e⟩
        · obtain ⟨q, hq, e⟩ := gd (big (by decide))
          exact ⟨q, by omega, e⟩
      have fF : (zclFi σ (nI n) a b c d ∧ zclAl σ (nI n) a b) ↔ zclS σ' ns a b c d := by
        by_cases g : n = 6
        · subst g
          obtain ⟨e0, e1, e2, e3⟩ := cl_e6
          obtain ⟨d0, d1, d2, d3⟩ := cl_6 ⟨sa, hsa⟩
          have en := n6 rfl
          have n1 : ¬ nI sa + 1 = 0 := by
            rw [nI_1]
            exact fun q => by have := (nI_z0 (n := sa + 1) (by omega)).mp q; omega
          have s1 : nI sa + 1 - 1 = nI sa := Int32.add_sub_cancel _ _
          have m3 : ¬ (3 : Int32) = -1 := by decide
          unfold zclFi zclAl zclS zfits
          rw [e0, e1, e2, e3, if_neg m3, if_neg m3, if_pos rfl, if_pos rfl, ca, cb, en]
          constructor
          · rintro ⟨⟨_, _, hc, hd⟩, hal⟩ k hk
            have hal := hal rfl
            have kk : k = 0 ∨ k = 1 ∨ k = 2 ∨ k = 3 := by omega
            rcases kk with g | g | g | g <;> subst g
            · refine ⟨fun q => absurd (d0.symm.trans q) n1, fun q _ hq hq40 => ?_⟩
              have : ia = q := nI_inj' (by omega) (by omega) (ea.symm.trans hq)
              subst this
              show zg (zt0 σ') ia 0 = zdgt (1100 * (nI sa + 1)) (zp4 0) - 1
              rw [zt0_g, ra, d0, s1]
            · refine ⟨fun q => absurd (d1.symm.trans q) n1, fun q _ hq hq40 => ?_⟩
              have : ib = q := nI_inj' (by omega) (by omega) (eb.symm.trans hq)
              subst this
              show zg (zt0 σ') ib 0 = zdgt (1100 * (nI sa + 1)) (zp4 1) - 1
              rw [zt0_g, rb, d1, s1, hal]
            · exact ⟨fun _ => hc, fun q hd' => absurd d2 hd'⟩
            · exact ⟨fun _ => hd, fun q hd' => absurd d3 hd'⟩
          · intro hk
            refine ⟨⟨Or.inl rfl, Or.inl rfl, (hk 2 (by decide)).1 d2, (hk 3 (by decide)).1 d3⟩, fun _ => ?_⟩
            have := (hk 1 (by decide)).2 ib (fun q => n1 (d1.symm.trans q)) eb (by omega)
            have this : zg (zt0 σ') ib 0 = zdgt (1100 * (nI sa + 1)) (zp4 1) - 1 := this
            rw [zt0_g, rb, d1, s1] at this
            exact this.symm
        · have en := hn6 g
          have cd := cl_dg ⟨n, hn8⟩
          rcases cd with q | q
          · exact absurd q g
          have dk : ∀ k : Nat, k < 4 → zdgt ns (zp4 k) = zent 1 (4 * nI n + nI k) + 1 ∧ zent 1 (4 * nI n + nI k) ≠ 3 := fun k hk => by rw [en]; exact q ⟨k, hk⟩
          have dk0 := dk 0 (by decide)
          rw [nI_0, Int32.add_zero] at dk0
          have a0 := fit_ao (o := a) hm hC hR dk0.1 dk0.2 (fun _ => ⟨ia, hia, ea⟩)
          have a1 := fit_ao (o := b) (e := zent 1 (4 * nI n + 1)) hm hC hR (dk 1 (by decide)).1 (dk 1 (by decide)).2 (fun _ => ⟨ib, hib, eb⟩)
          have a2 := fit_ao (o := c) (e := zent 1 (4 * nI n + 2)) hm hC hR (dk 2 (by decide)).1 (dk 2 (by decide)).2 (fun z => gc (by have : ¬ zna n ≤ 2 := fun y => z (na2.mpr y); omega))
          have a3 := fit_ao (o := d) (e := zent 1 (4 * nI n + 3)) hm hC hR (dk 3 (by decide)).1 (dk 3 (by decide)).2 (fun z => gd (by have : ¬ zna n ≤ 3 := fun y => z (na3.mpr y); omega))
          have g6 : ¬ nI n = 6 := nI_nq (b := 6) (by omega) (by decide) g
          unfold zclFi zclAl zclS
          rw [a0, a1, a2, a3]
          constructor
          · rintro ⟨⟨g0, g1, g2, g3⟩, _⟩ k hk
            have kk : k = 0 ∨ k = 1 ∨ k = 2 ∨ k = 3 := by omega
            rcases kk with g | g | g | g <;> subst g
            · exact g0
            · exact g1
            · exact g2
            · exact g3
          · intro hk
            exact ⟨⟨hk 0 (by decide), hk 1 (by decide), hk 2 (by decide), hk 3 (by decide)⟩, fun z => absurd z g6⟩
      by_cases hFF : zclFi σ (nI n) a b c d ∧ zclAl σ (nI n) a b
      · obtain ⟨hFi, hAl⟩ := hFF
        by_cases h20 : mc = 20
        · exact ag_no h (by decide) rfl (by decide) (sp_claim_5 w0 w7 hTT hFi hAl hC.2.2.1 h20) (rp_claim_3 hn8 hw' (tT.mp hTT) h6 hn6 hob (fun q => q.2 (by rw [hR.2.2.1, h20]; rfl)))
        · have m20 : mc < 20 := by omega
          have m20' : mc + 1 ≤ 20 := m20
          obtain ⟨qs, q0, q1, q2, q3⟩ : ∃ qs : Nat → Option Nat, qs 0 = some ia ∧ qs 1 = some ib ∧ ((zna n ≤ 2 → qs 2 = none) ∧ (2 < zna n → ∃ i, qs 2 = some i ∧ i < m ∧ c = nI i)) ∧ ((zna n ≤ 3 → qs 3 = none) ∧ (3 < zna n → ∃ i, qs 3 = some i ∧ i < m ∧ d = nI i)) := by
            by_cases g2 : zna n ≤ 2
            · exact ⟨fun k => if k = 0 then some ia else if k = 1 then some ib else none, rfl, rfl, ⟨fun _ => rfl, fun q => by omega⟩, ⟨fun _ => rfl, fun q => by omega⟩⟩
            · obtain ⟨ic, hic, ec⟩ := gc (by omega)
              by_cases g3 : zna n ≤ 3
              · exact ⟨fun k => if k = 0 then some ia else if k = 1 then some ib else if k = 2 then some ic else none, rfl, rfl, ⟨fun q => absurd q g2, fun _ => ⟨ic, rfl, hic, ec⟩⟩, ⟨fun _ => rfl, fun q => by omega⟩⟩
              · obtain ⟨id, hid, ed⟩ := gd (by omega)
                exact ⟨fun k => if k = 0 then some ia else if k = 1 then some ib else if k = 2 then some ic else some id, rfl, rfl, ⟨fun q => absurd q g2, fun _ => ⟨ic, rfl, hic, ec⟩⟩, ⟨fun q => absurd q g3, fun _ => ⟨id, rfl, hid, ed⟩⟩⟩
          have e2c : (if zent 1 (4 * nI n + 2) = -1 then -1 else c) = yq (qs 2) := by
            by_cases g : zna n ≤ 2
            · rw [if_pos (na2.mpr g), q2.1 g]; rfl
            · obtain ⟨i, e, _, ec⟩ := q2.2 (by omega)
              rw [if_neg (fun z => g (na2.mp z)), e]; exact ec
          have e3c : (if zent 1 (4 * nI n + 3) = -1 then -1 else d) = yq (qs 3) := by
            by_cases g : zna n ≤ 3
            · rw [if_pos (na3.mpr g), q3.1 g]; rfl
            · obtain ⟨i, e, _, ec⟩ := q3.2 (by omega)
              rw [if_neg (fun z => g (na3.mp z)), e]; exact ec
          have sort7 : n = 7 → ∀ k : Nat, k < 3 → ∀ o i, zfits σ o (zent 1 (4 * nI n + nI k)) → o = nI i → i < m → 10 ≤ P.1 i ∧ P.1 i < 20 := by
            intro g k hk o i hf ho hi
            subst g
            have e := cl_7 ⟨k, hk⟩
            unfold zfits at hf
            rw [show zent 1 (4 * nI 7 + nI k) = 1 from e, if_neg (by decide), ho, zat_in hs (by omega) hi, (hC.1.2.2.2.2 i hi).2.1] at hf
            exact (zsort_1 (hP i hi).1).mp (hf.elim (fun z => absurd z (by decide)) id)
          have F0 : zfits σ a (zent 1 (4 * nI n + nI 0)) := by rw [nI_0, Int32.add_zero]; exact hFi.1
          have hK' : yCok m (mc + 1) P (yclx cl mc n qs) := by
            intro k hk
            rcases Nat.eq_or_lt_of_le (Nat.le_of_lt_succ hk) with g | g
            · subst g
              have e1 : (yclx cl k n qs).1 k = n := if_pos rfl
              have e2 : (yclx cl k n qs).2 k = qs := if_pos rfl
              rw [e1, e2]
              refine ⟨hn8, fun i hi => ?_⟩
              have kk : i = 0 ∨ i = 1 ∨ i = 2 ∨ i = 3 := by omega
              rcases kk with g | g | g | g <;> subst g
              · exact ⟨fun _ => ⟨ia, q0, hia, fun s7 => sort7 s7 0 (by decide) a ia F0 ea hia⟩, fun q => by omega⟩
              · exact ⟨fun _ => ⟨ib, q1, hib, fun s7 => sort7 s7 1 (by decide) b ib hFi.2.1 eb hib⟩, fun q => by omega⟩
              · refine ⟨fun q => ?_, q2.1⟩
                obtain ⟨i, e, l, ec⟩ := q2.2 q
                exact ⟨i, e, l, fun s7 => sort7 s7 2 (by decide) c i hFi.2.2.1 ec l⟩
              · refine ⟨fun q => ?_, q3.1⟩
                obtain ⟨i, e, l, ed⟩ := q3.2 q
                refine ⟨i, e, l, fun s7 => ?_⟩
                subst s7
                exact absurd q (by decide)
            · have e1 : (yclx cl mc n qs).1 k = cl.1 k := if_neg (by omega)
              have e2 : (yclx cl mc n qs).2 k = cl.2 k := if_neg (by omega)
              rw [e1, e2]
              exact hK k g
          have hSt : zSt p m (mc + 1) P t (yclx cl mc n qs) := ⟨hp, hm, m20', hP, hT, hK'⟩
          refine Or.inl ⟨nI mc, _, _, sp_claim_6 w0 w7 hTT hFi hAl hC.2.2.1 m20, rp_claim_5 hn8 hw' (tT.mp hTT) h6 hn6 hob (fF.mp ⟨hFi, hAl⟩) hR.2.2.1 m20, ?_, p, m, mc + 1, P, t, yclx cl mc n qs, hSt, ⟨?_, ?_, ?_, ?_⟩, ?_, ?_, ?_, ?_⟩
          · show zup _ 0 0 4 _ 0 0 0 = 0
            rw [zup_ne (fun q => by omega)]
            unfold zrow
            rw [if_neg (fun q => by omega)]
            exact zt0_th
          · exact zCb_of (fun k' i' j' g => zclm_ne (by omega) (by omega)) hC.1
          · exact fun j hj => zcv_keep (fun w _ _ => zclm_ne (by decide) (by decide)) (hC.2.1 j hj)
          · exact zclm_7
          · intro k hk
            rcases Nat.eq_or_lt_of_le (Nat.le_of_lt_succ hk) with g | g
            · have e1 : (yclx cl mc n qs).1 k = n := if_pos g
              have e2 : (yclx cl mc n qs).2 k = qs := if_pos g
              rw [e1, e2, g]
              obtain ⟨z0, z1, z2, z3, z4⟩ := zclm_16 (σ := σ) (m := mc) (w := nI n) (a := a) (b := b) (c := if zent 1 (4 * nI n + 2) = -1 then -1 else c) (d := if zent 1 (4 * nI n + 3) = -1 then -1 else d)
              refine ⟨z0, fun i hi => ?_⟩
              have kk : i = 0 ∨ i = 1 ∨ i = 2 ∨ i = 3 := four hi
              rcases kk with g | g | g | g <;> subst g
              · rw [q0]; exact z1.trans ea
              · rw [q1]; exact z2.trans eb
              · exact z3.trans e2c
              · exact z4.trans e3c
            · have gn : ¬ k = mc := Nat.ne_of_lt g
              have e1 : (yclx cl mc n qs).1 k = cl.1 k := if_neg gn
              have e2 : (yclx cl mc n qs).2 k = cl.2 k := if_neg gn
              rw [e1, e2]
              obtain ⟨c1, c2⟩ := hC.2.2.2 k g
              exact ⟨(zclm_lo gn).trans c1, fun i hi => (zclm_lo gn).trans (c2 i hi)⟩
          · refine ⟨(zrclS_ne (by decide) (by decide)).trans hR.1.1, (zrclS_ne (by decide) (by decide)).trans hR.1.2.1, fun j hj => ?_⟩
            obtain ⟨o1, o2, o3, o4, o5⟩ := hR.1.2.2 j hj
            exact ⟨zrclS_g.trans o1, zrclS_g.trans o2, fun k hk => zrclS_g.trans (o3 k hk), fun z => zrclS_g.trans (o4 z), fun z => zrclS_g.trans (o5 z)⟩
          · exact fun j hj => zrv_keep (fun w _ _ => zrclS_g) (hR.2.1 j hj)
          · exact zup_eq
          · intro k hk
            rcases Nat.eq_or_lt_of_le (Nat.le_of_lt_succ hk) with g | g
            · have e1 : (yclx cl mc n qs).1 k = n := if_pos g
              have e2 : (yclx cl mc n qs).2 k = qs := if_pos g
              rw [e1, e2, g]
              have z : ∀ j, j < 5 → zcf (zrclS σ' mc (nI n) a b c d) mc j = zsaidC (nI n) a b c d j := fun j hj => (zrclS_c hj).trans (if_pos rfl)
              refine ⟨z 0 (by decide), fun i hi => ?_⟩
              have na4 : zna n ≤ 4 := by unfold zna; split; decide; split <;> decide
              have kk : i = 0 ∨ i = 1 ∨ i = 2 ∨ i = 3 := four (Nat.lt_of_lt_of_le hi na4)
              rcases kk with g | g | g | g <;> subst g
              · rw [q0, z 1 (by decide)]; exact ea
              · rw [q1, z 2 (by decide)]; exact eb
              · obtain ⟨i, e, _, ec⟩ := q2.2 hi
                rw [e, z 3 (by decide)]; exact ec
              · obtain ⟨i, e, _, ed⟩ := q3.2 hi
                rw [e, z 4 (by decide)]; exact ed
            · have gn : ¬ k = mc := Nat.ne_of_lt g
              have e1 : (yclx cl mc n qs).1 k = cl.1 k := if_neg gn
              have e2 : (yclx cl mc n qs).2 k = cl.2 k := if_neg gn
              rw [e1, e2]
              obtain ⟨c1, c2⟩ := hR.2.2.2 k g
              have na4 : zna (cl.1 k) ≤ 4 := by unfold zna; split; decide; split <;> decide
              exact ⟨((zrclS_c (by decide)).trans (if_neg gn)).trans c1, fun i hi => ((zrclS_c (five hi na4)).trans (if_neg gn)).trans (c2 i hi)⟩
      · have hno : ¬ zclFi σ (nI n) a b c d ∨ (zclFi σ (nI n) a b c d ∧ ¬ zclAl σ (nI n) a b) := by
          by_cases z : zclFi σ (nI n) a b c d
          · exact Or.inr ⟨z, fun y => hFF ⟨z, y⟩⟩
          · exact Or.inl z
        have rr := rp_claim_3 (τ := τ') hn8 hw' (tT.mp hTT) h6 hn6 hob (fun q => hFF (fF.mpr q.1))
        rcases hno with z | ⟨z, z'⟩
        · exact ag_no h (by decide) rfl (by decide) (sp_claim_3 w0 w7 hTT z) rr
        · exact ag_no h (by decide) rfl (by decide) (sp_claim_4 w0 w7 hTT z z') rr
    · exact ag_no h (by decide) rfl (by decide) (sp_claim_2 w0 w7 hTT) (rp_claim_2 hw' (fun q => hTT (tT.mpr q)))
  · exact ag_no h (by decide) rfl (by decide) (sp_claim_1 (Classical.byContradiction fun q => hw (hcl.mp q))) (rp_claim_1 hw)
