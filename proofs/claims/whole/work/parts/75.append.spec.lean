/-! ===== an object more ===== -/
theorem yval_ext {p m : Nat} {P P' : yP} {t t' : yTo} (hP : yPa m P) (e1 : ∀ j, j < m → P'.1 j = P.1 j) (e2 : ∀ j, j < m → P'.2 j = P.2 j) (e3 : ∀ j, j < m → t' j = t j) : ∀ n j, j < n → j < m → yval p P' t' j = yval p P t j := by
  have hP' : yPa m P' := fun j hj k hk q hq => hP j hj k hk q (by rw [← e2 j hj]; exact hq)
  intro n
  induction n with
  | zero => intro j h; omega
  | succ n ih =>
    intro j h hj
    rw [yval_st hP' hj, yval_st hP hj]
    unfold yst
    rw [e1 j hj, e2 j hj, e3 j hj]
    have pe : ∀ k, k < 3 → ypv (yval p P' t') (P.2 j k) = ypv (yval p P t) (P.2 j k) := fun k hk => ypv_eq (fun q hq => ih q (by have := hP j hj k hk q hq; omega) (by have := hP j hj k hk q hq; omega))
    rw [pe 0 (by decide), pe 1 (by decide), pe 2 (by decide)]
/-- the state with an object more -/
def yNx (p m mc : Nat) (P : yP) (t : yTo) (cl : yCl) (P' : yP) (t' : yTo) : Prop := (∀ j, j < m → P'.1 j = P.1 j) ∧ (∀ j, j < m → P'.2 j = P.2 j) ∧ (∀ j, j < m → t' j = t j) ∧ zSt p (m + 1) mc P' t' cl
theorem c_app {p m mc : Nat} {P P' : yP} {t t' : yTo} {cl : yCl} {σ σ1 : zMem} {τ : zTmp} (hS : zSt p m mc P t cl) (hC : zSC p m mc P t cl σ) (hN : yNx p m mc P t cl P' t')
    (hk : ∀ k i j, ¬ (k = 5 ∧ i = 0 ∧ j = 2) → ¬ (k = 4 ∧ i = m ∧ 1 ≤ j ∧ j ≤ 6) → σ1 k i j = σ k i j) (h5 : σ1 5 0 2 = nI (m + 1)) (hw : σ1 4 m 1 = nI (P'.1 m)) (hq : ∀ k, k < 3 → σ1 4 m (2 + k) = yq (P'.2 m k)) (hx : P'.1 m < 2 → σ1 4 m 5 = nI (t' m).1) (hy : P'.1 m = 0 → σ1 4 m 6 = nI (t' m).2) :
    ∃ σ', m_X8_remake [zO 0 0, zO 4 m] (σ1, τ) = some (.inl none, (σ', τ)) ∧ zSC p (m + 1) mc P' t' cl σ' ∧ σ' 4 m 0 = nI m := by
  obtain ⟨hp, hm, hmc, hP, hT, hK⟩ := hS
  obtain ⟨⟨hF, hs, hr, h43, ho⟩, hv, h7, hc⟩ := hC
  obtain ⟨n1, n2, n3, hp', hm', _, hP', hT', hK'⟩ := hN
  have hB1 : zCb p (m + 1) P' t' σ1 := by
    refine ⟨zField_of (fun k' j' g => hk k' 0 j' (fun q => by omega) (fun q => by omega)) hF, h5, fun j hj => (hk 4 j 0 (fun q => by omega) (fun q => by omega)).trans (hr j hj), ⟨(hk 4 43 7 (fun q => by omega) (fun q => by omega)).trans h43.1, (hk 4 43 11 (fun q => by omega) (fun q => by omega)).trans h43.2⟩, fun j hj => ?_⟩
    rcases Nat.eq_or_lt_of_le (Nat.le_of_lt_succ hj) with g | g
    · subst g
      exact ⟨(hk 4 j 0 (fun q => by omega) (fun q => by omega)).trans (hr j (by omega)), hw, hq, hx, hy⟩
    · obtain ⟨o1, o2, o3, o4, o5⟩ := ho j g
      have e : ∀ w, σ1 4 j w = σ 4 j w := fun w => hk 4 j w (fun q => by omega) (fun q => by omega)
      exact ⟨(e 0).trans o1, by rw [e 1, n1 j g]; exact o2, fun k hk' => by rw [e, n2 j g]; exact o3 k hk', fun z => by rw [e, n3 j g]; exact o4 (by rw [← n1 j g]; exact z), fun z => by rw [e, n3 j g]; exact o5 (by rw [← n1 j g]; exact z)⟩
  have hve : ∀ j, j < m → yval p P' t' j = yval p P t j := fun j hj => yval_ext (yPok_a hP) n1 n2 n3 (j + 1) j (by omega) hj
  have hv1 : ∀ j, j < m → zcv σ1 j (yval p P' t' j) := fun j hj => by
    rw [hve j hj]
    exact zcv_keep (fun w _ _ => hk 4 j w (fun q => by omega) (fun q => by omega)) (hv j hj)
  have hPa' := yPok_a hP'
  obtain ⟨σ', e, hz, hkk⟩ := yc_remake (τ := τ) (v := yval p P' t') hp hP' (by omega) (show m < m + 1 by omega) hB1 hT' (fun k hk' q hq' => hv1 q (hPa' m (by omega) k hk' q hq')) (fun k hk' q hq' A hA => yval_ok hp hP' (by have := hPa' m (by omega) k hk' q hq'; omega) hA)
  rw [← yval_st hPa' (by omega)] at hz
  have ne : ∀ k' i' j', k' ≠ 14 → k' ≠ 4 → σ' k' i' j' = σ1 k' i' j' := fun k' i' j' g1 g2 => hkk k' i' j' (fun q => g2 q.1) g1
  refine ⟨σ', e, ⟨zCb_keep (by omega) (fun k' i' j' g1 g2 => hkk k' i' j' (fun q => g2 ⟨q.1, q.2.2.1, Or.inl (by omega)⟩) g1) hB1, fun j hj => ?_, ?_, fun k hk' => ?_⟩, ?_⟩
  · rcases Nat.eq_or_lt_of_le (Nat.le_of_lt_succ hj) with g | g
    · subst g; exact hz
    · exact zcv_keep (fun w _ _ => hkk 4 j w (fun q => by omega) (by decide)) (hv1 j g)
  · rw [ne 7 0 2 (by decide) (by decide), hk 7 0 2 (fun q => by omega) (fun q => by omega)]; exact h7
  · obtain ⟨c1, c2⟩ := hc k hk'
    refine ⟨?_, fun i hi => ?_⟩
    · rw [ne 16 k 0 (by decide) (by decide), hk 16 k 0 (fun q => by omega) (fun q => by omega)]; exact c1
    · rw [ne 16 k (1 + i) (by decide) (by decide), hk 16 k (1 + i) (fun q => by omega) (fun q => by omega)]; exact c2 i hi
  · rw [hkk 4 m 0 (fun q => by omega) (by decide), hk 4 m 0 (fun q => by omega) (fun q => by omega)]
    exact hr m (by omega)
theorem zaddS_g {σ : zMem} {m : Nat} {s w a b c x y : Int32} {j k : Nat} (hk : k < 11) : zg (zaddS σ m s w a b c x y) j k = if j = m then zsaid s w a b c x y k else zg σ j k := by
  show zaddS σ m s w a b c x y 1 0 (11 * j + k) = _
  unfold zaddS
  rw [zup_ne (fun q => by omega)]
  unfold zrow
  rw [if_pos ⟨rfl, rfl⟩]
  unfold va_cpy
  by_cases g : j = m
  · subst g
    rw [if_pos rfl, if_pos (by omega)]
    have : 0 + (11 * j + k - 11 * j) = k := by omega
    rw [this]
  · rw [if_neg g, if_neg (by omega)]
    rfl
theorem zaddS_ne {σ : zMem} {m : Nat} {s w a b c x y : Int32} {k i j : Nat} (h : k ≠ 1) (h' : ¬ (k = 0 ∧ j = 2)) : zaddS σ m s w a b c x y k i j = σ k i j := by
  unfold zaddS
  rw [zup_ne (fun q => h' ⟨q.1, q.2.2⟩)]
  unfold zrow
  rw [if_neg (fun q => h q.1)]
theorem r_app {p m mc : Nat} {P P' : yP} {t t' : yTo} {cl : yCl} {σ : zMem} {τ : zTmp} {s w a b c x y : Int32} (hS : zSt p m mc P t cl) (hR : zSR p m mc P t cl σ) (hN : yNx p m mc P t cl P' t')
    (es : s = zsort (nI (P'.1 m))) (ew : w = nI (P'.1 m)) (ea : a = yq (P'.2 m 0)) (eb : b = yq (P'.2 m 1)) (ec : c = yq (P'.2 m 2)) (ex : P'.1 m < 2 → x = nI (t' m).1) (ey : P'.1 m = 0 → y = nI (t' m).2) :
    ∃ σ', m_X9_add [zO 0 0, zI s, zI w, zI a, zI b, zI c, zI x, zI y] (σ, τ) = some (.inl (some (zI (nI m))), (σ', τ)) ∧ zSR p (m + 1) mc P' t' cl σ' ∧ σ' 0 0 0 = σ 0 0 0 := by
  obtain ⟨hp, hm, hmc, hP, hT, hK⟩ := hS
  obtain ⟨⟨h1, h2, ho⟩, hv, h4, hc⟩ := hR
  obtain ⟨n1, n2, n3, hp', hm', _, hP', hT', hK'⟩ := hN
  have hB1 : zRb p (m + 1) P' t' (zaddS σ m s w a b c x y) := by
    refine ⟨(zaddS_ne (by decide) (fun q => by omega)).trans h1, zup_eq, fun j hj => ?_⟩
    have e : ∀ k, k < 11 → zg (zaddS σ m s w a b c x y) j k = if j = m then zsaid s w a b c x y k else zg σ j k := fun k hk => zaddS_g hk
    rcases Nat.eq_or_lt_of_le (Nat.le_of_lt_succ hj) with g | g
    · subst g
      refine ⟨?_, ?_, fun k hk => ?_, fun z => ?_, fun z => ?_⟩
      · rw [e 0 (by decide), if_pos rfl, ← es]; rfl
      · rw [e 1 (by decide), if_pos rfl, ← ew]; rfl
      · rw [e (2 + k) (by omega), if_pos rfl]
        have : k = 0 ∨ k = 1 ∨ k = 2 := by omega
        rcases this with q | q | q <;> subst q
        · rw [← ea]; rfl
        · rw [← eb]; rfl
        · rw [← ec]; rfl
      · rw [e 5 (by decide), if_pos rfl, ← ex z]; rfl
      · rw [e 6 (by decide), if_pos rfl, ← ey z]; rfl
    · obtain ⟨o1, o2, o3, o4, o5⟩ := ho j g
      have gn : ¬ j = m := by omega
      refine ⟨?_, ?_, fun k hk => ?_, fun z => ?_, fun z => ?_⟩
      · rw [e 0 (by decide), if_neg gn, n1 j g]; exact o1
      · rw [e 1 (by decide), if_neg gn, n1 j g]; exact o2
      · rw [e (2 + k) (by omega), if_neg gn, n2 j g]; exact o3 k hk
      · rw [e 5 (by decide), if_neg gn, n3 j g]; exact o4 (by rw [← n1 j g]; exact z)
      · rw [e 6 (by decide), if_neg gn, n3 j g]; exact o5 (by rw [← n1 j g]; exact z)
  obtain ⟨σ', ef, hR', hv', hk1, hk2⟩ := r_findAll (τ := τ ++ [(11, zsaid s w a b c x y)]) hp hP' hm' hT' hB1
  refine ⟨σ', rp_add h2 (by omega) hR'.2.1 ef, ⟨hR', hv', ?_, fun k hk => ?_⟩, ?_⟩
  · rw [hk1 0 0 4 (by decide) (by decide), zaddS_ne (by decide) (fun q => by omega)]; exact h4
  · obtain ⟨c1, c2⟩ := hc k hk
    refine ⟨?_, fun i hi => ?_⟩
    · show σ' 2 0 _ = _
      rw [hk1 2 0 _ (by decide) (by decide), zaddS_ne (by decide) (fun q => by omega)]; exact c1
    · show σ' 2 0 _ = _
      rw [hk1 2 0 _ (by decide) (by decide), zaddS_ne (by decide) (fun q => by omega)]; exact c2 i hi
  · rw [hk1 0 0 0 (by decide) (by decide), zaddS_ne (by decide) (fun q => by omega)]
theorem yCok_next {m mc : Nat} {P P' : yP} {cl : yCl} (h : yCok m mc P cl) (n1 : ∀ j, j < m → P'.1 j = P.1 j) : yCok (m + 1) mc P' cl := by
  intro k hk
  obtain ⟨h8, ho⟩ := h k hk
  refine ⟨h8, fun i hi => ⟨fun g => ?_, (ho i hi).2⟩⟩
  obtain ⟨q, e, l, f⟩ := (ho i hi).1 g
  exact ⟨q, e, by omega, fun h7 => by rw [n1 q l]; exact f h7⟩
/-- a program with one more -/
def yNp (P : yP) (m w : Nat) (qs : Nat → Option Nat) : yP := (fun j => if j = m then w else P.1 j, fun j => if j = m then qs else P.2 j)
theorem yPok_next {m w : Nat} {P : yP} {qs : Nat → Option Nat} (hP : yPok m P) (hy : ywy w)
    (h0 : (w = 0 → qs 0 = none) ∧ (w ≠ 0 → ∃ a, qs 0 = some a ∧ a < m ∧ (w = 1 ∨ w = 2 ∨ w = 3 ∨ w = 4 → 10 ≤ P.1 a ∧ P.1 a < 20)))
    (h1 : (w < 2 → qs 1 = none) ∧ (2 ≤ w → ∃ b, qs 1 = some b ∧ b < m ∧ (w = 2 ∨ w = 8 ∨ w = 11 ∨ w = 12 → 10 ≤ P.1 b ∧ P.1 b < 20)))
    (h2 : (w < 21 → qs 2 = none) ∧ (21 ≤ w → ∃ c, qs 2 = some c ∧ c < m)) : yPok (m + 1) (yNp P m w qs) := by
  have eo : ∀ j, j < m → (yNp P m w qs).1 j = P.1 j := fun j hj => if_neg (by omega)
  have eq : ∀ j, j < m → (yNp P m w qs).2 j = P.2 j := fun j hj => if_neg (by omega)
  intro j hj
  rcases Nat.eq_or_lt_of_le (Nat.le_of_lt_succ hj) with g | g
  · subst g
    have em : (yNp P j w qs).1 j = w := if_pos rfl
    have em2 : (yNp P j w qs).2 j = qs := if_pos rfl
    rw [em, em2]
    refine ⟨hy, ⟨h0.1, fun z => ?_⟩, ⟨h1.1, fun z => ?_⟩, h2⟩
    · obtain ⟨a, e, l, s⟩ := h0.2 z
      exact ⟨a, e, l, by rw [eo a l]; exact s⟩
    · obtain ⟨a, e, l, s⟩ := h1.2 z
      exact ⟨a, e, l, by rw [eo a l]; exact s⟩
  · obtain ⟨hy', ⟨a0, a1⟩, ⟨b0, b1⟩, c0⟩ := hP j g
    rw [eo j g, eq j g]
    refine ⟨hy', ⟨a0, fun z => ?_⟩, ⟨b0, fun z => ?_⟩, c0⟩
    · obtain ⟨a, e, l, s⟩ := a1 z
      exact ⟨a, e, l, by rw [eo a (by omega)]; exact s⟩
    · obtain ⟨a, e, l, s⟩ := b1 z
      exact ⟨a, e, l, by rw [eo a (by omega)]; exact s⟩
theorem zsort_nI {w : Nat} (h : w < 23) : zsort (nI w) = if w < 10 then 0 else if w < 20 then 1 else 2 := by
  have e10 : nI w < 10 ↔ w < 10 := nI_ltI (b := 10) (by omega) (by decide)
  have e20 : nI w < 20 ↔ w < 20 := nI_ltI (b := 20) (by omega) (by decide)
  unfold zsort
  by_cases g : w < 10
  · rw [if_pos (e10.mpr g), if_pos g]
  · rw [if_neg (fun q => g (e10.mp q)), if_neg g]
    by_cases g' : w < 20
    · rw [if_pos (e20.mpr g'), if_pos g']
    · rw [if_neg (fun q => g' (e20.mp q)), if_neg g']
theorem ywy_lt {w : Nat} (h : ywy w) : w < 23 := by unfold ywy at h; omega
theorem zsort_1 {w : Nat} (h : ywy w) : zsort (nI w) = 1 ↔ 10 ≤ w ∧ w < 20 := by
  rw [zsort_nI (ywy_lt h)]
  by_cases g : w < 10
  · rw [if_pos g]
    exact ⟨fun q => absurd q (by decide), fun q => by omega⟩
  · rw [if_neg g]
    by_cases g' : w < 20
    · rw [if_pos g']
      exact ⟨fun _ => by omega, fun _ => rfl⟩
    · rw [if_neg g']
      exact ⟨fun q => absurd q (by decide), fun q => by omega⟩
theorem ag_point {σ σ' : zMem} {τ τ' : zTmp} {l x y : Int32} (h : zRel σ σ') : zAg τ τ' (zcd 2 1 3) (m_X8_point [zO 0 0, zI l, zI x, zI y] (σ, τ)) (m_X9_point [zO 0 0, zI l, zI x, zI y] (σ', τ')) := by
  obtain ⟨p, m, mc, P, t, cl, hS, hC, hR⟩ := id h
  obtain ⟨hp, hm, hmc, hP, hT, hK⟩ := id hS
  have hs := hC.1.2.1
  have hs' := hR.1.2.1
  have h1 := hasR_iff (o := l) hs hm
  have h2 := zob_iff (o := l) hs' hm
  have fx := hasF_iff (o := x) hC.1.1.1 hp
  have fy := hasF_iff (o := y) hC.1.1.1 hp
  have ix := zinp_iff (o := x) hR.1.1 hp
  have iy := zinp_iff (o := y) hR.1.1 hp
  have nm1 : ∀ j : Nat, j < 40 → ¬ nI j = -1 := fun j hj g => by
    have := nI_pos' (n := j) (by omega)
    rw [g] at this
    exact absurd this (by decide)
  by_cases hL : zptL σ l
  · have hL' : zptR σ' l := by
      rcases hL with g | ⟨g1, g2⟩
      · exact Or.inl g
      · obtain ⟨j, hj, e⟩ := h1.mp g1
        subst e
        refine Or.inr ⟨j, by omega, rfl, h2.mpr ⟨j, hj, rfl⟩, ?_⟩
        rw [(hR.1.2.2 j hj).1]
        rw [zat_in hs (by omega) hj, (hC.1.2.2.2.2 j hj).2.1] at g2
        exact g2
    have hXX : zptX σ l x y ↔ zpl2 σ' (l = -1) x y := by
      unfold zptX zpl2
      rw [fx, ix]
      constructor
      · rintro ⟨a, b⟩; exact ⟨a, fun q => iy.mpr (fy.mp (b q))⟩
      · rintro ⟨a, b⟩; exact ⟨a, fun q => fy.mpr (iy.mp (b q))⟩
    by_cases hX : zptX σ l x y
    · by_cases h40 : 40 ≤ m
      · have e40 : m = 40 := by omega
        exact ag_no h (by decide) rfl (by decide) (sp_point_4 hL hX hs h40 (by omega)) (rp_point_4 hL' (hXX.mp hX) (by rw [hs', e40]; rfl))
      · obtain ⟨xn, hxn, ex⟩ := fx.mp hX.1
        obtain ⟨w, qs, yn, hw, hq0, hq1, hq2, hy, ewl, eql, hsp, hyn⟩ : ∃ (w : Nat) (qs : Nat → Option Nat) (yn : Nat), (w = 0 ∨ w = 1) ∧ ((w = 0 → qs 0 = none) ∧ (w ≠ 0 → ∃ a, qs 0 = some a ∧ a < m ∧ (w = 1 ∨ w = 2 ∨ w = 3 ∨ w = 4 → 10 ≤ P.1 a ∧ P.1 a < 20))) ∧ qs 1 = none ∧ qs 2 = none ∧ (w = 0 → y = nI yn) ∧ ((if l = -1 then 0 else 1 : Int32) = nI w) ∧ l = yq (qs 0) ∧ True ∧ (w = 0 → yn < p) := by
          rcases hL with g | ⟨g1, g2⟩
          · obtain ⟨yn, hyn, ey⟩ := fy.mp (hX.2 g)
            exact ⟨0, fun _ => none, yn, Or.inl rfl, ⟨fun _ => rfl, fun q => absurd rfl q⟩, rfl, rfl, fun _ => ey, by rw [if_pos g]; rfl, g, trivial, fun _ => hyn⟩
          · obtain ⟨j, hj, e⟩ := h1.mp g1
            rw [e, zat_in hs (by omega) hj, (hC.1.2.2.2.2 j hj).2.1, zsort_1 (hP j hj).1] at g2
            refine ⟨1, fun k => if k = 0 then some j else none, 0, Or.inr rfl, ⟨fun q => absurd q (by decide), fun _ => ⟨j, rfl, hj, fun _ => g2⟩⟩, rfl, rfl, fun q => absurd q (by decide), ?_, e, trivial, fun q => absurd q (by decide)⟩
            rw [e, if_neg (nm1 j (by omega))]; rfl
        have hw2 : w < 2 := by rcases hw with g | g <;> rw [g] <;> decide
        have hyw : ywy w := Or.inl (Nat.lt_of_lt_of_le hw2 (by decide))
        have hP' : yPok (m + 1) (yNp P m w qs) := yPok_next hP hyw hq0 ⟨fun _ => hq1, fun q => absurd hw2 (Nat.not_lt.mpr q)⟩ ⟨fun _ => hq2, fun q => absurd hw2 (Nat.not_lt.mpr (Nat.le_trans (by decide) q))⟩
        have em : (yNp P m w qs).1 m = w := if_pos rfl
        have em2 : (yNp P m w qs).2 m = qs := if_pos rfl
        have hN : yNx p m mc P t cl (yNp P m w qs) (yto t m xn yn) := by
          have n1 : ∀ j, j < m → (yNp P m w qs).1 j = P.1 j := fun j hj => if_neg (by omega)
          refine ⟨n1, fun j hj => if_neg (by omega), fun j hj => yto_ne (by omega), hp, by omega, hmc, hP', fun j hj => ?_, yCok_next hK n1⟩
          rcases Nat.eq_or_lt_of_le (Nat.le_of_lt_succ hj) with g | g
          · subst g
            rw [yto_eq, em]
            exact ⟨fun _ => hxn, hyn⟩
          · rw [yto_ne (by omega), n1 j g]
            exact hT j g
        obtain ⟨σ1, ec, hC1, hrk⟩ := c_app (τ := τ) (σ1 := zpt σ m (if l = -1 then 0 else 1) l x y) hS hC hN
          (fun k i j g1 g2 => by
            unfold zpt
            rw [zup_ne (fun q => g2 (by omega)), zup_ne (fun q => g2 (by omega)), zup_ne (fun q => g2 (by omega)), zup_ne (fun q => g2 (by omega)), zup_ne (fun q => g2 (by omega)), zup_ne (fun q => g2 (by omega)), zup_ne (fun q => g1 q)])
          zpt_5
          (by
            rw [em, ← ewl]
            unfold zpt
            rw [zup_ne (fun q => by omega), zup_ne (fun q => by omega), zup_ne (fun q => by omega), zup_ne (fun q => by omega), zup_ne (fun q => by omega), zup_eq])
          (fun k hk => by
            rw [em2]
            have : k = 0 ∨ k = 1 ∨ k = 2 := by omega
            unfold zpt
            rcases this with g | g | g <;> subst g
            · rw [zup_ne (fun q => by omega), zup_ne (fun q => by omega), zup_ne (fun q => by omega), zup_ne (fun q => by omega), zup_eq]; exact eql
            · rw [zup_ne (fun q => by omega), zup_ne (fun q => by omega), zup_ne (fun q => by omega), zup_eq, hq1]; rfl
            · rw [zup_ne (fun q => by omega), zup_ne (fun q => by omega), zup_eq, hq2]; rfl)
          (fun _ => by
            rw [yto_eq, ← ex]
            unfold zpt
            rw [zup_ne (fun q => by omega), zup_eq])
          (fun g => by
            rw [em] at g
            rw [yto_eq, ← hy g]
            unfold zpt
            rw [zup_eq])
        have e0 : (0 : Int32) = zsort (nI ((yNp P m w qs).1 m)) := by
          rw [em]
          rcases hw with g | g <;> subst g <;> rfl
        obtain ⟨σ2, er, hR1, hth⟩ := r_app (τ := τ') (s := 0) (w := (if l = -1 then 0 else 1)) (a := l) (b := -1) (c := -1) (x := x) (y := y) hS (zSR_t0 hR) hN e0 (by rw [em]; exact ewl) (by rw [em2]; exact eql) (by rw [em2, hq1]; rfl) (by rw [em2, hq2]; rfl) (fun _ => by rw [yto_eq]; exact ex) (fun g => by rw [em] at g; rw [yto_eq]; exact hy g)
        have n40 : ¬ σ' 0 0 2 = 40 := by rw [hs']; exact nI_nq (b := 40) (by omega) (by decide) (by omega)
        refine Or.inl ⟨nI m, σ1, σ2, ?_, rp_point_5 hL' (hXX.mp hX) n40 er, hth.trans zt0_th, p, m + 1, mc, _, _, cl, hN.2.2.2, hC1, hR1⟩
        have e5 := sp_point_5 hL hX hs (by omega) ec
        rw [hrk] at e5
        exact e5
    · exact ag_no h (by decide) rfl (by decide) (sp_point_3 hL hX) (rp_point_3 hL' (fun q => hX (hXX.mpr q)))
  · have g1 : ¬ l = -1 := fun q => hL (Or.inl q)
    by_cases g2 : zhasR σ l
    · obtain ⟨j, hj, e⟩ := h1.mp g2
      subst e
      have g3 : ¬ zsort (σ 4 (zat σ 5 (nI j)) 1) = 1 := fun q => hL (Or.inr ⟨g2, q⟩)
      have g4 : ¬ zg σ' j 0 = 1 := by
        rw [(hR.1.2.2 j hj).1]
        rw [zat_in hs (by omega) hj, (hC.1.2.2.2.2 j hj).2.1] at g3
        exact g3
      exact ag_no h (by decide) rfl (by decide) (sp_point_2 g1 g2 g3) (rp_point_2 (by omega) g1 (h2.mpr ⟨j, hj, rfl⟩) g4)
    · exact ag_no h (by decide) rfl (by decide) (sp_point_1 g1 g2) (rp_point_1 g1 (fun q => g2 (h1.mpr (h2.mp q))))
