/-! ===== locus ===== -/
theorem yF_y {p w : Nat} {x y y' : Int} {A B C : yT} (h : w ≠ 0) : yF p w x y A B C = yF p w x y' A B C := by
  unfold yF
  rw [if_neg h, if_neg h]
theorem yval_told {p m : Nat} {P : yP} {t t' : yTo} (hP : yPa m P) (ht : ∀ j, j < m → (t j).1 = (t' j).1 ∧ (P.1 j = 0 → (t j).2 = (t' j).2)) : ∀ n j, j < n → j < m → yval p P t j = yval p P t' j := by
  intro n
  induction n with
  | zero => intro j h; omega
  | succ n ih =>
    intro j h hj
    have pe : ∀ k, k < 3 → ypv (yval p P t) (P.2 j k) = ypv (yval p P t') (P.2 j k) := fun k hk => ypv_eq (fun q hq => ih q (by have := hP j hj k hk q hq; omega) (by have := hP j hj k hk q hq; omega))
    obtain ⟨h1, h2⟩ := ht j hj
    rw [yval_st hP hj, yval_st hP hj]
    unfold yst
    rw [pe 0 (by decide), pe 1 (by decide), pe 2 (by decide), h1]
    split
    · by_cases g : P.1 j = 0
      · rw [h2 g]
      · exact yF_y g
    · rfl
theorem yLC_0 {p : Nat} {L K A : yT} {first : Prop} (h : yLC p first L K = some A) : A.2.2 = 0 := by
  unfold yLC at h
  cases hq : yrt p (yR p (yds L K)) with
  | none => rw [hq] at h; exact absurd h (by simp)
  | some r =>
    rw [hq] at h
    have h := Option.some.inj h
    rw [← h]
    unfold ypick
    split <;> rfl
theorem yF_pt {p w : Nat} {x y : Int} {A B C R : yT} (hp : zpr p) (hy : ywy w) (hw : w < 10) (h : yF p w x y A B C = some R) : R.2.2 = 0 := by
  have cases : w = 0 ∨ w = 1 ∨ w = 2 ∨ w = 3 ∨ w = 4 ∨ w = 5 ∨ w = 6 ∨ w = 7 ∨ w = 8 := by unfold ywy at hy; omega
  rcases cases with g | g | g | g | g | g | g | g | g <;> subst g
  · have h : some (yR p x, yR p y, 0) = some R := h
    rw [← Option.some.inj h]
  · have h : some (yF1 p x A) = some R := h
    rw [← Option.some.inj h]
    exact (yF1_lt hp).2.2
  · have h : yF2 p A B = some R := h
    unfold yF2 at h
    split at h
    · exact absurd h (by simp)
    · rw [← Option.some.inj h]
  · exact yLC_0 h
  · exact yLC_0 h
  · have h : yF5 p True A B = some R := h
    unfold yF5 at h
    cases hc : ych p A B with
    | none => rw [hc] at h; exact absurd h (by simp)
    | some L => rw [hc] at h; exact yLC_0 h
  · have h : yF5 p False A B = some R := h
    unfold yF5 at h
    cases hc : ych p A B with
    | none => rw [hc] at h; exact absurd h (by simp)
    | some L => rw [hc] at h; exact yLC_0 h
  · have h : some (yF7 p A B) = some R := h
    rw [← Option.some.inj h]
    rfl
  · have h : some (yF8 p A B) = some R := h
    rw [← Option.some.inj h]
    rfl
theorem yval_pt {p m j : Nat} {P : yP} {t : yTo} {R : yT} (hp : zpr p) (hP : yPok m P) (hj : j < m) (hw : P.1 j < 10) (h : yval p P t j = some R) : R.2.2 = 0 := by
  rw [yval_st (yPok_a hP) hj] at h
  unfold yst at h
  split at h
  · exact yF_pt hp (hP j hj).1 hw h
  · exact absurd h (by simp)
noncomputable def yloA (p : Nat) (s : yTl) (w : Int32) : Int32 := if w = 0 then nI s.1 else if w = 1 then yshape p s else if w = 2 then nI s.2.2 else zsum (fun j => nI p * nI (s.2.1 j).1 + nI (s.2.1 j).2) s.1
theorem zSC_Eq {p m mc : Nat} {P : yP} {t : yTo} {cl : yCl} {σ σ' : zMem} (h : zEq σ σ') (hC : zSC p m mc P t cl σ) : zSC p m mc P t cl σ' := by
  obtain ⟨hB, hv, h7, hc⟩ := hC
  refine ⟨zCb_of (fun k i j g => h k i j (by omega)) hB, fun j hj => zcv_keep (fun w _ _ => h 4 j w (by omega)) (hv j hj), (h 7 0 2 (by omega)).trans h7, fun k hk => ?_⟩
  obtain ⟨c1, c2⟩ := hc k hk
  exact ⟨(h 16 k 0 (by omega)).trans c1, fun i hi => (h 16 k _ (by omega)).trans (c2 i hi)⟩
theorem zSR_of2 {p m mc : Nat} {P : yP} {t : yTo} {cl : yCl} {σ σ' : zMem} (h : ∀ k i j, (k = 1 ∨ k = 2 ∨ k = 0 ∧ (j = 1 ∨ j = 2 ∨ j = 4)) → σ' k i j = σ k i j) (hS : zSR p m mc P t cl σ) : zSR p m mc P t cl σ' := by
  obtain ⟨⟨h1, h2, ho⟩, hv, h4, hc⟩ := hS
  have eg : ∀ o w, zg σ' o w = zg σ o w := fun o w => h 1 0 _ (by omega)
  refine ⟨⟨(h 0 0 1 (by omega)).trans h1, (h 0 0 2 (by omega)).trans h2, fun j hj => ?_⟩, fun j hj => zrv_keep (fun w _ _ => eg j w) (hv j hj), (h 0 0 4 (by omega)).trans h4, fun k hk => ?_⟩
  · obtain ⟨o1, o2, o3, o4, o5⟩ := ho j hj
    exact ⟨(eg j 0).trans o1, (eg j 1).trans o2, fun k hk => (eg j (2 + k)).trans (o3 k hk), fun g => (eg j 5).trans (o4 g), fun g => (eg j 6).trans (o5 g)⟩
  · obtain ⟨c1, c2⟩ := hc k hk
    exact ⟨(h 2 0 _ (by omega)).trans c1, fun i hi => (h 2 0 _ (by omega)).trans (c2 i hi)⟩
theorem yto_out {t t1 : yTo} {i x y : Nat} (h : ∀ j, j ≠ i → t1 j = t j) : yto t1 i x y = yto t i x y := by
  funext j
  by_cases g : j = i
  · subst g; rw [yto_eq, yto_eq]
  · rw [yto_ne g, yto_ne g]; exact h j g
theorem c_lo {p m mc a i : Nat} {P : yP} {t : yTo} {cl : yCl} {σ : zMem} {τ : zTmp} {w : Int32} (hS : zSt p m mc P t cl) (hC : zSC p m mc P t cl σ) (ha : a < m) (hi : i < m) (hwa : P.1 a < 10) (hwi : P.1 i = 1) (h3 : ¬ w < 0) (h4 : w ≤ 3) (V : Nat → Option yT) (hV : V = fun x => yval p P (yto t i x 0) a) :
    ∃ v σ', m_X8_locus [zO 0 0, zI (nI a), zI (nI i), zI w] (σ, τ) = some (.inl (some (zI v)), (σ', τ)) ∧ (v = yloA p (ytr V p) w ∧ zSC p m mc P (yto t i (t i).1 0) cl σ') := by
  obtain ⟨hp, hm, hmc, hP, hT, hK⟩ := id hS
  have hl := zpr_lt hp
  have hPa := yPok_a hP
  have hs := hC.1.2.1
  have hzi := zat_in hs (show m ≤ 43 by omega) hi
  have hza := zat_in hs (show m ≤ 43 by omega) ha
  have er := hC.1.2.2.1 i (by omega)
  have co := hC.1.2.2.2.2 i hi
  have ca := hC.1.2.2.2.2 a ha
  -- the flags
  have f0 : zFg (zmark σ (nI i) m) (zup (zwant (zmark σ (nI i) m) 0 m) 4 a 12 1) := zFg_trans (zwant_fg m) (zFg_up (Or.inr rfl))
  obtain ⟨fg, hFo, hWa, hCw⟩ := zflags (σw := zup (zwant (zmark σ (nI i) m) 0 m) 4 a 12 1) hPa hm hi hC.1 hC.2.1 f0 (fun j => by rw [zup_ne (fun q => by omega), zwant_11])
  generalize hσw : zwpar (zup (zwant (zmark σ (nI i) m) 0 m) 4 a 12 1) m = σw at fg hFo hWa hCw
  have want : σw 4 a 12 ≠ 0 := by
    rw [← hσw]
    refine zwpar_mono m _ ?_
    rw [zup_eq]; decide
  have ez : zloS σ a i m = zup (zup σw 6 0 2 0) 8 0 1 0 := by unfold zloS; rw [er, hσw]
  have eqz : zEq σw (zloS σ a i m) := by
    rw [ez]
    intro k' i' j' g
    rw [zup_ne (fun q => by omega), zup_ne (fun q => by omega)]
  have hC0 : zSC p m mc P t cl (zloS σ a i m) := by
    refine zSC_Eq eqz ⟨zFg_Cb (by omega) fg hC.1, fun j hj => zFg_cv fg (hC.2.1 j hj), (fg 7 0 2 (fun q => by omega)).trans hC.2.2.1, fun k hk => ?_⟩
    obtain ⟨c1, c2⟩ := hC.2.2.2 k hk
    exact ⟨(fg 16 k 0 (fun q => by omega)).trans c1, fun i' hi' => (fg 16 k _ (fun q => by omega)).trans (c2 i' hi')⟩
  have told : ∀ x y, x < p → yTok p m P (yto t i x y) := by
    intro x y hx j hj
    by_cases g : j = i
    · subst g; rw [yto_eq]; exact ⟨fun _ => hx, fun q => by omega⟩
    · rw [yto_ne g]; exact hT j hj
  have tx := (hT i hi).1 (by omega)
  have hVok : ∀ x A, V x = some A → yOk p A := fun x A h => by rw [hV] at h; exact (yval_ok hp hP ha h).1
  have hV0 : ∀ x A, V x = some A → A.2.2 = 0 := fun x A h => by rw [hV] at h; exact yval_pt hp hP ha hwa h
  have hlt := ytr_lt hVok
  let Inv : Nat → zMem → Prop := fun n σ1 => ∃ t1, (∀ j, j ≠ i → t1 j = t j) ∧ zCw p m P t1 (fun j => σw 4 j 11 ≠ 0) (fun j => σw 4 j 12 ≠ 0) σ1 ∧ zKx m i (fun j => σw 4 j 11 ≠ 0) (fun j => σw 4 j 12 ≠ 0) (zloS σ a i m) σ1 ∧ zTc (ytr V n) σ1
  have h0 : Inv 0 (zloS σ a i m) := by
    refine ⟨t, fun _ _ => rfl, zCw_Eq eqz hCw, zKx_refl, ?_, ?_, fun j hj => ?_⟩
    · rw [ez, zup_ne (fun q => by omega), zup_eq]; rfl
    · rw [ez, zup_eq]; rfl
    · have hj : j < 0 := hj
      omega
  have fin := sp_lo_3 (p := p) (m := m) (ia := a) (i := i) (a := nI a) (o := nI i) (w := w) (σ := σ) (τ := τ) Inv (fun σ' => zSC p m mc P (yto t i (t i).1 0) cl σ' ∧ zTc (ytr V p) σ') ((hasR_iff hs hm).mpr ⟨a, ha, rfl⟩) ((hasR_iff hs hm).mpr ⟨i, hi, rfl⟩) h3 h4
    (by rw [hza, ca.2.1, zsort_nI (by omega), if_pos hwa]) (by rw [hzi, co.2.1, hwi]; rfl) hs (by omega) hl.2 hzi hza
    (fun n σ1 hI => by obtain ⟨t1, _, h, _⟩ := hI; exact h.1.1.1) h0
    (fun n hn σ1 hI => by
      obtain ⟨t1, ht1, hw1, hk1, htc⟩ := hI
      obtain ⟨σ2, es, hw2, hv2, hk2⟩ := yc_shift (x := n) (yn := 0) (y := 0) (τ := τ) hp hP hm hi hFo hWa (by rw [yto_out ht1]; exact told n 0 hn) hw1 (fun _ => rfl)
      rw [yto_out ht1] at hw2 hv2
      have htc2 : zTc (ytr V n) σ2 := zTc_of (fun k i' j' g => hk2 k i' j' (by omega) (fun q => by omega) (fun q => by omega)) htc
      have hva : zcv σ2 a (V n) := by rw [hV]; exact hv2 a ha want
      obtain ⟨σ3, el, htc3, he3⟩ := c_look (τ := τ) hp ha hm (by have := (ytr_le (V := V) n).1; omega) htc2 (hlt n) hva (fun A hA => ⟨hVok n A hA, hV0 n A hA⟩)
      exact ⟨σ2, σ3, es, el, yto t i n 0, fun j hj => yto_ne hj, zCw_Eq he3 hw2, zKx_trans (zKx_trans hk1 (zKx_Ke hk2)) (zKx_Eq he3), htc3⟩)
    (fun σ1 hI => by
      obtain ⟨t1, ht1, hw1, hk1, htc⟩ := hI
      have e5 : zloS σ a i m 4 i 5 = nI (t i).1 := (eqz 4 i 5 (by omega)).trans ((fg 4 i 5 (fun q => by omega)).trans (co.2.2.2.1 (by omega)))
      rw [e5]
      obtain ⟨σ2, es, hw2, hv2, hk2⟩ := yc_shift (x := (t i).1) (yn := 0) (y := 0) (τ := τ) hp hP hm hi hFo hWa (by rw [yto_out ht1]; exact told _ 0 tx) hw1 (fun _ => rfl)
      rw [yto_out ht1] at hw2 hv2
      refine ⟨σ2, es, ?_, zTc_of (fun k i' j' g => hk2 k i' j' (by omega) (fun q => by omega) (fun q => by omega)) htc⟩
      exact zKx_back (mc := mc) (cl := cl) hm hC0.2.1 hC0.2.2 hFo hPa (zKx_trans hk1 (zKx_Ke hk2)) hw2.1 hv2 (fun j hj => yval_told hPa (fun j' _ => by
        by_cases g : j' = i
        · subst g; rw [yto_eq]; exact ⟨rfl, fun q => by omega⟩
        · rw [yto_ne g]; exact ⟨rfl, fun _ => rfl⟩) (j + 1) j (by omega) hj))
    (fun σ' h => ⟨_, h.2.1, by have := (ytr_le (V := V) p).1; omega⟩) (fun σ' h => h.1.1.1.1)
    (fun σ' h _ => by
      obtain ⟨σ2, e, _⟩ := c_shape (τ := τ) hp h.1.1.1 (by have := (ytr_le (V := V) p).1; omega) h.2 (hlt p)
      exact ⟨_, σ2, e⟩)
    (fun v σ' => v = yloA p (ytr V p) w ∧ zSC p m mc P (yto t i (t i).1 0) cl σ')
    (fun w0 σ' h => by
      refine ⟨?_, h.1⟩
      unfold yloA
      rw [if_pos w0]; exact h.2.1)
    (fun w1 σ' v σ'' h e => by
      obtain ⟨σ2, e2, h14⟩ := c_shape (τ := τ) hp h.1.1.1 (by have := (ytr_le (V := V) p).1; omega) h.2 (hlt p)
      rw [e] at e2
      have e3 := congrArg (fun o : Option zOut => o.map (fun x => x.1)) e2
      have e4 := congrArg (fun o : Option zOut => o.map (fun x => x.2.1)) e2
      simp only [Option.map_some, Option.some.injEq, Sum.inl.injEq, Value.int.injEq] at e3 e4
      refine ⟨?_, ?_⟩
      · unfold yloA
        rw [if_neg (by rw [w1]; decide), if_pos w1]; exact e3
      · rw [e4]; exact zSC_Eq (zEq_14 h14) h.1)
    (fun w2 σ' h => by
      refine ⟨?_, h.1⟩
      unfold yloA
      rw [if_neg (by rw [w2]; decide), if_neg (by rw [w2]; decide), if_pos w2]; exact h.2.2.1)
    (fun n0 n1 n2 σ' m6 h e hm6' => by
      refine ⟨?_, h.1⟩
      have hle := (ytr_le (V := V) p).1
      unfold yloA
      rw [if_neg n0, if_neg n1, if_neg n2]
      have em : m6 = (ytr V p).1 := nI_inj' (by omega) (by omega) (e.symm.trans h.2.1)
      subst em
      exact zsum_eq _ (fun j hj => by
        obtain ⟨a1, a2, _⟩ := h.2.2.2 j hj
        rw [a1, a2]))
  exact fin
theorem zmtS_ne {σ : zMem} {m : Nat} {x y : Int32} {k i j : Nat} (h4 : k ≠ 4) (h5 : k ≠ 5) (h : ¬ (k = 0 ∧ j = 7)) : zmtS σ m x y k i j = σ k i j := by
  unfold zmtS
  rw [zup_ne (fun q => h ⟨q.1, q.2.2⟩), zup_ne (fun q => h5 q.1), zup_ne (fun q => h4 q.1)]
