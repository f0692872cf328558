/-! ===== everywhere ===== -/
/-- what a move or a verdict keeps of the class's memory -/
def zKx (m i : Nat) (Fo Wa : Nat → Prop) (σ σ' : zMem) : Prop := ∀ k' i' j', (k' = 3 ∨ k' = 4 ∨ k' = 5 ∨ k' = 7 ∨ k' = 9 ∨ k' = 10 ∨ k' = 16) → ¬ (k' = 4 ∧ i' = i ∧ (j' = 5 ∨ j' = 6)) → ¬ (k' = 4 ∧ i' < m ∧ Fo i' ∧ Wa i' ∧ 7 ≤ j' ∧ j' ≤ 10) → σ' k' i' j' = σ k' i' j'
theorem zKx_trans {m i : Nat} {Fo Wa : Nat → Prop} {σ σ' σ'' : zMem} (h : zKx m i Fo Wa σ σ') (h' : zKx m i Fo Wa σ' σ'') : zKx m i Fo Wa σ σ'' := fun k' i' j' g1 g2 g3 => (h' k' i' j' g1 g2 g3).trans (h k' i' j' g1 g2 g3)
theorem zKx_refl {m i : Nat} {Fo Wa : Nat → Prop} {σ : zMem} : zKx m i Fo Wa σ σ := fun _ _ _ _ _ _ => rfl
theorem zKx_Ke {m i : Nat} {Fo Wa : Nat → Prop} {σ σ' : zMem} (h : zKe m i Fo Wa σ σ') : zKx m i Fo Wa σ σ' := fun k' i' j' g1 g2 g3 => h k' i' j' (by omega) g2 g3
/-- the same where the objects and claims are kept -/
def zEq (σ σ' : zMem) : Prop := ∀ k' i' j', (k' = 3 ∨ k' = 4 ∨ k' = 5 ∨ k' = 7 ∨ k' = 9 ∨ k' = 10 ∨ k' = 16) → σ' k' i' j' = σ k' i' j'
theorem zEq_14 {σ σ' : zMem} (h : z14 σ σ') : zEq σ σ' := fun k' i' j' g => h k' i' j' (by omega)
theorem zKx_Eq {m i : Nat} {Fo Wa : Nat → Prop} {σ σ' : zMem} (h : zEq σ σ') : zKx m i Fo Wa σ σ' := fun k' i' j' g _ _ => h k' i' j' g
theorem zCw_Eq {p m : Nat} {P : yP} {t : yTo} {Fo Wa : Nat → Prop} {σ σ' : zMem} (h : zEq σ σ') (hC : zCw p m P t Fo Wa σ) : zCw p m P t Fo Wa σ' := by
  obtain ⟨h1, h2, h3⟩ := hC
  refine ⟨zCb_of (fun k i j g => h k i j (by omega)) h1, fun j hj => ?_, fun j hj hw hf => zcv_keep (fun w _ _ => h 4 j w (by omega)) (h3 j hj hw hf)⟩
  rw [h 4 j 11 (by omega), h 4 j 12 (by omega)]
  exact h2 j hj
theorem yto_yto {t : yTo} {i x y a b : Nat} : yto (yto t i x y) i a b = yto t i a b := by
  funext j
  by_cases g : j = i
  · subst g; rw [yto_eq, yto_eq]
  · rw [yto_ne g, yto_ne g, yto_ne g]
theorem yto_id {t : yTo} {i : Nat} : yto t i (t i).1 (t i).2 = t := by
  funext j
  by_cases g : j = i
  · subst g; rw [yto_eq]
  · rw [yto_ne g]
theorem zwcl_fg {σ : zMem} {ic j : Nat} : zFg σ (zwcl σ ic j) := zFg_up (Or.inr rfl)
theorem zwc4_fg {σ : zMem} {ic : Nat} : zFg σ (zwc4 σ ic) := zFg_trans (zFg_trans (zFg_trans zwcl_fg zwcl_fg) zwcl_fg) zwcl_fg
theorem zwcl_mono {σ : zMem} {ic j i' : Nat} (h : σ 4 i' 12 ≠ 0) : zwcl σ ic j 4 i' 12 ≠ 0 := zup_12 h
theorem zwcl_hit {σ : zMem} {m ic j q : Nat} (hs : σ 5 0 2 = nI m) (hm : m ≤ 43) (hq : q < m) (h : σ 16 ic j = nI q) : zwcl σ ic j 4 q 12 ≠ 0 := by
  unfold zwcl
  rw [h, zat_in hs hm hq, zup_eq]
  decide
theorem zwc4_hit {σ : zMem} {m ic i q : Nat} (hs : σ 5 0 2 = nI m) (hm : m ≤ 43) (hi : i < 4) (hq : q < m) (h : σ 16 ic (1 + i) = nI q) : zwc4 σ ic 4 q 12 ≠ 0 := by
  have keep : ∀ {σ' : zMem}, zFg σ σ' → σ' 5 0 2 = nI m ∧ σ' 16 ic (1 + i) = nI q := fun {σ'} f => ⟨(f 5 0 2 (fun q => by omega)).trans hs, (f 16 ic _ (fun q => by omega)).trans h⟩
  have f1 : zFg σ (zwcl σ ic 1) := zwcl_fg
  have f2 := zFg_trans f1 (zwcl_fg (σ := zwcl σ ic 1) (ic := ic) (j := 2))
  have f3 := zFg_trans f2 (zwcl_fg (σ := zwcl (zwcl σ ic 1) ic 2) (ic := ic) (j := 3))
  rcases four hi with g | g | g | g <;> subst g
  · exact zwcl_mono (zwcl_mono (zwcl_mono (zwcl_hit hs hm hq h)))
  · exact zwcl_mono (zwcl_mono (zwcl_hit (keep f1).1 hm hq (keep f1).2))
  · exact zwcl_mono (zwcl_hit (keep f2).1 hm hq (keep f2).2)
  · exact zwcl_hit (keep f3).1 hm hq (keep f3).2
theorem zwcl_11 {σ : zMem} {ic j i' : Nat} : zwcl σ ic j 4 i' 11 = σ 4 i' 11 := zup_ne (fun q => by omega)
theorem zwc4_11 {σ : zMem} {ic i' : Nat} : zwc4 σ ic 4 i' 11 = σ 4 i' 11 := (zwcl_11.trans zwcl_11).trans (zwcl_11.trans zwcl_11)
/-- flags set: what follows, and what is wanted with its parents -/
theorem zflags {p m i : Nat} {P : yP} {t : yTo} {σ σw : zMem} (hP : yPa m P) (hm : m ≤ 40) (hi : i < m) (hB : zCb p m P t σ) (hv : ∀ j, j < m → zcv σ j (yval p P t j)) (hf : zFg (zmark σ (nI i) m) σw) (h11 : ∀ j, σw 4 j 11 = zmark σ (nI i) m 4 j 11) :
    zFg σ (zwpar σw m) ∧ yFo m P i (fun j => zwpar σw m 4 j 11 ≠ 0) ∧ yWa m P (fun j => zwpar σw m 4 j 12 ≠ 0) ∧ zCw p m P t (fun j => zwpar σw m 4 j 11 ≠ 0) (fun j => zwpar σw m 4 j 12 ≠ 0) (zwpar σw m) := by
  have f0 := zFg_trans (zmark_fg (σ := σ) (r := nI i) m (by omega)) hf
  have fg := zFg_trans f0 (zwpar_fg m σw)
  have e11 : (fun j => zwpar σw m 4 j 11 ≠ 0) = fun j => zmark σ (nI i) m 4 j 11 ≠ 0 := by funext j; rw [zwpar_11, h11]
  refine ⟨fg, ?_, fun j hj hw k hk q hq => ?_, zFg_Cb (by omega) fg hB, fun j hj => ⟨Iff.rfl, Iff.rfl⟩, fun j hj _ _ => zFg_cv fg (hv j hj)⟩
  · rw [e11]
    exact zmark_Fo hP (by omega) hi hB
  · exact zwpar_clo hP (show m ≤ 43 by omega) m σw (Nat.le_refl m) (zFg_Cb (by omega) f0 hB) j hj hw k hk q hq
theorem zKx_back {p m mc i x y : Nat} {P : yP} {t : yTo} {cl : yCl} {Fo Wa : Nat → Prop} {σ0 σ1 : zMem} (hm : m ≤ 40) (hv0 : ∀ j, j < m → zcv σ0 j (yval p P t j)) (hc0 : zCc mc cl σ0) (hF : yFo m P i Fo) (hP : yPa m P) (hk : zKx m i Fo Wa σ0 σ1) (h1 : zCb p m P (yto t i x y) σ1) (hw : ∀ j, j < m → Wa j → zcv σ1 j (yval p P (yto t i x y) j)) (hsame : ∀ j, j < m → yval p P (yto t i x y) j = yval p P t j) : zSC p m mc P (yto t i x y) cl σ1 := by
  refine ⟨h1, fun j hj => ?_, (hk 7 0 2 (by omega) (fun q => by omega) (fun q => by omega)).trans hc0.1, fun k hk' => ?_⟩
  · by_cases g : Wa j
    · exact hw j hj g
    · rw [hsame j hj]
      exact zcv_keep (fun w a b => hk 4 j w (by omega) (fun q => by omega) (fun q => g q.2.2.2.1)) (hv0 j hj)
  · obtain ⟨c1, c2⟩ := hc0.2 k hk'
    exact ⟨(hk 16 k 0 (by omega) (fun q => by omega) (fun q => by omega)).trans c1, fun i' hi' => (hk 16 k _ (by omega) (fun q => by omega) (fun q => by omega)).trans (c2 i' hi')⟩
theorem c_ev {p m mc k i : Nat} {P : yP} {t : yTo} {cl : yCl} {σ : zMem} {τ : zTmp} {w : Int32} (hS : zSt p m mc P t cl) (hC : zSC p m mc P t cl σ) (hk : k < mc) (hi : i < m) (hw0 : P.1 i = 0) (h3 : ¬ w < 0) (h4 : w ≤ 2) (V : Nat → Nat → Int32) (hV : V = fun x y => yver p (yval p P (yto t i x y)) (cl.1 k) (cl.2 k)) :
    ∃ σ', m_X8_everywhere [zO 0 0, zI (nI k), zI (nI i), zI w] (σ, τ) = some (.inl (some (zI (if w = 0 then (zex V p p 0 (0, 0, -1)).1 else if w = 1 then (zex V p p 0 (0, 0, -1)).2.1 else (zex V p p 0 (0, 0, -1)).2.2))), (σ', τ)) ∧ zSC p m mc P t cl σ' := by
  obtain ⟨hp, hm, hmc, hP, hT, hK⟩ := id hS
  have hl := zpr_lt hp
  have hPa := yPok_a hP
  have hs := hC.1.2.1
  have hz := zat_in hs (show m ≤ 43 by omega) hi
  have hzc := zclat_in hC.2.2.1 hmc hk
  have er := hC.1.2.2.1 i (by omega)
  have co := hC.1.2.2.2.2 i hi
  obtain ⟨hc0, hc1⟩ := hC.2.2.2 k hk
  have ez : zevS σ i k m = zwpar (zwc4 (zwant (zmark σ (nI i) m) 0 m) k) m := by unfold zevS; rw [er]
  obtain ⟨fg, hFo, hWa, hCw⟩ := zflags (σw := zwc4 (zwant (zmark σ (nI i) m) 0 m) k) hPa hm hi hC.1 hC.2.1 (zFg_trans (zwant_fg m) zwc4_fg) (fun j => by rw [zwc4_11, zwant_11])
  rw [← ez] at fg hFo hWa hCw
  have want : ∀ i' q, i' < 4 → cl.2 k i' = some q → q < m ∧ zevS σ i k m 4 q 12 ≠ 0 := by
    intro i' q hi' hq
    have hqm : q < m := by
      obtain ⟨_, ho⟩ := hK k hk
      by_cases g : i' < zna (cl.1 k)
      · obtain ⟨q', e, l, _⟩ := (ho i' hi').1 g
        rw [hq] at e
        have := Option.some.inj e
        omega
      · rw [(ho i' hi').2 (by omega)] at hq
        exact absurd hq (by simp)
    refine ⟨hqm, ?_⟩
    rw [ez]
    refine zwpar_mono m _ ?_
    have f := zFg_trans (zmark_fg (σ := σ) (r := nI i) m (by omega)) (zwant_fg (b := 0) m)
    refine zwc4_hit (m := m) ((f 5 0 2 (fun q => by omega)).trans hs) (by omega) hi' hqm ((f 16 k _ (fun q => by omega)).trans ?_)
    rw [hc1 i' hi', hq]; rfl
  let Inv : zMem → Prop := fun σ1 => ∃ x y, zCw p m P (yto t i x y) (fun j => zevS σ i k m 4 j 11 ≠ 0) (fun j => zevS σ i k m 4 j 12 ≠ 0) σ1 ∧ zKx m i (fun j => zevS σ i k m 4 j 11 ≠ 0) (fun j => zevS σ i k m 4 j 12 ≠ 0) (zevS σ i k m) σ1
  have told : ∀ x y, x < p → y < p → yTok p m P (yto t i x y) := by
    intro x y hx hy j hj
    by_cases g : j = i
    · subst g; rw [yto_eq]; exact ⟨fun _ => hx, fun _ => hy⟩
    · rw [yto_ne g]; exact hT j hj
  have tx := (hT i hi).1 (by omega)
  have ty := (hT i hi).2 hw0
  have hc0' : zCc mc cl (zevS σ i k m) := ⟨(fg 7 0 2 (fun q => by omega)).trans hC.2.2.1, fun k' hk' => by
    obtain ⟨c1, c2⟩ := hC.2.2.2 k' hk'
    exact ⟨(fg 16 k' 0 (fun q => by omega)).trans c1, fun i' hi' => (fg 16 k' _ (fun q => by omega)).trans (c2 i' hi')⟩⟩
  have hfin := sp_ev_3 (p := p) (m := m) (i := i) (ic := k) (n := nI k) (o := nI i) (w := w) (σ := σ) (τ := τ) V Inv (fun σ' => zSC p m mc P t cl σ') ((hasC_iff hC.2.2.1 hmc).mpr ⟨k, hk, rfl⟩) ((hasR_iff hs hm).mpr ⟨i, hi, rfl⟩) h3 h4 (by rw [hz, co.2.1, hw0]; rfl) hs (by omega) hl.2 hz hzc
    ((fg 3 0 0 (fun q => by omega)).trans hC.1.1.1) (by
      have f : zFg σ (zmark σ (σ 4 i 0) m) := zmark_fg m (by omega)
      exact zclat_in ((f 7 0 2 (fun q => by omega)).trans hC.2.2.1) hmc hk)
    ⟨(t i).1, (t i).2, by rw [yto_id]; exact hCw, zKx_refl⟩
    (fun x y hx hy σ1 hI => by
      obtain ⟨a, b, hw1, hk1⟩ := hI
      obtain ⟨σ2, es, hw2, hv2, hk2⟩ := yc_shift (x := x) (yn := y) (y := nI y) (τ := τ) hp hP hm hi hFo hWa (by rw [yto_yto]; exact told x y hx hy) hw1 (fun _ => rfl)
      rw [yto_yto] at hw2 hv2
      have hk3 := zKx_trans hk1 (zKx_Ke hk2)
      obtain ⟨c1, c2⟩ := hc0'.2 k hk
      obtain ⟨σ3, ev, h14⟩ := c_verdict (τ := τ) hp (show m ≤ 43 by omega) (show k < 21 by omega) (zCv_of (t := yto t i x y) hp hm hP hK hk hw2.1.1 hw2.1.2.1 hw2.1.2.2.2.1.1 (fun i' q hi' hq => hv2 q (want i' q hi' hq).1 (want i' q hi' hq).2))
        ((hk3 16 k 0 (by omega) (fun q => by omega) (fun q => by omega)).trans c1) (fun i' hi' => (hk3 16 k _ (by omega) (fun q => by omega) (fun q => by omega)).trans (c2 i' hi'))
      refine ⟨σ2, σ3, es, ?_, x, y, zCw_Eq (zEq_14 h14) hw2, zKx_trans hk3 (zKx_Eq (zEq_14 h14))⟩
      rw [hV]
      exact ev)
    (fun σ1 hI => by
      obtain ⟨a, b, hw1, hk1⟩ := hI
      have e5 : zevS σ i k m 4 i 5 = nI (t i).1 := (fg 4 i 5 (fun q => by omega)).trans (co.2.2.2.1 (by omega))
      have e6 : zevS σ i k m 4 i 6 = nI (t i).2 := (fg 4 i 6 (fun q => by omega)).trans (co.2.2.2.2 hw0)
      rw [e5, e6]
      obtain ⟨σ2, es, hw2, hv2, hk2⟩ := yc_shift (x := (t i).1) (yn := (t i).2) (y := nI (t i).2) (τ := τ) hp hP hm hi hFo hWa (by rw [yto_yto]; exact told _ _ tx ty) hw1 (fun _ => rfl)
      rw [yto_yto] at hw2 hv2
      refine ⟨σ2, es, ?_⟩
      have b := zKx_back (mc := mc) (cl := cl) hm (fun j hj => zFg_cv fg (hC.2.1 j hj)) hc0' hFo hPa (zKx_trans hk1 (zKx_Ke hk2)) hw2.1 hv2 (fun j _ => by rw [yto_id])
      rw [yto_id] at b
      exact b)
  exact hfin
