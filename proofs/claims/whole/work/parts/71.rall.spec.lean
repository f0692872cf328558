/-! ===== the reference finds all anew ===== -/
def zrv (σ : zMem) (j : Nat) (v : Option yT) : Prop := match v with
  | none => zg σ j 7 = 1
  | some A => zg σ j 7 = 0 ∧ zValR σ j A
def zRo (P : yP) (t : yTo) (σ : zMem) (j : Nat) : Prop := zg σ j 0 = zsort (nI (P.1 j)) ∧ zg σ j 1 = nI (P.1 j) ∧ (∀ k, k < 3 → zg σ j (2 + k) = yq (P.2 j k)) ∧ (P.1 j < 2 → zg σ j 5 = nI (t j).1) ∧ (P.1 j = 0 → zg σ j 6 = nI (t j).2)
def zRb (p m : Nat) (P : yP) (t : yTo) (σ : zMem) : Prop := σ 0 0 1 = nI p ∧ σ 0 0 2 = nI m ∧ ∀ j, j < m → zRo P t σ j
/-- what finding keeps -/
def zKr (σ σ' : zMem) : Prop := (∀ k i j, k ≠ 1 → k ≠ 3 → σ' k i j = σ k i j) ∧ ∀ o w, w < 7 → zg σ' o w = zg σ o w
theorem zKr_refl {σ : zMem} : zKr σ σ := ⟨fun _ _ _ _ _ => rfl, fun _ _ _ => rfl⟩
theorem zKr_trans {σ σ' σ'' : zMem} (h : zKr σ σ') (h' : zKr σ' σ'') : zKr σ σ'' := ⟨fun k i j h1 h2 => (h'.1 k i j h1 h2).trans (h.1 k i j h1 h2), fun o w hw => (h'.2 o w hw).trans (h.2 o w hw)⟩
theorem zKr_L3 {σ σ' : zMem} (h : zL3 σ σ') : zKr σ σ' := ⟨fun k i j _ h2 => h k i j h2, fun o w _ => zL3_g h o w⟩
theorem zKr_up {σ : zMem} {o w : Nat} {x : Int32} (h7 : 7 ≤ w) (h10 : w ≤ 10) : zKr σ (zup σ 1 0 (11 * o + w) x) := ⟨fun k i j h1 _ => zup_ne (fun q => h1 q.1), fun o' w' hw => zup_ne (fun q => by omega)⟩
theorem zKr_Rb {p m : Nat} {P : yP} {t : yTo} {σ σ' : zMem} (h : zKr σ σ') (hB : zRb p m P t σ) : zRb p m P t σ' := by
  obtain ⟨h1, h2, ho⟩ := hB
  refine ⟨(h.1 0 0 1 (by decide) (by decide)).trans h1, (h.1 0 0 2 (by decide) (by decide)).trans h2, fun j hj => ?_⟩
  obtain ⟨o1, o2, o3, o4, o5⟩ := ho j hj
  exact ⟨(h.2 j 0 (by decide)).trans o1, (h.2 j 1 (by decide)).trans o2, fun k hk => (h.2 j (2 + k) (by omega)).trans (o3 k hk), fun g => (h.2 j 5 (by decide)).trans (o4 g), fun g => (h.2 j 6 (by decide)).trans (o5 g)⟩
theorem zrv_keep {σ σ' : zMem} {j : Nat} {v : Option yT} (h : ∀ w, 7 ≤ w → w ≤ 10 → zg σ' j w = zg σ j w) (hv : zrv σ j v) : zrv σ' j v := by
  cases v with
  | none => exact (h 7 (by decide) (by decide)).trans hv
  | some A => exact ⟨(h 7 (by decide) (by decide)).trans hv.1, (h 8 (by decide) (by decide)).trans hv.2.1, (h 9 (by decide) (by decide)).trans hv.2.2.1, (h 10 (by decide) (by decide)).trans hv.2.2.2⟩
theorem zrv_01 {σ : zMem} {j : Nat} {v : Option yT} (h : zrv σ j v) : (zg σ j 7 = 1 ↔ v = none) ∧ (zg σ j 7 = 0 ∨ zg σ j 7 = 1) := by
  have n10 : ¬ (0 : Int32) = 1 := by decide
  cases v with
  | none =>
    have h : zg σ j 7 = 1 := h
    rw [h]
    exact ⟨⟨fun _ => rfl, fun _ => rfl⟩, Or.inr rfl⟩
  | some A =>
    have h : zg σ j 7 = 0 := h.1
    rw [h]
    exact ⟨⟨fun g => absurd g n10, fun g => absurd g (by simp)⟩, Or.inl rfl⟩
theorem zpo_v {p m j k : Nat} {P : yP} {t : yTo} {σ : zMem} {v : Nat → Option yT} (hB : zRb p m P t σ) (hm : m ≤ 40) (hP : yPa m P) (hj : j < m) (hk : k < 3) (hv : ∀ q, P.2 j k = some q → zrv σ q (v q)) : zpo σ j k ↔ ypv v (P.2 j k) ≠ none := by
  obtain ⟨_, _, ho⟩ := hB
  have e := (ho j hj).2.2.1 k hk
  unfold zpo
  rw [e]
  cases hq : P.2 j k with
  | none => exact ⟨fun _ => by simp [ypv], fun _ => Or.inl rfl⟩
  | some q =>
    have hqj := hP j hj k hk q hq
    have l := (zrv_01 (hv q hq)).1
    constructor
    · rintro (g | ⟨q', h1, h2, h3⟩)
      · have n : ¬ nI q = -1 := fun g => by
          have := nI_pos' (n := q) (by omega)
          rw [g] at this
          exact absurd this (by decide)
        exact absurd g n
      · have : q = q' := nI_inj' (by omega) (by omega) h2
        subst this
        exact fun g => h3 (l.mpr g)
    · intro g
      exact Or.inr ⟨q, by omega, rfl, fun g' => g (l.mp g')⟩
theorem zpk_of {p m j : Nat} {P : yP} {t : yTo} {σ : zMem} (hB : zRb p m P t σ) (hm : m ≤ 40) (hP : yPa m P) (hj : j < m) : zpk σ j := by
  intro k hk
  rw [(hB.2.2 j hj).2.2.1 k hk]
  cases hq : P.2 j k with
  | none => exact Or.inl rfl
  | some q => exact Or.inr ⟨q, by have := hP j hj k hk q hq; omega, rfl⟩
theorem r_findAll {p m : Nat} {P : yP} {t : yTo} {σ : zMem} {τ : zTmp} (hp : zpr p) (hP : yPok m P) (hm : m ≤ 40) (hT : yTok p m P t) (hB : zRb p m P t σ) : ∃ σ', m_X9_findAll [zO 0 0] (σ, τ) = some (.inl none, (σ', τ)) ∧ zRb p m P t σ' ∧ (∀ j, j < m → zrv σ' j (yval p P t j)) ∧ zKr σ σ' := by
  have hPa := yPok_a hP
  have h43 := (zpr_lt hp).2
  let Inv : Nat → zMem → Prop := fun o σ1 => zKr σ σ1 ∧ ∀ q, q < o → q < m → zrv σ1 q (yval p P t q)
  have base : ∀ o σ1, Inv o σ1 → zRb p m P t σ1 := fun o σ1 hI => zKr_Rb hI.1 hB
  have grow : ∀ o (σ1 σ2 : zMem), o < m → Inv o σ1 → zKr σ1 σ2 → (∀ j w, j ≠ o → zg σ2 j w = zg σ1 j w ∨ 11 ≤ w) → zrv σ2 o (yval p P t o) → Inv (o + 1) σ2 := by
    intro o σ1 σ2 ho hI hk hz hv
    refine ⟨zKr_trans hI.1 hk, fun q hq hqm => ?_⟩
    rcases Nat.eq_or_lt_of_le (Nat.le_of_lt_succ hq) with g | g
    · subst g; exact hv
    · exact zrv_keep (fun w _ h10 => (hz q w (by omega)).elim id (fun h => by omega)) (hI.2 q g hqm)
  have up : ∀ (σ1 : zMem) (o w : Nat) (x : Int32), w ≤ 10 → ∀ j w', j ≠ o → zg (zup σ1 1 0 (11 * o + w) x) j w' = zg σ1 j w' ∨ 11 ≤ w' := by
    intro σ1 o w x hw j w' hj
    by_cases g : 11 ≤ w'
    · exact Or.inr g
    · exact Or.inl (zup_ne (fun q => by omega))
  obtain ⟨σ', e, hI⟩ := rp_findAll (m := m) (σ := σ) (τ := τ) Inv hm ⟨zKr_refl, fun q h => by omega⟩ (fun o σ1 hI => (base o σ1 hI).2.1) (fun o σ1 ho hI => zpk_of (base o σ1 hI) hm hPa ho)
    (fun o σ1 ho hI hn => by
      have hBo := base o σ1 hI
      have par : ∀ k, k < 3 → (zpo σ1 o k ↔ ypv (yval p P t) (P.2 o k) ≠ none) := fun k hk => zpo_v hBo hm hPa ho hk (fun q hq => hI.2 q (hPa o ho k hk q hq) (by have := hPa o ho k hk q hq; omega))
      have hnone : yval p P t o = none := by
        rw [yval_st hPa ho]
        cases h0 : ypv (yval p P t) (P.2 o 0) with
        | none => unfold yst; rw [h0]
        | some A =>
          cases h1 : ypv (yval p P t) (P.2 o 1) with
          | none => unfold yst; rw [h0, h1]
          | some B =>
            cases h2 : ypv (yval p P t) (P.2 o 2) with
            | none => unfold yst; rw [h0, h1, h2]
            | some C =>
              refine absurd (fun k hk => ?_) hn
              have : k = 0 ∨ k = 1 ∨ k = 2 := by omega
              rcases this with g | g | g <;> subst g
              · exact (par 0 hk).mpr (by rw [h0]; simp)
              · exact (par 1 hk).mpr (by rw [h1]; simp)
              · exact (par 2 hk).mpr (by rw [h2]; simp)
      refine grow o σ1 (zfd0 σ1 o) ho hI (zKr_up (by decide) (by decide)) (up σ1 o 7 1 (by decide)) ?_
      rw [hnone]
      exact zup_eq)
    (fun o σ1 ho hI hn => by
      have hBo := base o σ1 hI
      obtain ⟨b1, b2, bo⟩ := hBo
      have hBo : zRb p m P t σ1 := ⟨b1, b2, bo⟩
      obtain ⟨_, ow, oq, ox, oy⟩ := bo o ho
      obtain ⟨hy, ⟨a0, a1⟩, ⟨c0, c1⟩, ⟨d0, d1⟩⟩ := hP o ho
      have hvq : ∀ k, k < 3 → ∀ q, P.2 o k = some q → zrv σ1 q (yval p P t q) := fun k hk q hq => hI.2 q (hPa o ho k hk q hq) (by have := hPa o ho k hk q hq; omega)
      have par : ∀ k, k < 3 → ypv (yval p P t) (P.2 o k) ≠ none := fun k hk => (zpo_v hBo hm hPa ho hk (hvq k hk)).mp (hn k hk)
      obtain ⟨A, hA⟩ := Option.ne_none_iff_exists'.mp (par 0 (by decide))
      obtain ⟨B, hBv⟩ := Option.ne_none_iff_exists'.mp (par 1 (by decide))
      obtain ⟨C, hC⟩ := Option.ne_none_iff_exists'.mp (par 2 (by decide))
      have hst : yval p P t o = yF p (P.1 o) (t o).1 (t o).2 A B C := by rw [yval_st hPa ho]; unfold yst; rw [hA, hBv, hC]
      have q0 : ∃ a, a < 40 ∧ (P.1 o ≠ 0 → zg σ1 o 2 = nI a ∧ zValR σ1 a A ∧ yA p (P.1 o) A) := by
        by_cases g : P.1 o = 0
        · exact ⟨0, by decide, fun h => absurd g h⟩
        · obtain ⟨a, ea, la, sa⟩ := a1 g
          refine ⟨a, by omega, fun _ => ?_⟩
          have e := oq 0 (by decide)
          have vv := hvq 0 (by decide) a ea
          rw [ea] at e hA
          have hA : yval p P t a = some A := hA
          rw [hA] at vv
          have ff := yval_ok hp hP (by omega) hA
          exact ⟨e, vv.2, ff.1, fun q => ff.2 (sa q).1 (sa q).2⟩
      have q1 : ∃ a, a < 40 ∧ (2 ≤ P.1 o → zg σ1 o 3 = nI a ∧ zValR σ1 a B ∧ yBq p (P.1 o) B) := by
        by_cases g : P.1 o < 2
        · exact ⟨0, by decide, fun h => by omega⟩
        · obtain ⟨a, ea, la, sa⟩ := c1 (by omega)
          refine ⟨a, by omega, fun _ => ?_⟩
          have e := oq 1 (by decide)
          have vv := hvq 1 (by decide) a ea
          rw [ea] at e hBv
          have hBv : yval p P t a = some B := hBv
          rw [hBv] at vv
          have ff := yval_ok hp hP (by omega) hBv
          exact ⟨e, vv.2, ff.1, fun q => ff.2 (sa q).1 (sa q).2⟩
      have q2 : ∃ a, a < 40 ∧ (21 ≤ P.1 o → zg σ1 o 4 = nI a ∧ zValR σ1 a C ∧ yOk p C) := by
        by_cases g : P.1 o < 21
        · exact ⟨0, by decide, fun h => by omega⟩
        · obtain ⟨a, ea, la⟩ := d1 (by omega)
          refine ⟨a, by omega, fun _ => ?_⟩
          have e := oq 2 (by decide)
          have vv := hvq 2 (by decide) a ea
          rw [ea] at e hC
          have hC : yval p P t a = some C := hC
          rw [hC] at vv
          exact ⟨e, vv.2, (yval_ok hp hP (by omega) hC).1⟩
      obtain ⟨a, la, ha⟩ := q0
      obtain ⟨b, lb, hb⟩ := q1
      obtain ⟨c, lc, hc⟩ := q2
      have d := r_find (x := (t o).1) (y := (t o).2) (τ := τ) (A := A) (B := B) (C := C) hp b1 (show o < 40 by omega) la lb lc ow hy (fun g => (ha g).1) (fun g => (hb g).1) (fun g => (hc g).1)
        (fun g => by rw [ox g]; exact yB_n (by have := (hT o ho).1 g; omega)) (fun g => by rw [oy g]; exact yB_n (by have := (hT o ho).2 g; omega)) (fun g => (ha g).2) (fun g => (hb g).2) (fun g => (hc g).2)
      cases hR : yF p (P.1 o) (t o).1 (t o).2 A B C with
      | none =>
        rw [hR] at d
        obtain ⟨σ2, ed, hL⟩ := d
        refine ⟨0, σ2, Or.inl ⟨rfl, ?_⟩, ed⟩
        refine grow o σ1 (zfd0 σ2 o) ho hI (zKr_trans (zKr_L3 hL) (zKr_up (by decide) (by decide))) (fun j w hj => ?_) ?_
        · rcases up σ2 o 7 1 (by decide) j w hj with g | g
          · exact Or.inl (g.trans (zL3_g hL j w))
          · exact Or.inr g
        · rw [hst, hR]
          exact zup_eq
      | some R =>
        rw [hR] at d
        obtain ⟨σ2, ed, hL, l0, l1, l2⟩ := d
        refine ⟨1, σ2, Or.inr ⟨rfl, ?_⟩, ed⟩
        have k3 : ∀ k, zKr σ2 (zfdk σ2 o k) ∨ 3 < k := by
          intro k
          by_cases g : 3 < k
          · exact Or.inr g
          refine Or.inl ?_
          have : k = 0 ∨ k = 1 ∨ k = 2 ∨ k = 3 := by omega
          have s0 : zKr σ2 (zfdk σ2 o 0) := zKr_up (w := 7) (by decide) (by decide)
          have s1 : zKr σ2 (zfdk σ2 o 1) := zKr_trans s0 (zKr_up (w := 8) (by decide) (by decide))
          have s2 : zKr σ2 (zfdk σ2 o 2) := zKr_trans s1 (zKr_up (w := 9) (by decide) (by decide))
          have s3 : zKr σ2 (zfdk σ2 o 3) := zKr_trans s2 (zKr_up (w := 10) (by decide) (by decide))
          rcases this with g | g | g | g <;> subst g <;> assumption
        have kk := (k3 3).elim id (fun h => by omega)
        have laid : ∀ k j, zfdk σ2 o k 3 0 j = σ2 3 0 j := by
          intro k j
          induction k with
          | zero => exact zup_ne (fun q => by omega)
          | succ k ih => exact (zup_ne (fun q => by omega)).trans ih
        refine grow o σ1 (zfdk σ2 o 3) ho hI (zKr_trans (zKr_L3 hL) kk) (fun j w hj => ?_) ?_
        · by_cases g : 11 ≤ w
          · exact Or.inr g
          refine Or.inl ?_
          have : zg (zfdk σ2 o 3) j w = zg σ2 j w := by
            show zfdk σ2 o 3 1 0 (11 * j + w) = σ2 1 0 (11 * j + w)
            show zup (zup (zup (zup σ2 1 0 (11 * o + 7) 0) 1 0 (11 * o + 8 + 0) _) 1 0 (11 * o + 8 + 1) _) 1 0 (11 * o + 8 + 2) _ 1 0 (11 * j + w) = _
            rw [zup_ne (fun q => by omega), zup_ne (fun q => by omega), zup_ne (fun q => by omega), zup_ne (fun q => by omega)]
          exact this.trans (zL3_g hL j w)
        · rw [hst, hR]
          refine ⟨?_, ?_, ?_, ?_⟩
          · show zup (zup (zup (zup σ2 1 0 (11 * o + 7) 0) 1 0 (11 * o + 8 + 0) _) 1 0 (11 * o + 8 + 1) _) 1 0 (11 * o + 8 + 2) _ 1 0 (11 * o + 7) = 0
            rw [zup_ne (fun q => by omega), zup_ne (fun q => by omega), zup_ne (fun q => by omega), zup_eq]
          · show zup (zup (zup (zup σ2 1 0 (11 * o + 7) 0) 1 0 (11 * o + 8 + 0) (zfdk σ2 o 0 3 0 0)) 1 0 (11 * o + 8 + 1) _) 1 0 (11 * o + 8 + 2) _ 1 0 (11 * o + 8) = nI R.1
            rw [zup_ne (fun q => by omega), zup_ne (fun q => by omega), zup_eq, laid, l0]
          · show zup (zup (zup (zup σ2 1 0 (11 * o + 7) 0) 1 0 (11 * o + 8 + 0) _) 1 0 (11 * o + 8 + 1) (zfdk σ2 o 1 3 0 1)) 1 0 (11 * o + 8 + 2) _ 1 0 (11 * o + 9) = nI R.2.1
            rw [zup_ne (fun q => by omega), zup_eq, laid, l1]
          · show zup (zup (zup (zup σ2 1 0 (11 * o + 7) 0) 1 0 (11 * o + 8 + 0) _) 1 0 (11 * o + 8 + 1) _) 1 0 (11 * o + 8 + 2) (zfdk σ2 o 2 3 0 2) 1 0 (11 * o + 10) = nI R.2.2
            rw [zup_eq, laid, l2])
  exact ⟨σ', e, base m σ' hI, fun j hj => hI.2 j hj hj, hI.1⟩
/-- a point is placed -/
theorem r_place {p m i x : Nat} {y : Int32} {yn : Nat} {P : yP} {t : yTo} {σ : zMem} {τ : zTmp} (hp : zpr p) (hP : yPok m P) (hm : m ≤ 40) (hi : i < m) (hT : yTok p m P (yto t i x yn)) (hB : zRb p m P t σ) (hy : P.1 i = 0 → y = nI yn) :
    ∃ σ', m_X9_place [zO 0 0, zI (nI i), zI (nI x), zI y] (σ, τ) = some (.inl none, (σ', τ)) ∧ zRb p m P (yto t i x yn) σ' ∧ (∀ j, j < m → zrv σ' j (yval p P (yto t i x yn) j)) ∧ (∀ k i j, k ≠ 1 → k ≠ 3 → σ' k i j = σ k i j) ∧ (∀ o w, w < 7 → ¬ (o = i ∧ 5 ≤ w) → zg σ' o w = zg σ o w) ∧ zg σ' i 6 = y := by
  have hB1 : zRb p m P (yto t i x yn) (zup (zup σ 1 0 (11 * i + 5) (nI x)) 1 0 (11 * i + 6) y) := by
    obtain ⟨h1, h2, ho⟩ := hB
    have e : ∀ o w, w < 11 → ¬ (o = i ∧ (w = 5 ∨ w = 6)) → zg (zup (zup σ 1 0 (11 * i + 5) (nI x)) 1 0 (11 * i + 6) y) o w = zg σ o w := by
      intro o w hw g
      show zup _ 1 0 (11 * i + 6) y 1 0 (11 * o + w) = _
      rw [zup_ne (fun q => by omega), zup_ne (fun q => by omega)]
      rfl
    refine ⟨(zup_ne (fun q => by omega)).trans ((zup_ne (fun q => by omega)).trans h1), (zup_ne (fun q => by omega)).trans ((zup_ne (fun q => by omega)).trans h2), fun j hj => ?_⟩
    obtain ⟨o1, o2, o3, o4, o5⟩ := ho j hj
    refine ⟨(e j 0 (by decide) (fun q => by omega)).trans o1, (e j 1 (by decide) (fun q => by omega)).trans o2, fun k hk => (e j (2 + k) (by omega) (fun q => by omega)).trans (o3 k hk), fun g => ?_, fun g => ?_⟩
    · by_cases hji : j = i
      · subst hji
        rw [yto_eq]
        show zup _ 1 0 (11 * j + 6) y 1 0 (11 * j + 5) = _
        rw [zup_ne (fun q => by omega), zup_eq]
      · rw [yto_ne hji]
        exact (e j 5 (by decide) (fun q => hji q.1)).trans (o4 g)
    · by_cases hji : j = i
      · subst hji
        rw [yto_eq, ← hy g]
        show zup _ 1 0 (11 * j + 6) y 1 0 (11 * j + 6) = _
        rw [zup_eq]
      · rw [yto_ne hji]
        exact (e j 6 (by decide) (fun q => hji q.1)).trans (o5 g)
  obtain ⟨σ', ef, hR, hv, hk⟩ := r_findAll (τ := τ) hp hP hm hT hB1
  refine ⟨σ', rp_place (by omega) ef, hR, hv, fun k i' j h1 h2 => ?_, fun o w hw g => ?_, ?_⟩
  · rw [hk.1 k i' j h1 h2, zup_ne (fun q => h1 q.1), zup_ne (fun q => h1 q.1)]
  · rw [hk.2 o w hw]
    show zup _ 1 0 (11 * i + 6) y 1 0 (11 * o + w) = _
    rw [zup_ne (fun q => by omega), zup_ne (fun q => by omega)]
    rfl
  · rw [hk.2 i 6 (by decide)]
    exact zup_eq
