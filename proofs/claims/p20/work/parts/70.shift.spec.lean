/-! ===== the class moves a point ===== -/
theorem zup_ne {σ : zMem} {k i j k' i' j' : Nat} {x : Int32} (h : ¬ (k' = k ∧ i' = i ∧ j' = j)) : zup σ k i j x k' i' j' = σ k' i' j' := by
  unfold zup
  by_cases q1 : k' = k
  · by_cases q2 : i' = i
    · by_cases q3 : j' = j
      · exact absurd ⟨q1, q2, q3⟩ h
      · simp [q3]
    · simp [q2]
  · simp [q1]
theorem zup_eq {σ : zMem} {k i j : Nat} {x : Int32} : zup σ k i j x k i j = x := by simp [zup]
theorem zField_of {p : Nat} {σ σ' : zMem} (h : ∀ k' j', (k' = 3 ∨ k' = 9 ∨ k' = 10) → σ' k' 0 j' = σ k' 0 j') (hF : zField σ p) : zField σ' p := ⟨(h 3 0 (Or.inl rfl)).trans hF.1, fun n hn => (h 9 n (Or.inr (Or.inl rfl))).trans (hF.2.1 n hn), fun n hn => (h 10 n (Or.inr (Or.inr rfl))).trans (hF.2.2 n hn)⟩
theorem zCb_keep {p m : Nat} {P : yP} {t : yTo} {σ σ' : zMem} (hm : m ≤ 43) (h : ∀ k' i' j', k' ≠ 14 → ¬ (k' = 4 ∧ 7 ≤ j' ∧ (i' < 43 ∨ j' = 12)) → σ' k' i' j' = σ k' i' j') (hB : zCb p m P t σ) : zCb p m P t σ' := by
  obtain ⟨hF, hs, hr, ⟨h1, h2⟩, ho⟩ := hB
  have e4 : ∀ i' j', j' < 7 → σ' 4 i' j' = σ 4 i' j' := fun i' j' g => h 4 i' j' (by decide) (fun q => by omega)
  refine ⟨zField_of (fun k' j' g => h k' 0 j' (by omega) (fun q => by omega)) hF, (h 5 0 2 (by decide) (fun q => by omega)).trans hs, fun j hj => (e4 j 0 (by decide)).trans (hr j hj), ⟨(h 4 43 7 (by decide) (fun q => by omega)).trans h1, (h 4 43 11 (by decide) (fun q => by omega)).trans h2⟩, fun j hj => ?_⟩
  obtain ⟨o1, o2, o3, o4, o5⟩ := ho j hj
  exact ⟨(e4 j 0 (by decide)).trans o1, (e4 j 1 (by decide)).trans o2, fun k hk => (e4 j (2 + k) (by omega)).trans (o3 k hk), fun g => (e4 j 5 (by decide)).trans (o4 g), fun g => (e4 j 6 (by decide)).trans (o5 g)⟩
theorem zcv_keep {σ σ' : zMem} {j : Nat} {v : Option yT} (h : ∀ j', 7 ≤ j' → j' ≤ 10 → σ' 4 j j' = σ 4 j j') (hv : zcv σ j v) : zcv σ' j v := by
  cases v with
  | none => exact (h 7 (by decide) (by decide)).trans hv
  | some A => exact ⟨(h 7 (by decide) (by decide)).trans hv.1, (h 8 (by decide) (by decide)).trans hv.2.1, (h 9 (by decide) (by decide)).trans hv.2.2.1, (h 10 (by decide) (by decide)).trans hv.2.2.2⟩
/-- what follows a point -/
def yFo (m : Nat) (P : yP) (i : Nat) (Fo : Nat → Prop) : Prop := ∀ j, j < m → (Fo j ↔ j = i ∨ ∃ k q, k < 3 ∧ P.2 j k = some q ∧ Fo q)
/-- what is wanted has wanted parents -/
def yWa (m : Nat) (P : yP) (Wa : Nat → Prop) : Prop := ∀ j, j < m → Wa j → ∀ k, k < 3 → ∀ q, P.2 j k = some q → Wa q
def zFW (m : Nat) (Fo Wa : Nat → Prop) (σ : zMem) : Prop := ∀ j, j < m → (σ 4 j 11 ≠ 0 ↔ Fo j) ∧ (σ 4 j 12 ≠ 0 ↔ Wa j)
theorem yFo_ge {m i : Nat} {P : yP} {Fo : Nat → Prop} (hP : yPa m P) (hF : yFo m P i Fo) : ∀ n j, j < n → j < m → Fo j → i ≤ j := by
  intro n
  induction n with
  | zero => intro j h; omega
  | succ n ih =>
    intro j h hj hf
    rcases (hF j hj).mp hf with g | ⟨k, q, hk, hq, hfq⟩
    · omega
    · have := hP j hj k hk q hq
      have := ih q (by omega) (by omega) hfq
      omega
theorem yval_nofo {p m i : Nat} {P : yP} {t t' : yTo} {Fo : Nat → Prop} (hP : yPa m P) (hF : yFo m P i Fo) (ht : ∀ j, j ≠ i → t j = t' j) : ∀ n j, j < n → j < m → ¬ Fo j → yval p P t j = yval p P t' j := by
  intro n
  induction n with
  | zero => intro j h; omega
  | succ n ih =>
    intro j h hj hf
    rw [yval_st hP hj, yval_st hP hj]
    refine yst_eq (ht j (fun g => hf ((hF j hj).mpr (Or.inl g)))) (fun k hk q hq => ?_)
    have := hP j hj k hk q hq
    exact ih q (by omega) (by omega) (fun g => hf ((hF j hj).mpr (Or.inr ⟨k, q, hk, hq, g⟩)))
def yto (t : yTo) (i x y : Nat) : yTo := fun j => if j = i then (x, y) else t j
theorem yto_ne {t : yTo} {i x y : Nat} {j : Nat} (h : j ≠ i) : yto t i x y j = t j := if_neg h
theorem yto_eq {t : yTo} {i x y : Nat} : yto t i x y i = (x, y) := if_pos rfl
/-- the objects at work -/
def zCw (p m : Nat) (P : yP) (t : yTo) (Fo Wa : Nat → Prop) (σ : zMem) : Prop := zCb p m P t σ ∧ zFW m Fo Wa σ ∧ ∀ j, j < m → Wa j → ¬ Fo j → zcv σ j (yval p P t j)
/-- what a move keeps -/
def zKe (m i : Nat) (Fo Wa : Nat → Prop) (σ σ' : zMem) : Prop := ∀ k' i' j', k' ≠ 14 → ¬ (k' = 4 ∧ i' = i ∧ (j' = 5 ∨ j' = 6)) → ¬ (k' = 4 ∧ i' < m ∧ Fo i' ∧ Wa i' ∧ 7 ≤ j' ∧ j' ≤ 10) → σ' k' i' j' = σ k' i' j'
theorem zKe_trans {m i : Nat} {Fo Wa : Nat → Prop} {σ σ' σ'' : zMem} (h : zKe m i Fo Wa σ σ') (h' : zKe m i Fo Wa σ' σ'') : zKe m i Fo Wa σ σ'' := fun k' i' j' g1 g2 g3 => (h' k' i' j' g1 g2 g3).trans (h k' i' j' g1 g2 g3)
theorem yc_shift {p m i x yn : Nat} {y : Int32} {P : yP} {t : yTo} {Fo Wa : Nat → Prop} {σ : zMem} {τ : zTmp} (hp : zpr p) (hP : yPok m P) (hm : m ≤ 40) (hi : i < m) (hF : yFo m P i Fo) (hW : yWa m P Wa) (hT : yTok p m P (yto t i x yn)) (h : zCw p m P t Fo Wa σ) (hy : P.1 i = 0 → y = nI yn) :
    ∃ σ', m_X8_shift [zO 0 0, zO 4 i, zI (nI x), zI y] (σ, τ) = some (.inl none, (σ', τ)) ∧ zCw p m P (yto t i x yn) Fo Wa σ' ∧ (∀ j, j < m → Wa j → zcv σ' j (yval p P (yto t i x yn) j)) ∧ zKe m i Fo Wa σ σ' := by
  obtain ⟨hB, hFW, hv⟩ := h
  have hPa := yPok_a hP
  have hnf : ∀ j, j < m → ¬ Fo j → yval p P t j = yval p P (yto t i x yn) j := fun j hj g => yval_nofo hPa hF (fun q hq => (yto_ne hq).symm) (j + 1) j (by omega) hj g
  let Inv : Nat → zMem → Prop := fun j σ1 => zCb p m P (yto t i x yn) σ1 ∧ zKe m i Fo Wa σ σ1 ∧ ∀ q, q < j → q < m → Wa q → zcv σ1 q (yval p P (yto t i x yn) q)
  have flags : ∀ σ1, zKe m i Fo Wa σ σ1 → zFW m Fo Wa σ1 := by
    intro σ1 hk j hj
    have e1 : σ1 4 j 11 = σ 4 j 11 := hk 4 j 11 (by decide) (fun q => by omega) (fun q => by omega)
    have e2 : σ1 4 j 12 = σ 4 j 12 := hk 4 j 12 (by decide) (fun q => by omega) (fun q => by omega)
    rw [e1, e2]
    exact hFW j hj
  have same : ∀ σ1, zKe m i Fo Wa σ σ1 → ∀ j, j < m → Wa j → ¬ Fo j → zcv σ1 j (yval p P (yto t i x yn) j) := by
    intro σ1 hk j hj hw hf
    rw [← hnf j hj hf]
    exact zcv_keep (fun j' g1 g2 => hk 4 j j' (by decide) (fun q => by omega) (fun q => hf q.2.2.1)) (hv j hj hw hf)
  have h0 : Inv i (zup (zup σ 4 i 5 (nI x)) 4 i 6 y) := by
    have ke : zKe m i Fo Wa σ (zup (zup σ 4 i 5 (nI x)) 4 i 6 y) := by
      intro k' i' j' g1 g2 g3
      rw [zup_ne (fun q => g2 ⟨q.1, q.2.1, Or.inr q.2.2⟩), zup_ne (fun q => g2 ⟨q.1, q.2.1, Or.inl q.2.2⟩)]
    refine ⟨?_, ke, fun q hq hqm hw => same _ ke q hqm hw (fun g => by have := yFo_ge hPa hF (q + 1) q (by omega) hqm g; omega)⟩
    obtain ⟨hFd, hs, hr, ⟨h1, h2⟩, ho⟩ := hB
    have e : ∀ k' i' j', ¬ (k' = 4 ∧ i' = i ∧ (j' = 5 ∨ j' = 6)) → zup (zup σ 4 i 5 (nI x)) 4 i 6 y k' i' j' = σ k' i' j' := fun k' i' j' g => by
      rw [zup_ne (fun q => g ⟨q.1, q.2.1, Or.inr q.2.2⟩), zup_ne (fun q => g ⟨q.1, q.2.1, Or.inl q.2.2⟩)]
    refine ⟨zField_of (fun k' j' g => e k' 0 j' (fun q => by omega)) hFd, (e 5 0 2 (fun q => by omega)).trans hs, fun j hj => (e 4 j 0 (fun q => by omega)).trans (hr j hj), ⟨(e 4 43 7 (fun q => by omega)).trans h1, (e 4 43 11 (fun q => by omega)).trans h2⟩, fun j hj => ?_⟩
    obtain ⟨o1, o2, o3, o4, o5⟩ := ho j hj
    refine ⟨(e 4 j 0 (fun q => by omega)).trans o1, (e 4 j 1 (fun q => by omega)).trans o2, fun k hk => (e 4 j (2 + k) (fun q => by omega)).trans (o3 k hk), fun g => ?_, fun g => ?_⟩
    · by_cases hji : j = i
      · subst hji
        rw [yto_eq, zup_ne (fun q => by omega), zup_eq]
      · rw [yto_ne hji]
        exact (e 4 j 5 (fun q => hji q.2.1)).trans (o4 g)
    · by_cases hji : j = i
      · subst hji
        rw [yto_eq, zup_eq]
        exact hy g
      · rw [yto_ne hji]
        exact (e 4 j 6 (fun q => hji q.2.1)).trans (o5 g)
  obtain ⟨σ', e, hI⟩ := sp_shift (m := m) (i := i) (x := nI x) (y := y) (σ := σ) (τ := τ) Inv hi (by omega) (fun σ1 hI => hI.1.2.2.1 i (by omega)) h0 (fun j σ1 hI => hI.1.2.1)
    (fun j σ1 hij hj hI hno => by
      refine ⟨hI.1, hI.2.1, fun q hq hqm hw => ?_⟩
      rcases Nat.eq_or_lt_of_le (Nat.le_of_lt_succ hq) with g | g
      · subst g
        refine same σ1 hI.2.1 q hqm hw (fun hf => ?_)
        obtain ⟨f1, f2⟩ := flags σ1 hI.2.1 q hqm
        exact hno.elim (f1.mpr hf) (f2.mpr hw)
      · exact hI.2.2 q g hqm hw)
    (fun j σ1 hij hj hI h11 h12 => by
      obtain ⟨f1, f2⟩ := flags σ1 hI.2.1 j hj
      have hf := f1.mp h11
      have hw := f2.mp h12
      obtain ⟨σ2, er, hz, hk⟩ := yc_remake (τ := τ) (v := yval p P (yto t i x yn)) hp hP (by omega) hj hI.1 hT (fun k hk q hq => hI.2.2 q (hPa j hj k hk q hq) (by have := hPa j hj k hk q hq; omega) (hW j hj hw k hk q hq)) (fun k hk q hq A hA => yval_ok hp hP (by have := hPa j hj k hk q hq; omega) hA)
      rw [← yval_st hPa hj] at hz
      refine ⟨σ2, er, zCb_keep (by omega) (fun k' i' j' g1 g2 => hk k' i' j' (fun q => g2 ⟨q.1, q.2.2.1, Or.inl (by omega)⟩) g1) hI.1, zKe_trans hI.2.1 (fun k' i' j' g1 g2 g3 => hk k' i' j' (fun q => g3 ⟨q.1, by omega, by rw [q.2.1]; exact hf, by rw [q.2.1]; exact hw, q.2.2⟩) g1), fun q hq hqm hwq => ?_⟩
      rcases Nat.eq_or_lt_of_le (Nat.le_of_lt_succ hq) with g | g
      · subst g; exact hz
      · exact zcv_keep (fun j' g1 g2 => hk 4 q j' (fun q' => by omega) (by decide)) (hI.2.2 q g hqm hwq))
  exact ⟨σ', e, ⟨hI.1, flags σ' hI.2.1, fun j hj hw hf => hI.2.2 j hj hj hw⟩, fun j hj hw => hI.2.2 j hj hj hw, hI.2.1⟩
/-! the flags -/
/-- only flags differ -/
def zFg (σ σ' : zMem) : Prop := ∀ k' i' j', ¬ (k' = 4 ∧ (j' = 11 ∧ i' < 43 ∨ j' = 12)) → σ' k' i' j' = σ k' i' j'
theorem zFg_trans {σ σ' σ'' : zMem} (h : zFg σ σ') (h' : zFg σ' σ'') : zFg σ σ'' := fun k' i' j' g => (h' k' i' j' g).trans (h k' i' j' g)
theorem zFg_Cb {p m : Nat} {P : yP} {t : yTo} {σ σ' : zMem} (hm : m ≤ 43) (h : zFg σ σ') (hB : zCb p m P t σ) : zCb p m P t σ' := zCb_keep hm (fun k' i' j' _ g => h k' i' j' (fun q => g ⟨q.1, by omega, by omega⟩)) hB
theorem zFg_cv {σ σ' : zMem} {j : Nat} {v : Option yT} (h : zFg σ σ') (hv : zcv σ j v) : zcv σ' j v := zcv_keep (fun j' _ g => h 4 j j' (fun q => by omega)) hv
theorem zFg_up {σ : zMem} {i j : Nat} {x : Int32} (h : j = 11 ∧ i < 43 ∨ j = 12) : zFg σ (zup σ 4 i j x) := fun k' i' j' g => zup_ne (fun q => g ⟨q.1, by omega⟩)
theorem zmark_fg {σ : zMem} {r : Int32} : ∀ n, n ≤ 43 → zFg σ (zmark σ r n)
  | 0, _ => fun _ _ _ _ => rfl
  | n + 1, h => zFg_trans (zmark_fg n (by omega)) (zFg_up (Or.inl ⟨rfl, by omega⟩))
theorem zmark_hi {σ : zMem} {r : Int32} {i' : Nat} : ∀ n, n ≤ i' → zmark σ r n 4 i' 11 = σ 4 i' 11
  | 0, _ => rfl
  | n + 1, h => by rw [zmark, zup_ne (fun q => by omega)]; exact zmark_hi n (by omega)
theorem zmark_12 {σ : zMem} {r : Int32} {i' : Nat} : ∀ n, zmark σ r n 4 i' 12 = σ 4 i' 12
  | 0 => rfl
  | n + 1 => by rw [zmark, zup_ne (fun q => by omega)]; exact zmark_12 n
theorem zmark_lo {σ : zMem} {r : Int32} {j : Nat} : ∀ n, j < n → zmark σ r n 4 j 11 = zmark σ r (j + 1) 4 j 11
  | 0, h => by omega
  | n + 1, h => by
    rcases Nat.eq_or_lt_of_le (Nat.le_of_lt_succ h) with g | g
    · rw [g]
    · have e : zmark σ r (n + 1) 4 j 11 = zmark σ r n 4 j 11 := by
        rw [zmark]
        exact zup_ne (fun q => by omega)
      rw [e]
      exact zmark_lo n g
theorem zmark_Fo {p m i : Nat} {P : yP} {t : yTo} {σ : zMem} (hP : yPa m P) (hm : m ≤ 43) (hi : i < m) (hB : zCb p m P t σ) : yFo m P i (fun j => zmark σ (nI i) m 4 j 11 ≠ 0) := by
  intro j hj
  have n10 : (1 : Int32) ≠ 0 := by decide
  have hBn : zCb p m P t (zmark σ (nI i) j) := zFg_Cb hm (zmark_fg j (by omega)) hB
  have hj1 := zmark_lo (σ := σ) (r := nI i) m hj
  have par : ∀ k, k < 3 → (zmark σ (nI i) j 4 (zat (zmark σ (nI i) j) 5 (zmark σ (nI i) j 4 j (2 + k))) 11 ≠ 0 ↔ ∃ q, P.2 j k = some q ∧ zmark σ (nI i) m 4 q 11 ≠ 0) := by
    intro k hk
    obtain ⟨_, hs, _, h43, ho⟩ := hBn
    have e : zat (zmark σ (nI i) j) 5 (zmark σ (nI i) j 4 j (2 + k)) = (P.2 j k).getD 43 := by
      rw [(ho j hj).2.2.1 k hk]
      exact zat_q hs hm (fun n hn => by have := hP j hj k hk n hn; omega)
    rw [e]
    cases hq : P.2 j k with
    | none =>
      constructor
      · intro g; exact absurd h43.2 g
      · rintro ⟨q, g, _⟩; exact absurd g (by simp)
    | some q =>
      have hqj := hP j hj k hk q hq
      have e2 : zmark σ (nI i) j 4 q 11 = zmark σ (nI i) m 4 q 11 := by rw [zmark_lo j hqj, zmark_lo m (by omega)]
      constructor
      · intro g
        exact ⟨q, rfl, by rw [← e2]; exact g⟩
      · rintro ⟨q', g, g'⟩
        have := Option.some.inj g
        subst this
        show zmark σ (nI i) j 4 q 11 ≠ 0
        rw [e2]; exact g'
  show zmark σ (nI i) m 4 j 11 ≠ 0 ↔ _
  rw [hj1, zmark, zup_eq]
  have p0 := par 0 (by decide)
  have p1 := par 1 (by decide)
  have p2 := par 2 (by decide)
  by_cases h1 : nI j = nI i
  · rw [if_pos h1]
    exact ⟨fun _ => Or.inl ((nI_eq (by omega) (by omega)).mp h1), fun _ => n10⟩
  · have hji : j ≠ i := fun g => h1 (by rw [g])
    rw [if_neg h1]
    by_cases g0 : zmark σ (nI i) j 4 (zat (zmark σ (nI i) j) 5 (zmark σ (nI i) j 4 j 2)) 11 ≠ 0
    · rw [if_pos g0]
      obtain ⟨q, e1, e2⟩ := p0.mp g0
      exact ⟨fun _ => Or.inr ⟨0, q, by decide, e1, e2⟩, fun _ => n10⟩
    · rw [if_neg g0]
      by_cases g1 : zmark σ (nI i) j 4 (zat (zmark σ (nI i) j) 5 (zmark σ (nI i) j 4 j 3)) 11 ≠ 0
      · rw [if_pos g1]
        obtain ⟨q, e1, e2⟩ := p1.mp g1
        exact ⟨fun _ => Or.inr ⟨1, q, by decide, e1, e2⟩, fun _ => n10⟩
      · rw [if_neg g1]
        by_cases g2 : zmark σ (nI i) j 4 (zat (zmark σ (nI i) j) 5 (zmark σ (nI i) j 4 j 4)) 11 = 0
        · rw [if_pos g2]
          refine ⟨fun q => absurd rfl q, fun q => ?_⟩
          rcases q with q | ⟨k, q, hk, e1, e2⟩
          · exact absurd q hji
          · have : k = 0 ∨ k = 1 ∨ k = 2 := by omega
            rcases this with g | g | g <;> subst g
            · exact absurd (p0.mpr ⟨q, e1, e2⟩) g0
            · exact absurd (p1.mpr ⟨q, e1, e2⟩) g1
            · exact absurd (p2.mpr ⟨q, e1, e2⟩) (fun z => z g2)
        · rw [if_neg g2]
          obtain ⟨q, e1, e2⟩ := p2.mp g2
          exact ⟨fun _ => Or.inr ⟨2, q, by decide, e1, e2⟩, fun _ => n10⟩
theorem zwant_fg {σ : zMem} {b : Int32} : ∀ n, zFg σ (zwant σ b n)
  | 0 => fun _ _ _ _ => rfl
  | n + 1 => zFg_trans (zwant_fg n) (zFg_up (Or.inr rfl))
theorem zwant_in {σ : zMem} {b : Int32} {j : Nat} : ∀ n, j < n → zwant σ b n 4 j 12 = b
  | 0, h => by omega
  | n + 1, h => by
    rw [zwant]
    by_cases g : j = n
    · subst g; exact zup_eq
    · rw [zup_ne (fun q => g q.2.1)]
      exact zwant_in n (by omega)
theorem zwp3_fg {σ : zMem} {j : Nat} : zFg σ (zwp3 σ j) := zFg_trans (zFg_trans (zFg_up (Or.inr rfl)) (zFg_up (Or.inr rfl))) (zFg_up (Or.inr rfl))
theorem zwpar_fg : ∀ n (σ : zMem), zFg σ (zwpar σ n)
  | 0, σ => fun _ _ _ _ => rfl
  | n + 1, σ => by
    rw [zwpar]
    by_cases h : σ 4 n 12 = 0
    · rw [if_pos h]; exact zwpar_fg n σ
    · rw [if_neg h]; exact zFg_trans zwp3_fg (zwpar_fg n _)
theorem zup_12 {σ : zMem} {i i' : Nat} (h : σ 4 i' 12 ≠ 0) : zup σ 4 i 12 1 4 i' 12 ≠ 0 := by
  by_cases g : i' = i
  · subst g; rw [zup_eq]; decide
  · rw [zup_ne (fun q => g q.2.1)]; exact h
theorem zwp3_mono {σ : zMem} {j i' : Nat} (h : σ 4 i' 12 ≠ 0) : zwp3 σ j 4 i' 12 ≠ 0 := zup_12 (zup_12 (zup_12 h))
theorem zwpar_mono {i' : Nat} : ∀ n (σ : zMem), σ 4 i' 12 ≠ 0 → zwpar σ n 4 i' 12 ≠ 0
  | 0, σ, h => h
  | n + 1, σ, h => by
    rw [zwpar]
    by_cases g : σ 4 n 12 = 0
    · rw [if_pos g]; exact zwpar_mono n σ h
    · rw [if_neg g]; exact zwpar_mono n _ (zwp3_mono h)
theorem zat_fg {σ σ' : zMem} {n : Int32} (h : zFg σ σ') : zat σ' 5 n = zat σ 5 n := by
  have e : σ' 5 0 2 = σ 5 0 2 := h 5 0 2 (fun q => by omega)
  unfold zat
  rw [e]
theorem zwp3_par {p m j k : Nat} {P : yP} {t : yTo} {σ : zMem} (hP : yPa m P) (hm : m ≤ 43) (hj : j < m) (hB : zCb p m P t σ) : (∀ q, k < 3 → P.2 j k = some q → zwp3 σ j 4 q 12 ≠ 0) ∧ ∀ i', i' ≥ j → i' ≠ 43 → zwp3 σ j 4 i' 12 = σ 4 i' 12 := by
  obtain ⟨_, hs, _, _, ho⟩ := hB
  have e : ∀ k, k < 3 → zat σ 5 (σ 4 j (2 + k)) = (P.2 j k).getD 43 := fun k hk => by
    rw [(ho j hj).2.2.1 k hk]
    exact zat_q hs hm (fun n hn => by have := hP j hj k hk n hn; omega)
  have f1 : zFg σ (zwp1 σ j) := zFg_up (Or.inr rfl)
  have f2 : zFg σ (zwp2 σ j) := zFg_trans f1 (zFg_up (Or.inr rfl))
  have e0 : zat σ 5 (σ 4 j 2) = (P.2 j 0).getD 43 := e 0 (by decide)
  have e1 : zat (zwp1 σ j) 5 (zwp1 σ j 4 j 3) = (P.2 j 1).getD 43 := by
    rw [zat_fg f1, f1 4 j 3 (fun q => by omega)]; exact e 1 (by decide)
  have e2 : zat (zwp2 σ j) 5 (zwp2 σ j 4 j 4) = (P.2 j 2).getD 43 := by
    rw [zat_fg f2, f2 4 j 4 (fun q => by omega)]; exact e 2 (by decide)
  have d3 : zwp3 σ j = zup (zup (zup σ 4 ((P.2 j 0).getD 43) 12 1) 4 ((P.2 j 1).getD 43) 12 1) 4 ((P.2 j 2).getD 43) 12 1 := by
    unfold zwp3
    rw [e2]
    unfold zwp2
    rw [e1]
    unfold zwp1
    rw [e0]
  have n10 : (1 : Int32) ≠ 0 := by decide
  rw [d3]
  refine ⟨fun q hk hq => ?_, fun i' h1 h2 => ?_⟩
  · have : k = 0 ∨ k = 1 ∨ k = 2 := by omega
    rcases this with g | g | g <;> subst g <;> rw [hq]
    · exact zup_12 (zup_12 (by show zup σ 4 q 12 1 4 q 12 ≠ 0; rw [zup_eq]; exact n10))
    · refine zup_12 ?_
      show zup _ 4 q 12 1 4 q 12 ≠ 0
      rw [zup_eq]; exact n10
    · show zup _ 4 q 12 1 4 q 12 ≠ 0
      rw [zup_eq]; exact n10
  · have ne : ∀ k, k < 3 → i' ≠ (P.2 j k).getD 43 := by
      intro k hk
      cases hq : P.2 j k with
      | none => exact h2
      | some q =>
        have := hP j hj k hk q hq
        show i' ≠ q
        omega
    rw [zup_ne (fun q => ne 2 (by decide) q.2.1), zup_ne (fun q => ne 1 (by decide) q.2.1), zup_ne (fun q => ne 0 (by decide) q.2.1)]
theorem zwpar_hi {p m : Nat} {P : yP} {t : yTo} (hP : yPa m P) (hm : m ≤ 43) : ∀ n (σ : zMem), n ≤ m → zCb p m P t σ → ∀ i', n ≤ i' → i' ≠ 43 → zwpar σ n 4 i' 12 = σ 4 i' 12
  | 0, σ, _, _ => fun _ _ _ => rfl
  | n + 1, σ, hn, hB => fun i' h1 h2 => by
    rw [zwpar]
    by_cases g : σ 4 n 12 = 0
    · rw [if_pos g]; exact zwpar_hi hP hm n σ (by omega) hB i' (by omega) h2
    · rw [if_neg g, zwpar_hi hP hm n _ (by omega) (zFg_Cb hm zwp3_fg hB) i' (by omega) h2]
      exact (zwp3_par (k := 0) hP hm (by omega) hB).2 i' (by omega) h2
theorem zwpar_clo {p m : Nat} {P : yP} {t : yTo} (hP : yPa m P) (hm : m ≤ 43) : ∀ n (σ : zMem), n ≤ m → zCb p m P t σ → ∀ j, j < n → zwpar σ n 4 j 12 ≠ 0 → ∀ k, k < 3 → ∀ q, P.2 j k = some q → zwpar σ n 4 q 12 ≠ 0
  | 0, σ, _, _ => fun _ h => by omega
  | n + 1, σ, hn, hB => fun j hj hw k hk q hq => by
    rw [zwpar] at hw ⊢
    by_cases g : σ 4 n 12 = 0
    · rw [if_pos g] at hw ⊢
      rcases Nat.eq_or_lt_of_le (Nat.le_of_lt_succ hj) with h | h
      · subst h
        rw [zwpar_hi hP hm j σ (by omega) hB j (Nat.le_refl j) (by omega)] at hw
        exact absurd g hw
      · exact zwpar_clo hP hm n σ (by omega) hB j h hw k hk q hq
    · rw [if_neg g] at hw ⊢
      rcases Nat.eq_or_lt_of_le (Nat.le_of_lt_succ hj) with h | h
      · subst h
        exact zwpar_mono j _ ((zwp3_par hP hm (by omega) hB).1 q hk hq)
      · exact zwpar_clo hP hm n _ (by omega) (zFg_Cb hm zwp3_fg hB) j h hw k hk q hq
theorem zwpar_11 {i' : Nat} : ∀ n (σ : zMem), zwpar σ n 4 i' 11 = σ 4 i' 11
  | 0, σ => rfl
  | n + 1, σ => by
    rw [zwpar]
    by_cases g : σ 4 n 12 = 0
    · rw [if_pos g]; exact zwpar_11 n σ
    · rw [if_neg g, zwpar_11 n]
      unfold zwp3 zwp2 zwp1
      rw [zup_ne (fun q => by omega), zup_ne (fun q => by omega), zup_ne (fun q => by omega)]
theorem zwant_11 {σ : zMem} {b : Int32} {i' : Nat} : ∀ n, zwant σ b n 4 i' 11 = σ 4 i' 11
  | 0 => rfl
  | n + 1 => by rw [zwant, zup_ne (fun q => by omega)]; exact zwant_11 n

