/-! ===== the reference finds all anew ===== -/
def zrv (σ : zMem) (j : Nat) (v : Option yT) : Prop := match v with
  | none => zg σ j 7 = 1
  | some A => zg σ j 7 = 0 ∧ zValR σ j A
def zRo (P : yP) (t : yTo) (σ : zMem) (j : Nat) : Prop := zg σ j 0 = zsort (nI (P.1 j)) ∧ zg σ j 1 = nI (P.1 j) ∧ (∀ k, k < 3 → zg σ j (2 + k) = yq (P.2 j k)) ∧ (P.1 j < 2 → zg σ j 5 = nI (t j).1) ∧ (P.1 j = 0 → zg σ j 6 = nI (t j).2)
def zRb (p m : Nat) (P : yP) (t : yTo) (σ : zMem) : Prop := σ 0 0 1 = nI p ∧ σ 0 0 2 = nI m ∧ ∀ j, j < m → zRo P t σ j
/-- what finding keeps -/
def zKr (σ σ' : zMem) : Prop := (∀ k i j, k ≠ 1 → k ≠ 3 → σ' k i j = σ k i j) ∧ ∀ o w, w < 7 → zg σ' o w = zg σ o w
theorem zKr_refl {σ : zMem} : zKr σ σ := ⟨fun _ _ _ _ _ => rfl, fun _ _ _ => rfl⟩
theorem zKr_trans {σ σ' σ'' : zMem} (h : zKr σ σ') (h' : zKr σ' σ'') : zKr σ σ'' := ⟨fun k i j h1 h2 => (h'.1 k i j h1 h2).trans (h.1 k i j h1 h2), fun o w hw => (h'.2 o w hw).trans (h.2 o w hw)⟩
theorem zKr_L3 {σ σ' : zMem} (h : zL3 σ σ') : zKr σ σ' := ⟨fun k i j _ h2 => h k i j h2, fun o w _ => zL3_g h o w⟩
theorem zKr_up {σ : zMem} {o w : Nat} {x : Int32} (h7 : 7 ≤ w) (h10 : w ≤ 10) : zKr σ (zup σ 1 0 (11 * o + w) x) := ⟨fun k i j h1 _ => zup_ne (fun q => h1 q.1), fun o' w' hw => zup_ne (fun q => by omega)⟩
theorem zKr_Rb {p m : Nat} {P : yP} {t : yTo} {σ σ' : zMem} (h : zKr σ σ') (hB : zRb p m P t σ) : zRb p m P t σ' := by
  obtain ⟨h1, h2, ho⟩ := hB
  refine ⟨(h.1 0 0 1 (by decide) (by decide)).trans h1, (h.1 0 0 2 (by decide) (by decide)).trans h2, fun j hj => ?_⟩
  obtain ⟨o1, o2, o3, o4, o5⟩ := ho j hj
  exact ⟨(h.2 j 0 (by decide)).trans o1, (h.2 j 1 (by decide)).trans o2, fun k hk => (h.2 j (2 + k) (by omega)).trans (o3 k hk), fun g => (h.2 j 5 (by decide)).trans (o4 g), fun g => (h.2 j 6 (by decide)).trans (o5 g)⟩
theorem zrv_keep {σ σ' : zMem} {j : Nat} {v : Option yT} (h : ∀ w, 7 ≤ w → w ≤ 10 → zg σ' j w = zg σ j w) (hv : zrv σ j v) : zrv σ' j v := by
  cases v with
  | none => exact (h 7 (by decide) (by decide)).trans hv
  | some A => exact ⟨(h 7 (by decide) (by decide)).trans hv.1, (h 8 (by decide) (by decide)).trans hv.2.1, (h 9 (by decide) (by decide)).trans hv.2.2.1, (h 10 (by decide) (by decide)).trans hv.2.2.2⟩
theorem zrv_01 {σ : zMem} {j : Nat} {v : Option yT} (h : zrv σ j v) : (zg σ j 7 = 1 ↔ v = none) ∧ (zg σ j 7 = 0 ∨ zg σ j 7 = 1) := by
  have n10 : ¬ (0 : Int32) = 1 := by decide
  cases v with
  | none =>
    have h : zg σ j 7 = 1 := h
    rw [h]
    exact ⟨⟨fun _ => rfl, fun _ => rfl⟩, Or.inr rfl⟩
  | some A =>
    have h : zg σ j 7 = 0 := h.1
    rw [h]
    exact ⟨⟨fun g => absurd g n10, fun g => absurd g (by simp)⟩, Or.inl rfl⟩
theorem zpo_v {p m j k : Nat} {P : yP} {t : yTo} {σ : zMem} {v : Nat → Option yT} (hB : zRb p m P t σ) (hm : m ≤ 40) (hP : yPa m P) (hj : j < m) (hk : k < 3) (hv : ∀ q, P.2 j k = some q → zrv σ q (v q)) : zpo σ j k ↔ ypv v (P.2 j k) ≠ none := by
  obtain ⟨_, _, ho⟩ := hB
  have e := (ho j hj).2.2.1 k hk
  unfold zpo
  rw [e]
  cases hq : P.2 j k with
  | none => exact ⟨fun _ => by simp [ypv], fun _ => Or.inl rfl⟩
  | some q =>
    have hqj := hP j hj k hk q hq
    have l := (zrv_01 (hv q hq)).1
    constructor
    · rintro (g | ⟨q', h1, h2, h3⟩)
      · have n : ¬ nI q = -1 := fun g => by
          have := nI_pos' (n := q) (by omega)
          rw [g] at this
          exact absurd this (by decide)
        exact absurd g n
      · have : q = q' := nI_inj' (by omega) (by omega) h2
        subst this
        exact fun g => h3 (l.mpr g)
    · intro g
      exact Or.inr ⟨q, by omega, rfl, fun g' => g (l.mp g')⟩
theorem zpk_of {p m j : Nat} {P : yP} {t : yTo} {σ : zMem} (hB : zRb p m P t σ) (hm : m ≤ 40) (hP : yPa m P) (hj : j < m) : zpk σ j := by
  intro k hk
  rw [(hB.2.2 j hj).2.2.1 k hk]
  cases hq : P.2 j k with
  | none => exact Or.inl rfl
  | some q => exact Or.inr ⟨q, by have := hP j hj k hk q hq; omega, rfl⟩
