/-! ===== the trail of a point ===== -/
abbrev yTl := Nat × (Nat → Nat × Nat) × Nat
def yknown (A : yT) (s : yTl) : Prop := ∃ j, j < s.1 ∧ s.2.1 j = (A.1, A.2.1)
noncomputable def ytk (v : Option yT) (s : yTl) : yTl := match v with
  | none => (s.1, s.2.1, s.2.2 + 1)
  | some A => @ite _ (yknown A s) (Classical.propDecidable _) s (s.1 + 1, fun j => if j = s.1 then (A.1, A.2.1) else s.2.1 j, s.2.2)
noncomputable def ytr (V : Nat → Option yT) : Nat → yTl
  | 0 => (0, fun _ => (0, 0), 0)
  | n + 1 => ytk (V n) (ytr V n)
theorem ytk_some {A : yT} {s : yTl} : (yknown A s → ytk (some A) s = s) ∧ (¬ yknown A s → ytk (some A) s = (s.1 + 1, fun j => if j = s.1 then (A.1, A.2.1) else s.2.1 j, s.2.2)) := by
  unfold ytk
  exact ⟨fun h => if_pos h, fun h => if_neg h⟩
theorem ytr_le {V : Nat → Option yT} : ∀ n, (ytr V n).1 ≤ n ∧ (ytr V n).2.2 ≤ n
  | 0 => ⟨Nat.le_refl 0, Nat.le_refl 0⟩
  | n + 1 => by
    obtain ⟨h1, h2⟩ := ytr_le (V := V) n
    rw [ytr]
    cases V n with
    | none =>
      show (ytr V n).1 ≤ n + 1 ∧ (ytr V n).2.2 + 1 ≤ n + 1
      omega
    | some A =>
      by_cases g : yknown A (ytr V n)
      · rw [ytk_some.1 g]; omega
      · rw [ytk_some.2 g]
        show (ytr V n).1 + 1 ≤ n + 1 ∧ (ytr V n).2.2 ≤ n + 1
        omega
theorem ytr_lt {p : Nat} {V : Nat → Option yT} (hV : ∀ n A, V n = some A → yOk p A) : ∀ n j, j < (ytr V n).1 → ((ytr V n).2.1 j).1 < p ∧ ((ytr V n).2.1 j).2 < p
  | 0, j, h => by
    have h : j < 0 := h
    omega
  | n + 1, j, h => by
    have ih := ytr_lt hV n
    rw [ytr] at h ⊢
    cases hv : V n with
    | none =>
      rw [hv] at h
      exact ih j h
    | some A =>
      rw [hv] at h
      by_cases g : yknown A (ytr V n)
      · rw [ytk_some.1 g] at h ⊢
        exact ih j h
      · rw [ytk_some.2 g] at h ⊢
        have h : j < (ytr V n).1 + 1 := h
        show ((if j = (ytr V n).1 then (A.1, A.2.1) else (ytr V n).2.1 j) : Nat × Nat).1 < p ∧ ((if j = (ytr V n).1 then (A.1, A.2.1) else (ytr V n).2.1 j) : Nat × Nat).2 < p
        by_cases q : j = (ytr V n).1
        · rw [if_pos q]
          have ok := hV n A hv
          exact ⟨ok.1, ok.2.1⟩
        · rw [if_neg q]
          exact ih j (by omega)
def zTc (s : yTl) (σ : zMem) : Prop := σ 6 0 2 = nI s.1 ∧ σ 8 0 1 = nI s.2.2 ∧ ∀ j, j < s.1 → σ 13 j 8 = nI (s.2.1 j).1 ∧ σ 13 j 9 = nI (s.2.1 j).2 ∧ σ 13 j 10 = 0
def zTr (s : yTl) (σ : zMem) : Prop := σ 0 0 7 = nI s.1 ∧ ∀ j, j < s.1 → σ 4 0 j = nI (s.2.1 j).1 ∧ σ 5 0 j = nI (s.2.1 j).2
theorem zTc_of {s : yTl} {σ σ' : zMem} (h : ∀ k i j, (k = 6 ∨ k = 8 ∨ k = 13) → σ' k i j = σ k i j) (hT : zTc s σ) : zTc s σ' := by
  obtain ⟨h1, h2, h3⟩ := hT
  refine ⟨(h 6 0 2 (by decide)).trans h1, (h 8 0 1 (by decide)).trans h2, fun j hj => ?_⟩
  obtain ⟨a, b, c⟩ := h3 j hj
  exact ⟨(h 13 j 8 (by decide)).trans a, (h 13 j 9 (by decide)).trans b, (h 13 j 10 (by decide)).trans c⟩
theorem zTr_of {s : yTl} {σ σ' : zMem} (h : ∀ k i j, (k = 4 ∨ k = 5 ∨ k = 0 ∧ j = 7) → σ' k i j = σ k i j) (hT : zTr s σ) : zTr s σ' := by
  obtain ⟨h1, h3⟩ := hT
  refine ⟨(h 0 0 7 (by decide)).trans h1, fun j hj => ?_⟩
  obtain ⟨a, b⟩ := h3 j hj
  exact ⟨(h 4 0 j (by omega)).trans a, (h 5 0 j (by omega)).trans b⟩
theorem c_look {p m ia : Nat} {s : yTl} {v : Option yT} {σ : zMem} {τ : zTmp} (hp : zpr p) (hia : ia < m) (hm : m ≤ 40) (hs : s.1 < 43) (hT : zTc s σ) (hl : ∀ j, j < s.1 → (s.2.1 j).1 < p ∧ (s.2.1 j).2 < p) (hv : zcv σ ia v) (hA : ∀ A, v = some A → yOk p A ∧ A.2.2 = 0) :
    ∃ σ', m_X7_look [zO 8 0, zO 4 ia] (σ, τ) = some (.inl none, (σ', τ)) ∧ zTc (ytk v s) σ' ∧ zEq σ σ' := by
  obtain ⟨t1, t2, t3⟩ := hT
  obtain ⟨l1, l2, l3⟩ := sp_look (τ := τ) (i := ia) t1 hs (by omega)
  cases v with
  | none =>
    have hv : σ 4 ia 7 = 1 := hv
    refine ⟨_, l1 (by rw [hv]; decide), ⟨?_, ?_, fun j hj => ?_⟩, fun k' i' j' g => zup_ne (fun q => by omega)⟩
    · exact (zup_ne (fun q => by omega)).trans t1
    · rw [zup_eq, t2, nI_1]; rfl
    · obtain ⟨a, b, c⟩ := t3 j hj
      exact ⟨(zup_ne (fun q => by omega)).trans a, (zup_ne (fun q => by omega)).trans b, (zup_ne (fun q => by omega)).trans c⟩
  | some A =>
    obtain ⟨v7, v8, v9, v10⟩ := hv
    obtain ⟨ok, z0⟩ := hA A rfl
    have hk : zknows σ 4 ia s.1 ↔ yknown A s := by
      unfold zknows yknown zlike
      constructor
      · rintro ⟨j, hj, e1, e2, _⟩
        obtain ⟨a, b, c⟩ := t3 j hj
        obtain ⟨la, lb⟩ := hl j hj
        rw [a, v8, nI_V hp la ok.1] at e1
        rw [b, v9, nI_V hp lb ok.2.1] at e2
        exact ⟨j, hj, Prod.ext e1 e2⟩
      · rintro ⟨j, hj, e⟩
        obtain ⟨a, b, c⟩ := t3 j hj
        refine ⟨j, hj, ?_, ?_, ?_⟩
        · rw [a, v8, e]
        · rw [b, v9, e]
        · rw [c, v10, z0]; rfl
    by_cases g : yknown A s
    · rw [ytk_some.1 g]
      exact ⟨σ, l2 v7 (hk.mpr g), ⟨t1, t2, t3⟩, fun _ _ _ _ => rfl⟩
    · rw [ytk_some.2 g]
      refine ⟨_, l3 v7 (fun q => g (hk.mp q)), ⟨?_, ?_, fun j hj => ?_⟩, fun k' i' j' q => ?_⟩
      · rw [ySame_put 6 0 2 (fun q => by omega) (by decide), zup_eq]
      · rw [ySame_put 8 0 1 (fun q => by omega) (by decide)]
        exact (zup_ne (fun q => by omega)).trans t2
      · have hj : j < s.1 + 1 := hj
        show zput _ 13 s.1 _ _ 0 13 j 8 = nI ((if j = s.1 then (A.1, A.2.1) else s.2.1 j) : Nat × Nat).1 ∧ zput _ 13 s.1 _ _ 0 13 j 9 = nI ((if j = s.1 then (A.1, A.2.1) else s.2.1 j) : Nat × Nat).2 ∧ zput _ 13 s.1 _ _ 0 13 j 10 = 0
        by_cases q : j = s.1
        · rw [if_pos q, q]
          exact ⟨by rw [zput_8]; exact v8, by rw [zput_9]; exact v9, zput_10⟩
        · rw [if_neg q]
          obtain ⟨a, b, c⟩ := t3 j (by omega)
          have e : ∀ w, zput (zup σ 6 0 2 (nI (s.1 + 1))) 13 s.1 (σ 4 ia 8) (σ 4 ia 9) 0 13 j w = σ 13 j w := fun w => (ySame_put 13 j w (fun z => q z.2.1) (by decide)).trans (zup_ne (fun z => by omega))
          exact ⟨(e 8).trans a, (e 9).trans b, (e 10).trans c⟩
      · exact (ySame_put k' i' j' (fun z => by omega) (by omega)).trans (zup_ne (fun z => by omega))
/-! the shape of a trail -/
def yTp (s : yTl) (j : Nat) : yT := ((s.2.1 j).1, (s.2.1 j).2, 0)
def yallL (p : Nat) (s : yTl) : Prop := ∀ q, 2 ≤ q → q < s.1 → yR p (yC (yTp s 0) (yTp s 1) (yTp s q)) = 0
def yallC (p : Nat) (s : yTl) : Prop := ¬ yR p (yC (yTp s 0) (yTp s 1) (yTp s 2)) = 0 ∧ ∀ q, 3 ≤ q → q < s.1 → yE p ((((yTp s q).1 : Int) - ((yTp s 0).1 + yU p (yTp s 0) (yTp s 1) (yTp s 2))) * (((yTp s q).1 : Int) - ((yTp s 0).1 + yU p (yTp s 0) (yTp s 1) (yTp s 2))) + (((yTp s q).2.1 : Int) - ((yTp s 0).2.1 + yW p (yTp s 0) (yTp s 1) (yTp s 2))) * (((yTp s q).2.1 : Int) - ((yTp s 0).2.1 + yW p (yTp s 0) (yTp s 1) (yTp s 2)))) (yU p (yTp s 0) (yTp s 1) (yTp s 2) * yU p (yTp s 0) (yTp s 1) (yTp s 2) + yW p (yTp s 0) (yTp s 1) (yTp s 2) * yW p (yTp s 0) (yTp s 1) (yTp s 2))
noncomputable def yshape (p : Nat) (s : yTl) : Int32 := if s.1 ≤ 2 then 0 else @ite _ (yallL p s) (Classical.propDecidable _) 1 (@ite _ (yallC p s) (Classical.propDecidable _) 2 3)
theorem yshape_is {p : Nat} {s : yTl} : (s.1 ≤ 2 → yshape p s = 0) ∧ (3 ≤ s.1 → yallL p s → yshape p s = 1) ∧ (3 ≤ s.1 → ¬ yallL p s → yallC p s → yshape p s = 2) ∧ (3 ≤ s.1 → ¬ yallL p s → ¬ yallC p s → yshape p s = 3) := by
  unfold yshape
  refine ⟨fun h => if_pos h, fun h h1 => ?_, fun h h1 h2 => ?_, fun h h1 h2 => ?_⟩
  · rw [if_neg (by omega), if_pos h1]
  · rw [if_neg (by omega), if_neg h1, if_pos h2]
  · rw [if_neg (by omega), if_neg h1, if_neg h2]
theorem yTp_ok {p : Nat} {s : yTl} (hp : zpr p) (hl : ∀ j, j < s.1 → (s.2.1 j).1 < p ∧ (s.2.1 j).2 < p) {j : Nat} (hj : j < s.1) : yOk p (yTp s j) := ⟨(hl j hj).1, (hl j hj).2, zpr_pos hp⟩
theorem c_ct {p ka ia kb ib kc ic : Nat} {σ : zMem} {A B C : yT} (hp : zpr p) (hF : zField σ p) (hA : zVal σ ka ia A) (oA : yOk p A) (hB : zVal σ kb ib B) (oB : yOk p B) (hC : zVal σ kc ic C) (oC : yOk p C) : zctD σ ka ia kb ib kc ic = nI (yR p (2 * yC A B C)) ∧ zctU σ ka ia kb ib kc ic = nI (yR p (yU p A B C)) ∧ zctV σ ka ia kb ib kc ic = nI (yR p (yW p A B C)) := by
  have h0 := zpr_pos hp
  have a := zVB hp hA oA
  have b := zVB hp hB oB
  have c := zVB hp hC oC
  have sB := c_S a b
  have sC := c_S a c
  obtain ⟨a1, a2, a3⟩ := a
  obtain ⟨b1, b2, b3⟩ := b
  obtain ⟨c1, c2, c3⟩ := c
  have hd : zctD σ ka ia kb ib kc ic = nI (yR p (2 * yC A B C)) := cR hp hF (yB_mul yB_2 (yB_sub (yB_mul (yB_sub b1 a1 (by decide)) (yB_sub c2 a2 (by decide)) (by decide)) (yB_mul (yB_sub c1 a1 (by decide)) (yB_sub b2 a2 (by decide)) (by decide)) (by decide)) (by decide))
  have db : yB (zctD σ ka ia kb ib kc ic) (yR p (2 * yC A B C) : Nat) 42 := by rw [hd]; exact yR_B hp
  refine ⟨hd, ?_, ?_⟩
  · unfold zctU
    rw [cQ hp hF (yB_sub (yB_mul (yB_sub c2 a2 (by decide)) sB (by decide)) (yB_mul (yB_sub b2 a2 (by decide)) sC (by decide)) (by decide)) db, yV_E (yE_R h0)]
    rfl
  · unfold zctV
    rw [cQ hp hF (yB_sub (yB_mul (yB_sub b1 a1 (by decide)) sC (by decide)) (yB_mul (yB_sub c1 a1 (by decide)) sB (by decide)) (by decide)) db, yV_E (yE_R h0)]
    rfl
theorem c_shape {p : Nat} {s : yTl} {σ : zMem} {τ : zTmp} (hp : zpr p) (hF : zField σ p) (h43 : s.1 ≤ 43) (hT : zTc s σ) (hl : ∀ j, j < s.1 → (s.2.1 j).1 < p ∧ (s.2.1 j).2 < p) : ∃ σ', m_X5_shapeOf [zO 1 0, zO 6 0] (σ, τ) = some (.inl (some (zI (yshape p s))), (σ', τ)) ∧ z14 σ σ' := by
  have h0 := zpr_pos hp
  obtain ⟨t1, t2, t3⟩ := hT
  obtain ⟨s1, s2, s3, s4⟩ := sp_shapeOf (τ := τ) t1 h43
  obtain ⟨y1, y2, y3, y4⟩ := yshape_is (p := p) (s := s)
  have val : ∀ j, j < s.1 → zVal σ 13 j (yTp s j) := fun j hj => t3 j hj
  have ok : ∀ j, j < s.1 → yOk p (yTp s j) := fun j hj => yTp_ok hp hl hj
  by_cases h2 : s.1 ≤ 2
  · rw [y1 h2]
    exact ⟨σ, s1 h2, fun _ _ _ _ => rfl⟩
  · have h3 : 3 ≤ s.1 := by omega
    have eL : zallL σ s.1 ↔ yallL p s := by
      unfold zallL yallL
      constructor
      · intro h q a b
        exact (c_inl hp hF (val 0 (by omega)) (ok 0 (by omega)) (val 1 (by omega)) (ok 1 (by omega)) (val q b) (ok q b)).mp (h q a b)
      · intro h q a b
        exact (c_inl hp hF (val 0 (by omega)) (ok 0 (by omega)) (val 1 (by omega)) (ok 1 (by omega)) (val q b) (ok q b)).mpr (h q a b)
    have h14 : z14 σ (zallS σ) := by
      intro k i j hk
      unfold zallS
      split
      · rfl
      · exact ySame_put k i j (fun q => hk q.1) hk
    by_cases gL : yallL p s
    · rw [y2 h3 gL]
      exact ⟨σ, s2 h3 (eL.mpr gL), fun _ _ _ _ => rfl⟩
    · obtain ⟨dD, dU, dV⟩ := c_ct hp hF (val 0 (by omega)) (ok 0 (by omega)) (val 1 (by omega)) (ok 1 (by omega)) (val 2 (by omega)) (ok 2 (by omega))
      obtain ⟨b1, b2, _⟩ := zVB hp (val 0 (by omega)) (ok 0 (by omega))
      have eC : zallC σ s.1 ↔ yallC p s := by
        unfold zallC yallC
        have d0 : zctD σ 13 0 13 1 13 2 = 0 ↔ yR p (yC (yTp s 0) (yTp s 1) (yTp s 2)) = 0 := by
          rw [dD, nI_R0 hp, yR_0 h0, yR_0 h0]
          constructor
          · intro g; exact (y_prime hp g).elim (fun z => absurd z (y_2 hp)) id
          · intro g
            have e2 := yE_mul (yE_refl (a := (2 : Int))) g
            rw [Int.mul_zero] at e2
            exact e2
        rw [d0]
        by_cases g : yR p (yC (yTp s 0) (yTp s 1) (yTp s 2)) = 0
        · exact ⟨fun h => absurd g h.1, fun h => absurd g h.1⟩
        · have g1 : ¬ yE p (yC (yTp s 0) (yTp s 1) (yTp s 2)) 0 := fun q => g ((yR_0 h0).mpr q)
          have ub : yB (zctU σ 13 0 13 1 13 2) (yR p (yU p (yTp s 0) (yTp s 1) (yTp s 2)) : Nat) 42 := by rw [dU]; exact yR_B hp
          have vb : yB (zctV σ 13 0 13 1 13 2) (yR p (yW p (yTp s 0) (yTp s 1) (yTp s 2)) : Nat) 42 := by rw [dV]; exact yR_B hp
          have rad : zR σ (zctU σ 13 0 13 1 13 2 * zctU σ 13 0 13 1 13 2 + zctV σ 13 0 13 1 13 2 * zctV σ 13 0 13 1 13 2) = nI (yR p (yU p (yTp s 0) (yTp s 1) (yTp s 2) * yU p (yTp s 0) (yTp s 1) (yTp s 2) + yW p (yTp s 0) (yTp s 1) (yTp s 2) * yW p (yTp s 0) (yTp s 1) (yTp s 2))) := by
            rw [cR hp hF (yB_add (yB_mul ub ub (by decide)) (yB_mul vb vb (by decide)) (by decide))]
            exact congrArg nI (yR_E (yE_add (yE_mul (yE_R h0) (yE_R h0)) (yE_mul (yE_R h0) (yE_R h0))))
          have rn : ¬ zR σ (zctU σ 13 0 13 1 13 2 * zctU σ 13 0 13 1 13 2 + zctV σ 13 0 13 1 13 2 * zctV σ 13 0 13 1 13 2) = 0 := by
            rw [rad, nI_R0 hp, yR_0 h0]
            exact y_rad hp g1
          have vK : zVal (zring σ) 14 2 (yR p ((yTp s 0).1 + (yR p (yU p (yTp s 0) (yTp s 1) (yTp s 2)) : Nat)), yR p ((yTp s 0).2.1 + (yR p (yW p (yTp s 0) (yTp s 1) (yTp s 2)) : Nat)), yR p (yU p (yTp s 0) (yTp s 1) (yTp s 2) * yU p (yTp s 0) (yTp s 1) (yTp s 2) + yW p (yTp s 0) (yTp s 1) (yTp s 2) * yW p (yTp s 0) (yTp s 1) (yTp s 2))) := zVal_put (cR hp hF (yB_add b1 ub (by decide))) (cR hp hF (yB_add b2 vb (by decide))) rad
          have oK : yOk p (yR p ((yTp s 0).1 + (yR p (yU p (yTp s 0) (yTp s 1) (yTp s 2)) : Nat)), yR p ((yTp s 0).2.1 + (yR p (yW p (yTp s 0) (yTp s 1) (yTp s 2)) : Nat)), yR p (yU p (yTp s 0) (yTp s 1) (yTp s 2) * yU p (yTp s 0) (yTp s 1) (yTp s 2) + yW p (yTp s 0) (yTp s 1) (yTp s 2) * yW p (yTp s 0) (yTp s 1) (yTp s 2))) := ⟨by dsimp only; exact yR_lt h0, by dsimp only; exact yR_lt h0, by dsimp only; exact yR_lt h0⟩
          have ring_ne : ∀ k i j, k ≠ 14 → zring σ k i j = σ k i j := fun k i j hk => ySame_put k i j (fun q => hk q.1) hk
          have hF' : zField (zring σ) p := zField_of (fun k' j' g => ring_ne k' 0 j' (by omega)) hF
          have each : ∀ q, q < s.1 → (zonc (zring σ) 13 q 14 2 ↔ yE p ((((yTp s q).1 : Int) - ((yTp s 0).1 + yU p (yTp s 0) (yTp s 1) (yTp s 2))) * (((yTp s q).1 : Int) - ((yTp s 0).1 + yU p (yTp s 0) (yTp s 1) (yTp s 2))) + (((yTp s q).2.1 : Int) - ((yTp s 0).2.1 + yW p (yTp s 0) (yTp s 1) (yTp s 2))) * (((yTp s q).2.1 : Int) - ((yTp s 0).2.1 + yW p (yTp s 0) (yTp s 1) (yTp s 2)))) (yU p (yTp s 0) (yTp s 1) (yTp s 2) * yU p (yTp s 0) (yTp s 1) (yTp s 2) + yW p (yTp s 0) (yTp s 1) (yTp s 2) * yW p (yTp s 0) (yTp s 1) (yTp s 2))) := by
            intro q hq
            unfold zonc
            rw [c_sq hp hF' (zVal_of (fun j => ring_ne 13 q j (by decide)) (val q hq)) (ok q hq) vK oK, vK.2.2, nI_V hp (yR_lt h0) (yR_lt h0), yE_iff h0]
            have kx := yE_trans (yE_R (e := ((yTp s 0).1 : Int) + (yR p (yU p (yTp s 0) (yTp s 1) (yTp s 2)) : Nat)) h0) (yE_add yE_refl (yE_R h0))
            have ky := yE_trans (yE_R (e := ((yTp s 0).2.1 : Int) + (yR p (yW p (yTp s 0) (yTp s 1) (yTp s 2)) : Nat)) h0) (yE_add yE_refl (yE_R h0))
            have sq := yE_add (yE_mul (yE_sub (yE_refl (a := ((yTp s q).1 : Int))) kx) (yE_sub (yE_refl (a := ((yTp s q).1 : Int))) kx)) (yE_mul (yE_sub (yE_refl (a := ((yTp s q).2.1 : Int))) ky) (yE_sub (yE_refl (a := ((yTp s q).2.1 : Int))) ky))
            exact ⟨fun h => yE_trans (yE_symm sq) h, fun h => yE_trans sq h⟩
          constructor
          · rintro ⟨_, _, h⟩
            exact ⟨g, fun q a b => (each q b).mp (h q a b)⟩
          · rintro ⟨_, h⟩
            exact ⟨g, rn, fun q a b => (each q b).mpr (h q a b)⟩
      by_cases gC : yallC p s
      · rw [y3 h3 gL gC]
        exact ⟨_, s3 h3 (fun q => gL (eL.mp q)) (eC.mpr gC), h14⟩
      · rw [y4 h3 gL gC]
        exact ⟨_, s4 h3 (fun q => gL (eL.mp q)) (fun q => gC (eC.mp q)), h14⟩
