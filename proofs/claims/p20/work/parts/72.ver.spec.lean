/-! ===== claims, in numbers ===== -/
/-- claims: their sorts and objects -/
abbrev yCl := (Nat → Nat) × (Nat → Nat → Option Nat)
def yCok (m mc : Nat) (P : yP) (cl : yCl) : Prop := ∀ k, k < mc → cl.1 k < 8 ∧ ∀ i, i < 4 → (i < zna (cl.1 k) → ∃ q, cl.2 k i = some q ∧ q < m ∧ (cl.1 k = 7 → 10 ≤ P.1 q ∧ P.1 q < 20)) ∧ (zna (cl.1 k) ≤ i → cl.2 k i = none)
def zCc (mc : Nat) (cl : yCl) (σ : zMem) : Prop := σ 7 0 2 = nI mc ∧ ∀ k, k < mc → σ 16 k 0 = nI (cl.1 k) ∧ ∀ i, i < 4 → σ 16 k (1 + i) = yq (cl.2 k i)
def zRc (mc : Nat) (cl : yCl) (σ : zMem) : Prop := σ 0 0 4 = nI mc ∧ ∀ k, k < mc → zcf σ k 0 = nI (cl.1 k) ∧ ∀ i, i < zna (cl.1 k) → zcf σ k (1 + i) = yq (cl.2 k i)
def yTr (p s : Nat) (A B C D : yT) : Prop := if s = 0 then yR p (ye B A) = 0 else if s = 1 then yR p (ysq A B) = B.2.2 else if s = 2 then yR p (yC A B C) = 0 else if s = 3 then ypa A B else if s = 4 then yR p ((A.1 : Int) * B.1 + (A.2.1 : Int) * B.2.1) = 0 else if s = 5 then yR p (ysq A B) = yR p (ysq C D) else if s = 6 then A = B else yHc p A B C
noncomputable def yver (p : Nat) (v : Nat → Option yT) (s : Nat) (q : Nat → Option Nat) : Int32 := match ypv v (q 0), ypv v (q 1), ypv v (q 2), ypv v (q 3) with
  | some A, some B, some C, some D => zb (yTr p s A B C D)
  | _, _, _, _ => -1
theorem nI_V {p x y : Nat} (hp : zpr p) (hx : x < p) (hy : y < p) : nI x = nI y ↔ x = y := by
  have := zpr_lt hp
  exact nI_eq (by omega) (by omega)
theorem c_like {p k i k' i' : Nat} {σ : zMem} {A B : yT} (hp : zpr p) (hA : zVal σ k i A) (oA : yOk p A) (hB : zVal σ k' i' B) (oB : yOk p B) : zlike σ k i k' i' ↔ A = B := by
  unfold zlike
  obtain ⟨a1, a2, a3⟩ := hA
  obtain ⟨b1, b2, b3⟩ := hB
  rw [a1, a2, a3, b1, b2, b3, nI_V hp oA.1 oB.1, nI_V hp oA.2.1 oB.2.1, nI_V hp oA.2.2 oB.2.2]
  constructor
  · rintro ⟨h1, h2, h3⟩
    exact Prod.ext h1 (Prod.ext h2 h3)
  · intro h; rw [h]; exact ⟨rfl, rfl, rfl⟩
theorem c_par {p k i k' i' : Nat} {σ : zMem} {A B : yT} (hp : zpr p) (hA : zVal σ k i A) (oA : yOk p A) (hB : zVal σ k' i' B) (oB : yOk p B) : zpar σ k i k' i' ↔ ypa A B := by
  unfold zpar ypa
  obtain ⟨a1, a2, a3⟩ := hA
  obtain ⟨b1, b2, b3⟩ := hB
  rw [a1, a2, b1, b2, nI_V hp oA.1 oB.1, nI_V hp oA.2.1 oB.2.1]
theorem c_sq {p k i k' i' : Nat} {σ : zMem} {A B : yT} (hp : zpr p) (hF : zField σ p) (hA : zVal σ k i A) (oA : yOk p A) (hB : zVal σ k' i' B) (oB : yOk p B) : zsq σ k i k' i' = nI (yR p (ysq A B)) := by
  obtain ⟨a1, a2, a3⟩ := zVB hp hA oA
  obtain ⟨b1, b2, b3⟩ := zVB hp hB oB
  exact cR hp hF (yB_add (yB_mul (yB_sub a1 b1 (by decide)) (yB_sub a1 b1 (by decide)) (by decide)) (yB_mul (yB_sub a2 b2 (by decide)) (yB_sub a2 b2 (by decide)) (by decide)) (by decide))
theorem c_inl {p k i k' i' k'' i'' : Nat} {σ : zMem} {A B C : yT} (hp : zpr p) (hF : zField σ p) (hA : zVal σ k i A) (oA : yOk p A) (hB : zVal σ k' i' B) (oB : yOk p B) (hC : zVal σ k'' i'' C) (oC : yOk p C) : zinl σ k i k' i' k'' i'' ↔ yR p (yC A B C) = 0 := by
  obtain ⟨a1, a2, a3⟩ := zVB hp hA oA
  obtain ⟨b1, b2, b3⟩ := zVB hp hB oB
  obtain ⟨c1, c2, c3⟩ := zVB hp hC oC
  unfold zinl
  rw [cR hp hF (yB_sub (yB_mul (yB_sub b1 a1 (by decide)) (yB_sub c2 a2 (by decide)) (by decide)) (yB_mul (yB_sub c1 a1 (by decide)) (yB_sub b2 a2 (by decide)) (by decide)) (by decide))]
  exact nI_R0 hp
theorem c_det {p kl il km im : Nat} {σ : zMem} {A B : yT} (hp : zpr p) (hF : zField σ p) (hA : zVal σ kl il A) (oA : yOk p A) (hB : zVal σ km im B) (oB : yOk p B) : zdet σ kl il km im = nI (yR p (yD A B)) := by
  obtain ⟨a1, a2, a3⟩ := zVB hp hA oA
  obtain ⟨b1, b2, b3⟩ := zVB hp hB oB
  exact cR hp hF (yB_sub (yB_mul a1 b2 (by decide)) (yB_mul b1 a2 (by decide)) (by decide))
theorem c_crs {p kl il km im : Nat} {σ : zMem} {A B : yT} (hp : zpr p) (hF : zField σ p) (hA : zVal σ kl il A) (oA : yOk p A) (hB : zVal σ km im B) (oB : yOk p B) : zVal (zcrs σ kl il km im) 14 1 (yR p (yX p A B), yR p (yY p A B), 0) := by
  have h0 := zpr_pos hp
  have hd := c_det hp hF hA oA hB oB
  obtain ⟨a1, a2, a3⟩ := zVB hp hA oA
  obtain ⟨b1, b2, b3⟩ := zVB hp hB oB
  have db : yB (zdet σ kl il km im) (yR p (yD A B) : Nat) 42 := by rw [hd]; exact yR_B hp
  refine zVal_put ?_ ?_ rfl
  · rw [cQ hp hF (yB_sub (yB_mul a2 b3 (by decide)) (yB_mul b2 a3 (by decide)) (by decide)) db, cRR hp hF, yV_E (yE_R h0)]
    rfl
  · rw [cQ hp hF (yB_sub (yB_mul b1 a3 (by decide)) (yB_mul a1 b3 (by decide)) (by decide)) db, cRR hp hF, yV_E (yE_R h0)]
    rfl
theorem zVal_of {σ σ' : zMem} {k i : Nat} {A : yT} (h : ∀ j, σ' k i j = σ k i j) (hA : zVal σ k i A) : zVal σ' k i A := ⟨(h 8).trans hA.1, (h 9).trans hA.2.1, (h 10).trans hA.2.2⟩
theorem zcrs_ne {σ : zMem} {kl il km im k i j : Nat} (h : k ≠ 14) : zcrs σ kl il km im k i j = σ k i j := ySame_put k i j (fun q => h q.1) h
theorem c_share {p l m n : Nat} {σ : zMem} {A B C : yT} (hp : zpr p) (hF : zField σ p) (hA : zVal σ 4 l A) (nA : yLine p A) (hB : zVal σ 4 m B) (nB : yLine p B) (hC : zVal σ 4 n C) (nC : yLine p C) : zshP σ 4 l 4 m 4 n ↔ yHc p A B C := by
  have h0 := zpr_pos hp
  rw [← y_share hp nA nB nC]
  have pw : zpow (zcrs σ 4 l 4 m) 14 1 4 n = 0 ↔ yon p C (yX p A B) (yY p A B) := by
    have hF' : zField (zcrs σ 4 l 4 m) p := zField_of (fun k' j' g => zcrs_ne (by omega)) hF
    have v := c_crs hp hF hA nA.1 hB nB.1
    have ok : yOk p (yR p (yX p A B), yR p (yY p A B), 0) := ⟨yR_lt h0, yR_lt h0, h0⟩
    rw [c_pow hp hF' v ok (zVal_of (fun j => zcrs_ne (by decide)) hC) nC.1, nI_R0 hp, yR_0 h0]
    exact ⟨fun g => yon_E (yE_R h0) (yE_R h0) g, fun g => yon_E (yE_symm (yE_R h0)) (yE_symm (yE_R h0)) g⟩
  have hd : zdet σ 4 l 4 m = 0 ↔ ypa A B := by rw [c_det hp hF hA nA.1 hB nB.1, nI_R0 hp, yR_0 h0, y_par hp nA nB]
  have lk : ∀ {X Y : yT}, ypa X Y → (X = Y ↔ X.2.2 = Y.2.2) := fun {X Y} h => ⟨fun g => by rw [g], fun g => Prod.ext h.1 (Prod.ext h.2 g)⟩
  unfold zshP ySh
  rw [c_par hp hA nA.1 hB nB.1, c_par hp hA nA.1 hC nC.1, c_like hp hA nA.1 hB nB.1, c_like hp hA nA.1 hC nC.1, hd, pw]
  constructor
  · rintro ⟨h1, h2⟩
    by_cases g : ypa A B
    · obtain ⟨g1, g2⟩ := h1 g
      exact Or.inl ⟨g, (lk g).mp g1, fun q => g2.elim (fun z => absurd q z) (fun z => by rw [z])⟩
    · exact Or.inr ⟨g, (h2 g).2⟩
  · rintro (⟨g, g1, g2⟩ | ⟨g, g1⟩)
    · refine ⟨fun _ => ⟨(lk g).mpr g1, ?_⟩, fun q => absurd g q⟩
      by_cases z : ypa A C
      · exact Or.inr ((lk z).mpr (g2 z))
      · exact Or.inl z
    · exact ⟨fun q => absurd q g, fun _ => ⟨g, g1⟩⟩
/-- only what is kept for a moment differs -/
def z14 (σ σ' : zMem) : Prop := ∀ k i j, k ≠ 14 → σ' k i j = σ k i j
theorem z14_tr {σ : zMem} {w : Int32} {a b : Nat} : z14 σ (zTrS σ w a b) := by
  intro k i j hk
  unfold zTrS
  by_cases h : w = 7
  · rw [if_pos h]
    unfold zshS
    split
    · rfl
    · exact zcrs_ne hk
  · rw [if_neg h]
/-- what a verdict needs of the class's memory -/
def zCv (p m : Nat) (v : Nat → Option yT) (s : Nat) (q : Nat → Option Nat) (σ : zMem) : Prop := zField σ p ∧ σ 5 0 2 = nI m ∧ σ 4 43 7 = 0 ∧ s < 8 ∧ ∀ i, i < 4 → (i < zna s → ∃ o, q i = some o ∧ o < m ∧ zcv σ o (v o) ∧ ∀ A, v o = some A → yOk p A ∧ (s = 7 → yLine p A)) ∧ (zna s ≤ i → q i = none)
theorem c_verdict {p m ic s : Nat} {v : Nat → Option yT} {q : Nat → Option Nat} {σ : zMem} {τ : zTmp} (hp : zpr p) (hm : m ≤ 43) (hic : ic < 21) (h : zCv p m v s q σ) (h0 : σ 16 ic 0 = nI s) (hq : ∀ i, i < 4 → σ 16 ic (1 + i) = yq (q i)) :
    ∃ σ', m_X8_verdict [zO 0 0, zO 16 ic] (σ, τ) = some (.inl (some (zI (yver p v s q))), (σ', τ)) ∧ z14 σ σ' := by
  have h00 := zpr_pos hp
  obtain ⟨hF, hs, h43, hs8, ho⟩ := h
  have co : ∀ i, i < 4 → zco σ ic (1 + i) = (q i).getD 43 ∧ (σ 4 (zco σ ic (1 + i)) 7 = 0 ↔ ypv v (q i) ≠ none) := by
    intro i hi
    have e : zco σ ic (1 + i) = (q i).getD 43 := by
      unfold zco
      rw [hq i hi]
      refine zat_q hs hm (fun n hn => ?_)
      by_cases g : i < zna s
      · obtain ⟨o, e, l, _⟩ := (ho i hi).1 g
        rw [hn] at e
        have := Option.some.inj e
        omega
      · rw [(ho i hi).2 (by omega)] at hn
        exact absurd hn (by simp)
    refine ⟨e, ?_⟩
    rw [e]
    by_cases g : i < zna s
    · obtain ⟨o, e, l, z, _⟩ := (ho i hi).1 g
      rw [e]
      exact (zcv_01 z).1
    · rw [(ho i hi).2 (by omega)]
      exact ⟨fun _ => by simp [ypv], fun _ => h43⟩
  have co0 := co 0 (by decide)
  have co1 := co 1 (by decide)
  have co2 := co 2 (by decide)
  have co3 := co 3 (by decide)
  obtain ⟨vd1, vd2⟩ := sp_verdict (σ := σ) (τ := τ) hic
  by_cases hl : ypv v (q 0) = none ∨ ypv v (q 1) = none ∨ ypv v (q 2) = none ∨ ypv v (q 3) = none
  · have hz : zvoid σ ic := by
      rcases hl with h | h | h | h
      · exact Or.inl (fun g => (co0.2.mp g) h)
      · exact Or.inr (Or.inl (fun g => (co1.2.mp g) h))
      · exact Or.inr (Or.inr (Or.inl (fun g => (co2.2.mp g) h)))
      · exact Or.inr (Or.inr (Or.inr (fun g => (co3.2.mp g) h)))
    have hn : yver p v s q = -1 := by
      unfold yver
      cases e0 : ypv v (q 0) with
      | none => rfl
      | some A =>
        cases e1 : ypv v (q 1) with
        | none => rfl
        | some B =>
          cases e2 : ypv v (q 2) with
          | none => rfl
          | some C =>
            cases e3 : ypv v (q 3) with
            | none => rfl
            | some D => rw [e0, e1, e2, e3] at hl; simp at hl
    rw [hn]
    exact ⟨σ, vd1 hz, fun _ _ _ _ => rfl⟩
  · have n0 : ypv v (q 0) ≠ none := fun g => hl (Or.inl g)
    have n1 : ypv v (q 1) ≠ none := fun g => hl (Or.inr (Or.inl g))
    have n2 : ypv v (q 2) ≠ none := fun g => hl (Or.inr (Or.inr (Or.inl g)))
    have n3 : ypv v (q 3) ≠ none := fun g => hl (Or.inr (Or.inr (Or.inr g)))
    have hz : ¬ zvoid σ ic := fun g => g.elim (fun z => z (co0.2.mpr n0)) (fun g => g.elim (fun z => z (co1.2.mpr n1)) (fun g => g.elim (fun z => z (co2.2.mpr n2)) (fun z => z (co3.2.mpr n3))))
    obtain ⟨A, e0⟩ := Option.ne_none_iff_exists'.mp n0
    obtain ⟨B, e1⟩ := Option.ne_none_iff_exists'.mp n1
    obtain ⟨C, e2⟩ := Option.ne_none_iff_exists'.mp n2
    obtain ⟨D, e3⟩ := Option.ne_none_iff_exists'.mp n3
    have hver : yver p v s q = zb (yTr p s A B C D) := by unfold yver; rw [e0, e1, e2, e3]
    refine ⟨_, ?_, z14_tr (w := σ 16 ic 0) (a := zco σ ic 1) (b := zco σ ic 2)⟩
    rw [vd2 hz, hver]
    have get : ∀ i, i < 4 → i < zna s → ∀ X, ypv v (q i) = some X → zVal σ 4 (zco σ ic (1 + i)) X ∧ yOk p X ∧ (s = 7 → yLine p X) := by
      intro i hi hn X hX
      obtain ⟨o, e, l, z, f⟩ := (ho i hi).1 hn
      rw [(co i hi).1, e]
      rw [e] at hX
      have hX : v o = some X := hX
      rw [hX] at z
      exact ⟨z.2, f X hX⟩
    have na2 : 2 ≤ zna s := by unfold zna; split; decide; split <;> decide
    obtain ⟨vA, oA, lA⟩ := get 0 (by decide) (by omega) A e0
    obtain ⟨vB, oB, lB⟩ := get 1 (by decide) (by omega) B e1
    have key : zTrue σ (nI s) (zco σ ic 1) (zco σ ic 2) (zco σ ic 3) (zco σ ic 4) ↔ yTr p s A B C D := by
      have cases : s = 0 ∨ s = 1 ∨ s = 2 ∨ s = 3 ∨ s = 4 ∨ s = 5 ∨ s = 6 ∨ s = 7 := by omega
      rcases cases with g | g | g | g | g | g | g | g <;> subst g
      · show zpow σ 4 (zco σ ic 1) 4 (zco σ ic 2) = 0 ↔ yR p (ye B A) = 0
        rw [c_pow hp hF vA oA vB oB]
        exact nI_R0 hp
      · show zsq σ 4 (zco σ ic 1) 4 (zco σ ic 2) = σ 4 (zco σ ic 2) 10 ↔ yR p (ysq A B) = B.2.2
        rw [c_sq hp hF vA oA vB oB, vB.2.2]
        exact nI_V hp (yR_lt h00) oB.2.2
      · obtain ⟨vC, oC, lC⟩ := get 2 (by decide) (by decide) C e2
        show zinl σ 4 (zco σ ic 1) 4 (zco σ ic 2) 4 (zco σ ic 3) ↔ yR p (yC A B C) = 0
        exact c_inl hp hF vA oA vB oB vC oC
      · show zpar σ 4 (zco σ ic 1) 4 (zco σ ic 2) ↔ ypa A B
        exact c_par hp vA oA vB oB
      · show zR σ (σ 4 (zco σ ic 1) 8 * σ 4 (zco σ ic 2) 8 + σ 4 (zco σ ic 1) 9 * σ 4 (zco σ ic 2) 9) = 0 ↔ yR p ((A.1 : Int) * B.1 + (A.2.1 : Int) * B.2.1) = 0
        obtain ⟨a1, a2, a3⟩ := zVB hp vA oA
        obtain ⟨b1, b2, b3⟩ := zVB hp vB oB
        rw [cR hp hF (yB_add (yB_mul a1 b1 (by decide)) (yB_mul a2 b2 (by decide)) (by decide))]
        exact nI_R0 hp
      · obtain ⟨vC, oC, lC⟩ := get 2 (by decide) (by decide) C e2
        obtain ⟨vD, oD, lD⟩ := get 3 (by decide) (by decide) D e3
        show zsq σ 4 (zco σ ic 1) 4 (zco σ ic 2) = zsq σ 4 (zco σ ic 3) 4 (zco σ ic 4) ↔ yR p (ysq A B) = yR p (ysq C D)
        rw [c_sq hp hF vA oA vB oB, c_sq hp hF vC oC vD oD]
        exact nI_V hp (yR_lt h00) (yR_lt h00)
      · show zlike σ 4 (zco σ ic 1) 4 (zco σ ic 2) ↔ A = B
        exact c_like hp vA oA vB oB
      · obtain ⟨vC, oC, lC⟩ := get 2 (by decide) (by decide) C e2
        show zshP σ 4 (zco σ ic 1) 4 (zco σ ic 2) 4 (zco σ ic 3) ↔ yHc p A B C
        exact c_share hp hF vA (lA rfl) vB (lB rfl) vC (lC rfl)
    rw [h0, propext key]
/-! the reference's verdict -/
theorem zL3_of {σ σ' : zMem} (h : zL3 σ σ') : zKr σ σ' := zKr_L3 h
def zRv (p m : Nat) (v : Nat → Option yT) (s : Nat) (q : Nat → Option Nat) (σ : zMem) : Prop := σ 0 0 1 = nI p ∧ s < 8 ∧ ∀ i, i < 4 → (i < zna s → ∃ o, q i = some o ∧ o < m ∧ zrv σ o (v o) ∧ ∀ A, v o = some A → yOk p A ∧ (s = 7 → yLine p A)) ∧ (zna s ≤ i → q i = none)
theorem r_onL {p l : Nat} {σ : zMem} {x y : Int32} {e f : Int} {L : yT} (hp : zpr p) (hs : σ 0 0 1 = nI p) (hL : zValR σ l L) (oL : yOk p L) (hx : yB x e 42) (hy : yB y f 42) : zonL σ l x y ↔ yon p L e f := by
  obtain ⟨l1, l2, l3⟩ := zRB hp hL oL
  unfold zonL
  rw [rM hp hs (yB_add (yB_add (yB_mul l1 hx (by decide)) (yB_mul l2 hy (by decide)) (by decide)) l3 (by decide)), nI_R0 hp, yR_0 (zpr_pos hp)]
  exact Iff.rfl
theorem r_sq {p a b : Nat} {σ : zMem} {A B : yT} (hp : zpr p) (hs : σ 0 0 1 = nI p) (hA : zValR σ a A) (oA : yOk p A) (hB : zValR σ b B) (oB : yOk p B) : zsq2 σ a b = nI (yR p (ysq A B)) := by
  obtain ⟨a1, a2, a3⟩ := zRB hp hA oA
  obtain ⟨b1, b2, b3⟩ := zRB hp hB oB
  exact rM hp hs (yB_add (yB_mul (yB_sub a1 b1 (by decide)) (yB_sub a1 b1 (by decide)) (by decide)) (yB_mul (yB_sub a2 b2 (by decide)) (yB_sub a2 b2 (by decide)) (by decide)) (by decide))
theorem zL3_refl' {σ : zMem} : zL3 σ σ := zL3_refl
