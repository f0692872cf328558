/-! ===== the class's draw, all ways ===== -/
def ywy (w : Nat) : Prop := w < 9 ∨ 10 ≤ w ∧ w < 14 ∨ 20 ≤ w ∧ w < 23
/-- what the parents must be, by ways -/
def yA (p w : Nat) (A : yT) : Prop := yOk p A ∧ (w = 1 ∨ w = 2 ∨ w = 3 ∨ w = 4 → yLine p A)
def yBq (p w : Nat) (B : yT) : Prop := yOk p B ∧ (w = 2 ∨ w = 8 ∨ w = 11 ∨ w = 12 → yLine p B)
theorem zR_keep {σ : zMem} {v : Int32} {x y z : Int32} {i : Nat} : zR (zput σ 14 i x y z) v = zR σ v := by simp [zR, zput, zup]
theorem zField_put {p k i : Nat} {σ : zMem} {x y z : Int32} (h3 : k ≠ 3) (h9 : k ≠ 9) (h10 : k ≠ 10) (hF : zField σ p) : zField (zput σ k i x y z) p := by
  obtain ⟨h1, h2, h4⟩ := hF
  have e : ∀ k' j, k' ≠ k → zput σ k i x y z k' 0 j = σ k' 0 j := fun k' j h => by simp [zput, zup, h]
  exact ⟨(e 3 0 h3.symm).trans h1, fun n hn => (e 9 n h9.symm).trans (h2 n hn), fun n hn => (e 10 n h10.symm).trans (h4 n hn)⟩
theorem zVal_14 {σ : zMem} {k i : Nat} {x y z : Int32} {A : yT} (hk : k ≠ 14) (h : zVal σ k i A) : zVal (zput σ 14 0 x y z) k i A := by
  obtain ⟨h1, h2, h3⟩ := h
  exact ⟨(ySame_put k i 8 (fun g => hk g.1) hk).trans h1, (ySame_put k i 9 (fun g => hk g.1) hk).trans h2, (ySame_put k i 10 (fun g => hk g.1) hk).trans h3⟩
theorem yOut_14 {σ : zMem} {τ : zTmp} {i : Nat} {x y z : Int32} {F : Option yT} {o : Option zOut} (h : yOut (zput σ 14 0 x y z) τ 4 i F o) : yOut σ τ 4 i F o := by
  cases F with
  | none =>
    obtain ⟨σ', e, hs⟩ := h
    exact ⟨σ', e, ySame_14 rfl ySame_put hs⟩
  | some A =>
    obtain ⟨σ', e, hs, hv⟩ := h
    exact ⟨σ', e, ySame_14 rfl ySame_put hs, hv⟩
theorem c_S {k i k' i' : Nat} {σ : zMem} {A B : yT} (a : yB (σ k i 8) A.1 42 ∧ yB (σ k i 9) A.2.1 42 ∧ yB (σ k i 10) A.2.2 42) (b : yB (σ k' i' 8) B.1 42 ∧ yB (σ k' i' 9) B.2.1 42 ∧ yB (σ k' i' 10) B.2.2 42) : yB (zctS σ k i k' i') (yS A B) ((42 + 42) * (42 + 42) + (42 + 42) * (42 + 42)) :=
  yB_add (yB_mul (yB_sub b.1 a.1 (by decide)) (yB_sub b.1 a.1 (by decide)) (by decide)) (yB_mul (yB_sub b.2.1 a.2.1 (by decide)) (yB_sub b.2.1 a.2.1 (by decide)) (by decide)) (by decide)
theorem yOut_ct {p k i ka ia kb ib kc ic : Nat} {σ : zMem} {τ : zTmp} {A B C : yT} (hp : zpr p) (hF : zField σ p) (a : yB (σ ka ia 8) A.1 42 ∧ yB (σ ka ia 9) A.2.1 42 ∧ yB (σ ka ia 10) A.2.2 42) (b : yB (σ kb ib 8) B.1 42 ∧ yB (σ kb ib 9) B.2.1 42 ∧ yB (σ kb ib 10) B.2.2 42) (c : yB (σ kc ic 8) C.1 42 ∧ yB (σ kc ic 9) C.2.1 42 ∧ yB (σ kc ic 10) C.2.2 42) :
    yOut σ τ k i (yF22 p A B C) (if zctD σ ka ia kb ib kc ic = 0 then some (.inl (some (zI 0)), (σ, τ)) else zcr σ τ k i (σ ka ia 8 + zctU σ ka ia kb ib kc ic) (σ ka ia 9 + zctV σ ka ia kb ib kc ic) (zctU σ ka ia kb ib kc ic * zctU σ ka ia kb ib kc ic + zctV σ ka ia kb ib kc ic * zctV σ ka ia kb ib kc ic)) := by
  have h0 := zpr_pos hp
  have sB := c_S a b
  have sC := c_S a c
  obtain ⟨a1, a2, a3⟩ := a
  obtain ⟨b1, b2, b3⟩ := b
  obtain ⟨c1, c2, c3⟩ := c
  have hd : zctD σ ka ia kb ib kc ic = nI (yR p (2 * yC A B C)) := cR hp hF (yB_mul yB_2 (yB_sub (yB_mul (yB_sub b1 a1 (by decide)) (yB_sub c2 a2 (by decide)) (by decide)) (yB_mul (yB_sub c1 a1 (by decide)) (yB_sub b2 a2 (by decide)) (by decide)) (by decide)) (by decide))
  have db : yB (zctD σ ka ia kb ib kc ic) (yR p (2 * yC A B C) : Nat) 42 := by rw [hd]; exact yR_B hp
  have hU : zctU σ ka ia kb ib kc ic = nI (yR p (yU p A B C)) := by
    unfold zctU
    rw [cQ hp hF (yB_sub (yB_mul (yB_sub c2 a2 (by decide)) sB (by decide)) (yB_mul (yB_sub b2 a2 (by decide)) sC (by decide)) (by decide)) db, yV_E (yE_R h0)]
    rfl
  have hV : zctV σ ka ia kb ib kc ic = nI (yR p (yW p A B C)) := by
    unfold zctV
    rw [cQ hp hF (yB_sub (yB_mul (yB_sub b1 a1 (by decide)) sC (by decide)) (yB_mul (yB_sub c1 a1 (by decide)) sB (by decide)) (by decide)) db, yV_E (yE_R h0)]
    rfl
  have ub : yB (zctU σ ka ia kb ib kc ic) (yR p (yU p A B C) : Nat) 42 := by rw [hU]; exact yR_B hp
  have vb : yB (zctV σ ka ia kb ib kc ic) (yR p (yW p A B C) : Nat) 42 := by rw [hV]; exact yR_B hp
  have l := yOut_cr (k := k) (i := i) (τ := τ) hp hF (yB_add a1 ub (by decide)) (yB_add a2 vb (by decide)) (yB_add (yB_mul ub ub (by decide)) (yB_mul vb vb (by decide)) (by decide))
  have e3 : yR p ((yR p (yU p A B C) : Nat) * (yR p (yU p A B C) : Nat) + (yR p (yW p A B C) : Nat) * (yR p (yW p A B C) : Nat)) = yR p (yU p A B C * yU p A B C + yW p A B C * yW p A B C) := yR_E (yE_add (yE_mul (yE_R h0) (yE_R h0)) (yE_mul (yE_R h0) (yE_R h0)))
  rw [e3, yR_E (yE_add (yE_refl (a := (A.1 : Int))) (yE_R (e := yU p A B C) h0)), yR_E (yE_add (yE_refl (a := (A.2.1 : Int))) (yE_R (e := yW p A B C) h0))] at l
  rw [hd]
  unfold yF22
  by_cases g : yR p (yC A B C) = 0
  · have g2 : yR p (2 * yC A B C) = 0 := by
      have := yE_mul (yE_refl (a := (2 : Int))) ((yR_0 h0).mp g)
      rw [Int.mul_zero] at this
      exact (yR_0 h0).mpr this
    rw [if_pos g, if_pos ((nI_R0 hp).mpr g2)]
    exact ⟨_, rfl, ySame_refl⟩
  · have g1 : ¬ yE p (yC A B C) 0 := fun q => g ((yR_0 h0).mpr q)
    have g2 : ¬ yR p (2 * yC A B C) = 0 := fun q => y_ne_mul hp (y_2 hp) g1 ((yR_0 h0).mp q)
    rw [if_neg g, if_neg (fun q => g2 ((nI_R0 hp).mp q))]
    rw [if_neg (fun q => y_rad hp g1 ((yR_0 h0).mp q))] at l
    exact l
theorem yc_draw {p w i ia ib ic : Nat} {x y : Int} {σ : zMem} {τ : zTmp} {A B C : yT} (hp : zpr p) (hF : zField σ p) (hi : i < 44) (hia : ia < 44) (hib : ib < 44) (hic : ic < 44) (hw : σ 4 i 1 = nI w) (hy : ywy w)
    (hx : w < 2 → yB (σ 4 i 5) x 42) (hyy : w = 0 → yB (σ 4 i 6) y 42) (hA : w ≠ 0 → zVal σ 4 ia A ∧ yA p w A) (hB : 2 ≤ w → zVal σ 4 ib B ∧ yBq p w B) (hC : 21 ≤ w → zVal σ 4 ic C ∧ yOk p C) :
    yOut σ τ 4 i (yF p w x y A B C) (m_X2_draw [zO 2 0, zO 4 i, zO 4 ia, zO 4 ib, zO 4 ic] (σ, τ)) := by
  have h0 := zpr_pos hp
  have h43 := (zpr_lt hp).2
  have f := zfig4 hi
  have fa := zfig4 hia
  have fb := zfig4 hib
  have fc := zfig4 hic
  have pa : w ≠ 0 → yB (σ 4 ia 8) A.1 42 ∧ yB (σ 4 ia 9) A.2.1 42 ∧ yB (σ 4 ia 10) A.2.2 42 := fun h => zVB hp (hA h).1 (hA h).2.1
  have pb : 2 ≤ w → yB (σ 4 ib 8) B.1 42 ∧ yB (σ 4 ib 9) B.2.1 42 ∧ yB (σ 4 ib 10) B.2.2 42 := fun h => zVB hp (hB h).1 (hB h).2.1
  have pc : 21 ≤ w → yB (σ 4 ic 8) C.1 42 ∧ yB (σ 4 ic 9) C.2.1 42 ∧ yB (σ 4 ic 10) C.2.2 42 := fun h => zVB hp (hC h).1 (hC h).2
  have cases : w = 0 ∨ w = 1 ∨ w = 2 ∨ w = 3 ∨ w = 4 ∨ w = 5 ∨ w = 6 ∨ w = 7 ∨ w = 8 ∨ w = 10 ∨ w = 11 ∨ w = 12 ∨ w = 13 ∨ w = 20 ∨ w = 21 ∨ w = 22 := by unfold ywy at hy; omega
  have chord : 2 ≤ w → (w = 5 ∨ w = 6) → ∀ first : Prop, ((σ 4 i 1 = 3 ∨ σ 4 i 1 = 5) ↔ first) → yOut σ τ 4 i (yF5 p first A B) (if zlead σ (2 * (σ 4 ib 8 - σ 4 ia 8)) (2 * (σ 4 ib 9 - σ 4 ia 9)) = 0 then some (.inl (some (zI 0)), (σ, τ)) else zlc (zchord σ 4 ia 4 ib) τ 4 i 14 0 4 ia) := by
    intro h2 h56 first hfst
    obtain ⟨a1, a2, a3⟩ := pa (by omega)
    obtain ⟨b1, b2, b3⟩ := pb h2
    have bA : yB (2 * (σ 4 ib 8 - σ 4 ia 8)) (ybA A B) (2 * (42 + 42)) := yB_mul yB_2 (yB_sub b1 a1 (by decide)) (by decide)
    have bB : yB (2 * (σ 4 ib 9 - σ 4 ia 9)) (ybB A B) (2 * (42 + 42)) := yB_mul yB_2 (yB_sub b2 a2 (by decide)) (by decide)
    have bC : yB (σ 4 ia 8 * σ 4 ia 8 + σ 4 ia 9 * σ 4 ia 9 - σ 4 ia 10 - σ 4 ib 8 * σ 4 ib 8 - σ 4 ib 9 * σ 4 ib 9 + σ 4 ib 10) ((A.1 : Int) * A.1 + (A.2.1 : Int) * A.2.1 - A.2.2 - (B.1 : Int) * B.1 - (B.2.1 : Int) * B.2.1 + B.2.2) _ := yB_add (yB_sub (yB_sub (yB_sub (yB_add (yB_mul a1 a1 (by decide)) (yB_mul a2 a2 (by decide)) (by decide)) a3 (by decide)) (yB_mul b1 b1 (by decide)) (by decide)) (yB_mul b2 b2 (by decide)) (by decide)) b3 (by decide)
    have eC : (A.1 : Int) * A.1 + (A.2.1 : Int) * A.2.1 - A.2.2 - (B.1 : Int) * B.1 - (B.2.1 : Int) * B.2.1 + B.2.2 = ybC A B - A.2.2 + B.2.2 := by unfold ybC; omega
    rw [eC] at bC
    have hl := c_lead hp hF bA bB
    have hk : zlnK σ (2 * (σ 4 ib 8 - σ 4 ia 8)) (2 * (σ 4 ib 9 - σ 4 ia 9)) = nI (zopp p (yR p (yfs p (ybA A B) (ybB A B)))) := by unfold zlnK; rw [hl, cV hp hF]
    unfold yF5 zchord
    rw [hl, hk, cR hp hF (yB_mul bA (yV_B hp) (by decide)), cR hp hF (yB_mul bB (yV_B hp) (by decide)), cR hp hF (yB_mul bC (yV_B hp) (by decide))]
    cases hch : ych p A B with
    | none =>
      simp only []
      have g : yR p (yfs p (ybA A B) (ybB A B)) = 0 := by
        by_cases g : yR p (yfs p (ybA A B) (ybB A B)) = 0
        · exact g
        · unfold ych yLn at hch
          rw [if_neg g] at hch
          exact absurd hch (by simp)
      rw [if_pos ((nI_R0 hp).mpr g)]
      exact ⟨_, rfl, ySame_refl⟩
    | some L =>
      simp only []
      have nL : yLine p L := yLn_line hp hch
      unfold ych yLn at hch
      by_cases g : yR p (yfs p (ybA A B) (ybB A B)) = 0
      · rw [if_pos g] at hch; exact absurd hch (by simp)
      · rw [if_neg g] at hch
        have hch := Option.some.inj hch
        rw [if_neg (fun q => g ((nI_R0 hp).mp q))]
        refine yOut_14 (x := nI (yR p (ybA A B * yV p (yfs p (ybA A B) (ybB A B))))) (y := nI (yR p (ybB A B * yV p (yfs p (ybA A B) (ybB A B))))) (z := nI (yR p ((ybC A B - A.2.2 + B.2.2) * yV p (yfs p (ybA A B) (ybB A B))))) ?_
        refine yOut_lc (L := L) hp (zField_put (by decide) (by decide) (by decide) hF) ?_ nL (zVal_14 (by decide) (hA (by omega)).1) (hA (by omega)).2.1 ?_
        · rw [← hch]
          exact zVal_put rfl rfl rfl
        · rw [ySame_put 4 i 1 (fun q => absurd q.1 (by decide)) (by decide)]
          exact hfst
  rcases cases with h | h | h | h | h | h | h | h | h | h | h | h | h | h | h | h
  · subst h
    rw [sp_draw_0 f fa fb fc hw]
    have e : yF p 0 x y A B C = some (yR p x, yR p y, 0) := rfl
    rw [e]
    exact yOut_put (cR hp hF (hx (by decide))) (cR hp hF (hyy rfl)) rfl
  · subst h
    obtain ⟨a1, a2, a3⟩ := pa (by decide)
    obtain ⟨vA, oA, lA⟩ := hA (by decide)
    have bx := hx (by decide)
    rw [sp_draw_1 f fa fb fc hw]
    have e : yF p 1 x y A B C = some (yF1 p x A) := rfl
    rw [e]
    unfold yF1
    by_cases hb : A.2.1 = 0
    · have hb' : σ 4 ia 9 = 0 := by rw [vA.2.1, hb]; rfl
      rw [if_pos hb, if_pos hb']
      exact yOut_put (cR hp hF (yB_neg a3 (by decide))) (cR hp hF bx) rfl
    · have hb' : ¬ σ 4 ia 9 = 0 := by rw [vA.2.1]; exact fun q => hb ((nI_z0 (by have := oA.2.1; omega)).mp q)
      rw [if_neg hb, if_neg hb']
      refine yOut_put (cR hp hF bx) ?_ rfl
      rw [cQ hp hF (yB_neg (yB_add (yB_mul a1 bx (by decide)) a3 (by decide)) (by decide)) a2, cRR hp hF]
  · subst h
    obtain ⟨a1, a2, a3⟩ := pa (by decide)
    obtain ⟨b1, b2, b3⟩ := pb (by decide)
    rw [sp_draw_2 f fa fb fc hw]
    have e : yF p 2 x y A B C = yF2 p A B := rfl
    have hd : zdet σ 4 ia 4 ib = nI (yR p (yD A B)) := cR hp hF (yB_sub (yB_mul a1 b2 (by decide)) (yB_mul b1 a2 (by decide)) (by decide))
    have db : yB (zdet σ 4 ia 4 ib) (yR p (yD A B) : Nat) 42 := by rw [hd]; exact yR_B hp
    rw [e, cQ hp hF (yB_sub (yB_mul a2 b3 (by decide)) (yB_mul b2 a3 (by decide)) (by decide)) db, cQ hp hF (yB_sub (yB_mul b1 a3 (by decide)) (yB_mul a1 b3 (by decide)) (by decide)) db, cRR hp hF, cRR hp hF, hd, yV_E (yE_R h0)]
    unfold yF2
    by_cases g : yR p (yD A B) = 0
    · rw [if_pos g, if_pos ((nI_R0 hp).mpr g)]
      exact ⟨_, rfl, ySame_refl⟩
    · rw [if_neg g, if_neg (fun q => g ((nI_R0 hp).mp q))]
      exact yOut_put rfl rfl rfl
  · subst h
    rw [sp_draw_3 f fa fb fc hw]
    have e : yF p 3 x y A B C = yLC p True A B := rfl
    rw [e]
    exact yOut_lc hp hF (hA (by decide)).1 ((hA (by decide)).2.2 (by omega)) (hB (by decide)).1 (hB (by decide)).2.1 ⟨fun _ => trivial, fun _ => Or.inl hw⟩
  · subst h
    rw [sp_draw_4 f fa fb fc hw]
    have e : yF p 4 x y A B C = yLC p False A B := rfl
    rw [e]
    exact yOut_lc hp hF (hA (by decide)).1 ((hA (by decide)).2.2 (by omega)) (hB (by decide)).1 (hB (by decide)).2.1 ⟨fun q => by rw [hw] at q; exact absurd q (by decide), fun q => q.elim⟩
  · subst h
    rw [sp_draw_5 f fa fb fc hw]
    have e : yF p 5 x y A B C = yF5 p True A B := rfl
    rw [e]
    exact chord (by decide) (Or.inl rfl) True ⟨fun _ => trivial, fun _ => Or.inr hw⟩
  · subst h
    rw [sp_draw_6 f fa fb fc hw]
    have e : yF p 6 x y A B C = yF5 p False A B := rfl
    rw [e]
    exact chord (by decide) (Or.inr rfl) False ⟨fun q => by rw [hw] at q; exact absurd q (by decide), fun q => q.elim⟩
  · subst h
    obtain ⟨a1, a2, a3⟩ := pa (by decide)
    obtain ⟨b1, b2, b3⟩ := pb (by decide)
    rw [sp_draw_7 f fa fb fc hw]
    have e : yF p 7 x y A B C = some (yF7 p A B) := rfl
    rw [e]
    refine yOut_put ?_ ?_ rfl
    · rw [cQ hp hF (yB_add a1 b1 (by decide)) yB_2, cRR hp hF]; rfl
    · rw [cQ hp hF (yB_add a2 b2 (by decide)) yB_2, cRR hp hF]; rfl
  · subst h
    obtain ⟨a1, a2, a3⟩ := pa (by decide)
    obtain ⟨b1, b2, b3⟩ := pb (by decide)
    obtain ⟨vA, oA, lA⟩ := hA (by decide)
    obtain ⟨vB, oB, lB⟩ := hB (by decide)
    have hpw := c_pow hp hF vA oA vB oB
    have pw : yB (zpow σ 4 ia 4 ib) (yR p (ye B A) : Nat) 42 := by rw [hpw]; exact yR_B hp
    have hk : zmirK σ 4 ia 4 ib = nI (yR p (yk p A B)) := by
      unfold zmirK
      rw [cQ hp hF (yB_mul yB_2 pw (by decide)) (yB_add (yB_mul b1 b1 (by decide)) (yB_mul b2 b2 (by decide)) (by decide))]
      exact congrArg nI (yR_E (yE_mul (yE_mul yE_refl (yE_R h0)) yE_refl))
    have kb : yB (zmirK σ 4 ia 4 ib) (yR p (yk p A B) : Nat) 42 := by rw [hk]; exact yR_B hp
    rw [sp_draw_8 f fa fb fc hw]
    have e : yF p 8 x y A B C = some (yF8 p A B) := rfl
    rw [e]
    refine yOut_put ?_ ?_ rfl
    · rw [cR hp hF (yB_sub a1 (yB_mul kb b1 (by decide)) (by decide))]
      exact congrArg nI (yR_E (yE_sub yE_refl (yE_mul (yE_R h0) yE_refl)))
    · rw [cR hp hF (yB_sub a2 (yB_mul kb b2 (by decide)) (by decide))]
      exact congrArg nI (yR_E (yE_sub yE_refl (yE_mul (yE_R h0) yE_refl)))
  · subst h
    obtain ⟨a1, a2, a3⟩ := pa (by decide)
    obtain ⟨b1, b2, b3⟩ := pb (by decide)
    rw [sp_draw_10 f fa fb fc hw]
    exact yOut_ln hp hF (yB_sub a2 b2 (by decide)) (yB_sub b1 a1 (by decide)) (yB_sub (yB_mul a1 b2 (by decide)) (yB_mul b1 a2 (by decide)) (by decide)) (by decide) (by decide) (by decide)
  · subst h
    obtain ⟨a1, a2, a3⟩ := pa (by decide)
    obtain ⟨b1, b2, b3⟩ := pb (by decide)
    obtain ⟨vB, oB, lB⟩ := hB (by decide)
    have lB := lB (by omega)
    rw [sp_draw_11 f fa fb fc hw]
    have l := yOut_ln (k := 4) (i := i) (τ := τ) hp hF b1 b2 (yB_neg (yB_add (yB_mul b1 a1 (by decide)) (yB_mul b2 a2 (by decide)) (by decide)) (by decide)) (by decide) (by decide) (by decide)
    have e : yF p 11 x y A B C = some (yF11 p A B) := rfl
    rw [e]
    have e2 : yLn p (B.1 : Int) B.2.1 (-((B.1 : Int) * A.1 + (B.2.1 : Int) * A.2.1)) = some (yF11 p A B) := by
      have h1 : yfs p (B.1 : Int) B.2.1 = 1 := by
        unfold yfs
        rw [yR_nat oB.1]
        rcases lB.2 with g | ⟨g, g'⟩
        · rw [g, if_neg (by decide)]; rfl
        · rw [g, if_pos rfl, g']; rfl
      have h2 : yE p (yV p 1) 1 := by
        have := y_inv hp (y_1 hp)
        rw [Int.one_mul] at this
        exact this
      have m1 : ∀ z : Int, yR p (z * yV p 1) = yR p z := fun z => by
        have := yE_mul (yE_refl (p := p) (a := z)) h2
        rw [Int.mul_one] at this
        exact yR_E this
      have n1 : ¬ yR p 1 = 0 := fun q => y_1 hp ((yR_0 h0).mp q)
      unfold yLn yF11
      rw [h1, if_neg n1, m1, m1, m1, yR_nat oB.1, yR_nat oB.2.1]
    rw [e2] at l
    exact l
  · subst h
    obtain ⟨a1, a2, a3⟩ := pa (by decide)
    obtain ⟨b1, b2, b3⟩ := pb (by decide)
    rw [sp_draw_12 f fa fb fc hw]
    have l := yOut_ln (k := 4) (i := i) (τ := τ) hp hF (yB_neg b2 (by decide)) b1 (yB_neg (yB_add (yB_mul (yB_neg b2 (by decide)) a1 (by decide)) (yB_mul b1 a2 (by decide)) (by decide)) (by decide)) (by decide) (by decide) (by decide)
    have e : -(-(B.2.1 : Int) * A.1 + (B.1 : Int) * A.2.1) = (B.2.1 : Int) * A.1 - (B.1 : Int) * A.2.1 := by rw [Int.neg_mul]; omega
    rw [e] at l
    exact l
  · subst h
    obtain ⟨a1, a2, a3⟩ := pa (by decide)
    obtain ⟨b1, b2, b3⟩ := pb (by decide)
    rw [sp_draw_13 f fa fb fc hw]
    exact yOut_ln hp hF (yB_mul yB_2 (yB_sub b1 a1 (by decide)) (by decide)) (yB_mul yB_2 (yB_sub b2 a2 (by decide)) (by decide)) (yB_sub (yB_sub (yB_add (yB_mul a1 a1 (by decide)) (yB_mul a2 a2 (by decide)) (by decide)) (yB_mul b1 b1 (by decide)) (by decide)) (yB_mul b2 b2 (by decide)) (by decide)) (by decide) (by decide) (by decide)
  · subst h
    obtain ⟨a1, a2, a3⟩ := pa (by decide)
    obtain ⟨b1, b2, b3⟩ := pb (by decide)
    have oA := (hA (by decide)).2.1
    rw [sp_draw_20 f fa fb fc hw, cR hp hF (yB_add (yB_mul (yB_sub a1 b1 (by decide)) (yB_sub a1 b1 (by decide)) (by decide)) (yB_mul (yB_sub a2 b2 (by decide)) (yB_sub a2 b2 (by decide)) (by decide)) (by decide))]
    have l := yOut_cr (k := 4) (i := i) (τ := τ) hp hF a1 a2 (yR_B (e := ysq A B) hp)
    rw [yR_nat oA.1, yR_nat oA.2.1, yR_nat (yR_lt h0)] at l
    exact l
  · subst h
    obtain ⟨a1, a2, a3⟩ := pa (by decide)
    obtain ⟨b1, b2, b3⟩ := pb (by decide)
    obtain ⟨c1, c2, c3⟩ := pc (by decide)
    have oA := (hA (by decide)).2.1
    rw [sp_draw_21 f fa fb fc hw, cR hp hF (yB_add (yB_mul (yB_sub b1 c1 (by decide)) (yB_sub b1 c1 (by decide)) (by decide)) (yB_mul (yB_sub b2 c2 (by decide)) (yB_sub b2 c2 (by decide)) (by decide)) (by decide))]
    have l := yOut_cr (k := 4) (i := i) (τ := τ) hp hF a1 a2 (yR_B (e := ysq B C) hp)
    rw [yR_nat oA.1, yR_nat oA.2.1, yR_nat (yR_lt h0)] at l
    exact l
  · subst h
    rw [sp_draw_22 f fa fb fc hw]
    exact yOut_ct hp hF (pa (by decide)) (pb (by decide)) (pc (by decide))

