/-! ===== the reference's find, all ways ===== -/
theorem yLn_none {p : Nat} {a b c : Int} (h : yR p (yfs p a b) = 0) : yLn p a b c = none := by unfold yLn; rw [if_pos h]
theorem yLn_is {p : Nat} {a b c : Int} (h : ¬ yR p (yfs p a b) = 0) : yLn p a b c = some (yR p (a * yV p (yfs p a b)), yR p (b * yV p (yfs p a b)), yR p (c * yV p (yfs p a b))) := by unfold yLn; rw [if_neg h]
theorem zLaid_ln {p : Nat} {σ : zMem} {a b c : Int32} {e f g : Int} {B C D : Nat} {L : yT} (hp : zpr p) (hs : σ 0 0 1 = nI p) (ha : yB a e B) (hb : yB b f C) (hc : yB c g D) (h : yLn p e f g = some L) : zLaid (zlnl σ p a b c) L := by
  have l := rOut_ln (τ := []) hp hs ha hb hc
  rw [h] at l
  obtain ⟨σ', e, _, hl⟩ := l
  unfold zll at e
  by_cases h0 : zfs p a b = 0
  · rw [if_pos h0] at e
    exact absurd e (by simp)
  · rw [if_neg h0] at e
    have e := congrArg (fun o : Option zOut => o.map (fun x => x.2.1)) e
    simp only [Option.map_some, Option.some.injEq] at e
    rw [e]
    exact hl
theorem r_bA {p o q : Nat} {σ : zMem} {A B : yT} (a : yB (zg σ o 8) A.1 42 ∧ yB (zg σ o 9) A.2.1 42 ∧ yB (zg σ o 10) A.2.2 42) (b : yB (zg σ q 8) B.1 42 ∧ yB (zg σ q 9) B.2.1 42 ∧ yB (zg σ q 10) B.2.2 42) :
    yB (zbA σ o q) (ybA A B) (2 * (42 + 42)) ∧ yB (zbB σ o q) (ybB A B) (2 * (42 + 42)) ∧ yB (zbC σ o q) (ybC A B) (42 * 42 + 42 * 42 + 42 * 42 + 42 * 42) ∧ yB (zqC σ o q) (ybC A B - A.2.2 + B.2.2) (42 * 42 + 42 * 42 + 42 * 42 + 42 * 42 + 42 + 42) := by
  obtain ⟨a1, a2, a3⟩ := a
  obtain ⟨b1, b2, b3⟩ := b
  have c := yB_sub (yB_sub (yB_add (yB_mul a1 a1 (by decide)) (yB_mul a2 a2 (by decide)) (by decide)) (yB_mul b1 b1 (by decide)) (by decide)) (yB_mul b2 b2 (by decide)) (by decide)
  exact ⟨yB_mul yB_2 (yB_sub b1 a1 (by decide)) (by decide), yB_mul yB_2 (yB_sub b2 a2 (by decide)) (by decide), c, yB_add (yB_sub c a3 (by decide)) b3 (by decide)⟩
theorem rOut_two {σ σ0 : zMem} {τ : zTmp} {F : Option yT} {o o' : Option zOut} (hL : zL3 σ0 σ) (h : rOut σ τ F o) (f : ∀ r σ', (r = 0 ∨ r = 1) → o = some (.inl (some (zI r)), (σ', τ)) → o' = some (.inl (some (zI r)), (σ', τ))) : rOut σ0 τ F o' := rOut_L3 hL (rOut_of h f)
theorem rOut_coc {p o q : Nat} {σ : zMem} {τ : zTmp} {S : Int32} {A B : yT} {first : Prop} (hp : zpr p) (hs : σ 0 0 1 = nI p) (ho : o < 40) (hq : q < 40) (hA : zValR σ o A) (oA : yOk p A) (hB : zValR σ q B) (oB : yOk p B) (hS : S = 0 ∧ first ∨ S = 1 ∧ ¬ first) : rOut σ τ (yF5 p first A B) (m_X9_commonOfCircles [zO 0 0, zI (nI o), zI (nI q), zI S] (σ, τ)) := by
  obtain ⟨bA, bB, _, bC⟩ := r_bA (p := p) (zRB hp hA oA) (zRB hp hB oB)
  have hf := r_fs (p := p) bA bB
  unfold yF5
  by_cases h : yR p (yfs p (ybA A B) (ybB A B)) = 0
  · have e : ych p A B = none := yLn_none h
    rw [e, rp_coc_no hp hs ho hq (by rw [hf]; exact h)]
    exact ⟨_, rfl, zL3_refl⟩
  · obtain ⟨L, e⟩ : ∃ L, ych p A B = some L := ⟨_, yLn_is h⟩
    rw [e]
    have nL := yLn_line hp e
    have lz := zLaid_ln hp hs bA bB bC e
    have ez : zlnl σ p (zbA σ o q) (zbB σ o q) (zqC σ o q) = zcoS σ p o q := rfl
    rw [ez] at lz
    have L3 : zL3 σ (zcoS σ p o q) := zL3_la
    have hs' : zcoS σ p o q 0 0 1 = nI p := by rw [zL3_0 L3]; exact hs
    obtain ⟨v1, v2, v3⟩ := hA
    have c := rOut_com (τ := τ) (S := S) (first := first) hp hs' nL oA lz.1 lz.2.1 lz.2.2 v1 v2 v3 hS
    exact rOut_two L3 c (fun r σ' hr ec => rp_coc hp hs ho hq (by rw [hf]; exact h) hr ec)
theorem rOut_ct {p o q r : Nat} {σ : zMem} {τ : zTmp} {A B C : yT} (hp : zpr p) (hs : σ 0 0 1 = nI p) (ho : o < 40) (hq : q < 40) (hr : r < 40) (hA : zValR σ o A) (oA : yOk p A) (hB : zValR σ q B) (oB : yOk p B) (hC : zValR σ r C) (oC : yOk p C) : rOut σ τ (yF22 p A B C) (m_X9_circleThrough [zO 0 0, zI (nI o), zI (nI q), zI (nI r)] (σ, τ)) := by
  have h0 := zpr_pos hp
  have ra := zRB hp hA oA
  have rb := zRB hp hB oB
  have rc := zRB hp hC oC
  obtain ⟨bA, bB, bC, _⟩ := r_bA (p := p) ra rb
  obtain ⟨cA, cB, cC, _⟩ := r_bA (p := p) ra rc
  obtain ⟨a1, a2, a3⟩ := ra
  obtain ⟨b1, b2, b3⟩ := rb
  obtain ⟨c1, c2, c3⟩ := rc
  have hl : zinL σ o q r ↔ yR p (yC A B C) = 0 := by
    unfold zinL
    rw [rM hp hs (yB_sub (yB_mul (yB_sub b1 a1 (by decide)) (yB_sub c2 a2 (by decide)) (by decide)) (yB_mul (yB_sub c1 a1 (by decide)) (yB_sub b2 a2 (by decide)) (by decide)) (by decide))]
    exact nI_R0 hp
  unfold yF22
  by_cases g : yR p (yC A B C) = 0
  · rw [if_pos g, rp_circleThrough_no hp hs ho hq hr (hl.mpr g)]
    exact ⟨_, rfl, zL3_refl⟩
  · have g1 : ¬ yE p (yC A B C) 0 := fun k => g ((yR_0 h0).mpr k)
    have n1 := y_bis_ne hp (A := A) (B := B) (fun k => g1 (y_q0 k.1 k.2))
    have n2 := y_bis_ne hp (A := A) (B := C) (fun k => g1 (y_r0 k.1 k.2))
    obtain ⟨L, eL⟩ : ∃ L, yLn p (ybA A B) (ybB A B) (ybC A B) = some L := ⟨_, yLn_is n1⟩
    obtain ⟨M, eM⟩ : ∃ M, yLn p (ybA A C) (ybB A C) (ybC A C) = some M := ⟨_, yLn_is n2⟩
    have okL := (yLn_line hp eL).1
    have okM := (yLn_line hp eM).1
    obtain ⟨hD, hX, hY⟩ := y_centre hp g1 eL eM
    have z1 : zL3 σ (zct_1 σ p o q) := zL3_la
    have s1 : zct_1 σ p o q 0 0 1 = nI p := by rw [zL3_0 z1]; exact hs
    have l1 : zLaid (zct_1 σ p o q) L := zLaid_ln hp hs bA bB bC eL
    have z2 : zL3 (zct_1 σ p o q) (zct_2 σ p o q r) := zL3_la
    have s2 : zct_2 σ p o q r 0 0 1 = nI p := by rw [zL3_0 z2]; exact s1
    have l2 : zLaid (zct_2 σ p o q r) M := zLaid_ln hp s1 cA cB cC eM
    have okn : ∀ {n : Nat}, n < p → yB (nI n) n 42 := fun h => yB_n (by have := zpr_lt hp; omega)
    have dt : zdt p (zct_1 σ p o q 3 0 0) (zct_1 σ p o q 3 0 1) (zct_2 σ p o q r 3 0 0) (zct_2 σ p o q r 3 0 1) = yR p (yD L M) := by
      rw [l1.1, l1.2.1, l2.1, l2.2.1]
      exact yB_mn (yB_sub (yB_mul (okn okL.1) (okn okM.2.1) (by decide)) (yB_mul (okn okM.1) (okn okL.2.1) (by decide)) (by decide))
    have hD' : ¬ yR p (yD L M) = 0 := fun k => hD ((yR_0 h0).mp k)
    rw [if_neg g, rp_circleThrough hp hs ho hq hr (fun k => g (hl.mp k)) (by rw [r_fs bA bB]; exact n1) (by rw [r_fs cA cB]; exact n2) (by rw [dt]; exact hD')]
    have i3 := rOut_int (τ := τ) (A := L) (B := M) hp s2 (okn okL.1) (okn okL.2.1) (okn okL.2.2) (okn okM.1) (okn okM.2.1) (okn okM.2.2)
    rw [← l1.1, ← l1.2.1, ← l1.2.2, ← l2.1, ← l2.2.1, ← l2.2.2, rp_intersect hp s2, dt, if_neg hD'] at i3
    unfold yF2 at i3
    rw [if_neg hD'] at i3
    obtain ⟨σ3, e3, z3, x3, y3, _⟩ := i3
    have e3' : zct_3 σ p o q r = σ3 := by
      have e := congrArg (fun o : Option zOut => o.map (fun x => x.2.1)) e3
      simp only [Option.map_some, Option.some.injEq] at e
      exact e
    have X3 : zct_3 σ p o q r 3 0 0 = nI (yR p (yX p L M)) := by rw [e3']; exact x3
    have Y3 : zct_3 σ p o q r 3 0 1 = nI (yR p (yY p L M)) := by rw [e3']; exact y3
    have z3' : zL3 (zct_2 σ p o q r) (zct_3 σ p o q r) := by rw [e3']; exact z3
    have s3 : zct_3 σ p o q r 0 0 1 = nI p := by rw [zL3_0 z3']; exact s2
    have bx := yR_B (p := p) (e := yX p L M) hp
    have bY := yR_B (p := p) (e := yY p L M) hp
    have zz : zL3 σ (zct_3 σ p o q r) := zL3_trans (zL3_trans z1 z2) z3'
    refine rOut_L3 zz ?_
    unfold zct_4
    rw [X3, Y3, rM hp hs (yB_add (yB_mul (yB_sub bx a1 (by decide)) (yB_sub bx a1 (by decide)) (by decide)) (yB_mul (yB_sub bY a2 (by decide)) (yB_sub bY a2 (by decide)) (by decide)) (by decide))]
    have kx : yE p ((yR p (yX p L M) : Nat) : Int) (A.1 + yU p A B C) := yE_trans (yE_R h0) hX
    have ky : yE p ((yR p (yY p L M) : Nat) : Int) (A.2.1 + yW p A B C) := yE_trans (yE_R h0) hY
    refine rOut_la hp s3 bx bY (yR_B hp) (yR_E kx) (yR_E ky) (yR_E (yE_trans (yE_R h0) ?_))
    refine yE_trans (yE_add (yE_mul (yE_sub kx yE_refl) (yE_sub kx yE_refl)) (yE_mul (yE_sub ky yE_refl) (yE_sub ky yE_refl))) (yE_eq ?_)
    have q1 : (A.1 : Int) + yU p A B C - A.1 = yU p A B C := by omega
    have q2 : (A.2.1 : Int) + yW p A B C - A.2.1 = yW p A B C := by omega
    rw [q1, q2]
theorem r_find {p w o a b c : Nat} {x y : Int} {σ : zMem} {τ : zTmp} {A B C : yT} (hp : zpr p) (hs : σ 0 0 1 = nI p) (ho : o < 40) (ha : a < 40) (hb : b < 40) (hc : c < 40) (hw : zg σ o 1 = nI w) (hy : ywy w)
    (ea : w ≠ 0 → zg σ o 2 = nI a) (eb : 2 ≤ w → zg σ o 3 = nI b) (ec : 21 ≤ w → zg σ o 4 = nI c)
    (hx : w < 2 → yB (zg σ o 5) x 42) (hyy : w = 0 → yB (zg σ o 6) y 42) (hA : w ≠ 0 → zValR σ a A ∧ yA p w A) (hB : 2 ≤ w → zValR σ b B ∧ yBq p w B) (hC : 21 ≤ w → zValR σ c C ∧ yOk p C) :
    rOut σ τ (yF p w x y A B C) (m_X9_find [zO 0 0, zI (nI o)] (σ, τ)) := by
  have h0 := zpr_pos hp
  have hz := zp_ne hp hs
  have pa : w ≠ 0 → yB (zg σ a 8) A.1 42 ∧ yB (zg σ a 9) A.2.1 42 ∧ yB (zg σ a 10) A.2.2 42 := fun h => zRB hp (hA h).1 (hA h).2.1
  have pb : 2 ≤ w → yB (zg σ b 8) B.1 42 ∧ yB (zg σ b 9) B.2.1 42 ∧ yB (zg σ b 10) B.2.2 42 := fun h => zRB hp (hB h).1 (hB h).2.1
  have cases : w = 0 ∨ w = 1 ∨ w = 2 ∨ w = 3 ∨ w = 4 ∨ w = 5 ∨ w = 6 ∨ w = 7 ∨ w = 8 ∨ w = 10 ∨ w = 11 ∨ w = 12 ∨ w = 13 ∨ w = 20 ∨ w = 21 ∨ w = 22 := by unfold ywy at hy; omega
  have lay : ∀ {a b c : Int32} {e f g : Int} {B C D : Nat} {A : yT}, yB a e B → yB b f C → yB c g D → yR p e = A.1 → yR p f = A.2.1 → yR p g = A.2.2 → rOut σ τ (some A) (m_X9_lay [zO 0 0, zI a, zI b, zI c] (σ, τ)) := fun h1 h2 h3 h4 h5 h6 => by
    rw [rp_lay hz]
    exact rOut_la hp hs h1 h2 h3 h4 h5 h6
  rcases cases with h | h | h | h | h | h | h | h | h | h | h | h | h | h | h | h
  · subst h
    refine rOut_of (lay (hx (by decide)) (hyy rfl) yB_0 rfl rfl yR_zero) (fun r σ' hr e => rp_find_0 ho hw hr e)
  · subst h
    exact rOut_of (rOut_onl hp hs ha (hA (by decide)).1 (hA (by decide)).2.1 (hx (by decide))) (fun r σ' hr e => rp_find_1 ho ha (ea (by decide)) hw hr e)
  · subst h
    obtain ⟨a1, a2, a3⟩ := pa (by decide)
    obtain ⟨b1, b2, b3⟩ := pb (by decide)
    exact rOut_of (rOut_int hp hs a1 a2 a3 b1 b2 b3) (fun r σ' hr e => rp_find_2 ho ha hb (ea (by decide)) (eb (by decide)) hw hr e)
  · subst h
    obtain ⟨v1, v2, v3⟩ := (hA (by decide)).1
    obtain ⟨u1, u2, u3⟩ := (hB (by decide)).1
    exact rOut_of (rOut_com (first := True) hp hs ((hA (by decide)).2.2 (by omega)) (hB (by decide)).2.1 v1 v2 v3 u1 u2 u3 (Or.inl ⟨rfl, trivial⟩)) (fun r σ' hr e => rp_find_3 ho ha hb (ea (by decide)) (eb (by decide)) hw hr e)
  · subst h
    obtain ⟨v1, v2, v3⟩ := (hA (by decide)).1
    obtain ⟨u1, u2, u3⟩ := (hB (by decide)).1
    exact rOut_of (rOut_com (first := False) hp hs ((hA (by decide)).2.2 (by omega)) (hB (by decide)).2.1 v1 v2 v3 u1 u2 u3 (Or.inr ⟨rfl, id⟩)) (fun r σ' hr e => rp_find_4 ho ha hb (ea (by decide)) (eb (by decide)) hw hr e)
  · subst h
    exact rOut_of (rOut_coc (first := True) hp hs ha hb (hA (by decide)).1 (hA (by decide)).2.1 (hB (by decide)).1 (hB (by decide)).2.1 (Or.inl ⟨rfl, trivial⟩)) (fun r σ' hr e => rp_find_5 ho ha hb (ea (by decide)) (eb (by decide)) hw hr e)
  · subst h
    exact rOut_of (rOut_coc (first := False) hp hs ha hb (hA (by decide)).1 (hA (by decide)).2.1 (hB (by decide)).1 (hB (by decide)).2.1 (Or.inr ⟨rfl, id⟩)) (fun r σ' hr e => rp_find_6 ho ha hb (ea (by decide)) (eb (by decide)) hw hr e)
  · subst h
    obtain ⟨a1, a2, a3⟩ := pa (by decide)
    obtain ⟨b1, b2, b3⟩ := pb (by decide)
    have h7 := (zpr_lt hp).1
    have ho2 : m_X9_opposite [zO 0 0, zI 2] (σ, τ) = some (.inl (some (zI (nI (zopp p 2)))), (σ, τ)) := rp_opp (n := 2) hp hs (by decide) (by omega)
    have v2 := yV_B (p := p) (e := 2) hp
    have r2 : yR p 2 = 2 := yR_nat (n := 2) (by omega)
    rw [r2] at v2
    exact rOut_of (lay (yB_mul (yB_add a1 b1 (by decide)) v2 (by decide)) (yB_mul (yB_add a2 b2 (by decide)) v2 (by decide)) yB_0 rfl rfl yR_zero) (fun r σ' hr e => rp_find_7 ho ha hb (ea (by decide)) (eb (by decide)) ho2 hw hr e)
  · subst h
    exact rOut_of (rOut_mir hp hs ha hb (hA (by decide)).1 (hA (by decide)).2.1 (hB (by decide)).1 ((hB (by decide)).2.2 (by omega))) (fun r σ' hr e => rp_find_8 ho ha hb (ea (by decide)) (eb (by decide)) hw hr e)
  · subst h
    obtain ⟨a1, a2, a3⟩ := pa (by decide)
    obtain ⟨b1, b2, b3⟩ := pb (by decide)
    exact rOut_of (rOut_line hp hs (yB_sub a2 b2 (by decide)) (yB_sub b1 a1 (by decide)) (yB_sub (yB_mul a1 b2 (by decide)) (yB_mul b1 a2 (by decide)) (by decide))) (fun r σ' hr e => rp_find_10 ho ha hb (ea (by decide)) (eb (by decide)) hw hr e)
  · subst h
    obtain ⟨a1, a2, a3⟩ := pa (by decide)
    obtain ⟨b1, b2, b3⟩ := pb (by decide)
    have oB := (hB (by decide)).2.1
    exact rOut_of (lay b1 b2 (yB_neg (yB_add (yB_mul b1 a1 (by decide)) (yB_mul b2 a2 (by decide)) (by decide)) (by decide)) (yR_nat oB.1) (yR_nat oB.2.1) rfl) (fun r σ' hr e => rp_find_11 ho ha hb (ea (by decide)) (eb (by decide)) hw hr e)
  · subst h
    obtain ⟨a1, a2, a3⟩ := pa (by decide)
    obtain ⟨b1, b2, b3⟩ := pb (by decide)
    exact rOut_of (rOut_line hp hs (yB_neg b2 (by decide)) b1 (yB_sub (yB_mul b2 a1 (by decide)) (yB_mul b1 a2 (by decide)) (by decide))) (fun r σ' hr e => rp_find_12 ho ha hb (ea (by decide)) (eb (by decide)) hw hr e)
  · subst h
    obtain ⟨bA, bB, bC, _⟩ := r_bA (p := p) (pa (by decide)) (pb (by decide))
    have l := rOut_ln (τ := τ) hp hs bA bB bC
    rw [← rp_bisector hp hs ha hb] at l
    exact rOut_of l (fun r σ' hr e => rp_find_13 ho ha hb (ea (by decide)) (eb (by decide)) hw hr e)
  · subst h
    exact rOut_of (rOut_cir hp hs ha ha hb (hA (by decide)).1 (hA (by decide)).2.1 (hA (by decide)).1 (hA (by decide)).2.1 (hB (by decide)).1 (hB (by decide)).2.1) (fun r σ' hr e => rp_find_20 ho ha hb (ea (by decide)) (eb (by decide)) hw hr e)
  · subst h
    exact rOut_of (rOut_cir hp hs ha hb hc (hA (by decide)).1 (hA (by decide)).2.1 (hB (by decide)).1 (hB (by decide)).2.1 (hC (by decide)).1 (hC (by decide)).2) (fun r σ' hr e => rp_find_21 ho ha hb hc (ea (by decide)) (eb (by decide)) (ec (by decide)) hw hr e)
  · subst h
    exact rOut_of (rOut_ct hp hs ha hb hc (hA (by decide)).1 (hA (by decide)).2.1 (hB (by decide)).1 (hB (by decide)).2.1 (hC (by decide)).1 (hC (by decide)).2) (fun r σ' hr e => rp_find_22 ho ha hb hc (ea (by decide)) (eb (by decide)) (ec (by decide)) hw hr e)
