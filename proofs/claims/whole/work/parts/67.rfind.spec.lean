/-! ===== the reference finds what the numbers say ===== -/
def zValR (σ : zMem) (o : Nat) (A : yT) : Prop := zg σ o 8 = nI A.1 ∧ zg σ o 9 = nI A.2.1 ∧ zg σ o 10 = nI A.2.2
def zLaid (σ : zMem) (A : yT) : Prop := σ 3 0 0 = nI A.1 ∧ σ 3 0 1 = nI A.2.1 ∧ σ 3 0 2 = nI A.2.2
def rOut (σ : zMem) (τ : zTmp) (F : Option yT) (o : Option zOut) : Prop := match F with
  | none => ∃ σ', o = some (.inl (some (zI 0)), (σ', τ)) ∧ zL3 σ σ'
  | some A => ∃ σ', o = some (.inl (some (zI 1)), (σ', τ)) ∧ zL3 σ σ' ∧ zLaid σ' A
theorem rOut_of {σ : zMem} {τ : zTmp} {F : Option yT} {o o' : Option zOut} (h : rOut σ τ F o) (f : ∀ r σ', (r = 0 ∨ r = 1) → o = some (.inl (some (zI r)), (σ', τ)) → o' = some (.inl (some (zI r)), (σ', τ))) : rOut σ τ F o' := by
  cases F with
  | none =>
    obtain ⟨σ', e, hs⟩ := h
    exact ⟨σ', f 0 σ' (Or.inl rfl) e, hs⟩
  | some A =>
    obtain ⟨σ', e, hs, hv⟩ := h
    exact ⟨σ', f 1 σ' (Or.inr rfl) e, hs, hv⟩
theorem rOut_L3 {σ σ0 : zMem} {τ : zTmp} {F : Option yT} {o : Option zOut} (hL : zL3 σ0 σ) (h : rOut σ τ F o) : rOut σ0 τ F o := by
  cases F with
  | none =>
    obtain ⟨σ', e, hs⟩ := h
    exact ⟨σ', e, zL3_trans hL hs⟩
  | some A =>
    obtain ⟨σ', e, hs, hv⟩ := h
    exact ⟨σ', e, zL3_trans hL hs, hv⟩
theorem zRB {p o : Nat} {σ : zMem} {A : yT} (hp : zpr p) (h : zValR σ o A) (ok : yOk p A) : yB (zg σ o 8) A.1 42 ∧ yB (zg σ o 9) A.2.1 42 ∧ yB (zg σ o 10) A.2.2 42 := by
  have := zpr_lt hp
  obtain ⟨h1, h2, h3⟩ := h
  obtain ⟨o1, o2, o3⟩ := ok
  rw [h1, h2, h3]
  exact ⟨yB_n (by omega), yB_n (by omega), yB_n (by omega)⟩
theorem rM {p : Nat} {σ : zMem} {v : Int32} {e : Int} {B : Nat} (hp : zpr p) (hs : σ 0 0 1 = nI p) (h : yB v e B) : zM σ v = nI (yR p e) := by rw [zM_nat hp hs, yB_mn h]
theorem zLaid_la {p : Nat} {σ : zMem} {a b c : Int32} {e f g : Int} {B C D : Nat} (hp : zpr p) (hs : σ 0 0 1 = nI p) (ha : yB a e B) (hb : yB b f C) (hc : yB c g D) : zLaid (zla σ a b c) (yR p e, yR p f, yR p g) := ⟨by rw [zla_30, rM hp hs ha], by rw [zla_31, rM hp hs hb], by rw [zla_32, rM hp hs hc]⟩
theorem rOut_la {p : Nat} {σ : zMem} {τ : zTmp} {a b c : Int32} {e f g : Int} {B C D : Nat} {A : yT} (hp : zpr p) (hs : σ 0 0 1 = nI p) (ha : yB a e B) (hb : yB b f C) (hc : yB c g D) (h1 : yR p e = A.1) (h2 : yR p f = A.2.1) (h3 : yR p g = A.2.2) : rOut σ τ (some A) (some (.inl (some (zI 1)), (zla σ a b c, τ))) := by
  obtain ⟨l1, l2, l3⟩ := zLaid_la hp hs ha hb hc
  exact ⟨_, rfl, zL3_la, l1.trans (congrArg nI h1), l2.trans (congrArg nI h2), l3.trans (congrArg nI h3)⟩
theorem yR_zero {p : Nat} : yR p 0 = 0 := by unfold yR; rw [Int.zero_emod]; rfl
theorem r_fs {p : Nat} {a b : Int32} {e f : Int} {B C : Nat} (ha : yB a e B) (hb : yB b f C) : zfs p a b = yR p (yfs p e f) := by
  unfold zfs yfs
  rw [yB_mn ha, yB_mn hb]
  by_cases h : yR p e = 0
  · rw [if_pos h, if_pos h]
  · rw [if_neg h, if_neg h]
theorem rOut_ln {p : Nat} {σ : zMem} {τ : zTmp} {a b c : Int32} {e f g : Int} {B C D : Nat} (hp : zpr p) (hs : σ 0 0 1 = nI p) (ha : yB a e B) (hb : yB b f C) (hc : yB c g D) : rOut σ τ (yLn p e f g) (zll σ τ p a b c) := by
  have h0 := zpr_pos hp
  unfold zll zlnl yLn
  rw [r_fs ha hb, yB_mn ha, yB_mn hb, yB_mn hc]
  by_cases h : yR p (yfs p e f) = 0
  · rw [if_pos h, if_pos h]
    exact ⟨_, rfl, zL3_refl⟩
  · rw [if_neg h, if_neg h]
    exact rOut_la hp hs (yB_mul (yR_B hp) (yV_B hp) (by decide)) (yB_mul (yR_B hp) (yV_B hp) (by decide)) (yB_mul (yR_B hp) (yV_B hp) (by decide)) (yR_E (yE_mul (yE_R h0) yE_refl)) (yR_E (yE_mul (yE_R h0) yE_refl)) (yR_E (yE_mul (yE_R h0) yE_refl))
theorem rOut_line {p : Nat} {σ : zMem} {τ : zTmp} {a b c : Int32} {e f g : Int} {B C D : Nat} (hp : zpr p) (hs : σ 0 0 1 = nI p) (ha : yB a e B) (hb : yB b f C) (hc : yB c g D) : rOut σ τ (yLn p e f g) (m_X9_layLine [zO 0 0, zI a, zI b, zI c] (σ, τ)) := by
  rw [rp_layLine hp hs]
  exact rOut_ln hp hs ha hb hc
theorem rOut_int {p : Nat} {σ : zMem} {τ : zTmp} {a b c d e f : Int32} {A B : yT} (hp : zpr p) (hs : σ 0 0 1 = nI p) (ha : yB a A.1 42) (hb : yB b A.2.1 42) (hc : yB c A.2.2 42) (hd : yB d B.1 42) (he : yB e B.2.1 42) (hf : yB f B.2.2 42) : rOut σ τ (yF2 p A B) (m_X9_intersect [zO 0 0, zI a, zI b, zI c, zI d, zI e, zI f] (σ, τ)) := by
  have h0 := zpr_pos hp
  rw [rp_intersect hp hs]
  have hdt : zdt p a b d e = yR p (yD A B) := yB_mn (yB_sub (yB_mul ha he (by decide)) (yB_mul hd hb (by decide)) (by decide))
  have m1 := yB_mn (p := p) (yB_sub (yB_mul hb hf (by decide)) (yB_mul he hc (by decide)) (by decide))
  have m2 := yB_mn (p := p) (yB_sub (yB_mul hc hd (by decide)) (yB_mul hf ha (by decide)) (by decide))
  unfold zint yF2
  rw [hdt, m1, m2]
  by_cases h : yR p (yD A B) = 0
  · rw [if_pos h, if_pos h]
    exact ⟨_, rfl, zL3_refl⟩
  · rw [if_neg h, if_neg h]
    refine rOut_la hp hs (yB_mul (yR_B hp) (yV_B hp) (by decide)) (yB_mul (yR_B hp) (yV_B hp) (by decide)) yB_0 (yR_E (yE_mul (yE_R h0) yE_refl)) (yR_E (yE_mul (yE_trans (yE_R h0) (yE_eq ?_)) yE_refl)) yR_zero
    rw [Int.mul_comm (A.2.2 : Int), Int.mul_comm (B.2.2 : Int)]
theorem rOut_onl {p l : Nat} {σ : zMem} {τ : zTmp} {t : Int32} {x : Int} {A : yT} (hp : zpr p) (hs : σ 0 0 1 = nI p) (hl : l < 40) (hA : zValR σ l A) (oA : yOk p A) (ht : yB t x 42) : rOut σ τ (some (yF1 p x A)) (m_X9_onLine [zO 0 0, zI (nI l), zI t] (σ, τ)) := by
  have h0 := zpr_pos hp
  have h43 := (zpr_lt hp).2
  obtain ⟨a1, a2, a3⟩ := zRB hp hA oA
  rw [rp_onLine hp hs hl hA.2.1 oA.2.1]
  unfold zonl yF1
  by_cases hb : A.2.1 = 0
  · have hb' : zg σ l 9 = 0 := by rw [hA.2.1, hb]; rfl
    rw [if_pos hb, if_pos hb']
    exact rOut_la hp hs (yB_neg a3 (by decide)) ht yB_0 rfl rfl yR_zero
  · have hb' : ¬ zg σ l 9 = 0 := by rw [hA.2.1]; exact fun q => hb ((nI_z0 (by have := oA.2.1; omega)).mp q)
    rw [if_neg hb, if_neg hb', hA.2.1, nI_clamp (by have := oA.2.1; omega), yB_mn (yB_neg (yB_add (yB_mul a1 ht (by decide)) a3 (by decide)) (by decide))]
    have v := yV_B (p := p) (e := A.2.1) hp
    rw [yR_nat oA.2.1] at v
    exact rOut_la hp hs ht (yB_mul (yR_B hp) v (by decide)) yB_0 rfl (yR_E (yE_mul (yE_R h0) yE_refl)) yR_zero
theorem zmd_B {p : Nat} {v : Int32} {e : Int} {B : Nat} (hp : zpr p) (h : yB v e B) (h0 : 0 ≤ e) : zmd v (nI p) = nI (yR p e) := by
  have hl := zpr_lt hp
  have hr := zrange v
  rw [h.1] at hr
  have ev : v = nI e.toNat := by
    rw [zeq, h.1, nI_toInt (by omega)]
    omega
  unfold zmd
  rw [ev, pk_rem (by omega) (by omega) (by omega)]
  unfold yR
  have : ((e.toNat : Nat) : Int) = e := by omega
  have h2 : ((e.toNat % p : Nat) : Int) = e % (p : Int) := by rw [Int.natCast_emod, this]
  exact congrArg nI (by omega)
theorem rOut_mir {p o l : Nat} {σ : zMem} {τ : zTmp} {A L : yT} (hp : zpr p) (hs : σ 0 0 1 = nI p) (ho : o < 40) (hl : l < 40) (hA : zValR σ o A) (oA : yOk p A) (hL : zValR σ l L) (nL : yLine p L) : rOut σ τ (some (yF8 p A L)) (m_X9_mirror [zO 0 0, zI (nI o), zI (nI l)] (σ, τ)) := by
  have h0 := zpr_pos hp
  obtain ⟨a1, a2, a3⟩ := zRB hp hA oA
  obtain ⟨l1, l2, l3⟩ := zRB hp hL nL.1
  have mn : zmn p (zg σ l 8 * zg σ l 8 + zg σ l 9 * zg σ l 9) = yR p (yn L) := yB_mn (yB_add (yB_mul l1 l1 (by decide)) (yB_mul l2 l2 (by decide)) (by decide))
  have me : zmn p (zg σ l 8 * zg σ o 8 + zg σ l 9 * zg σ o 9 + zg σ l 10) = yR p (ye L A) := yB_mn (yB_add (yB_add (yB_mul l1 a1 (by decide)) (yB_mul l2 a2 (by decide)) (by decide)) l3 (by decide))
  have hn : 0 < yR p (yn L) := Nat.pos_of_ne_zero fun g => y_n hp nL ((yR_0 h0).mp g)
  rw [rp_mirror hp hs ho hl (by rw [mn]; exact hn)]
  have hk : zmiB σ p o l = nI (yR p (yk p A L)) := by
    unfold zmiB
    rw [mn, me]
    have pos : (0 : Int) ≤ 2 * (yR p (ye L A) : Nat) * yV p (yn L) := Int.mul_nonneg (by omega) (by unfold yV; omega)
    rw [zmd_B hp (yB_mul (yB_mul yB_2 (yR_B hp) (by decide)) (yV_B hp) (by decide)) pos]
    exact congrArg nI (yR_E (yE_mul (yE_mul yE_refl (yE_R h0)) yE_refl))
  rw [hk]
  exact rOut_la hp hs (yB_sub a1 (yB_mul (yR_B hp) l1 (by decide)) (by decide)) (yB_sub a2 (yB_mul (yR_B hp) l2 (by decide)) (by decide)) yB_0 (yR_E (yE_sub yE_refl (yE_mul (yE_R h0) yE_refl))) (yR_E (yE_sub yE_refl (yE_mul (yE_R h0) yE_refl))) yR_zero
theorem rOut_cir {p o a b : Nat} {σ : zMem} {τ : zTmp} {O A B : yT} (hp : zpr p) (hs : σ 0 0 1 = nI p) (ho : o < 40) (ha : a < 40) (hb : b < 40) (hO : zValR σ o O) (oO : yOk p O) (hA : zValR σ a A) (oA : yOk p A) (hB : zValR σ b B) (oB : yOk p B) : rOut σ τ (yF21 p O A B) (m_X9_layCircle [zO 0 0, zI (nI o), zI (nI a), zI (nI b)] (σ, τ)) := by
  have h0 := zpr_pos hp
  obtain ⟨o1, o2, o3⟩ := zRB hp hO oO
  obtain ⟨a1, a2, a3⟩ := zRB hp hA oA
  obtain ⟨b1, b2, b3⟩ := zRB hp hB oB
  have sq : zsq2 σ a b = nI (yR p (ysq A B)) := rM hp hs (yB_add (yB_mul (yB_sub a1 b1 (by decide)) (yB_sub a1 b1 (by decide)) (by decide)) (yB_mul (yB_sub a2 b2 (by decide)) (yB_sub a2 b2 (by decide)) (by decide)) (by decide))
  rw [rp_layCircle (zp_ne hp hs) ho ha hb, sq]
  unfold yF21
  by_cases h : yR p (ysq A B) = 0
  · rw [if_pos h, if_pos ((nI_R0 hp).mpr h)]
    exact ⟨_, rfl, zL3_refl⟩
  · rw [if_neg h, if_neg (fun q => h ((nI_R0 hp).mp q))]
    exact rOut_la hp hs o1 o2 (yR_B hp) (yR_nat oO.1) (yR_nat oO.2.1) (yR_nat (yR_lt h0))
/-! common: the places by turns -/
theorem zcm1_no {p lim : Nat} {a b c u v s w : Int32} : ∀ d t many (σ : zMem), (∀ q, t ≤ q → q < t + d → ¬ zhv p a b c u v w q = s) → zcm1 p a b c u v s w lim d t many σ = (many, σ) := by
  intro d
  induction d with
  | zero => intro t many σ _; rfl
  | succ d ih =>
    intro t many σ h
    rw [zcm1]
    by_cases g : lim ≤ many
    · rw [if_pos g]
    · rw [if_neg g, if_neg (h t (by omega) (by omega))]
      exact ih (t + 1) many σ (fun q h1 h2 => h q (by omega) (by omega))
theorem zcm1_full {p lim d t many : Nat} {a b c u v s w : Int32} {σ : zMem} (h : lim ≤ many) : zcm1 p a b c u v s w lim d t many σ = (many, σ) := by
  cases d with
  | zero => rfl
  | succ d => rw [zcm1, if_pos h]
theorem zcm1_hit {p lim t1 : Nat} {a b c u v s w : Int32} (ht : zhv p a b c u v w t1 = s) : ∀ d t many (σ : zMem), many < lim → t ≤ t1 → t1 < t + d → (∀ q, t ≤ q → q < t1 → ¬ zhv p a b c u v w q = s) → zcm1 p a b c u v s w lim d t many σ = zcm1 p a b c u v s w lim (t + d - t1 - 1) (t1 + 1) (many + 1) (zla σ (zcX p b c t1) (zcY p a b c w t1) 0) := by
  intro d
  induction d with
  | zero => intro t many σ _ h1 h2; omega
  | succ d ih =>
    intro t many σ hm h1 h2 h3
    rw [zcm1, if_neg (by omega)]
    rcases Nat.eq_or_lt_of_le h1 with h | h
    · subst h
      rw [if_pos ht]
      have : t + (d + 1) - t - 1 = d := by omega
      rw [this]
    · rw [if_neg (h3 t (Nat.le_refl t) h)]
      rw [ih (t + 1) many σ hm (by omega) (by omega) (fun q g1 g2 => h3 q (by omega) g2)]
      have : t + 1 + d - t1 - 1 = t + (d + 1) - t1 - 1 := by omega
      rw [this]
/-- two places, the first ahead of the second -/
theorem zcm1_two {p lim ta tb : Nat} {a b c u v s w : Int32} {σ : zMem} (hl : lim = 1 ∨ lim = 2) (h1 : ta ≤ tb) (h2 : tb < p) (ha : zhv p a b c u v w ta = s) (hb : zhv p a b c u v w tb = s) (hall : ∀ q, q < p → zhv p a b c u v w q = s → q = ta ∨ q = tb) :
    ∃ many σ1, many ≠ 0 ∧ zL3 σ σ1 ∧ zcm1 p a b c u v s w lim p 0 0 σ = (many, zla σ1 (zcX p b c (if lim = 1 then ta else tb)) (zcY p a b c w (if lim = 1 then ta else tb)) 0) := by
  have e1 := zcm1_hit (lim := lim) ha p 0 0 σ (by omega) (by omega) (by omega) (fun q _ g h => by have := hall q (by omega) h; omega)
  rcases hl with h | h
  · subst h
    refine ⟨1, σ, by decide, zL3_refl, ?_⟩
    rw [if_pos rfl]
    exact e1.trans (zcm1_full (by decide))
  · subst h
    rcases Nat.eq_or_lt_of_le h1 with g | g
    · subst g
      refine ⟨1, σ, by decide, zL3_refl, ?_⟩
      rw [if_neg (by decide)]
      exact e1.trans (zcm1_no _ _ _ _ (fun q g1 g2 h => by have := hall q (by omega) h; omega))
    · have e2 := zcm1_hit (lim := 2) hb (0 + p - ta - 1) (ta + 1) 1 (zla σ (zcX p b c ta) (zcY p a b c w ta) 0) (by omega) (by omega) (by omega) (fun q g1 g2 h => by have := hall q (by omega) h; omega)
      refine ⟨2, _, by decide, zL3_la (a := zcX p b c ta) (b := zcY p a b c w ta) (c := 0), ?_⟩
      rw [if_neg (by decide)]
      exact e1.trans (e2.trans (zcm1_full (by decide)))
theorem rOut_com {p : Nat} {σ : zMem} {τ : zTmp} {a b c u v s S : Int32} {L K : yT} {first : Prop} (hp : zpr p) (hs : σ 0 0 1 = nI p) (nL : yLine p L) (oK : yOk p K) (ha : a = nI L.1) (hb : b = nI L.2.1) (hc : c = nI L.2.2) (hu : u = nI K.1) (hv : v = nI K.2.1) (hss : s = nI K.2.2) (hS : S = 0 ∧ first ∨ S = 1 ∧ ¬ first) :
    rOut σ τ (yLC p first L K) (m_X9_common [zO 0 0, zI a, zI b, zI c, zI u, zI v, zI s, zI S] (σ, τ)) := by
  have h0 := zpr_pos hp
  have h43 := (zpr_lt hp).2
  obtain ⟨⟨l1, l2, l3⟩, nL'⟩ := nL
  have nL : yLine p L := ⟨⟨l1, l2, l3⟩, nL'⟩
  obtain ⟨k1, k2, k3⟩ := oK
  have hS' : S = 0 ∨ S = 1 := hS.elim (fun g => Or.inl g.1) (fun g => Or.inr g.1)
  rw [rp_common hp hs hb l2 hS']
  have b0 : b = 0 ↔ L.2.1 = 0 := by rw [hb]; exact nI_z0 (by omega)
  have ba : yB a L.1 42 := by rw [ha]; exact yB_n (by omega)
  have bb : yB b L.2.1 42 := by rw [hb]; exact yB_n (by omega)
  have bc : yB c L.2.2 42 := by rw [hc]; exact yB_n (by omega)
  have bu : yB u K.1 42 := by rw [hu]; exact yB_n (by omega)
  have bv : yB v K.2.1 42 := by rw [hv]; exact yB_n (by omega)
  generalize hw : (if b = 0 then 0 else nI (zopp p L.2.1) : Int32) = w
  have pX : ∀ t, t < p → zcX p b c t = nI (yF1 p t L).1 := by
    intro t ht
    unfold zcX yF1
    by_cases g : L.2.1 = 0
    · rw [if_pos (b0.mpr g), if_pos g, yB_rest hp (yB_neg bc (by decide))]
    · rw [if_neg (fun q => g (b0.mp q)), if_neg g]
      show nI t = nI (yR p t)
      rw [yR_nat ht]
  have pY : ∀ t, t < p → zcY p a b c w t = nI (yF1 p t L).2.1 := by
    intro t ht
    unfold zcY yF1
    by_cases g : L.2.1 = 0
    · rw [if_pos (b0.mpr g), if_pos g]
      show nI t = nI (yR p t)
      rw [yR_nat ht]
    · rw [if_neg (fun q => g (b0.mp q))] at hw
      rw [if_neg (fun q => g (b0.mp q)), if_neg g, ← hw, yB_rest hp (yB_neg (yB_add (yB_mul ba (yB_n (n := t) (by omega)) (by decide)) bc (by decide)) (by decide))]
      have vb := yV_B (p := p) (e := L.2.1) hp
      rw [yR_nat l2] at vb
      have pos : (0 : Int) ≤ (yR p (-((L.1 : Int) * t + L.2.2)) : Nat) * yV p L.2.1 := Int.mul_nonneg (by omega) (by unfold yV; omega)
      rw [zmd_B hp (yB_mul (yR_B hp) vb (by decide)) pos]
      exact congrArg nI (yR_E (yE_mul (yE_R h0) yE_refl))
  have lt1 : ∀ t : Nat, (yF1 p t L).1 < p ∧ (yF1 p t L).2.1 < p := fun t => ⟨(yF1_lt hp).1, (yF1_lt hp).2.1⟩
  have hit : ∀ t, t < p → (zhv p a b c u v w t = s ↔ yoc p K (yF1 p t L).1 (yF1 p t L).2.1) := by
    intro t ht
    unfold zhv
    rw [pX t ht, pY t ht]
    have bx := yB_n (n := (yF1 p t L).1) (by have := (lt1 t).1; omega)
    have bY := yB_n (n := (yF1 p t L).2.1) (by have := (lt1 t).2; omega)
    rw [yB_rest hp (yB_add (yB_mul (yB_sub bx bu (by decide)) (yB_sub bx bu (by decide)) (by decide)) (yB_mul (yB_sub bY bv (by decide)) (yB_sub bY bv (by decide)) (by decide)) (by decide)), hss]
    have := yR_lt (e := ((yF1 p t L).1 - K.1 : Int) * ((yF1 p t L).1 - K.1) + ((yF1 p t L).2.1 - K.2.1) * ((yF1 p t L).2.1 - K.2.1)) h0
    rw [nI_eq (by omega) (by omega)]
    unfold yoc
    rw [← yE_iff h0, yR_nat k3]
  have tOf : ∀ t, t < p → (if L.2.1 = 0 then (yF1 p t L).2.1 else (yF1 p t L).1) = t := by
    intro t ht
    unfold yF1
    by_cases g : L.2.1 = 0
    · rw [if_pos g, if_pos g]; exact yR_nat ht
    · rw [if_neg g, if_neg g]; exact yR_nat ht
  have hlim : zlim S = 1 ∧ first ∨ zlim S = 2 ∧ ¬ first := by
    unfold zlim
    rcases hS with ⟨g, g'⟩ | ⟨g, g'⟩
    · exact Or.inl ⟨if_pos g, g'⟩
    · exact Or.inr ⟨by rw [g]; exact if_neg (by decide), g'⟩
  unfold yLC
  cases hq : yrt p (yR p (yds L K)) with
  | none =>
    have e := zcm1_no (p := p) (lim := zlim S) (a := a) (b := b) (c := c) (u := u) (v := v) (s := s) (w := w) p 0 0 σ (fun q _ g h => by
      obtain ⟨r, hr, _⟩ := y_two hp nL (lt1 q).1 (lt1 q).2 (yF1_on hp nL) ((hit q (by omega)).mp h)
      rw [hq] at hr
      exact absurd hr (by simp))
    rw [e]
    exact ⟨_, rfl, zL3_refl⟩
  | some r =>
    obtain ⟨hr1, hr2⟩ := yrt_some hp hq
    have hr3 := yE_trans hr2 (yE_R h0)
    have on1 := y_P_on (K := K) (r := r) hp nL
    have on2 := y_P_on (K := K) (r := -r) hp nL
    have oc1 := y_P_oc (K := K) (r := r) hp nL hr3
    have oc2 := y_P_oc (K := K) (r := -r) hp nL (by rw [Int.neg_mul_neg]; exact hr3)
    obtain ⟨x1l, y1l⟩ := yP_lt (L := L) (K := K) (r := r) hp
    obtain ⟨x2l, y2l⟩ := yP_lt (L := L) (K := K) (r := -r) hp
    have hqall : ∀ x y : Nat, x < p → y < p → yon p L x y → yoc p K x y → (x = yPx p L K r ∧ y = yPy p L K r ∨ x = yPx p L K (-r) ∧ y = yPy p L K (-r)) := by
      intro x y hx hy g1 g2
      obtain ⟨r', hr', h⟩ := y_two hp nL hx hy g1 g2
      rw [hq] at hr'
      have : r = r' := Option.some.inj hr'
      subst this
      exact h
    simp only []
    generalize yPx p L K r = x1 at *
    generalize yPy p L K r = y1 at *
    generalize yPx p L K (-r) = x2 at *
    generalize yPy p L K (-r) = y2 at *
    have e1 := yF1_all hp nL x1l y1l on1
    have e2 := yF1_all hp nL x2l y2l on2
    have T : ∃ T : Nat → Nat → Nat, (∀ x y, T x y = if L.2.1 = 0 then y else x) := ⟨_, fun _ _ => rfl⟩
    obtain ⟨T, hT⟩ := T
    have cT : ∀ x y : Nat, (if L.2.1 = 0 then (y : Int) else (x : Int)) = (T x y : Nat) := by
      intro x y
      rw [hT]
      by_cases g : L.2.1 = 0
      · rw [if_pos g, if_pos g]
      · rw [if_neg g, if_neg g]
    rw [cT] at e1 e2
    have t1l : T x1 y1 < p := by rw [hT]; split <;> assumption
    have t2l : T x2 y2 < p := by rw [hT]; split <;> assumption
    have hit1 : zhv p a b c u v w (T x1 y1) = s := by rw [hit _ t1l, e1]; exact oc1
    have hit2 : zhv p a b c u v w (T x2 y2) = s := by rw [hit _ t2l, e2]; exact oc2
    have hall : ∀ q, q < p → zhv p a b c u v w q = s → q = T x1 y1 ∨ q = T x2 y2 := by
      intro q hq' h
      have g := tOf q hq'
      rcases hqall _ _ (lt1 q).1 (lt1 q).2 (yF1_on hp nL) ((hit q hq').mp h) with ⟨g1, g2⟩ | ⟨g1, g2⟩
      · rw [g1, g2] at g
        exact Or.inl (by rw [hT]; exact g.symm)
      · rw [g1, g2] at g
        exact Or.inr (by rw [hT]; exact g.symm)
    have ord : yle x1 y1 x2 y2 ↔ T x1 y1 ≤ T x2 y2 := by
      unfold yle
      rw [hT, hT]
      by_cases g : L.2.1 = 0
      · rw [if_pos g, if_pos g]
        have ex : x1 = x2 := by
          have h1 : (yF1 p (T x1 y1) L).1 = yR p (-(L.2.2 : Int)) := by unfold yF1; rw [if_pos g]
          have h2 : (yF1 p (T x2 y2) L).1 = yR p (-(L.2.2 : Int)) := by unfold yF1; rw [if_pos g]
          rw [e1] at h1
          rw [e2] at h2
          exact h1.trans h2.symm
        omega
      · rw [if_neg g, if_neg g]
        constructor
        · intro h; omega
        · intro h
          rcases Nat.eq_or_lt_of_le h with h | h
          · refine Or.inr ⟨h, ?_⟩
            have et : T x1 y1 = T x2 y2 := by rw [hT, hT, if_neg g, if_neg g]; exact h
            rw [et, e2] at e1
            have : y2 = y1 := congrArg (fun z : yT => z.2.1) e1
            omega
          · exact Or.inl h
    have fin : ∀ ta tb, ta ≤ tb → tb < p → zhv p a b c u v w ta = s → zhv p a b c u v w tb = s → (∀ q, q < p → zhv p a b c u v w q = s → q = ta ∨ q = tb) → ∀ A : yT, (yF1 p (if zlim S = 1 then ta else tb : Nat) L) = A → rOut σ τ (some A) (some (.inl (some (zI (if (zcm1 p a b c u v s w (zlim S) p 0 0 σ).1 = 0 then 0 else 1))), ((zcm1 p a b c u v s w (zlim S) p 0 0 σ).2, τ))) := by
      intro ta tb h1 h2 h3 h4 h5 A hA
      obtain ⟨many, σ1, hm, hL, e⟩ := zcm1_two (σ := σ) (lim := zlim S) (hlim.elim (fun g => Or.inl g.1) (fun g => Or.inr g.1)) h1 h2 h3 h4 h5
      rw [e]
      have tl : (if zlim S = 1 then ta else tb) < p := by split <;> omega
      simp only []
      rw [if_neg hm, pX _ tl, pY _ tl, hA]
      have hs1 : σ1 0 0 1 = nI p := by rw [zL3_0 hL]; exact hs
      have l := lt1 (if zlim S = 1 then ta else tb)
      have l3 : (yF1 p (if zlim S = 1 then ta else tb : Nat) L).2.2 = 0 := (yF1_lt hp).2.2
      rw [hA] at l l3
      exact rOut_L3 hL (rOut_la hp hs1 (yB_n (by omega)) (yB_n (by omega)) yB_0 (yR_nat l.1) (yR_nat l.2) (by rw [yR_zero, l3]))
    unfold ypick
    by_cases g : T x1 y1 ≤ T x2 y2
    · refine fin (T x1 y1) (T x2 y2) g t2l hit1 hit2 hall _ ?_
      rcases hlim with ⟨g1, g2⟩ | ⟨g1, g2⟩
      · rw [if_pos g1, e1, if_pos ⟨fun _ => g2, fun _ => ord.mpr g⟩]
      · rw [if_neg (by omega), e2, if_neg (fun q => g2 (q.mp (ord.mpr g)))]
    · refine fin (T x2 y2) (T x1 y1) (by omega) t1l hit2 hit1 (fun q h1 h2 => (hall q h1 h2).symm) _ ?_
      rcases hlim with ⟨g1, g2⟩ | ⟨g1, g2⟩
      · rw [if_pos g1, e2, if_neg (fun q => g (ord.mp (q.mpr g2)))]
      · rw [if_neg (by omega), e1, if_pos ⟨fun q => absurd (ord.mp q) g, fun q => absurd q g2⟩]
