/-! ===== the reference: lines ===== -/
def zpr (p : Nat) : Prop := p = 7 ∨ p = 11 ∨ p = 19 ∨ p = 23 ∨ p = 31 ∨ p = 43
theorem zpr_lt {p : Nat} (h : zpr p) : 7 ≤ p ∧ p ≤ 43 := by rcases h with h | h | h | h | h | h <;> subst h <;> decide
def zmd (x y : Int32) : Int32 := x - x / y * y
def zopp (p n : Nat) : Nat := ((List.range p).find? (fun k => k * n % p == 1)).getD 0
def zoppC (p : Nat) : Bool := (List.range p).all fun n => n == 0 || (Nat.ble 1 (zopp p n) && Nat.blt (zopp p n) p && zmd (nI (zopp p n) * nI n) (nI p) == 1 && zopp p n * n % p == 1 && (List.range (zopp p n)).all fun k => k == 0 || zmd (nI k * nI n) (nI p) != 1)
theorem zoppC_7 : zoppC 7 = true := by decide +kernel
theorem zoppC_11 : zoppC 11 = true := by decide +kernel
theorem zoppC_19 : zoppC 19 = true := by decide +kernel
theorem zoppC_23 : zoppC 23 = true := by decide +kernel
theorem zoppC_31 : zoppC 31 = true := by decide +kernel
theorem zoppC_43 : zoppC 43 = true := by decide +kernel
theorem zoppC_pr {p : Nat} (h : zpr p) : zoppC p = true := by
  rcases h with h | h | h | h | h | h <;> subst h
  · exact zoppC_7
  · exact zoppC_11
  · exact zoppC_19
  · exact zoppC_23
  · exact zoppC_31
  · exact zoppC_43
theorem zopp_ok {p n : Nat} (h : zpr p) (h0 : 0 < n) (hn : n < p) : 1 ≤ zopp p n ∧ zopp p n < p ∧ zmd (nI (zopp p n) * nI n) (nI p) = 1 ∧ zopp p n * n % p = 1 ∧ ∀ k, 1 ≤ k → k < zopp p n → ¬ zmd (nI k * nI n) (nI p) = 1 := by
  have e := zoppC_pr h
  unfold zoppC at e
  rw [List.all_eq_true] at e
  have e := e n (List.mem_range.mpr hn)
  have g0 : (n == 0) = false := by simp; omega
  rw [g0, Bool.false_or] at e
  simp only [Bool.and_eq_true, List.all_eq_true, List.mem_range, Nat.ble_eq, Nat.blt_eq, beq_iff_eq, bne_iff_ne, Bool.or_eq_true] at e
  obtain ⟨⟨⟨⟨e1, e2⟩, e3⟩, e4⟩, e5⟩ := e
  refine ⟨e1, e2, e3, e4, fun k hk1 hk2 => ?_⟩
  rcases e5 k hk2 with g | g
  · omega
  · exact g
theorem rp_opp {p n : Nat} {σ : zMem} {τ : zTmp} (hp : zpr p) (hs : σ 0 0 1 = nI p) (h0 : 0 < n) (hn : n < p) : m_X9_opposite [zO 0 0, zI (nI n)] (σ, τ) = some (.inl (some (zI (nI (zopp p n)))), (σ, τ)) := by
  obtain ⟨o1, o2, o3, _, o4⟩ := zopp_ok hp h0 hn
  have hlt := zpr_lt hp
  have hz : ¬ nI p = 0 := by
    intro h
    have h' : (nI p).toInt = (0 : Int32).toInt := by rw [h]
    rw [nI_toInt (by omega)] at h'
    have : (0 : Int32).toInt = 0 := rfl
    omega
  have loop : ∀ d k, k + d = zopp p n → 1 ≤ k → zev zk_X9_opposite (2, [some (Sum.inr (0, 0)), some (Sum.inl (Value.int (nI n))), some (Sum.inl (Value.int (nI k)))], [], (σ, τ), (0, 0)) = some (.inl (some (zI (nI (zopp p n)))), (σ, τ)) := by
    intro d
    induction d with
    | zero =>
      intro k hk h1
      have hk : k = zopp p n := by omega
      rw [hk]
      have e : nI (zopp p n) * nI n - nI (zopp p n) * nI n / nI p * nI p = 1 := o3
      simp (disch := (first | assumption | exact zcok0 rfl (Nat.le_of_ble_eq_true rfl) | exact zcok0 (zrec_fig (by assumption)) (Nat.le_of_ble_eq_true rfl) | exact zcok0 (zrec_cl (by assumption)) (Nat.le_of_ble_eq_true rfl) | exact ⟨Nat.le_of_ble_eq_true rfl, Nat.zero_le _, Nat.zero_le _⟩ | exact zc1_int | exact zc1_ref | exact zpok_fig (by assumption) rfl (fun h => Bool.noConfusion h) | exact zpok_fig (by assumption) rfl (fun _ => Or.inl rfl) | exact zpok_fig (by assumption) rfl (fun _ => Or.inr rfl) | exact zpok_fig (by assumption) rfl (fun _ => (by assumption)) | exact zps_3_0 | exact zps_5_2 | exact zps_6_2 | exact zps_7_2 | exact zps_8_1 | exact zpc_0 (by assumption) | exact zpc_1 (by assumption) | exact zpc_2 (by assumption) | exact zpc_3 (by assumption) | exact zpc_4 (by assumption) | exact zpm_0 | exact zpm_1 | exact zpm_2 | exact zpm_4 | exact zpm_7 | exact zif01 _ | exact zb01 | exact ⟨Nat.le_of_ble_eq_true rfl, Nat.le_of_ble_eq_true rfl⟩ | exact Or.inl rfl | exact Or.inr rfl | omega)) only [zr_X9_opposite_2, zr_X9_opposite_3, zr_X9_opposite_4, zr_X9_opposite_5, zr_X9_opposite_6, zr_X9_opposite_9, zr_X9_opposite_10, zr_X9_opposite_11, zr_X9_opposite_20, zr_X9_opposite_21, zb_True, zb_False, List.getElem?_cons_zero, List.getElem?_cons_succ, eq_self, and_true, true_and, zpush_some, zgo_some, zret_some, zret_void, zcok, zk1_int, zk1_ref, zk1_no, zc1_int, zc1_ref, zcat_int, zcat_long, zcat_ref, List.map_cons, List.map_nil, List.sum_cons, List.sum_nil, Nat.reduceAdd, Nat.reduceLeDiff, and_self, decide_eq_true_eq, Nat.add_zero, Nat.zero_add, Nat.zero_le, Nat.le_refl, zgm_0, zgm_1, zgm_2, zgm_3, zgm_4, zgm_5, zgm_6, zgm_7, zgm_8, zgm_9, zpm_0, zpm_1, zpm_2, zpm_4, zpm_7, zrm, hs, hz, if_false, e, decide_true, if_true]
    | succ d ih =>
      intro k hk h1
      have e : ¬ nI k * nI n - nI k * nI n / nI p * nI p = 1 := o4 k h1 (by omega)
      have ih := ih (k + 1) (by omega) (by omega)
      rw [← nI_1] at ih
      simp (disch := (first | assumption | exact zcok0 rfl (Nat.le_of_ble_eq_true rfl) | exact zcok0 (zrec_fig (by assumption)) (Nat.le_of_ble_eq_true rfl) | exact zcok0 (zrec_cl (by assumption)) (Nat.le_of_ble_eq_true rfl) | exact ⟨Nat.le_of_ble_eq_true rfl, Nat.zero_le _, Nat.zero_le _⟩ | exact zc1_int | exact zc1_ref | exact zpok_fig (by assumption) rfl (fun h => Bool.noConfusion h) | exact zpok_fig (by assumption) rfl (fun _ => Or.inl rfl) | exact zpok_fig (by assumption) rfl (fun _ => Or.inr rfl) | exact zpok_fig (by assumption) rfl (fun _ => (by assumption)) | exact zps_3_0 | exact zps_5_2 | exact zps_6_2 | exact zps_7_2 | exact zps_8_1 | exact zpc_0 (by assumption) | exact zpc_1 (by assumption) | exact zpc_2 (by assumption) | exact zpc_3 (by assumption) | exact zpc_4 (by assumption) | exact zpm_0 | exact zpm_1 | exact zpm_2 | exact zpm_4 | exact zpm_7 | exact zif01 _ | exact zb01 | exact ⟨Nat.le_of_ble_eq_true rfl, Nat.le_of_ble_eq_true rfl⟩ | exact Or.inl rfl | exact Or.inr rfl | omega)) only [zr_X9_opposite_2, zr_X9_opposite_3, zr_X9_opposite_4, zr_X9_opposite_5, zr_X9_opposite_6, zr_X9_opposite_9, zr_X9_opposite_10, zr_X9_opposite_11, zb_True, zb_False, List.getElem?_cons_zero, List.getElem?_cons_succ, eq_self, and_true, true_and, zpush_some, zgo_some, zret_some, zret_void, zcok, zk1_int, zk1_ref, zk1_no, zc1_int, zc1_ref, zcat_int, zcat_long, zcat_ref, List.map_cons, List.map_nil, List.sum_cons, List.sum_nil, Nat.reduceAdd, Nat.reduceLeDiff, and_self, decide_eq_true_eq, Nat.add_zero, Nat.zero_add, Nat.zero_le, Nat.le_refl, zgm_0, zgm_1, zgm_2, zgm_3, zgm_4, zgm_5, zgm_6, zgm_7, zgm_8, zgm_9, zpm_0, zpm_1, zpm_2, zpm_4, zpm_7, zrm, hs, hz, if_false, e, decide_false, Bool.false_eq_true]
      simp (disch := (first | assumption | exact zcok0 rfl (Nat.le_of_ble_eq_true rfl) | exact zcok0 (zrec_fig (by assumption)) (Nat.le_of_ble_eq_true rfl) | exact zcok0 (zrec_cl (by assumption)) (Nat.le_of_ble_eq_true rfl) | exact ⟨Nat.le_of_ble_eq_true rfl, Nat.zero_le _, Nat.zero_le _⟩ | exact zc1_int | exact zc1_ref | exact zpok_fig (by assumption) rfl (fun h => Bool.noConfusion h) | exact zpok_fig (by assumption) rfl (fun _ => Or.inl rfl) | exact zpok_fig (by assumption) rfl (fun _ => Or.inr rfl) | exact zpok_fig (by assumption) rfl (fun _ => (by assumption)) | exact zps_3_0 | exact zps_5_2 | exact zps_6_2 | exact zps_7_2 | exact zps_8_1 | exact zpc_0 (by assumption) | exact zpc_1 (by assumption) | exact zpc_2 (by assumption) | exact zpc_3 (by assumption) | exact zpc_4 (by assumption) | exact zpm_0 | exact zpm_1 | exact zpm_2 | exact zpm_4 | exact zpm_7 | exact zif01 _ | exact zb01 | exact ⟨Nat.le_of_ble_eq_true rfl, Nat.le_of_ble_eq_true rfl⟩ | exact Or.inl rfl | exact Or.inr rfl | omega)) only [zr_X9_opposite_14, zr_X9_opposite_17, zb_True, zb_False, List.getElem?_cons_zero, List.getElem?_cons_succ, eq_self, and_true, true_and, zpush_some, zgo_some, zret_some, zret_void, zcok, zk1_int, zk1_ref, zk1_no, zc1_int, zc1_ref, zcat_int, zcat_long, zcat_ref, List.map_cons, List.map_nil, List.sum_cons, List.sum_nil, Nat.reduceAdd, Nat.reduceLeDiff, and_self, decide_eq_true_eq, Nat.add_zero, Nat.zero_add, Nat.zero_le, Nat.le_refl]
      exact ih
  have l := loop (zopp p n - 1) 1 (by omega) (Nat.le_refl 1)
  have e1 : nI 1 = 1 := rfl
  rw [e1] at l
  simp only [m_X9_opposite, eq_self, and_true, true_and, zmeth, zargsok, zargs, List.all_cons, List.all_nil, Bool.and_self, List.length_cons, List.length_nil, List.replicate, List.append_nil, List.cons_append, List.nil_append, Nat.reduceAdd, Nat.reduceSub, Nat.reduceLeDiff, and_self, if_true, zfin_int, zfin_long, zfin_void, zfin_r4, zfin_r13, zfin_r16, zfin_thr, Nat.zero_add]
  simp (disch := (first | assumption | exact zcok0 rfl (Nat.le_of_ble_eq_true rfl) | exact zcok0 (zrec_fig (by assumption)) (Nat.le_of_ble_eq_true rfl) | exact zcok0 (zrec_cl (by assumption)) (Nat.le_of_ble_eq_true rfl) | exact ⟨Nat.le_of_ble_eq_true rfl, Nat.zero_le _, Nat.zero_le _⟩ | exact zc1_int | exact zc1_ref | exact zpok_fig (by assumption) rfl (fun h => Bool.noConfusion h) | exact zpok_fig (by assumption) rfl (fun _ => Or.inl rfl) | exact zpok_fig (by assumption) rfl (fun _ => Or.inr rfl) | exact zpok_fig (by assumption) rfl (fun _ => (by assumption)) | exact zps_3_0 | exact zps_5_2 | exact zps_6_2 | exact zps_7_2 | exact zps_8_1 | exact zpc_0 (by assumption) | exact zpc_1 (by assumption) | exact zpc_2 (by assumption) | exact zpc_3 (by assumption) | exact zpc_4 (by assumption) | exact zpm_0 | exact zpm_1 | exact zpm_2 | exact zpm_4 | exact zpm_7 | exact zif01 _ | exact zb01 | exact ⟨Nat.le_of_ble_eq_true rfl, Nat.le_of_ble_eq_true rfl⟩ | exact Or.inl rfl | exact Or.inr rfl | omega)) only [zr_X9_opposite_0, zr_X9_opposite_1, zb_True, zb_False, List.getElem?_cons_zero, List.getElem?_cons_succ, eq_self, and_true, true_and, zpush_some, zgo_some, zret_some, zret_void, zcok, zk1_int, zk1_ref, zk1_no, zc1_int, zc1_ref, zcat_int, zcat_long, zcat_ref, List.map_cons, List.map_nil, List.sum_cons, List.sum_nil, Nat.reduceAdd, Nat.reduceLeDiff, and_self, decide_eq_true_eq, Nat.add_zero, Nat.zero_add, Nat.zero_le, Nat.le_refl, l, zfin_int, zfin_long, zfin_void, zfin_r4, zfin_r13, zfin_r16, zfin_thr]
/-- the remainder as a Nat -/
def zmn (p : Nat) (v : Int32) : Nat := (v.toInt % (p : Int)).toNat
theorem zrest_nat {p : Nat} {v : Int32} (hp : zpr p) : zrest (nI p) v = nI (zmn p v) ∧ zmn p v < p := by
  have hlt := zpr_lt hp
  have e : (nI p).toInt = (p : Int) := nI_toInt (by omega)
  have e1 := zrest_int (p := nI p) (n := v) (by rw [e]; omega)
  rw [e] at e1
  have h1 : 0 ≤ v.toInt % (p : Int) := Int.emod_nonneg _ (by omega)
  have h2 : v.toInt % (p : Int) < p := Int.emod_lt_of_pos _ (by omega)
  have h3 : zmn p v < p := by unfold zmn; omega
  refine ⟨?_, h3⟩
  rw [zeq, e1, nI_toInt (by omega)]
  unfold zmn
  omega
theorem zM_nat {p : Nat} {v : Int32} {σ : zMem} (hp : zpr p) (hs : σ 0 0 1 = nI p) : zM σ v = nI (zmn p v) := by unfold zM; rw [hs]; exact (zrest_nat hp).1
theorem zp_ne {p : Nat} {σ : zMem} (hp : zpr p) (hs : σ 0 0 1 = nI p) : ¬ σ 0 0 1 = 0 := by
  have hlt := zpr_lt hp
  intro h
  rw [hs] at h
  have h' : (nI p).toInt = (0 : Int32).toInt := by rw [h]
  rw [nI_toInt (by omega)] at h'
  have : (0 : Int32).toInt = 0 := rfl
  omega
theorem nI_z0 {n : Nat} (h : n < 2147483648) : nI n = 0 ↔ n = 0 := by
  constructor
  · intro g
    have h' : (nI n).toInt = (0 : Int32).toInt := by rw [g]
    rw [nI_toInt h] at h'
    have : (0 : Int32).toInt = 0 := rfl
    omega
  · intro g; rw [g]; rfl
/-- the first of a and b that is not 0 -/
def zfs (p : Nat) (a b : Int32) : Nat := if zmn p a = 0 then zmn p b else zmn p a
def zlnl (σ : zMem) (p : Nat) (a b c : Int32) : zMem := zla σ (nI (zmn p a) * nI (zopp p (zfs p a b))) (nI (zmn p b) * nI (zopp p (zfs p a b))) (nI (zmn p c) * nI (zopp p (zfs p a b)))
theorem rp_layLine {p : Nat} {a b c : Int32} {σ : zMem} {τ : zTmp} (hp : zpr p) (hs : σ 0 0 1 = nI p) : m_X9_layLine [zO 0 0, zI a, zI b, zI c] (σ, τ) = if zfs p a b = 0 then some (.inl (some (zI 0)), (σ, τ)) else some (.inl (some (zI 1)), (zlnl σ p a b c, τ)) := by
  have hz := zp_ne hp hs
  have hlt := zpr_lt hp
  have ma := (zrest_nat (v := a) hp).2
  have mb := (zrest_nat (v := b) hp).2
  have tail : ∀ f : Nat, f < p → zfs p a b = f → zfin τ.length (zev zk_X9_layLine (23, [some (Sum.inr (0, 0)), some (Sum.inl (Value.int a)), some (Sum.inl (Value.int b)), some (Sum.inl (Value.int c)), some (Sum.inl (Value.int (nI f))), none], [], (σ, τ), (0, 0))) = if zfs p a b = 0 then some (.inl (some (zI 0)), (σ, τ)) else some (.inl (some (zI 1)), (zlnl σ p a b c, τ)) := by
    intro f hf hff
    rw [hff]
    by_cases h0 : f = 0
    · have g : nI f = 0 := (nI_z0 (by omega)).mpr h0
      rw [if_pos h0]
      simp (disch := (first | assumption | exact zcok0 rfl (Nat.le_of_ble_eq_true rfl) | exact zcok0 (zrec_fig (by assumption)) (Nat.le_of_ble_eq_true rfl) | exact zcok0 (zrec_cl (by assumption)) (Nat.le_of_ble_eq_true rfl) | exact ⟨Nat.le_of_ble_eq_true rfl, Nat.zero_le _, Nat.zero_le _⟩ | exact zc1_int | exact zc1_ref | exact zpok_fig (by assumption) rfl (fun h => Bool.noConfusion h) | exact zpok_fig (by assumption) rfl (fun _ => Or.inl rfl) | exact zpok_fig (by assumption) rfl (fun _ => Or.inr rfl) | exact zpok_fig (by assumption) rfl (fun _ => (by assumption)) | exact zps_3_0 | exact zps_5_2 | exact zps_6_2 | exact zps_7_2 | exact zps_8_1 | exact zpc_0 (by assumption) | exact zpc_1 (by assumption) | exact zpc_2 (by assumption) | exact zpc_3 (by assumption) | exact zpc_4 (by assumption) | exact zpm_0 | exact zpm_1 | exact zpm_2 | exact zpm_4 | exact zpm_7 | exact zif01 _ | exact zb01 | exact ⟨Nat.le_of_ble_eq_true rfl, Nat.le_of_ble_eq_true rfl⟩ | exact Or.inl rfl | exact Or.inr rfl | omega)) only [zr_X9_layLine_23, zr_X9_layLine_25, zr_X9_layLine_28, zr_X9_layLine_29, zb_True, zb_False, List.getElem?_cons_zero, List.getElem?_cons_succ, eq_self, and_true, true_and, zpush_some, zgo_some, zret_some, zret_void, zcok, zk1_int, zk1_ref, zk1_no, zc1_int, zc1_ref, zcat_int, zcat_long, zcat_ref, List.map_cons, List.map_nil, List.sum_cons, List.sum_nil, Nat.reduceAdd, Nat.reduceLeDiff, and_self, decide_eq_true_eq, Nat.add_zero, Nat.zero_add, Nat.zero_le, Nat.le_refl, g, not_true_eq_false, decide_false, Bool.false_eq_true, if_false, zfin_int, zfin_long, zfin_void, zfin_r4, zfin_r13, zfin_r16, zfin_thr]
    · have g : ¬ nI f = 0 := fun h => h0 ((nI_z0 (by omega)).mp h)
      have eo := rp_opp (σ := σ) (τ := τ) hp hs (show 0 < f by omega) hf
      rw [if_neg h0]
      unfold zlnl
      rw [hff]
      simp (disch := (first | assumption | exact zcok0 rfl (Nat.le_of_ble_eq_true rfl) | exact zcok0 (zrec_fig (by assumption)) (Nat.le_of_ble_eq_true rfl) | exact zcok0 (zrec_cl (by assumption)) (Nat.le_of_ble_eq_true rfl) | exact ⟨Nat.le_of_ble_eq_true rfl, Nat.zero_le _, Nat.zero_le _⟩ | exact zc1_int | exact zc1_ref | exact zpok_fig (by assumption) rfl (fun h => Bool.noConfusion h) | exact zpok_fig (by assumption) rfl (fun _ => Or.inl rfl) | exact zpok_fig (by assumption) rfl (fun _ => Or.inr rfl) | exact zpok_fig (by assumption) rfl (fun _ => (by assumption)) | exact zps_3_0 | exact zps_5_2 | exact zps_6_2 | exact zps_7_2 | exact zps_8_1 | exact zpc_0 (by assumption) | exact zpc_1 (by assumption) | exact zpc_2 (by assumption) | exact zpc_3 (by assumption) | exact zpc_4 (by assumption) | exact zpm_0 | exact zpm_1 | exact zpm_2 | exact zpm_4 | exact zpm_7 | exact zif01 _ | exact zb01 | exact ⟨Nat.le_of_ble_eq_true rfl, Nat.le_of_ble_eq_true rfl⟩ | exact Or.inl rfl | exact Or.inr rfl | omega)) only [zr_X9_layLine_23, zr_X9_layLine_25, zr_X9_layLine_28, zr_X9_layLine_29, zr_X9_layLine_30, zr_X9_layLine_31, zr_X9_layLine_33, zr_X9_layLine_36, zr_X9_layLine_38, zr_X9_layLine_39, zr_X9_layLine_40, zr_X9_layLine_41, zr_X9_layLine_44, zr_X9_layLine_46, zr_X9_layLine_47, zr_X9_layLine_48, zr_X9_layLine_49, zr_X9_layLine_52, zr_X9_layLine_54, zr_X9_layLine_55, zr_X9_layLine_56, zr_X9_layLine_57, zr_X9_layLine_60, zr_X9_layLine_62, zr_X9_layLine_63, zr_X9_layLine_66, zb_True, zb_False, List.getElem?_cons_zero, List.getElem?_cons_succ, eq_self, and_true, true_and, zpush_some, zgo_some, zret_some, zret_void, zcok, zk1_int, zk1_ref, zk1_no, zc1_int, zc1_ref, zcat_int, zcat_long, zcat_ref, List.map_cons, List.map_nil, List.sum_cons, List.sum_nil, Nat.reduceAdd, Nat.reduceLeDiff, and_self, decide_eq_true_eq, Nat.add_zero, Nat.zero_add, Nat.zero_le, Nat.le_refl, g, not_false_eq_true, decide_true, if_true, eo, rp_mod hz, zM_nat hp hs, rp_lay hz, zfin_int, zfin_long, zfin_void, zfin_r4, zfin_r13, zfin_r16, zfin_thr]
  simp only [m_X9_layLine, eq_self, and_true, true_and, zmeth, zargsok, zargs, List.all_cons, List.all_nil, Bool.and_self, List.length_cons, List.length_nil, List.replicate, List.append_nil, List.cons_append, List.nil_append, Nat.reduceAdd, Nat.reduceSub, Nat.reduceLeDiff, and_self, if_true, zfin_int, zfin_long, zfin_void, zfin_r4, zfin_r13, zfin_r16, zfin_thr, Nat.zero_add]
  by_cases h0 : zmn p a = 0
  · have g : nI (zmn p a) = 0 := (nI_z0 (by omega)).mpr h0
    have hf : zfs p a b = zmn p b := if_pos h0
    rw [← tail (zmn p b) mb hf]
    simp (disch := (first | assumption | exact zcok0 rfl (Nat.le_of_ble_eq_true rfl) | exact zcok0 (zrec_fig (by assumption)) (Nat.le_of_ble_eq_true rfl) | exact zcok0 (zrec_cl (by assumption)) (Nat.le_of_ble_eq_true rfl) | exact ⟨Nat.le_of_ble_eq_true rfl, Nat.zero_le _, Nat.zero_le _⟩ | exact zc1_int | exact zc1_ref | exact zpok_fig (by assumption) rfl (fun h => Bool.noConfusion h) | exact zpok_fig (by assumption) rfl (fun _ => Or.inl rfl) | exact zpok_fig (by assumption) rfl (fun _ => Or.inr rfl) | exact zpok_fig (by assumption) rfl (fun _ => (by assumption)) | exact zps_3_0 | exact zps_5_2 | exact zps_6_2 | exact zps_7_2 | exact zps_8_1 | exact zpc_0 (by assumption) | exact zpc_1 (by assumption) | exact zpc_2 (by assumption) | exact zpc_3 (by assumption) | exact zpc_4 (by assumption) | exact zpm_0 | exact zpm_1 | exact zpm_2 | exact zpm_4 | exact zpm_7 | exact zif01 _ | exact zb01 | exact ⟨Nat.le_of_ble_eq_true rfl, Nat.le_of_ble_eq_true rfl⟩ | exact Or.inl rfl | exact Or.inr rfl | omega)) only [zr_X9_layLine_0, zr_X9_layLine_1, zr_X9_layLine_2, zr_X9_layLine_5, zr_X9_layLine_8, zr_X9_layLine_9, zr_X9_layLine_10, zr_X9_layLine_13, zr_X9_layLine_16, zr_X9_layLine_17, zr_X9_layLine_18, zr_X9_layLine_21, zb_True, zb_False, List.getElem?_cons_zero, List.getElem?_cons_succ, eq_self, and_true, true_and, zpush_some, zgo_some, zret_some, zret_void, zcok, zk1_int, zk1_ref, zk1_no, zc1_int, zc1_ref, zcat_int, zcat_long, zcat_ref, List.map_cons, List.map_nil, List.sum_cons, List.sum_nil, Nat.reduceAdd, Nat.reduceLeDiff, and_self, decide_eq_true_eq, Nat.add_zero, Nat.zero_add, Nat.zero_le, Nat.le_refl, rp_mod hz, zM_nat hp hs, g, decide_true, if_true]
  · have g : ¬ nI (zmn p a) = 0 := fun h => h0 ((nI_z0 (by omega)).mp h)
    have hf : zfs p a b = zmn p a := if_neg h0
    rw [← tail (zmn p a) ma hf]
    simp (disch := (first | assumption | exact zcok0 rfl (Nat.le_of_ble_eq_true rfl) | exact zcok0 (zrec_fig (by assumption)) (Nat.le_of_ble_eq_true rfl) | exact zcok0 (zrec_cl (by assumption)) (Nat.le_of_ble_eq_true rfl) | exact ⟨Nat.le_of_ble_eq_true rfl, Nat.zero_le _, Nat.zero_le _⟩ | exact zc1_int | exact zc1_ref | exact zpok_fig (by assumption) rfl (fun h => Bool.noConfusion h) | exact zpok_fig (by assumption) rfl (fun _ => Or.inl rfl) | exact zpok_fig (by assumption) rfl (fun _ => Or.inr rfl) | exact zpok_fig (by assumption) rfl (fun _ => (by assumption)) | exact zps_3_0 | exact zps_5_2 | exact zps_6_2 | exact zps_7_2 | exact zps_8_1 | exact zpc_0 (by assumption) | exact zpc_1 (by assumption) | exact zpc_2 (by assumption) | exact zpc_3 (by assumption) | exact zpc_4 (by assumption) | exact zpm_0 | exact zpm_1 | exact zpm_2 | exact zpm_4 | exact zpm_7 | exact zif01 _ | exact zb01 | exact ⟨Nat.le_of_ble_eq_true rfl, Nat.le_of_ble_eq_true rfl⟩ | exact Or.inl rfl | exact Or.inr rfl | omega)) only [zr_X9_layLine_0, zr_X9_layLine_1, zr_X9_layLine_2, zr_X9_layLine_5, zr_X9_layLine_8, zr_X9_layLine_9, zr_X9_layLine_10, zr_X9_layLine_13, zr_X9_layLine_16, zr_X9_layLine_17, zr_X9_layLine_18, zr_X9_layLine_21, zb_True, zb_False, List.getElem?_cons_zero, List.getElem?_cons_succ, eq_self, and_true, true_and, zpush_some, zgo_some, zret_some, zret_void, zcok, zk1_int, zk1_ref, zk1_no, zc1_int, zc1_ref, zcat_int, zcat_long, zcat_ref, List.map_cons, List.map_nil, List.sum_cons, List.sum_nil, Nat.reduceAdd, Nat.reduceLeDiff, and_self, decide_eq_true_eq, Nat.add_zero, Nat.zero_add, Nat.zero_le, Nat.le_refl, rp_mod hz, zM_nat hp hs, g, decide_false, Bool.false_eq_true, if_false]
def zdt (p : Nat) (a b d e : Int32) : Nat := zmn p (a * e - d * b)
def zint (σ : zMem) (p : Nat) (a b c d e f : Int32) : zMem := zla σ (nI (zmn p (b * f - e * c)) * nI (zopp p (zdt p a b d e))) (nI (zmn p (c * d - f * a)) * nI (zopp p (zdt p a b d e))) 0
theorem rp_intersect {p : Nat} {a b c d e f : Int32} {σ : zMem} {τ : zTmp} (hp : zpr p) (hs : σ 0 0 1 = nI p) : m_X9_intersect [zO 0 0, zI a, zI b, zI c, zI d, zI e, zI f] (σ, τ) = if zdt p a b d e = 0 then some (.inl (some (zI 0)), (σ, τ)) else some (.inl (some (zI 1)), (zint σ p a b c d e f, τ)) := by
  have hz := zp_ne hp hs
  have hlt := zpr_lt hp
  have md := (zrest_nat (v := a * e - d * b) hp).2
  simp only [m_X9_intersect, eq_self, and_true, true_and, zmeth, zargsok, zargs, List.all_cons, List.all_nil, Bool.and_self, List.length_cons, List.length_nil, List.replicate, List.append_nil, List.cons_append, List.nil_append, Nat.reduceAdd, Nat.reduceSub, Nat.reduceLeDiff, and_self, if_true, zfin_int, zfin_long, zfin_void, zfin_r4, zfin_r13, zfin_r16, zfin_thr, Nat.zero_add]
  unfold zdt zint
  by_cases h0 : zmn p (a * e - d * b) = 0
  · have g : nI (zmn p (a * e - d * b)) = 0 := (nI_z0 (by omega)).mpr h0
    rw [if_pos h0]
    simp (disch := (first | assumption | exact zcok0 rfl (Nat.le_of_ble_eq_true rfl) | exact zcok0 (zrec_fig (by assumption)) (Nat.le_of_ble_eq_true rfl) | exact zcok0 (zrec_cl (by assumption)) (Nat.le_of_ble_eq_true rfl) | exact ⟨Nat.le_of_ble_eq_true rfl, Nat.zero_le _, Nat.zero_le _⟩ | exact zc1_int | exact zc1_ref | exact zpok_fig (by assumption) rfl (fun h => Bool.noConfusion h) | exact zpok_fig (by assumption) rfl (fun _ => Or.inl rfl) | exact zpok_fig (by assumption) rfl (fun _ => Or.inr rfl) | exact zpok_fig (by assumption) rfl (fun _ => (by assumption)) | exact zps_3_0 | exact zps_5_2 | exact zps_6_2 | exact zps_7_2 | exact zps_8_1 | exact zpc_0 (by assumption) | exact zpc_1 (by assumption) | exact zpc_2 (by assumption) | exact zpc_3 (by assumption) | exact zpc_4 (by assumption) | exact zpm_0 | exact zpm_1 | exact zpm_2 | exact zpm_4 | exact zpm_7 | exact zif01 _ | exact zb01 | exact ⟨Nat.le_of_ble_eq_true rfl, Nat.le_of_ble_eq_true rfl⟩ | exact Or.inl rfl | exact Or.inr rfl | omega)) only [zr_X9_intersect_0, zr_X9_intersect_1, zr_X9_intersect_2, zr_X9_intersect_4, zr_X9_intersect_5, zr_X9_intersect_7, zr_X9_intersect_8, zr_X9_intersect_9, zr_X9_intersect_10, zr_X9_intersect_13, zr_X9_intersect_15, zr_X9_intersect_17, zr_X9_intersect_20, zr_X9_intersect_21, zb_True, zb_False, List.getElem?_cons_zero, List.getElem?_cons_succ, eq_self, and_true, true_and, zpush_some, zgo_some, zret_some, zret_void, zcok, zk1_int, zk1_ref, zk1_no, zc1_int, zc1_ref, zcat_int, zcat_long, zcat_ref, List.map_cons, List.map_nil, List.sum_cons, List.sum_nil, Nat.reduceAdd, Nat.reduceLeDiff, and_self, decide_eq_true_eq, Nat.add_zero, Nat.zero_add, Nat.zero_le, Nat.le_refl, rp_mod hz, zM_nat hp hs, g, not_true_eq_false, decide_false, Bool.false_eq_true, if_false, zfin_int, zfin_long, zfin_void, zfin_r4, zfin_r13, zfin_r16, zfin_thr]
  · have g : ¬ nI (zmn p (a * e - d * b)) = 0 := fun h => h0 ((nI_z0 (by omega)).mp h)
    have eo := rp_opp (σ := σ) (τ := τ) hp hs (show 0 < zmn p (a * e - d * b) by omega) md
    rw [if_neg h0]
    simp (disch := (first | assumption | exact zcok0 rfl (Nat.le_of_ble_eq_true rfl) | exact zcok0 (zrec_fig (by assumption)) (Nat.le_of_ble_eq_true rfl) | exact zcok0 (zrec_cl (by assumption)) (Nat.le_of_ble_eq_true rfl) | exact ⟨Nat.le_of_ble_eq_true rfl, Nat.zero_le _, Nat.zero_le _⟩ | exact zc1_int | exact zc1_ref | exact zpok_fig (by assumption) rfl (fun h => Bool.noConfusion h) | exact zpok_fig (by assumption) rfl (fun _ => Or.inl rfl) | exact zpok_fig (by assumption) rfl (fun _ => Or.inr rfl) | exact zpok_fig (by assumption) rfl (fun _ => (by assumption)) | exact zps_3_0 | exact zps_5_2 | exact zps_6_2 | exact zps_7_2 | exact zps_8_1 | exact zpc_0 (by assumption) | exact zpc_1 (by assumption) | exact zpc_2 (by assumption) | exact zpc_3 (by assumption) | exact zpc_4 (by assumption) | exact zpm_0 | exact zpm_1 | exact zpm_2 | exact zpm_4 | exact zpm_7 | exact zif01 _ | exact zb01 | exact ⟨Nat.le_of_ble_eq_true rfl, Nat.le_of_ble_eq_true rfl⟩ | exact Or.inl rfl | exact Or.inr rfl | omega)) only [zr_X9_intersect_0, zr_X9_intersect_1, zr_X9_intersect_2, zr_X9_intersect_4, zr_X9_intersect_5, zr_X9_intersect_7, zr_X9_intersect_8, zr_X9_intersect_9, zr_X9_intersect_10, zr_X9_intersect_13, zr_X9_intersect_15, zr_X9_intersect_17, zr_X9_intersect_20, zr_X9_intersect_21, zr_X9_intersect_22, zr_X9_intersect_23, zr_X9_intersect_25, zr_X9_intersect_28, zr_X9_intersect_30, zr_X9_intersect_31, zr_X9_intersect_32, zr_X9_intersect_33, zr_X9_intersect_35, zr_X9_intersect_36, zr_X9_intersect_38, zr_X9_intersect_39, zr_X9_intersect_40, zr_X9_intersect_41, zr_X9_intersect_44, zr_X9_intersect_46, zr_X9_intersect_47, zr_X9_intersect_48, zr_X9_intersect_49, zr_X9_intersect_51, zr_X9_intersect_52, zr_X9_intersect_54, zr_X9_intersect_55, zr_X9_intersect_56, zr_X9_intersect_57, zr_X9_intersect_60, zr_X9_intersect_62, zr_X9_intersect_63, zr_X9_intersect_64, zr_X9_intersect_67, zb_True, zb_False, List.getElem?_cons_zero, List.getElem?_cons_succ, eq_self, and_true, true_and, zpush_some, zgo_some, zret_some, zret_void, zcok, zk1_int, zk1_ref, zk1_no, zc1_int, zc1_ref, zcat_int, zcat_long, zcat_ref, List.map_cons, List.map_nil, List.sum_cons, List.sum_nil, Nat.reduceAdd, Nat.reduceLeDiff, and_self, decide_eq_true_eq, Nat.add_zero, Nat.zero_add, Nat.zero_le, Nat.le_refl, rp_mod hz, zM_nat hp hs, g, not_false_eq_true, decide_true, if_true, eo, rp_lay hz, zfin_int, zfin_long, zfin_void, zfin_r4, zfin_r13, zfin_r16, zfin_thr]
    rfl
