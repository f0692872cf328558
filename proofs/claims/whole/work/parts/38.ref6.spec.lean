/-! ===== the reference: what lines have in common ===== -/
theorem zla_30 {σ : zMem} {a b c : Int32} : zla σ a b c 3 0 0 = zM σ a := by simp [zla, zup]
theorem zla_31 {σ : zMem} {a b c : Int32} : zla σ a b c 3 0 1 = zM σ b := by simp [zla, zup]
theorem zla_32 {σ : zMem} {a b c : Int32} : zla σ a b c 3 0 2 = zM σ c := by simp [zla, zup]
/-- the same but for what is laid -/
def zL3 (σ σ' : zMem) : Prop := ∀ k i j, k ≠ 3 → σ' k i j = σ k i j
theorem zL3_refl {σ : zMem} : zL3 σ σ := fun _ _ _ _ => rfl
theorem zL3_trans {σ σ' σ'' : zMem} (h : zL3 σ σ') (h' : zL3 σ' σ'') : zL3 σ σ'' := fun k i j hk => (h' k i j hk).trans (h k i j hk)
theorem zL3_la {σ : zMem} {a b c : Int32} : zL3 σ (zla σ a b c) := by
  intro k i j hk
  simp [zla, zup, hk]
theorem zL3_onl {σ : zMem} {p l : Nat} {t : Int32} : zL3 σ (zonl σ p l t) := by
  unfold zonl
  split
  · exact zL3_la
  · exact zL3_la
theorem zL3_g {σ σ' : zMem} (h : zL3 σ σ') (j w : Nat) : zg σ' j w = zg σ j w := h 1 0 _ (by decide)
theorem zL3_0 {σ σ' : zMem} (h : zL3 σ σ') (j : Nat) : σ' 0 0 j = σ 0 0 j := h 0 0 _ (by decide)
theorem zL3_M {σ σ' : zMem} (h : zL3 σ σ') (v : Int32) : zM σ' v = zM σ v := zM_of (zL3_0 h 1)
def zoX (σ : zMem) (l : Nat) (t : Int32) : Int32 := zM σ (if zg σ l 9 = 0 then -zg σ l 10 else t)
def zoY (σ : zMem) (p l : Nat) (t : Int32) : Int32 := zM σ (if zg σ l 9 = 0 then t else nI (zmn p (-(zg σ l 8 * t + zg σ l 10))) * nI (zopp p (zg σ l 9).toNatClampNeg))
theorem zonl_X {σ : zMem} {p l : Nat} {t : Int32} : zonl σ p l t 3 0 0 = zoX σ l t := by
  unfold zonl zoX
  by_cases h : zg σ l 9 = 0
  · rw [if_pos h, if_pos h]; exact zla_30
  · rw [if_neg h, if_neg h]; exact zla_30
theorem zonl_Y {σ : zMem} {p l : Nat} {t : Int32} : zonl σ p l t 3 0 1 = zoY σ p l t := by
  unfold zonl zoY
  by_cases h : zg σ l 9 = 0
  · rw [if_pos h, if_pos h]; exact zla_31
  · rw [if_neg h, if_neg h]; exact zla_31
theorem zoX_L3 {σ σ' : zMem} {l : Nat} {t : Int32} (h : zL3 σ σ') : zoX σ' l t = zoX σ l t := by unfold zoX; rw [zL3_g h, zL3_g h, zL3_M h]
theorem zoY_L3 {σ σ' : zMem} {p l : Nat} {t : Int32} (h : zL3 σ σ') : zoY σ' p l t = zoY σ p l t := by unfold zoY; rw [zL3_g h, zL3_g h, zL3_g h, zL3_M h]
theorem zonL_L3 {σ σ' : zMem} {l : Nat} {x y : Int32} (h : zL3 σ σ') : zonL σ' l x y ↔ zonL σ l x y := by unfold zonL; rw [zL3_g h, zL3_g h, zL3_g h, zL3_M h]
def zhc (σ : zMem) (p a b c t : Nat) : Prop := zonL σ b (zoX σ a (nI t)) (zoY σ p a (nI t)) ∧ zonL σ c (zoX σ a (nI t)) (zoY σ p a (nI t))
theorem rp_haveCommon {p a b c bn : Nat} {σ : zMem} {τ : zTmp} (hp : zpr p) (hs : σ 0 0 1 = nI p) (ha : a < 40) (hb : b < 40) (hc : c < 40) (hg : zg σ a 9 = nI bn) (hbn : bn < p) :
    ∃ σ', m_X9_haveCommon [zO 0 0, zI (nI a), zI (nI b), zI (nI c)] (σ, τ) = some (.inl (some (zI (zb (∃ t, t < p ∧ zhc σ p a b c t)))), (σ', τ)) ∧ zL3 σ σ' := by
  have hlt := zpr_lt hp
  have loop : ∀ d t (σ1 : zMem) (v1 v2 : Option zAV), t + d = p → zL3 σ σ1 → (∀ q, q < t → ¬ zhc σ p a b c q) → ∃ σ', zev zk_X9_haveCommon (3, [some (Sum.inr (0, 0)), some (Sum.inl (Value.int (nI a))), some (Sum.inl (Value.int (nI b))), some (Sum.inl (Value.int (nI c))), some (Sum.inl (Value.int (nI t))), v1, v2], [], (σ1, τ), (0, 0)) = some (.inl (some (zI (zb (∃ t, t < p ∧ zhc σ p a b c t)))), (σ', τ)) ∧ zL3 σ σ' := by
    intro d
    induction d with
    | zero =>
      intro t σ1 v1 v2 ht hL hq
      have ht : t = p := by omega
      subst ht
      refine ⟨σ1, ?_, hL⟩
      have hs1 : σ1 0 0 1 = nI t := by rw [zL3_0 hL]; exact hs
      rw [zb_f (fun ⟨q, g1, g2⟩ => hq q g1 g2)]
      simp (disch := (first | assumption | exact zcok0 rfl (Nat.le_of_ble_eq_true rfl) | exact zcok0 (zrec_fig (by assumption)) (Nat.le_of_ble_eq_true rfl) | exact zcok0 (zrec_cl (by assumption)) (Nat.le_of_ble_eq_true rfl) | exact ⟨Nat.le_of_ble_eq_true rfl, Nat.zero_le _, Nat.zero_le _⟩ | exact zc1_int | exact zc1_ref | exact zpok_fig (by assumption) rfl (fun h => Bool.noConfusion h) | exact zpok_fig (by assumption) rfl (fun _ => Or.inl rfl) | exact zpok_fig (by assumption) rfl (fun _ => Or.inr rfl) | exact zpok_fig (by assumption) rfl (fun _ => (by assumption)) | exact zps_3_0 | exact zps_5_2 | exact zps_6_2 | exact zps_7_2 | exact zps_8_1 | exact zpc_0 (by assumption) | exact zpc_1 (by assumption) | exact zpc_2 (by assumption) | exact zpc_3 (by assumption) | exact zpc_4 (by assumption) | exact zpm_0 | exact zpm_1 | exact zpm_2 | exact zpm_4 | exact zpm_7 | exact zif01 _ | exact zb01 | exact ⟨Nat.le_of_ble_eq_true rfl, Nat.le_of_ble_eq_true rfl⟩ | exact Or.inl rfl | exact Or.inr rfl | omega)) only [zr_X9_haveCommon_3, zr_X9_haveCommon_5, zr_X9_haveCommon_6, zr_X9_haveCommon_9, zr_X9_haveCommon_68, zr_X9_haveCommon_69, zb_True, zb_False, List.getElem?_cons_zero, List.getElem?_cons_succ, eq_self, and_true, true_and, zpush_some, zgo_some, zret_some, zret_void, zcok, zk1_int, zk1_ref, zk1_no, zc1_int, zc1_ref, zcat_int, zcat_long, zcat_ref, List.map_cons, List.map_nil, List.sum_cons, List.sum_nil, Nat.reduceAdd, Nat.reduceLeDiff, and_self, decide_eq_true_eq, Nat.add_zero, Nat.zero_add, Nat.zero_le, Nat.le_refl, zgm_0, zgm_1, zgm_2, zgm_3, zgm_4, zgm_5, zgm_6, zgm_7, zgm_8, zgm_9, zpm_0, zpm_1, zpm_2, zpm_4, zpm_7, zrm, hs1, Int32.le_refl, decide_true, if_true]
    | succ d ih =>
      intro t σ1 v1 v2 ht hL hq
      have hs1 : σ1 0 0 1 = nI p := by rw [zL3_0 hL]; exact hs
      have h1 : ¬ nI p ≤ nI t := nI_ge (by omega) (by omega)
      have eo := rp_onLine (t := nI t) (σ := σ1) (τ := τ) hp hs1 ha (by rw [zL3_g hL]; exact hg) hbn
      have hL2 : zL3 σ (zonl σ1 p a (nI t)) := zL3_trans hL zL3_onl
      have hs2 : zonl σ1 p a (nI t) 0 0 1 = nI p := by rw [zL3_0 hL2]; exact hs
      have z2 := zp_ne hp hs2
      have eX : zonl σ1 p a (nI t) 3 0 0 = zoX σ a (nI t) := by rw [zonl_X, zoX_L3 hL]
      have eY : zonl σ1 p a (nI t) 3 0 1 = zoY σ p a (nI t) := by rw [zonl_Y, zoY_L3 hL]
      have eB := rp_isOnLine (l := b) (x := zoX σ a (nI t)) (y := zoY σ p a (nI t)) (τ := τ) z2 hb
      have eC := rp_isOnLine (l := c) (x := zoX σ a (nI t)) (y := zoY σ p a (nI t)) (τ := τ) z2 hc
      have next : ¬ zhc σ p a b c t → ∃ σ', zev zk_X9_haveCommon (62, [some (Sum.inr (0, 0)), some (Sum.inl (Value.int (nI a))), some (Sum.inl (Value.int (nI b))), some (Sum.inl (Value.int (nI c))), some (Sum.inl (Value.int (nI t))), some (Sum.inl (Value.int (zoX σ a (nI t)))), some (Sum.inl (Value.int (zoY σ p a (nI t))))], [], (zonl σ1 p a (nI t), τ), (0, 0)) = some (.inl (some (zI (zb (∃ t, t < p ∧ zhc σ p a b c t)))), (σ', τ)) ∧ zL3 σ σ' := by
        intro hn
        obtain ⟨σ', e, hL'⟩ := ih (t + 1) (zonl σ1 p a (nI t)) (some (Sum.inl (Value.int (zoX σ a (nI t))))) (some (Sum.inl (Value.int (zoY σ p a (nI t))))) (by omega) hL2 (fun q g => by
          rcases Nat.lt_or_ge q t with g1 | g1
          · exact hq q g1
          · have : q = t := by omega
            rw [this]; exact hn)
        refine ⟨σ', ?_, hL'⟩
        rw [← nI_1] at e
        simp (disch := (first | assumption | exact zcok0 rfl (Nat.le_of_ble_eq_true rfl) | exact zcok0 (zrec_fig (by assumption)) (Nat.le_of_ble_eq_true rfl) | exact zcok0 (zrec_cl (by assumption)) (Nat.le_of_ble_eq_true rfl) | exact ⟨Nat.le_of_ble_eq_true rfl, Nat.zero_le _, Nat.zero_le _⟩ | exact zc1_int | exact zc1_ref | exact zpok_fig (by assumption) rfl (fun h => Bool.noConfusion h) | exact zpok_fig (by assumption) rfl (fun _ => Or.inl rfl) | exact zpok_fig (by assumption) rfl (fun _ => Or.inr rfl) | exact zpok_fig (by assumption) rfl (fun _ => (by assumption)) | exact zps_3_0 | exact zps_5_2 | exact zps_6_2 | exact zps_7_2 | exact zps_8_1 | exact zpc_0 (by assumption) | exact zpc_1 (by assumption) | exact zpc_2 (by assumption) | exact zpc_3 (by assumption) | exact zpc_4 (by assumption) | exact zpm_0 | exact zpm_1 | exact zpm_2 | exact zpm_4 | exact zpm_7 | exact zif01 _ | exact zb01 | exact ⟨Nat.le_of_ble_eq_true rfl, Nat.le_of_ble_eq_true rfl⟩ | exact Or.inl rfl | exact Or.inr rfl | omega)) only [zr_X9_haveCommon_62, zr_X9_haveCommon_65, zb_True, zb_False, List.getElem?_cons_zero, List.getElem?_cons_succ, eq_self, and_true, true_and, zpush_some, zgo_some, zret_some, zret_void, zcok, zk1_int, zk1_ref, zk1_no, zc1_int, zc1_ref, zcat_int, zcat_long, zcat_ref, List.map_cons, List.map_nil, List.sum_cons, List.sum_nil, Nat.reduceAdd, Nat.reduceLeDiff, and_self, decide_eq_true_eq, Nat.add_zero, Nat.zero_add, Nat.zero_le, Nat.le_refl]
        exact e
      by_cases gB : zonL σ b (zoX σ a (nI t)) (zoY σ p a (nI t))
      · rw [zb_t ((zonL_L3 hL2).mpr gB)] at eB
        by_cases gC : zonL σ c (zoX σ a (nI t)) (zoY σ p a (nI t))
        · rw [zb_t ((zonL_L3 hL2).mpr gC)] at eC
          refine ⟨_, ?_, hL2⟩
          rw [zb_t (⟨t, by omega, gB, gC⟩ : ∃ t, t < p ∧ zhc σ p a b c t)]
          simp (disch := (first | assumption | exact zcok0 rfl (Nat.le_of_ble_eq_true rfl) | exact zcok0 (zrec_fig (by assumption)) (Nat.le_of_ble_eq_true rfl) | exact zcok0 (zrec_cl (by assumption)) (Nat.le_of_ble_eq_true rfl) | exact ⟨Nat.le_of_ble_eq_true rfl, Nat.zero_le _, Nat.zero_le _⟩ | exact zc1_int | exact zc1_ref | exact zpok_fig (by assumption) rfl (fun h => Bool.noConfusion h) | exact zpok_fig (by assumption) rfl (fun _ => Or.inl rfl) | exact zpok_fig (by assumption) rfl (fun _ => Or.inr rfl) | exact zpok_fig (by assumption) rfl (fun _ => (by assumption)) | exact zps_3_0 | exact zps_5_2 | exact zps_6_2 | exact zps_7_2 | exact zps_8_1 | exact zpc_0 (by assumption) | exact zpc_1 (by assumption) | exact zpc_2 (by assumption) | exact zpc_3 (by assumption) | exact zpc_4 (by assumption) | exact zpm_0 | exact zpm_1 | exact zpm_2 | exact zpm_4 | exact zpm_7 | exact zif01 _ | exact zb01 | exact ⟨Nat.le_of_ble_eq_true rfl, Nat.le_of_ble_eq_true rfl⟩ | exact Or.inl rfl | exact Or.inr rfl | omega)) [zr_X9_haveCommon_3, zr_X9_haveCommon_5, zr_X9_haveCommon_6, zr_X9_haveCommon_9, zr_X9_haveCommon_12, zr_X9_haveCommon_13, zr_X9_haveCommon_14, zr_X9_haveCommon_16, zr_X9_haveCommon_19, zr_X9_haveCommon_20, zr_X9_haveCommon_21, zr_X9_haveCommon_24, zr_X9_haveCommon_25, zr_X9_haveCommon_26, zr_X9_haveCommon_28, zr_X9_haveCommon_29, zr_X9_haveCommon_32, zr_X9_haveCommon_33, zr_X9_haveCommon_34, zr_X9_haveCommon_36, zr_X9_haveCommon_37, zr_X9_haveCommon_38, zr_X9_haveCommon_40, zr_X9_haveCommon_42, zr_X9_haveCommon_45, zr_X9_haveCommon_48, zr_X9_haveCommon_49, zr_X9_haveCommon_50, zr_X9_haveCommon_52, zr_X9_haveCommon_54, zr_X9_haveCommon_57, zr_X9_haveCommon_60, zr_X9_haveCommon_61, zb_True, zb_False, List.getElem?_cons_zero, List.getElem?_cons_succ, eq_self, and_true, true_and, zpush_some, zgo_some, zret_some, zret_void, zcok, zk1_int, zk1_ref, zk1_no, zc1_int, zc1_ref, zcat_int, zcat_long, zcat_ref, List.map_cons, List.map_nil, List.sum_cons, List.sum_nil, Nat.reduceAdd, Nat.reduceLeDiff, and_self, decide_eq_true_eq, Nat.add_zero, Nat.zero_add, Nat.zero_le, Nat.le_refl, zgm_0, zgm_1, zgm_2, zgm_3, zgm_4, zgm_5, zgm_6, zgm_7, zgm_8, zgm_9, zpm_0, zpm_1, zpm_2, zpm_4, zpm_7, zrm, hs1, h1, eo, zald_l0, zald_l1, eX, eY, eB, eC]
        · rw [zb_f (fun g => gC ((zonL_L3 hL2).mp g))] at eC
          obtain ⟨σ', e, hL'⟩ := next (fun g => gC g.2)
          refine ⟨σ', ?_, hL'⟩
          rw [← e]
          simp (disch := (first | assumption | exact zcok0 rfl (Nat.le_of_ble_eq_true rfl) | exact zcok0 (zrec_fig (by assumption)) (Nat.le_of_ble_eq_true rfl) | exact zcok0 (zrec_cl (by assumption)) (Nat.le_of_ble_eq_true rfl) | exact ⟨Nat.le_of_ble_eq_true rfl, Nat.zero_le _, Nat.zero_le _⟩ | exact zc1_int | exact zc1_ref | exact zpok_fig (by assumption) rfl (fun h => Bool.noConfusion h) | exact zpok_fig (by assumption) rfl (fun _ => Or.inl rfl) | exact zpok_fig (by assumption) rfl (fun _ => Or.inr rfl) | exact zpok_fig (by assumption) rfl (fun _ => (by assumption)) | exact zps_3_0 | exact zps_5_2 | exact zps_6_2 | exact zps_7_2 | exact zps_8_1 | exact zpc_0 (by assumption) | exact zpc_1 (by assumption) | exact zpc_2 (by assumption) | exact zpc_3 (by assumption) | exact zpc_4 (by assumption) | exact zpm_0 | exact zpm_1 | exact zpm_2 | exact zpm_4 | exact zpm_7 | exact zif01 _ | exact zb01 | exact ⟨Nat.le_of_ble_eq_true rfl, Nat.le_of_ble_eq_true rfl⟩ | exact Or.inl rfl | exact Or.inr rfl | omega)) [zr_X9_haveCommon_3, zr_X9_haveCommon_5, zr_X9_haveCommon_6, zr_X9_haveCommon_9, zr_X9_haveCommon_12, zr_X9_haveCommon_13, zr_X9_haveCommon_14, zr_X9_haveCommon_16, zr_X9_haveCommon_19, zr_X9_haveCommon_20, zr_X9_haveCommon_21, zr_X9_haveCommon_24, zr_X9_haveCommon_25, zr_X9_haveCommon_26, zr_X9_haveCommon_28, zr_X9_haveCommon_29, zr_X9_haveCommon_32, zr_X9_haveCommon_33, zr_X9_haveCommon_34, zr_X9_haveCommon_36, zr_X9_haveCommon_37, zr_X9_haveCommon_38, zr_X9_haveCommon_40, zr_X9_haveCommon_42, zr_X9_haveCommon_45, zr_X9_haveCommon_48, zr_X9_haveCommon_49, zr_X9_haveCommon_50, zr_X9_haveCommon_52, zr_X9_haveCommon_54, zr_X9_haveCommon_57, zr_X9_haveCommon_60, zr_X9_haveCommon_61, zb_True, zb_False, List.getElem?_cons_zero, List.getElem?_cons_succ, eq_self, and_true, true_and, zpush_some, zgo_some, zret_some, zret_void, zcok, zk1_int, zk1_ref, zk1_no, zc1_int, zc1_ref, zcat_int, zcat_long, zcat_ref, List.map_cons, List.map_nil, List.sum_cons, List.sum_nil, Nat.reduceAdd, Nat.reduceLeDiff, and_self, decide_eq_true_eq, Nat.add_zero, Nat.zero_add, Nat.zero_le, Nat.le_refl, zgm_0, zgm_1, zgm_2, zgm_3, zgm_4, zgm_5, zgm_6, zgm_7, zgm_8, zgm_9, zpm_0, zpm_1, zpm_2, zpm_4, zpm_7, zrm, hs1, h1, eo, zald_l0, zald_l1, eX, eY, eB, eC]
      · rw [zb_f (fun g => gB ((zonL_L3 hL2).mp g))] at eB
        obtain ⟨σ', e, hL'⟩ := next (fun g => gB g.1)
        refine ⟨σ', ?_, hL'⟩
        rw [← e]
        simp (disch := (first | assumption | exact zcok0 rfl (Nat.le_of_ble_eq_true rfl) | exact zcok0 (zrec_fig (by assumption)) (Nat.le_of_ble_eq_true rfl) | exact zcok0 (zrec_cl (by assumption)) (Nat.le_of_ble_eq_true rfl) | exact ⟨Nat.le_of_ble_eq_true rfl, Nat.zero_le _, Nat.zero_le _⟩ | exact zc1_int | exact zc1_ref | exact zpok_fig (by assumption) rfl (fun h => Bool.noConfusion h) | exact zpok_fig (by assumption) rfl (fun _ => Or.inl rfl) | exact zpok_fig (by assumption) rfl (fun _ => Or.inr rfl) | exact zpok_fig (by assumption) rfl (fun _ => (by assumption)) | exact zps_3_0 | exact zps_5_2 | exact zps_6_2 | exact zps_7_2 | exact zps_8_1 | exact zpc_0 (by assumption) | exact zpc_1 (by assumption) | exact zpc_2 (by assumption) | exact zpc_3 (by assumption) | exact zpc_4 (by assumption) | exact zpm_0 | exact zpm_1 | exact zpm_2 | exact zpm_4 | exact zpm_7 | exact zif01 _ | exact zb01 | exact ⟨Nat.le_of_ble_eq_true rfl, Nat.le_of_ble_eq_true rfl⟩ | exact Or.inl rfl | exact Or.inr rfl | omega)) [zr_X9_haveCommon_3, zr_X9_haveCommon_5, zr_X9_haveCommon_6, zr_X9_haveCommon_9, zr_X9_haveCommon_12, zr_X9_haveCommon_13, zr_X9_haveCommon_14, zr_X9_haveCommon_16, zr_X9_haveCommon_19, zr_X9_haveCommon_20, zr_X9_haveCommon_21, zr_X9_haveCommon_24, zr_X9_haveCommon_25, zr_X9_haveCommon_26, zr_X9_haveCommon_28, zr_X9_haveCommon_29, zr_X9_haveCommon_32, zr_X9_haveCommon_33, zr_X9_haveCommon_34, zr_X9_haveCommon_36, zr_X9_haveCommon_37, zr_X9_haveCommon_38, zr_X9_haveCommon_40, zr_X9_haveCommon_42, zr_X9_haveCommon_45, zr_X9_haveCommon_48, zr_X9_haveCommon_49, zr_X9_haveCommon_50, zr_X9_haveCommon_52, zr_X9_haveCommon_54, zr_X9_haveCommon_57, zr_X9_haveCommon_60, zr_X9_haveCommon_61, zb_True, zb_False, List.getElem?_cons_zero, List.getElem?_cons_succ, eq_self, and_true, true_and, zpush_some, zgo_some, zret_some, zret_void, zcok, zk1_int, zk1_ref, zk1_no, zc1_int, zc1_ref, zcat_int, zcat_long, zcat_ref, List.map_cons, List.map_nil, List.sum_cons, List.sum_nil, Nat.reduceAdd, Nat.reduceLeDiff, and_self, decide_eq_true_eq, Nat.add_zero, Nat.zero_add, Nat.zero_le, Nat.le_refl, zgm_0, zgm_1, zgm_2, zgm_3, zgm_4, zgm_5, zgm_6, zgm_7, zgm_8, zgm_9, zpm_0, zpm_1, zpm_2, zpm_4, zpm_7, zrm, hs1, h1, eo, zald_l0, zald_l1, eX, eY, eB]
  obtain ⟨σ', e, hL⟩ := loop p 0 σ none none (by omega) zL3_refl (fun q g => absurd g (by omega))
  rw [nI_0] at e
  refine ⟨σ', ?_, hL⟩
  simp only [m_X9_haveCommon, eq_self, and_true, true_and, zmeth, zargsok, zargs, List.all_cons, List.all_nil, Bool.and_self, List.length_cons, List.length_nil, List.replicate, List.append_nil, List.cons_append, List.nil_append, Nat.reduceAdd, Nat.reduceSub, Nat.reduceLeDiff, and_self, if_true, zfin_int, zfin_long, zfin_void, zfin_r4, zfin_r13, zfin_r16, zfin_thr, Nat.zero_add]
  simp (disch := (first | assumption | exact zcok0 rfl (Nat.le_of_ble_eq_true rfl) | exact zcok0 (zrec_fig (by assumption)) (Nat.le_of_ble_eq_true rfl) | exact zcok0 (zrec_cl (by assumption)) (Nat.le_of_ble_eq_true rfl) | exact ⟨Nat.le_of_ble_eq_true rfl, Nat.zero_le _, Nat.zero_le _⟩ | exact zc1_int | exact zc1_ref | exact zpok_fig (by assumption) rfl (fun h => Bool.noConfusion h) | exact zpok_fig (by assumption) rfl (fun _ => Or.inl rfl) | exact zpok_fig (by assumption) rfl (fun _ => Or.inr rfl) | exact zpok_fig (by assumption) rfl (fun _ => (by assumption)) | exact zps_3_0 | exact zps_5_2 | exact zps_6_2 | exact zps_7_2 | exact zps_8_1 | exact zpc_0 (by assumption) | exact zpc_1 (by assumption) | exact zpc_2 (by assumption) | exact zpc_3 (by assumption) | exact zpc_4 (by assumption) | exact zpm_0 | exact zpm_1 | exact zpm_2 | exact zpm_4 | exact zpm_7 | exact zif01 _ | exact zb01 | exact ⟨Nat.le_of_ble_eq_true rfl, Nat.le_of_ble_eq_true rfl⟩ | exact Or.inl rfl | exact Or.inr rfl | omega)) only [zr_X9_haveCommon_0, zr_X9_haveCommon_1, zb_True, zb_False, List.getElem?_cons_zero, List.getElem?_cons_succ, eq_self, and_true, true_and, zpush_some, zgo_some, zret_some, zret_void, zcok, zk1_int, zk1_ref, zk1_no, zc1_int, zc1_ref, zcat_int, zcat_long, zcat_ref, List.map_cons, List.map_nil, List.sum_cons, List.sum_nil, Nat.reduceAdd, Nat.reduceLeDiff, and_self, decide_eq_true_eq, Nat.add_zero, Nat.zero_add, Nat.zero_le, Nat.le_refl]
  rw [e]
  exact zfin_int
