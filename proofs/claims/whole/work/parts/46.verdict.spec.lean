/-! ===== the reference: verdict ===== -/
def zcf (σ : zMem) (ic j : Nat) : Int32 := σ 2 0 (5 * ic + j)
theorem zald_c {n : Nat} {s : zAS} (h : n < 100) : zald zEM 2 0 (nI n) s = some (.inl (.int (s.1 2 0 n))) := by
  have e := zald_row (E := zEM) (k := 2) (i := 0) (n := 100) (j := nI n) (s := s) (by decide) (by decide) rfl (nI_pos (by omega)) (by rw [nI_clamp (by omega)]; exact h)
  rw [nI_clamp (by omega)] at e
  exact e
def zdgt (n pl : Int32) : Int32 := n / pl - n / pl / 10 * 10
def zvL (ic : Nat) (w needs pl : Int32) (k : Nat) : zLs := [some (Sum.inr (0, 0)), some (Sum.inl (Value.int (nI ic))), some (Sum.inl (Value.int (nI (5 * ic)))), some (Sum.inl (Value.int w)), some (Sum.inl (Value.int needs)), some (Sum.inl (Value.int pl)), some (Sum.inl (Value.int (nI k)))]
theorem zvd_step {ic k : Nat} {w needs pl : Int32} {σ : zMem} {τ : zTmp} (hic : ic < 20) (h1 : 1 ≤ k) (h4 : k ≤ 4) (hpl : ¬ pl = 0) :
    (zdgt needs pl = 0 → zev zk_X9_verdict (38, zvL ic w needs pl k, [], (σ, τ), (0, 0)) = zev zk_X9_verdict (38, zvL ic w needs (pl / 10) (k + 1), [], (σ, τ), (0, 0))) ∧
    (∀ q, ¬ zdgt needs pl = 0 → zcf σ ic k = nI q → q < 40 → ¬ zg σ q 7 = 1 → zev zk_X9_verdict (38, zvL ic w needs pl k, [], (σ, τ), (0, 0)) = zev zk_X9_verdict (38, zvL ic w needs (pl / 10) (k + 1), [], (σ, τ), (0, 0))) ∧
    (∀ q, ¬ zdgt needs pl = 0 → zcf σ ic k = nI q → q < 40 → zg σ q 7 = 1 → zev zk_X9_verdict (38, zvL ic w needs pl k, [], (σ, τ), (0, 0)) = some (.inl (some (zI (-1))), (σ, τ))) := by
  have g5 : ¬ (5 : Int32) ≤ nI k := nI_ge (a := k) (b := 5) (by omega) (by omega)
  have t10 : ¬ (10 : Int32) = 0 := by decide
  have n10 : ¬ (1 : Int32) = 0 := by decide
  have et : zald zEM 2 0 (nI (5 * ic + k)) (σ, τ) = some (.inl (.int (zcf σ ic k))) := zald_c (by omega)
  refine ⟨fun hd => ?_, fun q hd hq hq40 hl => ?_, fun q hd hq hq40 hl => ?_⟩
  · generalize hr : zev zk_X9_verdict (38, zvL ic w needs (pl / 10) (k + 1), [], (σ, τ), (0, 0)) = r
    unfold zvL at hr ⊢
    unfold zdgt at hd
    rw [← nI_1] at hr
    simp (disch := (first | assumption | exact zcok0 rfl (Nat.le_of_ble_eq_true rfl) | exact zcok0 (zrec_fig (by assumption)) (Nat.le_of_ble_eq_true rfl) | exact zcok0 (zrec_cl (by assumption)) (Nat.le_of_ble_eq_true rfl) | exact ⟨Nat.le_of_ble_eq_true rfl, Nat.zero_le _, Nat.zero_le _⟩ | exact zc1_int | exact zc1_ref | exact zpok_fig (by assumption) rfl (fun h => Bool.noConfusion h) | exact zpok_fig (by assumption) rfl (fun _ => Or.inl rfl) | exact zpok_fig (by assumption) rfl (fun _ => Or.inr rfl) | exact zpok_fig (by assumption) rfl (fun _ => (by assumption)) | exact zps_3_0 | exact zps_5_2 | exact zps_6_2 | exact zps_7_2 | exact zps_8_1 | exact zpc_0 (by assumption) | exact zpc_1 (by assumption) | exact zpc_2 (by assumption) | exact zpc_3 (by assumption) | exact zpc_4 (by assumption) | exact zpm_0 | exact zpm_1 | exact zpm_2 | exact zpm_4 | exact zpm_7 | exact zif01 _ | exact zb01 | exact ⟨Nat.le_of_ble_eq_true rfl, Nat.le_of_ble_eq_true rfl⟩ | exact Or.inl rfl | exact Or.inr rfl | omega)) only [zr_X9_verdict_38, zr_X9_verdict_40, zr_X9_verdict_41, zb_True, zb_False, List.getElem?_cons_zero, List.getElem?_cons_succ, eq_self, and_true, true_and, zpush_some, zgo_some, zret_some, zret_void, zcok, zk1_int, zk1_ref, zk1_no, zc1_int, zc1_ref, zcat_int, zcat_long, zcat_ref, List.map_cons, List.map_nil, List.sum_cons, List.sum_nil, Nat.reduceAdd, Nat.reduceLeDiff, and_self, decide_eq_true_eq, Nat.add_zero, Nat.zero_add, Nat.zero_le, Nat.le_refl, g5, decide_false, Bool.false_eq_true, if_false]
    simp (disch := (first | assumption | exact zcok0 rfl (Nat.le_of_ble_eq_true rfl) | exact zcok0 (zrec_fig (by assumption)) (Nat.le_of_ble_eq_true rfl) | exact zcok0 (zrec_cl (by assumption)) (Nat.le_of_ble_eq_true rfl) | exact ⟨Nat.le_of_ble_eq_true rfl, Nat.zero_le _, Nat.zero_le _⟩ | exact zc1_int | exact zc1_ref | exact zpok_fig (by assumption) rfl (fun h => Bool.noConfusion h) | exact zpok_fig (by assumption) rfl (fun _ => Or.inl rfl) | exact zpok_fig (by assumption) rfl (fun _ => Or.inr rfl) | exact zpok_fig (by assumption) rfl (fun _ => (by assumption)) | exact zps_3_0 | exact zps_5_2 | exact zps_6_2 | exact zps_7_2 | exact zps_8_1 | exact zpc_0 (by assumption) | exact zpc_1 (by assumption) | exact zpc_2 (by assumption) | exact zpc_3 (by assumption) | exact zpc_4 (by assumption) | exact zpm_0 | exact zpm_1 | exact zpm_2 | exact zpm_4 | exact zpm_7 | exact zif01 _ | exact zb01 | exact ⟨Nat.le_of_ble_eq_true rfl, Nat.le_of_ble_eq_true rfl⟩ | exact Or.inl rfl | exact Or.inr rfl | omega)) only [zr_X9_verdict_44, zr_X9_verdict_46, zr_X9_verdict_48, zr_X9_verdict_49, zr_X9_verdict_51, zr_X9_verdict_52, zr_X9_verdict_55, zr_X9_verdict_56, zr_X9_verdict_57, zr_X9_verdict_60, zr_X9_verdict_61, zr_X9_verdict_63, zr_X9_verdict_64, zr_X9_verdict_65, zr_X9_verdict_68, zr_X9_verdict_71, zr_X9_verdict_72, zr_X9_verdict_73, zr_X9_verdict_75, zr_X9_verdict_77, zr_X9_verdict_78, zr_X9_verdict_80, zr_X9_verdict_83, zb_True, zb_False, List.getElem?_cons_zero, List.getElem?_cons_succ, eq_self, and_true, true_and, zpush_some, zgo_some, zret_some, zret_void, zcok, zk1_int, zk1_ref, zk1_no, zc1_int, zc1_ref, zcat_int, zcat_long, zcat_ref, List.map_cons, List.map_nil, List.sum_cons, List.sum_nil, Nat.reduceAdd, Nat.reduceLeDiff, and_self, decide_eq_true_eq, Nat.add_zero, Nat.zero_add, Nat.zero_le, Nat.le_refl, hpl, t10, hd, decide_true, if_false, if_true]
    exact hr
  · have el := rp_lacks (σ := σ) (τ := τ) hq40
    rw [zb_f hl] at el
    generalize hr : zev zk_X9_verdict (38, zvL ic w needs (pl / 10) (k + 1), [], (σ, τ), (0, 0)) = r
    unfold zvL at hr ⊢
    unfold zdgt at hd
    rw [← nI_1] at hr
    simp (disch := (first | assumption | exact zcok0 rfl (Nat.le_of_ble_eq_true rfl) | exact zcok0 (zrec_fig (by assumption)) (Nat.le_of_ble_eq_true rfl) | exact zcok0 (zrec_cl (by assumption)) (Nat.le_of_ble_eq_true rfl) | exact ⟨Nat.le_of_ble_eq_true rfl, Nat.zero_le _, Nat.zero_le _⟩ | exact zc1_int | exact zc1_ref | exact zpok_fig (by assumption) rfl (fun h => Bool.noConfusion h) | exact zpok_fig (by assumption) rfl (fun _ => Or.inl rfl) | exact zpok_fig (by assumption) rfl (fun _ => Or.inr rfl) | exact zpok_fig (by assumption) rfl (fun _ => (by assumption)) | exact zps_3_0 | exact zps_5_2 | exact zps_6_2 | exact zps_7_2 | exact zps_8_1 | exact zpc_0 (by assumption) | exact zpc_1 (by assumption) | exact zpc_2 (by assumption) | exact zpc_3 (by assumption) | exact zpc_4 (by assumption) | exact zpm_0 | exact zpm_1 | exact zpm_2 | exact zpm_4 | exact zpm_7 | exact zif01 _ | exact zb01 | exact ⟨Nat.le_of_ble_eq_true rfl, Nat.le_of_ble_eq_true rfl⟩ | exact Or.inl rfl | exact Or.inr rfl | omega)) only [zr_X9_verdict_38, zr_X9_verdict_40, zr_X9_verdict_41, zb_True, zb_False, List.getElem?_cons_zero, List.getElem?_cons_succ, eq_self, and_true, true_and, zpush_some, zgo_some, zret_some, zret_void, zcok, zk1_int, zk1_ref, zk1_no, zc1_int, zc1_ref, zcat_int, zcat_long, zcat_ref, List.map_cons, List.map_nil, List.sum_cons, List.sum_nil, Nat.reduceAdd, Nat.reduceLeDiff, and_self, decide_eq_true_eq, Nat.add_zero, Nat.zero_add, Nat.zero_le, Nat.le_refl, g5, decide_false, Bool.false_eq_true, if_false]
    simp (disch := (first | assumption | exact zcok0 rfl (Nat.le_of_ble_eq_true rfl) | exact zcok0 (zrec_fig (by assumption)) (Nat.le_of_ble_eq_true rfl) | exact zcok0 (zrec_cl (by assumption)) (Nat.le_of_ble_eq_true rfl) | exact ⟨Nat.le_of_ble_eq_true rfl, Nat.zero_le _, Nat.zero_le _⟩ | exact zc1_int | exact zc1_ref | exact zpok_fig (by assumption) rfl (fun h => Bool.noConfusion h) | exact zpok_fig (by assumption) rfl (fun _ => Or.inl rfl) | exact zpok_fig (by assumption) rfl (fun _ => Or.inr rfl) | exact zpok_fig (by assumption) rfl (fun _ => (by assumption)) | exact zps_3_0 | exact zps_5_2 | exact zps_6_2 | exact zps_7_2 | exact zps_8_1 | exact zpc_0 (by assumption) | exact zpc_1 (by assumption) | exact zpc_2 (by assumption) | exact zpc_3 (by assumption) | exact zpc_4 (by assumption) | exact zpm_0 | exact zpm_1 | exact zpm_2 | exact zpm_4 | exact zpm_7 | exact zif01 _ | exact zb01 | exact ⟨Nat.le_of_ble_eq_true rfl, Nat.le_of_ble_eq_true rfl⟩ | exact Or.inl rfl | exact Or.inr rfl | omega)) only [zr_X9_verdict_44, zr_X9_verdict_46, zr_X9_verdict_48, zr_X9_verdict_49, zr_X9_verdict_51, zr_X9_verdict_52, zr_X9_verdict_55, zr_X9_verdict_56, zr_X9_verdict_57, zr_X9_verdict_60, zr_X9_verdict_61, zr_X9_verdict_63, zr_X9_verdict_64, zr_X9_verdict_65, zr_X9_verdict_68, zr_X9_verdict_71, zr_X9_verdict_72, zr_X9_verdict_73, zr_X9_verdict_75, zr_X9_verdict_77, zr_X9_verdict_78, zr_X9_verdict_80, zr_X9_verdict_83, zb_True, zb_False, List.getElem?_cons_zero, List.getElem?_cons_succ, eq_self, and_true, true_and, zpush_some, zgo_some, zret_some, zret_void, zcok, zk1_int, zk1_ref, zk1_no, zc1_int, zc1_ref, zcat_int, zcat_long, zcat_ref, List.map_cons, List.map_nil, List.sum_cons, List.sum_nil, Nat.reduceAdd, Nat.reduceLeDiff, and_self, decide_eq_true_eq, Nat.add_zero, Nat.zero_add, Nat.zero_le, Nat.le_refl, zgm_0, zgm_1, zgm_2, zgm_3, zgm_4, zgm_5, zgm_6, zgm_7, zgm_8, zgm_9, zpm_0, zpm_1, zpm_2, zpm_4, zpm_7, zrm, hpl, t10, hd, nI_plus, et, hq, el, decide_true, decide_false, Bool.false_eq_true, if_false, if_true]
    exact hr
  · have el := rp_lacks (σ := σ) (τ := τ) hq40
    rw [zb_t hl] at el
    unfold zvL
    unfold zdgt at hd
    simp (disch := (first | assumption | exact zcok0 rfl (Nat.le_of_ble_eq_true rfl) | exact zcok0 (zrec_fig (by assumption)) (Nat.le_of_ble_eq_true rfl) | exact zcok0 (zrec_cl (by assumption)) (Nat.le_of_ble_eq_true rfl) | exact ⟨Nat.le_of_ble_eq_true rfl, Nat.zero_le _, Nat.zero_le _⟩ | exact zc1_int | exact zc1_ref | exact zpok_fig (by assumption) rfl (fun h => Bool.noConfusion h) | exact zpok_fig (by assumption) rfl (fun _ => Or.inl rfl) | exact zpok_fig (by assumption) rfl (fun _ => Or.inr rfl) | exact zpok_fig (by assumption) rfl (fun _ => (by assumption)) | exact zps_3_0 | exact zps_5_2 | exact zps_6_2 | exact zps_7_2 | exact zps_8_1 | exact zpc_0 (by assumption) | exact zpc_1 (by assumption) | exact zpc_2 (by assumption) | exact zpc_3 (by assumption) | exact zpc_4 (by assumption) | exact zpm_0 | exact zpm_1 | exact zpm_2 | exact zpm_4 | exact zpm_7 | exact zif01 _ | exact zb01 | exact ⟨Nat.le_of_ble_eq_true rfl, Nat.le_of_ble_eq_true rfl⟩ | exact Or.inl rfl | exact Or.inr rfl | omega)) only [zr_X9_verdict_38, zr_X9_verdict_40, zr_X9_verdict_41, zb_True, zb_False, List.getElem?_cons_zero, List.getElem?_cons_succ, eq_self, and_true, true_and, zpush_some, zgo_some, zret_some, zret_void, zcok, zk1_int, zk1_ref, zk1_no, zc1_int, zc1_ref, zcat_int, zcat_long, zcat_ref, List.map_cons, List.map_nil, List.sum_cons, List.sum_nil, Nat.reduceAdd, Nat.reduceLeDiff, and_self, decide_eq_true_eq, Nat.add_zero, Nat.zero_add, Nat.zero_le, Nat.le_refl, g5, decide_false, Bool.false_eq_true, if_false]
    simp (disch := (first | assumption | exact zcok0 rfl (Nat.le_of_ble_eq_true rfl) | exact zcok0 (zrec_fig (by assumption)) (Nat.le_of_ble_eq_true rfl) | exact zcok0 (zrec_cl (by assumption)) (Nat.le_of_ble_eq_true rfl) | exact ⟨Nat.le_of_ble_eq_true rfl, Nat.zero_le _, Nat.zero_le _⟩ | exact zc1_int | exact zc1_ref | exact zpok_fig (by assumption) rfl (fun h => Bool.noConfusion h) | exact zpok_fig (by assumption) rfl (fun _ => Or.inl rfl) | exact zpok_fig (by assumption) rfl (fun _ => Or.inr rfl) | exact zpok_fig (by assumption) rfl (fun _ => (by assumption)) | exact zps_3_0 | exact zps_5_2 | exact zps_6_2 | exact zps_7_2 | exact zps_8_1 | exact zpc_0 (by assumption) | exact zpc_1 (by assumption) | exact zpc_2 (by assumption) | exact zpc_3 (by assumption) | exact zpc_4 (by assumption) | exact zpm_0 | exact zpm_1 | exact zpm_2 | exact zpm_4 | exact zpm_7 | exact zif01 _ | exact zb01 | exact ⟨Nat.le_of_ble_eq_true rfl, Nat.le_of_ble_eq_true rfl⟩ | exact Or.inl rfl | exact Or.inr rfl | omega)) only [zr_X9_verdict_44, zr_X9_verdict_46, zr_X9_verdict_48, zr_X9_verdict_49, zr_X9_verdict_51, zr_X9_verdict_52, zr_X9_verdict_55, zr_X9_verdict_56, zr_X9_verdict_57, zr_X9_verdict_60, zr_X9_verdict_61, zr_X9_verdict_63, zr_X9_verdict_64, zr_X9_verdict_65, zr_X9_verdict_68, zr_X9_verdict_71, zr_X9_verdict_72, zr_X9_verdict_73, zr_X9_verdict_75, zr_X9_verdict_77, zr_X9_verdict_78, zr_X9_verdict_80, zr_X9_verdict_83, zb_True, zb_False, List.getElem?_cons_zero, List.getElem?_cons_succ, eq_self, and_true, true_and, zpush_some, zgo_some, zret_some, zret_void, zcok, zk1_int, zk1_ref, zk1_no, zc1_int, zc1_ref, zcat_int, zcat_long, zcat_ref, List.map_cons, List.map_nil, List.sum_cons, List.sum_nil, Nat.reduceAdd, Nat.reduceLeDiff, and_self, decide_eq_true_eq, Nat.add_zero, Nat.zero_add, Nat.zero_le, Nat.le_refl, zgm_0, zgm_1, zgm_2, zgm_3, zgm_4, zgm_5, zgm_6, zgm_7, zgm_8, zgm_9, zpm_0, zpm_1, zpm_2, zpm_4, zpm_7, zrm, hpl, t10, n10, hd, nI_plus, et, hq, el, decide_true, decide_false, Bool.false_eq_true, if_false, if_true]
def znd (w : Nat) : Int32 := if w = 6 then 1100 else (zTab 3).getD w 0
/-- how many objects a claim has -/
def zna (w : Nat) : Nat := if w = 5 then 4 else if w = 2 ∨ w = 7 then 3 else 2
theorem zvd_head {ic w : Nat} {σ : zMem} {τ : zTmp} (hic : ic < 20) (hw : w < 8) (hc : zcf σ ic 0 = nI w) : zev zk_X9_verdict (0, [some (Sum.inr (0, 0)), some (Sum.inl (Value.int (nI ic))), none, none, none, none, none], [], (σ, τ), (0, 0)) = zev zk_X9_verdict (38, zvL ic (nI w) (znd w) 1000 1, [], (σ, τ), (0, 0)) := by
  have et : zald zEM 2 0 (nI (5 * ic)) (σ, τ) = some (.inl (.int (nI w))) := by rw [← hc]; exact zald_c (n := 5 * ic) (by omega)
  have em : 5 * nI ic = nI (5 * ic) := by
    have := nI_lin (c := 5) (j := ic) (w := 0)
    rw [nI_0, Int32.add_zero] at this
    exact this
  have e1 : nI 1 = 1 := rfl
  unfold zvL
  by_cases h6 : w = 6
  · subst h6
    have e6 : nI 6 = 6 := rfl
    have en : znd 6 = 1100 := rfl
    rw [e6] at et
    simp (disch := (first | assumption | exact zcok0 rfl (Nat.le_of_ble_eq_true rfl) | exact zcok0 (zrec_fig (by assumption)) (Nat.le_of_ble_eq_true rfl) | exact zcok0 (zrec_cl (by assumption)) (Nat.le_of_ble_eq_true rfl) | exact ⟨Nat.le_of_ble_eq_true rfl, Nat.zero_le _, Nat.zero_le _⟩ | exact zc1_int | exact zc1_ref | exact zpok_fig (by assumption) rfl (fun h => Bool.noConfusion h) | exact zpok_fig (by assumption) rfl (fun _ => Or.inl rfl) | exact zpok_fig (by assumption) rfl (fun _ => Or.inr rfl) | exact zpok_fig (by assumption) rfl (fun _ => (by assumption)) | exact zps_3_0 | exact zps_5_2 | exact zps_6_2 | exact zps_7_2 | exact zps_8_1 | exact zpc_0 (by assumption) | exact zpc_1 (by assumption) | exact zpc_2 (by assumption) | exact zpc_3 (by assumption) | exact zpc_4 (by assumption) | exact zpm_0 | exact zpm_1 | exact zpm_2 | exact zpm_4 | exact zpm_7 | exact zif01 _ | exact zb01 | exact ⟨Nat.le_of_ble_eq_true rfl, Nat.le_of_ble_eq_true rfl⟩ | exact Or.inl rfl | exact Or.inr rfl | omega)) only [zr_X9_verdict_0, zr_X9_verdict_1, zr_X9_verdict_2, zr_X9_verdict_3, zr_X9_verdict_4, zr_X9_verdict_5, zr_X9_verdict_8, zr_X9_verdict_9, zr_X9_verdict_10, zr_X9_verdict_11, zr_X9_verdict_12, zr_X9_verdict_14, zr_X9_verdict_17, zr_X9_verdict_20, zr_X9_verdict_23, zr_X9_verdict_26, zr_X9_verdict_27, zr_X9_verdict_28, zr_X9_verdict_30, zr_X9_verdict_33, zr_X9_verdict_35, zr_X9_verdict_36, zb_True, zb_False, List.getElem?_cons_zero, List.getElem?_cons_succ, eq_self, and_true, true_and, zpush_some, zgo_some, zret_some, zret_void, zcok, zk1_int, zk1_ref, zk1_no, zc1_int, zc1_ref, zcat_int, zcat_long, zcat_ref, List.map_cons, List.map_nil, List.sum_cons, List.sum_nil, Nat.reduceAdd, Nat.reduceLeDiff, and_self, decide_eq_true_eq, Nat.add_zero, Nat.zero_add, Nat.zero_le, Nat.le_refl, zgm_0, zgm_1, zgm_2, zgm_3, zgm_4, zgm_5, zgm_6, zgm_7, zgm_8, zgm_9, zpm_0, zpm_1, zpm_2, zpm_4, zpm_7, zrm, em, et, en, e6, e1, not_true_eq_false, decide_false, Bool.false_eq_true, if_false]
  · have g6 : ¬ nI w = 6 := fun h => h6 (nI_inj' (by omega) (by decide) h)
    have en : zald zEM 98 3 (nI w) (σ, τ) = some (.inl (.int (znd w))) := by
      have e := zald_tab (E := zEM) (i := 3) (j := nI w) (s := (σ, τ)) (by decide) (nI_pos (by omega)) (by rw [nI_clamp (by omega)]; exact hw)
      rw [nI_clamp (by omega)] at e
      unfold znd
      rw [if_neg h6]
      exact e
    simp (disch := (first | assumption | exact zcok0 rfl (Nat.le_of_ble_eq_true rfl) | exact zcok0 (zrec_fig (by assumption)) (Nat.le_of_ble_eq_true rfl) | exact zcok0 (zrec_cl (by assumption)) (Nat.le_of_ble_eq_true rfl) | exact ⟨Nat.le_of_ble_eq_true rfl, Nat.zero_le _, Nat.zero_le _⟩ | exact zc1_int | exact zc1_ref | exact zpok_fig (by assumption) rfl (fun h => Bool.noConfusion h) | exact zpok_fig (by assumption) rfl (fun _ => Or.inl rfl) | exact zpok_fig (by assumption) rfl (fun _ => Or.inr rfl) | exact zpok_fig (by assumption) rfl (fun _ => (by assumption)) | exact zps_3_0 | exact zps_5_2 | exact zps_6_2 | exact zps_7_2 | exact zps_8_1 | exact zpc_0 (by assumption) | exact zpc_1 (by assumption) | exact zpc_2 (by assumption) | exact zpc_3 (by assumption) | exact zpc_4 (by assumption) | exact zpm_0 | exact zpm_1 | exact zpm_2 | exact zpm_4 | exact zpm_7 | exact zif01 _ | exact zb01 | exact ⟨Nat.le_of_ble_eq_true rfl, Nat.le_of_ble_eq_true rfl⟩ | exact Or.inl rfl | exact Or.inr rfl | omega)) only [zr_X9_verdict_0, zr_X9_verdict_1, zr_X9_verdict_2, zr_X9_verdict_3, zr_X9_verdict_4, zr_X9_verdict_5, zr_X9_verdict_8, zr_X9_verdict_9, zr_X9_verdict_10, zr_X9_verdict_11, zr_X9_verdict_12, zr_X9_verdict_14, zr_X9_verdict_17, zr_X9_verdict_20, zr_X9_verdict_23, zr_X9_verdict_26, zr_X9_verdict_27, zr_X9_verdict_28, zr_X9_verdict_30, zr_X9_verdict_33, zr_X9_verdict_35, zr_X9_verdict_36, zb_True, zb_False, List.getElem?_cons_zero, List.getElem?_cons_succ, eq_self, and_true, true_and, zpush_some, zgo_some, zret_some, zret_void, zcok, zk1_int, zk1_ref, zk1_no, zc1_int, zc1_ref, zcat_int, zcat_long, zcat_ref, List.map_cons, List.map_nil, List.sum_cons, List.sum_nil, Nat.reduceAdd, Nat.reduceLeDiff, and_self, decide_eq_true_eq, Nat.add_zero, Nat.zero_add, Nat.zero_le, Nat.le_refl, zgm_0, zgm_1, zgm_2, zgm_3, zgm_4, zgm_5, zgm_6, zgm_7, zgm_8, zgm_9, zpm_0, zpm_1, zpm_2, zpm_4, zpm_7, zrm, em, et, en, e1, g6, not_false_eq_true, decide_true, if_true]
theorem zvd_dgt : ∀ w : Fin 8, ∀ k : Fin 4, (zdgt (znd w.1) (if k.1 = 0 then 1000 else if k.1 = 1 then 100 else if k.1 = 2 then 10 else 1) = 0 ↔ zna w.1 ≤ k.1) := by decide +kernel
def zpk10 (k : Nat) : Int32 := if k = 0 then 1000 else if k = 1 then 100 else if k = 2 then 10 else 1
theorem zvd_loop {ic w : Nat} {σ : zMem} {τ : zTmp} (hic : ic < 20) (hw : w < 8) (hob : ∀ k, 1 ≤ k → k ≤ zna w → ∃ q, q < 40 ∧ zcf σ ic k = nI q) :
    ((∃ k q, 1 ≤ k ∧ k ≤ zna w ∧ zcf σ ic k = nI q ∧ q < 40 ∧ zg σ q 7 = 1) → zev zk_X9_verdict (38, zvL ic (nI w) (znd w) 1000 1, [], (σ, τ), (0, 0)) = some (.inl (some (zI (-1))), (σ, τ))) ∧
    (¬ (∃ k q, 1 ≤ k ∧ k ≤ zna w ∧ zcf σ ic k = nI q ∧ q < 40 ∧ zg σ q 7 = 1) → zev zk_X9_verdict (38, zvL ic (nI w) (znd w) 1000 1, [], (σ, τ), (0, 0)) = zev zk_X9_verdict (38, zvL ic (nI w) (znd w) 0 5, [], (σ, τ), (0, 0))) := by
  have hpl : ∀ k, k < 4 → ¬ zpk10 k = 0 := by
    intro k hk
    have : k = 0 ∨ k = 1 ∨ k = 2 ∨ k = 3 := by omega
    rcases this with rfl | rfl | rfl | rfl <;> decide
  have hnx : ∀ k, k < 3 → zpk10 k / 10 = zpk10 (k + 1) := by
    intro k hk
    have : k = 0 ∨ k = 1 ∨ k = 2 := by omega
    rcases this with rfl | rfl | rfl <;> decide
  have hdg : ∀ k, k < 4 → (zdgt (znd w) (zpk10 k) = 0 ↔ zna w ≤ k) := fun k hk => zvd_dgt ⟨w, hw⟩ ⟨k, hk⟩
  have main : ∀ d k, k + d = 4 → ((∃ j q, k + 1 ≤ j ∧ j ≤ zna w ∧ zcf σ ic j = nI q ∧ q < 40 ∧ zg σ q 7 = 1) → zev zk_X9_verdict (38, zvL ic (nI w) (znd w) (if k = 4 then 0 else zpk10 k) (k + 1), [], (σ, τ), (0, 0)) = some (.inl (some (zI (-1))), (σ, τ))) ∧
    (¬ (∃ j q, k + 1 ≤ j ∧ j ≤ zna w ∧ zcf σ ic j = nI q ∧ q < 40 ∧ zg σ q 7 = 1) → zev zk_X9_verdict (38, zvL ic (nI w) (znd w) (if k = 4 then 0 else zpk10 k) (k + 1), [], (σ, τ), (0, 0)) = zev zk_X9_verdict (38, zvL ic (nI w) (znd w) 0 5, [], (σ, τ), (0, 0))) := by
    intro d
    induction d with
    | zero =>
      intro k hk
      have hk : k = 4 := by omega
      subst hk
      have n4 : zna w ≤ 4 := by unfold zna; split <;> (try split) <;> omega
      refine ⟨fun ⟨j, q, h1, h2, _⟩ => absurd h1 (by omega), fun _ => ?_⟩
      rw [if_pos rfl]
    | succ d ih =>
      intro k hk
      have hk4 : k < 4 := by omega
      have s := zvd_step (ic := ic) (k := k + 1) (w := nI w) (needs := znd w) (pl := zpk10 k) (σ := σ) (τ := τ) hic (by omega) (by omega) (hpl k hk4)
      have hnext : zpk10 k / 10 = if k + 1 = 4 then 0 else zpk10 (k + 1) := by
        by_cases h : k + 1 = 4
        · have : k = 3 := by omega
          subst this
          rw [if_pos rfl]
          decide
        · rw [if_neg h]
          exact hnx k (by omega)
      rw [hnext] at s
      rw [if_neg (show ¬ k = 4 by omega)]
      have i := ih (k + 1) (by omega)
      by_cases hd : zna w ≤ k
      · have hd0 := (hdg k hk4).mpr hd
        rw [s.1 hd0]
        exact ⟨fun ⟨j, q, h1, h2, _⟩ => absurd h1 (by omega), fun _ => i.2 (fun ⟨j, q, h1, h2, _⟩ => absurd h1 (by omega))⟩
      · have hd0 : ¬ zdgt (znd w) (zpk10 k) = 0 := fun h => hd ((hdg k hk4).mp h)
        obtain ⟨q, hq, hqc⟩ := hob (k + 1) (by omega) (by omega)
        by_cases hl : zg σ q 7 = 1
        · exact ⟨fun _ => s.2.2 q hd0 hqc hq hl, fun h => absurd ⟨k + 1, q, Nat.le_refl _, by omega, hqc, hq, hl⟩ h⟩
        · rw [s.2.1 q hd0 hqc hq hl]
          refine ⟨fun ⟨j, q', h1, h2, h3, h4, h5⟩ => i.1 ⟨j, q', ?_, h2, h3, h4, h5⟩, fun h => i.2 (fun ⟨j, q', h1, h2, h3, h4, h5⟩ => h ⟨j, q', by omega, h2, h3, h4, h5⟩)⟩
          rcases Nat.eq_or_lt_of_le h1 with g | g
          · rw [← g] at h3
            have : q = q' := nI_inj' (by omega) (by omega) (hqc.symm.trans h3)
            rw [← this] at h5
            exact absurd h5 hl
          · exact g
  have m := main 4 0 rfl
  exact m
