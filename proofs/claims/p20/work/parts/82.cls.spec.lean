/-! ===== the class's calls, in numbers ===== -/
def ylk (v : Option yT) : Int32 := match v with
  | none => 1
  | some _ => 0
theorem zlk {σ : zMem} {j : Nat} {v : Option yT} (h : zcv σ j v) : (if σ 4 j 7 = 0 then 0 else 1 : Int32) = ylk v := by
  cases v with
  | none =>
    have h : σ 4 j 7 = 1 := h
    rw [h]; rfl
  | some A => rw [h.1]; rfl
section KC
variable {p m mc : Nat} {P : yP} {t : yTo} {cl : yCl} {σ : zMem} {τ : zTmp}
theorem k_has {j : Nat} (hS : zSt p m mc P t cl) (hC : zSC p m mc P t cl σ) (hj : j < m) : zhasR σ (nI j) ∧ zat σ 5 (nI j) = j := ⟨(hasR_iff hC.1.2.1 hS.2.1).mpr ⟨j, hj, rfl⟩, zat_in hC.1.2.1 (by have := hS.2.1; omega) hj⟩
theorem k_obj {j w : Nat} (hS : zSt p m mc P t cl) (hC : zSC p m mc P t cl σ) (hj : j < m) (hw : w ≤ 5) : m_X8_object [zO 0 0, zI (nI j), zI (nI w)] (σ, τ) = some (.inl (some (zI (zfeat σ 4 j (nI w)))), (σ, τ)) := by
  obtain ⟨h1, h2⟩ := k_has hS hC hj
  have e := sp_object_2 (τ := τ) h1 (nI_pos (n := w) (by omega)) ((nI_leI (b := 5) (by omega) (by decide)).mpr hw)
  rw [h2] at e
  exact e
theorem k_obj0 {j : Nat} (hS : zSt p m mc P t cl) (hC : zSC p m mc P t cl σ) (hj : j < m) : m_X8_object [zO 0 0, zI (nI j), zI 0] (σ, τ) = some (.inl (some (zI (zsort (nI (P.1 j))))), (σ, τ)) := by
  have e := k_obj (w := 0) (τ := τ) hS hC hj (by decide)
  rw [show zfeat σ 4 j (nI 0) = zsort (σ 4 j 1) from rfl, (hC.1.2.2.2.2 j hj).2.1] at e
  exact e
theorem k_obj1 {j : Nat} (hS : zSt p m mc P t cl) (hC : zSC p m mc P t cl σ) (hj : j < m) : m_X8_object [zO 0 0, zI (nI j), zI 1] (σ, τ) = some (.inl (some (zI (nI (P.1 j)))), (σ, τ)) := by
  have e := k_obj (w := 1) (τ := τ) hS hC hj (by decide)
  rw [show zfeat σ 4 j (nI 1) = σ 4 j 1 from rfl, (hC.1.2.2.2.2 j hj).2.1] at e
  exact e
theorem k_objp {j k : Nat} (hS : zSt p m mc P t cl) (hC : zSC p m mc P t cl σ) (hj : j < m) (hk : k < 3) : m_X8_object [zO 0 0, zI (nI j), zI (nI (2 + k))] (σ, τ) = some (.inl (some (zI (yq (P.2 j k)))), (σ, τ)) := by
  have e := k_obj (w := 2 + k) (τ := τ) hS hC hj (by omega)
  have h : zfeat σ 4 j (nI (2 + k)) = σ 4 j (2 + k) := by
    have : k = 0 ∨ k = 1 ∨ k = 2 := by omega
    rcases this with rfl | rfl | rfl <;> rfl
  rw [h, (hC.1.2.2.2.2 j hj).2.2.1 k hk] at e
  exact e
theorem k_obj5 {j : Nat} (hS : zSt p m mc P t cl) (hC : zSC p m mc P t cl σ) (hj : j < m) : m_X8_object [zO 0 0, zI (nI j), zI 5] (σ, τ) = some (.inl (some (zI (ylk (yval p P t j)))), (σ, τ)) := by
  have e := k_obj (w := 5) (τ := τ) hS hC hj (by decide)
  rw [show zfeat σ 4 j (nI 5) = if σ 4 j 7 = 0 then 0 else 1 from rfl, zlk (hC.2.1 j hj)] at e
  exact e
def yco (A : yT) (w : Nat) : Nat := if w = 0 then A.1 else if w = 1 then A.2.1 else A.2.2
theorem k_num {j w : Nat} {A : yT} (hS : zSt p m mc P t cl) (hC : zSC p m mc P t cl σ) (hj : j < m) (hw : w < 3) (hA : yval p P t j = some A) : m_X8_number [zO 0 0, zI (nI j), zI (nI w)] (σ, τ) = some (.inl (some (zI (nI (yco A w)))), (σ, τ)) := by
  obtain ⟨h1, h2⟩ := k_has hS hC hj
  have hv := hC.2.1 j hj
  rw [hA] at hv
  obtain ⟨v7, v8, v9, v10⟩ := hv
  have e := sp_number_3 (τ := τ) h1 (nI_pos (n := w) (by omega)) ((nI_leI (b := 2) (by omega) (by decide)).mpr (by omega)) (by rw [h2]; exact v7)
  rw [h2] at e
  have : w = 0 ∨ w = 1 ∨ w = 2 := by omega
  rcases this with rfl | rfl | rfl
  · rw [if_pos (by decide), v8] at e; exact e
  · rw [if_neg (by decide), if_pos (by decide), v9] at e; exact e
  · rw [if_neg (by decide), if_neg (by decide), v10] at e; exact e
def yplc (p : Nat) (s : Int32) (v : Option yT) : Int32 := match v with
  | none => 0
  | some _ => if s = 0 then 1 else if s = 1 then nI p else nI p + 1
theorem k_plc {j : Nat} (hS : zSt p m mc P t cl) (hC : zSC p m mc P t cl σ) (hj : j < m) : m_X8_places [zO 0 0, zI (nI j)] (σ, τ) = some (.inl (some (zI (yplc p (zsort (nI (P.1 j))) (yval p P t j)))), (σ, τ)) := by
  obtain ⟨h1, h2⟩ := k_has hS hC hj
  have e := sp_places_2 (τ := τ) h1
  rw [h2, (hC.1.2.2.2.2 j hj).2.1, hC.1.1.1] at e
  have hv := hC.2.1 j hj
  cases hA : yval p P t j with
  | none =>
    rw [hA] at hv
    have hv : σ 4 j 7 = 1 := hv
    rw [hv, if_neg (by decide)] at e
    exact e
  | some A =>
    rw [hA] at hv
    rw [hv.1, if_pos rfl] at e
    exact e
theorem k_count2 (hS : zSt p m mc P t cl) (hC : zSC p m mc P t cl σ) : m_X8_count [zO 0 0, zI 2] (σ, τ) = some (.inl (some (zI (nI mc))), (σ, τ)) := by
  have e := sp_count (n := 2) (τ := τ) hC.1.2.1 (by have := hS.2.1; omega) (Or.inr (Or.inr (Or.inl rfl)))
  rw [if_neg (by decide), if_neg (by decide), if_pos rfl, hC.2.2.1] at e
  exact e
theorem k_count4 (hS : zSt p m mc P t cl) (hC : zSC p m mc P t cl σ) : m_X8_count [zO 0 0, zI 4] (σ, τ) = some (.inl (some (zI (zsum (fun j => ylk (yval p P t j)) m))), (σ, τ)) := by
  have e := sp_count (n := 4) (τ := τ) hC.1.2.1 (by have := hS.2.1; omega) (Or.inr (Or.inr (Or.inr (Or.inr rfl))))
  rw [if_neg (by decide), if_neg (by decide), if_neg (by decide), if_neg (by decide), zsum_eq m (fun j hj => zlk (hC.2.1 j hj))] at e
  exact e
theorem k_begin {q : Nat} (hS : zSt p m mc P t cl) (hC : zSC p m mc P t cl σ) (hq : zpr q) : ∃ v σ', m_X8_begin [zO 0 0, zI (nI q)] (σ, τ) = some (.inl (some (zI v)), (σ', τ)) ∧ zSt q 0 0 P t cl ∧ zSC q 0 0 P t cl σ' := by
  obtain ⟨hp, hm, hmc, hP, hT, hK⟩ := hS
  obtain ⟨⟨hF, hs, hr, h43, hob⟩, hv, hcl⟩ := hC
  have hl := zpr_lt hq
  have h9 : σ 9 0 0 = 0 := by rw [hF.2.1 0 (zpr_pos hp), zopp_00 hp]; rfl
  obtain ⟨zf, zk⟩ := zchs_ok (p := q) (σ := σ) hq h9
  refine ⟨_, _, sp_begin q rfl (by omega) hl.2 (zoff_pr.mpr ⟨q, hq, rfl⟩), ⟨hq, by decide, by decide, fun j hj => by omega, fun j hj => by omega, fun k hk => by omega⟩, ⟨⟨?_, ?_, ?_, ?_, fun j hj => by omega⟩, fun j hj => by omega, ?_, fun k hk => by omega⟩⟩
  · exact zField_of (fun k' j' g => (zup_ne (fun q => by omega)).trans (zup_ne (fun q => by omega))) zf
  · rw [zup_ne (fun q => by omega), zup_eq]; rfl
  · intro j hj
    rw [zup_ne (fun q => by omega), zup_ne (fun q => by omega), zk 4 j 0 (by decide) (by decide) (by decide)]
    exact hr j hj
  · exact ⟨by rw [zup_ne (fun q => by omega), zup_ne (fun q => by omega), zk 4 43 7 (by decide) (by decide) (by decide)]; exact h43.1, by rw [zup_ne (fun q => by omega), zup_ne (fun q => by omega), zk 4 43 11 (by decide) (by decide) (by decide)]; exact h43.2⟩
  · rw [zup_eq]; rfl
theorem nI_nm1 {j : Nat} (hj : j < 1000) : ¬ nI j = -1 := fun g => by
  have := nI_pos' (n := j) (by omega)
  rw [g] at this
  exact absurd this (by decide)
/-- a point: w 0 free, 1 on the line l -/
theorem k_point {w x yn : Nat} {l y : Int32} {qs : Nat → Option Nat} (hS : zSt p m mc P t cl) (hC : zSC p m mc P t cl σ) (hm40 : m < 40) (hx : x < p) (hw : w = 0 ∨ w = 1) (hL : zptL σ l) (hl0 : (l = -1) ↔ w = 0) (hq : l = yq (qs 0)) (hq0 : (w = 0 → qs 0 = none) ∧ (w ≠ 0 → ∃ a, qs 0 = some a ∧ a < m ∧ (w = 1 ∨ w = 2 ∨ w = 3 ∨ w = 4 → 10 ≤ P.1 a ∧ P.1 a < 20))) (hq1 : qs 1 = none) (hq2 : qs 2 = none) (hy : w = 0 → y = nI yn ∧ yn < p) :
    ∃ σ', m_X8_point [zO 0 0, zI l, zI (nI x), zI y] (σ, τ) = some (.inl (some (zI (nI m))), (σ', τ)) ∧ zSt p (m + 1) mc (yNp P m w qs) (yto t m x yn) cl ∧ zSC p (m + 1) mc (yNp P m w qs) (yto t m x yn) cl σ' := by
  obtain ⟨hp, hm, hmc, hP, hT, hK⟩ := id hS
  have hs := hC.1.2.1
  have fx := hasF_iff (o := nI x) hC.1.1.1 hp
  have fy := hasF_iff (o := y) hC.1.1.1 hp
  have hX : zptX σ l (nI x) y := ⟨fx.mpr ⟨x, hx, rfl⟩, fun g => fy.mpr ⟨yn, (hy (hl0.mp g)).2, (hy (hl0.mp g)).1⟩⟩
  have ewl : (if l = -1 then 0 else 1 : Int32) = nI w := by
    rcases hw with g | g
    · rw [if_pos (hl0.mpr g), g]; rfl
    · rw [if_neg (fun q => by have := hl0.mp q; omega), g]; rfl
  have hw2 : w < 2 := by rcases hw with g | g <;> rw [g] <;> decide
  have hyw : ywy w := Or.inl (Nat.lt_of_lt_of_le hw2 (by decide))
  have hP' : yPok (m + 1) (yNp P m w qs) := yPok_next hP hyw hq0 ⟨fun _ => hq1, fun q => absurd hw2 (Nat.not_lt.mpr q)⟩ ⟨fun _ => hq2, fun q => absurd hw2 (Nat.not_lt.mpr (Nat.le_trans (by decide) q))⟩
  have em : (yNp P m w qs).1 m = w := if_pos rfl
  have em2 : (yNp P m w qs).2 m = qs := if_pos rfl
  have hN : yNx p m mc P t cl (yNp P m w qs) (yto t m x yn) := by
    have n1 : ∀ j, j < m → (yNp P m w qs).1 j = P.1 j := fun j hj => if_neg (by omega)
    refine ⟨n1, fun j hj => if_neg (by omega), fun j hj => yto_ne (by omega), hp, by omega, hmc, hP', fun j hj => ?_, yCok_next hK n1⟩
    rcases Nat.eq_or_lt_of_le (Nat.le_of_lt_succ hj) with g | g
    · subst g
      rw [yto_eq, em]
      exact ⟨fun _ => hx, fun g => (hy g).2⟩
    · rw [yto_ne (by omega), n1 j g]
      exact hT j g
  obtain ⟨σ1, ec, hC1, hrk⟩ := c_app (τ := τ) (σ1 := zpt σ m (if l = -1 then 0 else 1) l (nI x) y) hS hC hN
    (fun k i j g1 g2 => by
      unfold zpt
      rw [zup_ne (fun q => g2 (by omega)), zup_ne (fun q => g2 (by omega)), zup_ne (fun q => g2 (by omega)), zup_ne (fun q => g2 (by omega)), zup_ne (fun q => g2 (by omega)), zup_ne (fun q => g2 (by omega)), zup_ne (fun q => g1 q)])
    zpt_5
    (by
      rw [em, ← ewl]
      unfold zpt
      rw [zup_ne (fun q => by omega), zup_ne (fun q => by omega), zup_ne (fun q => by omega), zup_ne (fun q => by omega), zup_ne (fun q => by omega), zup_eq])
    (fun k hk => by
      rw [em2]
      have : k = 0 ∨ k = 1 ∨ k = 2 := by omega
      unfold zpt
      rcases this with g | g | g <;> subst g
      · rw [zup_ne (fun q => by omega), zup_ne (fun q => by omega), zup_ne (fun q => by omega), zup_ne (fun q => by omega), zup_eq]; exact hq
      · rw [zup_ne (fun q => by omega), zup_ne (fun q => by omega), zup_ne (fun q => by omega), zup_eq, hq1]; rfl
      · rw [zup_ne (fun q => by omega), zup_ne (fun q => by omega), zup_eq, hq2]; rfl)
    (fun _ => by
      rw [yto_eq]
      unfold zpt
      rw [zup_ne (fun q => by omega), zup_eq])
    (fun g => by
      rw [em] at g
      rw [yto_eq, ← (hy g).1]
      unfold zpt
      rw [zup_eq])
  have e5 := sp_point_5 hL hX hs (by omega) ec
  rw [hrk] at e5
  exact ⟨σ1, e5, hN.2.2.2, hC1⟩
theorem k_free {x y : Nat} (hS : zSt p m mc P t cl) (hC : zSC p m mc P t cl σ) (hm40 : m < 40) (hx : x < p) (hy : y < p) :
    ∃ σ', m_X8_point [zO 0 0, zI (-1), zI (nI x), zI (nI y)] (σ, τ) = some (.inl (some (zI (nI m))), (σ', τ)) ∧ zSt p (m + 1) mc (yNp P m 0 (fun _ => none)) (yto t m x y) cl ∧ zSC p (m + 1) mc (yNp P m 0 (fun _ => none)) (yto t m x y) cl σ' :=
  k_point (w := 0) (qs := fun _ => none) hS hC hm40 hx (Or.inl rfl) (Or.inl rfl) ⟨fun _ => rfl, fun _ => rfl⟩ rfl ⟨fun _ => rfl, fun q => absurd rfl q⟩ rfl rfl (fun _ => ⟨rfl, hy⟩)
theorem k_online {j x : Nat} {y : Int32} (hS : zSt p m mc P t cl) (hC : zSC p m mc P t cl σ) (hm40 : m < 40) (hx : x < p) (hj : j < m) (hl : zsort (nI (P.1 j)) = 1) :
    ∃ σ', m_X8_point [zO 0 0, zI (nI j), zI (nI x), zI y] (σ, τ) = some (.inl (some (zI (nI m))), (σ', τ)) ∧ zSt p (m + 1) mc (yNp P m 1 (fun k => if k = 0 then some j else none)) (yto t m x 0) cl ∧ zSC p (m + 1) mc (yNp P m 1 (fun k => if k = 0 then some j else none)) (yto t m x 0) cl σ' := by
  obtain ⟨h1, h2⟩ := k_has hS hC hj
  have hl' := (zsort_1 (hS.2.2.2.1 j hj).1).mp hl
  refine k_point (w := 1) (qs := fun k => if k = 0 then some j else none) hS hC hm40 hx (Or.inr rfl) (Or.inr ⟨h1, ?_⟩) ⟨fun g => absurd g (nI_nm1 (by have := hS.2.1; omega)), fun g => absurd g (by decide)⟩ rfl ⟨fun q => absurd q (by decide), fun _ => ⟨j, rfl, hj, fun _ => hl'⟩⟩ rfl rfl (fun g => absurd g (by decide))
  rw [h2, (hC.1.2.2.2.2 j hj).2.1]
  exact hl
def yqs (a b : Nat) (c : Option Nat) : Nat → Option Nat := fun k => if k = 0 then some a else if k = 1 then some b else c
/-- what is known of the ways to make -/
def ymkB (n : Nat) : Bool := zwayB n && decide (zent 0 (3 * nI n) ≠ -1) && decide (zent 0 (3 * nI n + 1) ≠ -1) && decide (zent 0 (3 * nI n) ≠ 3) && decide (zent 0 (3 * nI n + 1) ≠ 3) && decide (zent 0 (3 * nI n + 2) ≠ 3) && (decide (zent 0 (3 * nI n + 2) = -1) == decide (n < 21)) && (!decide (n = 2 ∨ n = 3 ∨ n = 4) || decide (zent 0 (3 * nI n) = 1)) && (!decide (n = 2 ∨ n = 8 ∨ n = 11 ∨ n = 12) || decide (zent 0 (3 * nI n + 1) = 1))
theorem ymk_all : ∀ w : Fin 23, ywyB w.1 = true → ymkB w.1 = true := by decide +kernel
theorem k_make {n ia ib : Nat} {ic : Option Nat} {c : Int32} (hS : zSt p m mc P t cl) (hC : zSC p m mc P t cl σ) (hm40 : m < 40) (hn : n < 23) (hb : ywyB n = true) (hia : ia < m) (hib : ib < m) (hic : (n < 21 → ic = none ∧ c = 0) ∧ (21 ≤ n → ∃ k, ic = some k ∧ k < m ∧ c = nI k ∧ zsort (nI (P.1 k)) = zent 0 (3 * nI n + 2)))
    (sA : zsort (nI (P.1 ia)) = zent 0 (3 * nI n)) (sB : zsort (nI (P.1 ib)) = zent 0 (3 * nI n + 1)) :
    ∃ σ', m_X8_make [zO 0 0, zI (nI n), zI (nI ia), zI (nI ib), zI c] (σ, τ) = some (.inl (some (zI (nI m))), (σ', τ)) ∧ zSt p (m + 1) mc (yNp P m n (yqs ia ib ic)) t cl ∧ zSC p (m + 1) mc (yNp P m n (yqs ia ib ic)) t cl σ' := by
  obtain ⟨hp, hm, hmc, hP, hT, hK⟩ := id hS
  have hs := hC.1.2.1
  obtain ⟨hy, h2⟩ := ywyB_iff.mp hb
  have mk := ymk_all ⟨n, hn⟩ hb
  unfold ymkB at mk
  simp only [Bool.and_eq_true, Bool.or_eq_true, decide_eq_true_eq, beq_iff_eq, Bool.not_eq_true', decide_eq_false_iff_not, ne_eq, decide_eq_decide] at mk
  obtain ⟨⟨⟨⟨⟨⟨⟨⟨mw, e0⟩, e1⟩, f0⟩, f1⟩, f2⟩, e2⟩, l0⟩, l1⟩ := mk
  have hw : zway (nI n) := zway_iff.mpr ⟨n, hn, rfl, hb⟩
  obtain ⟨ha1, ha2⟩ := k_has hS hC hia
  obtain ⟨hb1, hb2⟩ := k_has hS hC hib
  have cP : ∀ j, j < m → σ 4 j 1 = nI (P.1 j) := fun j hj => (hC.1.2.2.2.2 j hj).2.1
  have hTT : zmkT σ (nI n) (nI ia) (nI ib) c := by
    refine ⟨Or.inr ha1, Or.inr hb1, ?_⟩
    by_cases g : n < 21
    · exact Or.inl (e2.mpr g)
    · obtain ⟨k, _, hk, rfl, _⟩ := hic.2 (by omega)
      exact Or.inr (k_has hS hC hk).1
  have hFF : zmkF σ (nI n) (nI ia) (nI ib) c := by
    refine ⟨?_, ?_, ?_⟩
    · unfold zfits
      rw [if_neg e0, ha2, cP _ hia]
      exact Or.inr sA
    · unfold zfits
      rw [if_neg e1, hb2, cP _ hib]
      exact Or.inr sB
    · unfold zfits
      by_cases g : n < 21
      · rw [if_pos (e2.mpr g)]; exact (hic.1 g).2
      · obtain ⟨k, _, hk, rfl, sC⟩ := hic.2 (by omega)
        rw [if_neg (fun z => g (e2.mp z)), (k_has hS hC hk).2, cP _ hk]
        exact Or.inr sC
  have sA' : n = 1 ∨ n = 2 ∨ n = 3 ∨ n = 4 → 10 ≤ P.1 ia ∧ P.1 ia < 20 := by
    intro q
    have l : zent 0 (3 * nI n) = 1 := l0.elim (fun z => absurd (show n = 2 ∨ n = 3 ∨ n = 4 by omega) z) id
    rw [l] at sA
    exact (zsort_1 (hP ia hia).1).mp sA
  have sB' : n = 2 ∨ n = 8 ∨ n = 11 ∨ n = 12 → 10 ≤ P.1 ib ∧ P.1 ib < 20 := by
    intro q
    have l : zent 0 (3 * nI n + 1) = 1 := l1.elim (fun z => absurd q z) id
    rw [l] at sB
    exact (zsort_1 (hP ib hib).1).mp sB
  have hP' : yPok (m + 1) (yNp P m n (yqs ia ib ic)) := yPok_next hP hy ⟨fun q => by omega, fun _ => ⟨ia, rfl, hia, sA'⟩⟩ ⟨fun q => by omega, fun _ => ⟨ib, rfl, hib, sB'⟩⟩ ⟨fun q => (hic.1 q).1, fun q => by obtain ⟨k, e, l, _⟩ := hic.2 q; exact ⟨k, e, l⟩⟩
  have em : (yNp P m n (yqs ia ib ic)).1 m = n := if_pos rfl
  have em2 : (yNp P m n (yqs ia ib ic)).2 m = yqs ia ib ic := if_pos rfl
  have hN : yNx p m mc P t cl (yNp P m n (yqs ia ib ic)) t := by
    have n1 : ∀ j, j < m → (yNp P m n (yqs ia ib ic)).1 j = P.1 j := fun j hj => if_neg (by omega)
    refine ⟨n1, fun j hj => if_neg (by omega), fun j hj => rfl, hp, by omega, hmc, hP', fun j hj => ?_, yCok_next hK n1⟩
    rcases Nat.eq_or_lt_of_le (Nat.le_of_lt_succ hj) with g | g
    · subst g
      rw [em]
      exact ⟨fun q => by omega, fun q => by omega⟩
    · rw [n1 j g]
      exact hT j g
  have e2c : (if zent 0 (3 * nI n + 2) = -1 then -1 else c) = yq ic := by
    by_cases g : n < 21
    · rw [if_pos (e2.mpr g), (hic.1 g).1]; rfl
    · obtain ⟨k, rfl, _, rfl, _⟩ := hic.2 (by omega)
      rw [if_neg (fun z => g (e2.mp z))]; rfl
  obtain ⟨σ1, ec, hC1, hrk⟩ := c_app (τ := τ) (σ1 := zmk σ m (nI n) (nI ia) (nI ib) (if zent 0 (3 * nI n + 2) = -1 then -1 else c)) hS hC hN
    (fun k i j g1 g2 => by
      unfold zmk
      rw [zup_ne (fun q => g2 (by omega)), zup_ne (fun q => g2 (by omega)), zup_ne (fun q => g2 (by omega)), zup_ne (fun q => g2 (by omega)), zup_ne (fun q => g1 q)])
    (by
      unfold zmk
      rw [zup_ne (fun q => by omega), zup_ne (fun q => by omega), zup_ne (fun q => by omega), zup_ne (fun q => by omega), zup_eq])
    (by
      rw [em]
      unfold zmk
      rw [zup_ne (fun q => by omega), zup_ne (fun q => by omega), zup_ne (fun q => by omega), zup_eq])
    (fun k hk => by
      rw [em2]
      have : k = 0 ∨ k = 1 ∨ k = 2 := by omega
      unfold zmk
      rcases this with g | g | g <;> subst g
      · rw [zup_ne (fun q => by omega), zup_ne (fun q => by omega), zup_eq]; rfl
      · rw [zup_ne (fun q => by omega), zup_eq]; rfl
      · rw [zup_eq]; exact e2c)
    (fun g => by rw [em] at g; omega) (fun g => by rw [em] at g; omega)
  have e5 := sp_make_5 hw hTT hFF hs (by omega) ec
  rw [hrk] at e5
  exact ⟨σ1, e5, hN.2.2.2, hC1⟩
theorem k_move {i x y : Nat} (hS : zSt p m mc P t cl) (hC : zSC p m mc P t cl σ) (hi : i < m) (h0 : P.1 i = 0) (hx : x < p) (hy : y < p) :
    ∃ v σ', m_X8_move [zO 0 0, zI (nI i), zI (nI x), zI (nI y)] (σ, τ) = some (.inl (some (zI v)), (σ', τ)) ∧ zSt p m mc P (yto t i x y) cl ∧ zSC p m mc P (yto t i x y) cl σ' := by
  obtain ⟨hp, hm, hmc, hP, hT, hK⟩ := id hS
  have hs := hC.1.2.1
  obtain ⟨g1, hz⟩ := k_has hS hC hi
  have cw := (hC.1.2.2.2.2 i hi).2.1
  have fx := hasF_iff (o := nI x) hC.1.1.1 hp
  have fy := hasF_iff (o := nI y) hC.1.1.1 hp
  have hX : zmvX σ (nI i) (nI x) (nI y) := ⟨fx.mpr ⟨x, hx, rfl⟩, fun _ => fy.mpr ⟨y, hy, rfl⟩⟩
  have hT' : yTok p m P (yto t i x y) := by
    intro j hj
    by_cases g : j = i
    · subst g; rw [yto_eq]; exact ⟨fun _ => hx, fun _ => hy⟩
    · rw [yto_ne g]; exact hT j hj
  have hPa := yPok_a hP
  have er := (hC.1.2.2.1 i (by omega))
  have fg : zFg σ (zwant (zmark σ (nI i) m) 1 m) := zFg_trans (zmark_fg m (by omega)) (zwant_fg m)
  have hFo := zmark_Fo hPa (show m ≤ 43 by omega) hi hC.1
  have hCw : zCw p m P t (fun j => zmark σ (nI i) m 4 j 11 ≠ 0) (fun _ => True) (zwant (zmark σ (nI i) m) 1 m) := by
    refine ⟨zFg_Cb (by omega) fg hC.1, fun j hj => ⟨?_, ?_⟩, fun j hj _ _ => zFg_cv fg (hC.2.1 j hj)⟩
    · rw [zwant_11]
    · rw [zwant_in m hj]
      exact ⟨fun _ => trivial, fun _ => by decide⟩
  obtain ⟨σ1, es, hC1, hv1, hk1⟩ := yc_shift (τ := τ) hp hP hm hi hFo (fun _ _ _ _ _ _ _ => trivial) hT' hCw (fun _ => rfl)
  have hSt : zSt p m mc P (yto t i x y) cl := ⟨hp, hm, hmc, hP, hT', hK⟩
  have ne : ∀ k' i' j', k' ≠ 14 → k' ≠ 4 → σ1 k' i' j' = σ k' i' j' := fun k' i' j' q1 q2 => (hk1 k' i' j' q1 (fun q => q2 q.1) (fun q => q2 q.1)).trans (fg k' i' j' (fun q => q2 q.1))
  have e4 := sp_move_4 (τ := τ) (σ' := σ1) g1 hX (by rw [hz, cw, h0]; exact Or.inl rfl) hs (show m ≤ 43 by omega) hC1.1.2.1 (by rw [hz, er]; exact es)
  refine ⟨_, σ1, e4, hSt, ⟨hC1.1, fun j hj => hv1 j hj trivial, ?_, fun k hk => ?_⟩⟩
  · rw [ne 7 0 2 (by decide) (by decide)]; exact hC.2.2.1
  · obtain ⟨c1, c2⟩ := hC.2.2.2 k hk
    exact ⟨by rw [ne 16 k 0 (by decide) (by decide)]; exact c1, fun i' hi' => by rw [ne 16 k _ (by decide) (by decide)]; exact c2 i' hi'⟩
/-- a claim about two objects: sort 6 (of one sort) or 0 (a point, a line) -/
theorem k_claim {n a b : Nat} (hS : zSt p m mc P t cl) (hC : zSC p m mc P t cl σ) (hmc20 : mc < 20) (ha : a < m) (hb : b < m) (hn : n = 6 ∧ zsort (nI (P.1 a)) = zsort (nI (P.1 b)) ∨ n = 0 ∧ zsort (nI (P.1 a)) = 0 ∧ zsort (nI (P.1 b)) = 1) :
    ∃ σ', m_X8_claim [zO 0 0, zI (nI n), zI (nI a), zI (nI b), zI 0, zI 0] (σ, τ) = some (.inl (some (zI (nI mc))), (σ', τ)) ∧ zSt p m (mc + 1) P t (yclx cl mc n (yqs a b none)) ∧ zSC p m (mc + 1) P t (yclx cl mc n (yqs a b none)) σ' := by
  obtain ⟨hp, hm, hmc, hP, hT, hK⟩ := id hS
  have hs := hC.1.2.1
  obtain ⟨ga, oa⟩ := k_has hS hC ha
  obtain ⟨gb, ob⟩ := k_has hS hC hb
  have cP : ∀ j, j < m → σ 4 j 1 = nI (P.1 j) := fun j hj => (hC.1.2.2.2.2 j hj).2.1
  have n06 : n = 0 ∨ n = 6 := by omega
  have na2 : zna n = 2 := by rcases n06 with rfl | rfl <;> rfl
  have w0 : ¬ nI n < 0 := nI_pos (by omega)
  have w7 : nI n ≤ 7 := (nI_leI (b := 7) (by omega) (by decide)).mpr (by omega)
  have e2 : zent 1 (4 * nI n + 2) = -1 := by rcases n06 with rfl | rfl <;> decide
  have e3 : zent 1 (4 * nI n + 3) = -1 := by rcases n06 with rfl | rfl <;> decide
  have hTT : zclTh σ (nI n) (nI a) (nI b) 0 0 := ⟨Or.inr ga, Or.inr gb, Or.inl e2, Or.inl e3⟩
  have hFi : zclFi σ (nI n) (nI a) (nI b) 0 0 := by
    refine ⟨?_, ?_, ?_, ?_⟩
    · unfold zfits
      rw [oa, cP a ha]
      rcases hn with ⟨rfl, h⟩ | ⟨rfl, h1, h2⟩
      · rw [if_neg (by decide)]; exact Or.inl (by decide)
      · rw [if_neg (by decide), h1]; exact Or.inr (by decide)
    · unfold zfits
      rw [ob, cP b hb]
      rcases hn with ⟨rfl, h⟩ | ⟨rfl, h1, h2⟩
      · rw [if_neg (by decide)]; exact Or.inl (by decide)
      · rw [if_neg (by decide), h2]; exact Or.inr (by decide)
    · unfold zfits
      rw [if_pos e2]
    · unfold zfits
      rw [if_pos e3]
  have hAl : zclAl σ (nI n) (nI a) (nI b) := by
    intro h6
    rw [oa, ob, cP a ha, cP b hb]
    rcases hn with ⟨rfl, h⟩ | ⟨rfl, h1, h2⟩
    · exact h
    · exact absurd h6 (by decide)
  have e6 := sp_claim_6 (τ := τ) w0 w7 hTT hFi hAl hC.2.2.1 hmc20
  rw [if_pos e2, if_pos e3] at e6
  have hn8 : n < 8 := by omega
  have hK' : yCok m (mc + 1) P (yclx cl mc n (yqs a b none)) := by
    intro k hk
    rcases Nat.eq_or_lt_of_le (Nat.le_of_lt_succ hk) with g | g
    · subst g
      have e1 : (yclx cl k n (yqs a b none)).1 k = n := if_pos rfl
      have e2 : (yclx cl k n (yqs a b none)).2 k = yqs a b none := if_pos rfl
      rw [e1, e2, na2]
      refine ⟨hn8, fun i hi => ?_⟩
      rcases four hi with g | g | g | g <;> subst g
      · exact ⟨fun _ => ⟨a, rfl, ha, fun h7 => by omega⟩, fun q => by omega⟩
      · exact ⟨fun _ => ⟨b, rfl, hb, fun h7 => by omega⟩, fun q => by omega⟩
      · exact ⟨fun q => by omega, fun _ => rfl⟩
      · exact ⟨fun q => by omega, fun _ => rfl⟩
    · have e1 : (yclx cl mc n (yqs a b none)).1 k = cl.1 k := if_neg (by omega)
      have e2 : (yclx cl mc n (yqs a b none)).2 k = cl.2 k := if_neg (by omega)
      rw [e1, e2]
      exact hK k g
  refine ⟨_, e6, ⟨hp, hm, (show mc + 1 ≤ 20 from hmc20), hP, hT, hK'⟩, zCb_of (fun k' i' j' g => zclm_ne (by omega) (by omega)) hC.1, fun j hj => zcv_keep (fun w _ _ => zclm_ne (by decide) (by decide)) (hC.2.1 j hj), zclm_7, fun k hk => ?_⟩
  rcases Nat.eq_or_lt_of_le (Nat.le_of_lt_succ hk) with g | g
  · have e1 : (yclx cl mc n (yqs a b none)).1 k = n := if_pos g
    have e2 : (yclx cl mc n (yqs a b none)).2 k = yqs a b none := if_pos g
    rw [e1, e2, g]
    obtain ⟨z0, z1, z2, z3, z4⟩ := zclm_16 (σ := σ) (m := mc) (w := nI n) (a := nI a) (b := nI b) (c := -1) (d := -1)
    refine ⟨z0, fun i hi => ?_⟩
    rcases four hi with g | g | g | g <;> subst g
    · exact z1
    · exact z2
    · exact z3
    · exact z4
  · have gn : ¬ k = mc := Nat.ne_of_lt g
    have e1 : (yclx cl mc n (yqs a b none)).1 k = cl.1 k := if_neg gn
    have e2 : (yclx cl mc n (yqs a b none)).2 k = cl.2 k := if_neg gn
    rw [e1, e2]
    obtain ⟨c1, c2⟩ := hC.2.2.2 k g
    exact ⟨(zclm_lo gn).trans c1, fun i hi => (zclm_lo gn).trans (c2 i hi)⟩
/-- a claim's verdict in a state -/
noncomputable def yvd (p : Nat) (P : yP) (t : yTo) (cl : yCl) (k : Nat) : Int32 := yver p (yval p P t) (cl.1 k) (cl.2 k)
theorem k_holds {k : Nat} (hS : zSt p m mc P t cl) (hC : zSC p m mc P t cl σ) (hk : k < mc) : ∃ σ', m_X8_holds [zO 0 0, zI (nI k)] (σ, τ) = some (.inl (some (zI (yvd p P t cl k))), (σ', τ)) ∧ zSC p m mc P t cl σ' := by
  obtain ⟨σ1, e, h1⟩ := c_ver (τ := τ) hS hC hk
  have hz := zclat_in hC.2.2.1 hS.2.2.1 hk
  exact ⟨σ1, sp_holds_2 ((hasC_iff hC.2.2.1 hS.2.2.1).mpr ⟨k, hk, rfl⟩) (by rw [hz]; exact e), h1⟩
theorem zSC_told {t' : yTo} (hS : zSt p m mc P t cl) (ht : ∀ j, j < m → (t j).1 = (t' j).1 ∧ (P.1 j = 0 → (t j).2 = (t' j).2)) (hC : zSC p m mc P t' cl σ) : zSC p m mc P t cl σ := by
  obtain ⟨⟨h1, h2, h3, h4, ho⟩, hv, hc⟩ := hC
  refine ⟨⟨h1, h2, h3, h4, fun j hj => ?_⟩, fun j hj => ?_, hc⟩
  · obtain ⟨o1, o2, o3, o4, o5⟩ := ho j hj
    exact ⟨o1, o2, o3, fun g => by rw [(ht j hj).1]; exact o4 g, fun g => by rw [(ht j hj).2 g]; exact o5 g⟩
  · rw [yval_told (yPok_a hS.2.2.2.1) ht (j + 1) j (by omega) hj]
    exact hv j hj
/-- where a point goes to -/
noncomputable def ytrl (p : Nat) (P : yP) (t : yTo) (a i : Nat) : yTl := ytr (fun x => yval p P (yto t i x 0) a) p
theorem k_locus {a i w : Nat} (hS : zSt p m mc P t cl) (hC : zSC p m mc P t cl σ) (ha : a < m) (hi : i < m) (hwa : P.1 a < 10) (hwi : P.1 i = 1) (hw : w ≤ 3) : ∃ σ', m_X8_locus [zO 0 0, zI (nI a), zI (nI i), zI (nI w)] (σ, τ) = some (.inl (some (zI (yloA p (ytrl p P t a i) (nI w)))), (σ', τ)) ∧ zSC p m mc P t cl σ' := by
  obtain ⟨v, σ1, e, rfl, h1⟩ := c_lo (τ := τ) hS hC ha hi hwa hwi (nI_pos (n := w) (by omega)) ((nI_leI (b := 3) (by omega) (by decide)).mpr hw) _ rfl
  refine ⟨σ1, e, zSC_told hS (fun j hj => ?_) h1⟩
  by_cases g : j = i
  · subst g; rw [yto_eq]; exact ⟨rfl, fun q => by omega⟩
  · rw [yto_ne g]; exact ⟨rfl, fun _ => rfl⟩
noncomputable def yevl (p : Nat) (P : yP) (t : yTo) (cl : yCl) (k i : Nat) : Int32 × Int32 × Int32 := zex (fun x y => yvd p P (yto t i x y) cl k) p p 0 (0, 0, -1)
theorem k_ev {k i w : Nat} (hS : zSt p m mc P t cl) (hC : zSC p m mc P t cl σ) (hk : k < mc) (hi : i < m) (hw0 : P.1 i = 0) (hw : w ≤ 2) : ∃ σ', m_X8_everywhere [zO 0 0, zI (nI k), zI (nI i), zI (nI w)] (σ, τ) = some (.inl (some (zI (if w = 0 then (yevl p P t cl k i).1 else if w = 1 then (yevl p P t cl k i).2.1 else (yevl p P t cl k i).2.2))), (σ', τ)) ∧ zSC p m mc P t cl σ' := by
  obtain ⟨σ1, e, h1⟩ := c_ev (τ := τ) hS hC hk hi hw0 (nI_pos (n := w) (by omega)) ((nI_leI (b := 2) (by omega) (by decide)).mpr hw) _ rfl
  refine ⟨σ1, ?_, h1⟩
  have : w = 0 ∨ w = 1 ∨ w = 2 := by omega
  rcases this with rfl | rfl | rfl
  · rw [if_pos (by decide)] at e; exact e
  · rw [if_neg (by decide), if_pos (by decide)] at e; exact e
  · rw [if_neg (by decide), if_neg (by decide)] at e; exact e
theorem k_truth (hS : zSt p m mc P t cl) (hC : zSC p m mc P t cl σ) : ∃ σ', m_X8_truth [zO 0 0] (σ, τ) = some (.inl (some (.inl (.double (zquo (zsum (fun j => zone (yvd p P t cl j)) mc) (zsum (fun j => znon (yvd p P t cl j)) mc))))), (σ', τ)) ∧ zSC p m mc P t cl σ' :=
  sp_truth (c := mc) (τ := τ) (fun k => yvd p P t cl k) (fun σ => zSC p m mc P t cl σ) hC hS.2.2.1 (fun σ h => h.2.2.1) (fun k hk σ h => c_ver hS h hk)
noncomputable def ydg (p m mc : Nat) (P : yP) (t : yTo) (cl : yCl) (σ : zMem) : Int64 := zdig σ m mc (fun k => yvd p P t cl k)
theorem k_digest (hS : zSt p m mc P t cl) (hC : zSC p m mc P t cl σ) : ∃ σ', m_X8_digest [zO 0 0] (σ, τ) = some (.inl (some (.inl (.long (ydg p m mc P t cl σ)))), (σ', τ)) ∧ zSC p m mc P t cl σ' :=
  sp_digest (m := m) (c := mc) (τ := τ) (fun k => yvd p P t cl k) (fun σ => zSC p m mc P t cl σ) hC hC.1.2.1 (by have := hS.2.1; omega) hS.2.2.1 (fun σ h => h.2.2.1) (fun k hk σ h => c_ver hS h hk)
theorem zadd_eq2 {σ' : zMem} {j : Nat} {d : Int64} {v : Option yT} (cv : zcv σ j v) (cv' : zcv σ' j v) (co : zCo P t σ j) (co' : zCo P t σ' j) : zadd σ 4 j d = zadd σ' 4 j d := by
  obtain ⟨_, c1, c2, _, _⟩ := co
  obtain ⟨_, r1, r2, _, _⟩ := co'
  have f : ∀ w : Nat, w ≤ 5 → zfeat σ 4 j (nI w) = zfeat σ' 4 j (nI w) := by
    intro w hw
    have : w = 0 ∨ w = 1 ∨ w = 2 ∨ w = 3 ∨ w = 4 ∨ w = 5 := by omega
    rcases this with rfl | rfl | rfl | rfl | rfl | rfl
    · show zsort (σ 4 j 1) = zsort (σ' 4 j 1); rw [c1, r1]
    · show σ 4 j 1 = σ' 4 j 1; rw [c1, r1]
    · show σ 4 j (2 + 0) = σ' 4 j (2 + 0); rw [c2 0 (by decide), r2 0 (by decide)]
    · show σ 4 j (2 + 1) = σ' 4 j (2 + 1); rw [c2 1 (by decide), r2 1 (by decide)]
    · show σ 4 j (2 + 2) = σ' 4 j (2 + 2); rw [c2 2 (by decide), r2 2 (by decide)]
    · show (if σ 4 j 7 = 0 then 0 else 1 : Int32) = if σ' 4 j 7 = 0 then 0 else 1; rw [zlk cv, zlk cv']
  have f0 := f 0 (by decide)
  have f1 := f 1 (by decide)
  have f2 := f 2 (by decide)
  have f3 := f 3 (by decide)
  have f4 := f 4 (by decide)
  have f5 := f 5 (by decide)
  have f0 : zfeat σ 4 j 0 = zfeat σ' 4 j 0 := f0
  have f1 : zfeat σ 4 j 1 = zfeat σ' 4 j 1 := f1
  have f2 : zfeat σ 4 j 2 = zfeat σ' 4 j 2 := f2
  have f3 : zfeat σ 4 j 3 = zfeat σ' 4 j 3 := f3
  have f4 : zfeat σ 4 j 4 = zfeat σ' 4 j 4 := f4
  have f5 : zfeat σ 4 j 5 = zfeat σ' 4 j 5 := f5
  unfold zadd
  dsimp only
  rw [f0, f1, f2, f3, f4, f5]
  cases v with
  | none =>
    have cv : σ 4 j 7 = 1 := cv
    have cv' : σ' 4 j 7 = 1 := cv'
    rw [cv, cv', if_neg (by decide), if_neg (by decide)]
  | some A =>
    obtain ⟨a0, a1, a2, a3⟩ := cv
    obtain ⟨b0, b1, b2, b3⟩ := cv'
    rw [a0, b0, a1, a2, a3, b1, b2, b3]
theorem ydg_eq {σ' : zMem} (hC : zSC p m mc P t cl σ) (hC' : zSC p m mc P t cl σ') : ydg p m mc P t cl σ = ydg p m mc P t cl σ' := by
  unfold ydg zdig
  have s3 : zsum (fun j => if σ 4 j 1 = 0 then (1 : Int32) else 0) m = zsum (fun j => if σ' 4 j 1 = 0 then (1 : Int32) else 0) m := zsum_eq m (fun j hj => by
    rw [(hC.1.2.2.2.2 j hj).2.1, (hC'.1.2.2.2.2 j hj).2.1])
  have s4 : zsum (fun j => if σ 4 j 7 = 0 then (0 : Int32) else 1) m = zsum (fun j => if σ' 4 j 7 = 0 then (0 : Int32) else 1) m := zsum_eq m (fun j hj => (zlk (hC.2.1 j hj)).trans (zlk (hC'.2.1 j hj)).symm)
  have objs : ∀ d n, n ≤ m → zdob σ d n = zdob σ' d n := by
    intro d n
    induction n with
    | zero => intro _; rfl
    | succ n ih =>
      intro hn
      rw [zdob, zdob, ih (by omega)]
      exact zadd_eq2 (hC.2.1 n (by omega)) (hC'.2.1 n (by omega)) (hC.1.2.2.2.2 n (by omega)) (hC'.1.2.2.2.2 n (by omega))
  rw [s3, s4, hC.1.1.1, hC'.1.1.1, objs _ m (Nat.le_refl m)]
end KC
