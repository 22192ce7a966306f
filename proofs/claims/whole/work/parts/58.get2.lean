/-! ===== further questions; the text's letters; undo ===== -/
section G2
variable {M : Mem} {g : Nat} {N : Row}
theorem c_childAt_no (hN : WFt N) (h : RD (M.1 g) N) {x : Int32} (hx : isS N x = false) (y : Int32) : f_X7_childAt g x y M = some mI := by
  obtain ⟨ht, ⟨hm, -⟩, -⟩ := h
  have hm20 := manyS_le N
  unfold f_X7_childAt
  refine loop (fun n (σ : Int32 × Int32) => L_X7_childAt_5 g x y M n σ.1 σ.2) (fun i => (nI 0, nI i)) (manyS N) (fun n i hi => ?_) (fun n => ?_) FU (FU_lt (by omega))
  · show L_X7_childAt_5 g x y M (n + 1) _ _ = L_X7_childAt_5 g x y M n _ _
    rw [L_X7_childAt_5]
    unfold B_X7_childAt_60
    simp (disch := omega) only [↓ite_b2r, ↓ite_nb2r, ↓lit_m1, ↓lit_m2, lit_0, lit_1, lit_2, lit_3, lit_4, lit_5, lit_6, lit_7, lit_8, lit_9, lit_10, lit_11, lit_12, lit_13, lit_14, lit_15, lit_16, lit_17, lit_18, lit_19, lit_20, lit_21, lit_22, lit_23, lit_24, lit_25, lit_26, lit_27, lit_28, lit_29, lit_30, lit_31, lit_32, lit_33, lit_34, lit_35, lit_36, lit_40, lit_41, lit_42, lit_44, lit_48, lit_57, lit_59, lit_62, lit_63, lit_64, lit_82, lit_98, lit_99, lit_100, lit_101, lit_102, lit_103, lit_104, lit_105, lit_106, lit_107, lit_108, lit_109, lit_110, lit_111, lit_112, lit_113, lit_119, lit_120, lit_127, lit_128, lit_149, lit_150, lit_202, lit_240, lit_262, lit_894, lit_900, lit_999, lit_1000, lit_2000, lit_2662, lit_2663, lit_2695, lit_2701, lit_2702, lit_3602, lit_10806, nI_add, pk_mul, cl_nI, inb_nI, nI_leI, nI_ltI, nI_eq, nI_eq_m1, m1_eq_nI, nI_eq_m2, div_nI, rem_nI, Option.bind_some, b2_0, b2_1, isb_b2, if_true_, if_false_, ↓reduceIte, reduceCtorEq, not_true_eq_false, not_false_eq_true, bt_hasBit, ult, Nat.add_zero, false_and, true_and, and_true, and_false, Nat.reduceLeDiff, Nat.reduceEqDiff, Nat.reduceLT, Bool.toNat_true, Bool.toNat_false, decide_true, decide_false, Bool.not_true, Bool.not_false, Bool.false_and, Bool.true_and, Bool.and_true, Bool.and_false, Bool.or_false, Bool.true_or, Bool.or_true, Bool.false_or, hm, Nat.not_le.mpr hi, show ¬ 20 ≤ i by omega, c_has ht hN, hx]
  · show L_X7_childAt_5 g x y M (n + 1) _ _ = _
    rw [L_X7_childAt_5]
    simp (disch := omega) only [↓ite_b2r, ↓ite_nb2r, ↓lit_m1, ↓lit_m2, lit_0, lit_1, lit_2, lit_3, lit_4, lit_5, lit_6, lit_7, lit_8, lit_9, lit_10, lit_11, lit_12, lit_13, lit_14, lit_15, lit_16, lit_17, lit_18, lit_19, lit_20, lit_21, lit_22, lit_23, lit_24, lit_25, lit_26, lit_27, lit_28, lit_29, lit_30, lit_31, lit_32, lit_33, lit_34, lit_35, lit_36, lit_40, lit_41, lit_42, lit_44, lit_48, lit_57, lit_59, lit_62, lit_63, lit_64, lit_82, lit_98, lit_99, lit_100, lit_101, lit_102, lit_103, lit_104, lit_105, lit_106, lit_107, lit_108, lit_109, lit_110, lit_111, lit_112, lit_113, lit_119, lit_120, lit_127, lit_128, lit_149, lit_150, lit_202, lit_240, lit_262, lit_894, lit_900, lit_999, lit_1000, lit_2000, lit_2662, lit_2663, lit_2695, lit_2701, lit_2702, lit_3602, lit_10806, nI_add, pk_mul, cl_nI, inb_nI, nI_leI, nI_ltI, nI_eq, nI_eq_m1, m1_eq_nI, nI_eq_m2, div_nI, rem_nI, Option.bind_some, b2_0, b2_1, isb_b2, if_true_, if_false_, ↓reduceIte, reduceCtorEq, not_true_eq_false, not_false_eq_true, bt_hasBit, ult, Nat.add_zero, false_and, true_and, and_true, and_false, Nat.reduceLeDiff, Nat.reduceEqDiff, Nat.reduceLT, Bool.toNat_true, Bool.toNat_false, decide_true, decide_false, Bool.not_true, Bool.not_false, Bool.false_and, Bool.true_and, Bool.and_true, Bool.and_false, Bool.or_false, Bool.true_or, Bool.or_true, Bool.false_or, hm, Nat.le_refl]
theorem fac_1 (hc : RDc (M.1 g) N) (hNc : WFc N) {c : Nat} (hcc : c < 10) (hk : ck N c = true) : fac (M.1 g) N (nI c) 1 = nI (sec N c) := by
  unfold fac
  rw [isC_nI hcc, hk, if_pos rfl, cl_nI (by omega), (hc.2 c hcc hk).2.1]
  exact sec_eq hNc hcc hk
theorem c_holdersOf (ht : RDt (M.1 g) N) (hc : RDc (M.1 g) N) (hNc : WFc N) {s : Nat} (hs : s < 20) (hu : us N s = true) : f_X1_holdersOf g (nI s) M = some (Hol N s) := by
  unfold f_X1_holdersOf Hol
  refine loop (fun n (σ : Int32 × Int32) => L_X1_holdersOf_4 g (nI s) M n σ.1 σ.2) (fun i => (setN (fun c => hel N c && An N s (sec N c)) i, nI i)) 10 (fun n i hi => ?_) (fun n => ?_) FU (by decide)
  · show L_X1_holdersOf_4 g (nI s) M (n + 1) _ _ = L_X1_holdersOf_4 g (nI s) M n _ _
    rw [L_X1_holdersOf_4]
    unfold B_X1_holdersOf_39
    rw [setN_s]
    cases hk : hel N i with
    | false => simp (disch := omega) only [↓ite_b2r, ↓ite_nb2r, ↓lit_m1, ↓lit_m2, lit_0, lit_1, lit_2, lit_3, lit_4, lit_5, lit_6, lit_7, lit_8, lit_9, lit_10, lit_11, lit_12, lit_13, lit_14, lit_15, lit_16, lit_17, lit_18, lit_19, lit_20, lit_21, lit_22, lit_23, lit_24, lit_25, lit_26, lit_27, lit_28, lit_29, lit_30, lit_31, lit_32, lit_33, lit_34, lit_35, lit_36, lit_40, lit_41, lit_42, lit_44, lit_48, lit_57, lit_59, lit_62, lit_63, lit_64, lit_82, lit_98, lit_99, lit_100, lit_101, lit_102, lit_103, lit_104, lit_105, lit_106, lit_107, lit_108, lit_109, lit_110, lit_111, lit_112, lit_113, lit_119, lit_120, lit_127, lit_128, lit_149, lit_150, lit_202, lit_240, lit_262, lit_894, lit_900, lit_999, lit_1000, lit_2000, lit_2662, lit_2663, lit_2695, lit_2701, lit_2702, lit_3602, lit_10806, nI_add, pk_mul, cl_nI, inb_nI, nI_leI, nI_ltI, nI_eq, nI_eq_m1, m1_eq_nI, nI_eq_m2, div_nI, rem_nI, Option.bind_some, b2_0, b2_1, isb_b2, if_true_, if_false_, ↓reduceIte, reduceCtorEq, not_true_eq_false, not_false_eq_true, bt_hasBit, ult, Nat.add_zero, false_and, true_and, and_true, and_false, Nat.reduceLeDiff, Nat.reduceEqDiff, Nat.reduceLT, Bool.toNat_true, Bool.toNat_false, decide_true, decide_false, Bool.not_true, Bool.not_false, Bool.false_and, Bool.true_and, Bool.and_true, Bool.and_false, Bool.or_false, Bool.true_or, Bool.or_true, Bool.false_or, Nat.not_le.mpr hi, c_isHeldN hc hi, hk] <;> rfl
    | true =>
      have hk2 := hel_ck hk
      have hb := bt_sub (M := M) (g := g) ht (nI (sec N i)) (s := s) (by omega)
      rw [decide_eq_true hs, hu, isS_nI (sec_lt hNc hi hk2), sec_us hNc hi hk2, cl_nI (by have := sec_lt hNc hi hk2; omega), Bool.true_and, Bool.true_and, Bool.true_and] at hb
      simp (disch := omega) only [↓ite_b2r, ↓ite_nb2r, ↓lit_m1, ↓lit_m2, lit_0, lit_1, lit_2, lit_3, lit_4, lit_5, lit_6, lit_7, lit_8, lit_9, lit_10, lit_11, lit_12, lit_13, lit_14, lit_15, lit_16, lit_17, lit_18, lit_19, lit_20, lit_21, lit_22, lit_23, lit_24, lit_25, lit_26, lit_27, lit_28, lit_29, lit_30, lit_31, lit_32, lit_33, lit_34, lit_35, lit_36, lit_40, lit_41, lit_42, lit_44, lit_48, lit_57, lit_59, lit_62, lit_63, lit_64, lit_82, lit_98, lit_99, lit_100, lit_101, lit_102, lit_103, lit_104, lit_105, lit_106, lit_107, lit_108, lit_109, lit_110, lit_111, lit_112, lit_113, lit_119, lit_120, lit_127, lit_128, lit_149, lit_150, lit_202, lit_240, lit_262, lit_894, lit_900, lit_999, lit_1000, lit_2000, lit_2662, lit_2663, lit_2695, lit_2701, lit_2702, lit_3602, lit_10806, nI_add, pk_mul, cl_nI, inb_nI, nI_leI, nI_ltI, nI_eq, nI_eq_m1, m1_eq_nI, nI_eq_m2, div_nI, rem_nI, Option.bind_some, b2_0, b2_1, isb_b2, if_true_, if_false_, ↓reduceIte, reduceCtorEq, not_true_eq_false, not_false_eq_true, bt_hasBit, ult, Nat.add_zero, false_and, true_and, and_true, and_false, Nat.reduceLeDiff, Nat.reduceEqDiff, Nat.reduceLT, Bool.toNat_true, Bool.toNat_false, decide_true, decide_false, Bool.not_true, Bool.not_false, Bool.false_and, Bool.true_and, Bool.and_true, Bool.and_false, Bool.or_false, Bool.true_or, Bool.or_true, Bool.false_or, Nat.not_le.mpr hi, c_isHeldN hc hi, hk, c_sectionsOf hc, fac_1 hc hNc hi hk2, hb]
      cases An N s (sec N i) <;> simp (disch := omega) only [↓ite_b2r, ↓ite_nb2r, ↓lit_m1, ↓lit_m2, lit_0, lit_1, lit_2, lit_3, lit_4, lit_5, lit_6, lit_7, lit_8, lit_9, lit_10, lit_11, lit_12, lit_13, lit_14, lit_15, lit_16, lit_17, lit_18, lit_19, lit_20, lit_21, lit_22, lit_23, lit_24, lit_25, lit_26, lit_27, lit_28, lit_29, lit_30, lit_31, lit_32, lit_33, lit_34, lit_35, lit_36, lit_40, lit_41, lit_42, lit_44, lit_48, lit_57, lit_59, lit_62, lit_63, lit_64, lit_82, lit_98, lit_99, lit_100, lit_101, lit_102, lit_103, lit_104, lit_105, lit_106, lit_107, lit_108, lit_109, lit_110, lit_111, lit_112, lit_113, lit_119, lit_120, lit_127, lit_128, lit_149, lit_150, lit_202, lit_240, lit_262, lit_894, lit_900, lit_999, lit_1000, lit_2000, lit_2662, lit_2663, lit_2695, lit_2701, lit_2702, lit_3602, lit_10806, nI_add, pk_mul, cl_nI, inb_nI, nI_leI, nI_ltI, nI_eq, nI_eq_m1, m1_eq_nI, nI_eq_m2, div_nI, rem_nI, Option.bind_some, b2_0, b2_1, isb_b2, if_true_, if_false_, ↓reduceIte, reduceCtorEq, not_true_eq_false, not_false_eq_true, bt_hasBit, ult, Nat.add_zero, false_and, true_and, and_true, and_false, Nat.reduceLeDiff, Nat.reduceEqDiff, Nat.reduceLT, Bool.toNat_true, Bool.toNat_false, decide_true, decide_false, Bool.not_true, Bool.not_false, Bool.false_and, Bool.true_and, Bool.and_true, Bool.and_false, Bool.or_false, Bool.true_or, Bool.or_true, Bool.false_or] <;> rfl
  · show L_X1_holdersOf_4 g (nI s) M (n + 1) _ _ = _
    rw [L_X1_holdersOf_4]
    simp (disch := omega) only [↓ite_b2r, ↓ite_nb2r, ↓lit_m1, ↓lit_m2, lit_0, lit_1, lit_2, lit_3, lit_4, lit_5, lit_6, lit_7, lit_8, lit_9, lit_10, lit_11, lit_12, lit_13, lit_14, lit_15, lit_16, lit_17, lit_18, lit_19, lit_20, lit_21, lit_22, lit_23, lit_24, lit_25, lit_26, lit_27, lit_28, lit_29, lit_30, lit_31, lit_32, lit_33, lit_34, lit_35, lit_36, lit_40, lit_41, lit_42, lit_44, lit_48, lit_57, lit_59, lit_62, lit_63, lit_64, lit_82, lit_98, lit_99, lit_100, lit_101, lit_102, lit_103, lit_104, lit_105, lit_106, lit_107, lit_108, lit_109, lit_110, lit_111, lit_112, lit_113, lit_119, lit_120, lit_127, lit_128, lit_149, lit_150, lit_202, lit_240, lit_262, lit_894, lit_900, lit_999, lit_1000, lit_2000, lit_2662, lit_2663, lit_2695, lit_2701, lit_2702, lit_3602, lit_10806, nI_add, pk_mul, cl_nI, inb_nI, nI_leI, nI_ltI, nI_eq, nI_eq_m1, m1_eq_nI, nI_eq_m2, div_nI, rem_nI, Option.bind_some, b2_0, b2_1, isb_b2, if_true_, if_false_, ↓reduceIte, reduceCtorEq, not_true_eq_false, not_false_eq_true, bt_hasBit, ult, Nat.add_zero, false_and, true_and, and_true, and_false, Nat.reduceLeDiff, Nat.reduceEqDiff, Nat.reduceLT, Bool.toNat_true, Bool.toNat_false, decide_true, decide_false, Bool.not_true, Bool.not_false, Bool.false_and, Bool.true_and, Bool.and_true, Bool.and_false, Bool.or_false, Bool.true_or, Bool.or_true, Bool.false_or, Nat.le_refl]
end G2
section KG2
variable {k : Nat} {M : Mem}
theorem chMany_le (N : Row) (p : Nat) : chMany N p ≤ 20 := cntN_le _ _
theorem k_child (h : SR k M) (x y : Int32) : okc k M (f_L_child x y) (f_X9_child x y) := by
  have hr := h.2.1
  have hN := h.1.1
  cases hS : isS (M.1 7 1) x with
  | false =>
    refine okc_r h (r := 1) (b := nI 0) (by decide) ?_ ?_
    · unfold f_L_child f_X8_child B_X8_child_23
      rw [c_childAt_no hN.1.1 hr hS, Option.bind_some, if_pos (show mI = -1 from rfl), show f_X8_faultOf 0 1 1 = _ from fo1 false, fk_flt]
      rfl
    · unfold f_X9_child B_X9_child_28 B_X9_child_29
      simp (disch := omega) only [↓ite_b2r, ↓ite_nb2r, ↓lit_m1, ↓lit_m2, lit_0, lit_1, lit_2, lit_3, lit_4, lit_5, lit_6, lit_7, lit_8, lit_9, lit_10, lit_11, lit_12, lit_13, lit_14, lit_15, lit_16, lit_17, lit_18, lit_19, lit_20, lit_21, lit_22, lit_23, lit_24, lit_25, lit_26, lit_27, lit_28, lit_29, lit_30, lit_31, lit_32, lit_33, lit_34, lit_35, lit_36, lit_40, lit_41, lit_42, lit_44, lit_48, lit_57, lit_59, lit_62, lit_63, lit_64, lit_82, lit_98, lit_99, lit_100, lit_101, lit_102, lit_103, lit_104, lit_105, lit_106, lit_107, lit_108, lit_109, lit_110, lit_111, lit_112, lit_113, lit_119, lit_120, lit_127, lit_128, lit_149, lit_150, lit_202, lit_240, lit_262, lit_894, lit_900, lit_999, lit_1000, lit_2000, lit_2662, lit_2663, lit_2695, lit_2701, lit_2702, lit_3602, lit_10806, nI_add, pk_mul, cl_nI, inb_nI, nI_leI, nI_ltI, nI_eq, nI_eq_m1, m1_eq_nI, nI_eq_m2, div_nI, rem_nI, Option.bind_some, b2_0, b2_1, isb_b2, if_true_, if_false_, ↓reduceIte, reduceCtorEq, not_true_eq_false, not_false_eq_true, bt_hasBit, ult, Nat.add_zero, false_and, true_and, and_true, and_false, Nat.reduceLeDiff, Nat.reduceEqDiff, Nat.reduceLT, Bool.toNat_true, Bool.toNat_false, decide_true, decide_false, Bool.not_true, Bool.not_false, Bool.false_and, Bool.true_and, Bool.and_true, Bool.and_false, Bool.or_false, Bool.true_or, Bool.or_true, Bool.false_or, flt_1, flt_2, flt_3, flt_0, fk_flt, fkl_0, fkl_1, fkl_2, fkl_3, n10, n20, n30, n12, n13, n21, n23, n31, n32, refu_0, refu_1, refu_2, refu_3, m_isSection, hS]
  | true =>
    obtain ⟨p, hp, rfl, hu⟩ := isS_t hS
    have hle := chMany_le (M.1 7 1) p
    have hca := c_childAt hN.1.1 hr hp hu y
    cases hy : inR y (chMany (M.1 7 1) p) with
    | false =>
      have e : chAt (M.1 7 1) p y 20 = mI := chAt_no 20 fun s hs hc e => by
        have := rk_lt hs hc
        rw [← e, inR_nI (by omega) (by omega), decide_eq_true this] at hy
        cases hy
      refine okc_r h (r := 1) (b := nI 0) (by decide) ?_ ?_
      · unfold f_L_child f_X8_child B_X8_child_23
        rw [hca, e, Option.bind_some, if_pos (show mI = -1 from rfl), show f_X8_faultOf 0 1 1 = _ from fo1 false, fk_flt]
        rfl
      · unfold f_X9_child B_X9_child_28 B_X9_child_29
        simp (disch := omega) only [↓ite_b2r, ↓ite_nb2r, ↓lit_m1, ↓lit_m2, lit_0, lit_1, lit_2, lit_3, lit_4, lit_5, lit_6, lit_7, lit_8, lit_9, lit_10, lit_11, lit_12, lit_13, lit_14, lit_15, lit_16, lit_17, lit_18, lit_19, lit_20, lit_21, lit_22, lit_23, lit_24, lit_25, lit_26, lit_27, lit_28, lit_29, lit_30, lit_31, lit_32, lit_33, lit_34, lit_35, lit_36, lit_40, lit_41, lit_42, lit_44, lit_48, lit_57, lit_59, lit_62, lit_63, lit_64, lit_82, lit_98, lit_99, lit_100, lit_101, lit_102, lit_103, lit_104, lit_105, lit_106, lit_107, lit_108, lit_109, lit_110, lit_111, lit_112, lit_113, lit_119, lit_120, lit_127, lit_128, lit_149, lit_150, lit_202, lit_240, lit_262, lit_894, lit_900, lit_999, lit_1000, lit_2000, lit_2662, lit_2663, lit_2695, lit_2701, lit_2702, lit_3602, lit_10806, nI_add, pk_mul, cl_nI, inb_nI, nI_leI, nI_ltI, nI_eq, nI_eq_m1, m1_eq_nI, nI_eq_m2, div_nI, rem_nI, Option.bind_some, b2_0, b2_1, isb_b2, if_true_, if_false_, ↓reduceIte, reduceCtorEq, not_true_eq_false, not_false_eq_true, bt_hasBit, ult, Nat.add_zero, false_and, true_and, and_true, and_false, Nat.reduceLeDiff, Nat.reduceEqDiff, Nat.reduceLT, Bool.toNat_true, Bool.toNat_false, decide_true, decide_false, Bool.not_true, Bool.not_false, Bool.false_and, Bool.true_and, Bool.and_true, Bool.and_false, Bool.or_false, Bool.true_or, Bool.or_true, Bool.false_or, flt_1, flt_2, flt_3, flt_0, fk_flt, fkl_0, fkl_1, fkl_2, fkl_3, n10, n20, n30, n12, n13, n21, n23, n31, n32, refu_0, refu_1, refu_2, refu_3, m_isSection, hS, m_childMany hN.1.1 hp, miN, hy]
    | true =>
      obtain ⟨j, hj, rfl⟩ := inR_t (by omega) hy
      obtain ⟨s, hs, hc, hrk⟩ := rk_ex hN.1.1 hr.2.1 hj
      have e : chAt (M.1 7 1) p (nI j) 20 = nI s := chAt_yes hN.1.1 hc (by rw [hrk]) 20 hs (Nat.le_refl _)
      refine okc_q h (a := nI s) ?_ (fun M1 h1 => ?_)
      · unfold f_L_child f_X8_child B_X8_child_23
        rw [hca, e, Option.bind_some, if_neg (fun z => by have z2 : nI s = mI := z; rw [nI_eq_m1 (by omega)] at z2; exact z2), show f_X8_faultOf 1 1 1 = _ from fo1 true, fk_flt]
        rfl
      · have h71 : M1.1 7 1 = M.1 7 1 := by rw [h1]
        have h72 : (wr M1 7 0 4 (nI 0)).1 7 1 = M.1 7 1 := by rw [wr_other _ _ _ _ _ (by omega)]; exact h71
        have g1 := m_childMany (M := M1) (by rw [h71]; exact hN.1.1) hp
        have g2 := m_childAt (M := wr M1 7 0 4 (nI 0)) (by rw [h72]; exact hN.1.1) hp (nI j)
        rw [h71] at g1
        rw [h72, e] at g2
        unfold f_X9_child B_X9_child_28 B_X9_child_29
        simp (disch := omega) only [↓ite_b2r, ↓ite_nb2r, ↓lit_m1, ↓lit_m2, lit_0, lit_1, lit_2, lit_3, lit_4, lit_5, lit_6, lit_7, lit_8, lit_9, lit_10, lit_11, lit_12, lit_13, lit_14, lit_15, lit_16, lit_17, lit_18, lit_19, lit_20, lit_21, lit_22, lit_23, lit_24, lit_25, lit_26, lit_27, lit_28, lit_29, lit_30, lit_31, lit_32, lit_33, lit_34, lit_35, lit_36, lit_40, lit_41, lit_42, lit_44, lit_48, lit_57, lit_59, lit_62, lit_63, lit_64, lit_82, lit_98, lit_99, lit_100, lit_101, lit_102, lit_103, lit_104, lit_105, lit_106, lit_107, lit_108, lit_109, lit_110, lit_111, lit_112, lit_113, lit_119, lit_120, lit_127, lit_128, lit_149, lit_150, lit_202, lit_240, lit_262, lit_894, lit_900, lit_999, lit_1000, lit_2000, lit_2662, lit_2663, lit_2695, lit_2701, lit_2702, lit_3602, lit_10806, nI_add, pk_mul, cl_nI, inb_nI, nI_leI, nI_ltI, nI_eq, nI_eq_m1, m1_eq_nI, nI_eq_m2, div_nI, rem_nI, Option.bind_some, b2_0, b2_1, isb_b2, if_true_, if_false_, ↓reduceIte, reduceCtorEq, not_true_eq_false, not_false_eq_true, bt_hasBit, ult, Nat.add_zero, false_and, true_and, and_true, and_false, Nat.reduceLeDiff, Nat.reduceEqDiff, Nat.reduceLT, Bool.toNat_true, Bool.toNat_false, decide_true, decide_false, Bool.not_true, Bool.not_false, Bool.false_and, Bool.true_and, Bool.and_true, Bool.and_false, Bool.or_false, Bool.true_or, Bool.or_true, Bool.false_or, flt_1, flt_2, flt_3, flt_0, fk_flt, fkl_0, fkl_1, fkl_2, fkl_3, n10, n20, n30, n12, n13, n21, n23, n31, n32, refu_0, refu_1, refu_2, refu_3, m_isSection, h71, hS, g1, miN, hy, g2]
theorem k_holders (h : SR k M) (x : Int32) : okc k M (f_L_holders x) (f_X9_holders x) := by
  have hr := h.2.1
  have hN := h.1.1
  cases hS : isS (M.1 7 1) x with
  | false =>
    refine okc_r h (r := 1) (b := nI 0) (by decide) ?_ ?_
    · unfold f_L_holders f_X8_holders
      rw [c_has hr.1 hN.1.1, hS, Option.bind_some, fo1, fk_flt]
      rfl
    · unfold f_X9_holders B_X9_holders_14
      simp (disch := omega) only [↓ite_b2r, ↓ite_nb2r, ↓lit_m1, ↓lit_m2, lit_0, lit_1, lit_2, lit_3, lit_4, lit_5, lit_6, lit_7, lit_8, lit_9, lit_10, lit_11, lit_12, lit_13, lit_14, lit_15, lit_16, lit_17, lit_18, lit_19, lit_20, lit_21, lit_22, lit_23, lit_24, lit_25, lit_26, lit_27, lit_28, lit_29, lit_30, lit_31, lit_32, lit_33, lit_34, lit_35, lit_36, lit_40, lit_41, lit_42, lit_44, lit_48, lit_57, lit_59, lit_62, lit_63, lit_64, lit_82, lit_98, lit_99, lit_100, lit_101, lit_102, lit_103, lit_104, lit_105, lit_106, lit_107, lit_108, lit_109, lit_110, lit_111, lit_112, lit_113, lit_119, lit_120, lit_127, lit_128, lit_149, lit_150, lit_202, lit_240, lit_262, lit_894, lit_900, lit_999, lit_1000, lit_2000, lit_2662, lit_2663, lit_2695, lit_2701, lit_2702, lit_3602, lit_10806, nI_add, pk_mul, cl_nI, inb_nI, nI_leI, nI_ltI, nI_eq, nI_eq_m1, m1_eq_nI, nI_eq_m2, div_nI, rem_nI, Option.bind_some, b2_0, b2_1, isb_b2, if_true_, if_false_, ↓reduceIte, reduceCtorEq, not_true_eq_false, not_false_eq_true, bt_hasBit, ult, Nat.add_zero, false_and, true_and, and_true, and_false, Nat.reduceLeDiff, Nat.reduceEqDiff, Nat.reduceLT, Bool.toNat_true, Bool.toNat_false, decide_true, decide_false, Bool.not_true, Bool.not_false, Bool.false_and, Bool.true_and, Bool.and_true, Bool.and_false, Bool.or_false, Bool.true_or, Bool.or_true, Bool.false_or, flt_1, flt_2, flt_3, flt_0, fk_flt, fkl_0, fkl_1, fkl_2, fkl_3, n10, n20, n30, n12, n13, n21, n23, n31, n32, refu_0, refu_1, refu_2, refu_3, m_isSection, hS]
  | true =>
    obtain ⟨s, hs, rfl, hu⟩ := isS_t hS
    refine okc_q h (a := Hol (M.1 7 1) s) ?_ (fun M1 h1 => ?_)
    · unfold f_L_holders f_X8_holders
      rw [c_has hr.1 hN.1.1, hS, Option.bind_some, fo1, fk_flt, flt_0, if_pos rfl, c_holdersOf hr.1 hr.2.2.1 hN.1.2.1 hs hu]
      rfl
    · have h71 : M1.1 7 1 = M.1 7 1 := by rw [h1]
      have h72 : (wr M1 7 0 4 (nI 0)).1 7 1 = M.1 7 1 := by rw [wr_other _ _ _ _ _ (by omega)]; exact h71
      have g1 := m_holdersOf (M := wr M1 7 0 4 (nI 0)) (by rw [h72]; exact hN.1.1) (by rw [h72]; exact hN.1.2.1) hs (by rw [h72]; exact hu)
      rw [h72] at g1
      unfold f_X9_holders B_X9_holders_14
      simp (disch := omega) only [↓ite_b2r, ↓ite_nb2r, ↓lit_m1, ↓lit_m2, lit_0, lit_1, lit_2, lit_3, lit_4, lit_5, lit_6, lit_7, lit_8, lit_9, lit_10, lit_11, lit_12, lit_13, lit_14, lit_15, lit_16, lit_17, lit_18, lit_19, lit_20, lit_21, lit_22, lit_23, lit_24, lit_25, lit_26, lit_27, lit_28, lit_29, lit_30, lit_31, lit_32, lit_33, lit_34, lit_35, lit_36, lit_40, lit_41, lit_42, lit_44, lit_48, lit_57, lit_59, lit_62, lit_63, lit_64, lit_82, lit_98, lit_99, lit_100, lit_101, lit_102, lit_103, lit_104, lit_105, lit_106, lit_107, lit_108, lit_109, lit_110, lit_111, lit_112, lit_113, lit_119, lit_120, lit_127, lit_128, lit_149, lit_150, lit_202, lit_240, lit_262, lit_894, lit_900, lit_999, lit_1000, lit_2000, lit_2662, lit_2663, lit_2695, lit_2701, lit_2702, lit_3602, lit_10806, nI_add, pk_mul, cl_nI, inb_nI, nI_leI, nI_ltI, nI_eq, nI_eq_m1, m1_eq_nI, nI_eq_m2, div_nI, rem_nI, Option.bind_some, b2_0, b2_1, isb_b2, if_true_, if_false_, ↓reduceIte, reduceCtorEq, not_true_eq_false, not_false_eq_true, bt_hasBit, ult, Nat.add_zero, false_and, true_and, and_true, and_false, Nat.reduceLeDiff, Nat.reduceEqDiff, Nat.reduceLT, Bool.toNat_true, Bool.toNat_false, decide_true, decide_false, Bool.not_true, Bool.not_false, Bool.false_and, Bool.true_and, Bool.and_true, Bool.and_false, Bool.or_false, Bool.true_or, Bool.or_true, Bool.false_or, flt_1, flt_2, flt_3, flt_0, fk_flt, fkl_0, fkl_1, fkl_2, fkl_3, n10, n20, n30, n12, n13, n21, n23, n31, n32, refu_0, refu_1, refu_2, refu_3, m_isSection, h71, hS, g1]
theorem k_conflicts (h : SR k M) (x : Int32) : okc k M (f_L_conflicts x) (f_X9_conflicts x) := by
  have hr := h.2.1
  have hN := h.1.1
  have hf := c_checkOutFault (M := M) (g := 0) hr.2.2.1 x
  cases hC : isC (M.1 7 1) x with
  | false =>
    refine okc_r h (r := 1) (b := nI 0) (by decide) ?_ ?_
    · unfold f_L_conflicts f_X8_conflicts
      rw [hf, hC, fk_flt]
      rfl
    · unfold f_X9_conflicts B_X9_conflicts_14
      simp (disch := omega) only [↓ite_b2r, ↓ite_nb2r, ↓lit_m1, ↓lit_m2, lit_0, lit_1, lit_2, lit_3, lit_4, lit_5, lit_6, lit_7, lit_8, lit_9, lit_10, lit_11, lit_12, lit_13, lit_14, lit_15, lit_16, lit_17, lit_18, lit_19, lit_20, lit_21, lit_22, lit_23, lit_24, lit_25, lit_26, lit_27, lit_28, lit_29, lit_30, lit_31, lit_32, lit_33, lit_34, lit_35, lit_36, lit_40, lit_41, lit_42, lit_44, lit_48, lit_57, lit_59, lit_62, lit_63, lit_64, lit_82, lit_98, lit_99, lit_100, lit_101, lit_102, lit_103, lit_104, lit_105, lit_106, lit_107, lit_108, lit_109, lit_110, lit_111, lit_112, lit_113, lit_119, lit_120, lit_127, lit_128, lit_149, lit_150, lit_202, lit_240, lit_262, lit_894, lit_900, lit_999, lit_1000, lit_2000, lit_2662, lit_2663, lit_2695, lit_2701, lit_2702, lit_3602, lit_10806, nI_add, pk_mul, cl_nI, inb_nI, nI_leI, nI_ltI, nI_eq, nI_eq_m1, m1_eq_nI, nI_eq_m2, div_nI, rem_nI, Option.bind_some, b2_0, b2_1, isb_b2, if_true_, if_false_, ↓reduceIte, reduceCtorEq, not_true_eq_false, not_false_eq_true, bt_hasBit, ult, Nat.add_zero, false_and, true_and, and_true, and_false, Nat.reduceLeDiff, Nat.reduceEqDiff, Nat.reduceLT, Bool.toNat_true, Bool.toNat_false, decide_true, decide_false, Bool.not_true, Bool.not_false, Bool.false_and, Bool.true_and, Bool.and_true, Bool.and_false, Bool.or_false, Bool.true_or, Bool.or_true, Bool.false_or, flt_1, flt_2, flt_3, flt_0, fk_flt, fkl_0, fkl_1, fkl_2, fkl_3, n10, n20, n30, n12, n13, n21, n23, n31, n32, refu_0, refu_1, refu_2, refu_3, m_isCheck, hC]
  | true =>
    obtain ⟨c, hc, rfl, hk⟩ := isC_t hC
    refine okc_g (M' := M) h (a := nI (cntCf (M.1 7 1) c)) ?_ rfl (fun _ _ _ => rfl) (fun _ _ => rfl) rfl (fun M1 h1 => ?_)
    · unfold f_L_conflicts f_X8_conflicts
      rw [hf, hC, fk_flt, flt_0, if_pos rfl, c_countConflicts hr.1 hr.2.2.1 hr.2.2.2.1 hN.1.2.1 hc hk]
      rfl
    · have h71 : M1.1 7 1 = M.1 7 1 := by rw [h1]
      have h72 : (wr M1 7 0 4 (nI 0)).1 7 1 = M.1 7 1 := by rw [wr_other _ _ _ _ _ (by omega)]; exact h71
      have g1 := m_merges (M := wr M1 7 0 4 (nI 0)) (p := 0) (by rw [h72]; exact hN.1.1) (by rw [h72]; exact hN.1.2.1) hc (by rw [h72]; exact hk) (by omega)
      rw [h72] at g1
      refine ⟨wrs (wr M1 7 0 4 (nI 0)) 7 6 (mixF (mgK (M.1 7 1) c 0) ((wr M1 7 0 4 (nI 0)).1 7 6) 120), ?_, rfl, ?_, fun g hg => ?_, ?_, ?_, ?_, ?_, ?_⟩
      · unfold f_X9_conflicts B_X9_conflicts_14
        simp (disch := omega) only [↓ite_b2r, ↓ite_nb2r, ↓lit_m1, ↓lit_m2, lit_0, lit_1, lit_2, lit_3, lit_4, lit_5, lit_6, lit_7, lit_8, lit_9, lit_10, lit_11, lit_12, lit_13, lit_14, lit_15, lit_16, lit_17, lit_18, lit_19, lit_20, lit_21, lit_22, lit_23, lit_24, lit_25, lit_26, lit_27, lit_28, lit_29, lit_30, lit_31, lit_32, lit_33, lit_34, lit_35, lit_36, lit_40, lit_41, lit_42, lit_44, lit_48, lit_57, lit_59, lit_62, lit_63, lit_64, lit_82, lit_98, lit_99, lit_100, lit_101, lit_102, lit_103, lit_104, lit_105, lit_106, lit_107, lit_108, lit_109, lit_110, lit_111, lit_112, lit_113, lit_119, lit_120, lit_127, lit_128, lit_149, lit_150, lit_202, lit_240, lit_262, lit_894, lit_900, lit_999, lit_1000, lit_2000, lit_2662, lit_2663, lit_2695, lit_2701, lit_2702, lit_3602, lit_10806, nI_add, pk_mul, cl_nI, inb_nI, nI_leI, nI_ltI, nI_eq, nI_eq_m1, m1_eq_nI, nI_eq_m2, div_nI, rem_nI, Option.bind_some, b2_0, b2_1, isb_b2, if_true_, if_false_, ↓reduceIte, reduceCtorEq, not_true_eq_false, not_false_eq_true, bt_hasBit, ult, Nat.add_zero, false_and, true_and, and_true, and_false, Nat.reduceLeDiff, Nat.reduceEqDiff, Nat.reduceLT, Bool.toNat_true, Bool.toNat_false, decide_true, decide_false, Bool.not_true, Bool.not_false, Bool.false_and, Bool.true_and, Bool.and_true, Bool.and_false, Bool.or_false, Bool.true_or, Bool.or_true, Bool.false_or, flt_1, flt_2, flt_3, flt_0, fk_flt, fkl_0, fkl_1, fkl_2, fkl_3, n10, n20, n30, n12, n13, n21, n23, n31, n32, refu_0, refu_1, refu_2, refu_3, m_isCheck, h71, hC, g1]
      · rw [wrs_other _ _ _ _ (by omega), wr_same, upd_same]
      · rw [wrs_ng _ _ _ (by omega), wr_ng _ _ _ _ (by omega)]
      · rw [wrs_other _ _ _ _ (by omega), h72, h71]; exact eqR.rf
      · rw [wrs_other _ _ _ _ (by omega), wr_other _ _ _ _ _ (by omega)]
      · rw [wrs_other _ _ _ _ (by omega), wr_other _ _ _ _ _ (by omega)]
      · rw [wrs_other _ _ _ _ (by omega), wr_same, upd_other (by omega)]
      · rw [wrs_other _ _ _ _ (by omega), wr_same, upd_other (by omega)]
theorem orS_s' (p : Nat → Bool) (f : Nat → Nat) (n : Nat) (x : Int32) : x ||| orS p f (n + 1) = if p n = true then (x ||| orS p f n) ||| (nI 1 <<< (nI (f n) &&& nI 31)) else x ||| orS p f n := by
  rw [orS_s]
  by_cases h : p n = true
  · rw [if_pos h, if_pos h]
    exact bt_ext fun i _ => by rw [bt_or, bt_or, bt_or, bt_or, Bool.or_assoc]
  · rw [if_neg h, if_neg h]
theorem m_waits116 {M : Mem} (h : WFt (M.1 7 1)) (hq : WFq (M.1 7 1)) {q s : Nat} (e : Bool) (hk : q ≤ wq (M.1 7 1)) (hs : s < 20) (hus : us (M.1 7 1) s = true) (x : Int32) : L_X9_waitsFor_116 (nI q) (nI s) (b2 e) M FU x 0 = some (x ||| orS (fun j => Blk (M.1 7 1) j s e) (wus (M.1 7 1)) q, M) := by
  have hq8 := wq_le hq
  refine loop0 (fun n (σ : Int32 × Int32) => L_X9_waitsFor_116 (nI q) (nI s) (b2 e) M n σ.1 σ.2) (fun i => (x ||| orS (fun j => Blk (M.1 7 1) j s e) (wus (M.1 7 1)) i, nI i)) q (x, nI 0) ?_ (fun n i hi => ?_) (fun n => ?_) FU (FU_lt (by omega))
  · rw [show orS (fun j => Blk (M.1 7 1) j s e) (wus (M.1 7 1)) 0 = nI 0 from rfl, or_0]
  · show L_X9_waitsFor_116 (nI q) (nI s) (b2 e) M (n + 1) _ _ = L_X9_waitsFor_116 (nI q) (nI s) (b2 e) M n _ _
    have eb := m_isBlocked h hq e (show i < wq (M.1 7 1) by omega) hs hus
    have ew : M.1 7 1 (2663 + 4 * i) = nI (wus (M.1 7 1) i) := (wus_eq hq (by omega)).1
    rw [L_X9_waitsFor_116, orS_s']
    unfold B_X9_waitsFor_153 f_X9_wait
    cases hb : Blk (M.1 7 1) i s e with
    | false =>
      rw [hb] at eb
      simp (disch := omega) only [↓ite_b2r, ↓ite_nb2r, ↓lit_m1, ↓lit_m2, lit_0, lit_1, lit_2, lit_3, lit_4, lit_5, lit_6, lit_7, lit_8, lit_9, lit_10, lit_11, lit_12, lit_13, lit_14, lit_15, lit_16, lit_17, lit_18, lit_19, lit_20, lit_21, lit_22, lit_23, lit_24, lit_25, lit_26, lit_27, lit_28, lit_29, lit_30, lit_31, lit_32, lit_33, lit_34, lit_35, lit_36, lit_40, lit_41, lit_42, lit_44, lit_48, lit_57, lit_59, lit_62, lit_63, lit_64, lit_82, lit_98, lit_99, lit_100, lit_101, lit_102, lit_103, lit_104, lit_105, lit_106, lit_107, lit_108, lit_109, lit_110, lit_111, lit_112, lit_113, lit_119, lit_120, lit_127, lit_128, lit_149, lit_150, lit_202, lit_240, lit_262, lit_894, lit_900, lit_999, lit_1000, lit_2000, lit_2662, lit_2663, lit_2695, lit_2701, lit_2702, lit_3602, lit_10806, nI_add, pk_mul, cl_nI, inb_nI, nI_leI, nI_ltI, nI_eq, nI_eq_m1, m1_eq_nI, nI_eq_m2, div_nI, rem_nI, Option.bind_some, b2_0, b2_1, isb_b2, if_true_, if_false_, ↓reduceIte, reduceCtorEq, not_true_eq_false, not_false_eq_true, bt_hasBit, ult, Nat.add_zero, false_and, true_and, and_true, and_false, Nat.reduceLeDiff, Nat.reduceEqDiff, Nat.reduceLT, Bool.toNat_true, Bool.toNat_false, decide_true, decide_false, Bool.not_true, Bool.not_false, Bool.false_and, Bool.true_and, Bool.and_true, Bool.and_false, Bool.or_false, Bool.true_or, Bool.or_true, Bool.false_or, Nat.not_le.mpr hi, eb, or_0] <;> rfl
    | true =>
      rw [hb] at eb
      simp (disch := omega) only [↓ite_b2r, ↓ite_nb2r, ↓lit_m1, ↓lit_m2, lit_0, lit_1, lit_2, lit_3, lit_4, lit_5, lit_6, lit_7, lit_8, lit_9, lit_10, lit_11, lit_12, lit_13, lit_14, lit_15, lit_16, lit_17, lit_18, lit_19, lit_20, lit_21, lit_22, lit_23, lit_24, lit_25, lit_26, lit_27, lit_28, lit_29, lit_30, lit_31, lit_32, lit_33, lit_34, lit_35, lit_36, lit_40, lit_41, lit_42, lit_44, lit_48, lit_57, lit_59, lit_62, lit_63, lit_64, lit_82, lit_98, lit_99, lit_100, lit_101, lit_102, lit_103, lit_104, lit_105, lit_106, lit_107, lit_108, lit_109, lit_110, lit_111, lit_112, lit_113, lit_119, lit_120, lit_127, lit_128, lit_149, lit_150, lit_202, lit_240, lit_262, lit_894, lit_900, lit_999, lit_1000, lit_2000, lit_2662, lit_2663, lit_2695, lit_2701, lit_2702, lit_3602, lit_10806, nI_add, pk_mul, cl_nI, inb_nI, nI_leI, nI_ltI, nI_eq, nI_eq_m1, m1_eq_nI, nI_eq_m2, div_nI, rem_nI, Option.bind_some, b2_0, b2_1, isb_b2, if_true_, if_false_, ↓reduceIte, reduceCtorEq, not_true_eq_false, not_false_eq_true, bt_hasBit, ult, Nat.add_zero, false_and, true_and, and_true, and_false, Nat.reduceLeDiff, Nat.reduceEqDiff, Nat.reduceLT, Bool.toNat_true, Bool.toNat_false, decide_true, decide_false, Bool.not_true, Bool.not_false, Bool.false_and, Bool.true_and, Bool.and_true, Bool.and_false, Bool.or_false, Bool.true_or, Bool.or_true, Bool.false_or, Nat.not_le.mpr hi, eb, ew] <;> rfl
  · show L_X9_waitsFor_116 (nI q) (nI s) (b2 e) M (n + 1) _ _ = _
    rw [L_X9_waitsFor_116]
    simp (disch := omega) only [↓ite_b2r, ↓ite_nb2r, ↓lit_m1, ↓lit_m2, lit_0, lit_1, lit_2, lit_3, lit_4, lit_5, lit_6, lit_7, lit_8, lit_9, lit_10, lit_11, lit_12, lit_13, lit_14, lit_15, lit_16, lit_17, lit_18, lit_19, lit_20, lit_21, lit_22, lit_23, lit_24, lit_25, lit_26, lit_27, lit_28, lit_29, lit_30, lit_31, lit_32, lit_33, lit_34, lit_35, lit_36, lit_40, lit_41, lit_42, lit_44, lit_48, lit_57, lit_59, lit_62, lit_63, lit_64, lit_82, lit_98, lit_99, lit_100, lit_101, lit_102, lit_103, lit_104, lit_105, lit_106, lit_107, lit_108, lit_109, lit_110, lit_111, lit_112, lit_113, lit_119, lit_120, lit_127, lit_128, lit_149, lit_150, lit_202, lit_240, lit_262, lit_894, lit_900, lit_999, lit_1000, lit_2000, lit_2662, lit_2663, lit_2695, lit_2701, lit_2702, lit_3602, lit_10806, nI_add, pk_mul, cl_nI, inb_nI, nI_leI, nI_ltI, nI_eq, nI_eq_m1, m1_eq_nI, nI_eq_m2, div_nI, rem_nI, Option.bind_some, b2_0, b2_1, isb_b2, if_true_, if_false_, ↓reduceIte, reduceCtorEq, not_true_eq_false, not_false_eq_true, bt_hasBit, ult, Nat.add_zero, false_and, true_and, and_true, and_false, Nat.reduceLeDiff, Nat.reduceEqDiff, Nat.reduceLT, Bool.toNat_true, Bool.toNat_false, decide_true, decide_false, Bool.not_true, Bool.not_false, Bool.false_and, Bool.true_and, Bool.and_true, Bool.and_false, Bool.or_false, Bool.true_or, Bool.or_true, Bool.false_or, Nat.le_refl]
theorem m_waits69 {M : Mem} (h : WFt (M.1 7 1)) (hc : WFc (M.1 7 1)) (hq : WFq (M.1 7 1)) {u q s : Nat} (e : Bool) (hk : q ≤ wq (M.1 7 1)) (hu : u < 6) (hs : s < 20) (hus : us (M.1 7 1) s = true) : L_X9_waitsFor_69 (nI u) (nI q) (nI s) (b2 e) M FU 0 0 = some (orS (Bar (M.1 7 1) u s e) (usr (M.1 7 1)) 10 ||| orS (fun j => Blk (M.1 7 1) j s e) (wus (M.1 7 1)) q, M) := by
  refine loop (fun n (σ : Int32 × Int32) => L_X9_waitsFor_69 (nI u) (nI q) (nI s) (b2 e) M n σ.1 σ.2) (fun i => (orS (Bar (M.1 7 1) u s e) (usr (M.1 7 1)) i, nI i)) 10 (fun n i hi => ?_) (fun n => ?_) FU (by decide)
  · show L_X9_waitsFor_69 (nI u) (nI q) (nI s) (b2 e) M (n + 1) _ _ = L_X9_waitsFor_69 (nI u) (nI q) (nI s) (b2 e) M n _ _
    have eb := m_bars h hc e hu hs hus hi
    rw [L_X9_waitsFor_69, orS_s]
    unfold B_X9_waitsFor_104
    cases hb : Bar (M.1 7 1) u s e i with
    | false =>
      rw [hb] at eb
      simp (disch := omega) only [↓ite_b2r, ↓ite_nb2r, ↓lit_m1, ↓lit_m2, lit_0, lit_1, lit_2, lit_3, lit_4, lit_5, lit_6, lit_7, lit_8, lit_9, lit_10, lit_11, lit_12, lit_13, lit_14, lit_15, lit_16, lit_17, lit_18, lit_19, lit_20, lit_21, lit_22, lit_23, lit_24, lit_25, lit_26, lit_27, lit_28, lit_29, lit_30, lit_31, lit_32, lit_33, lit_34, lit_35, lit_36, lit_40, lit_41, lit_42, lit_44, lit_48, lit_57, lit_59, lit_62, lit_63, lit_64, lit_82, lit_98, lit_99, lit_100, lit_101, lit_102, lit_103, lit_104, lit_105, lit_106, lit_107, lit_108, lit_109, lit_110, lit_111, lit_112, lit_113, lit_119, lit_120, lit_127, lit_128, lit_149, lit_150, lit_202, lit_240, lit_262, lit_894, lit_900, lit_999, lit_1000, lit_2000, lit_2662, lit_2663, lit_2695, lit_2701, lit_2702, lit_3602, lit_10806, nI_add, pk_mul, cl_nI, inb_nI, nI_leI, nI_ltI, nI_eq, nI_eq_m1, m1_eq_nI, nI_eq_m2, div_nI, rem_nI, Option.bind_some, b2_0, b2_1, isb_b2, if_true_, if_false_, ↓reduceIte, reduceCtorEq, not_true_eq_false, not_false_eq_true, bt_hasBit, ult, Nat.add_zero, false_and, true_and, and_true, and_false, Nat.reduceLeDiff, Nat.reduceEqDiff, Nat.reduceLT, Bool.toNat_true, Bool.toNat_false, decide_true, decide_false, Bool.not_true, Bool.not_false, Bool.false_and, Bool.true_and, Bool.and_true, Bool.and_false, Bool.or_false, Bool.true_or, Bool.or_true, Bool.false_or, Nat.not_le.mpr hi, eb, or_0] <;> rfl
    | true =>
      rw [hb] at eb
      simp (disch := omega) only [↓ite_b2r, ↓ite_nb2r, ↓lit_m1, ↓lit_m2, lit_0, lit_1, lit_2, lit_3, lit_4, lit_5, lit_6, lit_7, lit_8, lit_9, lit_10, lit_11, lit_12, lit_13, lit_14, lit_15, lit_16, lit_17, lit_18, lit_19, lit_20, lit_21, lit_22, lit_23, lit_24, lit_25, lit_26, lit_27, lit_28, lit_29, lit_30, lit_31, lit_32, lit_33, lit_34, lit_35, lit_36, lit_40, lit_41, lit_42, lit_44, lit_48, lit_57, lit_59, lit_62, lit_63, lit_64, lit_82, lit_98, lit_99, lit_100, lit_101, lit_102, lit_103, lit_104, lit_105, lit_106, lit_107, lit_108, lit_109, lit_110, lit_111, lit_112, lit_113, lit_119, lit_120, lit_127, lit_128, lit_149, lit_150, lit_202, lit_240, lit_262, lit_894, lit_900, lit_999, lit_1000, lit_2000, lit_2662, lit_2663, lit_2695, lit_2701, lit_2702, lit_3602, lit_10806, nI_add, pk_mul, cl_nI, inb_nI, nI_leI, nI_ltI, nI_eq, nI_eq_m1, m1_eq_nI, nI_eq_m2, div_nI, rem_nI, Option.bind_some, b2_0, b2_1, isb_b2, if_true_, if_false_, ↓reduceIte, reduceCtorEq, not_true_eq_false, not_false_eq_true, bt_hasBit, ult, Nat.add_zero, false_and, true_and, and_true, and_false, Nat.reduceLeDiff, Nat.reduceEqDiff, Nat.reduceLT, Bool.toNat_true, Bool.toNat_false, decide_true, decide_false, Bool.not_true, Bool.not_false, Bool.false_and, Bool.true_and, Bool.and_true, Bool.and_false, Bool.or_false, Bool.true_or, Bool.or_true, Bool.false_or, Nat.not_le.mpr hi, eb, m_get, usr_eq hc hi] <;> rfl
  · show L_X9_waitsFor_69 (nI u) (nI q) (nI s) (b2 e) M (n + 1) _ _ = _
    rw [L_X9_waitsFor_69]
    dsimp only
    rw [if_pos (show (10 : Int32) ≤ nI 10 from Int32.le_refl _)]
    exact m_waits116 h hq e hk hs hus _
theorem k_waitsFor (h : SR k M) (x : Int32) : okc k M (f_L_waitsFor x) (f_X9_waitsFor x) := by
  have hr := h.2.1
  have hN := h.1.1
  have hq := hN.1.2.2.2.1
  have hf := c_waitingFault (M := M) (g := 0) hr.2.2.2.2.1 hq x
  have hq8 := wq_le hq
  have eu : ∀ x, f_X9_isUser x = b2 (inR x 6) := fun x => m_within x 5 (by decide)
  cases hU : inR x 6 with
  | false =>
    refine okc_r h (r := 1) (b := nI 0) (by decide) ?_ ?_
    · unfold f_L_waitsFor f_X8_waitsFor
      rw [hf, hU, Option.bind_some, fk_flt]
      rfl
    · unfold f_X9_waitsFor B_X9_waitsFor_26
      simp (disch := omega) only [↓ite_b2r, ↓ite_nb2r, ↓lit_m1, ↓lit_m2, lit_0, lit_1, lit_2, lit_3, lit_4, lit_5, lit_6, lit_7, lit_8, lit_9, lit_10, lit_11, lit_12, lit_13, lit_14, lit_15, lit_16, lit_17, lit_18, lit_19, lit_20, lit_21, lit_22, lit_23, lit_24, lit_25, lit_26, lit_27, lit_28, lit_29, lit_30, lit_31, lit_32, lit_33, lit_34, lit_35, lit_36, lit_40, lit_41, lit_42, lit_44, lit_48, lit_57, lit_59, lit_62, lit_63, lit_64, lit_82, lit_98, lit_99, lit_100, lit_101, lit_102, lit_103, lit_104, lit_105, lit_106, lit_107, lit_108, lit_109, lit_110, lit_111, lit_112, lit_113, lit_119, lit_120, lit_127, lit_128, lit_149, lit_150, lit_202, lit_240, lit_262, lit_894, lit_900, lit_999, lit_1000, lit_2000, lit_2662, lit_2663, lit_2695, lit_2701, lit_2702, lit_3602, lit_10806, nI_add, pk_mul, cl_nI, inb_nI, nI_leI, nI_ltI, nI_eq, nI_eq_m1, m1_eq_nI, nI_eq_m2, div_nI, rem_nI, Option.bind_some, b2_0, b2_1, isb_b2, if_true_, if_false_, ↓reduceIte, reduceCtorEq, not_true_eq_false, not_false_eq_true, bt_hasBit, ult, Nat.add_zero, false_and, true_and, and_true, and_false, Nat.reduceLeDiff, Nat.reduceEqDiff, Nat.reduceLT, Bool.toNat_true, Bool.toNat_false, decide_true, decide_false, Bool.not_true, Bool.not_false, Bool.false_and, Bool.true_and, Bool.and_true, Bool.and_false, Bool.or_false, Bool.true_or, Bool.or_true, Bool.false_or, flt_1, flt_2, flt_3, flt_0, fk_flt, fkl_0, fkl_1, fkl_2, fkl_3, n10, n20, n30, n12, n13, n21, n23, n31, n32, refu_0, refu_1, refu_2, refu_3, eu, hU]
  | true =>
    by_cases hp : pl (M.1 7 1) x = mI
    · refine okc_r h (r := 2) (b := nI 0) (by decide) ?_ ?_
      · unfold f_L_waitsFor f_X8_waitsFor
        rw [hf, hU, hp, decide_eq_true rfl, Option.bind_some, fk_flt]
        rfl
      · unfold f_X9_waitsFor B_X9_waitsFor_26
        simp (disch := omega) only [↓ite_b2r, ↓ite_nb2r, ↓lit_m1, ↓lit_m2, lit_0, lit_1, lit_2, lit_3, lit_4, lit_5, lit_6, lit_7, lit_8, lit_9, lit_10, lit_11, lit_12, lit_13, lit_14, lit_15, lit_16, lit_17, lit_18, lit_19, lit_20, lit_21, lit_22, lit_23, lit_24, lit_25, lit_26, lit_27, lit_28, lit_29, lit_30, lit_31, lit_32, lit_33, lit_34, lit_35, lit_36, lit_40, lit_41, lit_42, lit_44, lit_48, lit_57, lit_59, lit_62, lit_63, lit_64, lit_82, lit_98, lit_99, lit_100, lit_101, lit_102, lit_103, lit_104, lit_105, lit_106, lit_107, lit_108, lit_109, lit_110, lit_111, lit_112, lit_113, lit_119, lit_120, lit_127, lit_128, lit_149, lit_150, lit_202, lit_240, lit_262, lit_894, lit_900, lit_999, lit_1000, lit_2000, lit_2662, lit_2663, lit_2695, lit_2701, lit_2702, lit_3602, lit_10806, nI_add, pk_mul, cl_nI, inb_nI, nI_leI, nI_ltI, nI_eq, nI_eq_m1, m1_eq_nI, nI_eq_m2, div_nI, rem_nI, Option.bind_some, b2_0, b2_1, isb_b2, if_true_, if_false_, ↓reduceIte, reduceCtorEq, not_true_eq_false, not_false_eq_true, bt_hasBit, ult, Nat.add_zero, false_and, true_and, and_true, and_false, Nat.reduceLeDiff, Nat.reduceEqDiff, Nat.reduceLT, Bool.toNat_true, Bool.toNat_false, decide_true, decide_false, Bool.not_true, Bool.not_false, Bool.false_and, Bool.true_and, Bool.and_true, Bool.and_false, Bool.or_false, Bool.true_or, Bool.or_true, Bool.false_or, flt_1, flt_2, flt_3, flt_0, fk_flt, fkl_0, fkl_1, fkl_2, fkl_3, n10, n20, n30, n12, n13, n21, n23, n31, n32, refu_0, refu_1, refu_2, refu_3, eu, hU, m_placeOf hq, hp]
    · obtain ⟨q, hq1, hq2, hq3⟩ := pl_k hq hp
      obtain ⟨u, hu, rfl⟩ := inR_t (by decide) hU
      obtain ⟨w1, w2⟩ := wus_eq hq hq1
      have euq : wus (M.1 7 1) q = u := by
        rw [w1, nI_eq (by omega) (by omega)] at hq3
        exact hq3
      obtain ⟨s1, s2, s3⟩ := wse_eq hq hq1
      have s4 := wsh_eq hq hq1
      refine okc_q h (a := orS (Bar (M.1 7 1) u (wse (M.1 7 1) q) (wsh (M.1 7 1) q)) (usr (M.1 7 1)) 10 ||| orS (fun j => Blk (M.1 7 1) j (wse (M.1 7 1) q) (wsh (M.1 7 1) q)) (wus (M.1 7 1)) q) ?_ (fun M1 h1 => ?_)
      · unfold f_L_waitsFor f_X8_waitsFor f_X1_usersBefore
        rw [hf, hU, decide_eq_false hp, Option.bind_some, fk_flt, Bool.not_false, flt_0, if_pos rfl, c_placeOf hr.2.2.2.2.1 hq, hq2, Option.bind_some, c_absorbedBy hN.1 hr hq1, Option.bind_some, c_hinderersOf hN.1 hr hq1, Option.bind_some, c_blockersOf hN.1 hr hq1, euq]
        rfl
      · have h71 : M1.1 7 1 = M.1 7 1 := by rw [h1]
        have h72 : (wr M1 7 0 4 (nI 0)).1 7 1 = M.1 7 1 := by rw [wr_other _ _ _ _ _ (by omega)]; exact h71
        have g1 := m_placeOf (M := M1) (by rw [h71]; exact hq) (nI u)
        have g2 := m_placeOf (M := wr M1 7 0 4 (nI 0)) (by rw [h72]; exact hq) (nI u)
        have g3 := m_waits69 (M := wr M1 7 0 4 (nI 0)) (by rw [h72]; exact hN.1.1) (by rw [h72]; exact hN.1.2.1) (by rw [h72]; exact hq) (u := u) (q := q) (s := wse (M.1 7 1) q) (wsh (M.1 7 1) q) (by rw [h72]; omega) hu s2 (by rw [h72]; exact s3)
        rw [h71, hq2] at g1
        rw [h72, hq2] at g2
        rw [h72] at g3
        unfold f_X9_waitsFor B_X9_waitsFor_26 f_X9_wait
        simp (disch := omega) only [↓ite_b2r, ↓ite_nb2r, ↓lit_m1, ↓lit_m2, lit_0, lit_1, lit_2, lit_3, lit_4, lit_5, lit_6, lit_7, lit_8, lit_9, lit_10, lit_11, lit_12, lit_13, lit_14, lit_15, lit_16, lit_17, lit_18, lit_19, lit_20, lit_21, lit_22, lit_23, lit_24, lit_25, lit_26, lit_27, lit_28, lit_29, lit_30, lit_31, lit_32, lit_33, lit_34, lit_35, lit_36, lit_40, lit_41, lit_42, lit_44, lit_48, lit_57, lit_59, lit_62, lit_63, lit_64, lit_82, lit_98, lit_99, lit_100, lit_101, lit_102, lit_103, lit_104, lit_105, lit_106, lit_107, lit_108, lit_109, lit_110, lit_111, lit_112, lit_113, lit_119, lit_120, lit_127, lit_128, lit_149, lit_150, lit_202, lit_240, lit_262, lit_894, lit_900, lit_999, lit_1000, lit_2000, lit_2662, lit_2663, lit_2695, lit_2701, lit_2702, lit_3602, lit_10806, nI_add, pk_mul, cl_nI, inb_nI, nI_leI, nI_ltI, nI_eq, nI_eq_m1, m1_eq_nI, nI_eq_m2, div_nI, rem_nI, Option.bind_some, b2_0, b2_1, isb_b2, if_true_, if_false_, ↓reduceIte, reduceCtorEq, not_true_eq_false, not_false_eq_true, bt_hasBit, ult, Nat.add_zero, false_and, true_and, and_true, and_false, Nat.reduceLeDiff, Nat.reduceEqDiff, Nat.reduceLT, Bool.toNat_true, Bool.toNat_false, decide_true, decide_false, Bool.not_true, Bool.not_false, Bool.false_and, Bool.true_and, Bool.and_true, Bool.and_false, Bool.or_false, Bool.true_or, Bool.or_true, Bool.false_or, flt_1, flt_2, flt_3, flt_0, fk_flt, fkl_0, fkl_1, fkl_2, fkl_3, n10, n20, n30, n12, n13, n21, n23, n31, n32, refu_0, refu_1, refu_2, refu_3, eu, hU, g1, g2, h72, s1, s4]
        exact g3
theorem k_append (h : SR k M) (x : Int32) : okc k M (f_L_append x) (f_X9_append x) := by
  obtain ⟨hT, hr, ⟨len, l1, l2, l3, l4⟩, n, P, a, b, c, d⟩ := h
  have h : SR k M := ⟨hT, hr, ⟨len, l1, l2, l3, l4⟩, n, P, a, b, c, d⟩
  have ec : ∀ x, f_X8_isWithin x (nI 0) (nI 127) = b2 (inR x 128) := fun x => c_within x 127 (by decide)
  have em : ∀ x, f_X9_within x (nI 0) (nI 127) = b2 (inR x 128) := fun x => m_within x 127 (by decide)
  have e11 : ∀ (a b : Bool), f_X8_faultOf (nI 1) (b2 a) (b2 b) = nI (flt true a b) := fun a b => c_faultOf true a b
  have e110 : ∀ (a : Bool), f_X8_faultOf (nI 1) (b2 a) (nI 0) = nI (flt true a false) := fun a => c_faultOf true a false
  have e111 : ∀ (a : Bool), f_X8_faultOf (nI 1) (b2 a) (nI 1) = nI (flt true a true) := fun a => c_faultOf true a true
  cases hx : inR x 128 with
  | false =>
    refine okc_r h (r := 1) (b := nI 0) (by decide) ?_ ?_
    · unfold f_L_append f_X8_append B_X8_append_25
      by_cases h120 : 120 ≤ len
      · simp (disch := omega) only [↓ite_b2r, ↓ite_nb2r, ↓lit_m1, ↓lit_m2, lit_0, lit_1, lit_2, lit_3, lit_4, lit_5, lit_6, lit_7, lit_8, lit_9, lit_10, lit_11, lit_12, lit_13, lit_14, lit_15, lit_16, lit_17, lit_18, lit_19, lit_20, lit_21, lit_22, lit_23, lit_24, lit_25, lit_26, lit_27, lit_28, lit_29, lit_30, lit_31, lit_32, lit_33, lit_34, lit_35, lit_36, lit_40, lit_41, lit_42, lit_44, lit_48, lit_57, lit_59, lit_62, lit_63, lit_64, lit_82, lit_98, lit_99, lit_100, lit_101, lit_102, lit_103, lit_104, lit_105, lit_106, lit_107, lit_108, lit_109, lit_110, lit_111, lit_112, lit_113, lit_119, lit_120, lit_127, lit_128, lit_149, lit_150, lit_202, lit_240, lit_262, lit_894, lit_900, lit_999, lit_1000, lit_2000, lit_2662, lit_2663, lit_2695, lit_2701, lit_2702, lit_3602, lit_10806, nI_add, pk_mul, cl_nI, inb_nI, nI_leI, nI_ltI, nI_eq, nI_eq_m1, m1_eq_nI, nI_eq_m2, div_nI, rem_nI, Option.bind_some, b2_0, b2_1, isb_b2, if_true_, if_false_, ↓reduceIte, reduceCtorEq, not_true_eq_false, not_false_eq_true, bt_hasBit, ult, Nat.add_zero, false_and, true_and, and_true, and_false, Nat.reduceLeDiff, Nat.reduceEqDiff, Nat.reduceLT, Bool.toNat_true, Bool.toNat_false, decide_true, decide_false, Bool.not_true, Bool.not_false, Bool.false_and, Bool.true_and, Bool.and_true, Bool.and_false, Bool.or_false, Bool.true_or, Bool.or_true, Bool.false_or, flt_1, flt_2, flt_3, flt_0, fk_flt, fkl_0, fkl_1, fkl_2, fkl_3, n10, n20, n30, n12, n13, n21, n23, n31, n32, refu_0, refu_1, refu_2, refu_3, l2, h120, ec, hx, e110, n21]
      · simp (disch := omega) only [↓ite_b2r, ↓ite_nb2r, ↓lit_m1, ↓lit_m2, lit_0, lit_1, lit_2, lit_3, lit_4, lit_5, lit_6, lit_7, lit_8, lit_9, lit_10, lit_11, lit_12, lit_13, lit_14, lit_15, lit_16, lit_17, lit_18, lit_19, lit_20, lit_21, lit_22, lit_23, lit_24, lit_25, lit_26, lit_27, lit_28, lit_29, lit_30, lit_31, lit_32, lit_33, lit_34, lit_35, lit_36, lit_40, lit_41, lit_42, lit_44, lit_48, lit_57, lit_59, lit_62, lit_63, lit_64, lit_82, lit_98, lit_99, lit_100, lit_101, lit_102, lit_103, lit_104, lit_105, lit_106, lit_107, lit_108, lit_109, lit_110, lit_111, lit_112, lit_113, lit_119, lit_120, lit_127, lit_128, lit_149, lit_150, lit_202, lit_240, lit_262, lit_894, lit_900, lit_999, lit_1000, lit_2000, lit_2662, lit_2663, lit_2695, lit_2701, lit_2702, lit_3602, lit_10806, nI_add, pk_mul, cl_nI, inb_nI, nI_leI, nI_ltI, nI_eq, nI_eq_m1, m1_eq_nI, nI_eq_m2, div_nI, rem_nI, Option.bind_some, b2_0, b2_1, isb_b2, if_true_, if_false_, ↓reduceIte, reduceCtorEq, not_true_eq_false, not_false_eq_true, bt_hasBit, ult, Nat.add_zero, false_and, true_and, and_true, and_false, Nat.reduceLeDiff, Nat.reduceEqDiff, Nat.reduceLT, Bool.toNat_true, Bool.toNat_false, decide_true, decide_false, Bool.not_true, Bool.not_false, Bool.false_and, Bool.true_and, Bool.and_true, Bool.and_false, Bool.or_false, Bool.true_or, Bool.or_true, Bool.false_or, flt_1, flt_2, flt_3, flt_0, fk_flt, fkl_0, fkl_1, fkl_2, fkl_3, n10, n20, n30, n12, n13, n21, n23, n31, n32, refu_0, refu_1, refu_2, refu_3, l2, h120, ec, hx, e111, n21]
    · unfold f_X9_append B_X9_append_29
      simp (disch := omega) only [↓ite_b2r, ↓ite_nb2r, ↓lit_m1, ↓lit_m2, lit_0, lit_1, lit_2, lit_3, lit_4, lit_5, lit_6, lit_7, lit_8, lit_9, lit_10, lit_11, lit_12, lit_13, lit_14, lit_15, lit_16, lit_17, lit_18, lit_19, lit_20, lit_21, lit_22, lit_23, lit_24, lit_25, lit_26, lit_27, lit_28, lit_29, lit_30, lit_31, lit_32, lit_33, lit_34, lit_35, lit_36, lit_40, lit_41, lit_42, lit_44, lit_48, lit_57, lit_59, lit_62, lit_63, lit_64, lit_82, lit_98, lit_99, lit_100, lit_101, lit_102, lit_103, lit_104, lit_105, lit_106, lit_107, lit_108, lit_109, lit_110, lit_111, lit_112, lit_113, lit_119, lit_120, lit_127, lit_128, lit_149, lit_150, lit_202, lit_240, lit_262, lit_894, lit_900, lit_999, lit_1000, lit_2000, lit_2662, lit_2663, lit_2695, lit_2701, lit_2702, lit_3602, lit_10806, nI_add, pk_mul, cl_nI, inb_nI, nI_leI, nI_ltI, nI_eq, nI_eq_m1, m1_eq_nI, nI_eq_m2, div_nI, rem_nI, Option.bind_some, b2_0, b2_1, isb_b2, if_true_, if_false_, ↓reduceIte, reduceCtorEq, not_true_eq_false, not_false_eq_true, bt_hasBit, ult, Nat.add_zero, false_and, true_and, and_true, and_false, Nat.reduceLeDiff, Nat.reduceEqDiff, Nat.reduceLT, Bool.toNat_true, Bool.toNat_false, decide_true, decide_false, Bool.not_true, Bool.not_false, Bool.false_and, Bool.true_and, Bool.and_true, Bool.and_false, Bool.or_false, Bool.true_or, Bool.or_true, Bool.false_or, flt_1, flt_2, flt_3, flt_0, fk_flt, fkl_0, fkl_1, fkl_2, fkl_3, n10, n20, n30, n12, n13, n21, n23, n31, n32, refu_0, refu_1, refu_2, refu_3, em, hx]
  | true =>
    by_cases h120 : len = 120
    · subst h120
      refine okc_r h (r := 2) (b := nI 0) (by decide) ?_ ?_
      · unfold f_L_append f_X8_append B_X8_append_25
        simp (disch := omega) only [↓ite_b2r, ↓ite_nb2r, ↓lit_m1, ↓lit_m2, lit_0, lit_1, lit_2, lit_3, lit_4, lit_5, lit_6, lit_7, lit_8, lit_9, lit_10, lit_11, lit_12, lit_13, lit_14, lit_15, lit_16, lit_17, lit_18, lit_19, lit_20, lit_21, lit_22, lit_23, lit_24, lit_25, lit_26, lit_27, lit_28, lit_29, lit_30, lit_31, lit_32, lit_33, lit_34, lit_35, lit_36, lit_40, lit_41, lit_42, lit_44, lit_48, lit_57, lit_59, lit_62, lit_63, lit_64, lit_82, lit_98, lit_99, lit_100, lit_101, lit_102, lit_103, lit_104, lit_105, lit_106, lit_107, lit_108, lit_109, lit_110, lit_111, lit_112, lit_113, lit_119, lit_120, lit_127, lit_128, lit_149, lit_150, lit_202, lit_240, lit_262, lit_894, lit_900, lit_999, lit_1000, lit_2000, lit_2662, lit_2663, lit_2695, lit_2701, lit_2702, lit_3602, lit_10806, nI_add, pk_mul, cl_nI, inb_nI, nI_leI, nI_ltI, nI_eq, nI_eq_m1, m1_eq_nI, nI_eq_m2, div_nI, rem_nI, Option.bind_some, b2_0, b2_1, isb_b2, if_true_, if_false_, ↓reduceIte, reduceCtorEq, not_true_eq_false, not_false_eq_true, bt_hasBit, ult, Nat.add_zero, false_and, true_and, and_true, and_false, Nat.reduceLeDiff, Nat.reduceEqDiff, Nat.reduceLT, Bool.toNat_true, Bool.toNat_false, decide_true, decide_false, Bool.not_true, Bool.not_false, Bool.false_and, Bool.true_and, Bool.and_true, Bool.and_false, Bool.or_false, Bool.true_or, Bool.or_true, Bool.false_or, flt_1, flt_2, flt_3, flt_0, fk_flt, fkl_0, fkl_1, fkl_2, fkl_3, n10, n20, n30, n12, n13, n21, n23, n31, n32, refu_0, refu_1, refu_2, refu_3, l2, Nat.le_refl, ec, hx, e110]
      · unfold f_X9_append B_X9_append_29
        simp (disch := omega) only [↓ite_b2r, ↓ite_nb2r, ↓lit_m1, ↓lit_m2, lit_0, lit_1, lit_2, lit_3, lit_4, lit_5, lit_6, lit_7, lit_8, lit_9, lit_10, lit_11, lit_12, lit_13, lit_14, lit_15, lit_16, lit_17, lit_18, lit_19, lit_20, lit_21, lit_22, lit_23, lit_24, lit_25, lit_26, lit_27, lit_28, lit_29, lit_30, lit_31, lit_32, lit_33, lit_34, lit_35, lit_36, lit_40, lit_41, lit_42, lit_44, lit_48, lit_57, lit_59, lit_62, lit_63, lit_64, lit_82, lit_98, lit_99, lit_100, lit_101, lit_102, lit_103, lit_104, lit_105, lit_106, lit_107, lit_108, lit_109, lit_110, lit_111, lit_112, lit_113, lit_119, lit_120, lit_127, lit_128, lit_149, lit_150, lit_202, lit_240, lit_262, lit_894, lit_900, lit_999, lit_1000, lit_2000, lit_2662, lit_2663, lit_2695, lit_2701, lit_2702, lit_3602, lit_10806, nI_add, pk_mul, cl_nI, inb_nI, nI_leI, nI_ltI, nI_eq, nI_eq_m1, m1_eq_nI, nI_eq_m2, div_nI, rem_nI, Option.bind_some, b2_0, b2_1, isb_b2, if_true_, if_false_, ↓reduceIte, reduceCtorEq, not_true_eq_false, not_false_eq_true, bt_hasBit, ult, Nat.add_zero, false_and, true_and, and_true, and_false, Nat.reduceLeDiff, Nat.reduceEqDiff, Nat.reduceLT, Bool.toNat_true, Bool.toNat_false, decide_true, decide_false, Bool.not_true, Bool.not_false, Bool.false_and, Bool.true_and, Bool.and_true, Bool.and_false, Bool.or_false, Bool.true_or, Bool.or_true, Bool.false_or, flt_1, flt_2, flt_3, flt_0, fk_flt, fkl_0, fkl_1, fkl_2, fkl_3, n10, n20, n30, n12, n13, n21, n23, n31, n32, refu_0, refu_1, refu_2, refu_3, em, hx, l3]
    · obtain ⟨v, hv, rfl⟩ := inR_t (by decide) hx
      have e119 : ∀ x, f_X8_isWithin x (nI 0) (nI 119) = b2 (inR x 120) := fun x => c_within x 119 (by decide)
      have hin : inR (nI len) 120 = true := by rw [inR_nI (by omega) (by omega), decide_eq_true (by omega)]
      have w1 : (wr M 6 4 len (nI v)).1 6 3 1 = nI len := by rw [wr_other _ _ _ _ _ (by omega)]; exact l2
      generalize hM2 : wr (wr M 6 4 len (nI v)) 6 3 1 (nI (len + 1)) = M2
      have hL : f_L_append (nI v) M = some (nI 0, wrL M2 8 (nI (len + 1)).toInt64) := by
        unfold f_L_append f_X8_append B_X8_append_25 f_X3_put B_X3_put_33
        simp (disch := omega) only [↓ite_b2r, ↓ite_nb2r, ↓lit_m1, ↓lit_m2, lit_0, lit_1, lit_2, lit_3, lit_4, lit_5, lit_6, lit_7, lit_8, lit_9, lit_10, lit_11, lit_12, lit_13, lit_14, lit_15, lit_16, lit_17, lit_18, lit_19, lit_20, lit_21, lit_22, lit_23, lit_24, lit_25, lit_26, lit_27, lit_28, lit_29, lit_30, lit_31, lit_32, lit_33, lit_34, lit_35, lit_36, lit_40, lit_41, lit_42, lit_44, lit_48, lit_57, lit_59, lit_62, lit_63, lit_64, lit_82, lit_98, lit_99, lit_100, lit_101, lit_102, lit_103, lit_104, lit_105, lit_106, lit_107, lit_108, lit_109, lit_110, lit_111, lit_112, lit_113, lit_119, lit_120, lit_127, lit_128, lit_149, lit_150, lit_202, lit_240, lit_262, lit_894, lit_900, lit_999, lit_1000, lit_2000, lit_2662, lit_2663, lit_2695, lit_2701, lit_2702, lit_3602, lit_10806, nI_add, pk_mul, cl_nI, inb_nI, nI_leI, nI_ltI, nI_eq, nI_eq_m1, m1_eq_nI, nI_eq_m2, div_nI, rem_nI, Option.bind_some, b2_0, b2_1, isb_b2, if_true_, if_false_, ↓reduceIte, reduceCtorEq, not_true_eq_false, not_false_eq_true, bt_hasBit, ult, Nat.add_zero, false_and, true_and, and_true, and_false, Nat.reduceLeDiff, Nat.reduceEqDiff, Nat.reduceLT, Bool.toNat_true, Bool.toNat_false, decide_true, decide_false, Bool.not_true, Bool.not_false, Bool.false_and, Bool.true_and, Bool.and_true, Bool.and_false, Bool.or_false, Bool.true_or, Bool.or_true, Bool.false_or, flt_1, flt_2, flt_3, flt_0, fk_flt, fkl_0, fkl_1, fkl_2, fkl_3, n10, n20, n30, n12, n13, n21, n23, n31, n32, refu_0, refu_1, refu_2, refu_3, l2, show ¬ 120 ≤ len by omega, ec, hx, e111, e119, hin, w1, hM2]
        rw [← hM2, wr_same, upd_same]
      have m7 : M2.1 7 = M.1 7 := by rw [← hM2, wr_ng _ _ _ _ (by omega), wr_ng _ _ _ _ (by omega)]
      generalize hM3 : wr (wrL M2 8 (nI (len + 1)).toInt64) 7 0 4 (nI 0) = M3
      have v6 : M3.1 7 0 6 = nI len := by rw [← hM3, wr_same, upd_other (by omega), wrL_1, m7]; exact l3
      have v7 : (wr M3 7 4 len (nI v)).1 7 0 6 = nI len := by rw [wr_other _ _ _ _ _ (by omega)]; exact v6
      have v8 : (wrL M2 8 (nI (len + 1)).toInt64).1 7 0 6 = nI len := by rw [wrL_1, m7]; exact l3
      generalize hM4 : wr (wr M3 7 4 len (nI v)) 7 0 6 (nI (len + 1)) = M4
      have hM : f_X9_append (nI v) (wrL M2 8 (nI (len + 1)).toInt64) = some (nI (len + 1), M4) := by
        unfold f_X9_append B_X9_append_29
        simp (disch := omega) only [↓ite_b2r, ↓ite_nb2r, ↓lit_m1, ↓lit_m2, lit_0, lit_1, lit_2, lit_3, lit_4, lit_5, lit_6, lit_7, lit_8, lit_9, lit_10, lit_11, lit_12, lit_13, lit_14, lit_15, lit_16, lit_17, lit_18, lit_19, lit_20, lit_21, lit_22, lit_23, lit_24, lit_25, lit_26, lit_27, lit_28, lit_29, lit_30, lit_31, lit_32, lit_33, lit_34, lit_35, lit_36, lit_40, lit_41, lit_42, lit_44, lit_48, lit_57, lit_59, lit_62, lit_63, lit_64, lit_82, lit_98, lit_99, lit_100, lit_101, lit_102, lit_103, lit_104, lit_105, lit_106, lit_107, lit_108, lit_109, lit_110, lit_111, lit_112, lit_113, lit_119, lit_120, lit_127, lit_128, lit_149, lit_150, lit_202, lit_240, lit_262, lit_894, lit_900, lit_999, lit_1000, lit_2000, lit_2662, lit_2663, lit_2695, lit_2701, lit_2702, lit_3602, lit_10806, nI_add, pk_mul, cl_nI, inb_nI, nI_leI, nI_ltI, nI_eq, nI_eq_m1, m1_eq_nI, nI_eq_m2, div_nI, rem_nI, Option.bind_some, b2_0, b2_1, isb_b2, if_true_, if_false_, ↓reduceIte, reduceCtorEq, not_true_eq_false, not_false_eq_true, bt_hasBit, ult, Nat.add_zero, false_and, true_and, and_true, and_false, Nat.reduceLeDiff, Nat.reduceEqDiff, Nat.reduceLT, Bool.toNat_true, Bool.toNat_false, decide_true, decide_false, Bool.not_true, Bool.not_false, Bool.false_and, Bool.true_and, Bool.and_true, Bool.and_false, Bool.or_false, Bool.true_or, Bool.or_true, Bool.false_or, flt_1, flt_2, flt_3, flt_0, fk_flt, fkl_0, fkl_1, fkl_2, fkl_3, n10, n20, n30, n12, n13, n21, n23, n31, n32, refu_0, refu_1, refu_2, refu_3, em, hx, v8, h120, hM3, v6, v7, hM4]
        rw [← hM4, wr_same, upd_same]
      have k3 : M4.1 7 0 = upd (upd (M.1 7 0) 4 (nI 0)) 6 (nI (len + 1)) := by rw [← hM4, wr_same, wr_other _ _ _ _ _ (by omega), ← hM3, wr_same, wrL_1, m7]
      have k4 : M4.1 7 4 = upd (M.1 7 4) len (nI v) := by rw [← hM4, wr_other _ _ _ _ _ (by omega), wr_same, ← hM3, wr_other _ _ _ _ _ (by omega), wrL_1, m7]
      have kj : ∀ j, j ≠ 0 → j ≠ 4 → M4.1 7 j = M.1 7 j := fun j h1 h2 => by rw [← hM4, wr_other _ _ _ _ _ (by omega), wr_other _ _ _ _ _ (by omega), ← hM3, wr_other _ _ _ _ _ (by omega), wrL_1, m7]
      have kg : ∀ g, g ≠ 7 → M4.1 g = M2.1 g := fun g hg => by rw [← hM4, wr_ng _ _ _ _ (by omega), wr_ng _ _ _ _ (by omega), ← hM3, wr_ng _ _ _ _ (by omega), wrL_1]
      have kg2 : ∀ g, g ≠ 6 → M2.1 g = M.1 g := fun g hg => by rw [← hM2, wr_ng _ _ _ _ (by omega), wr_ng _ _ _ _ (by omega)]
      have k6 : M2.1 6 3 1 = nI (len + 1) := by rw [← hM2, wr_same, upd_same]
      have k64 : M2.1 6 4 = upd (M.1 6 4) len (nI v) := by rw [← hM2, wr_other _ _ _ _ _ (by omega), wr_same]
      have k6j : ∀ j, j ≠ 3 → j ≠ 4 → M2.1 6 j = M.1 6 j := fun j h1 h2 => by rw [← hM2, wr_other _ _ _ _ _ (by omega), wr_other _ _ _ _ _ (by omega)]
      refine ⟨nI 0, _, nI (len + 1), M4, hL, hM, ?_, fun _ => ?_, ?_, ?_, ⟨len + 1, by omega, ?_, ?_, fun i hi => ?_⟩, n, P, a, fun i hi => (b i hi).up (by omega), ?_, ?_⟩
      · rw [k3, upd_other (by omega), upd_same]
      · rw [← hM4, wr_2, wr_2, ← hM3, wr_2]
        exact wrL_8 M2 _
      · rw [kj 1 (by omega) (by omega)]; exact hT.up (by omega)
      · rw [kj 1 (by omega) (by omega), kg 0 (by omega), kg2 0 (by omega)]; exact hr
      · rw [kg 6 (by omega)]; exact k6
      · rw [k3, upd_same]
      · unfold isV
        rw [kg 6 (by omega), k64, k4]
        by_cases h2 : i = len
        · rw [h2, upd_same, upd_same, cl_nI (by omega)]; exact ⟨rfl, rfl, by omega⟩
        · rw [upd_other h2, upd_other h2]; exact l4 i (by omega)
      · exact SVC_cg c (by rw [kg 6 (by omega), k6j 1 (by omega) (by omega)]) (by rw [kg 6 (by omega), k6j 2 (by omega) (by omega)]) (fun g h1 h2 => by rw [kg g (by omega), kg2 g (by omega)])
      · exact SVM_cg d (by rw [k3, upd_other (by omega), upd_other (by omega)]) (kj 2 (by omega) (by omega))
end KG2
