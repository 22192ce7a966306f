/-! ===== blame, lineAt, revert ===== -/
section KH
variable {k : Nat} {M : Mem}
/-- as okc_g, where the desk too has another scratch row -/
theorem SR_keep17 {k : Nat} {M M' : Mem} (h : SR k M) (h0 : ∀ j, j ≠ 17 → M'.1 0 j = M.1 0 j) (hg : ∀ g, 2 ≤ g → g < 6 → M'.1 g = M.1 g) (h6 : ∀ j, j < 5 → M'.1 6 j = M.1 6 j) (hr : eqR 0 3602 (M'.1 7 1) (M.1 7 1)) (h2 : M'.1 7 2 = M.1 7 2) (h4 : M'.1 7 4 = M.1 7 4) (h03 : M'.1 7 0 3 = M.1 7 0 3) (h06 : M'.1 7 0 6 = M.1 7 0 6) : SR (k + 1) M' := by
  obtain ⟨t, r, x, n, P, a, b, c, d⟩ := h
  exact ⟨(TB_cg hr t).up (by omega), RD_cgA hr t.1.1 (RD_17 h0 r), TX_cg x (by rw [h6 3 (by omega)]) (h6 4 (by omega)) h06 h4, n, P, a, fun i hi => (b i hi).up (by omega), SVC_cg c (h6 1 (by omega)) (h6 2 (by omega)) hg, SVM_cg d h03 h2⟩
theorem okc_q17 {k : Nat} {M M' : Mem} {fL fM : Mem → Option (Int32 × Mem)} (h : SR k M) {a : Int32} (hL : fL M = some (nI 0, wrL M' 8 a.toInt64)) (h0 : ∀ j, j ≠ 17 → M'.1 0 j = M.1 0 j) (hg : ∀ g, g ≠ 0 → M'.1 g = M.1 g) (hM : ∀ M1 : Mem, M1.1 7 = M.1 7 → fM M1 = some (a, wr M1 7 0 4 (nI 0))) : okc k M fL fM := by
  have h7 : (wrL M' 8 a.toInt64).1 7 = M.1 7 := by rw [wrL_1]; exact hg 7 (by omega)
  refine ⟨nI 0, _, a, wr (wrL M' 8 a.toInt64) 7 0 4 (nI 0), hL, hM _ h7, by rw [wr_same, upd_same], fun _ => ?_, SR_keep17 h (fun j hj => ?_) (fun g h1 h2 => ?_) (fun j hj => ?_) ?_ ?_ ?_ ?_ ?_⟩
  · rw [wr_2]; exact wrL_8 M' _
  · rw [wr_ng _ _ _ _ (by omega), wrL_1]; exact h0 j hj
  · rw [wr_ng _ _ _ _ (by omega), wrL_1]; exact hg g (by omega)
  · rw [wr_ng _ _ _ _ (by omega), wrL_1, hg 6 (by omega)]
  · rw [wr_other _ _ _ _ _ (by omega), h7]; exact eqR.rf
  · rw [wr_other _ _ _ _ _ (by omega), h7]
  · rw [wr_other _ _ _ _ _ (by omega), h7]
  · rw [wr_same, upd_other (by omega), h7]
  · rw [wr_same, upd_other (by omega), h7]
theorem k_blame (h : SR k M) (x y : Int32) : okc k M (f_L_blame x y) (f_X9_blame x y) := by
  have hr := h.2.1
  have hN := h.1.1
  cases hL : isL (M.1 7 1) x y with
  | false =>
    refine okc_r h (r := 1) (b := nI 0) (by decide) ?_ ?_
    · unfold f_L_blame f_X8_blame
      rw [c_hasLine hr.1 hN.1.1, hL, Option.bind_some, fo1, fk_flt]
      rfl
    · unfold f_X9_blame B_X9_blame_15
      simp (disch := omega) only [↓ite_b2r, ↓ite_nb2r, ↓lit_m1, ↓lit_m2, lit_0, lit_1, lit_2, lit_3, lit_4, lit_5, lit_6, lit_7, lit_8, lit_9, lit_10, lit_11, lit_12, lit_13, lit_14, lit_15, lit_16, lit_17, lit_18, lit_19, lit_20, lit_21, lit_22, lit_23, lit_24, lit_25, lit_26, lit_27, lit_28, lit_29, lit_30, lit_31, lit_32, lit_33, lit_34, lit_35, lit_36, lit_40, lit_41, lit_42, lit_44, lit_48, lit_57, lit_59, lit_62, lit_63, lit_64, lit_82, lit_98, lit_99, lit_100, lit_101, lit_102, lit_103, lit_104, lit_105, lit_106, lit_107, lit_108, lit_109, lit_110, lit_111, lit_112, lit_113, lit_119, lit_120, lit_127, lit_128, lit_149, lit_150, lit_202, lit_240, lit_262, lit_894, lit_900, lit_999, lit_1000, lit_2000, lit_2662, lit_2663, lit_2695, lit_2701, lit_2702, lit_3602, lit_10806, nI_add, pk_mul, cl_nI, inb_nI, nI_leI, nI_ltI, nI_eq, nI_eq_m1, m1_eq_nI, nI_eq_m2, div_nI, rem_nI, Option.bind_some, b2_0, b2_1, isb_b2, if_true_, if_false_, ↓reduceIte, reduceCtorEq, not_true_eq_false, not_false_eq_true, bt_hasBit, ult, Nat.add_zero, false_and, true_and, and_true, and_false, Nat.reduceLeDiff, Nat.reduceEqDiff, Nat.reduceLT, Bool.toNat_true, Bool.toNat_false, decide_true, decide_false, Bool.not_true, Bool.not_false, Bool.false_and, Bool.true_and, Bool.and_true, Bool.and_false, Bool.or_false, Bool.true_or, Bool.or_true, Bool.false_or, flt_1, flt_2, flt_3, flt_0, fk_flt, fkl_0, fkl_1, fkl_2, fkl_3, n10, n20, n30, n12, n13, n21, n23, n31, n32, refu_0, refu_1, refu_2, refu_3, m_isLine, hL]
  | true =>
    have hL2 := hL
    unfold isL at hL2
    rw [Bool.and_eq_true] at hL2
    obtain ⟨s, hs, rfl, hu⟩ := isS_t hL2.1
    obtain ⟨l, hl, rfl⟩ := inR_t (by decide) hL2.2
    refine okc_q h (a := latU (M.1 7 1) s l (hn (M.1 7 1))) ?_ (fun M1 h1 => ?_)
    · unfold f_L_blame f_X8_blame
      rw [c_hasLine hr.1 hN.1.1, hL, Option.bind_some, fo1, fk_flt, flt_0, if_pos rfl, c_latestUserOf hN.1.2.2.2.2.2 hr.2.2.2.2.2.1]
      rfl
    · have h71 : M1.1 7 1 = M.1 7 1 := by rw [h1]
      have h72 : (wr M1 7 0 4 (nI 0)).1 7 1 = M.1 7 1 := by rw [wr_other _ _ _ _ _ (by omega)]; exact h71
      have g1 := m_blame28 (M := wr M1 7 0 4 (nI 0)) (s := s) (l := l) (by rw [h72]; exact hN.1.2.2.2.2.2)
      rw [h72] at g1
      unfold f_X9_blame B_X9_blame_15
      simp (disch := omega) only [↓ite_b2r, ↓ite_nb2r, ↓lit_m1, ↓lit_m2, lit_0, lit_1, lit_2, lit_3, lit_4, lit_5, lit_6, lit_7, lit_8, lit_9, lit_10, lit_11, lit_12, lit_13, lit_14, lit_15, lit_16, lit_17, lit_18, lit_19, lit_20, lit_21, lit_22, lit_23, lit_24, lit_25, lit_26, lit_27, lit_28, lit_29, lit_30, lit_31, lit_32, lit_33, lit_34, lit_35, lit_36, lit_40, lit_41, lit_42, lit_44, lit_48, lit_57, lit_59, lit_62, lit_63, lit_64, lit_82, lit_98, lit_99, lit_100, lit_101, lit_102, lit_103, lit_104, lit_105, lit_106, lit_107, lit_108, lit_109, lit_110, lit_111, lit_112, lit_113, lit_119, lit_120, lit_127, lit_128, lit_149, lit_150, lit_202, lit_240, lit_262, lit_894, lit_900, lit_999, lit_1000, lit_2000, lit_2662, lit_2663, lit_2695, lit_2701, lit_2702, lit_3602, lit_10806, nI_add, pk_mul, cl_nI, inb_nI, nI_leI, nI_ltI, nI_eq, nI_eq_m1, m1_eq_nI, nI_eq_m2, div_nI, rem_nI, Option.bind_some, b2_0, b2_1, isb_b2, if_true_, if_false_, ↓reduceIte, reduceCtorEq, not_true_eq_false, not_false_eq_true, bt_hasBit, ult, Nat.add_zero, false_and, true_and, and_true, and_false, Nat.reduceLeDiff, Nat.reduceEqDiff, Nat.reduceLT, Bool.toNat_true, Bool.toNat_false, decide_true, decide_false, Bool.not_true, Bool.not_false, Bool.false_and, Bool.true_and, Bool.and_true, Bool.and_false, Bool.or_false, Bool.true_or, Bool.or_true, Bool.false_or, flt_1, flt_2, flt_3, flt_0, fk_flt, fkl_0, fkl_1, fkl_2, fkl_3, n10, n20, n30, n12, n13, n21, n23, n31, n32, refu_0, refu_1, refu_2, refu_3, m_isLine, h71, hL]
      exact g1
theorem N0_within {N : Row} (hN : WFa N) : N 0 = nI (cl (N 0)) ∧ cl (N 0) < 1073741824 := hN.1.2.1.1
theorem k_lineAt (h : SR k M) (x y z : Int32) : okc k M (f_L_lineAt x y z) (f_X9_lineAt x y z) := by
  have hr := h.2.1
  have hN := h.1.1
  obtain ⟨t1, t2⟩ := N0_within hN
  have e6 : M.1 0 0 6 = nI (cl (M.1 7 1 0)) := hr.2.2.2.2.2.2.1.trans t1
  have hw : f_X8_isWithin z 0 (nI (cl (M.1 7 1 0))) = b2 (inR z (cl (M.1 7 1 0) + 1)) := c_within z _ (by omega)
  have hT : ∀ M1 : Mem, M1.1 7 1 = M.1 7 1 → f_X9_isTick z M1 = some (b2 (inR z (cl (M.1 7 1 0) + 1))) := fun M1 h71 => by
    unfold f_X9_isTick
    rw [h71]
    show some (f_X9_within z 0 (M.1 7 1 0)) = _
    rw [t1, m_within z _ (by omega), cl_nI (by omega)]
  cases hL : isL (M.1 7 1) x y with
  | false =>
    refine okc_r h (r := 1) (b := nI 0) (by decide) ?_ ?_
    · unfold f_L_lineAt f_X8_lineAt
      rw [c_hasLine hr.1 hN.1.1, hL, Option.bind_some, e6, hw, fo2, fk_flt]
      rfl
    · unfold f_X9_lineAt B_X9_lineAt_27
      simp (disch := omega) only [↓ite_b2r, ↓ite_nb2r, ↓lit_m1, ↓lit_m2, lit_0, lit_1, lit_2, lit_3, lit_4, lit_5, lit_6, lit_7, lit_8, lit_9, lit_10, lit_11, lit_12, lit_13, lit_14, lit_15, lit_16, lit_17, lit_18, lit_19, lit_20, lit_21, lit_22, lit_23, lit_24, lit_25, lit_26, lit_27, lit_28, lit_29, lit_30, lit_31, lit_32, lit_33, lit_34, lit_35, lit_36, lit_40, lit_41, lit_42, lit_44, lit_48, lit_57, lit_59, lit_62, lit_63, lit_64, lit_82, lit_98, lit_99, lit_100, lit_101, lit_102, lit_103, lit_104, lit_105, lit_106, lit_107, lit_108, lit_109, lit_110, lit_111, lit_112, lit_113, lit_119, lit_120, lit_127, lit_128, lit_149, lit_150, lit_202, lit_240, lit_262, lit_894, lit_900, lit_999, lit_1000, lit_2000, lit_2662, lit_2663, lit_2695, lit_2701, lit_2702, lit_3602, lit_10806, nI_add, pk_mul, cl_nI, inb_nI, nI_leI, nI_ltI, nI_eq, nI_eq_m1, m1_eq_nI, nI_eq_m2, div_nI, rem_nI, Option.bind_some, b2_0, b2_1, isb_b2, if_true_, if_false_, ↓reduceIte, reduceCtorEq, not_true_eq_false, not_false_eq_true, bt_hasBit, ult, Nat.add_zero, false_and, true_and, and_true, and_false, Nat.reduceLeDiff, Nat.reduceEqDiff, Nat.reduceLT, Bool.toNat_true, Bool.toNat_false, decide_true, decide_false, Bool.not_true, Bool.not_false, Bool.false_and, Bool.true_and, Bool.and_true, Bool.and_false, Bool.or_false, Bool.true_or, Bool.or_true, Bool.false_or, flt_1, flt_2, flt_3, flt_0, fk_flt, fkl_0, fkl_1, fkl_2, fkl_3, n10, n20, n30, n12, n13, n21, n23, n31, n32, refu_0, refu_1, refu_2, refu_3, m_isLine, hL]
  | true =>
    cases hz : inR z (cl (M.1 7 1 0) + 1) with
    | false =>
      refine okc_r h (r := 2) (b := nI 0) (by decide) ?_ ?_
      · unfold f_L_lineAt f_X8_lineAt
        rw [c_hasLine hr.1 hN.1.1, hL, Option.bind_some, e6, hw, fo2, fk_flt, hz]
        rfl
      · unfold f_X9_lineAt B_X9_lineAt_27
        simp (disch := omega) only [↓ite_b2r, ↓ite_nb2r, ↓lit_m1, ↓lit_m2, lit_0, lit_1, lit_2, lit_3, lit_4, lit_5, lit_6, lit_7, lit_8, lit_9, lit_10, lit_11, lit_12, lit_13, lit_14, lit_15, lit_16, lit_17, lit_18, lit_19, lit_20, lit_21, lit_22, lit_23, lit_24, lit_25, lit_26, lit_27, lit_28, lit_29, lit_30, lit_31, lit_32, lit_33, lit_34, lit_35, lit_36, lit_40, lit_41, lit_42, lit_44, lit_48, lit_57, lit_59, lit_62, lit_63, lit_64, lit_82, lit_98, lit_99, lit_100, lit_101, lit_102, lit_103, lit_104, lit_105, lit_106, lit_107, lit_108, lit_109, lit_110, lit_111, lit_112, lit_113, lit_119, lit_120, lit_127, lit_128, lit_149, lit_150, lit_202, lit_240, lit_262, lit_894, lit_900, lit_999, lit_1000, lit_2000, lit_2662, lit_2663, lit_2695, lit_2701, lit_2702, lit_3602, lit_10806, nI_add, pk_mul, cl_nI, inb_nI, nI_leI, nI_ltI, nI_eq, nI_eq_m1, m1_eq_nI, nI_eq_m2, div_nI, rem_nI, Option.bind_some, b2_0, b2_1, isb_b2, if_true_, if_false_, ↓reduceIte, reduceCtorEq, not_true_eq_false, not_false_eq_true, bt_hasBit, ult, Nat.add_zero, false_and, true_and, and_true, and_false, Nat.reduceLeDiff, Nat.reduceEqDiff, Nat.reduceLT, Bool.toNat_true, Bool.toNat_false, decide_true, decide_false, Bool.not_true, Bool.not_false, Bool.false_and, Bool.true_and, Bool.and_true, Bool.and_false, Bool.or_false, Bool.true_or, Bool.or_true, Bool.false_or, flt_1, flt_2, flt_3, flt_0, fk_flt, fkl_0, fkl_1, fkl_2, fkl_3, n10, n20, n30, n12, n13, n21, n23, n31, n32, refu_0, refu_1, refu_2, refu_3, m_isLine, hL, hT M rfl, hz]
    | true =>
      have hL2 := hL
      unfold isL at hL2
      rw [Bool.and_eq_true] at hL2
      obtain ⟨s, hs, rfl, hu⟩ := isS_t hL2.1
      obtain ⟨l, hl, rfl⟩ := inR_t (by decide) hL2.2
      generalize hM0 : wrs M 0 17 (fun k => if k < 120 then M.1 0 5 k else M.1 0 17 k) = M0
      have w0 : ∀ j, j ≠ 17 → M0.1 0 j = M.1 0 j := fun j hj => by rw [← hM0, wrs_other _ _ _ _ (by omega)]
      have w17 : ∀ k, k < 120 → M0.1 0 17 k = M.1 0 5 k := fun k hk => by rw [← hM0, wrs_same, if_pos hk]
      have wg : ∀ g, g ≠ 0 → M0.1 g = M.1 g := fun g hg => by rw [← hM0, wrs_ng _ _ _ (by omega)]
      obtain ⟨M2, b1, b2', b3, b4⟩ := c_turnBack (M := M0) (g := 0) (T := z) hN.1.2.2.2.2.2 (RDh_D (w0 14 (by omega)) (w0 15 (by omega)) hr.2.2.2.2.2.1)
      have hval : M2.1 0 17 (6 * s + l) = wasK (M.1 7 1) z (6 * s + l) (M.1 7 1 (82 + 6 * s + l)) 0 (hn (M.1 7 1)) := by
        rw [b2' _ (by omega), w17 _ (by omega), hr.1.2.2.2.1 s l hs hl hu]
      have e119 : f_X8_isCell (nI (6 * s + l)) = b2 true := (c_within (nI (6 * s + l)) 119 (by decide)).trans (by rw [inR_nI (by omega) (by omega), decide_eq_true (by omega)])
      refine okc_q17 (M' := M2) h (a := wasK (M.1 7 1) z (6 * s + l) (M.1 7 1 (82 + 6 * s + l)) 0 (hn (M.1 7 1))) ?_ (fun j hj => (b3 j hj).trans (w0 j hj)) (fun g hg => (b4.1 g hg).trans (wg g hg)) (fun M1 h1 => ?_)
      · unfold f_L_lineAt f_X8_lineAt f_X1_valueAtEndOf f_X8_cellOf
        rw [c_hasLine hr.1 hN.1.1, hL, Option.bind_some, e6, hw, fo2, fk_flt, hz, flt_0, if_pos rfl, c_wantPresent, hM0, Option.bind_some, b1, Option.bind_some, show nI s * 6 + nI l = nI (6 * s + l) from by rw [show (6 : Int32) = nI 6 from rfl, pk_mul, nI_add, Nat.mul_comm], e119]
        simp (disch := omega) only [↓ite_b2r, ↓ite_nb2r, ↓lit_m1, ↓lit_m2, lit_0, lit_1, lit_2, lit_3, lit_4, lit_5, lit_6, lit_7, lit_8, lit_9, lit_10, lit_11, lit_12, lit_13, lit_14, lit_15, lit_16, lit_17, lit_18, lit_19, lit_20, lit_21, lit_22, lit_23, lit_24, lit_25, lit_26, lit_27, lit_28, lit_29, lit_30, lit_31, lit_32, lit_33, lit_34, lit_35, lit_36, lit_40, lit_41, lit_42, lit_44, lit_48, lit_57, lit_59, lit_62, lit_63, lit_64, lit_82, lit_98, lit_99, lit_100, lit_101, lit_102, lit_103, lit_104, lit_105, lit_106, lit_107, lit_108, lit_109, lit_110, lit_111, lit_112, lit_113, lit_119, lit_120, lit_127, lit_128, lit_149, lit_150, lit_202, lit_240, lit_262, lit_894, lit_900, lit_999, lit_1000, lit_2000, lit_2662, lit_2663, lit_2695, lit_2701, lit_2702, lit_3602, lit_10806, nI_add, pk_mul, cl_nI, inb_nI, nI_leI, nI_ltI, nI_eq, nI_eq_m1, m1_eq_nI, nI_eq_m2, div_nI, rem_nI, Option.bind_some, b2_0, b2_1, isb_b2, if_true_, if_false_, ↓reduceIte, reduceCtorEq, not_true_eq_false, not_false_eq_true, bt_hasBit, ult, Nat.add_zero, false_and, true_and, and_true, and_false, Nat.reduceLeDiff, Nat.reduceEqDiff, Nat.reduceLT, Bool.toNat_true, Bool.toNat_false, decide_true, decide_false, Bool.not_true, Bool.not_false, Bool.false_and, Bool.true_and, Bool.and_true, Bool.and_false, Bool.or_false, Bool.true_or, Bool.or_true, Bool.false_or, hval] <;> rfl
      · have h71 : M1.1 7 1 = M.1 7 1 := by rw [h1]
        have h72 : (wr M1 7 0 4 (nI 0)).1 7 1 = M.1 7 1 := by rw [wr_other _ _ _ _ _ (by omega)]; exact h71
        have g1 := m_was (M := wr M1 7 0 4 (nI 0)) (s := s) (l := l) (by rw [h72]; exact hN.1.2.2.2.2.2) hs hl z
        rw [h72] at g1
        unfold f_X9_lineAt B_X9_lineAt_27
        simp (disch := omega) only [↓ite_b2r, ↓ite_nb2r, ↓lit_m1, ↓lit_m2, lit_0, lit_1, lit_2, lit_3, lit_4, lit_5, lit_6, lit_7, lit_8, lit_9, lit_10, lit_11, lit_12, lit_13, lit_14, lit_15, lit_16, lit_17, lit_18, lit_19, lit_20, lit_21, lit_22, lit_23, lit_24, lit_25, lit_26, lit_27, lit_28, lit_29, lit_30, lit_31, lit_32, lit_33, lit_34, lit_35, lit_36, lit_40, lit_41, lit_42, lit_44, lit_48, lit_57, lit_59, lit_62, lit_63, lit_64, lit_82, lit_98, lit_99, lit_100, lit_101, lit_102, lit_103, lit_104, lit_105, lit_106, lit_107, lit_108, lit_109, lit_110, lit_111, lit_112, lit_113, lit_119, lit_120, lit_127, lit_128, lit_149, lit_150, lit_202, lit_240, lit_262, lit_894, lit_900, lit_999, lit_1000, lit_2000, lit_2662, lit_2663, lit_2695, lit_2701, lit_2702, lit_3602, lit_10806, nI_add, pk_mul, cl_nI, inb_nI, nI_leI, nI_ltI, nI_eq, nI_eq_m1, m1_eq_nI, nI_eq_m2, div_nI, rem_nI, Option.bind_some, b2_0, b2_1, isb_b2, if_true_, if_false_, ↓reduceIte, reduceCtorEq, not_true_eq_false, not_false_eq_true, bt_hasBit, ult, Nat.add_zero, false_and, true_and, and_true, and_false, Nat.reduceLeDiff, Nat.reduceEqDiff, Nat.reduceLT, Bool.toNat_true, Bool.toNat_false, decide_true, decide_false, Bool.not_true, Bool.not_false, Bool.false_and, Bool.true_and, Bool.and_true, Bool.and_false, Bool.or_false, Bool.true_or, Bool.or_true, Bool.false_or, flt_1, flt_2, flt_3, flt_0, fk_flt, fkl_0, fkl_1, fkl_2, fkl_3, n10, n20, n30, n12, n13, n21, n23, n31, n32, refu_0, refu_1, refu_2, refu_3, m_isLine, h71, hL, hT M1 h71, hz, g1]
end KH
