/-! ===== undo; the answers that nothing refuses ===== -/
section UN
variable {k : Nat} {M : Mem}
theorem m_undo33 {M : Mem} {n : Nat} (h3 : M.1 7 0 3 = nI n) (hn : n < 4) : L_X9_undo_33 FU 0 M = some (nI n, wrs M 7 1 (fun x => if x < 3602 then M.1 7 2 (3602 * n + x) else M.1 7 1 x)) := by
  refine loop0 (fun m (σ : Int32 × Mem) => L_X9_undo_33 m σ.1 σ.2) (fun i => (nI i, wrs M 7 1 (fun x => if x < i then M.1 7 2 (3602 * n + x) else M.1 7 1 x))) 3602 (nI 0, M) ?_ (fun m i hi => ?_) (fun m => ?_) FU (by decide)
  · refine Prod.ext rfl ?_
    have : (fun x => if x < 0 then M.1 7 2 (3602 * n + x) else M.1 7 1 x) = M.1 7 1 := funext fun x => by rw [if_neg (Nat.not_lt_zero _)]
    dsimp only
    rw [this]
    exact wrs_self M 7 1
  · show L_X9_undo_33 (m + 1) _ _ = L_X9_undo_33 m _ _
    have e3 : (wrs M 7 1 (fun x => if x < i then M.1 7 2 (3602 * n + x) else M.1 7 1 x)).1 7 0 3 = nI n := by rw [wrs_other _ _ _ _ (by omega)]; exact h3
    have e2 : (wrs M 7 1 (fun x => if x < i then M.1 7 2 (3602 * n + x) else M.1 7 1 x)).1 7 2 (3602 * n + i) = M.1 7 2 (3602 * n + i) := by rw [wrs_other _ _ _ _ (by omega)]
    rw [L_X9_undo_33]
    simp (disch := omega) only [↓ite_b2r, ↓ite_nb2r, ↓lit_m1, ↓lit_m2, lit_0, lit_1, lit_2, lit_3, lit_4, lit_5, lit_6, lit_7, lit_8, lit_9, lit_10, lit_11, lit_12, lit_13, lit_14, lit_15, lit_16, lit_17, lit_18, lit_19, lit_20, lit_21, lit_22, lit_23, lit_24, lit_25, lit_26, lit_27, lit_28, lit_29, lit_30, lit_31, lit_32, lit_33, lit_34, lit_35, lit_36, lit_40, lit_41, lit_42, lit_44, lit_48, lit_57, lit_59, lit_62, lit_63, lit_64, lit_82, lit_98, lit_99, lit_100, lit_101, lit_102, lit_103, lit_104, lit_105, lit_106, lit_107, lit_108, lit_109, lit_110, lit_111, lit_112, lit_113, lit_119, lit_120, lit_127, lit_128, lit_149, lit_150, lit_202, lit_240, lit_262, lit_894, lit_900, lit_999, lit_1000, lit_2000, lit_2662, lit_2663, lit_2695, lit_2701, lit_2702, lit_3602, lit_10806, nI_add, pk_mul, cl_nI, inb_nI, nI_leI, nI_ltI, nI_eq, nI_eq_m1, m1_eq_nI, nI_eq_m2, div_nI, rem_nI, Option.bind_some, b2_0, b2_1, isb_b2, if_true_, if_false_, ↓reduceIte, reduceCtorEq, not_true_eq_false, not_false_eq_true, bt_hasBit, ult, Nat.add_zero, false_and, true_and, and_true, and_false, Nat.reduceLeDiff, Nat.reduceEqDiff, Nat.reduceLT, Bool.toNat_true, Bool.toNat_false, decide_true, decide_false, Bool.not_true, Bool.not_false, Bool.false_and, Bool.true_and, Bool.and_true, Bool.and_false, Bool.or_false, Bool.true_or, Bool.or_true, Bool.false_or, Nat.not_le.mpr hi, e3, e2, wr_wrs]
    congr 2
    funext x
    by_cases hx : x = i
    · subst hx; rw [upd_same, if_pos (by omega)]
    · rw [upd_other hx]
      by_cases h2 : x < i
      · rw [if_pos h2, if_pos (by omega)]
      · rw [if_neg h2, if_neg (by omega)]
  · show L_X9_undo_33 (m + 1) _ _ = _
    have e3 : (wrs M 7 1 (fun x => if x < 3602 then M.1 7 2 (3602 * n + x) else M.1 7 1 x)).1 7 0 3 = nI n := by rw [wrs_other _ _ _ _ (by omega)]; exact h3
    rw [L_X9_undo_33]
    simp (disch := omega) only [↓ite_b2r, ↓ite_nb2r, ↓lit_m1, ↓lit_m2, lit_0, lit_1, lit_2, lit_3, lit_4, lit_5, lit_6, lit_7, lit_8, lit_9, lit_10, lit_11, lit_12, lit_13, lit_14, lit_15, lit_16, lit_17, lit_18, lit_19, lit_20, lit_21, lit_22, lit_23, lit_24, lit_25, lit_26, lit_27, lit_28, lit_29, lit_30, lit_31, lit_32, lit_33, lit_34, lit_35, lit_36, lit_40, lit_41, lit_42, lit_44, lit_48, lit_57, lit_59, lit_62, lit_63, lit_64, lit_82, lit_98, lit_99, lit_100, lit_101, lit_102, lit_103, lit_104, lit_105, lit_106, lit_107, lit_108, lit_109, lit_110, lit_111, lit_112, lit_113, lit_119, lit_120, lit_127, lit_128, lit_149, lit_150, lit_202, lit_240, lit_262, lit_894, lit_900, lit_999, lit_1000, lit_2000, lit_2662, lit_2663, lit_2695, lit_2701, lit_2702, lit_3602, lit_10806, nI_add, pk_mul, cl_nI, inb_nI, nI_leI, nI_ltI, nI_eq, nI_eq_m1, m1_eq_nI, nI_eq_m2, div_nI, rem_nI, Option.bind_some, b2_0, b2_1, isb_b2, if_true_, if_false_, ↓reduceIte, reduceCtorEq, not_true_eq_false, not_false_eq_true, bt_hasBit, ult, Nat.add_zero, false_and, true_and, and_true, and_false, Nat.reduceLeDiff, Nat.reduceEqDiff, Nat.reduceLT, Bool.toNat_true, Bool.toNat_false, decide_true, decide_false, Bool.not_true, Bool.not_false, Bool.false_and, Bool.true_and, Bool.and_true, Bool.and_false, Bool.or_false, Bool.true_or, Bool.or_true, Bool.false_or, Nat.le_refl, e3]
theorem TB_cg {N R : Row} (h : eqR 0 3602 R N) (t : TB k N) : TB k R := ⟨⟨WF_cgA h t.1.1, WFx_c (h.sub (by omega) (by omega)) (h.sub (by omega) (by omega)) t.1.1.1 t.1.1.2.1 t.1.2⟩, by rw [h 0 (by omega) (by omega)]; exact t.2.1, by rw [h 1 (by omega) (by omega)]; exact t.2.2⟩
theorem k_undo (h : SR k M) : okc k M f_L_undo f_X9_undo := by
  obtain ⟨hT, hr, x, n, P, a, b, c, d⟩ := h
  have h : SR k M := ⟨hT, hr, x, n, P, a, b, c, d⟩
  have c1 : M.1 6 1 1 = nI n := c.2.1
  have d1 : M.1 7 0 3 = nI n := d.1
  have e110 : f_X8_faultOf (nI 1) (nI 1) (nI 0) = nI (flt true true false) := c_faultOf true true false
  have e111 : f_X8_faultOf (nI 1) (nI 1) (nI 1) = nI (flt true true true) := c_faultOf true true true
  cases n with
  | zero =>
    refine okc_r h (r := 1) (b := nI 0) (by decide) ?_ ?_
    · unfold f_L_undo f_X8_undo B_X8_undo_17
      simp (disch := omega) only [↓ite_b2r, ↓ite_nb2r, ↓lit_m1, ↓lit_m2, lit_0, lit_1, lit_2, lit_3, lit_4, lit_5, lit_6, lit_7, lit_8, lit_9, lit_10, lit_11, lit_12, lit_13, lit_14, lit_15, lit_16, lit_17, lit_18, lit_19, lit_20, lit_21, lit_22, lit_23, lit_24, lit_25, lit_26, lit_27, lit_28, lit_29, lit_30, lit_31, lit_32, lit_33, lit_34, lit_35, lit_36, lit_40, lit_41, lit_42, lit_44, lit_48, lit_57, lit_59, lit_62, lit_63, lit_64, lit_82, lit_98, lit_99, lit_100, lit_101, lit_102, lit_103, lit_104, lit_105, lit_106, lit_107, lit_108, lit_109, lit_110, lit_111, lit_112, lit_113, lit_119, lit_120, lit_127, lit_128, lit_149, lit_150, lit_202, lit_240, lit_262, lit_894, lit_900, lit_999, lit_1000, lit_2000, lit_2662, lit_2663, lit_2695, lit_2701, lit_2702, lit_3602, lit_10806, nI_add, pk_mul, cl_nI, inb_nI, nI_leI, nI_ltI, nI_eq, nI_eq_m1, m1_eq_nI, nI_eq_m2, div_nI, rem_nI, Option.bind_some, b2_0, b2_1, isb_b2, if_true_, if_false_, ↓reduceIte, reduceCtorEq, not_true_eq_false, not_false_eq_true, bt_hasBit, ult, Nat.add_zero, false_and, true_and, and_true, and_false, Nat.reduceLeDiff, Nat.reduceEqDiff, Nat.reduceLT, Bool.toNat_true, Bool.toNat_false, decide_true, decide_false, Bool.not_true, Bool.not_false, Bool.false_and, Bool.true_and, Bool.and_true, Bool.and_false, Bool.or_false, Bool.true_or, Bool.or_true, Bool.false_or, flt_1, flt_2, flt_3, flt_0, fk_flt, fkl_0, fkl_1, fkl_2, fkl_3, n10, n20, n30, n12, n13, n21, n23, n31, n32, refu_0, refu_1, refu_2, refu_3, c1, Nat.le_refl, e110]
    · unfold f_X9_undo B_X9_undo_13
      simp (disch := omega) only [↓ite_b2r, ↓ite_nb2r, ↓lit_m1, ↓lit_m2, lit_0, lit_1, lit_2, lit_3, lit_4, lit_5, lit_6, lit_7, lit_8, lit_9, lit_10, lit_11, lit_12, lit_13, lit_14, lit_15, lit_16, lit_17, lit_18, lit_19, lit_20, lit_21, lit_22, lit_23, lit_24, lit_25, lit_26, lit_27, lit_28, lit_29, lit_30, lit_31, lit_32, lit_33, lit_34, lit_35, lit_36, lit_40, lit_41, lit_42, lit_44, lit_48, lit_57, lit_59, lit_62, lit_63, lit_64, lit_82, lit_98, lit_99, lit_100, lit_101, lit_102, lit_103, lit_104, lit_105, lit_106, lit_107, lit_108, lit_109, lit_110, lit_111, lit_112, lit_113, lit_119, lit_120, lit_127, lit_128, lit_149, lit_150, lit_202, lit_240, lit_262, lit_894, lit_900, lit_999, lit_1000, lit_2000, lit_2662, lit_2663, lit_2695, lit_2701, lit_2702, lit_3602, lit_10806, nI_add, pk_mul, cl_nI, inb_nI, nI_leI, nI_ltI, nI_eq, nI_eq_m1, m1_eq_nI, nI_eq_m2, div_nI, rem_nI, Option.bind_some, b2_0, b2_1, isb_b2, if_true_, if_false_, ↓reduceIte, reduceCtorEq, not_true_eq_false, not_false_eq_true, bt_hasBit, ult, Nat.add_zero, false_and, true_and, and_true, and_false, Nat.reduceLeDiff, Nat.reduceEqDiff, Nat.reduceLT, Bool.toNat_true, Bool.toNat_false, decide_true, decide_false, Bool.not_true, Bool.not_false, Bool.false_and, Bool.true_and, Bool.and_true, Bool.and_false, Bool.or_false, Bool.true_or, Bool.or_true, Bool.false_or, flt_1, flt_2, flt_3, flt_0, fk_flt, fkl_0, fkl_1, fkl_2, fkl_3, n10, n20, n30, n12, n13, n21, n23, n31, n32, refu_0, refu_1, refu_2, refu_3, d1]
  | succ n =>
    obtain ⟨M2, p1, p2, p3, p4, p5, p6, p7⟩ := c_pop c (b n (by omega)).1
    have e61 : M2.1 6 1 1 = nI n := p2.2.1
    have hL : f_L_undo M = some (nI 0, wrL M2 8 (nI n).toInt64) := by
      unfold f_L_undo f_X8_undo B_X8_undo_17
      simp (disch := omega) only [↓ite_b2r, ↓ite_nb2r, ↓lit_m1, ↓lit_m2, lit_0, lit_1, lit_2, lit_3, lit_4, lit_5, lit_6, lit_7, lit_8, lit_9, lit_10, lit_11, lit_12, lit_13, lit_14, lit_15, lit_16, lit_17, lit_18, lit_19, lit_20, lit_21, lit_22, lit_23, lit_24, lit_25, lit_26, lit_27, lit_28, lit_29, lit_30, lit_31, lit_32, lit_33, lit_34, lit_35, lit_36, lit_40, lit_41, lit_42, lit_44, lit_48, lit_57, lit_59, lit_62, lit_63, lit_64, lit_82, lit_98, lit_99, lit_100, lit_101, lit_102, lit_103, lit_104, lit_105, lit_106, lit_107, lit_108, lit_109, lit_110, lit_111, lit_112, lit_113, lit_119, lit_120, lit_127, lit_128, lit_149, lit_150, lit_202, lit_240, lit_262, lit_894, lit_900, lit_999, lit_1000, lit_2000, lit_2662, lit_2663, lit_2695, lit_2701, lit_2702, lit_3602, lit_10806, nI_add, pk_mul, cl_nI, inb_nI, nI_leI, nI_ltI, nI_eq, nI_eq_m1, m1_eq_nI, nI_eq_m2, div_nI, rem_nI, Option.bind_some, b2_0, b2_1, isb_b2, if_true_, if_false_, ↓reduceIte, reduceCtorEq, not_true_eq_false, not_false_eq_true, bt_hasBit, ult, Nat.add_zero, false_and, true_and, and_true, and_false, Nat.reduceLeDiff, Nat.reduceEqDiff, Nat.reduceLT, Bool.toNat_true, Bool.toNat_false, decide_true, decide_false, Bool.not_true, Bool.not_false, Bool.false_and, Bool.true_and, Bool.and_true, Bool.and_false, Bool.or_false, Bool.true_or, Bool.or_true, Bool.false_or, flt_1, flt_2, flt_3, flt_0, fk_flt, fkl_0, fkl_1, fkl_2, fkl_3, n10, n20, n30, n12, n13, n21, n23, n31, n32, refu_0, refu_1, refu_2, refu_3, c1, show ¬ n + 1 ≤ 0 by omega, e111, p1, e61]
    generalize hM1 : wrL M2 8 (nI n).toInt64 = M1 at hL
    have q7 : M1.1 7 = M.1 7 := by rw [← hM1]; exact p5
    have q3 : M1.1 7 0 3 = nI (n + 1) := by rw [q7]; exact d1
    generalize hM3 : wr (wr M1 7 0 4 (nI 0)) 7 0 3 (nI n) = M3
    have v3 : M3.1 7 0 3 = nI n := by rw [← hM3, wr_same, upd_same]
    have v4 : (wr M1 7 0 4 (nI 0)).1 7 0 3 = nI (n + 1) := by rw [wr_same, upd_other (by omega)]; exact q3
    have hs : nI (n + 1) - nI 1 = nI n := (pk_sub (b := 1) (by omega)).trans (by rw [Nat.add_sub_cancel])
    have hn4 : n < 4 := by omega
    have hM : f_X9_undo M1 = some (nI n, wrs M3 7 1 (fun x => if x < 3602 then M3.1 7 2 (3602 * n + x) else M3.1 7 1 x)) := by
      unfold f_X9_undo B_X9_undo_13
      simp (disch := omega) only [↓ite_b2r, ↓ite_nb2r, ↓lit_m1, ↓lit_m2, lit_0, lit_1, lit_2, lit_3, lit_4, lit_5, lit_6, lit_7, lit_8, lit_9, lit_10, lit_11, lit_12, lit_13, lit_14, lit_15, lit_16, lit_17, lit_18, lit_19, lit_20, lit_21, lit_22, lit_23, lit_24, lit_25, lit_26, lit_27, lit_28, lit_29, lit_30, lit_31, lit_32, lit_33, lit_34, lit_35, lit_36, lit_40, lit_41, lit_42, lit_44, lit_48, lit_57, lit_59, lit_62, lit_63, lit_64, lit_82, lit_98, lit_99, lit_100, lit_101, lit_102, lit_103, lit_104, lit_105, lit_106, lit_107, lit_108, lit_109, lit_110, lit_111, lit_112, lit_113, lit_119, lit_120, lit_127, lit_128, lit_149, lit_150, lit_202, lit_240, lit_262, lit_894, lit_900, lit_999, lit_1000, lit_2000, lit_2662, lit_2663, lit_2695, lit_2701, lit_2702, lit_3602, lit_10806, nI_add, pk_mul, cl_nI, inb_nI, nI_leI, nI_ltI, nI_eq, nI_eq_m1, m1_eq_nI, nI_eq_m2, div_nI, rem_nI, Option.bind_some, b2_0, b2_1, isb_b2, if_true_, if_false_, ↓reduceIte, reduceCtorEq, not_true_eq_false, not_false_eq_true, bt_hasBit, ult, Nat.add_zero, false_and, true_and, and_true, and_false, Nat.reduceLeDiff, Nat.reduceEqDiff, Nat.reduceLT, Bool.toNat_true, Bool.toNat_false, decide_true, decide_false, Bool.not_true, Bool.not_false, Bool.false_and, Bool.true_and, Bool.and_true, Bool.and_false, Bool.or_false, Bool.true_or, Bool.or_true, Bool.false_or, flt_1, flt_2, flt_3, flt_0, fk_flt, fkl_0, fkl_1, fkl_2, fkl_3, n10, n20, n30, n12, n13, n21, n23, n31, n32, refu_0, refu_1, refu_2, refu_3, q3, show ¬ n + 1 = 0 by omega, v4, hs, hM3]
      exact m_undo33 v3 hn4
    have w2 : M3.1 7 2 = M.1 7 2 := by rw [← hM3, wr_other _ _ _ _ _ (by omega), wr_other _ _ _ _ _ (by omega), q7]
    have heq : eqR 0 3602 (fun x => if x < 3602 then M3.1 7 2 (3602 * n + x) else M3.1 7 1 x) (P n) := fun x _ hx => by
      dsimp only
      rw [if_pos hx, w2]
      exact d.2 n (by omega) x hx
    generalize hM4 : wrs M3 7 1 (fun x => if x < 3602 then M3.1 7 2 (3602 * n + x) else M3.1 7 1 x) = M4 at hM
    have k1 : M4.1 7 1 = (fun x => if x < 3602 then M3.1 7 2 (3602 * n + x) else M3.1 7 1 x) := by rw [← hM4, wrs_same]
    have k0 : M4.1 7 0 = upd (upd (M.1 7 0) 4 (nI 0)) 3 (nI n) := by rw [← hM4, wrs_other _ _ _ _ (by omega), ← hM3, wr_same, wr_same, q7]
    have kj : ∀ j, j ≠ 0 → j ≠ 1 → M4.1 7 j = M.1 7 j := fun j h1 h2 => by rw [← hM4, wrs_other _ _ _ _ (by omega), ← hM3, wr_other _ _ _ _ _ (by omega), wr_other _ _ _ _ _ (by omega), q7]
    have kg : ∀ g, g ≠ 7 → M4.1 g = M2.1 g := fun g hg => by rw [← hM4, wrs_ng _ _ _ (by omega), ← hM3, wr_ng _ _ _ _ (by omega), wr_ng _ _ _ _ (by omega), ← hM1, wrL_1]
    have hTn := b n (by omega)
    refine ⟨nI 0, M1, nI n, M4, hL, hM, ?_, fun _ => ?_, ?_, ?_, ?_, n, P, by omega, fun i hi => (b i (by omega)).up (by omega), ?_, ?_⟩
    · show M4.1 7 0 4 = _
      rw [k0, upd_other (by omega), upd_same]
    · rw [← hM4, wrs_2, ← hM3, wr_2, wr_2, ← hM1]
      exact wrL_8 M2 _
    · rw [k1]; exact (TB_cg heq hTn).up (by omega)
    · rw [k1, kg 0 (by omega)]; exact RD_cgA heq hTn.1.1 p3
    · exact TX_cg x (by rw [kg 6 (by omega), p7 3 (by omega)]) (by rw [kg 6 (by omega), p7 4 (by omega)]) (by rw [k0, upd_other (by omega), upd_other (by omega)]) (kj 4 (by omega) (by omega))
    · exact SVC_cg p2 (by rw [kg 6 (by omega)]) (by rw [kg 6 (by omega)]) (fun g h1 h2 => kg g (by omega))
    · exact ⟨by rw [k0, upd_same], fun i hi x hx => by rw [kj 2 (by omega) (by omega)]; exact d.2 i (by omega) x hx⟩
theorem k_sections (h : SR k M) : ∃ M2, f_X9_sections M = some (f_X8_sections M, M2) ∧ SR (k + 1) M2 := by
  have h72 : (wr M 7 0 4 (nI 0)).1 7 1 = M.1 7 1 := wr_other _ _ _ _ _ (by omega)
  have g1 := m_many (M := wr M 7 0 4 (nI 0)) (by rw [h72]; exact h.1.1.1.1)
  rw [h72] at g1
  refine ⟨wr M 7 0 4 (nI 0), ?_, SR_ref h _⟩
  unfold f_X9_sections f_X8_sections
  rw [h.2.1.2.1.1]
  simp (disch := omega) only [↓ite_b2r, ↓ite_nb2r, ↓lit_m1, ↓lit_m2, lit_0, lit_1, lit_2, lit_3, lit_4, lit_5, lit_6, lit_7, lit_8, lit_9, lit_10, lit_11, lit_12, lit_13, lit_14, lit_15, lit_16, lit_17, lit_18, lit_19, lit_20, lit_21, lit_22, lit_23, lit_24, lit_25, lit_26, lit_27, lit_28, lit_29, lit_30, lit_31, lit_32, lit_33, lit_34, lit_35, lit_36, lit_40, lit_41, lit_42, lit_44, lit_48, lit_57, lit_59, lit_62, lit_63, lit_64, lit_82, lit_98, lit_99, lit_100, lit_101, lit_102, lit_103, lit_104, lit_105, lit_106, lit_107, lit_108, lit_109, lit_110, lit_111, lit_112, lit_113, lit_119, lit_120, lit_127, lit_128, lit_149, lit_150, lit_202, lit_240, lit_262, lit_894, lit_900, lit_999, lit_1000, lit_2000, lit_2662, lit_2663, lit_2695, lit_2701, lit_2702, lit_3602, lit_10806, nI_add, pk_mul, cl_nI, inb_nI, nI_leI, nI_ltI, nI_eq, nI_eq_m1, m1_eq_nI, nI_eq_m2, div_nI, rem_nI, Option.bind_some, b2_0, b2_1, isb_b2, if_true_, if_false_, ↓reduceIte, reduceCtorEq, not_true_eq_false, not_false_eq_true, bt_hasBit, ult, Nat.add_zero, false_and, true_and, and_true, and_false, Nat.reduceLeDiff, Nat.reduceEqDiff, Nat.reduceLT, Bool.toNat_true, Bool.toNat_false, decide_true, decide_false, Bool.not_true, Bool.not_false, Bool.false_and, Bool.true_and, Bool.and_true, Bool.and_false, Bool.or_false, Bool.true_or, Bool.or_true, Bool.false_or, g1]
theorem k_entries (h : SR k M) : ∃ M2, f_X9_entries M = some (f_X8_entries M, M2) ∧ SR (k + 1) M2 := by
  have h72 : (wr M 7 0 4 (nI 0)).1 7 1 = M.1 7 1 := wr_other _ _ _ _ _ (by omega)
  refine ⟨wr M 7 0 4 (nI 0), ?_, SR_ref h _⟩
  unfold f_X9_entries f_X8_entries
  rw [h.2.1.2.2.2.2.2.1.1]
  simp (disch := omega) only [↓ite_b2r, ↓ite_nb2r, ↓lit_m1, ↓lit_m2, lit_0, lit_1, lit_2, lit_3, lit_4, lit_5, lit_6, lit_7, lit_8, lit_9, lit_10, lit_11, lit_12, lit_13, lit_14, lit_15, lit_16, lit_17, lit_18, lit_19, lit_20, lit_21, lit_22, lit_23, lit_24, lit_25, lit_26, lit_27, lit_28, lit_29, lit_30, lit_31, lit_32, lit_33, lit_34, lit_35, lit_36, lit_40, lit_41, lit_42, lit_44, lit_48, lit_57, lit_59, lit_62, lit_63, lit_64, lit_82, lit_98, lit_99, lit_100, lit_101, lit_102, lit_103, lit_104, lit_105, lit_106, lit_107, lit_108, lit_109, lit_110, lit_111, lit_112, lit_113, lit_119, lit_120, lit_127, lit_128, lit_149, lit_150, lit_202, lit_240, lit_262, lit_894, lit_900, lit_999, lit_1000, lit_2000, lit_2662, lit_2663, lit_2695, lit_2701, lit_2702, lit_3602, lit_10806, nI_add, pk_mul, cl_nI, inb_nI, nI_leI, nI_ltI, nI_eq, nI_eq_m1, m1_eq_nI, nI_eq_m2, div_nI, rem_nI, Option.bind_some, b2_0, b2_1, isb_b2, if_true_, if_false_, ↓reduceIte, reduceCtorEq, not_true_eq_false, not_false_eq_true, bt_hasBit, ult, Nat.add_zero, false_and, true_and, and_true, and_false, Nat.reduceLeDiff, Nat.reduceEqDiff, Nat.reduceLT, Bool.toNat_true, Bool.toNat_false, decide_true, decide_false, Bool.not_true, Bool.not_false, Bool.false_and, Bool.true_and, Bool.and_true, Bool.and_false, Bool.or_false, Bool.true_or, Bool.or_true, Bool.false_or, h72]
theorem k_waiting (h : SR k M) : ∃ M2, f_X9_waiting M = some (f_X8_waiting M, M2) ∧ SR (k + 1) M2 := by
  have h72 : (wr M 7 0 4 (nI 0)).1 7 1 = M.1 7 1 := wr_other _ _ _ _ _ (by omega)
  refine ⟨wr M 7 0 4 (nI 0), ?_, SR_ref h _⟩
  unfold f_X9_waiting f_X8_waiting f_X9_waits
  rw [h.2.1.2.2.2.2.1.1]
  simp (disch := omega) only [↓ite_b2r, ↓ite_nb2r, ↓lit_m1, ↓lit_m2, lit_0, lit_1, lit_2, lit_3, lit_4, lit_5, lit_6, lit_7, lit_8, lit_9, lit_10, lit_11, lit_12, lit_13, lit_14, lit_15, lit_16, lit_17, lit_18, lit_19, lit_20, lit_21, lit_22, lit_23, lit_24, lit_25, lit_26, lit_27, lit_28, lit_29, lit_30, lit_31, lit_32, lit_33, lit_34, lit_35, lit_36, lit_40, lit_41, lit_42, lit_44, lit_48, lit_57, lit_59, lit_62, lit_63, lit_64, lit_82, lit_98, lit_99, lit_100, lit_101, lit_102, lit_103, lit_104, lit_105, lit_106, lit_107, lit_108, lit_109, lit_110, lit_111, lit_112, lit_113, lit_119, lit_120, lit_127, lit_128, lit_149, lit_150, lit_202, lit_240, lit_262, lit_894, lit_900, lit_999, lit_1000, lit_2000, lit_2662, lit_2663, lit_2695, lit_2701, lit_2702, lit_3602, lit_10806, nI_add, pk_mul, cl_nI, inb_nI, nI_leI, nI_ltI, nI_eq, nI_eq_m1, m1_eq_nI, nI_eq_m2, div_nI, rem_nI, Option.bind_some, b2_0, b2_1, isb_b2, if_true_, if_false_, ↓reduceIte, reduceCtorEq, not_true_eq_false, not_false_eq_true, bt_hasBit, ult, Nat.add_zero, false_and, true_and, and_true, and_false, Nat.reduceLeDiff, Nat.reduceEqDiff, Nat.reduceLT, Bool.toNat_true, Bool.toNat_false, decide_true, decide_false, Bool.not_true, Bool.not_false, Bool.false_and, Bool.true_and, Bool.and_true, Bool.and_false, Bool.or_false, Bool.true_or, Bool.or_true, Bool.false_or, h72]
theorem k_clearText (h : SR k M) : ∃ b M1 M2, f_X8_clearText M = some (b, M1) ∧ f_X9_clearText M1 = some (b, M2) ∧ SR (k + 1) M2 := by
  obtain ⟨hT, hr, ⟨len, l1, l2, l3, l4⟩, n, P, a, b, c, d⟩ := h
  generalize hM1 : wr M 6 3 1 (nI 0) = M1
  generalize hM2 : wr (wr M1 7 0 4 (nI 0)) 7 0 6 (nI 0) = M2
  have m7 : M1.1 7 = M.1 7 := by rw [← hM1, wr_ng _ _ _ _ (by omega)]
  have k0 : M2.1 7 0 = upd (upd (M.1 7 0) 4 (nI 0)) 6 (nI 0) := by rw [← hM2, wr_same, wr_same, m7]
  have kj : ∀ j, j ≠ 0 → M2.1 7 j = M.1 7 j := fun j h1 => by rw [← hM2, wr_other _ _ _ _ _ (by omega), wr_other _ _ _ _ _ (by omega), m7]
  have kg : ∀ g, g ≠ 7 → M2.1 g = M1.1 g := fun g hg => by rw [← hM2, wr_ng _ _ _ _ (by omega), wr_ng _ _ _ _ (by omega)]
  have kg2 : ∀ g, g ≠ 6 → M1.1 g = M.1 g := fun g hg => by rw [← hM1, wr_ng _ _ _ _ (by omega)]
  have k6j : ∀ j, j ≠ 3 → M1.1 6 j = M.1 6 j := fun j h1 => by rw [← hM1, wr_other _ _ _ _ _ (by omega)]
  refine ⟨nI len, M1, M2, ?_, ?_, ?_, ?_, ⟨0, by omega, ?_, ?_, fun i hi => absurd hi (Nat.not_lt_zero _)⟩, n, P, a, fun i hi => (b i hi).up (by omega), ?_, ?_⟩
  · unfold f_X8_clearText
    rw [l2, ← hM1]
    rfl
  · unfold f_X9_clearText
    have e6 : (wr M1 7 0 4 (nI 0)).1 7 0 6 = nI len := by rw [wr_same, upd_other (by omega), m7]; exact l3
    simp (disch := omega) only [↓ite_b2r, ↓ite_nb2r, ↓lit_m1, ↓lit_m2, lit_0, lit_1, lit_2, lit_3, lit_4, lit_5, lit_6, lit_7, lit_8, lit_9, lit_10, lit_11, lit_12, lit_13, lit_14, lit_15, lit_16, lit_17, lit_18, lit_19, lit_20, lit_21, lit_22, lit_23, lit_24, lit_25, lit_26, lit_27, lit_28, lit_29, lit_30, lit_31, lit_32, lit_33, lit_34, lit_35, lit_36, lit_40, lit_41, lit_42, lit_44, lit_48, lit_57, lit_59, lit_62, lit_63, lit_64, lit_82, lit_98, lit_99, lit_100, lit_101, lit_102, lit_103, lit_104, lit_105, lit_106, lit_107, lit_108, lit_109, lit_110, lit_111, lit_112, lit_113, lit_119, lit_120, lit_127, lit_128, lit_149, lit_150, lit_202, lit_240, lit_262, lit_894, lit_900, lit_999, lit_1000, lit_2000, lit_2662, lit_2663, lit_2695, lit_2701, lit_2702, lit_3602, lit_10806, nI_add, pk_mul, cl_nI, inb_nI, nI_leI, nI_ltI, nI_eq, nI_eq_m1, m1_eq_nI, nI_eq_m2, div_nI, rem_nI, Option.bind_some, b2_0, b2_1, isb_b2, if_true_, if_false_, ↓reduceIte, reduceCtorEq, not_true_eq_false, not_false_eq_true, bt_hasBit, ult, Nat.add_zero, false_and, true_and, and_true, and_false, Nat.reduceLeDiff, Nat.reduceEqDiff, Nat.reduceLT, Bool.toNat_true, Bool.toNat_false, decide_true, decide_false, Bool.not_true, Bool.not_false, Bool.false_and, Bool.true_and, Bool.and_true, Bool.and_false, Bool.or_false, Bool.true_or, Bool.or_true, Bool.false_or, e6, hM2]
  · rw [kj 1 (by omega)]; exact hT.up (by omega)
  · rw [kj 1 (by omega), kg 0 (by omega), kg2 0 (by omega)]; exact hr
  · rw [kg 6 (by omega), ← hM1, wr_same, upd_same]
  · rw [k0, upd_same]
  · exact SVC_cg c (by rw [kg 6 (by omega), k6j 1 (by omega)]) (by rw [kg 6 (by omega), k6j 2 (by omega)]) (fun g h1 h2 => by rw [kg g (by omega), kg2 g (by omega)])
  · exact SVM_cg d (by rw [k0, upd_other (by omega), upd_other (by omega)]) (kj 2 (by omega))
end UN
