/-! ===== undo; the answers that nothing refuses ===== -/
section UN
variable {k : Nat} {M : Mem}
theorem m_undo33 {M : Mem} {n : Nat} (h3 : M.1 7 0 3 = nI n) (hn : n < 4) : L_X9_undo_33 FU 0 M = some (nI n, wrs M 7 1 (fun x => if x < 3602 then M.1 7 2 (3602 * n + x) else M.1 7 1 x)) := by
  refine loop0 (fun m (σ : Int32 × Mem) => L_X9_undo_33 m σ.1 σ.2) (fun i => (nI i, wrs M 7 1 (fun x => if x < i then M.1 7 2 (3602 * n + x) else M.1 7 1 x))) 3602 (nI 0, M) ?_ (fun m i hi => ?_) (fun m => ?_) FU (by decide)
  · refine Prod.ext rfl ?_
    have : (fun x => if x < 0 then M.1 7 2 (3602 * n + x) else M.1 7 1 x) = M.1 7 1 := funext fun x => by rw [if_neg (Nat.not_lt_zero _)]
    dsimp only
    rw [this]
    exact wrs_self M 7 1
  · show L_X9_undo_33 (m + 1) _ _ = L_X9_undo_33 m _ _
    have e3 : (wrs M 7 1 (fun x => if x < i then M.1 7 2 (3602 * n + x) else M.1 7 1 x)).1 7 0 3 = nI n := by rw [wrs_other _ _ _ _ (by omega)]; exact h3
    have e2 : (wrs M 7 1 (fun x => if x < i then M.1 7 2 (3602 * n + x) else M.1 7 1 x)).1 7 2 (3602 * n + i) = M.1 7 2 (3602 * n + i) := by rw [wrs_other _ _ _ _ (by omega)]
    rw [L_X9_undo_33]
    simp (disch := omega) only [↓ite_b2r, ↓ite_nb2r, ↓lit_m1, ↓lit_m2, lit_0, lit_1, lit_2, lit_3, lit_4, lit_5, lit_6, lit_7, lit_8, lit_9, lit_10, lit_11, lit_12, lit_13, lit_14, lit_15, lit_16, lit_17, lit_18, lit_19, lit_20, lit_21, lit_22, lit_23, lit_24, lit_25, lit_26, lit_27, lit_28, lit_29, lit_30, lit_31, lit_32, lit_33, lit_34, lit_35, lit_36, lit_40, lit_41, lit_42, lit_44, lit_48, lit_57, lit_59, lit_62, lit_63, lit_64, lit_82, lit_98, lit_99, lit_100, lit_101, lit_102, lit_103, lit_104, lit_105, lit_106, lit_107, lit_108, lit_109, lit_110, lit_111, lit_112, lit_113, lit_119, lit_120, lit_127, lit_128, lit_149, lit_150, lit_202, lit_240, lit_262, lit_894, lit_900, lit_999, lit_1000, lit_2000, lit_2662, lit_2663, lit_2695, lit_2701, lit_2702, lit_3602, lit_10806, nI_add, pk_mul, cl_nI, inb_nI, nI_leI, nI_ltI, nI_eq, nI_eq_m1, m1_eq_nI, nI_eq_m2, div_nI, rem_nI, Option.bind_some, b2_0, b2_1, isb_b2, if_true_, if_false_, ↓reduceIte, reduceCtorEq, not_true_eq_false, not_false_eq_true, bt_hasBit, ult, Nat.add_zero, false_and, true_and, and_true, and_false, Nat.reduceLeDiff, Nat.reduceEqDiff, Nat.reduceLT, Bool.toNat_true, Bool.toNat_false, decide_true, decide_false, Bool.not_true, Bool.not_false, Bool.false_and, Bool.true_and, Bool.and_true, Bool.and_false, Bool.or_false, Bool.true_or, Bool.or_true, Bool.false_or, Nat.not_le.mpr hi, e3, e2, wr_wrs]
    congr 2
    funext x
    by_cases hx : x = i
    · subst hx; rw [upd_same, if_pos (by omega)]
    · rw [upd_other hx]
      by_cases h2 : x < i
      · rw [if_pos h2, if_pos (by omega)]
      · rw [if_neg h2, if_neg (by omega)]
  · show L_X9_undo_33 (m + 1) _ _ = _
    have e3 : (wrs M 7 1 (fun x => if x < 3602 then M.1 7 2 (3602 * n + x) else M.1 7 1 x)).1 7 0 3 = nI n := by rw [wrs_other _ _ _ _ (by omega)]; exact h3
    rw [L_X9_undo_33]
    simp (disch := omega) only [↓ite_b2r, ↓ite_nb2r, ↓lit_m1, ↓lit_m2, lit_0, lit_1, lit_2, lit_3, lit_4, lit_5, lit_6, lit_7, lit_8, lit_9, lit_10, lit_11, lit_12, lit_13, lit_14, lit_15, lit_16, lit_17, lit_18, lit_19, lit_20, lit_21, lit_22, lit_23, lit_24, lit_25, lit_26, lit_27, lit_28, lit_29, lit_30, lit_31, lit_32, lit_33, lit_34, lit_35, lit_36, lit_40, lit_41, lit_42, lit_44, lit_48, lit_57, lit_59, lit_62, lit_63, lit_64, lit_82, lit_98, lit_99, lit_100, lit_101, lit_102, lit_103, lit_104, lit_105, lit_106, lit_107, lit_108, lit_109, lit_110, lit_111, lit_112, lit_113, lit_119, lit_120, lit_127, lit_128, lit_149, lit_150, lit_202, lit_240, lit_262, lit_894, lit_900, lit_999, lit_1000, lit_2000, lit_2662, lit_2663, lit_2695, lit_2701, lit_2702, lit_3602, lit_10806, nI_add, pk_mul, cl_nI, inb_nI, nI_leI, nI_ltI, nI_eq, nI_eq_m1, m1_eq_nI, nI_eq_m2, div_nI, rem_nI, Option.bind_some, b2_0, b2_1, isb_b2, if_true_, if_false_, ↓reduceIte, reduceCtorEq, not_true_eq_false, not_false_eq_true, bt_hasBit, ult, Nat.add_zero, false_and, true_and, and_true, and_false, Nat.reduceLeDiff, Nat.reduceEqDiff, Nat.reduceLT, Bool.toNat_true, Bool.toNat_false, decide_true, decide_false, Bool.not_true, Bool.not_false, Bool.false_and, Bool.true_and, Bool.and_true, Bool.and_false, Bool.or_false, Bool.true_or, Bool.or_true, Bool.false_or, Nat.le_refl, e3]
theorem TB_cg {N R : Row} (h : eqR 0 3602 R N) (t : TB k N) : TB k R := ⟨⟨WF_cgA h t.1.1, WFx_c (h.sub (by omega) (by omega)) (h.sub (by omega) (by omega)) t.1.1.1 t.1.1.2.1 t.1.2⟩, by rw [h 0 (by omega) (by omega)]; exact t.2.1, by rw [h 1 (by omega) (by omega)]; exact t.2.2⟩
end UN
