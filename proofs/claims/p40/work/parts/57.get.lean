/-! ===== the questions ===== -/
theorem fo2 (a b : Bool) : f_X8_faultOf (b2 a) (b2 b) 1 = nI (flt a b true) := c_faultOf a b true
theorem fo1 (a : Bool) : f_X8_faultOf (b2 a) 1 1 = nI (flt a true true) := c_faultOf a true true
theorem wi3 (x : Int32) : f_X8_isWithin x 0 3 = b2 (inR x 4) := c_within x 3 (by decide)
theorem wi4 (x : Int32) : f_X8_isWithin x 0 4 = b2 (inR x 5) := c_within x 4 (by decide)
theorem wi5 (x : Int32) : f_X8_isWithin x 0 5 = b2 (inR x 6) := c_within x 5 (by decide)
theorem mi3 (x : Int32) : f_X9_within x (nI 0) (nI 3) = b2 (inR x 4) := m_within x 3 (by decide)
theorem mi4 (x : Int32) : f_X9_within x (nI 0) (nI 4) = b2 (inR x 5) := m_within x 4 (by decide)
theorem mi5 (x : Int32) : f_X9_within x (nI 0) (nI 5) = b2 (inR x 6) := m_within x 5 (by decide)
theorem wiN (x : Int32) {n : Nat} (hn : n < 2147483648) : f_X8_isWithin x 0 (nI n - 1) = b2 (inR x n) := by
  cases n with
  | zero =>
    unfold f_X8_isWithin inR
    rw [show nI 0 - 1 = mI from rfl]
    by_cases h1 : x < nI 0
    · simp (disch := omega) only [↓ite_b2r, ↓ite_nb2r, ↓lit_m1, ↓lit_m2, lit_0, lit_1, lit_2, lit_3, lit_4, lit_5, lit_6, lit_7, lit_8, lit_9, lit_10, lit_11, lit_12, lit_13, lit_14, lit_15, lit_16, lit_17, lit_18, lit_19, lit_20, lit_21, lit_22, lit_23, lit_24, lit_25, lit_26, lit_27, lit_28, lit_29, lit_30, lit_31, lit_32, lit_33, lit_34, lit_35, lit_36, lit_40, lit_41, lit_42, lit_44, lit_48, lit_57, lit_59, lit_62, lit_63, lit_64, lit_82, lit_98, lit_99, lit_100, lit_101, lit_102, lit_103, lit_104, lit_105, lit_106, lit_107, lit_108, lit_109, lit_110, lit_111, lit_112, lit_113, lit_119, lit_120, lit_127, lit_128, lit_149, lit_150, lit_202, lit_240, lit_262, lit_894, lit_900, lit_999, lit_1000, lit_2000, lit_2662, lit_2663, lit_2695, lit_2701, lit_2702, lit_3602, lit_10806, nI_add, pk_mul, cl_nI, inb_nI, nI_leI, nI_ltI, nI_eq, nI_eq_m1, m1_eq_nI, nI_eq_m2, div_nI, rem_nI, Option.bind_some, b2_0, b2_1, isb_b2, if_true_, if_false_, ↓reduceIte, reduceCtorEq, not_true_eq_false, not_false_eq_true, bt_hasBit, ult, Nat.add_zero, false_and, true_and, and_true, and_false, Nat.reduceLeDiff, Nat.reduceEqDiff, Nat.reduceLT, Bool.toNat_true, Bool.toNat_false, decide_true, decide_false, Bool.not_true, Bool.not_false, Bool.false_and, Bool.true_and, Bool.and_true, Bool.and_false, Bool.or_false, Bool.true_or, Bool.or_true, Bool.false_or, h1] <;> rfl
    · have h2 : mI < x := by
        have h1' : ¬ x < nI 0 := h1
        rw [Int32.lt_iff_toInt_lt] at h1' ⊢
        have : (nI 0).toInt = 0 := by decide
        have : mI.toInt = -1 := by decide
        omega
      have h3 : nI 0 ≤ x := Int32.not_lt.mp h1
      simp (disch := omega) only [↓ite_b2r, ↓ite_nb2r, ↓lit_m1, ↓lit_m2, lit_0, lit_1, lit_2, lit_3, lit_4, lit_5, lit_6, lit_7, lit_8, lit_9, lit_10, lit_11, lit_12, lit_13, lit_14, lit_15, lit_16, lit_17, lit_18, lit_19, lit_20, lit_21, lit_22, lit_23, lit_24, lit_25, lit_26, lit_27, lit_28, lit_29, lit_30, lit_31, lit_32, lit_33, lit_34, lit_35, lit_36, lit_40, lit_41, lit_42, lit_44, lit_48, lit_57, lit_59, lit_62, lit_63, lit_64, lit_82, lit_98, lit_99, lit_100, lit_101, lit_102, lit_103, lit_104, lit_105, lit_106, lit_107, lit_108, lit_109, lit_110, lit_111, lit_112, lit_113, lit_119, lit_120, lit_127, lit_128, lit_149, lit_150, lit_202, lit_240, lit_262, lit_894, lit_900, lit_999, lit_1000, lit_2000, lit_2662, lit_2663, lit_2695, lit_2701, lit_2702, lit_3602, lit_10806, nI_add, pk_mul, cl_nI, inb_nI, nI_leI, nI_ltI, nI_eq, nI_eq_m1, m1_eq_nI, nI_eq_m2, div_nI, rem_nI, Option.bind_some, b2_0, b2_1, isb_b2, if_true_, if_false_, ↓reduceIte, reduceCtorEq, not_true_eq_false, not_false_eq_true, bt_hasBit, ult, Nat.add_zero, false_and, true_and, and_true, and_false, Nat.reduceLeDiff, Nat.reduceEqDiff, Nat.reduceLT, Bool.toNat_true, Bool.toNat_false, decide_true, decide_false, Bool.not_true, Bool.not_false, Bool.false_and, Bool.true_and, Bool.and_true, Bool.and_false, Bool.or_false, Bool.true_or, Bool.or_true, Bool.false_or, h1, h2, h3] <;> rfl
  | succ n =>
    rw [show nI (n + 1) - 1 = nI n from (pk_sub (b := 1) (by omega)).trans (by rw [Nat.add_sub_cancel])]
    exact c_within x n (by omega)
theorem miN (x : Int32) {n : Nat} (hn : n < 2147483648) : f_X9_within x (nI 0) (nI n - nI 1) = b2 (inR x n) := wiN x hn
section KG
variable {k : Nat} {M : Mem}
end KG
