/-! ===== the questions of the law, at a desk that shows N ===== -/
def secV (N : Row) (s w : Nat) : Int32 := if w = 0 then N (22 + s) else if w = 1 then nI (chMany N s) else if w = 2 then nI (dpN N s - 1) else if w = 3 then N (62 + s) else nI (blN N s)
def aSec (N : Row) (x y : Int32) : Int32 := if isS N x = true then (if inR y 5 = true then secV N (cl x) (cl y) else -51) else -53
def aLin (N : Row) (x y : Int32) : Int32 := if isL N x y = true then N (82 + 6 * cl x + cl y) else -53
def aCop (N : Row) (x y z : Int32) (b : Bool) : Int32 := if hCp N x y z = true then (if b = true then N (262 + 240 * cl x + 12 * cl y + 2 * cl z) else N (262 + 240 * cl x + 12 * cl y + 2 * cl z + 1)) else -53
def chkV (N : Row) (c w : Nat) : Int32 := if w = 5 then nI (cntEd N c) else N (202 + 6 * c + (w + 1))
def aChk (N : Row) (x y : Int32) : Int32 := if isC N x = true then (if inR y 6 = true then chkV N (cl x) (cl y) else -51) else -53
def aEnt (N : Row) (x y : Int32) : Int32 := if inR x (hn N) = true then (if inR y 6 = true then N (2702 + 6 * cl x + cl y) else -51) else -53
def aWai (N : Row) (x y : Int32) : Int32 := if inR x (wq N) = true then (if inR y 4 = true then N (2663 + 4 * cl x + cl y) else -51) else -53
def aChi (N : Row) (x y : Int32) : Int32 := if isS N x = true then (if inR y (chMany N (cl x)) = true then chAt N (cl x) y 20 else -53) else -53
def aHol (N : Row) (x : Int32) : Int32 := if isS N x = true then Hol N (cl x) else -53
def aCnf (N : Row) (x : Int32) : Int32 := if isC N x = true then nI (cntCf N (cl x)) else -53
def aBla (N : Row) (x y : Int32) : Int32 := if isL N x y = true then latU N (cl x) (cl y) (hn N) else -53
section AK
variable {N : Row} {S : List Row} {T : List Nat} {M : Mem}
theorem e_section (hN : WFa N) (h : De N S T M) (x y : Int32) : f_L_section x y M = some (aSec N x y, M) := by
  have hr := h.1
  unfold aSec
  cases hS : isS N x with
  | false =>
    unfold f_L_section f_X8_section
    rw [c_has hr.1 hN.1.1, hS, Option.bind_some, wi4, fo2, fk_flt]
    rfl
  | true =>
    cases hy : inR y 5 with
    | false =>
      unfold f_L_section f_X8_section
      rw [c_has hr.1 hN.1.1, hS, Option.bind_some, wi4, fo2, fk_flt, hy]
      rfl
    | true =>
      obtain ⟨s, hs, rfl, hu⟩ := isS_t hS
      obtain ⟨w, hw, rfl⟩ := inR_t (by decide) hy
      rw [if_pos rfl, if_pos rfl, cl_nI (by omega), cl_nI (by omega)]
      unfold f_L_section f_X8_section secV
      rw [c_has hr.1 hN.1.1, hS, Option.bind_some, wi4, fo2, fk_flt, hy, flt_0, if_pos rfl]
      rcases (show w = 0 ∨ w = 1 ∨ w = 2 ∨ w = 3 ∨ w = 4 by omega) with rfl | rfl | rfl | rfl | rfl
      · simp (disch := omega) only [↓ite_b2r, ↓ite_nb2r, ↓lit_m1, ↓lit_m2, lit_0, lit_1, lit_2, lit_3, lit_4, lit_5, lit_6, lit_7, lit_8, lit_9, lit_10, lit_11, lit_12, lit_13, lit_14, lit_15, lit_16, lit_17, lit_18, lit_19, lit_20, lit_21, lit_22, lit_23, lit_24, lit_25, lit_26, lit_27, lit_28, lit_29, lit_30, lit_31, lit_32, lit_33, lit_34, lit_35, lit_36, lit_40, lit_41, lit_42, lit_44, lit_48, lit_57, lit_59, lit_62, lit_63, lit_64, lit_82, lit_98, lit_99, lit_100, lit_101, lit_102, lit_103, lit_104, lit_105, lit_106, lit_107, lit_108, lit_109, lit_110, lit_111, lit_112, lit_113, lit_119, lit_120, lit_127, lit_128, lit_149, lit_150, lit_202, lit_240, lit_262, lit_894, lit_900, lit_999, lit_1000, lit_2000, lit_2662, lit_2663, lit_2695, lit_2701, lit_2702, lit_3602, lit_10806, nI_add, pk_mul, cl_nI, inb_nI, nI_leI, nI_ltI, nI_eq, nI_eq_m1, m1_eq_nI, nI_eq_m2, div_nI, rem_nI, Option.bind_some, b2_0, b2_1, isb_b2, if_true_, if_false_, ↓reduceIte, reduceCtorEq, not_true_eq_false, not_false_eq_true, bt_hasBit, ult, Nat.add_zero, false_and, true_and, and_true, and_false, Nat.reduceLeDiff, Nat.reduceEqDiff, Nat.reduceLT, Bool.toNat_true, Bool.toNat_false, decide_true, decide_false, Bool.not_true, Bool.not_false, Bool.false_and, Bool.true_and, Bool.and_true, Bool.and_false, Bool.or_false, Bool.true_or, Bool.or_true, Bool.false_or, c_parentOf hr.1 hN.1.1 hs hu]
      · simp (disch := omega) only [↓ite_b2r, ↓ite_nb2r, ↓lit_m1, ↓lit_m2, lit_0, lit_1, lit_2, lit_3, lit_4, lit_5, lit_6, lit_7, lit_8, lit_9, lit_10, lit_11, lit_12, lit_13, lit_14, lit_15, lit_16, lit_17, lit_18, lit_19, lit_20, lit_21, lit_22, lit_23, lit_24, lit_25, lit_26, lit_27, lit_28, lit_29, lit_30, lit_31, lit_32, lit_33, lit_34, lit_35, lit_36, lit_40, lit_41, lit_42, lit_44, lit_48, lit_57, lit_59, lit_62, lit_63, lit_64, lit_82, lit_98, lit_99, lit_100, lit_101, lit_102, lit_103, lit_104, lit_105, lit_106, lit_107, lit_108, lit_109, lit_110, lit_111, lit_112, lit_113, lit_119, lit_120, lit_127, lit_128, lit_149, lit_150, lit_202, lit_240, lit_262, lit_894, lit_900, lit_999, lit_1000, lit_2000, lit_2662, lit_2663, lit_2695, lit_2701, lit_2702, lit_3602, lit_10806, nI_add, pk_mul, cl_nI, inb_nI, nI_leI, nI_ltI, nI_eq, nI_eq_m1, m1_eq_nI, nI_eq_m2, div_nI, rem_nI, Option.bind_some, b2_0, b2_1, isb_b2, if_true_, if_false_, ↓reduceIte, reduceCtorEq, not_true_eq_false, not_false_eq_true, bt_hasBit, ult, Nat.add_zero, false_and, true_and, and_true, and_false, Nat.reduceLeDiff, Nat.reduceEqDiff, Nat.reduceLT, Bool.toNat_true, Bool.toNat_false, decide_true, decide_false, Bool.not_true, Bool.not_false, Bool.false_and, Bool.true_and, Bool.and_true, Bool.and_false, Bool.or_false, Bool.true_or, Bool.or_true, Bool.false_or, c_childrenOf hN.1.1 hr hs hu]
      · simp (disch := omega) only [↓ite_b2r, ↓ite_nb2r, ↓lit_m1, ↓lit_m2, lit_0, lit_1, lit_2, lit_3, lit_4, lit_5, lit_6, lit_7, lit_8, lit_9, lit_10, lit_11, lit_12, lit_13, lit_14, lit_15, lit_16, lit_17, lit_18, lit_19, lit_20, lit_21, lit_22, lit_23, lit_24, lit_25, lit_26, lit_27, lit_28, lit_29, lit_30, lit_31, lit_32, lit_33, lit_34, lit_35, lit_36, lit_40, lit_41, lit_42, lit_44, lit_48, lit_57, lit_59, lit_62, lit_63, lit_64, lit_82, lit_98, lit_99, lit_100, lit_101, lit_102, lit_103, lit_104, lit_105, lit_106, lit_107, lit_108, lit_109, lit_110, lit_111, lit_112, lit_113, lit_119, lit_120, lit_127, lit_128, lit_149, lit_150, lit_202, lit_240, lit_262, lit_894, lit_900, lit_999, lit_1000, lit_2000, lit_2662, lit_2663, lit_2695, lit_2701, lit_2702, lit_3602, lit_10806, nI_add, pk_mul, cl_nI, inb_nI, nI_leI, nI_ltI, nI_eq, nI_eq_m1, m1_eq_nI, nI_eq_m2, div_nI, rem_nI, Option.bind_some, b2_0, b2_1, isb_b2, if_true_, if_false_, ↓reduceIte, reduceCtorEq, not_true_eq_false, not_false_eq_true, bt_hasBit, ult, Nat.add_zero, false_and, true_and, and_true, and_false, Nat.reduceLeDiff, Nat.reduceEqDiff, Nat.reduceLT, Bool.toNat_true, Bool.toNat_false, decide_true, decide_false, Bool.not_true, Bool.not_false, Bool.false_and, Bool.true_and, Bool.and_true, Bool.and_false, Bool.or_false, Bool.true_or, Bool.or_true, Bool.false_or, c_depthOf hN.1.1 hr.1 hs hu]
      · unfold f_X7_versionOf
        simp (disch := omega) only [↓ite_b2r, ↓ite_nb2r, ↓lit_m1, ↓lit_m2, lit_0, lit_1, lit_2, lit_3, lit_4, lit_5, lit_6, lit_7, lit_8, lit_9, lit_10, lit_11, lit_12, lit_13, lit_14, lit_15, lit_16, lit_17, lit_18, lit_19, lit_20, lit_21, lit_22, lit_23, lit_24, lit_25, lit_26, lit_27, lit_28, lit_29, lit_30, lit_31, lit_32, lit_33, lit_34, lit_35, lit_36, lit_40, lit_41, lit_42, lit_44, lit_48, lit_57, lit_59, lit_62, lit_63, lit_64, lit_82, lit_98, lit_99, lit_100, lit_101, lit_102, lit_103, lit_104, lit_105, lit_106, lit_107, lit_108, lit_109, lit_110, lit_111, lit_112, lit_113, lit_119, lit_120, lit_127, lit_128, lit_149, lit_150, lit_202, lit_240, lit_262, lit_894, lit_900, lit_999, lit_1000, lit_2000, lit_2662, lit_2663, lit_2695, lit_2701, lit_2702, lit_3602, lit_10806, nI_add, pk_mul, cl_nI, inb_nI, nI_leI, nI_ltI, nI_eq, nI_eq_m1, m1_eq_nI, nI_eq_m2, div_nI, rem_nI, Option.bind_some, b2_0, b2_1, isb_b2, if_true_, if_false_, ↓reduceIte, reduceCtorEq, not_true_eq_false, not_false_eq_true, bt_hasBit, ult, Nat.add_zero, false_and, true_and, and_true, and_false, Nat.reduceLeDiff, Nat.reduceEqDiff, Nat.reduceLT, Bool.toNat_true, Bool.toNat_false, decide_true, decide_false, Bool.not_true, Bool.not_false, Bool.false_and, Bool.true_and, Bool.and_true, Bool.and_false, Bool.or_false, Bool.true_or, Bool.or_true, Bool.false_or, c_hasN hr.1 hN.1.1 hs, hu, hr.1.2.2.1 s hs hu]
      · simp (disch := omega) only [↓ite_b2r, ↓ite_nb2r, ↓lit_m1, ↓lit_m2, lit_0, lit_1, lit_2, lit_3, lit_4, lit_5, lit_6, lit_7, lit_8, lit_9, lit_10, lit_11, lit_12, lit_13, lit_14, lit_15, lit_16, lit_17, lit_18, lit_19, lit_20, lit_21, lit_22, lit_23, lit_24, lit_25, lit_26, lit_27, lit_28, lit_29, lit_30, lit_31, lit_32, lit_33, lit_34, lit_35, lit_36, lit_40, lit_41, lit_42, lit_44, lit_48, lit_57, lit_59, lit_62, lit_63, lit_64, lit_82, lit_98, lit_99, lit_100, lit_101, lit_102, lit_103, lit_104, lit_105, lit_106, lit_107, lit_108, lit_109, lit_110, lit_111, lit_112, lit_113, lit_119, lit_120, lit_127, lit_128, lit_149, lit_150, lit_202, lit_240, lit_262, lit_894, lit_900, lit_999, lit_1000, lit_2000, lit_2662, lit_2663, lit_2695, lit_2701, lit_2702, lit_3602, lit_10806, nI_add, pk_mul, cl_nI, inb_nI, nI_leI, nI_ltI, nI_eq, nI_eq_m1, m1_eq_nI, nI_eq_m2, div_nI, rem_nI, Option.bind_some, b2_0, b2_1, isb_b2, if_true_, if_false_, ↓reduceIte, reduceCtorEq, not_true_eq_false, not_false_eq_true, bt_hasBit, ult, Nat.add_zero, false_and, true_and, and_true, and_false, Nat.reduceLeDiff, Nat.reduceEqDiff, Nat.reduceLT, Bool.toNat_true, Bool.toNat_false, decide_true, decide_false, Bool.not_true, Bool.not_false, Bool.false_and, Bool.true_and, Bool.and_true, Bool.and_false, Bool.or_false, Bool.true_or, Bool.or_true, Bool.false_or, c_subtreeOf, rowAt_nI hs (by omega), c_subCount hr.1 hs hu]
        have e : nI (blN N s + 1) - nI 1 = nI (blN N s) := (pk_sub (b := 1) (by omega)).trans (by rw [Nat.add_sub_cancel])
        rw [e]
theorem e_line (hN : WFa N) (h : De N S T M) (x y : Int32) : f_L_line x y M = some (aLin N x y, M) := by
  have hr := h.1
  unfold aLin
  cases hL : isL N x y with
  | false =>
    unfold f_L_line f_X8_line
    rw [c_hasLine hr.1 hN.1.1, hL, Option.bind_some, fo1, fk_flt]
    rfl
  | true =>
    have hL2 := hL
    unfold isL at hL2
    rw [Bool.and_eq_true] at hL2
    obtain ⟨s, hs, rfl, hu⟩ := isS_t hL2.1
    obtain ⟨l, hl, rfl⟩ := inR_t (by decide) hL2.2
    rw [if_pos rfl, cl_nI (by omega), cl_nI (by omega)]
    unfold f_L_line f_X8_line f_X8_cellOf
    rw [c_hasLine hr.1 hN.1.1, hL, Option.bind_some, fo1, fk_flt]
    simp (disch := omega) only [↓ite_b2r, ↓ite_nb2r, ↓lit_m1, ↓lit_m2, lit_0, lit_1, lit_2, lit_3, lit_4, lit_5, lit_6, lit_7, lit_8, lit_9, lit_10, lit_11, lit_12, lit_13, lit_14, lit_15, lit_16, lit_17, lit_18, lit_19, lit_20, lit_21, lit_22, lit_23, lit_24, lit_25, lit_26, lit_27, lit_28, lit_29, lit_30, lit_31, lit_32, lit_33, lit_34, lit_35, lit_36, lit_40, lit_41, lit_42, lit_44, lit_48, lit_57, lit_59, lit_62, lit_63, lit_64, lit_82, lit_98, lit_99, lit_100, lit_101, lit_102, lit_103, lit_104, lit_105, lit_106, lit_107, lit_108, lit_109, lit_110, lit_111, lit_112, lit_113, lit_119, lit_120, lit_127, lit_128, lit_149, lit_150, lit_202, lit_240, lit_262, lit_894, lit_900, lit_999, lit_1000, lit_2000, lit_2662, lit_2663, lit_2695, lit_2701, lit_2702, lit_3602, lit_10806, nI_add, pk_mul, cl_nI, inb_nI, nI_leI, nI_ltI, nI_eq, nI_eq_m1, m1_eq_nI, nI_eq_m2, div_nI, rem_nI, Option.bind_some, b2_0, b2_1, isb_b2, if_true_, if_false_, ↓reduceIte, reduceCtorEq, not_true_eq_false, not_false_eq_true, bt_hasBit, ult, Nat.add_zero, false_and, true_and, and_true, and_false, Nat.reduceLeDiff, Nat.reduceEqDiff, Nat.reduceLT, Bool.toNat_true, Bool.toNat_false, decide_true, decide_false, Bool.not_true, Bool.not_false, Bool.false_and, Bool.true_and, Bool.and_true, Bool.and_false, Bool.or_false, Bool.true_or, Bool.or_true, Bool.false_or, flt_0, c_valueAt, Nat.mul_comm s 6, hr.1.2.2.2.1 s l hs hl hu]
theorem e_copied (hN : WFa N) (h : De N S T M) (x y z : Int32) (b : Bool) : f_L_copied x y z (b2 b) M = some (aCop N x y z b, M) := by
  have hr := h.1
  unfold aCop
  cases hL : hCp N x y z with
  | false =>
    unfold f_L_copied f_X8_copied
    rw [c_hasCopy hr.1 hr.2.2.1 hN.1.1 hN.1.2.1, hL, Option.bind_some, fo1, fk_flt]
    rfl
  | true =>
    obtain ⟨c, s, l, hc, hs, hl, rfl, rfl, rfl, hk, hu, ha⟩ := hCp_t hL
    obtain ⟨e1, e2⟩ := hr.2.2.2.1 c s l hc hs hl hk hu ha
    rw [if_pos rfl, cl_nI (by omega), cl_nI (by omega), cl_nI (by omega)]
    unfold f_L_copied f_X8_copied f_X8_cellOf
    rw [c_hasCopy hr.1 hr.2.2.1 hN.1.1 hN.1.2.1, hL, Option.bind_some, fo1, fk_flt]
    cases b with
    | true =>
      simp (disch := omega) only [↓ite_b2r, ↓ite_nb2r, ↓lit_m1, ↓lit_m2, lit_0, lit_1, lit_2, lit_3, lit_4, lit_5, lit_6, lit_7, lit_8, lit_9, lit_10, lit_11, lit_12, lit_13, lit_14, lit_15, lit_16, lit_17, lit_18, lit_19, lit_20, lit_21, lit_22, lit_23, lit_24, lit_25, lit_26, lit_27, lit_28, lit_29, lit_30, lit_31, lit_32, lit_33, lit_34, lit_35, lit_36, lit_40, lit_41, lit_42, lit_44, lit_48, lit_57, lit_59, lit_62, lit_63, lit_64, lit_82, lit_98, lit_99, lit_100, lit_101, lit_102, lit_103, lit_104, lit_105, lit_106, lit_107, lit_108, lit_109, lit_110, lit_111, lit_112, lit_113, lit_119, lit_120, lit_127, lit_128, lit_149, lit_150, lit_202, lit_240, lit_262, lit_894, lit_900, lit_999, lit_1000, lit_2000, lit_2662, lit_2663, lit_2695, lit_2701, lit_2702, lit_3602, lit_10806, nI_add, pk_mul, cl_nI, inb_nI, nI_leI, nI_ltI, nI_eq, nI_eq_m1, m1_eq_nI, nI_eq_m2, div_nI, rem_nI, Option.bind_some, b2_0, b2_1, isb_b2, if_true_, if_false_, ↓reduceIte, reduceCtorEq, not_true_eq_false, not_false_eq_true, bt_hasBit, ult, Nat.add_zero, false_and, true_and, and_true, and_false, Nat.reduceLeDiff, Nat.reduceEqDiff, Nat.reduceLT, Bool.toNat_true, Bool.toNat_false, decide_true, decide_false, Bool.not_true, Bool.not_false, Bool.false_and, Bool.true_and, Bool.and_true, Bool.and_false, Bool.or_false, Bool.true_or, Bool.or_true, Bool.false_or, flt_0, c_baseAt, Nat.mul_comm s 6, e1]
    | false =>
      simp (disch := omega) only [↓ite_b2r, ↓ite_nb2r, ↓lit_m1, ↓lit_m2, lit_0, lit_1, lit_2, lit_3, lit_4, lit_5, lit_6, lit_7, lit_8, lit_9, lit_10, lit_11, lit_12, lit_13, lit_14, lit_15, lit_16, lit_17, lit_18, lit_19, lit_20, lit_21, lit_22, lit_23, lit_24, lit_25, lit_26, lit_27, lit_28, lit_29, lit_30, lit_31, lit_32, lit_33, lit_34, lit_35, lit_36, lit_40, lit_41, lit_42, lit_44, lit_48, lit_57, lit_59, lit_62, lit_63, lit_64, lit_82, lit_98, lit_99, lit_100, lit_101, lit_102, lit_103, lit_104, lit_105, lit_106, lit_107, lit_108, lit_109, lit_110, lit_111, lit_112, lit_113, lit_119, lit_120, lit_127, lit_128, lit_149, lit_150, lit_202, lit_240, lit_262, lit_894, lit_900, lit_999, lit_1000, lit_2000, lit_2662, lit_2663, lit_2695, lit_2701, lit_2702, lit_3602, lit_10806, nI_add, pk_mul, cl_nI, inb_nI, nI_leI, nI_ltI, nI_eq, nI_eq_m1, m1_eq_nI, nI_eq_m2, div_nI, rem_nI, Option.bind_some, b2_0, b2_1, isb_b2, if_true_, if_false_, ↓reduceIte, reduceCtorEq, not_true_eq_false, not_false_eq_true, bt_hasBit, ult, Nat.add_zero, false_and, true_and, and_true, and_false, Nat.reduceLeDiff, Nat.reduceEqDiff, Nat.reduceLT, Bool.toNat_true, Bool.toNat_false, decide_true, decide_false, Bool.not_true, Bool.not_false, Bool.false_and, Bool.true_and, Bool.and_true, Bool.and_false, Bool.or_false, Bool.true_or, Bool.or_true, Bool.false_or, flt_0, c_ownAt, Nat.mul_comm s 6, e2]
theorem e_checkOut (hN : WFa N) (h : De N S T M) (x y : Int32) : f_L_checkOut x y M = some (aChk N x y, M) := by
  have hr := h.1
  unfold aChk
  cases hS : isC N x with
  | false =>
    unfold f_L_checkOut f_X8_checkOut
    rw [c_ohas hr.2.2.1, hS, wi5, fo2, fk_flt]
    rfl
  | true =>
    cases hy : inR y 6 with
    | false =>
      unfold f_L_checkOut f_X8_checkOut
      rw [c_ohas hr.2.2.1, hS, wi5, fo2, fk_flt, hy]
      rfl
    | true =>
      obtain ⟨c, hc, rfl, hk⟩ := isC_t hS
      obtain ⟨w, hw, rfl⟩ := inR_t (by decide) hy
      obtain ⟨r0, r1, r2, r3, r4⟩ := hr.2.2.1.2 c hc hk
      have hfac : ∀ w, w < 5 → fac (M.1 0) N (nI c) w = N (202 + 6 * c + (w + 1)) := fun w hw => fac_nI hr.2.2.1 hc hk hw
      rw [if_pos rfl, if_pos rfl, cl_nI (by omega), cl_nI (by omega)]
      unfold f_L_checkOut f_X8_checkOut chkV
      rw [c_ohas hr.2.2.1, hS, wi5, fo2, fk_flt, hy, flt_0, if_pos rfl]
      by_cases h5 : w = 5
      · subst h5
        simp (disch := omega) only [↓ite_b2r, ↓ite_nb2r, ↓lit_m1, ↓lit_m2, lit_0, lit_1, lit_2, lit_3, lit_4, lit_5, lit_6, lit_7, lit_8, lit_9, lit_10, lit_11, lit_12, lit_13, lit_14, lit_15, lit_16, lit_17, lit_18, lit_19, lit_20, lit_21, lit_22, lit_23, lit_24, lit_25, lit_26, lit_27, lit_28, lit_29, lit_30, lit_31, lit_32, lit_33, lit_34, lit_35, lit_36, lit_40, lit_41, lit_42, lit_44, lit_48, lit_57, lit_59, lit_62, lit_63, lit_64, lit_82, lit_98, lit_99, lit_100, lit_101, lit_102, lit_103, lit_104, lit_105, lit_106, lit_107, lit_108, lit_109, lit_110, lit_111, lit_112, lit_113, lit_119, lit_120, lit_127, lit_128, lit_149, lit_150, lit_202, lit_240, lit_262, lit_894, lit_900, lit_999, lit_1000, lit_2000, lit_2662, lit_2663, lit_2695, lit_2701, lit_2702, lit_3602, lit_10806, nI_add, pk_mul, cl_nI, inb_nI, nI_leI, nI_ltI, nI_eq, nI_eq_m1, m1_eq_nI, nI_eq_m2, div_nI, rem_nI, Option.bind_some, b2_0, b2_1, isb_b2, if_true_, if_false_, ↓reduceIte, reduceCtorEq, not_true_eq_false, not_false_eq_true, bt_hasBit, ult, Nat.add_zero, false_and, true_and, and_true, and_false, Nat.reduceLeDiff, Nat.reduceEqDiff, Nat.reduceLT, Bool.toNat_true, Bool.toNat_false, decide_true, decide_false, Bool.not_true, Bool.not_false, Bool.false_and, Bool.true_and, Bool.and_true, Bool.and_false, Bool.or_false, Bool.true_or, Bool.or_true, Bool.false_or, c_countEdited hr.1 hr.2.2.1 hr.2.2.2.1 hN.1.2.1 hc hk, Nat.le_refl]
      · have hw5 : w < 5 := by omega
        simp (disch := omega) only [↓ite_b2r, ↓ite_nb2r, ↓lit_m1, ↓lit_m2, lit_0, lit_1, lit_2, lit_3, lit_4, lit_5, lit_6, lit_7, lit_8, lit_9, lit_10, lit_11, lit_12, lit_13, lit_14, lit_15, lit_16, lit_17, lit_18, lit_19, lit_20, lit_21, lit_22, lit_23, lit_24, lit_25, lit_26, lit_27, lit_28, lit_29, lit_30, lit_31, lit_32, lit_33, lit_34, lit_35, lit_36, lit_40, lit_41, lit_42, lit_44, lit_48, lit_57, lit_59, lit_62, lit_63, lit_64, lit_82, lit_98, lit_99, lit_100, lit_101, lit_102, lit_103, lit_104, lit_105, lit_106, lit_107, lit_108, lit_109, lit_110, lit_111, lit_112, lit_113, lit_119, lit_120, lit_127, lit_128, lit_149, lit_150, lit_202, lit_240, lit_262, lit_894, lit_900, lit_999, lit_1000, lit_2000, lit_2662, lit_2663, lit_2695, lit_2701, lit_2702, lit_3602, lit_10806, nI_add, pk_mul, cl_nI, inb_nI, nI_leI, nI_ltI, nI_eq, nI_eq_m1, m1_eq_nI, nI_eq_m2, div_nI, rem_nI, Option.bind_some, b2_0, b2_1, isb_b2, if_true_, if_false_, ↓reduceIte, reduceCtorEq, not_true_eq_false, not_false_eq_true, bt_hasBit, ult, Nat.add_zero, false_and, true_and, and_true, and_false, Nat.reduceLeDiff, Nat.reduceEqDiff, Nat.reduceLT, Bool.toNat_true, Bool.toNat_false, decide_true, decide_false, Bool.not_true, Bool.not_false, Bool.false_and, Bool.true_and, Bool.and_true, Bool.and_false, Bool.or_false, Bool.true_or, Bool.or_true, Bool.false_or, show ¬ 5 ≤ w by omega, c_fact hr.2.2.1 (nI c) hw5, hfac w hw5, h5]
theorem e_entry (hN : WFa N) (h : De N S T M) (x y : Int32) : f_L_entry x y M = some (aEnt N x y, M) := by
  have hr := h.1
  have hh := hN.1.2.2.2.2.2
  have hl : hn N < 151 := hh.1.2
  have e27 : N 2701 = nI (hn N) := hh.1.1
  obtain ⟨e14, f, hf, hf1, hf2⟩ := hr.2.2.2.2.2.1
  have e14 : M.1 0 14 2 = nI (hn N) := e14.trans e27
  unfold aEnt
  cases hS : inR x (hn N) with
  | false =>
    unfold f_L_entry f_X8_entry
    rw [e14, wiN x (by omega), hS, wi5, fo2, fk_flt]
    rfl
  | true =>
    cases hy : inR y 6 with
    | false =>
      unfold f_L_entry f_X8_entry
      rw [e14, wiN x (by omega), hS, wi5, fo2, fk_flt, hy]
      rfl
    | true =>
      obtain ⟨e, he, rfl⟩ := inR_t (by omega) hS
      obtain ⟨w, hw, rfl⟩ := inR_t (by decide) hy
      rw [if_pos rfl, if_pos rfl, cl_nI (by omega), cl_nI (by omega)]
      unfold f_L_entry f_X8_entry
      rw [e14, wiN (nI e) (by omega), hS, wi5, fo2, fk_flt, hy, flt_0, if_pos rfl, c_hfact hf1 hf (by omega) hw, hf2 e w he hw]
      rfl
theorem e_waitingAt (hN : WFa N) (h : De N S T M) (x y : Int32) : f_L_waitingAt x y M = some (aWai N x y, M) := by
  have hr := h.1
  have hq := hN.1.2.2.2.1
  have hl := wq_le hq
  have e12 : M.1 0 12 1 = nI (wq N) := hr.2.2.2.2.1.1.trans hq.1.1
  unfold aWai
  cases hS : inR x (wq N) with
  | false =>
    unfold f_L_waitingAt f_X8_waitingAt
    rw [e12, wiN x (by omega), hS, wi3, fo2, fk_flt]
    rfl
  | true =>
    cases hy : inR y 4 with
    | false =>
      unfold f_L_waitingAt f_X8_waitingAt
      rw [e12, wiN x (by omega), hS, wi3, fo2, fk_flt, hy]
      rfl
    | true =>
      obtain ⟨e, he, rfl⟩ := inR_t (by omega) hS
      obtain ⟨w, hw, rfl⟩ := inR_t (by decide) hy
      have hv : M.1 0 13 (4 * e + w) = N (2663 + 4 * e + w) := by
        obtain ⟨r0, r1, r2, r3⟩ := hr.2.2.2.2.1.2 e he
        rcases (show w = 0 ∨ w = 1 ∨ w = 2 ∨ w = 3 by omega) with rfl | rfl | rfl | rfl
        · exact r0
        · exact r1
        · exact r2
        · exact r3
      rw [if_pos rfl, if_pos rfl, cl_nI (by omega), cl_nI (by omega)]
      unfold f_L_waitingAt f_X8_waitingAt
      rw [e12, wiN (nI e) (by omega), hS, wi3, fo2, fk_flt, hy, flt_0, if_pos rfl, c_qfact (by omega) hw]
      rw [hv]
      rfl
theorem e_child (hN : WFa N) (h : De N S T M) (x y : Int32) : f_L_child x y M = some (aChi N x y, M) := by
  have hr := h.1
  unfold aChi
  cases hS : isS N x with
  | false =>
    unfold f_L_child f_X8_child B_X8_child_23
    rw [c_childAt_no hN.1.1 hr hS, Option.bind_some, if_pos (show mI = -1 from rfl), show f_X8_faultOf 0 1 1 = _ from fo1 false, fk_flt]
    rfl
  | true =>
    obtain ⟨p, hp, rfl, hu⟩ := isS_t hS
    have hle := chMany_le N p
    have hca := c_childAt hN.1.1 hr hp hu y
    rw [if_pos rfl, cl_nI (by omega)]
    cases hy : inR y (chMany N p) with
    | false =>
      have e : chAt N p y 20 = mI := chAt_no 20 fun s hs hc e => by
        have := rk_lt hs hc
        rw [← e, inR_nI (by omega) (by omega), decide_eq_true this] at hy
        cases hy
      unfold f_L_child f_X8_child B_X8_child_23
      rw [hca, e, Option.bind_some, if_pos (show mI = -1 from rfl), show f_X8_faultOf 0 1 1 = _ from fo1 false, fk_flt]
      rfl
    | true =>
      obtain ⟨j, hj, rfl⟩ := inR_t (by omega) hy
      obtain ⟨s, hs, hc, hrk⟩ := rk_ex hN.1.1 hr.2.1 hj
      have e : chAt N p (nI j) 20 = nI s := chAt_yes hN.1.1 hc (by rw [hrk]) 20 hs (Nat.le_refl _)
      unfold f_L_child f_X8_child B_X8_child_23
      rw [hca, e, Option.bind_some, if_neg (fun z => by have z2 : nI s = mI := z; rw [nI_eq_m1 (by omega)] at z2; exact z2), show f_X8_faultOf 1 1 1 = _ from fo1 true, fk_flt]
      rfl
theorem e_holders (hN : WFa N) (h : De N S T M) (x : Int32) : f_L_holders x M = some (aHol N x, M) := by
  have hr := h.1
  unfold aHol
  cases hS : isS N x with
  | false =>
    unfold f_L_holders f_X8_holders
    rw [c_has hr.1 hN.1.1, hS, Option.bind_some, fo1, fk_flt]
    rfl
  | true =>
    obtain ⟨s, hs, rfl, hu⟩ := isS_t hS
    rw [if_pos rfl, cl_nI (by omega)]
    unfold f_L_holders f_X8_holders
    rw [c_has hr.1 hN.1.1, hS, Option.bind_some, fo1, fk_flt, flt_0, if_pos rfl, c_holdersOf hr.1 hr.2.2.1 hN.1.2.1 hs hu]
    rfl
theorem e_conflicts (hN : WFa N) (h : De N S T M) (x : Int32) : f_L_conflicts x M = some (aCnf N x, M) := by
  have hr := h.1
  have hf := c_checkOutFault (M := M) (g := 0) hr.2.2.1 x
  unfold aCnf
  cases hC : isC N x with
  | false =>
    unfold f_L_conflicts f_X8_conflicts
    rw [hf, hC, fk_flt]
    rfl
  | true =>
    obtain ⟨c, hc, rfl, hk⟩ := isC_t hC
    rw [if_pos rfl, cl_nI (by omega)]
    unfold f_L_conflicts f_X8_conflicts
    rw [hf, hC, fk_flt, flt_0, if_pos rfl, c_countConflicts hr.1 hr.2.2.1 hr.2.2.2.1 hN.1.2.1 hc hk]
    rfl
theorem e_sections (hN : WFa N) (h : De N S T M) : f_X8_sections M = nI (manyS N) := h.1.2.1.1
theorem e_entries (hN : WFa N) (h : De N S T M) : f_X8_entries M = nI (hn N) := by
  show M.1 0 14 2 = _
  rw [h.1.2.2.2.2.2.1.1]
  exact hN.1.2.2.2.2.2.1.1
theorem e_waiting (hN : WFa N) (h : De N S T M) : f_X8_waiting M = nI (wq N) := by
  show M.1 0 12 1 = _
  rw [h.1.2.2.2.2.1.1]
  exact hN.1.2.2.2.1.1.1
end AK
