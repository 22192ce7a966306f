/-! ===== the text: both readers ===== -/
def PR (i : Nat) (M : Mem) (r : Option (Int32 × Mem)) : Prop := ∀ n, 120 < n + i → L_X3_parse_12 n (nI i) M = r
def CF (M0 M : Mem) : Prop := M.1 6 3 1 = M0.1 6 3 1 ∧ (∀ j, j ≠ 3 → j ≠ 5 → j ≠ 6 → M.1 6 j = M0.1 6 j) ∧ (∀ g, g ≠ 6 → M.1 g = M0.1 g) ∧ M.2 = M0.2
def RF (R0 R : Mem) (p : Nat) : Prop := R.1 7 0 10 = nI p ∧ (∀ j, j ≠ 0 → j ≠ 8 → j ≠ 9 → R.1 7 j = R0.1 7 j) ∧ (∀ i, i ≠ 10 → i ≠ 11 → R.1 7 0 i = R0.1 7 0 i) ∧ (∀ g, g ≠ 7 → R.1 g = R0.1 g) ∧ R.2 = R0.2
def RS (R0 R : Mem) (p o : Nat) (L V : Nat → Int32) : Prop := RF R0 R p ∧ R.1 7 0 11 = nI o ∧ R.1 7 8 = L ∧ R.1 7 9 = V
/-- the same text on both sides -/
def TE (M0 R0 : Mem) (len : Nat) (B : Nat → Int32) : Prop := len ≤ 120 ∧ M0.1 6 3 1 = nI len ∧ (∀ i, i < len → M0.1 6 4 i = B i) ∧ R0.1 7 0 6 = nI len ∧ ∀ i, i < len → R0.1 7 4 i = B i
section PT
variable {M0 M R0 R : Mem} {len o nu dg p st : Nat} {B L V Lr Vr : Nat → Int32}
theorem CS.cf (h : CS M0 M st o nu dg L V) : CF M0 M := ⟨h.2.2.2.2.2.2.1, h.2.2.2.2.2.2.2.1, h.2.2.2.2.2.2.2.2.1, h.2.2.2.2.2.2.2.2.2⟩
theorem pr_step (hT : TE M0 R0 len B) (hc : CF M0 M) {i : Nat} (hi : i < len) {M' : Mem} (ht : f_X3_takes (B i) M = some (nI 1, M')) {r : Option (Int32 × Mem)} (h : PR (i + 1) M' r) : PR i M r := by
  intro n hn
  obtain ⟨t1, t2, t3, -⟩ := hT
  obtain ⟨m, rfl⟩ : ∃ m, n = m + 1 := ⟨n - 1, by omega⟩
  have e1 : M.1 6 3 1 = nI len := hc.1.trans t2
  have e2 : M.1 6 4 i = B i := by rw [hc.2.1 4 (by omega) (by omega) (by omega)]; exact t3 i hi
  rw [L_X3_parse_12]
  simp (disch := omega) only [↓ite_b2r, ↓ite_nb2r, ↓lit_m1, ↓lit_m2, lit_0, lit_1, lit_2, lit_3, lit_4, lit_5, lit_6, lit_7, lit_8, lit_9, lit_10, lit_11, lit_12, lit_13, lit_14, lit_15, lit_16, lit_17, lit_18, lit_19, lit_20, lit_21, lit_22, lit_23, lit_24, lit_25, lit_26, lit_27, lit_28, lit_29, lit_30, lit_31, lit_32, lit_33, lit_34, lit_35, lit_36, lit_40, lit_41, lit_42, lit_44, lit_48, lit_57, lit_59, lit_62, lit_63, lit_64, lit_82, lit_98, lit_99, lit_100, lit_101, lit_102, lit_103, lit_104, lit_105, lit_106, lit_107, lit_108, lit_109, lit_110, lit_111, lit_112, lit_113, lit_119, lit_120, lit_127, lit_128, lit_149, lit_150, lit_202, lit_240, lit_262, lit_894, lit_900, lit_999, lit_1000, lit_2000, lit_2662, lit_2663, lit_2695, lit_2701, lit_2702, lit_3602, lit_10806, nI_add, pk_mul, cl_nI, inb_nI, nI_leI, nI_ltI, nI_eq, nI_eq_m1, m1_eq_nI, nI_eq_m2, div_nI, rem_nI, Option.bind_some, b2_0, b2_1, isb_b2, if_true_, if_false_, ↓reduceIte, reduceCtorEq, not_true_eq_false, not_false_eq_true, bt_hasBit, ult, Nat.add_zero, false_and, true_and, and_true, and_false, Nat.reduceLeDiff, Nat.reduceEqDiff, Nat.reduceLT, Bool.toNat_true, Bool.toNat_false, decide_true, decide_false, Bool.not_true, Bool.not_false, Bool.false_and, Bool.true_and, Bool.and_true, Bool.and_false, Bool.or_false, Bool.true_or, Bool.or_true, Bool.false_or, e1, Nat.not_le.mpr hi, show ¬ 120 ≤ i by omega, e2, ht, show i < 120 by omega]
  exact h m (by omega)
theorem pr_fail (hT : TE M0 R0 len B) (hc : CF M0 M) {i : Nat} (hi : i < len) {M' : Mem} (ht : f_X3_takes (B i) M = some (nI 0, M')) : PR i M (some (nI i, M')) := by
  intro n hn
  obtain ⟨t1, t2, t3, -⟩ := hT
  obtain ⟨m, rfl⟩ : ∃ m, n = m + 1 := ⟨n - 1, by omega⟩
  have e1 : M.1 6 3 1 = nI len := hc.1.trans t2
  have e2 : M.1 6 4 i = B i := by rw [hc.2.1 4 (by omega) (by omega) (by omega)]; exact t3 i hi
  rw [L_X3_parse_12]
  simp (disch := omega) only [↓ite_b2r, ↓ite_nb2r, ↓lit_m1, ↓lit_m2, lit_0, lit_1, lit_2, lit_3, lit_4, lit_5, lit_6, lit_7, lit_8, lit_9, lit_10, lit_11, lit_12, lit_13, lit_14, lit_15, lit_16, lit_17, lit_18, lit_19, lit_20, lit_21, lit_22, lit_23, lit_24, lit_25, lit_26, lit_27, lit_28, lit_29, lit_30, lit_31, lit_32, lit_33, lit_34, lit_35, lit_36, lit_40, lit_41, lit_42, lit_44, lit_48, lit_57, lit_59, lit_62, lit_63, lit_64, lit_82, lit_98, lit_99, lit_100, lit_101, lit_102, lit_103, lit_104, lit_105, lit_106, lit_107, lit_108, lit_109, lit_110, lit_111, lit_112, lit_113, lit_119, lit_120, lit_127, lit_128, lit_149, lit_150, lit_202, lit_240, lit_262, lit_894, lit_900, lit_999, lit_1000, lit_2000, lit_2662, lit_2663, lit_2695, lit_2701, lit_2702, lit_3602, lit_10806, nI_add, pk_mul, cl_nI, inb_nI, nI_leI, nI_ltI, nI_eq, nI_eq_m1, m1_eq_nI, nI_eq_m2, div_nI, rem_nI, Option.bind_some, b2_0, b2_1, isb_b2, if_true_, if_false_, ↓reduceIte, reduceCtorEq, not_true_eq_false, not_false_eq_true, bt_hasBit, ult, Nat.add_zero, false_and, true_and, and_true, and_false, Nat.reduceLeDiff, Nat.reduceEqDiff, Nat.reduceLT, Bool.toNat_true, Bool.toNat_false, decide_true, decide_false, Bool.not_true, Bool.not_false, Bool.false_and, Bool.true_and, Bool.and_true, Bool.and_false, Bool.or_false, Bool.true_or, Bool.or_true, Bool.false_or, e1, Nat.not_le.mpr hi, show ¬ 120 ≤ i by omega, e2, ht, show i < 120 by omega]
theorem pr_end (hT : TE M0 R0 len B) (h : CS M0 M st o nu dg L V) (hs : st < 4) : PR len M (some (if st = 0 then mI else nI len, M)) := by
  intro n hn
  obtain ⟨t1, t2, t3, -⟩ := hT
  obtain ⟨m, rfl⟩ : ∃ m, n = m + 1 := ⟨n - 1, by omega⟩
  have e1 : M.1 6 3 1 = nI len := h.cf.1.trans t2
  have e2 : M.1 6 3 5 = nI st := h.2.1
  rw [L_X3_parse_12]
  unfold B_X3_parse_47
  by_cases h0 : st = 0
  · subst h0
    simp (disch := omega) only [↓ite_b2r, ↓ite_nb2r, ↓lit_m1, ↓lit_m2, lit_0, lit_1, lit_2, lit_3, lit_4, lit_5, lit_6, lit_7, lit_8, lit_9, lit_10, lit_11, lit_12, lit_13, lit_14, lit_15, lit_16, lit_17, lit_18, lit_19, lit_20, lit_21, lit_22, lit_23, lit_24, lit_25, lit_26, lit_27, lit_28, lit_29, lit_30, lit_31, lit_32, lit_33, lit_34, lit_35, lit_36, lit_40, lit_41, lit_42, lit_44, lit_48, lit_57, lit_59, lit_62, lit_63, lit_64, lit_82, lit_98, lit_99, lit_100, lit_101, lit_102, lit_103, lit_104, lit_105, lit_106, lit_107, lit_108, lit_109, lit_110, lit_111, lit_112, lit_113, lit_119, lit_120, lit_127, lit_128, lit_149, lit_150, lit_202, lit_240, lit_262, lit_894, lit_900, lit_999, lit_1000, lit_2000, lit_2662, lit_2663, lit_2695, lit_2701, lit_2702, lit_3602, lit_10806, nI_add, pk_mul, cl_nI, inb_nI, nI_leI, nI_ltI, nI_eq, nI_eq_m1, m1_eq_nI, nI_eq_m2, div_nI, rem_nI, Option.bind_some, b2_0, b2_1, isb_b2, if_true_, if_false_, ↓reduceIte, reduceCtorEq, not_true_eq_false, not_false_eq_true, bt_hasBit, ult, Nat.add_zero, false_and, true_and, and_true, and_false, Nat.reduceLeDiff, Nat.reduceEqDiff, Nat.reduceLT, Bool.toNat_true, Bool.toNat_false, decide_true, decide_false, Bool.not_true, Bool.not_false, Bool.false_and, Bool.true_and, Bool.and_true, Bool.and_false, Bool.or_false, Bool.true_or, Bool.or_true, Bool.false_or, e1, Nat.le_refl, e2]
  · simp (disch := omega) only [↓ite_b2r, ↓ite_nb2r, ↓lit_m1, ↓lit_m2, lit_0, lit_1, lit_2, lit_3, lit_4, lit_5, lit_6, lit_7, lit_8, lit_9, lit_10, lit_11, lit_12, lit_13, lit_14, lit_15, lit_16, lit_17, lit_18, lit_19, lit_20, lit_21, lit_22, lit_23, lit_24, lit_25, lit_26, lit_27, lit_28, lit_29, lit_30, lit_31, lit_32, lit_33, lit_34, lit_35, lit_36, lit_40, lit_41, lit_42, lit_44, lit_48, lit_57, lit_59, lit_62, lit_63, lit_64, lit_82, lit_98, lit_99, lit_100, lit_101, lit_102, lit_103, lit_104, lit_105, lit_106, lit_107, lit_108, lit_109, lit_110, lit_111, lit_112, lit_113, lit_119, lit_120, lit_127, lit_128, lit_149, lit_150, lit_202, lit_240, lit_262, lit_894, lit_900, lit_999, lit_1000, lit_2000, lit_2662, lit_2663, lit_2695, lit_2701, lit_2702, lit_3602, lit_10806, nI_add, pk_mul, cl_nI, inb_nI, nI_leI, nI_ltI, nI_eq, nI_eq_m1, m1_eq_nI, nI_eq_m2, div_nI, rem_nI, Option.bind_some, b2_0, b2_1, isb_b2, if_true_, if_false_, ↓reduceIte, reduceCtorEq, not_true_eq_false, not_false_eq_true, bt_hasBit, ult, Nat.add_zero, false_and, true_and, and_true, and_false, Nat.reduceLeDiff, Nat.reduceEqDiff, Nat.reduceLT, Bool.toNat_true, Bool.toNat_false, decide_true, decide_false, Bool.not_true, Bool.not_false, Bool.false_and, Bool.true_and, Bool.and_true, Bool.and_false, Bool.or_false, Bool.true_or, Bool.or_true, Bool.false_or, e1, Nat.le_refl, e2, h0]
theorem tri32 {x y : Int32} (h : x ≠ y) : x < y ∨ y < x := by
  rw [Int32.lt_iff_toInt_lt, Int32.lt_iff_toInt_lt]
  have : x.toInt ≠ y.toInt := fun e => h (Int32.toInt_inj.mp e)
  omega
theorem wi1 (x : Int32) {a : Nat} (ha : a < 2147483648) : f_X9_within x (nI a) (nI a) = b2 (decide (x = nI a)) := by
  unfold f_X9_within
  by_cases h : x = nI a
  · subst h
    simp (disch := omega) only [↓ite_b2r, ↓ite_nb2r, ↓lit_m1, ↓lit_m2, lit_0, lit_1, lit_2, lit_3, lit_4, lit_5, lit_6, lit_7, lit_8, lit_9, lit_10, lit_11, lit_12, lit_13, lit_14, lit_15, lit_16, lit_17, lit_18, lit_19, lit_20, lit_21, lit_22, lit_23, lit_24, lit_25, lit_26, lit_27, lit_28, lit_29, lit_30, lit_31, lit_32, lit_33, lit_34, lit_35, lit_36, lit_40, lit_41, lit_42, lit_44, lit_48, lit_57, lit_59, lit_62, lit_63, lit_64, lit_82, lit_98, lit_99, lit_100, lit_101, lit_102, lit_103, lit_104, lit_105, lit_106, lit_107, lit_108, lit_109, lit_110, lit_111, lit_112, lit_113, lit_119, lit_120, lit_127, lit_128, lit_149, lit_150, lit_202, lit_240, lit_262, lit_894, lit_900, lit_999, lit_1000, lit_2000, lit_2662, lit_2663, lit_2695, lit_2701, lit_2702, lit_3602, lit_10806, nI_add, pk_mul, cl_nI, inb_nI, nI_leI, nI_ltI, nI_eq, nI_eq_m1, m1_eq_nI, nI_eq_m2, div_nI, rem_nI, Option.bind_some, b2_0, b2_1, isb_b2, if_true_, if_false_, ↓reduceIte, reduceCtorEq, not_true_eq_false, not_false_eq_true, bt_hasBit, ult, Nat.add_zero, false_and, true_and, and_true, and_false, Nat.reduceLeDiff, Nat.reduceEqDiff, Nat.reduceLT, Bool.toNat_true, Bool.toNat_false, decide_true, decide_false, Bool.not_true, Bool.not_false, Bool.false_and, Bool.true_and, Bool.and_true, Bool.and_false, Bool.or_false, Bool.true_or, Bool.or_true, Bool.false_or, Nat.lt_irrefl] <;> rfl
  · rw [decide_eq_false h]
    rcases tri32 h with h1 | h1
    · simp (disch := omega) only [↓ite_b2r, ↓ite_nb2r, ↓lit_m1, ↓lit_m2, lit_0, lit_1, lit_2, lit_3, lit_4, lit_5, lit_6, lit_7, lit_8, lit_9, lit_10, lit_11, lit_12, lit_13, lit_14, lit_15, lit_16, lit_17, lit_18, lit_19, lit_20, lit_21, lit_22, lit_23, lit_24, lit_25, lit_26, lit_27, lit_28, lit_29, lit_30, lit_31, lit_32, lit_33, lit_34, lit_35, lit_36, lit_40, lit_41, lit_42, lit_44, lit_48, lit_57, lit_59, lit_62, lit_63, lit_64, lit_82, lit_98, lit_99, lit_100, lit_101, lit_102, lit_103, lit_104, lit_105, lit_106, lit_107, lit_108, lit_109, lit_110, lit_111, lit_112, lit_113, lit_119, lit_120, lit_127, lit_128, lit_149, lit_150, lit_202, lit_240, lit_262, lit_894, lit_900, lit_999, lit_1000, lit_2000, lit_2662, lit_2663, lit_2695, lit_2701, lit_2702, lit_3602, lit_10806, nI_add, pk_mul, cl_nI, inb_nI, nI_leI, nI_ltI, nI_eq, nI_eq_m1, m1_eq_nI, nI_eq_m2, div_nI, rem_nI, Option.bind_some, b2_0, b2_1, isb_b2, if_true_, if_false_, ↓reduceIte, reduceCtorEq, not_true_eq_false, not_false_eq_true, bt_hasBit, ult, Nat.add_zero, false_and, true_and, and_true, and_false, Nat.reduceLeDiff, Nat.reduceEqDiff, Nat.reduceLT, Bool.toNat_true, Bool.toNat_false, decide_true, decide_false, Bool.not_true, Bool.not_false, Bool.false_and, Bool.true_and, Bool.and_true, Bool.and_false, Bool.or_false, Bool.true_or, Bool.or_true, Bool.false_or, h1] <;> rfl
    · by_cases h2 : x < nI a
      · simp (disch := omega) only [↓ite_b2r, ↓ite_nb2r, ↓lit_m1, ↓lit_m2, lit_0, lit_1, lit_2, lit_3, lit_4, lit_5, lit_6, lit_7, lit_8, lit_9, lit_10, lit_11, lit_12, lit_13, lit_14, lit_15, lit_16, lit_17, lit_18, lit_19, lit_20, lit_21, lit_22, lit_23, lit_24, lit_25, lit_26, lit_27, lit_28, lit_29, lit_30, lit_31, lit_32, lit_33, lit_34, lit_35, lit_36, lit_40, lit_41, lit_42, lit_44, lit_48, lit_57, lit_59, lit_62, lit_63, lit_64, lit_82, lit_98, lit_99, lit_100, lit_101, lit_102, lit_103, lit_104, lit_105, lit_106, lit_107, lit_108, lit_109, lit_110, lit_111, lit_112, lit_113, lit_119, lit_120, lit_127, lit_128, lit_149, lit_150, lit_202, lit_240, lit_262, lit_894, lit_900, lit_999, lit_1000, lit_2000, lit_2662, lit_2663, lit_2695, lit_2701, lit_2702, lit_3602, lit_10806, nI_add, pk_mul, cl_nI, inb_nI, nI_leI, nI_ltI, nI_eq, nI_eq_m1, m1_eq_nI, nI_eq_m2, div_nI, rem_nI, Option.bind_some, b2_0, b2_1, isb_b2, if_true_, if_false_, ↓reduceIte, reduceCtorEq, not_true_eq_false, not_false_eq_true, bt_hasBit, ult, Nat.add_zero, false_and, true_and, and_true, and_false, Nat.reduceLeDiff, Nat.reduceEqDiff, Nat.reduceLT, Bool.toNat_true, Bool.toNat_false, decide_true, decide_false, Bool.not_true, Bool.not_false, Bool.false_and, Bool.true_and, Bool.and_true, Bool.and_false, Bool.or_false, Bool.true_or, Bool.or_true, Bool.false_or, h2] <;> rfl
      · simp (disch := omega) only [↓ite_b2r, ↓ite_nb2r, ↓lit_m1, ↓lit_m2, lit_0, lit_1, lit_2, lit_3, lit_4, lit_5, lit_6, lit_7, lit_8, lit_9, lit_10, lit_11, lit_12, lit_13, lit_14, lit_15, lit_16, lit_17, lit_18, lit_19, lit_20, lit_21, lit_22, lit_23, lit_24, lit_25, lit_26, lit_27, lit_28, lit_29, lit_30, lit_31, lit_32, lit_33, lit_34, lit_35, lit_36, lit_40, lit_41, lit_42, lit_44, lit_48, lit_57, lit_59, lit_62, lit_63, lit_64, lit_82, lit_98, lit_99, lit_100, lit_101, lit_102, lit_103, lit_104, lit_105, lit_106, lit_107, lit_108, lit_109, lit_110, lit_111, lit_112, lit_113, lit_119, lit_120, lit_127, lit_128, lit_149, lit_150, lit_202, lit_240, lit_262, lit_894, lit_900, lit_999, lit_1000, lit_2000, lit_2662, lit_2663, lit_2695, lit_2701, lit_2702, lit_3602, lit_10806, nI_add, pk_mul, cl_nI, inb_nI, nI_leI, nI_ltI, nI_eq, nI_eq_m1, m1_eq_nI, nI_eq_m2, div_nI, rem_nI, Option.bind_some, b2_0, b2_1, isb_b2, if_true_, if_false_, ↓reduceIte, reduceCtorEq, not_true_eq_false, not_false_eq_true, bt_hasBit, ult, Nat.add_zero, false_and, true_and, and_true, and_false, Nat.reduceLeDiff, Nat.reduceEqDiff, Nat.reduceLT, Bool.toNat_true, Bool.toNat_false, decide_true, decide_false, Bool.not_true, Bool.not_false, Bool.false_and, Bool.true_and, Bool.and_true, Bool.and_false, Bool.or_false, Bool.true_or, Bool.or_true, Bool.false_or, h1, h2] <;> rfl
theorem mwD (x : Int32) : f_X9_within x (nI 48) (nI 57) = b2 (isD x) := wD x
theorem m_isAt (hT : TE M0 R0 len B) (h : RF R0 R p) (hp : p ≤ len) {x y : Int32} {b : Bool} (hw : f_X9_within (B p) x y = b2 b) : f_X9_isAt x y R = some (b2 (decide (p < len) && b)) := by
  obtain ⟨t1, t2, t3, t4, t5⟩ := hT
  obtain ⟨r1, r2, r3, -⟩ := h
  have e1 : R.1 7 0 6 = nI len := (r3 6 (by omega) (by omega)).trans t4
  unfold f_X9_isAt
  by_cases hl : p < len
  · have e2 : R.1 7 4 p = B p := by rw [r2 4 (by omega) (by omega) (by omega)]; exact t5 p hl
    rw [decide_eq_true hl, Bool.true_and]
    cases b with
    | true => simp (disch := omega) only [↓ite_b2r, ↓ite_nb2r, ↓lit_m1, ↓lit_m2, lit_0, lit_1, lit_2, lit_3, lit_4, lit_5, lit_6, lit_7, lit_8, lit_9, lit_10, lit_11, lit_12, lit_13, lit_14, lit_15, lit_16, lit_17, lit_18, lit_19, lit_20, lit_21, lit_22, lit_23, lit_24, lit_25, lit_26, lit_27, lit_28, lit_29, lit_30, lit_31, lit_32, lit_33, lit_34, lit_35, lit_36, lit_40, lit_41, lit_42, lit_44, lit_48, lit_57, lit_59, lit_62, lit_63, lit_64, lit_82, lit_98, lit_99, lit_100, lit_101, lit_102, lit_103, lit_104, lit_105, lit_106, lit_107, lit_108, lit_109, lit_110, lit_111, lit_112, lit_113, lit_119, lit_120, lit_127, lit_128, lit_149, lit_150, lit_202, lit_240, lit_262, lit_894, lit_900, lit_999, lit_1000, lit_2000, lit_2662, lit_2663, lit_2695, lit_2701, lit_2702, lit_3602, lit_10806, nI_add, pk_mul, cl_nI, inb_nI, nI_leI, nI_ltI, nI_eq, nI_eq_m1, m1_eq_nI, nI_eq_m2, div_nI, rem_nI, Option.bind_some, b2_0, b2_1, isb_b2, if_true_, if_false_, ↓reduceIte, reduceCtorEq, not_true_eq_false, not_false_eq_true, bt_hasBit, ult, Nat.add_zero, false_and, true_and, and_true, and_false, Nat.reduceLeDiff, Nat.reduceEqDiff, Nat.reduceLT, Bool.toNat_true, Bool.toNat_false, decide_true, decide_false, Bool.not_true, Bool.not_false, Bool.false_and, Bool.true_and, Bool.and_true, Bool.and_false, Bool.or_false, Bool.true_or, Bool.or_true, Bool.false_or, e1, r1, Nat.not_le.mpr hl, show p < 120 by omega, e2, hw] <;> rfl
    | false => simp (disch := omega) only [↓ite_b2r, ↓ite_nb2r, ↓lit_m1, ↓lit_m2, lit_0, lit_1, lit_2, lit_3, lit_4, lit_5, lit_6, lit_7, lit_8, lit_9, lit_10, lit_11, lit_12, lit_13, lit_14, lit_15, lit_16, lit_17, lit_18, lit_19, lit_20, lit_21, lit_22, lit_23, lit_24, lit_25, lit_26, lit_27, lit_28, lit_29, lit_30, lit_31, lit_32, lit_33, lit_34, lit_35, lit_36, lit_40, lit_41, lit_42, lit_44, lit_48, lit_57, lit_59, lit_62, lit_63, lit_64, lit_82, lit_98, lit_99, lit_100, lit_101, lit_102, lit_103, lit_104, lit_105, lit_106, lit_107, lit_108, lit_109, lit_110, lit_111, lit_112, lit_113, lit_119, lit_120, lit_127, lit_128, lit_149, lit_150, lit_202, lit_240, lit_262, lit_894, lit_900, lit_999, lit_1000, lit_2000, lit_2662, lit_2663, lit_2695, lit_2701, lit_2702, lit_3602, lit_10806, nI_add, pk_mul, cl_nI, inb_nI, nI_leI, nI_ltI, nI_eq, nI_eq_m1, m1_eq_nI, nI_eq_m2, div_nI, rem_nI, Option.bind_some, b2_0, b2_1, isb_b2, if_true_, if_false_, ↓reduceIte, reduceCtorEq, not_true_eq_false, not_false_eq_true, bt_hasBit, ult, Nat.add_zero, false_and, true_and, and_true, and_false, Nat.reduceLeDiff, Nat.reduceEqDiff, Nat.reduceLT, Bool.toNat_true, Bool.toNat_false, decide_true, decide_false, Bool.not_true, Bool.not_false, Bool.false_and, Bool.true_and, Bool.and_true, Bool.and_false, Bool.or_false, Bool.true_or, Bool.or_true, Bool.false_or, e1, r1, Nat.not_le.mpr hl, show p < 120 by omega, e2, hw] <;> rfl
  · rw [decide_eq_false hl]
    simp (disch := omega) only [↓ite_b2r, ↓ite_nb2r, ↓lit_m1, ↓lit_m2, lit_0, lit_1, lit_2, lit_3, lit_4, lit_5, lit_6, lit_7, lit_8, lit_9, lit_10, lit_11, lit_12, lit_13, lit_14, lit_15, lit_16, lit_17, lit_18, lit_19, lit_20, lit_21, lit_22, lit_23, lit_24, lit_25, lit_26, lit_27, lit_28, lit_29, lit_30, lit_31, lit_32, lit_33, lit_34, lit_35, lit_36, lit_40, lit_41, lit_42, lit_44, lit_48, lit_57, lit_59, lit_62, lit_63, lit_64, lit_82, lit_98, lit_99, lit_100, lit_101, lit_102, lit_103, lit_104, lit_105, lit_106, lit_107, lit_108, lit_109, lit_110, lit_111, lit_112, lit_113, lit_119, lit_120, lit_127, lit_128, lit_149, lit_150, lit_202, lit_240, lit_262, lit_894, lit_900, lit_999, lit_1000, lit_2000, lit_2662, lit_2663, lit_2695, lit_2701, lit_2702, lit_3602, lit_10806, nI_add, pk_mul, cl_nI, inb_nI, nI_leI, nI_ltI, nI_eq, nI_eq_m1, m1_eq_nI, nI_eq_m2, div_nI, rem_nI, Option.bind_some, b2_0, b2_1, isb_b2, if_true_, if_false_, ↓reduceIte, reduceCtorEq, not_true_eq_false, not_false_eq_true, bt_hasBit, ult, Nat.add_zero, false_and, true_and, and_true, and_false, Nat.reduceLeDiff, Nat.reduceEqDiff, Nat.reduceLT, Bool.toNat_true, Bool.toNat_false, decide_true, decide_false, Bool.not_true, Bool.not_false, Bool.false_and, Bool.true_and, Bool.and_true, Bool.and_false, Bool.or_false, Bool.true_or, Bool.or_true, Bool.false_or, e1, r1, show len ≤ p by omega] <;> rfl
theorem RS.spot (h : RS R0 R p o L V) (q : Nat) : RS R0 (wr R 7 0 10 (nI q)) q o L V := by
  obtain ⟨⟨a1, a2, a3, a4, a5⟩, b1, b2', b3⟩ := h
  refine ⟨⟨by rw [wr_same, upd_same], fun j h1 h2 h3 => by rw [wr_other _ _ _ _ _ (by omega)]; exact a2 j h1 h2 h3, fun i h1 h2 => by rw [wr_same, upd_other (by omega)]; exact a3 i h1 h2, fun g hg => by rw [wr_ng _ _ _ _ hg]; exact a4 g hg, by rw [wr_2]; exact a5⟩, by rw [wr_same, upd_other (by omega)]; exact b1, by rw [wr_other _ _ _ _ _ (by omega)]; exact b2', by rw [wr_other _ _ _ _ _ (by omega)]; exact b3⟩
theorem RS.num (h : RS R0 R p o L V) (i : Nat) (v : Int32) : RS R0 (wr R 7 9 i v) p o L (upd V i v) := by
  obtain ⟨⟨a1, a2, a3, a4, a5⟩, b1, b2', b3⟩ := h
  refine ⟨⟨by rw [wr_other _ _ _ _ _ (by omega)]; exact a1, fun j h1 h2 h3 => by rw [wr_other _ _ _ _ _ (by omega)]; exact a2 j h1 h2 h3, fun i h1 h2 => by rw [wr_other _ _ _ _ _ (by omega)]; exact a3 i h1 h2, fun g hg => by rw [wr_ng _ _ _ _ hg]; exact a4 g hg, by rw [wr_2]; exact a5⟩, by rw [wr_other _ _ _ _ _ (by omega)]; exact b1, by rw [wr_other _ _ _ _ _ (by omega)]; exact b2', by rw [wr_same, b3]⟩
/-- what comes of reading one number, and of the class meanwhile -/
def NumOut (M0 R0 : Mem) (len : Nat) (B : Nat → Int32) (p : Nat) (M : Mem) (o w : Nat) (L V Lr Vr : Nat → Int32) (out : Option (Int32 × Mem)) : Prop :=
  (∃ R' p' M', out = some (nI 0, R') ∧ RF R0 R' p' ∧ p' ≤ len ∧ PR p M (some (nI p', M')) ∧ CF M0 M') ∨
  (∃ R' p' M' dg' v V', out = some (nI 1, R') ∧ RS R0 R' p' o Lr (upd Vr (4 * o + w) v) ∧ CS M0 M' 3 o (w + 1) dg' L V' ∧ V' (4 * o + w) = v ∧ (∀ x, x ≠ 4 * o + w → V' x = V x) ∧ (dg' = 4 ∨ p' = len ∨ isD (B p') = false) ∧ p + 2 ≤ p' ∧ p' ≤ len ∧ ∀ r, PR p' M' r → PR p M r)
theorem rd_stop (hT : TE M0 R0 len B) {w d : Nat} {v : Int32} {V1 : Nat → Int32} {Mb : Mem} {pb : Nat} (ho : o < 30) (hw : w < 4) (hr : RS R0 R p o Lr Vr) (hc : CS M0 M (if d = 0 then 2 else 3) o (w + 1) d L V1) (hv : V1 (4 * o + w) = v) (hV : ∀ x, x ≠ 4 * o + w → V1 x = V x) (hp : p ≤ len) (hpb : pb + 1 + d ≤ p) (hpr : ∀ r, PR p M r → PR pb Mb r) (hd4 : d ≤ 4) (hd : d = 4 ∨ p = len ∨ isD (B p) = false) : NumOut M0 R0 len B pb Mb o w L V Lr Vr (B_X9_readsNumber_77 (nI (4 * o + w)) v (nI d) R) := by
  have hr2 := hr.num (4 * o + w) v
  by_cases h0 : d = 0
  · subst h0
    refine Or.inl ⟨_, p, M, ?_, hr2.1, hp, hpr _ ?_, hc.cf⟩
    · unfold B_X9_readsNumber_77
      simp (disch := omega) only [↓ite_b2r, ↓ite_nb2r, ↓lit_m1, ↓lit_m2, lit_0, lit_1, lit_2, lit_3, lit_4, lit_5, lit_6, lit_7, lit_8, lit_9, lit_10, lit_11, lit_12, lit_13, lit_14, lit_15, lit_16, lit_17, lit_18, lit_19, lit_20, lit_21, lit_22, lit_23, lit_24, lit_25, lit_26, lit_27, lit_28, lit_29, lit_30, lit_31, lit_32, lit_33, lit_34, lit_35, lit_36, lit_40, lit_41, lit_42, lit_44, lit_48, lit_57, lit_59, lit_62, lit_63, lit_64, lit_82, lit_98, lit_99, lit_100, lit_101, lit_102, lit_103, lit_104, lit_105, lit_106, lit_107, lit_108, lit_109, lit_110, lit_111, lit_112, lit_113, lit_119, lit_120, lit_127, lit_128, lit_149, lit_150, lit_202, lit_240, lit_262, lit_894, lit_900, lit_999, lit_1000, lit_2000, lit_2662, lit_2663, lit_2695, lit_2701, lit_2702, lit_3602, lit_10806, nI_add, pk_mul, cl_nI, inb_nI, nI_leI, nI_ltI, nI_eq, nI_eq_m1, m1_eq_nI, nI_eq_m2, div_nI, rem_nI, Option.bind_some, b2_0, b2_1, isb_b2, if_true_, if_false_, ↓reduceIte, reduceCtorEq, not_true_eq_false, not_false_eq_true, bt_hasBit, ult, Nat.add_zero, false_and, true_and, and_true, and_false, Nat.reduceLeDiff, Nat.reduceEqDiff, Nat.reduceLT, Bool.toNat_true, Bool.toNat_false, decide_true, decide_false, Bool.not_true, Bool.not_false, Bool.false_and, Bool.true_and, Bool.and_true, Bool.and_false, Bool.or_false, Bool.true_or, Bool.or_true, Bool.false_or, show 4 * o + w < 160 by omega, Nat.le_refl]
    · by_cases hl : p = len
      · have := pr_end hT hc (by decide)
        rw [hl]
        exact this
      · have hD : isD (B p) = false := by
          rcases hd with h | h | h
          · omega
          · exact absurd h hl
          · exact h
        refine pr_fail hT hc.cf (by omega) ?_
        rw [cs_2 hc, hD]
        rfl
  · rw [if_neg h0] at hc
    refine Or.inr ⟨_, p, M, d, v, V1, ?_, hr2, hc, hv, hV, hd, by omega, hp, hpr⟩
    unfold B_X9_readsNumber_77
    simp (disch := omega) only [↓ite_b2r, ↓ite_nb2r, ↓lit_m1, ↓lit_m2, lit_0, lit_1, lit_2, lit_3, lit_4, lit_5, lit_6, lit_7, lit_8, lit_9, lit_10, lit_11, lit_12, lit_13, lit_14, lit_15, lit_16, lit_17, lit_18, lit_19, lit_20, lit_21, lit_22, lit_23, lit_24, lit_25, lit_26, lit_27, lit_28, lit_29, lit_30, lit_31, lit_32, lit_33, lit_34, lit_35, lit_36, lit_40, lit_41, lit_42, lit_44, lit_48, lit_57, lit_59, lit_62, lit_63, lit_64, lit_82, lit_98, lit_99, lit_100, lit_101, lit_102, lit_103, lit_104, lit_105, lit_106, lit_107, lit_108, lit_109, lit_110, lit_111, lit_112, lit_113, lit_119, lit_120, lit_127, lit_128, lit_149, lit_150, lit_202, lit_240, lit_262, lit_894, lit_900, lit_999, lit_1000, lit_2000, lit_2662, lit_2663, lit_2695, lit_2701, lit_2702, lit_3602, lit_10806, nI_add, pk_mul, cl_nI, inb_nI, nI_leI, nI_ltI, nI_eq, nI_eq_m1, m1_eq_nI, nI_eq_m2, div_nI, rem_nI, Option.bind_some, b2_0, b2_1, isb_b2, if_true_, if_false_, ↓reduceIte, reduceCtorEq, not_true_eq_false, not_false_eq_true, bt_hasBit, ult, Nat.add_zero, false_and, true_and, and_true, and_false, Nat.reduceLeDiff, Nat.reduceEqDiff, Nat.reduceLT, Bool.toNat_true, Bool.toNat_false, decide_true, decide_false, Bool.not_true, Bool.not_false, Bool.false_and, Bool.true_and, Bool.and_true, Bool.and_false, Bool.or_false, Bool.true_or, Bool.or_true, Bool.false_or, show 4 * o + w < 160 by omega, show ¬ d ≤ 0 by omega]
theorem rd_num (hT : TE M0 R0 len B) {w : Nat} (ho : o < 30) (hwk : w < kN (L o)) (hst : (st = 1 ∧ w = 0) ∨ (st = 3 ∧ (dg = 4 ∨ p = len ∨ isD (B p) = false))) (hr : RS R0 R p o Lr Vr) (hc : CS M0 M st o w dg L V) (hp : p ≤ len) : NumOut M0 R0 len B p M o w L V Lr Vr (f_X9_readsNumber (nI (4 * o + w)) R) := by
  have hk4 := (nA_k (L o)).2
  have hw4 : w < 4 := by omega
  have h32 := m_isAt hT hr.1 hp (wi1 (B p) (a := 32) (by omega))
  unfold f_X9_readsNumber
  rw [show f_X9_isAt 32 32 R = _ from h32, Option.bind_some]
  by_cases hl : p = len
  · refine Or.inl ⟨R, p, M, ?_, hr.1, hp, ?_, hc.cf⟩
    · rw [decide_eq_false (show ¬ p < len by omega)]
      rfl
    · have := pr_end hT hc (by rcases hst with h | h <;> omega)
      rw [if_neg (by rcases hst with h | h <;> omega)] at this
      rw [hl]
      exact this
  · have hpl : p < len := by omega
    rw [decide_eq_true hpl, Bool.true_and]
    by_cases hb : B p = nI 32
    · rw [hb, decide_eq_true rfl, if_neg (show ¬ b2 true = 0 by decide)]
      obtain ⟨M1, s1, s2⟩ := cs_sp (st := st) (by rcases hst with h | h <;> omega) hc ho hw4
      have htk : f_X3_takes (B p) M = some (nI 1, M1) := by
        rw [hb]
        rcases hst with ⟨h1, h2⟩ | ⟨h1, h2⟩
        · subst h1
          rw [cs_1 hc, s1]
          rfl
        · subst h1
          rw [cs_3n hc ho (by omega) (by decide), if_neg (by omega)]
          unfold B_X3_takesInNumber_40
          simp (disch := omega) only [↓ite_b2r, ↓ite_nb2r, ↓lit_m1, ↓lit_m2, lit_0, lit_1, lit_2, lit_3, lit_4, lit_5, lit_6, lit_7, lit_8, lit_9, lit_10, lit_11, lit_12, lit_13, lit_14, lit_15, lit_16, lit_17, lit_18, lit_19, lit_20, lit_21, lit_22, lit_23, lit_24, lit_25, lit_26, lit_27, lit_28, lit_29, lit_30, lit_31, lit_32, lit_33, lit_34, lit_35, lit_36, lit_40, lit_41, lit_42, lit_44, lit_48, lit_57, lit_59, lit_62, lit_63, lit_64, lit_82, lit_98, lit_99, lit_100, lit_101, lit_102, lit_103, lit_104, lit_105, lit_106, lit_107, lit_108, lit_109, lit_110, lit_111, lit_112, lit_113, lit_119, lit_120, lit_127, lit_128, lit_149, lit_150, lit_202, lit_240, lit_262, lit_894, lit_900, lit_999, lit_1000, lit_2000, lit_2662, lit_2663, lit_2695, lit_2701, lit_2702, lit_3602, lit_10806, nI_add, pk_mul, cl_nI, inb_nI, nI_leI, nI_ltI, nI_eq, nI_eq_m1, m1_eq_nI, nI_eq_m2, div_nI, rem_nI, Option.bind_some, b2_0, b2_1, isb_b2, if_true_, if_false_, ↓reduceIte, reduceCtorEq, not_true_eq_false, not_false_eq_true, bt_hasBit, ult, Nat.add_zero, false_and, true_and, and_true, and_false, Nat.reduceLeDiff, Nat.reduceEqDiff, Nat.reduceLT, Bool.toNat_true, Bool.toNat_false, decide_true, decide_false, Bool.not_true, Bool.not_false, Bool.false_and, Bool.true_and, Bool.and_true, Bool.and_false, Bool.or_false, Bool.true_or, Bool.or_true, Bool.false_or, s1] <;> rfl
      have hpr : ∀ r, PR (p + 1) M1 r → PR p M r := fun r h => pr_step hT hc.cf hpl htk h
      have hr1 := hr.spot (p + 1)
      have e10 : R.1 7 0 10 + 1 = nI (p + 1) := by rw [hr.1.1, nI_1]
      rw [e10]
      refine loopI (fun n (σ : Int32 × Int32 × Mem) => L_X9_readsNumber_27 (nI (4 * o + w)) n σ.1 σ.2.1 σ.2.2) (fun d σ => ∃ R1 p1 M2 v V1, σ = (v, nI d, R1) ∧ RS R0 R1 p1 o Lr Vr ∧ CS M0 M2 (if d = 0 then 2 else 3) o (w + 1) d L V1 ∧ V1 (4 * o + w) = v ∧ (∀ x, x ≠ 4 * o + w → V1 x = V x) ∧ p1 ≤ len ∧ p + 1 + d ≤ p1 ∧ ∀ r, PR p1 M2 r → PR p M r) (fun out => NumOut M0 R0 len B p M o w L V Lr Vr out) 4 (fun n d σ hd hσ => ?_) (fun n σ hσ => ?_) FU (by decide) (nI 0, nI 0, wr R 7 0 10 (nI (p + 1))) ⟨_, p + 1, M1, nI 0, _, rfl, hr1, s2, upd_same, fun x hx => upd_other hx, by omega, by omega, hpr⟩
      · obtain ⟨R1, p1, M2, v, V1, rfl, b1, b2', b3, b4, b5, b6, b7⟩ := hσ
        show NumOut M0 R0 len B p M o w L V Lr Vr (L_X9_readsNumber_27 (nI (4 * o + w)) (n + 1) _ _ _) ∨ ∃ s' : Int32 × Int32 × Mem, L_X9_readsNumber_27 (nI (4 * o + w)) (n + 1) _ _ _ = L_X9_readsNumber_27 (nI (4 * o + w)) n s'.1 s'.2.1 s'.2.2 ∧ _
        have hat := m_isAt hT b1.1 b5 (mwD (B p1))
        rw [L_X9_readsNumber_27]
        dsimp only
        rw [if_neg (show ¬ (4 : Int32) ≤ nI d from fun z => by have z2 : nI 4 ≤ nI d := z; rw [nI_leI (by omega) (by omega)] at z2; omega), show f_X9_isAt 48 57 R1 = _ from hat, Option.bind_some]
        by_cases hdig : p1 < len ∧ isD (B p1) = true
        · rw [decide_eq_true hdig.1, hdig.2]
          refine Or.inr ?_
          obtain ⟨M3, d1, d2⟩ := cs_dig (nu := w) (st := if d = 0 then 2 else 3) (by by_cases h : d = 0 <;> simp [h]) b2' ho hw4 hd (B p1)
          have htk2 : f_X3_takes (B p1) M2 = some (nI 1, M3) := by
            by_cases h0 : d = 0
            · rw [if_pos h0] at b2'
              rw [cs_2 b2', if_pos hdig.2, d1]
              rfl
            · rw [if_neg h0] at b2'
              rw [cs_3d b2' hdig.2, d1]
              rfl
          have e11 : R1.1 7 0 10 = nI p1 := b1.1.1
          have e4 : R1.1 7 4 p1 = B p1 := by rw [b1.1.2.1 4 (by omega) (by omega) (by omega)]; exact hT.2.2.2.2 p1 hdig.1
          have hpl2 := hdig.1
          have ht1 := hT.1
          refine ⟨(nI 10 * v + B p1 - nI 48, nI (d + 1), wr R1 7 0 10 (nI (p1 + 1))), ?_, _, p1 + 1, M3, _, _, rfl, b1.spot (p1 + 1), by rw [if_neg (by omega)]; exact d2, ?_, fun x hx => by rw [upd_other hx]; exact b4 x hx, by omega, by omega, fun r h => b7 r (pr_step hT b2'.cf hdig.1 htk2 h)⟩
          · simp (disch := omega) only [↓ite_b2r, ↓ite_nb2r, ↓lit_m1, ↓lit_m2, lit_0, lit_1, lit_2, lit_3, lit_4, lit_5, lit_6, lit_7, lit_8, lit_9, lit_10, lit_11, lit_12, lit_13, lit_14, lit_15, lit_16, lit_17, lit_18, lit_19, lit_20, lit_21, lit_22, lit_23, lit_24, lit_25, lit_26, lit_27, lit_28, lit_29, lit_30, lit_31, lit_32, lit_33, lit_34, lit_35, lit_36, lit_40, lit_41, lit_42, lit_44, lit_48, lit_57, lit_59, lit_62, lit_63, lit_64, lit_82, lit_98, lit_99, lit_100, lit_101, lit_102, lit_103, lit_104, lit_105, lit_106, lit_107, lit_108, lit_109, lit_110, lit_111, lit_112, lit_113, lit_119, lit_120, lit_127, lit_128, lit_149, lit_150, lit_202, lit_240, lit_262, lit_894, lit_900, lit_999, lit_1000, lit_2000, lit_2662, lit_2663, lit_2695, lit_2701, lit_2702, lit_3602, lit_10806, nI_add, pk_mul, cl_nI, inb_nI, nI_leI, nI_ltI, nI_eq, nI_eq_m1, m1_eq_nI, nI_eq_m2, div_nI, rem_nI, Option.bind_some, b2_0, b2_1, isb_b2, if_true_, if_false_, ↓reduceIte, reduceCtorEq, not_true_eq_false, not_false_eq_true, bt_hasBit, ult, Nat.add_zero, false_and, true_and, and_true, and_false, Nat.reduceLeDiff, Nat.reduceEqDiff, Nat.reduceLT, Bool.toNat_true, Bool.toNat_false, decide_true, decide_false, Bool.not_true, Bool.not_false, Bool.false_and, Bool.true_and, Bool.and_true, Bool.and_false, Bool.or_false, Bool.true_or, Bool.or_true, Bool.false_or, e11, show p1 < 120 by omega, e4] <;> rfl
          · rw [upd_same, b3, Int32.mul_comm]
        · have hz : (decide (p1 < len) && isD (B p1)) = false := by
            rw [Bool.and_eq_false_iff, decide_eq_false_iff_not]
            by_cases h1 : p1 < len
            · exact Or.inr (by simpa [h1] using hdig)
            · exact Or.inl h1
          rw [hz, if_pos (show b2 false = 0 from rfl)]
          refine Or.inl (rd_stop hT ho hw4 b1 b2' b3 b4 b5 b6 b7 (by omega) (Or.inr ?_))
          by_cases h1 : p1 < len
          · exact Or.inr (by simpa [h1] using hdig)
          · exact Or.inl (by omega)
      · obtain ⟨R1, p1, M2, v, V1, rfl, b1, b2', b3, b4, b5, b6, b7⟩ := hσ
        show NumOut M0 R0 len B p M o w L V Lr Vr (L_X9_readsNumber_27 (nI (4 * o + w)) (n + 1) _ _ _)
        rw [L_X9_readsNumber_27]
        dsimp only
        rw [if_pos (show (4 : Int32) ≤ nI 4 from Int32.le_refl _)]
        exact rd_stop hT ho hw4 b1 b2' b3 b4 b5 b6 b7 (by omega) (Or.inl rfl)
    · rw [decide_eq_false hb, if_pos (show b2 false = 0 from rfl)]
      refine Or.inl ⟨R, p, M, rfl, hr.1, hp, pr_fail hT hc.cf hpl ?_, hc.cf⟩
      rcases hst with ⟨h1, h2⟩ | ⟨h1, h2⟩
      · subst h1
        rw [cs_1 hc, cs_sp_no hb]
        rfl
      · subst h1
        cases hD : isD (B p) with
        | true =>
          have hd4 : dg = 4 := by
            rcases h2 with h | h | h
            · exact h
            · exact absurd h hl
            · rw [hD] at h; cases h
          subst hd4
          rw [cs_3d hc hD, cs_dig_no hc]
          rfl
        | false =>
          rw [cs_3n hc ho (by omega) hD, if_neg (by omega)]
          unfold B_X3_takesInNumber_40
          by_cases h59 : B p = nI 59
          · simp (disch := omega) only [↓ite_b2r, ↓ite_nb2r, ↓lit_m1, ↓lit_m2, lit_0, lit_1, lit_2, lit_3, lit_4, lit_5, lit_6, lit_7, lit_8, lit_9, lit_10, lit_11, lit_12, lit_13, lit_14, lit_15, lit_16, lit_17, lit_18, lit_19, lit_20, lit_21, lit_22, lit_23, lit_24, lit_25, lit_26, lit_27, lit_28, lit_29, lit_30, lit_31, lit_32, lit_33, lit_34, lit_35, lit_36, lit_40, lit_41, lit_42, lit_44, lit_48, lit_57, lit_59, lit_62, lit_63, lit_64, lit_82, lit_98, lit_99, lit_100, lit_101, lit_102, lit_103, lit_104, lit_105, lit_106, lit_107, lit_108, lit_109, lit_110, lit_111, lit_112, lit_113, lit_119, lit_120, lit_127, lit_128, lit_149, lit_150, lit_202, lit_240, lit_262, lit_894, lit_900, lit_999, lit_1000, lit_2000, lit_2662, lit_2663, lit_2695, lit_2701, lit_2702, lit_3602, lit_10806, nI_add, pk_mul, cl_nI, inb_nI, nI_leI, nI_ltI, nI_eq, nI_eq_m1, m1_eq_nI, nI_eq_m2, div_nI, rem_nI, Option.bind_some, b2_0, b2_1, isb_b2, if_true_, if_false_, ↓reduceIte, reduceCtorEq, not_true_eq_false, not_false_eq_true, bt_hasBit, ult, Nat.add_zero, false_and, true_and, and_true, and_false, Nat.reduceLeDiff, Nat.reduceEqDiff, Nat.reduceLT, Bool.toNat_true, Bool.toNat_false, decide_true, decide_false, Bool.not_true, Bool.not_false, Bool.false_and, Bool.true_and, Bool.and_true, Bool.and_false, Bool.or_false, Bool.true_or, Bool.or_true, Bool.false_or, h59] <;> rfl
          · simp (disch := omega) only [↓ite_b2r, ↓ite_nb2r, ↓lit_m1, ↓lit_m2, lit_0, lit_1, lit_2, lit_3, lit_4, lit_5, lit_6, lit_7, lit_8, lit_9, lit_10, lit_11, lit_12, lit_13, lit_14, lit_15, lit_16, lit_17, lit_18, lit_19, lit_20, lit_21, lit_22, lit_23, lit_24, lit_25, lit_26, lit_27, lit_28, lit_29, lit_30, lit_31, lit_32, lit_33, lit_34, lit_35, lit_36, lit_40, lit_41, lit_42, lit_44, lit_48, lit_57, lit_59, lit_62, lit_63, lit_64, lit_82, lit_98, lit_99, lit_100, lit_101, lit_102, lit_103, lit_104, lit_105, lit_106, lit_107, lit_108, lit_109, lit_110, lit_111, lit_112, lit_113, lit_119, lit_120, lit_127, lit_128, lit_149, lit_150, lit_202, lit_240, lit_262, lit_894, lit_900, lit_999, lit_1000, lit_2000, lit_2662, lit_2663, lit_2695, lit_2701, lit_2702, lit_3602, lit_10806, nI_add, pk_mul, cl_nI, inb_nI, nI_leI, nI_ltI, nI_eq, nI_eq_m1, m1_eq_nI, nI_eq_m2, div_nI, rem_nI, Option.bind_some, b2_0, b2_1, isb_b2, if_true_, if_false_, ↓reduceIte, reduceCtorEq, not_true_eq_false, not_false_eq_true, bt_hasBit, ult, Nat.add_zero, false_and, true_and, and_true, and_false, Nat.reduceLeDiff, Nat.reduceEqDiff, Nat.reduceLT, Bool.toNat_true, Bool.toNat_false, decide_true, decide_false, Bool.not_true, Bool.not_false, Bool.false_and, Bool.true_and, Bool.and_true, Bool.and_false, Bool.or_false, Bool.true_or, Bool.or_true, Bool.false_or, h59, cs_sp_no hb] <;> rfl
end PT
