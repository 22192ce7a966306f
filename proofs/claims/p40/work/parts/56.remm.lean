/-! ===== a section is removed: the reference, and the call ===== -/
section RMm
variable {N : Row} {s : Nat}
theorem zb_0 : zb (nI 0) = nI 0 := rfl
theorem zb_1 : zb (nI 1) = nI 1 := rfl
theorem rm208 {M : Mem} (x2 : Int32) (hf : ∀ t, t < 20 → M.1 7 7 t = b2 (gN N s t)) : L_X9_removeSection_208 x2 FU 0 M = some (x2, wrs M 7 1 (fun k => if 2 ≤ k ∧ k < 22 then (if gN N s (k - 2) = true then nI 0 else M.1 7 1 k) else M.1 7 1 k)) := by
  refine loopI (fun n (σ : Int32 × Mem) => L_X9_removeSection_208 x2 n σ.1 σ.2) (fun i σ => σ = (nI i, wrs M 7 1 (fun k => if 2 ≤ k ∧ k < 2 + i then (if gN N s (k - 2) = true then nI 0 else M.1 7 1 k) else M.1 7 1 k))) (fun o => o = some (x2, wrs M 7 1 (fun k => if 2 ≤ k ∧ k < 22 then (if gN N s (k - 2) = true then nI 0 else M.1 7 1 k) else M.1 7 1 k))) 20 (fun n i σ hi hσ => ?_) (fun n σ hσ => ?_) FU (by decide) (nI 0, M) ?_
  · subst hσ
    refine Or.inr ⟨(nI (i + 1), wrs M 7 1 (fun k => if 2 ≤ k ∧ k < 2 + (i + 1) then (if gN N s (k - 2) = true then nI 0 else M.1 7 1 k) else M.1 7 1 k)), ?_, rfl⟩
    show L_X9_removeSection_208 x2 (n + 1) _ _ = L_X9_removeSection_208 x2 n _ _
    have e7 : (wrs M 7 1 (fun k => if 2 ≤ k ∧ k < 2 + i then (if gN N s (k - 2) = true then nI 0 else M.1 7 1 k) else M.1 7 1 k)).1 7 7 i = b2 (gN N s i) := by rw [wrs_other _ _ _ _ (by omega)]; exact hf i hi
    have e1 : (wrs M 7 1 (fun k => if 2 ≤ k ∧ k < 2 + i then (if gN N s (k - 2) = true then nI 0 else M.1 7 1 k) else M.1 7 1 k)).1 7 1 (2 + i) = M.1 7 1 (2 + i) := by rw [wrs_same, if_neg (by omega)]
    rw [L_X9_removeSection_208]
    unfold B_X9_removeSection_246
    cases hg : gN N s i with
    | true =>
      rw [hg] at e7
      simp (disch := omega) only [↓ite_b2r, ↓ite_nb2r, ↓lit_m1, ↓lit_m2, lit_0, lit_1, lit_2, lit_3, lit_4, lit_5, lit_6, lit_7, lit_8, lit_9, lit_10, lit_11, lit_12, lit_13, lit_14, lit_15, lit_16, lit_17, lit_18, lit_19, lit_20, lit_21, lit_22, lit_23, lit_24, lit_25, lit_26, lit_27, lit_28, lit_29, lit_30, lit_31, lit_32, lit_33, lit_34, lit_35, lit_36, lit_40, lit_41, lit_42, lit_44, lit_48, lit_57, lit_59, lit_62, lit_63, lit_64, lit_82, lit_98, lit_99, lit_100, lit_101, lit_102, lit_103, lit_104, lit_105, lit_106, lit_107, lit_108, lit_109, lit_110, lit_111, lit_112, lit_113, lit_119, lit_120, lit_127, lit_128, lit_149, lit_150, lit_202, lit_240, lit_262, lit_894, lit_900, lit_999, lit_1000, lit_2000, lit_2662, lit_2663, lit_2695, lit_2701, lit_2702, lit_3602, lit_10806, nI_add, pk_mul, cl_nI, inb_nI, nI_leI, nI_ltI, nI_eq, nI_eq_m1, m1_eq_nI, nI_eq_m2, div_nI, rem_nI, Option.bind_some, b2_0, b2_1, isb_b2, if_true_, if_false_, ↓reduceIte, reduceCtorEq, not_true_eq_false, not_false_eq_true, bt_hasBit, ult, Nat.add_zero, false_and, true_and, and_true, and_false, Nat.reduceLeDiff, Nat.reduceEqDiff, Nat.reduceLT, Bool.toNat_true, Bool.toNat_false, decide_true, decide_false, Bool.not_true, Bool.not_false, Bool.false_and, Bool.true_and, Bool.and_true, Bool.and_false, Bool.or_false, Bool.true_or, Bool.or_true, Bool.false_or, Nat.not_le.mpr hi, e7, wr_wrs]
      congr 2
      funext k
      by_cases hk : k = 2 + i
      · subst hk; rw [upd_same, if_pos (by omega), show 2 + i - 2 = i by omega, if_pos hg]
      · rw [upd_other hk]
        by_cases h2 : 2 ≤ k ∧ k < 2 + i
        · rw [if_pos h2, if_pos (show 2 ≤ k ∧ k < 2 + (i + 1) by omega)]
        · rw [if_neg h2, if_neg (by omega)]
    | false =>
      rw [hg] at e7
      simp (disch := omega) only [↓ite_b2r, ↓ite_nb2r, ↓lit_m1, ↓lit_m2, lit_0, lit_1, lit_2, lit_3, lit_4, lit_5, lit_6, lit_7, lit_8, lit_9, lit_10, lit_11, lit_12, lit_13, lit_14, lit_15, lit_16, lit_17, lit_18, lit_19, lit_20, lit_21, lit_22, lit_23, lit_24, lit_25, lit_26, lit_27, lit_28, lit_29, lit_30, lit_31, lit_32, lit_33, lit_34, lit_35, lit_36, lit_40, lit_41, lit_42, lit_44, lit_48, lit_57, lit_59, lit_62, lit_63, lit_64, lit_82, lit_98, lit_99, lit_100, lit_101, lit_102, lit_103, lit_104, lit_105, lit_106, lit_107, lit_108, lit_109, lit_110, lit_111, lit_112, lit_113, lit_119, lit_120, lit_127, lit_128, lit_149, lit_150, lit_202, lit_240, lit_262, lit_894, lit_900, lit_999, lit_1000, lit_2000, lit_2662, lit_2663, lit_2695, lit_2701, lit_2702, lit_3602, lit_10806, nI_add, pk_mul, cl_nI, inb_nI, nI_leI, nI_ltI, nI_eq, nI_eq_m1, m1_eq_nI, nI_eq_m2, div_nI, rem_nI, Option.bind_some, b2_0, b2_1, isb_b2, if_true_, if_false_, ↓reduceIte, reduceCtorEq, not_true_eq_false, not_false_eq_true, bt_hasBit, ult, Nat.add_zero, false_and, true_and, and_true, and_false, Nat.reduceLeDiff, Nat.reduceEqDiff, Nat.reduceLT, Bool.toNat_true, Bool.toNat_false, decide_true, decide_false, Bool.not_true, Bool.not_false, Bool.false_and, Bool.true_and, Bool.and_true, Bool.and_false, Bool.or_false, Bool.true_or, Bool.or_true, Bool.false_or, Nat.not_le.mpr hi, e7, e1, wr_wrs]
      congr 2
      funext k
      by_cases hk : k = 2 + i
      · subst hk; rw [upd_same, if_pos (by omega), show 2 + i - 2 = i by omega, hg]; rfl
      · rw [upd_other hk]
        by_cases h2 : 2 ≤ k ∧ k < 2 + i
        · rw [if_pos h2, if_pos (show 2 ≤ k ∧ k < 2 + (i + 1) by omega)]
        · rw [if_neg h2, if_neg (by omega)]
  · subst hσ
    show L_X9_removeSection_208 x2 (n + 1) _ _ = _
    rw [L_X9_removeSection_208]
    simp (disch := omega) only [↓ite_b2r, ↓ite_nb2r, ↓lit_m1, ↓lit_m2, lit_0, lit_1, lit_2, lit_3, lit_4, lit_5, lit_6, lit_7, lit_8, lit_9, lit_10, lit_11, lit_12, lit_13, lit_14, lit_15, lit_16, lit_17, lit_18, lit_19, lit_20, lit_21, lit_22, lit_23, lit_24, lit_25, lit_26, lit_27, lit_28, lit_29, lit_30, lit_31, lit_32, lit_33, lit_34, lit_35, lit_36, lit_40, lit_41, lit_42, lit_44, lit_48, lit_57, lit_59, lit_62, lit_63, lit_64, lit_82, lit_98, lit_99, lit_100, lit_101, lit_102, lit_103, lit_104, lit_105, lit_106, lit_107, lit_108, lit_109, lit_110, lit_111, lit_112, lit_113, lit_119, lit_120, lit_127, lit_128, lit_149, lit_150, lit_202, lit_240, lit_262, lit_894, lit_900, lit_999, lit_1000, lit_2000, lit_2662, lit_2663, lit_2695, lit_2701, lit_2702, lit_3602, lit_10806, nI_add, pk_mul, cl_nI, inb_nI, nI_leI, nI_ltI, nI_eq, nI_eq_m1, m1_eq_nI, nI_eq_m2, div_nI, rem_nI, Option.bind_some, b2_0, b2_1, isb_b2, if_true_, if_false_, ↓reduceIte, reduceCtorEq, not_true_eq_false, not_false_eq_true, bt_hasBit, ult, Nat.add_zero, false_and, true_and, and_true, and_false, Nat.reduceLeDiff, Nat.reduceEqDiff, Nat.reduceLT, Bool.toNat_true, Bool.toNat_false, decide_true, decide_false, Bool.not_true, Bool.not_false, Bool.false_and, Bool.true_and, Bool.and_true, Bool.and_false, Bool.or_false, Bool.true_or, Bool.or_true, Bool.false_or, Nat.le_refl]
  · refine Prod.ext rfl ?_
    have : (fun k => if 2 ≤ k ∧ k < 2 + 0 then (if gN N s (k - 2) = true then nI 0 else M.1 7 1 k) else M.1 7 1 k) = M.1 7 1 := funext fun k => by rw [if_neg (by omega)]
    dsimp only
    rw [this]
    exact (wrs_self M 7 1).symm
theorem rm141 {M : Mem} (k101 : Int32 → Int32 → Mem → Option (Int32 × Mem)) (x2 : Int32) {c e : Nat} (hce : c ≤ e) (he : e < 150) : L_X9_removeSection_141 k101 x2 (nI c) (nI e) FU 0 M = k101 (nI (c + 1)) (nI (e + 1)) (wrs M 7 1 (cp6 (M.1 7 1) c e)) := by
  refine loopI (fun n (σ : Int32 × Mem) => L_X9_removeSection_141 k101 x2 (nI c) (nI e) n σ.1 σ.2) (fun w σ => σ = (nI w, wrs M 7 1 (fun k => if 2702 + 6 * c ≤ k ∧ k < 2702 + 6 * c + w then M.1 7 1 (2702 + 6 * e + (k - (2702 + 6 * c))) else M.1 7 1 k))) (fun o => o = k101 (nI (c + 1)) (nI (e + 1)) (wrs M 7 1 (cp6 (M.1 7 1) c e))) 6 (fun n w σ hw hσ => ?_) (fun n σ hσ => ?_) FU (by decide) (nI 0, M) ?_
  · subst hσ
    refine Or.inr ⟨(nI (w + 1), wrs M 7 1 (fun k => if 2702 + 6 * c ≤ k ∧ k < 2702 + 6 * c + (w + 1) then M.1 7 1 (2702 + 6 * e + (k - (2702 + 6 * c))) else M.1 7 1 k)), ?_, rfl⟩
    show L_X9_removeSection_141 k101 x2 (nI c) (nI e) (n + 1) _ _ = L_X9_removeSection_141 k101 x2 (nI c) (nI e) n _ _
    have e1 : (wrs M 7 1 (fun k => if 2702 + 6 * c ≤ k ∧ k < 2702 + 6 * c + w then M.1 7 1 (2702 + 6 * e + (k - (2702 + 6 * c))) else M.1 7 1 k)).1 7 1 (2702 + 6 * e + w) = M.1 7 1 (2702 + 6 * e + w) := by rw [wrs_same, if_neg (by omega)]
    rw [L_X9_removeSection_141]
    simp (disch := omega) only [↓ite_b2r, ↓ite_nb2r, ↓lit_m1, ↓lit_m2, lit_0, lit_1, lit_2, lit_3, lit_4, lit_5, lit_6, lit_7, lit_8, lit_9, lit_10, lit_11, lit_12, lit_13, lit_14, lit_15, lit_16, lit_17, lit_18, lit_19, lit_20, lit_21, lit_22, lit_23, lit_24, lit_25, lit_26, lit_27, lit_28, lit_29, lit_30, lit_31, lit_32, lit_33, lit_34, lit_35, lit_36, lit_40, lit_41, lit_42, lit_44, lit_48, lit_57, lit_59, lit_62, lit_63, lit_64, lit_82, lit_98, lit_99, lit_100, lit_101, lit_102, lit_103, lit_104, lit_105, lit_106, lit_107, lit_108, lit_109, lit_110, lit_111, lit_112, lit_113, lit_119, lit_120, lit_127, lit_128, lit_149, lit_150, lit_202, lit_240, lit_262, lit_894, lit_900, lit_999, lit_1000, lit_2000, lit_2662, lit_2663, lit_2695, lit_2701, lit_2702, lit_3602, lit_10806, nI_add, pk_mul, cl_nI, inb_nI, nI_leI, nI_ltI, nI_eq, nI_eq_m1, m1_eq_nI, nI_eq_m2, div_nI, rem_nI, Option.bind_some, b2_0, b2_1, isb_b2, if_true_, if_false_, ↓reduceIte, reduceCtorEq, not_true_eq_false, not_false_eq_true, bt_hasBit, ult, Nat.add_zero, false_and, true_and, and_true, and_false, Nat.reduceLeDiff, Nat.reduceEqDiff, Nat.reduceLT, Bool.toNat_true, Bool.toNat_false, decide_true, decide_false, Bool.not_true, Bool.not_false, Bool.false_and, Bool.true_and, Bool.and_true, Bool.and_false, Bool.or_false, Bool.true_or, Bool.or_true, Bool.false_or, Nat.not_le.mpr hw, e1, wr_wrs]
    congr 2
    funext k
    by_cases hk : k = 2702 + 6 * c + w
    · subst hk; rw [upd_same, if_pos (by omega), show 2702 + 6 * e + (2702 + 6 * c + w - (2702 + 6 * c)) = 2702 + 6 * e + w by omega]
    · rw [upd_other hk]
      by_cases h2 : 2702 + 6 * c ≤ k ∧ k < 2702 + 6 * c + w
      · rw [if_pos h2, if_pos (by omega)]
      · rw [if_neg h2, if_neg (by omega)]
  · subst hσ
    show L_X9_removeSection_141 k101 x2 (nI c) (nI e) (n + 1) _ _ = _
    rw [L_X9_removeSection_141]
    unfold B_X9_removeSection_190
    simp (disch := omega) only [↓ite_b2r, ↓ite_nb2r, ↓lit_m1, ↓lit_m2, lit_0, lit_1, lit_2, lit_3, lit_4, lit_5, lit_6, lit_7, lit_8, lit_9, lit_10, lit_11, lit_12, lit_13, lit_14, lit_15, lit_16, lit_17, lit_18, lit_19, lit_20, lit_21, lit_22, lit_23, lit_24, lit_25, lit_26, lit_27, lit_28, lit_29, lit_30, lit_31, lit_32, lit_33, lit_34, lit_35, lit_36, lit_40, lit_41, lit_42, lit_44, lit_48, lit_57, lit_59, lit_62, lit_63, lit_64, lit_82, lit_98, lit_99, lit_100, lit_101, lit_102, lit_103, lit_104, lit_105, lit_106, lit_107, lit_108, lit_109, lit_110, lit_111, lit_112, lit_113, lit_119, lit_120, lit_127, lit_128, lit_149, lit_150, lit_202, lit_240, lit_262, lit_894, lit_900, lit_999, lit_1000, lit_2000, lit_2662, lit_2663, lit_2695, lit_2701, lit_2702, lit_3602, lit_10806, nI_add, pk_mul, cl_nI, inb_nI, nI_leI, nI_ltI, nI_eq, nI_eq_m1, m1_eq_nI, nI_eq_m2, div_nI, rem_nI, Option.bind_some, b2_0, b2_1, isb_b2, if_true_, if_false_, ↓reduceIte, reduceCtorEq, not_true_eq_false, not_false_eq_true, bt_hasBit, ult, Nat.add_zero, false_and, true_and, and_true, and_false, Nat.reduceLeDiff, Nat.reduceEqDiff, Nat.reduceLT, Bool.toNat_true, Bool.toNat_false, decide_true, decide_false, Bool.not_true, Bool.not_false, Bool.false_and, Bool.true_and, Bool.and_true, Bool.and_false, Bool.or_false, Bool.true_or, Bool.or_true, Bool.false_or, Nat.le_refl] <;> rfl
  · refine Prod.ext rfl ?_
    have : (fun k => if 2702 + 6 * c ≤ k ∧ k < 2702 + 6 * c + 0 then M.1 7 1 (2702 + 6 * e + (k - (2702 + 6 * c))) else M.1 7 1 k) = M.1 7 1 := funext fun k => by rw [if_neg (by omega)]
    dsimp only
    rw [this]
    exact (wrs_self M 7 1).symm
theorem rm101 {M : Mem} (x2 : Int32) (hh : WFh N) (h1 : M.1 7 1 = N) (hf : ∀ t, t < 20 → M.1 7 7 t = b2 (gN N s t)) : L_X9_removeSection_101 x2 FU 0 0 M = some (x2, wrs M 7 1 (remS N s)) := by
  have hl : hn N < 151 := hh.1.2
  have hhn : N 2701 = nI (hn N) := hh.1.1
  refine loopI (fun n (σ : Int32 × Int32 × Mem) => L_X9_removeSection_101 x2 n σ.1 σ.2.1 σ.2.2) (fun e σ => σ = (nI (cntN (fkp N s) e), nI e, wrs M 7 1 (filR N s e))) (fun o => o = some (x2, wrs M 7 1 (remS N s))) (hn N) (fun n e σ he hσ => ?_) (fun n σ hσ => ?_) FU (FU_lt (by omega)) (nI 0, nI 0, M) ?_
  · subst hσ
    refine Or.inr ⟨(nI (cntN (fkp N s) (e + 1)), nI (e + 1), wrs M 7 1 (filR N s (e + 1))), ?_, rfl⟩
    show L_X9_removeSection_101 x2 (n + 1) _ _ _ = L_X9_removeSection_101 x2 n _ _ _
    have hle := cntN_le (fkp N s) e
    have e1 : (wrs M 7 1 (filR N s e)).1 7 1 2701 = nI (hn N) := by rw [wrs_same, filR_ge _ _ (by omega)]; exact hhn
    obtain ⟨s1, -, -⟩ := hh.2 e he
    have hs1l := s1.2
    have e2 : (wrs M 7 1 (filR N s e)).1 7 1 (2702 + 6 * e + 1) = nI (cl (N (2702 + 6 * e + 1))) := by rw [wrs_same, filR_ge _ _ (by omega)]; exact s1.1
    have e3 : (wrs M 7 1 (filR N s e)).1 7 7 (cl (N (2702 + 6 * e + 1))) = b2 (gN N s (cl (N (2702 + 6 * e + 1)))) := by rw [wrs_other _ _ _ _ (by omega)]; exact hf _ hs1l
    have hfk : fkp N s e = !gN N s (cl (N (2702 + 6 * e + 1))) := rfl
    have h141 := rm141 (M := wrs M 7 1 (filR N s e)) (L_X9_removeSection_101 x2 n) x2 hle (show e < 150 by omega)
    rw [wrs_same, wrs_wrs] at h141
    rw [L_X9_removeSection_101, cntN_s, filR]
    unfold B_X9_removeSection_190
    cases hg : gN N s (cl (N (2702 + 6 * e + 1))) with
    | true =>
      rw [hg] at e3 hfk
      rw [hfk]
      simp (disch := omega) only [↓ite_b2r, ↓ite_nb2r, ↓lit_m1, ↓lit_m2, lit_0, lit_1, lit_2, lit_3, lit_4, lit_5, lit_6, lit_7, lit_8, lit_9, lit_10, lit_11, lit_12, lit_13, lit_14, lit_15, lit_16, lit_17, lit_18, lit_19, lit_20, lit_21, lit_22, lit_23, lit_24, lit_25, lit_26, lit_27, lit_28, lit_29, lit_30, lit_31, lit_32, lit_33, lit_34, lit_35, lit_36, lit_40, lit_41, lit_42, lit_44, lit_48, lit_57, lit_59, lit_62, lit_63, lit_64, lit_82, lit_98, lit_99, lit_100, lit_101, lit_102, lit_103, lit_104, lit_105, lit_106, lit_107, lit_108, lit_109, lit_110, lit_111, lit_112, lit_113, lit_119, lit_120, lit_127, lit_128, lit_149, lit_150, lit_202, lit_240, lit_262, lit_894, lit_900, lit_999, lit_1000, lit_2000, lit_2662, lit_2663, lit_2695, lit_2701, lit_2702, lit_3602, lit_10806, nI_add, pk_mul, cl_nI, inb_nI, nI_leI, nI_ltI, nI_eq, nI_eq_m1, m1_eq_nI, nI_eq_m2, div_nI, rem_nI, Option.bind_some, b2_0, b2_1, isb_b2, if_true_, if_false_, ↓reduceIte, reduceCtorEq, not_true_eq_false, not_false_eq_true, bt_hasBit, ult, Nat.add_zero, false_and, true_and, and_true, and_false, Nat.reduceLeDiff, Nat.reduceEqDiff, Nat.reduceLT, Bool.toNat_true, Bool.toNat_false, decide_true, decide_false, Bool.not_true, Bool.not_false, Bool.false_and, Bool.true_and, Bool.and_true, Bool.and_false, Bool.or_false, Bool.true_or, Bool.or_true, Bool.false_or, e1, Nat.not_le.mpr he, e2, e3] <;> rfl
    | false =>
      rw [hg] at e3 hfk
      rw [hfk]
      simp (disch := omega) only [↓ite_b2r, ↓ite_nb2r, ↓lit_m1, ↓lit_m2, lit_0, lit_1, lit_2, lit_3, lit_4, lit_5, lit_6, lit_7, lit_8, lit_9, lit_10, lit_11, lit_12, lit_13, lit_14, lit_15, lit_16, lit_17, lit_18, lit_19, lit_20, lit_21, lit_22, lit_23, lit_24, lit_25, lit_26, lit_27, lit_28, lit_29, lit_30, lit_31, lit_32, lit_33, lit_34, lit_35, lit_36, lit_40, lit_41, lit_42, lit_44, lit_48, lit_57, lit_59, lit_62, lit_63, lit_64, lit_82, lit_98, lit_99, lit_100, lit_101, lit_102, lit_103, lit_104, lit_105, lit_106, lit_107, lit_108, lit_109, lit_110, lit_111, lit_112, lit_113, lit_119, lit_120, lit_127, lit_128, lit_149, lit_150, lit_202, lit_240, lit_262, lit_894, lit_900, lit_999, lit_1000, lit_2000, lit_2662, lit_2663, lit_2695, lit_2701, lit_2702, lit_3602, lit_10806, nI_add, pk_mul, cl_nI, inb_nI, nI_leI, nI_ltI, nI_eq, nI_eq_m1, m1_eq_nI, nI_eq_m2, div_nI, rem_nI, Option.bind_some, b2_0, b2_1, isb_b2, if_true_, if_false_, ↓reduceIte, reduceCtorEq, not_true_eq_false, not_false_eq_true, bt_hasBit, ult, Nat.add_zero, false_and, true_and, and_true, and_false, Nat.reduceLeDiff, Nat.reduceEqDiff, Nat.reduceLT, Bool.toNat_true, Bool.toNat_false, decide_true, decide_false, Bool.not_true, Bool.not_false, Bool.false_and, Bool.true_and, Bool.and_true, Bool.and_false, Bool.or_false, Bool.true_or, Bool.or_true, Bool.false_or, e1, Nat.not_le.mpr he, e2, e3]
      exact h141
  · subst hσ
    show L_X9_removeSection_101 x2 (n + 1) _ _ _ = _
    have hle := cntN_le (fkp N s) (hn N)
    have e1 : (wrs M 7 1 (filR N s (hn N))).1 7 1 2701 = nI (hn N) := by rw [wrs_same, filR_ge _ _ (by omega)]; exact hhn
    have hb := rm208 (N := N) (s := s) (M := wrs M 7 1 (upd (filR N s (hn N)) 2701 (nI (cntN (fkp N s) (hn N))))) x2 (fun t ht => by rw [wrs_other _ _ _ _ (by omega)]; exact hf t ht)
    rw [wrs_same, wrs_wrs] at hb
    rw [L_X9_removeSection_101]
    simp (disch := omega) only [↓ite_b2r, ↓ite_nb2r, ↓lit_m1, ↓lit_m2, lit_0, lit_1, lit_2, lit_3, lit_4, lit_5, lit_6, lit_7, lit_8, lit_9, lit_10, lit_11, lit_12, lit_13, lit_14, lit_15, lit_16, lit_17, lit_18, lit_19, lit_20, lit_21, lit_22, lit_23, lit_24, lit_25, lit_26, lit_27, lit_28, lit_29, lit_30, lit_31, lit_32, lit_33, lit_34, lit_35, lit_36, lit_40, lit_41, lit_42, lit_44, lit_48, lit_57, lit_59, lit_62, lit_63, lit_64, lit_82, lit_98, lit_99, lit_100, lit_101, lit_102, lit_103, lit_104, lit_105, lit_106, lit_107, lit_108, lit_109, lit_110, lit_111, lit_112, lit_113, lit_119, lit_120, lit_127, lit_128, lit_149, lit_150, lit_202, lit_240, lit_262, lit_894, lit_900, lit_999, lit_1000, lit_2000, lit_2662, lit_2663, lit_2695, lit_2701, lit_2702, lit_3602, lit_10806, nI_add, pk_mul, cl_nI, inb_nI, nI_leI, nI_ltI, nI_eq, nI_eq_m1, m1_eq_nI, nI_eq_m2, div_nI, rem_nI, Option.bind_some, b2_0, b2_1, isb_b2, if_true_, if_false_, ↓reduceIte, reduceCtorEq, not_true_eq_false, not_false_eq_true, bt_hasBit, ult, Nat.add_zero, false_and, true_and, and_true, and_false, Nat.reduceLeDiff, Nat.reduceEqDiff, Nat.reduceLT, Bool.toNat_true, Bool.toNat_false, decide_true, decide_false, Bool.not_true, Bool.not_false, Bool.false_and, Bool.true_and, Bool.and_true, Bool.and_false, Bool.or_false, Bool.true_or, Bool.or_true, Bool.false_or, e1, Nat.le_refl, wr_wrs]
    refine hb.trans ?_
    congr 3
    funext k
    unfold remS
    by_cases h2 : 2 ≤ k ∧ k < 22
    · rw [if_pos h2, if_pos h2, upd_other (by omega), filR_ge _ _ (by omega)]
    · rw [if_neg h2, if_neg h2]
      by_cases h3 : k = 2701
      · subst h3; rw [upd_same, if_pos rfl]
      · rw [upd_other h3, if_neg h3]
  · refine Prod.ext rfl (Prod.ext rfl ?_)
    show M = wrs M 7 1 N
    rw [← h1]
    exact (wrs_self M 7 1).symm
theorem m_rem {M : Mem} (x2 : Int32) (hN : WFt N) (hh : WFh N) (h1 : M.1 7 1 = N) (hs : s < 20) : ∃ M', L_X9_removeSection_56 (nI s) x2 FU 0 M = some (x2, M') ∧ M'.1 7 1 = remS N s ∧ FrN M M' := by
  refine loopI (fun n (σ : Int32 × Mem) => L_X9_removeSection_56 (nI s) x2 n σ.1 σ.2) (fun i σ => ∃ M1, σ = (nI i, M1) ∧ M1.1 7 1 = N ∧ (∀ t, t < i → M1.1 7 7 t = b2 (gN N s t)) ∧ FrN M M1) (fun o => ∃ M', o = some (x2, M') ∧ M'.1 7 1 = remS N s ∧ FrN M M') 20 (fun n i σ hi hσ => ?_) (fun n σ hσ => ?_) FU (by decide) (nI 0, M) ⟨M, rfl, h1, fun _ h => absurd h (Nat.not_lt_zero _), FrN.rf⟩
  · obtain ⟨M1, rfl, a1, a2, a3⟩ := hσ
    refine Or.inr ⟨(nI (i + 1), wr M1 7 7 i (b2 (gN N s i))), ?_, wr M1 7 7 i (b2 (gN N s i)), rfl, ?_, fun t ht => ?_, a3.tr (FrN_wr _ (by omega) _ _)⟩
    · show L_X9_removeSection_56 (nI s) x2 (n + 1) _ _ = L_X9_removeSection_56 (nI s) x2 n _ _
      rw [L_X9_removeSection_56]
      unfold B_X9_removeSection_88 B_X9_removeSection_89
      cases hu : us N i with
      | false =>
        have hg : gN N s i = false := by unfold gN; rw [hu, Bool.false_and]
        simp (disch := omega) only [↓ite_b2r, ↓ite_nb2r, ↓lit_m1, ↓lit_m2, lit_0, lit_1, lit_2, lit_3, lit_4, lit_5, lit_6, lit_7, lit_8, lit_9, lit_10, lit_11, lit_12, lit_13, lit_14, lit_15, lit_16, lit_17, lit_18, lit_19, lit_20, lit_21, lit_22, lit_23, lit_24, lit_25, lit_26, lit_27, lit_28, lit_29, lit_30, lit_31, lit_32, lit_33, lit_34, lit_35, lit_36, lit_40, lit_41, lit_42, lit_44, lit_48, lit_57, lit_59, lit_62, lit_63, lit_64, lit_82, lit_98, lit_99, lit_100, lit_101, lit_102, lit_103, lit_104, lit_105, lit_106, lit_107, lit_108, lit_109, lit_110, lit_111, lit_112, lit_113, lit_119, lit_120, lit_127, lit_128, lit_149, lit_150, lit_202, lit_240, lit_262, lit_894, lit_900, lit_999, lit_1000, lit_2000, lit_2662, lit_2663, lit_2695, lit_2701, lit_2702, lit_3602, lit_10806, nI_add, pk_mul, cl_nI, inb_nI, nI_leI, nI_ltI, nI_eq, nI_eq_m1, m1_eq_nI, nI_eq_m2, div_nI, rem_nI, Option.bind_some, b2_0, b2_1, isb_b2, if_true_, if_false_, ↓reduceIte, reduceCtorEq, not_true_eq_false, not_false_eq_true, bt_hasBit, ult, Nat.add_zero, false_and, true_and, and_true, and_false, Nat.reduceLeDiff, Nat.reduceEqDiff, Nat.reduceLT, Bool.toNat_true, Bool.toNat_false, decide_true, decide_false, Bool.not_true, Bool.not_false, Bool.false_and, Bool.true_and, Bool.and_true, Bool.and_false, Bool.or_false, Bool.true_or, Bool.or_true, Bool.false_or, Nat.not_le.mpr hi, m_isSection, a1, isS_nI hi, hu, hg, zb_0] <;> rfl
      | true =>
        have hin := m_isIn (M := M1) (by rw [a1]; exact hN) hi (by rw [a1]; exact hu) hs
        rw [a1] at hin
        have hg : gN N s i = An N i s := gN_us hu
        rw [hg]
        cases ha : An N i s with
        | false =>
          rw [ha] at hin
          simp (disch := omega) only [↓ite_b2r, ↓ite_nb2r, ↓lit_m1, ↓lit_m2, lit_0, lit_1, lit_2, lit_3, lit_4, lit_5, lit_6, lit_7, lit_8, lit_9, lit_10, lit_11, lit_12, lit_13, lit_14, lit_15, lit_16, lit_17, lit_18, lit_19, lit_20, lit_21, lit_22, lit_23, lit_24, lit_25, lit_26, lit_27, lit_28, lit_29, lit_30, lit_31, lit_32, lit_33, lit_34, lit_35, lit_36, lit_40, lit_41, lit_42, lit_44, lit_48, lit_57, lit_59, lit_62, lit_63, lit_64, lit_82, lit_98, lit_99, lit_100, lit_101, lit_102, lit_103, lit_104, lit_105, lit_106, lit_107, lit_108, lit_109, lit_110, lit_111, lit_112, lit_113, lit_119, lit_120, lit_127, lit_128, lit_149, lit_150, lit_202, lit_240, lit_262, lit_894, lit_900, lit_999, lit_1000, lit_2000, lit_2662, lit_2663, lit_2695, lit_2701, lit_2702, lit_3602, lit_10806, nI_add, pk_mul, cl_nI, inb_nI, nI_leI, nI_ltI, nI_eq, nI_eq_m1, m1_eq_nI, nI_eq_m2, div_nI, rem_nI, Option.bind_some, b2_0, b2_1, isb_b2, if_true_, if_false_, ↓reduceIte, reduceCtorEq, not_true_eq_false, not_false_eq_true, bt_hasBit, ult, Nat.add_zero, false_and, true_and, and_true, and_false, Nat.reduceLeDiff, Nat.reduceEqDiff, Nat.reduceLT, Bool.toNat_true, Bool.toNat_false, decide_true, decide_false, Bool.not_true, Bool.not_false, Bool.false_and, Bool.true_and, Bool.and_true, Bool.and_false, Bool.or_false, Bool.true_or, Bool.or_true, Bool.false_or, Nat.not_le.mpr hi, m_isSection, a1, isS_nI hi, hu, hin, zb_0] <;> rfl
        | true =>
          rw [ha] at hin
          simp (disch := omega) only [↓ite_b2r, ↓ite_nb2r, ↓lit_m1, ↓lit_m2, lit_0, lit_1, lit_2, lit_3, lit_4, lit_5, lit_6, lit_7, lit_8, lit_9, lit_10, lit_11, lit_12, lit_13, lit_14, lit_15, lit_16, lit_17, lit_18, lit_19, lit_20, lit_21, lit_22, lit_23, lit_24, lit_25, lit_26, lit_27, lit_28, lit_29, lit_30, lit_31, lit_32, lit_33, lit_34, lit_35, lit_36, lit_40, lit_41, lit_42, lit_44, lit_48, lit_57, lit_59, lit_62, lit_63, lit_64, lit_82, lit_98, lit_99, lit_100, lit_101, lit_102, lit_103, lit_104, lit_105, lit_106, lit_107, lit_108, lit_109, lit_110, lit_111, lit_112, lit_113, lit_119, lit_120, lit_127, lit_128, lit_149, lit_150, lit_202, lit_240, lit_262, lit_894, lit_900, lit_999, lit_1000, lit_2000, lit_2662, lit_2663, lit_2695, lit_2701, lit_2702, lit_3602, lit_10806, nI_add, pk_mul, cl_nI, inb_nI, nI_leI, nI_ltI, nI_eq, nI_eq_m1, m1_eq_nI, nI_eq_m2, div_nI, rem_nI, Option.bind_some, b2_0, b2_1, isb_b2, if_true_, if_false_, ↓reduceIte, reduceCtorEq, not_true_eq_false, not_false_eq_true, bt_hasBit, ult, Nat.add_zero, false_and, true_and, and_true, and_false, Nat.reduceLeDiff, Nat.reduceEqDiff, Nat.reduceLT, Bool.toNat_true, Bool.toNat_false, decide_true, decide_false, Bool.not_true, Bool.not_false, Bool.false_and, Bool.true_and, Bool.and_true, Bool.and_false, Bool.or_false, Bool.true_or, Bool.or_true, Bool.false_or, Nat.not_le.mpr hi, m_isSection, a1, isS_nI hi, hu, hin, zb_1] <;> rfl
    · rw [wr_other _ _ _ _ _ (by omega)]; exact a1
    · rw [wr_same]
      by_cases h : t = i
      · subst h; rw [upd_same]
      · rw [upd_other h]; exact a2 t (by omega)
  · obtain ⟨M1, rfl, a1, a2, a3⟩ := hσ
    refine ⟨wrs M1 7 1 (remS N s), ?_, wrs_same _ _ _ _, a3.tr (FrN_wrs _ (by omega) _)⟩
    show L_X9_removeSection_56 (nI s) x2 (n + 1) _ _ = _
    rw [L_X9_removeSection_56]
    dsimp only
    rw [if_pos (show (20 : Int32) ≤ nI 20 from Int32.le_refl _)]
    exact rm101 x2 hh a1 a2
end RMm
section RSk
variable {k : Nat} {M : Mem}
end RSk
