/-! ===== the digest: line, entries; the reference ===== -/
section DH
variable {M : Mem} {g : Nat} {N : Row}
theorem c_hashQueue (hN : WFq N) (h : RDq (M.1 g) N) (x : Int64) : f_X5_hashOnto g x M = some (hRun (fun j => N (2662 + j)) x (1 + 4 * wq N)) := by
  have hq8 := wq_le hN
  have e12 : M.1 g 12 1 = nI (wq N) := h.1.trans (wq_eq hN)
  have hv : ∀ k w, k < wq N → w < 4 → f_X5_fact g (nI k) (nI w) M = some (N (2662 + (1 + 4 * k + w))) := fun k w hk hw => by
    rw [c_qfact (by omega) hw, show 2662 + (1 + 4 * k + w) = 2663 + 4 * k + w by omega]
    obtain ⟨r0, r1, r2, r3⟩ := h.2 k hk
    rcases (show w = 0 ∨ w = 1 ∨ w = 2 ∨ w = 3 by omega) with rfl | rfl | rfl | rfl
    · rw [Nat.add_zero, r0]; rfl
    · rw [r1]
    · rw [r2]
    · rw [r3]
  unfold f_X5_hashOnto
  rw [e12]
  refine loop0 (fun n (σ : Int64 × Int32) => L_X5_hashOnto_12 g M n σ.1 σ.2) (fun k => (hRun (fun j => N (2662 + j)) x (1 + 4 * k), nI k)) (wq N) (f_X8_hashed x (nI (wq N)), nI 0) ?_ (fun n k hk => ?_) (fun n => ?_) FU (FU_lt (by omega))
  · show (f_X8_hashed x (N 2662), nI 0) = _
    rw [wq_eq hN]
  · show L_X5_hashOnto_12 g M (n + 1) _ _ = L_X5_hashOnto_12 g M n _ _
    rw [L_X5_hashOnto_12]
    dsimp only
    rw [e12, if_neg (show ¬ nI (wq N) ≤ nI k from fun z => by rw [nI_leI (by omega) (by omega)] at z; omega)]
    refine loopI (fun m (σ : Int64 × Int32) => L_X5_hashOnto_24 g (L_X5_hashOnto_12 g M n) (nI k) M m σ.1 σ.2) (fun w σ => σ = (hRun (fun j => N (2662 + j)) x (1 + 4 * k + w), nI w)) (fun o => o = L_X5_hashOnto_12 g M n (hRun (fun j => N (2662 + j)) x (1 + 4 * (k + 1))) (nI (k + 1))) 4 (fun m w σ hw hσ => ?_) (fun m σ hσ => ?_) FU (by decide) (_, nI 0) rfl
    · subst hσ
      refine Or.inr ⟨(_, nI (w + 1)), ?_, rfl⟩
      show L_X5_hashOnto_24 g _ (nI k) M (m + 1) _ _ = L_X5_hashOnto_24 g _ (nI k) M m _ _
      rw [L_X5_hashOnto_24, ← Nat.add_assoc (1 + 4 * k) w 1, hRun_s]
      simp (disch := omega) only [↓ite_b2r, ↓ite_nb2r, ↓lit_m1, ↓lit_m2, lit_0, lit_1, lit_2, lit_3, lit_4, lit_5, lit_6, lit_7, lit_8, lit_9, lit_10, lit_11, lit_12, lit_13, lit_14, lit_15, lit_16, lit_17, lit_18, lit_19, lit_20, lit_21, lit_22, lit_23, lit_24, lit_25, lit_26, lit_27, lit_28, lit_29, lit_30, lit_31, lit_32, lit_33, lit_34, lit_35, lit_36, lit_40, lit_41, lit_42, lit_44, lit_48, lit_57, lit_59, lit_62, lit_63, lit_64, lit_82, lit_98, lit_99, lit_100, lit_101, lit_102, lit_103, lit_104, lit_105, lit_106, lit_107, lit_108, lit_109, lit_110, lit_111, lit_112, lit_113, lit_119, lit_120, lit_127, lit_128, lit_149, lit_150, lit_202, lit_240, lit_262, lit_894, lit_900, lit_999, lit_1000, lit_2000, lit_2662, lit_2663, lit_2695, lit_2701, lit_2702, lit_3602, lit_10806, nI_add, pk_mul, cl_nI, inb_nI, nI_leI, nI_ltI, nI_eq, nI_eq_m1, m1_eq_nI, nI_eq_m2, div_nI, rem_nI, Option.bind_some, b2_0, b2_1, isb_b2, if_true_, if_false_, ↓reduceIte, reduceCtorEq, not_true_eq_false, not_false_eq_true, bt_hasBit, ult, Nat.add_zero, false_and, true_and, and_true, and_false, Nat.reduceLeDiff, Nat.reduceEqDiff, Nat.reduceLT, Bool.toNat_true, Bool.toNat_false, decide_true, decide_false, Bool.not_true, Bool.not_false, Bool.false_and, Bool.true_and, Bool.and_true, Bool.and_false, Bool.or_false, Bool.true_or, Bool.or_true, Bool.false_or, Nat.not_le.mpr hw, hv k w hk hw]
    · subst hσ
      show L_X5_hashOnto_24 g _ (nI k) M (m + 1) _ _ = _
      rw [L_X5_hashOnto_24, show 1 + 4 * k + 4 = 1 + 4 * (k + 1) by omega]
      simp (disch := omega) only [↓ite_b2r, ↓ite_nb2r, ↓lit_m1, ↓lit_m2, lit_0, lit_1, lit_2, lit_3, lit_4, lit_5, lit_6, lit_7, lit_8, lit_9, lit_10, lit_11, lit_12, lit_13, lit_14, lit_15, lit_16, lit_17, lit_18, lit_19, lit_20, lit_21, lit_22, lit_23, lit_24, lit_25, lit_26, lit_27, lit_28, lit_29, lit_30, lit_31, lit_32, lit_33, lit_34, lit_35, lit_36, lit_40, lit_41, lit_42, lit_44, lit_48, lit_57, lit_59, lit_62, lit_63, lit_64, lit_82, lit_98, lit_99, lit_100, lit_101, lit_102, lit_103, lit_104, lit_105, lit_106, lit_107, lit_108, lit_109, lit_110, lit_111, lit_112, lit_113, lit_119, lit_120, lit_127, lit_128, lit_149, lit_150, lit_202, lit_240, lit_262, lit_894, lit_900, lit_999, lit_1000, lit_2000, lit_2662, lit_2663, lit_2695, lit_2701, lit_2702, lit_3602, lit_10806, nI_add, pk_mul, cl_nI, inb_nI, nI_leI, nI_ltI, nI_eq, nI_eq_m1, m1_eq_nI, nI_eq_m2, div_nI, rem_nI, Option.bind_some, b2_0, b2_1, isb_b2, if_true_, if_false_, ↓reduceIte, reduceCtorEq, not_true_eq_false, not_false_eq_true, bt_hasBit, ult, Nat.add_zero, false_and, true_and, and_true, and_false, Nat.reduceLeDiff, Nat.reduceEqDiff, Nat.reduceLT, Bool.toNat_true, Bool.toNat_false, decide_true, decide_false, Bool.not_true, Bool.not_false, Bool.false_and, Bool.true_and, Bool.and_true, Bool.and_false, Bool.or_false, Bool.true_or, Bool.or_true, Bool.false_or, Nat.le_refl]
  · show L_X5_hashOnto_12 g M (n + 1) _ _ = _
    rw [L_X5_hashOnto_12]
    simp (disch := omega) only [↓ite_b2r, ↓ite_nb2r, ↓lit_m1, ↓lit_m2, lit_0, lit_1, lit_2, lit_3, lit_4, lit_5, lit_6, lit_7, lit_8, lit_9, lit_10, lit_11, lit_12, lit_13, lit_14, lit_15, lit_16, lit_17, lit_18, lit_19, lit_20, lit_21, lit_22, lit_23, lit_24, lit_25, lit_26, lit_27, lit_28, lit_29, lit_30, lit_31, lit_32, lit_33, lit_34, lit_35, lit_36, lit_40, lit_41, lit_42, lit_44, lit_48, lit_57, lit_59, lit_62, lit_63, lit_64, lit_82, lit_98, lit_99, lit_100, lit_101, lit_102, lit_103, lit_104, lit_105, lit_106, lit_107, lit_108, lit_109, lit_110, lit_111, lit_112, lit_113, lit_119, lit_120, lit_127, lit_128, lit_149, lit_150, lit_202, lit_240, lit_262, lit_894, lit_900, lit_999, lit_1000, lit_2000, lit_2662, lit_2663, lit_2695, lit_2701, lit_2702, lit_3602, lit_10806, nI_add, pk_mul, cl_nI, inb_nI, nI_leI, nI_ltI, nI_eq, nI_eq_m1, m1_eq_nI, nI_eq_m2, div_nI, rem_nI, Option.bind_some, b2_0, b2_1, isb_b2, if_true_, if_false_, ↓reduceIte, reduceCtorEq, not_true_eq_false, not_false_eq_true, bt_hasBit, ult, Nat.add_zero, false_and, true_and, and_true, and_false, Nat.reduceLeDiff, Nat.reduceEqDiff, Nat.reduceLT, Bool.toNat_true, Bool.toNat_false, decide_true, decide_false, Bool.not_true, Bool.not_false, Bool.false_and, Bool.true_and, Bool.and_true, Bool.and_false, Bool.or_false, Bool.true_or, Bool.or_true, Bool.false_or, e12, Nat.le_refl]
theorem c_hashHist (hN : WFh N) (h : RDh (M.1 g) N) (x : Int64) : f_X2_hashOnto g x M = some (hRun (fun j => N (2701 + j)) x (1 + 6 * hn N)) := by
  have hl : hn N < 151 := hN.1.2
  have e27 : N 2701 = nI (hn N) := hN.1.1
  obtain ⟨e14, f, hf, hf1, hf2⟩ := h
  have e14 : M.1 g 14 2 = nI (hn N) := e14.trans e27
  have hv : ∀ k w, k < hn N → w < 6 → f_X2_fact g (nI k) (nI w) M = some (N (2701 + (1 + 6 * k + w))) := fun k w hk hw => by
    rw [c_hfact hf1 hf (by omega) hw, hf2 k w hk hw, show 2701 + (1 + 6 * k + w) = 2702 + 6 * k + w by omega]
  unfold f_X2_hashOnto
  rw [e14]
  refine loop0 (fun n (σ : Int64 × Int32) => L_X2_hashOnto_12 g M n σ.1 σ.2) (fun k => (hRun (fun j => N (2701 + j)) x (1 + 6 * k), nI k)) (hn N) (f_X8_hashed x (nI (hn N)), nI 0) ?_ (fun n k hk => ?_) (fun n => ?_) FU (FU_lt (by omega))
  · show (f_X8_hashed x (N 2701), nI 0) = _
    rw [e27]
  · show L_X2_hashOnto_12 g M (n + 1) _ _ = L_X2_hashOnto_12 g M n _ _
    rw [L_X2_hashOnto_12]
    dsimp only
    rw [e14, if_neg (show ¬ nI (hn N) ≤ nI k from fun z => by rw [nI_leI (by omega) (by omega)] at z; omega)]
    refine loopI (fun m (σ : Int64 × Int32) => L_X2_hashOnto_24 g (L_X2_hashOnto_12 g M n) (nI k) M m σ.1 σ.2) (fun w σ => σ = (hRun (fun j => N (2701 + j)) x (1 + 6 * k + w), nI w)) (fun o => o = L_X2_hashOnto_12 g M n (hRun (fun j => N (2701 + j)) x (1 + 6 * (k + 1))) (nI (k + 1))) 6 (fun m w σ hw hσ => ?_) (fun m σ hσ => ?_) FU (by decide) (_, nI 0) rfl
    · subst hσ
      refine Or.inr ⟨(_, nI (w + 1)), ?_, rfl⟩
      show L_X2_hashOnto_24 g _ (nI k) M (m + 1) _ _ = L_X2_hashOnto_24 g _ (nI k) M m _ _
      rw [L_X2_hashOnto_24, ← Nat.add_assoc (1 + 6 * k) w 1, hRun_s]
      simp (disch := omega) only [↓ite_b2r, ↓ite_nb2r, ↓lit_m1, ↓lit_m2, lit_0, lit_1, lit_2, lit_3, lit_4, lit_5, lit_6, lit_7, lit_8, lit_9, lit_10, lit_11, lit_12, lit_13, lit_14, lit_15, lit_16, lit_17, lit_18, lit_19, lit_20, lit_21, lit_22, lit_23, lit_24, lit_25, lit_26, lit_27, lit_28, lit_29, lit_30, lit_31, lit_32, lit_33, lit_34, lit_35, lit_36, lit_40, lit_41, lit_42, lit_44, lit_48, lit_57, lit_59, lit_62, lit_63, lit_64, lit_82, lit_98, lit_99, lit_100, lit_101, lit_102, lit_103, lit_104, lit_105, lit_106, lit_107, lit_108, lit_109, lit_110, lit_111, lit_112, lit_113, lit_119, lit_120, lit_127, lit_128, lit_149, lit_150, lit_202, lit_240, lit_262, lit_894, lit_900, lit_999, lit_1000, lit_2000, lit_2662, lit_2663, lit_2695, lit_2701, lit_2702, lit_3602, lit_10806, nI_add, pk_mul, cl_nI, inb_nI, nI_leI, nI_ltI, nI_eq, nI_eq_m1, m1_eq_nI, nI_eq_m2, div_nI, rem_nI, Option.bind_some, b2_0, b2_1, isb_b2, if_true_, if_false_, ↓reduceIte, reduceCtorEq, not_true_eq_false, not_false_eq_true, bt_hasBit, ult, Nat.add_zero, false_and, true_and, and_true, and_false, Nat.reduceLeDiff, Nat.reduceEqDiff, Nat.reduceLT, Bool.toNat_true, Bool.toNat_false, decide_true, decide_false, Bool.not_true, Bool.not_false, Bool.false_and, Bool.true_and, Bool.and_true, Bool.and_false, Bool.or_false, Bool.true_or, Bool.or_true, Bool.false_or, Nat.not_le.mpr hw, hv k w hk hw]
    · subst hσ
      show L_X2_hashOnto_24 g _ (nI k) M (m + 1) _ _ = _
      rw [L_X2_hashOnto_24, show 1 + 6 * k + 6 = 1 + 6 * (k + 1) by omega]
      simp (disch := omega) only [↓ite_b2r, ↓ite_nb2r, ↓lit_m1, ↓lit_m2, lit_0, lit_1, lit_2, lit_3, lit_4, lit_5, lit_6, lit_7, lit_8, lit_9, lit_10, lit_11, lit_12, lit_13, lit_14, lit_15, lit_16, lit_17, lit_18, lit_19, lit_20, lit_21, lit_22, lit_23, lit_24, lit_25, lit_26, lit_27, lit_28, lit_29, lit_30, lit_31, lit_32, lit_33, lit_34, lit_35, lit_36, lit_40, lit_41, lit_42, lit_44, lit_48, lit_57, lit_59, lit_62, lit_63, lit_64, lit_82, lit_98, lit_99, lit_100, lit_101, lit_102, lit_103, lit_104, lit_105, lit_106, lit_107, lit_108, lit_109, lit_110, lit_111, lit_112, lit_113, lit_119, lit_120, lit_127, lit_128, lit_149, lit_150, lit_202, lit_240, lit_262, lit_894, lit_900, lit_999, lit_1000, lit_2000, lit_2662, lit_2663, lit_2695, lit_2701, lit_2702, lit_3602, lit_10806, nI_add, pk_mul, cl_nI, inb_nI, nI_leI, nI_ltI, nI_eq, nI_eq_m1, m1_eq_nI, nI_eq_m2, div_nI, rem_nI, Option.bind_some, b2_0, b2_1, isb_b2, if_true_, if_false_, ↓reduceIte, reduceCtorEq, not_true_eq_false, not_false_eq_true, bt_hasBit, ult, Nat.add_zero, false_and, true_and, and_true, and_false, Nat.reduceLeDiff, Nat.reduceEqDiff, Nat.reduceLT, Bool.toNat_true, Bool.toNat_false, decide_true, decide_false, Bool.not_true, Bool.not_false, Bool.false_and, Bool.true_and, Bool.and_true, Bool.and_false, Bool.or_false, Bool.true_or, Bool.or_true, Bool.false_or, Nat.le_refl]
  · show L_X2_hashOnto_12 g M (n + 1) _ _ = _
    rw [L_X2_hashOnto_12]
    simp (disch := omega) only [↓ite_b2r, ↓ite_nb2r, ↓lit_m1, ↓lit_m2, lit_0, lit_1, lit_2, lit_3, lit_4, lit_5, lit_6, lit_7, lit_8, lit_9, lit_10, lit_11, lit_12, lit_13, lit_14, lit_15, lit_16, lit_17, lit_18, lit_19, lit_20, lit_21, lit_22, lit_23, lit_24, lit_25, lit_26, lit_27, lit_28, lit_29, lit_30, lit_31, lit_32, lit_33, lit_34, lit_35, lit_36, lit_40, lit_41, lit_42, lit_44, lit_48, lit_57, lit_59, lit_62, lit_63, lit_64, lit_82, lit_98, lit_99, lit_100, lit_101, lit_102, lit_103, lit_104, lit_105, lit_106, lit_107, lit_108, lit_109, lit_110, lit_111, lit_112, lit_113, lit_119, lit_120, lit_127, lit_128, lit_149, lit_150, lit_202, lit_240, lit_262, lit_894, lit_900, lit_999, lit_1000, lit_2000, lit_2662, lit_2663, lit_2695, lit_2701, lit_2702, lit_3602, lit_10806, nI_add, pk_mul, cl_nI, inb_nI, nI_leI, nI_ltI, nI_eq, nI_eq_m1, m1_eq_nI, nI_eq_m2, div_nI, rem_nI, Option.bind_some, b2_0, b2_1, isb_b2, if_true_, if_false_, ↓reduceIte, reduceCtorEq, not_true_eq_false, not_false_eq_true, bt_hasBit, ult, Nat.add_zero, false_and, true_and, and_true, and_false, Nat.reduceLeDiff, Nat.reduceEqDiff, Nat.reduceLT, Bool.toNat_true, Bool.toNat_false, decide_true, decide_false, Bool.not_true, Bool.not_false, Bool.false_and, Bool.true_and, Bool.and_true, Bool.and_false, Bool.or_false, Bool.true_or, Bool.or_true, Bool.false_or, e14, Nat.le_refl]
theorem c_digest (hN : WFa N) (h : RD (M.1 0) N) {len n : Nat} (hl : M.1 6 3 1 = nI len) (hs : M.1 6 1 1 = nI n) : f_X8_digest M = some (f_X8_hashed (f_X8_hashed (digH N) (nI len)) (nI n)) := by
  unfold f_X8_digest f_X1_hashOnto
  rw [hl, hs, show M.1 0 0 6 = N 0 from h.2.2.2.2.2.2.1, c_hashSections hN.1.1 h, Option.bind_some, c_hashChecks hN h, Option.bind_some, c_hashQueue hN.1.2.2.2.1 h.2.2.2.2.1, Option.bind_some]
  have key : ∀ y, L_X1_hashOnto_43 0 M FU y 0 = some (hRun (fun j => N (2701 + j)) (hRun (fun j => N (2695 + j)) y 6) (1 + 6 * hn N)) := fun y => by
    refine loop (fun n (σ : Int64 × Int32) => L_X1_hashOnto_43 0 M n σ.1 σ.2) (fun u => (hRun (fun j => N (2695 + j)) y u, nI u)) 6 (fun n u hu => ?_) (fun n => ?_) FU (by decide)
    · show L_X1_hashOnto_43 0 M (n + 1) _ _ = L_X1_hashOnto_43 0 M n _ _
      rw [L_X1_hashOnto_43, hRun_s]
      simp (disch := omega) only [↓ite_b2r, ↓ite_nb2r, ↓lit_m1, ↓lit_m2, lit_0, lit_1, lit_2, lit_3, lit_4, lit_5, lit_6, lit_7, lit_8, lit_9, lit_10, lit_11, lit_12, lit_13, lit_14, lit_15, lit_16, lit_17, lit_18, lit_19, lit_20, lit_21, lit_22, lit_23, lit_24, lit_25, lit_26, lit_27, lit_28, lit_29, lit_30, lit_31, lit_32, lit_33, lit_34, lit_35, lit_36, lit_40, lit_41, lit_42, lit_44, lit_48, lit_57, lit_59, lit_62, lit_63, lit_64, lit_82, lit_98, lit_99, lit_100, lit_101, lit_102, lit_103, lit_104, lit_105, lit_106, lit_107, lit_108, lit_109, lit_110, lit_111, lit_112, lit_113, lit_119, lit_120, lit_127, lit_128, lit_149, lit_150, lit_202, lit_240, lit_262, lit_894, lit_900, lit_999, lit_1000, lit_2000, lit_2662, lit_2663, lit_2695, lit_2701, lit_2702, lit_3602, lit_10806, nI_add, pk_mul, cl_nI, inb_nI, nI_leI, nI_ltI, nI_eq, nI_eq_m1, m1_eq_nI, nI_eq_m2, div_nI, rem_nI, Option.bind_some, b2_0, b2_1, isb_b2, if_true_, if_false_, ↓reduceIte, reduceCtorEq, not_true_eq_false, not_false_eq_true, bt_hasBit, ult, Nat.add_zero, false_and, true_and, and_true, and_false, Nat.reduceLeDiff, Nat.reduceEqDiff, Nat.reduceLT, Bool.toNat_true, Bool.toNat_false, decide_true, decide_false, Bool.not_true, Bool.not_false, Bool.false_and, Bool.true_and, Bool.and_true, Bool.and_false, Bool.or_false, Bool.true_or, Bool.or_true, Bool.false_or, Nat.not_le.mpr hu, h.2.2.2.2.2.2.2 u hu]
    · show L_X1_hashOnto_43 0 M (n + 1) _ _ = _
      rw [L_X1_hashOnto_43]
      simp (disch := omega) only [↓ite_b2r, ↓ite_nb2r, ↓lit_m1, ↓lit_m2, lit_0, lit_1, lit_2, lit_3, lit_4, lit_5, lit_6, lit_7, lit_8, lit_9, lit_10, lit_11, lit_12, lit_13, lit_14, lit_15, lit_16, lit_17, lit_18, lit_19, lit_20, lit_21, lit_22, lit_23, lit_24, lit_25, lit_26, lit_27, lit_28, lit_29, lit_30, lit_31, lit_32, lit_33, lit_34, lit_35, lit_36, lit_40, lit_41, lit_42, lit_44, lit_48, lit_57, lit_59, lit_62, lit_63, lit_64, lit_82, lit_98, lit_99, lit_100, lit_101, lit_102, lit_103, lit_104, lit_105, lit_106, lit_107, lit_108, lit_109, lit_110, lit_111, lit_112, lit_113, lit_119, lit_120, lit_127, lit_128, lit_149, lit_150, lit_202, lit_240, lit_262, lit_894, lit_900, lit_999, lit_1000, lit_2000, lit_2662, lit_2663, lit_2695, lit_2701, lit_2702, lit_3602, lit_10806, nI_add, pk_mul, cl_nI, inb_nI, nI_leI, nI_ltI, nI_eq, nI_eq_m1, m1_eq_nI, nI_eq_m2, div_nI, rem_nI, Option.bind_some, b2_0, b2_1, isb_b2, if_true_, if_false_, ↓reduceIte, reduceCtorEq, not_true_eq_false, not_false_eq_true, bt_hasBit, ult, Nat.add_zero, false_and, true_and, and_true, and_false, Nat.reduceLeDiff, Nat.reduceEqDiff, Nat.reduceLT, Bool.toNat_true, Bool.toNat_false, decide_true, decide_false, Bool.not_true, Bool.not_false, Bool.false_and, Bool.true_and, Bool.and_true, Bool.and_false, Bool.or_false, Bool.true_or, Bool.or_true, Bool.false_or, Nat.le_refl, c_hashHist hN.1.2.2.2.2.2 h.2.2.2.2.2.1]
  rw [key]
  rfl
theorem wrL_wrL (M : Mem) (g : Nat) (v w : Int64) : wrL (wrL M g v) g w = wrL M g w := by
  unfold wrL
  refine Prod.ext rfl ?_
  funext g'
  by_cases h : g' = g
  · dsimp only; rw [if_pos h, if_pos h]
  · dsimp only; rw [if_neg h, if_neg h, if_neg h]
theorem wrL_g (M : Mem) (g : Nat) (v : Int64) : (wrL M g v).2 g = v := by
  show (if g = g then v else M.2 g) = v
  rw [if_pos rfl]
theorem m_mix (M : Mem) (h : Int64) (x : Int32) : f_X9_mix x (wrL M 7 h) = some (wrL M 7 (f_X8_hashed h x)) := by
  unfold f_X9_mix f_X8_hashed
  rw [wrL_g, wrL_wrL]
theorem m_mixAll (M : Mem) (h : Int64) {a n : Nat} (han : a + n ≤ 3602) : f_X9_mixAll (nI a) (nI n) (wrL M 7 h) = some (wrL M 7 (hRun (fun j => M.1 7 1 (a + j)) h n)) := by
  unfold f_X9_mixAll
  refine loop0 (fun m (σ : Int32 × Mem) => L_X9_mixAll_2 (nI a) (nI n) m σ.1 σ.2) (fun i => (nI (a + i), wrL M 7 (hRun (fun j => M.1 7 1 (a + j)) h i))) n (nI a, wrL M 7 h) rfl (fun m i hi => ?_) (fun m => ?_) FU (FU_lt (by omega))
  · show L_X9_mixAll_2 (nI a) (nI n) (m + 1) _ _ = L_X9_mixAll_2 (nI a) (nI n) m _ _
    rw [L_X9_mixAll_2, hRun_s]
    simp (disch := omega) only [↓ite_b2r, ↓ite_nb2r, ↓lit_m1, ↓lit_m2, lit_0, lit_1, lit_2, lit_3, lit_4, lit_5, lit_6, lit_7, lit_8, lit_9, lit_10, lit_11, lit_12, lit_13, lit_14, lit_15, lit_16, lit_17, lit_18, lit_19, lit_20, lit_21, lit_22, lit_23, lit_24, lit_25, lit_26, lit_27, lit_28, lit_29, lit_30, lit_31, lit_32, lit_33, lit_34, lit_35, lit_36, lit_40, lit_41, lit_42, lit_44, lit_48, lit_57, lit_59, lit_62, lit_63, lit_64, lit_82, lit_98, lit_99, lit_100, lit_101, lit_102, lit_103, lit_104, lit_105, lit_106, lit_107, lit_108, lit_109, lit_110, lit_111, lit_112, lit_113, lit_119, lit_120, lit_127, lit_128, lit_149, lit_150, lit_202, lit_240, lit_262, lit_894, lit_900, lit_999, lit_1000, lit_2000, lit_2662, lit_2663, lit_2695, lit_2701, lit_2702, lit_3602, lit_10806, nI_add, pk_mul, cl_nI, inb_nI, nI_leI, nI_ltI, nI_eq, nI_eq_m1, m1_eq_nI, nI_eq_m2, div_nI, rem_nI, Option.bind_some, b2_0, b2_1, isb_b2, if_true_, if_false_, ↓reduceIte, reduceCtorEq, not_true_eq_false, not_false_eq_true, bt_hasBit, ult, Nat.add_zero, false_and, true_and, and_true, and_false, Nat.reduceLeDiff, Nat.reduceEqDiff, Nat.reduceLT, Bool.toNat_true, Bool.toNat_false, decide_true, decide_false, Bool.not_true, Bool.not_false, Bool.false_and, Bool.true_and, Bool.and_true, Bool.and_false, Bool.or_false, Bool.true_or, Bool.or_true, Bool.false_or, show ¬ a + n ≤ a + i by omega, m_mix, wrL_1] <;> rfl
  · show L_X9_mixAll_2 (nI a) (nI n) (m + 1) _ _ = _
    rw [L_X9_mixAll_2]
    simp (disch := omega) only [↓ite_b2r, ↓ite_nb2r, ↓lit_m1, ↓lit_m2, lit_0, lit_1, lit_2, lit_3, lit_4, lit_5, lit_6, lit_7, lit_8, lit_9, lit_10, lit_11, lit_12, lit_13, lit_14, lit_15, lit_16, lit_17, lit_18, lit_19, lit_20, lit_21, lit_22, lit_23, lit_24, lit_25, lit_26, lit_27, lit_28, lit_29, lit_30, lit_31, lit_32, lit_33, lit_34, lit_35, lit_36, lit_40, lit_41, lit_42, lit_44, lit_48, lit_57, lit_59, lit_62, lit_63, lit_64, lit_82, lit_98, lit_99, lit_100, lit_101, lit_102, lit_103, lit_104, lit_105, lit_106, lit_107, lit_108, lit_109, lit_110, lit_111, lit_112, lit_113, lit_119, lit_120, lit_127, lit_128, lit_149, lit_150, lit_202, lit_240, lit_262, lit_894, lit_900, lit_999, lit_1000, lit_2000, lit_2662, lit_2663, lit_2695, lit_2701, lit_2702, lit_3602, lit_10806, nI_add, pk_mul, cl_nI, inb_nI, nI_leI, nI_ltI, nI_eq, nI_eq_m1, m1_eq_nI, nI_eq_m2, div_nI, rem_nI, Option.bind_some, b2_0, b2_1, isb_b2, if_true_, if_false_, ↓reduceIte, reduceCtorEq, not_true_eq_false, not_false_eq_true, bt_hasBit, ult, Nat.add_zero, false_and, true_and, and_true, and_false, Nat.reduceLeDiff, Nat.reduceEqDiff, Nat.reduceLT, Bool.toNat_true, Bool.toNat_false, decide_true, decide_false, Bool.not_true, Bool.not_false, Bool.false_and, Bool.true_and, Bool.and_true, Bool.and_false, Bool.or_false, Bool.true_or, Bool.or_true, Bool.false_or, Nat.le_refl]
theorem m_mixSection {M : Mem} (h1 : M.1 7 1 = N) (hN : WFt N) {s : Nat} (hs : s < 20) (h : Int64) : f_X9_mixSection (nI s) (wrL M 7 h) = some (wrL M 7 (secH N s h)) := by
  have hle := chMany_le N s
  have hcm : ∀ h, f_X9_childMany (nI s) (wrL M 7 h) = some (nI (chMany N s)) := fun h => by
    have := m_childMany (M := wrL M 7 h) (by rw [wrL_1, h1]; exact hN) hs
    rw [wrL_1, h1] at this
    exact this
  have hca : ∀ h x, f_X9_childAt (nI s) x (wrL M 7 h) = some (chAt N s x 20) := fun h x => by
    have := m_childAt (M := wrL M 7 h) (by rw [wrL_1, h1]; exact hN) hs x
    rw [wrL_1, h1] at this
    exact this
  unfold f_X9_mixSection secH
  rw [m_mix, Option.bind_some]
  simp (disch := omega) only [↓ite_b2r, ↓ite_nb2r, ↓lit_m1, ↓lit_m2, lit_0, lit_1, lit_2, lit_3, lit_4, lit_5, lit_6, lit_7, lit_8, lit_9, lit_10, lit_11, lit_12, lit_13, lit_14, lit_15, lit_16, lit_17, lit_18, lit_19, lit_20, lit_21, lit_22, lit_23, lit_24, lit_25, lit_26, lit_27, lit_28, lit_29, lit_30, lit_31, lit_32, lit_33, lit_34, lit_35, lit_36, lit_40, lit_41, lit_42, lit_44, lit_48, lit_57, lit_59, lit_62, lit_63, lit_64, lit_82, lit_98, lit_99, lit_100, lit_101, lit_102, lit_103, lit_104, lit_105, lit_106, lit_107, lit_108, lit_109, lit_110, lit_111, lit_112, lit_113, lit_119, lit_120, lit_127, lit_128, lit_149, lit_150, lit_202, lit_240, lit_262, lit_894, lit_900, lit_999, lit_1000, lit_2000, lit_2662, lit_2663, lit_2695, lit_2701, lit_2702, lit_3602, lit_10806, nI_add, pk_mul, cl_nI, inb_nI, nI_leI, nI_ltI, nI_eq, nI_eq_m1, m1_eq_nI, nI_eq_m2, div_nI, rem_nI, Option.bind_some, b2_0, b2_1, isb_b2, if_true_, if_false_, ↓reduceIte, reduceCtorEq, not_true_eq_false, not_false_eq_true, bt_hasBit, ult, Nat.add_zero, false_and, true_and, and_true, and_false, Nat.reduceLeDiff, Nat.reduceEqDiff, Nat.reduceLT, Bool.toNat_true, Bool.toNat_false, decide_true, decide_false, Bool.not_true, Bool.not_false, Bool.false_and, Bool.true_and, Bool.and_true, Bool.and_false, Bool.or_false, Bool.true_or, Bool.or_true, Bool.false_or]
  rw [wrL_1, h1, m_mix, Option.bind_some, wrL_1, h1, m_mix, Option.bind_some, hcm, Option.bind_some, m_mix, Option.bind_some]
  generalize f_X8_hashed (f_X8_hashed (f_X8_hashed (f_X8_hashed h (nI s)) (N (22 + s))) (N (62 + s))) (nI (chMany N s)) = y
  refine loop0 (fun n (σ : Int32 × Mem) => L_X9_mixSection_42 (nI s) n σ.1 σ.2) (fun j => (nI j, wrL M 7 (hRun (fun j => chAt N s (nI j) 20) y j))) (chMany N s) (nI 0, wrL M 7 y) rfl (fun n j hj => ?_) (fun n => ?_) FU (FU_lt (by omega))
  · show L_X9_mixSection_42 (nI s) (n + 1) _ _ = L_X9_mixSection_42 (nI s) n _ _
    rw [L_X9_mixSection_42, hRun_s]
    dsimp only
    generalize hRun (fun j => chAt N s (nI j) 20) y j = z
    rw [hcm, Option.bind_some, if_neg (show ¬ nI (chMany N s) ≤ nI j from fun w => by rw [nI_leI (by omega) (by omega)] at w; omega), hca, Option.bind_some, m_mix, Option.bind_some, nI_1]
  · show L_X9_mixSection_42 (nI s) (n + 1) _ _ = _
    rw [L_X9_mixSection_42]
    dsimp only
    generalize hRun (fun j => chAt N s (nI j) 20) y (chMany N s) = z
    have := m_mixAll M z (a := 82 + 6 * s) (n := 6) (by omega)
    rw [h1] at this
    rw [hcm, Option.bind_some, if_pos (Int32.le_refl _)]
    simp (disch := omega) only [↓ite_b2r, ↓ite_nb2r, ↓lit_m1, ↓lit_m2, lit_0, lit_1, lit_2, lit_3, lit_4, lit_5, lit_6, lit_7, lit_8, lit_9, lit_10, lit_11, lit_12, lit_13, lit_14, lit_15, lit_16, lit_17, lit_18, lit_19, lit_20, lit_21, lit_22, lit_23, lit_24, lit_25, lit_26, lit_27, lit_28, lit_29, lit_30, lit_31, lit_32, lit_33, lit_34, lit_35, lit_36, lit_40, lit_41, lit_42, lit_44, lit_48, lit_57, lit_59, lit_62, lit_63, lit_64, lit_82, lit_98, lit_99, lit_100, lit_101, lit_102, lit_103, lit_104, lit_105, lit_106, lit_107, lit_108, lit_109, lit_110, lit_111, lit_112, lit_113, lit_119, lit_120, lit_127, lit_128, lit_149, lit_150, lit_202, lit_240, lit_262, lit_894, lit_900, lit_999, lit_1000, lit_2000, lit_2662, lit_2663, lit_2695, lit_2701, lit_2702, lit_3602, lit_10806, nI_add, pk_mul, cl_nI, inb_nI, nI_leI, nI_ltI, nI_eq, nI_eq_m1, m1_eq_nI, nI_eq_m2, div_nI, rem_nI, Option.bind_some, b2_0, b2_1, isb_b2, if_true_, if_false_, ↓reduceIte, reduceCtorEq, not_true_eq_false, not_false_eq_true, bt_hasBit, ult, Nat.add_zero, false_and, true_and, and_true, and_false, Nat.reduceLeDiff, Nat.reduceEqDiff, Nat.reduceLT, Bool.toNat_true, Bool.toNat_false, decide_true, decide_false, Bool.not_true, Bool.not_false, Bool.false_and, Bool.true_and, Bool.and_true, Bool.and_false, Bool.or_false, Bool.true_or, Bool.or_true, Bool.false_or, this]
theorem m_mixCheck {M : Mem} (h1 : M.1 7 1 = N) (hN : WFa N) {c : Nat} (hc : c < 10) (hk : ck N c = true) (h : Int64) : f_X9_mixCheck (nI c) (wrL M 7 h) = some (wrL M 7 (chkH N c h)) := by
  unfold f_X9_mixCheck f_X9_check chkH
  have e5 := m_mixAll M (f_X8_hashed h (nI c)) (a := 202 + 6 * c + 1) (n := 5) (by omega)
  rw [h1] at e5
  rw [m_mix, Option.bind_some]
  generalize f_X8_hashed h (nI c) = w at e5 ⊢
  simp (disch := omega) only [↓ite_b2r, ↓ite_nb2r, ↓lit_m1, ↓lit_m2, lit_0, lit_1, lit_2, lit_3, lit_4, lit_5, lit_6, lit_7, lit_8, lit_9, lit_10, lit_11, lit_12, lit_13, lit_14, lit_15, lit_16, lit_17, lit_18, lit_19, lit_20, lit_21, lit_22, lit_23, lit_24, lit_25, lit_26, lit_27, lit_28, lit_29, lit_30, lit_31, lit_32, lit_33, lit_34, lit_35, lit_36, lit_40, lit_41, lit_42, lit_44, lit_48, lit_57, lit_59, lit_62, lit_63, lit_64, lit_82, lit_98, lit_99, lit_100, lit_101, lit_102, lit_103, lit_104, lit_105, lit_106, lit_107, lit_108, lit_109, lit_110, lit_111, lit_112, lit_113, lit_119, lit_120, lit_127, lit_128, lit_149, lit_150, lit_202, lit_240, lit_262, lit_894, lit_900, lit_999, lit_1000, lit_2000, lit_2662, lit_2663, lit_2695, lit_2701, lit_2702, lit_3602, lit_10806, nI_add, pk_mul, cl_nI, inb_nI, nI_leI, nI_ltI, nI_eq, nI_eq_m1, m1_eq_nI, nI_eq_m2, div_nI, rem_nI, Option.bind_some, b2_0, b2_1, isb_b2, if_true_, if_false_, ↓reduceIte, reduceCtorEq, not_true_eq_false, not_false_eq_true, bt_hasBit, ult, Nat.add_zero, false_and, true_and, and_true, and_false, Nat.reduceLeDiff, Nat.reduceEqDiff, Nat.reduceLT, Bool.toNat_true, Bool.toNat_false, decide_true, decide_false, Bool.not_true, Bool.not_false, Bool.false_and, Bool.true_and, Bool.and_true, Bool.and_false, Bool.or_false, Bool.true_or, Bool.or_true, Bool.false_or, e5]
  generalize hRun (fun j => N (202 + 6 * c + 1 + j)) w 5 = y
  refine loop0 (fun n (σ : Int32 × Mem) => L_X9_mixCheck_17 (nI c) n σ.1 σ.2) (fun s => (nI s, wrL M 7 (cpyH N c y s))) 20 (nI 0, wrL M 7 y) rfl (fun n s hs => ?_) (fun n => ?_) FU (by decide)
  · show L_X9_mixCheck_17 (nI c) (n + 1) _ _ = L_X9_mixCheck_17 (nI c) n _ _
    rw [L_X9_mixCheck_17, cpyH]
    unfold B_X9_mixCheck_57 cop
    dsimp only
    generalize cpyH N c y s = z
    cases hu : us N s with
    | false =>
      simp (disch := omega) only [↓ite_b2r, ↓ite_nb2r, ↓lit_m1, ↓lit_m2, lit_0, lit_1, lit_2, lit_3, lit_4, lit_5, lit_6, lit_7, lit_8, lit_9, lit_10, lit_11, lit_12, lit_13, lit_14, lit_15, lit_16, lit_17, lit_18, lit_19, lit_20, lit_21, lit_22, lit_23, lit_24, lit_25, lit_26, lit_27, lit_28, lit_29, lit_30, lit_31, lit_32, lit_33, lit_34, lit_35, lit_36, lit_40, lit_41, lit_42, lit_44, lit_48, lit_57, lit_59, lit_62, lit_63, lit_64, lit_82, lit_98, lit_99, lit_100, lit_101, lit_102, lit_103, lit_104, lit_105, lit_106, lit_107, lit_108, lit_109, lit_110, lit_111, lit_112, lit_113, lit_119, lit_120, lit_127, lit_128, lit_149, lit_150, lit_202, lit_240, lit_262, lit_894, lit_900, lit_999, lit_1000, lit_2000, lit_2662, lit_2663, lit_2695, lit_2701, lit_2702, lit_3602, lit_10806, nI_add, pk_mul, cl_nI, inb_nI, nI_leI, nI_ltI, nI_eq, nI_eq_m1, m1_eq_nI, nI_eq_m2, div_nI, rem_nI, Option.bind_some, b2_0, b2_1, isb_b2, if_true_, if_false_, ↓reduceIte, reduceCtorEq, not_true_eq_false, not_false_eq_true, bt_hasBit, ult, Nat.add_zero, false_and, true_and, and_true, and_false, Nat.reduceLeDiff, Nat.reduceEqDiff, Nat.reduceLT, Bool.toNat_true, Bool.toNat_false, decide_true, decide_false, Bool.not_true, Bool.not_false, Bool.false_and, Bool.true_and, Bool.and_true, Bool.and_false, Bool.or_false, Bool.true_or, Bool.or_true, Bool.false_or, Nat.not_le.mpr hs, m_isSection, wrL_1, h1, isS_nI hs, hu] <;> rfl
    | true =>
      have hin := m_isIn (M := wrL M 7 z) (by rw [wrL_1, h1]; exact hN.1.1) hs (by rw [wrL_1, h1]; exact hu) (sec_lt hN.1.2.1 hc hk)
      rw [wrL_1, h1] at hin
      cases ha : An N s (sec N c) with
      | false =>
        rw [ha] at hin
        simp (disch := omega) only [↓ite_b2r, ↓ite_nb2r, ↓lit_m1, ↓lit_m2, lit_0, lit_1, lit_2, lit_3, lit_4, lit_5, lit_6, lit_7, lit_8, lit_9, lit_10, lit_11, lit_12, lit_13, lit_14, lit_15, lit_16, lit_17, lit_18, lit_19, lit_20, lit_21, lit_22, lit_23, lit_24, lit_25, lit_26, lit_27, lit_28, lit_29, lit_30, lit_31, lit_32, lit_33, lit_34, lit_35, lit_36, lit_40, lit_41, lit_42, lit_44, lit_48, lit_57, lit_59, lit_62, lit_63, lit_64, lit_82, lit_98, lit_99, lit_100, lit_101, lit_102, lit_103, lit_104, lit_105, lit_106, lit_107, lit_108, lit_109, lit_110, lit_111, lit_112, lit_113, lit_119, lit_120, lit_127, lit_128, lit_149, lit_150, lit_202, lit_240, lit_262, lit_894, lit_900, lit_999, lit_1000, lit_2000, lit_2662, lit_2663, lit_2695, lit_2701, lit_2702, lit_3602, lit_10806, nI_add, pk_mul, cl_nI, inb_nI, nI_leI, nI_ltI, nI_eq, nI_eq_m1, m1_eq_nI, nI_eq_m2, div_nI, rem_nI, Option.bind_some, b2_0, b2_1, isb_b2, if_true_, if_false_, ↓reduceIte, reduceCtorEq, not_true_eq_false, not_false_eq_true, bt_hasBit, ult, Nat.add_zero, false_and, true_and, and_true, and_false, Nat.reduceLeDiff, Nat.reduceEqDiff, Nat.reduceLT, Bool.toNat_true, Bool.toNat_false, decide_true, decide_false, Bool.not_true, Bool.not_false, Bool.false_and, Bool.true_and, Bool.and_true, Bool.and_false, Bool.or_false, Bool.true_or, Bool.or_true, Bool.false_or, Nat.not_le.mpr hs, m_isSection, wrL_1, h1, isS_nI hs, hu, m_get, sec_eq hN.1.2.1 hc hk, hin] <;> rfl
      | true =>
        rw [ha] at hin
        have e12 := m_mixAll M z (a := 262 + 240 * c + 12 * s) (n := 12) (by omega)
        rw [h1] at e12
        unfold f_X9_copy
        simp (disch := omega) only [↓ite_b2r, ↓ite_nb2r, ↓lit_m1, ↓lit_m2, lit_0, lit_1, lit_2, lit_3, lit_4, lit_5, lit_6, lit_7, lit_8, lit_9, lit_10, lit_11, lit_12, lit_13, lit_14, lit_15, lit_16, lit_17, lit_18, lit_19, lit_20, lit_21, lit_22, lit_23, lit_24, lit_25, lit_26, lit_27, lit_28, lit_29, lit_30, lit_31, lit_32, lit_33, lit_34, lit_35, lit_36, lit_40, lit_41, lit_42, lit_44, lit_48, lit_57, lit_59, lit_62, lit_63, lit_64, lit_82, lit_98, lit_99, lit_100, lit_101, lit_102, lit_103, lit_104, lit_105, lit_106, lit_107, lit_108, lit_109, lit_110, lit_111, lit_112, lit_113, lit_119, lit_120, lit_127, lit_128, lit_149, lit_150, lit_202, lit_240, lit_262, lit_894, lit_900, lit_999, lit_1000, lit_2000, lit_2662, lit_2663, lit_2695, lit_2701, lit_2702, lit_3602, lit_10806, nI_add, pk_mul, cl_nI, inb_nI, nI_leI, nI_ltI, nI_eq, nI_eq_m1, m1_eq_nI, nI_eq_m2, div_nI, rem_nI, Option.bind_some, b2_0, b2_1, isb_b2, if_true_, if_false_, ↓reduceIte, reduceCtorEq, not_true_eq_false, not_false_eq_true, bt_hasBit, ult, Nat.add_zero, false_and, true_and, and_true, and_false, Nat.reduceLeDiff, Nat.reduceEqDiff, Nat.reduceLT, Bool.toNat_true, Bool.toNat_false, decide_true, decide_false, Bool.not_true, Bool.not_false, Bool.false_and, Bool.true_and, Bool.and_true, Bool.and_false, Bool.or_false, Bool.true_or, Bool.or_true, Bool.false_or, Nat.not_le.mpr hs, m_isSection, wrL_1, h1, isS_nI hs, hu, m_get, sec_eq hN.1.2.1 hc hk, hin, e12, Nat.mul_zero]
  · show L_X9_mixCheck_17 (nI c) (n + 1) _ _ = _
    rw [L_X9_mixCheck_17]
    simp (disch := omega) only [↓ite_b2r, ↓ite_nb2r, ↓lit_m1, ↓lit_m2, lit_0, lit_1, lit_2, lit_3, lit_4, lit_5, lit_6, lit_7, lit_8, lit_9, lit_10, lit_11, lit_12, lit_13, lit_14, lit_15, lit_16, lit_17, lit_18, lit_19, lit_20, lit_21, lit_22, lit_23, lit_24, lit_25, lit_26, lit_27, lit_28, lit_29, lit_30, lit_31, lit_32, lit_33, lit_34, lit_35, lit_36, lit_40, lit_41, lit_42, lit_44, lit_48, lit_57, lit_59, lit_62, lit_63, lit_64, lit_82, lit_98, lit_99, lit_100, lit_101, lit_102, lit_103, lit_104, lit_105, lit_106, lit_107, lit_108, lit_109, lit_110, lit_111, lit_112, lit_113, lit_119, lit_120, lit_127, lit_128, lit_149, lit_150, lit_202, lit_240, lit_262, lit_894, lit_900, lit_999, lit_1000, lit_2000, lit_2662, lit_2663, lit_2695, lit_2701, lit_2702, lit_3602, lit_10806, nI_add, pk_mul, cl_nI, inb_nI, nI_leI, nI_ltI, nI_eq, nI_eq_m1, m1_eq_nI, nI_eq_m2, div_nI, rem_nI, Option.bind_some, b2_0, b2_1, isb_b2, if_true_, if_false_, ↓reduceIte, reduceCtorEq, not_true_eq_false, not_false_eq_true, bt_hasBit, ult, Nat.add_zero, false_and, true_and, and_true, and_false, Nat.reduceLeDiff, Nat.reduceEqDiff, Nat.reduceLT, Bool.toNat_true, Bool.toNat_false, decide_true, decide_false, Bool.not_true, Bool.not_false, Bool.false_and, Bool.true_and, Bool.and_true, Bool.and_false, Bool.or_false, Bool.true_or, Bool.or_true, Bool.false_or, Nat.le_refl]
theorem m_tail1 {M : Mem} (h1 : M.1 7 1 = N) (hw : wq N ≤ 8) (y z1 : Int64) (g1 : hRun (fun j => N (2662 + j)) y (1 + 4 * wq N) = z1) : f_X9_mixAll (nI 2662) (nI (1 + 4 * wq N)) (wrL M 7 y) = some (wrL M 7 z1) := by
  have a1 := m_mixAll M y (a := 2662) (n := 1 + 4 * wq N) (by omega)
  rw [h1, g1] at a1
  exact a1
theorem m_tail2 {M : Mem} (h1 : M.1 7 1 = N) (y z1 : Int64) (g1 : hRun (fun j => N (2695 + j)) y 6 = z1) : f_X9_mixAll (nI 2695) (nI 6) (wrL M 7 y) = some (wrL M 7 z1) := by
  have a1 := m_mixAll M y (a := 2695) (n := 6) (by omega)
  rw [h1, g1] at a1
  exact a1
theorem m_tail3 {M : Mem} (h1 : M.1 7 1 = N) (hw : hn N < 151) (y z1 : Int64) (g1 : hRun (fun j => N (2701 + j)) y (1 + 6 * hn N) = z1) : f_X9_mixAll (nI 2701) (nI (1 + 6 * hn N)) (wrL M 7 y) = some (wrL M 7 z1) := by
  have a1 := m_mixAll M y (a := 2701) (n := 1 + 6 * hn N) (by omega)
  rw [h1, g1] at a1
  exact a1
theorem m_tail4 {Y Z1 Z2 Z3 Z4 Z5 : Mem} {w hh len m n : Nat} {z5 : Int64} (hw : w ≤ 8) (hl2 : hh < 151) (ew : f_X9_waits Y = some (nI w)) (a1 : f_X9_mixAll (nI 2662) (nI (1 + 4 * w)) Y = some Z1) (a2 : f_X9_mixAll (nI 2695) (nI 6) Z1 = some Z2) (d1 : Z2.1 7 1 2701 = nI hh) (a3 : f_X9_mixAll (nI 2701) (nI (1 + 6 * hh)) Z2 = some Z3) (d2 : Z3.1 7 0 6 = nI len) (b1 : f_X9_mix (nI len) Z3 = some Z4) (d3 : Z4.1 7 0 3 = nI m) (b2' : f_X9_mix (nI m) Z4 = some Z5) (d4 : Z5.2 7 = z5) : L_X9_digest_51 (n + 1) (nI 10) Y = some (z5, Z5) := by
  rw [L_X9_digest_51, if_pos (show (10 : Int32) ≤ nI 10 from Int32.le_refl _)]
  have l1 : ∀ a b : Nat, (1 : Int32) + nI a * nI b = nI (1 + a * b) := fun a b => by rw [pk_mul, show (1 : Int32) = nI 1 from rfl, nI_add]
  have l2 : f_X9_mixAll (2662 : Int32) ((1 : Int32) + nI 4 * nI w) Y = some Z1 := by rw [l1]; exact a1
  have l3 : f_X9_mixAll (2695 : Int32) (6 : Int32) Z1 = some Z2 := a2
  have l4 : f_X9_mixAll (2701 : Int32) ((1 : Int32) + nI 6 * nI hh) Z2 = some Z3 := by rw [l1]; exact a3
  have e2 : cl (2701 : Int32) = 2701 := cl_nI (n := 2701) (by omega)
  have l2' : f_X9_mixAll (2662 : Int32) ((1 : Int32) + (4 : Int32) * nI w) Y = some Z1 := l2
  have l4' : f_X9_mixAll (2701 : Int32) ((1 : Int32) + (6 : Int32) * nI hh) Z2 = some Z3 := l4
  rw [ew, Option.bind_some, l2', Option.bind_some, l3, Option.bind_some, e2, d1, l4', Option.bind_some, d2, b1, Option.bind_some, d3, b2', Option.bind_some, d4]
theorem m_tail {M : Mem} (h1 : M.1 7 1 = N) (hN : WFa N) {len m : Nat} (hl : M.1 7 0 6 = nI len) (hs : M.1 7 0 3 = nI m) (y z1 z2 z3 z4 z5 : Int64) (g1 : hRun (fun j => N (2662 + j)) y (1 + 4 * wq N) = z1) (g2 : hRun (fun j => N (2695 + j)) z1 6 = z2) (g3 : hRun (fun j => N (2701 + j)) z2 (1 + 6 * hn N) = z3) (g4 : f_X8_hashed z3 (nI len) = z4) (g5 : f_X8_hashed z4 (nI m) = z5) (n : Nat) : L_X9_digest_51 (n + 1) (nI 10) (wrL M 7 y) = some (z5, wrL M 7 z5) := by
  have hq8 := wq_le hN.1.2.2.2.1
  have hl2 : hn N < 151 := hN.1.2.2.2.2.2.1.2
  have e27 : N 2701 = nI (hn N) := hN.1.2.2.2.2.2.1.1
  have e26 : N 2662 = nI (wq N) := wq_eq hN.1.2.2.2.1
  have ew : f_X9_waits (wrL M 7 y) = some (nI (wq N)) := by
    unfold f_X9_waits
    rw [wrL_1, h1]
    simp (disch := omega) only [↓ite_b2r, ↓ite_nb2r, ↓lit_m1, ↓lit_m2, lit_0, lit_1, lit_2, lit_3, lit_4, lit_5, lit_6, lit_7, lit_8, lit_9, lit_10, lit_11, lit_12, lit_13, lit_14, lit_15, lit_16, lit_17, lit_18, lit_19, lit_20, lit_21, lit_22, lit_23, lit_24, lit_25, lit_26, lit_27, lit_28, lit_29, lit_30, lit_31, lit_32, lit_33, lit_34, lit_35, lit_36, lit_40, lit_41, lit_42, lit_44, lit_48, lit_57, lit_59, lit_62, lit_63, lit_64, lit_82, lit_98, lit_99, lit_100, lit_101, lit_102, lit_103, lit_104, lit_105, lit_106, lit_107, lit_108, lit_109, lit_110, lit_111, lit_112, lit_113, lit_119, lit_120, lit_127, lit_128, lit_149, lit_150, lit_202, lit_240, lit_262, lit_894, lit_900, lit_999, lit_1000, lit_2000, lit_2662, lit_2663, lit_2695, lit_2701, lit_2702, lit_3602, lit_10806, nI_add, pk_mul, cl_nI, inb_nI, nI_leI, nI_ltI, nI_eq, nI_eq_m1, m1_eq_nI, nI_eq_m2, div_nI, rem_nI, Option.bind_some, b2_0, b2_1, isb_b2, if_true_, if_false_, ↓reduceIte, reduceCtorEq, not_true_eq_false, not_false_eq_true, bt_hasBit, ult, Nat.add_zero, false_and, true_and, and_true, and_false, Nat.reduceLeDiff, Nat.reduceEqDiff, Nat.reduceLT, Bool.toNat_true, Bool.toNat_false, decide_true, decide_false, Bool.not_true, Bool.not_false, Bool.false_and, Bool.true_and, Bool.and_true, Bool.and_false, Bool.or_false, Bool.true_or, Bool.or_true, Bool.false_or, e26]
  refine m_tail4 (Z2 := wrL M 7 z2) hq8 hl2 ew (m_tail1 h1 hq8 y z1 g1) (m_tail2 h1 z1 z2 g2) (by rw [wrL_1, h1]; exact e27) (m_tail3 h1 hl2 z2 z3 g3) (by rw [wrL_1]; exact hl) (by rw [m_mix, g4]) (by rw [wrL_1]; exact hs) (by rw [m_mix, g5]) (wrL_g _ _ _)
theorem m_dig51 {M : Mem} (h1 : M.1 7 1 = N) (hN : WFa N) (y : Int64) (R : Option (Int64 × Mem)) (hR : ∀ n, L_X9_digest_51 (n + 1) (nI 10) (wrL M 7 (chksH N y 10)) = R) : L_X9_digest_51 FU 0 (wrL M 7 y) = R := by
  refine loop0 (fun n (σ : Int32 × Mem) => L_X9_digest_51 n σ.1 σ.2) (fun c => (nI c, wrL M 7 (chksH N y c))) 10 (nI 0, wrL M 7 y) rfl (fun n c hc => ?_) (fun n => hR n) FU (by decide)
  show L_X9_digest_51 (n + 1) _ _ = L_X9_digest_51 n _ _
  rw [L_X9_digest_51, chksH]
  unfold B_X9_digest_70
  dsimp only
  generalize chksH N y c = z
  cases hk : ck N c with
  | false =>
    simp (disch := omega) only [↓ite_b2r, ↓ite_nb2r, ↓lit_m1, ↓lit_m2, lit_0, lit_1, lit_2, lit_3, lit_4, lit_5, lit_6, lit_7, lit_8, lit_9, lit_10, lit_11, lit_12, lit_13, lit_14, lit_15, lit_16, lit_17, lit_18, lit_19, lit_20, lit_21, lit_22, lit_23, lit_24, lit_25, lit_26, lit_27, lit_28, lit_29, lit_30, lit_31, lit_32, lit_33, lit_34, lit_35, lit_36, lit_40, lit_41, lit_42, lit_44, lit_48, lit_57, lit_59, lit_62, lit_63, lit_64, lit_82, lit_98, lit_99, lit_100, lit_101, lit_102, lit_103, lit_104, lit_105, lit_106, lit_107, lit_108, lit_109, lit_110, lit_111, lit_112, lit_113, lit_119, lit_120, lit_127, lit_128, lit_149, lit_150, lit_202, lit_240, lit_262, lit_894, lit_900, lit_999, lit_1000, lit_2000, lit_2662, lit_2663, lit_2695, lit_2701, lit_2702, lit_3602, lit_10806, nI_add, pk_mul, cl_nI, inb_nI, nI_leI, nI_ltI, nI_eq, nI_eq_m1, m1_eq_nI, nI_eq_m2, div_nI, rem_nI, Option.bind_some, b2_0, b2_1, isb_b2, if_true_, if_false_, ↓reduceIte, reduceCtorEq, not_true_eq_false, not_false_eq_true, bt_hasBit, ult, Nat.add_zero, false_and, true_and, and_true, and_false, Nat.reduceLeDiff, Nat.reduceEqDiff, Nat.reduceLT, Bool.toNat_true, Bool.toNat_false, decide_true, decide_false, Bool.not_true, Bool.not_false, Bool.false_and, Bool.true_and, Bool.and_true, Bool.and_false, Bool.or_false, Bool.true_or, Bool.or_true, Bool.false_or, Nat.not_le.mpr hc, m_isCheck, wrL_1, h1, isC_nI hc, hk] <;> rfl
  | true =>
    simp (disch := omega) only [↓ite_b2r, ↓ite_nb2r, ↓lit_m1, ↓lit_m2, lit_0, lit_1, lit_2, lit_3, lit_4, lit_5, lit_6, lit_7, lit_8, lit_9, lit_10, lit_11, lit_12, lit_13, lit_14, lit_15, lit_16, lit_17, lit_18, lit_19, lit_20, lit_21, lit_22, lit_23, lit_24, lit_25, lit_26, lit_27, lit_28, lit_29, lit_30, lit_31, lit_32, lit_33, lit_34, lit_35, lit_36, lit_40, lit_41, lit_42, lit_44, lit_48, lit_57, lit_59, lit_62, lit_63, lit_64, lit_82, lit_98, lit_99, lit_100, lit_101, lit_102, lit_103, lit_104, lit_105, lit_106, lit_107, lit_108, lit_109, lit_110, lit_111, lit_112, lit_113, lit_119, lit_120, lit_127, lit_128, lit_149, lit_150, lit_202, lit_240, lit_262, lit_894, lit_900, lit_999, lit_1000, lit_2000, lit_2662, lit_2663, lit_2695, lit_2701, lit_2702, lit_3602, lit_10806, nI_add, pk_mul, cl_nI, inb_nI, nI_leI, nI_ltI, nI_eq, nI_eq_m1, m1_eq_nI, nI_eq_m2, div_nI, rem_nI, Option.bind_some, b2_0, b2_1, isb_b2, if_true_, if_false_, ↓reduceIte, reduceCtorEq, not_true_eq_false, not_false_eq_true, bt_hasBit, ult, Nat.add_zero, false_and, true_and, and_true, and_false, Nat.reduceLeDiff, Nat.reduceEqDiff, Nat.reduceLT, Bool.toNat_true, Bool.toNat_false, decide_true, decide_false, Bool.not_true, Bool.not_false, Bool.false_and, Bool.true_and, Bool.and_true, Bool.and_false, Bool.or_false, Bool.true_or, Bool.or_true, Bool.false_or, Nat.not_le.mpr hc, m_isCheck, wrL_1, h1, isC_nI hc, hk, m_mixCheck h1 hN hc hk]
theorem m_digest {M : Mem} (h1 : M.1 7 1 = N) (hN : WFa N) {len m : Nat} (hl : M.1 7 0 6 = nI len) (hs : M.1 7 0 3 = nI m) : f_X9_digest M = some (f_X8_hashed (f_X8_hashed (digH N) (nI len)) (nI m), wrL (wr M 7 0 4 (nI 0)) 7 (f_X8_hashed (f_X8_hashed (digH N) (nI len)) (nI m))) := by
  unfold f_X9_digest
  generalize hM2 : wr M 7 0 4 (0 : Int32) = M2
  have h2 : M2.1 7 1 = N := by rw [← hM2, wr_other _ _ _ _ _ (by omega)]; exact h1
  have hl2 : M2.1 7 0 6 = nI len := by rw [← hM2, wr_same, upd_other (by omega)]; exact hl
  have hs2 : M2.1 7 0 3 = nI m := by rw [← hM2, wr_same, upd_other (by omega)]; exact hs
  have hM3 : wr M 7 0 4 (nI 0) = M2 := hM2
  rw [hM3, m_mix, Option.bind_some, wrL_1, h2]
  show L_X9_digest_24 FU 0 (wrL M2 7 (f_X8_hashed 2857 (N 0))) = _
  generalize hD : digH N = D
  unfold digH at hD
  generalize f_X8_hashed 2857 (N 0) = y at hD ⊢
  refine loop0 (fun n (σ : Int32 × Mem) => L_X9_digest_24 n σ.1 σ.2) (fun s => (nI s, wrL M2 7 (secsH N y s))) 20 (nI 0, wrL M2 7 y) rfl (fun n s hs => ?_) (fun n => ?_) FU (by decide)
  · show L_X9_digest_24 (n + 1) _ _ = L_X9_digest_24 n _ _
    rw [L_X9_digest_24, secsH]
    unfold B_X9_digest_43
    dsimp only
    generalize secsH N y s = z
    cases hu : us N s with
    | false =>
      simp (disch := omega) only [↓ite_b2r, ↓ite_nb2r, ↓lit_m1, ↓lit_m2, lit_0, lit_1, lit_2, lit_3, lit_4, lit_5, lit_6, lit_7, lit_8, lit_9, lit_10, lit_11, lit_12, lit_13, lit_14, lit_15, lit_16, lit_17, lit_18, lit_19, lit_20, lit_21, lit_22, lit_23, lit_24, lit_25, lit_26, lit_27, lit_28, lit_29, lit_30, lit_31, lit_32, lit_33, lit_34, lit_35, lit_36, lit_40, lit_41, lit_42, lit_44, lit_48, lit_57, lit_59, lit_62, lit_63, lit_64, lit_82, lit_98, lit_99, lit_100, lit_101, lit_102, lit_103, lit_104, lit_105, lit_106, lit_107, lit_108, lit_109, lit_110, lit_111, lit_112, lit_113, lit_119, lit_120, lit_127, lit_128, lit_149, lit_150, lit_202, lit_240, lit_262, lit_894, lit_900, lit_999, lit_1000, lit_2000, lit_2662, lit_2663, lit_2695, lit_2701, lit_2702, lit_3602, lit_10806, nI_add, pk_mul, cl_nI, inb_nI, nI_leI, nI_ltI, nI_eq, nI_eq_m1, m1_eq_nI, nI_eq_m2, div_nI, rem_nI, Option.bind_some, b2_0, b2_1, isb_b2, if_true_, if_false_, ↓reduceIte, reduceCtorEq, not_true_eq_false, not_false_eq_true, bt_hasBit, ult, Nat.add_zero, false_and, true_and, and_true, and_false, Nat.reduceLeDiff, Nat.reduceEqDiff, Nat.reduceLT, Bool.toNat_true, Bool.toNat_false, decide_true, decide_false, Bool.not_true, Bool.not_false, Bool.false_and, Bool.true_and, Bool.and_true, Bool.and_false, Bool.or_false, Bool.true_or, Bool.or_true, Bool.false_or, Nat.not_le.mpr hs, m_isSection, wrL_1, h2, isS_nI hs, hu] <;> rfl
    | true =>
      simp (disch := omega) only [↓ite_b2r, ↓ite_nb2r, ↓lit_m1, ↓lit_m2, lit_0, lit_1, lit_2, lit_3, lit_4, lit_5, lit_6, lit_7, lit_8, lit_9, lit_10, lit_11, lit_12, lit_13, lit_14, lit_15, lit_16, lit_17, lit_18, lit_19, lit_20, lit_21, lit_22, lit_23, lit_24, lit_25, lit_26, lit_27, lit_28, lit_29, lit_30, lit_31, lit_32, lit_33, lit_34, lit_35, lit_36, lit_40, lit_41, lit_42, lit_44, lit_48, lit_57, lit_59, lit_62, lit_63, lit_64, lit_82, lit_98, lit_99, lit_100, lit_101, lit_102, lit_103, lit_104, lit_105, lit_106, lit_107, lit_108, lit_109, lit_110, lit_111, lit_112, lit_113, lit_119, lit_120, lit_127, lit_128, lit_149, lit_150, lit_202, lit_240, lit_262, lit_894, lit_900, lit_999, lit_1000, lit_2000, lit_2662, lit_2663, lit_2695, lit_2701, lit_2702, lit_3602, lit_10806, nI_add, pk_mul, cl_nI, inb_nI, nI_leI, nI_ltI, nI_eq, nI_eq_m1, m1_eq_nI, nI_eq_m2, div_nI, rem_nI, Option.bind_some, b2_0, b2_1, isb_b2, if_true_, if_false_, ↓reduceIte, reduceCtorEq, not_true_eq_false, not_false_eq_true, bt_hasBit, ult, Nat.add_zero, false_and, true_and, and_true, and_false, Nat.reduceLeDiff, Nat.reduceEqDiff, Nat.reduceLT, Bool.toNat_true, Bool.toNat_false, decide_true, decide_false, Bool.not_true, Bool.not_false, Bool.false_and, Bool.true_and, Bool.and_true, Bool.and_false, Bool.or_false, Bool.true_or, Bool.or_true, Bool.false_or, Nat.not_le.mpr hs, m_isSection, wrL_1, h2, isS_nI hs, hu, m_mixSection h2 hN.1.1 hs]
  · show L_X9_digest_24 (n + 1) _ _ = _
    rw [L_X9_digest_24]
    dsimp only
    rw [if_pos (show (20 : Int32) ≤ nI 20 from Int32.le_refl _)]
    exact m_dig51 h2 hN _ _ (fun n => m_tail h2 hN hl2 hs2 _ _ _ _ _ _ rfl rfl hD rfl rfl n)
end DH
