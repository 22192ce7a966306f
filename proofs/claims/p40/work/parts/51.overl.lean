/-! ===== the class finds out what lies below what ===== -/
section FO
variable {M : Mem} {g : Nat} {N : Row}
theorem c_fill {g1 j1 n1 : Nat} (hn : n1 ≤ 1000) (x : Int32) : f_J7_fill_53178 g1 j1 n1 x M = some (wrs M g1 j1 (mixF (fun _ => x) (M.1 g1 j1) n1)) := by
  unfold f_J7_fill_53178
  refine loop0 (fun n (σ : Int32 × Mem) => L_J7_fill_53178_5 g1 j1 n1 x (Int32.ofNat n1) n σ.1 σ.2) (fun i => (nI i, wrs M g1 j1 (mixF (fun _ => x) (M.1 g1 j1) i))) n1 (nI 0, M) (by rw [mixF_0, wrs_self]) (fun n i hi => ?_) (fun n => ?_) FU (FU_lt (by omega))
  · show L_J7_fill_53178_5 g1 j1 n1 x (nI n1) (n + 1) _ _ = L_J7_fill_53178_5 g1 j1 n1 x (nI n1) n _ _
    rw [L_J7_fill_53178_5]
    simp (disch := omega) only [↓ite_b2r, ↓ite_nb2r, ↓lit_m1, ↓lit_m2, lit_0, lit_1, lit_2, lit_3, lit_4, lit_5, lit_6, lit_7, lit_8, lit_9, lit_10, lit_11, lit_12, lit_13, lit_14, lit_15, lit_16, lit_17, lit_18, lit_19, lit_20, lit_21, lit_22, lit_23, lit_24, lit_25, lit_26, lit_27, lit_28, lit_29, lit_30, lit_31, lit_32, lit_33, lit_34, lit_35, lit_36, lit_40, lit_41, lit_42, lit_44, lit_48, lit_57, lit_59, lit_62, lit_63, lit_64, lit_82, lit_98, lit_99, lit_100, lit_101, lit_102, lit_103, lit_104, lit_105, lit_106, lit_107, lit_108, lit_109, lit_110, lit_111, lit_112, lit_113, lit_119, lit_120, lit_127, lit_128, lit_149, lit_150, lit_202, lit_240, lit_262, lit_894, lit_900, lit_999, lit_1000, lit_2000, lit_2662, lit_2663, lit_2695, lit_2701, lit_2702, lit_3602, lit_10806, nI_add, pk_mul, cl_nI, inb_nI, nI_leI, nI_ltI, nI_eq, nI_eq_m1, m1_eq_nI, nI_eq_m2, div_nI, rem_nI, Option.bind_some, b2_0, b2_1, isb_b2, if_true_, if_false_, ↓reduceIte, reduceCtorEq, not_true_eq_false, not_false_eq_true, bt_hasBit, ult, Nat.add_zero, false_and, true_and, and_true, and_false, Nat.reduceLeDiff, Nat.reduceEqDiff, Nat.reduceLT, Bool.toNat_true, Bool.toNat_false, decide_true, decide_false, Bool.not_true, Bool.not_false, Bool.false_and, Bool.true_and, Bool.and_true, Bool.and_false, Bool.or_false, Bool.true_or, Bool.or_true, Bool.false_or, Nat.not_le.mpr hi, wr_wrs]
    rw [show upd (mixF (fun _ => x) (M.1 g1 j1) i) i x = _ from mixF_s (fun _ => x) _ i]
  · show L_J7_fill_53178_5 g1 j1 n1 x (nI n1) (n + 1) _ _ = _
    rw [L_J7_fill_53178_5]
    simp (disch := omega) only [↓ite_b2r, ↓ite_nb2r, ↓lit_m1, ↓lit_m2, lit_0, lit_1, lit_2, lit_3, lit_4, lit_5, lit_6, lit_7, lit_8, lit_9, lit_10, lit_11, lit_12, lit_13, lit_14, lit_15, lit_16, lit_17, lit_18, lit_19, lit_20, lit_21, lit_22, lit_23, lit_24, lit_25, lit_26, lit_27, lit_28, lit_29, lit_30, lit_31, lit_32, lit_33, lit_34, lit_35, lit_36, lit_40, lit_41, lit_42, lit_44, lit_48, lit_57, lit_59, lit_62, lit_63, lit_64, lit_82, lit_98, lit_99, lit_100, lit_101, lit_102, lit_103, lit_104, lit_105, lit_106, lit_107, lit_108, lit_109, lit_110, lit_111, lit_112, lit_113, lit_119, lit_120, lit_127, lit_128, lit_149, lit_150, lit_202, lit_240, lit_262, lit_894, lit_900, lit_999, lit_1000, lit_2000, lit_2662, lit_2663, lit_2695, lit_2701, lit_2702, lit_3602, lit_10806, nI_add, pk_mul, cl_nI, inb_nI, nI_leI, nI_ltI, nI_eq, nI_eq_m1, m1_eq_nI, nI_eq_m2, div_nI, rem_nI, Option.bind_some, b2_0, b2_1, isb_b2, if_true_, if_false_, ↓reduceIte, reduceCtorEq, not_true_eq_false, not_false_eq_true, bt_hasBit, ult, Nat.add_zero, false_and, true_and, and_true, and_false, Nat.reduceLeDiff, Nat.reduceEqDiff, Nat.reduceLT, Bool.toNat_true, Bool.toNat_false, decide_true, decide_false, Bool.not_true, Bool.not_false, Bool.false_and, Bool.true_and, Bool.and_true, Bool.and_false, Bool.or_false, Bool.true_or, Bool.or_true, Bool.false_or, Nat.le_refl]
/-- what is found so far: all of the sections below s -/
def ov6 (N : Row) (D : Dk) (s : Nat) : Prop := ∀ t, t < 20 → ∀ i, i < 32 → bt (D 6 t) i = (decide (i < s) && (us N i && (us N t && An N i t)))
def ov7 (N : Row) (D : Dk) (s : Nat) : Prop := ∀ s', s' < 20 → ∀ t, t < 32 → bt (D 7 s') t = (decide (s' < s) && (decide (t < 20) && (us N s' && (us N t && An N s' t))))
/-- and of s those of its line above that p holds of -/
def ov6p (N : Row) (D : Dk) (s : Nat) (p : Nat → Bool) : Prop := ∀ t, t < 20 → ∀ i, i < 32 → bt (D 6 t) i = ((decide (i < s) && (us N i && (us N t && An N i t))) || (decide (i = s) && (us N t && p t)))
def ov7p (N : Row) (D : Dk) (s : Nat) (p : Nat → Bool) : Prop := ∀ s', s' < 20 → ∀ t, t < 32 → bt (D 7 s') t = ((decide (s' < s) && (decide (t < 20) && (us N s' && (us N t && An N s' t)))) || (decide (s' = s) && (decide (t < 20) && (us N t && p t))))
theorem c_findOverlaps (hN : WFt N) (hp : ∀ s, s < 20 → us N s = true → M.1 g 2 s = N (22 + s)) (hn : ∀ s, s < 20 → us N s = false → M.1 g 2 s = mII) : ∃ M', f_X7_findOverlaps g M = some M' ∧ (∀ t, t < 20 → ∀ s, s < 32 → bt (M'.1 g 6 t) s = (decide (s < 20) && (us N s && (us N t && An N s t)))) ∧ (∀ s, s < 20 → ∀ t, t < 32 → bt (M'.1 g 7 s) t = (decide (t < 20) && (us N s && (us N t && An N s t)))) ∧ (∀ j, j ≠ 6 → j ≠ 7 → M'.1 g j = M.1 g j) ∧ Fr g M M' := by
  obtain ⟨r, r1, r2, r3⟩ := rank20 hN
  unfold f_X7_findOverlaps
  rw [c_fill (by omega), Option.bind_some, c_fill (by omega), Option.bind_some]
  generalize hM0 : wrs (wrs M g 6 (mixF (fun _ => (0 : Int32)) (M.1 g 6) 20)) g 7 (mixF (fun _ => (0 : Int32)) ((wrs M g 6 (mixF (fun _ => (0 : Int32)) (M.1 g 6) 20)).1 g 7) 20) = M0
  have z6 : ov6 N (M0.1 g) 0 := fun t ht i hi => by
    rw [← hM0, wrs_other _ _ _ _ (by omega), wrs_same, mixF_lt ht, show bt (0 : Int32) i = false from bt_0 i, decide_eq_false (Nat.not_lt_zero i)]
    rfl
  have z7 : ov7 N (M0.1 g) 0 := fun t ht i hi => by
    rw [← hM0, wrs_same, mixF_lt ht, show bt (0 : Int32) i = false from bt_0 i, decide_eq_false (Nat.not_lt_zero t)]
    rfl
  have zj : ∀ j, j ≠ 6 → j ≠ 7 → M0.1 g j = M.1 g j := fun j h1 h2 => by rw [← hM0, wrs_other _ _ _ _ (by omega), wrs_other _ _ _ _ (by omega)]
  have zF : Fr g M M0 := by rw [← hM0]; exact (Fr_wrs _ _ _ _).tr (Fr_wrs _ _ _ _)
  clear hM0
  have hhas : ∀ M1 : Mem, (∀ j, j ≠ 6 → j ≠ 7 → M1.1 g j = M.1 g j) → ∀ x : Int32, f_X7_has g x M1 = some (b2 (isS N x)) := by
    intro M1 hj x
    unfold f_X7_has isS inR
    by_cases h1 : x < nI 0
    · simp (disch := omega) only [↓ite_b2r, ↓ite_nb2r, ↓lit_m1, ↓lit_m2, lit_0, lit_1, lit_2, lit_3, lit_4, lit_5, lit_6, lit_7, lit_8, lit_9, lit_10, lit_11, lit_12, lit_13, lit_14, lit_15, lit_16, lit_17, lit_18, lit_19, lit_20, lit_21, lit_22, lit_23, lit_24, lit_25, lit_26, lit_27, lit_28, lit_29, lit_30, lit_31, lit_32, lit_33, lit_34, lit_35, lit_36, lit_40, lit_41, lit_42, lit_44, lit_48, lit_57, lit_59, lit_62, lit_63, lit_64, lit_82, lit_98, lit_99, lit_100, lit_101, lit_102, lit_103, lit_104, lit_105, lit_106, lit_107, lit_108, lit_109, lit_110, lit_111, lit_112, lit_113, lit_119, lit_120, lit_127, lit_128, lit_149, lit_150, lit_202, lit_240, lit_262, lit_894, lit_900, lit_999, lit_1000, lit_2000, lit_2662, lit_2663, lit_2695, lit_2701, lit_2702, lit_3602, lit_10806, nI_add, pk_mul, cl_nI, inb_nI, nI_leI, nI_ltI, nI_eq, nI_eq_m1, m1_eq_nI, nI_eq_m2, div_nI, rem_nI, Option.bind_some, b2_0, b2_1, isb_b2, if_true_, if_false_, ↓reduceIte, reduceCtorEq, not_true_eq_false, not_false_eq_true, bt_hasBit, ult, Nat.add_zero, false_and, true_and, and_true, and_false, Nat.reduceLeDiff, Nat.reduceEqDiff, Nat.reduceLT, Bool.toNat_true, Bool.toNat_false, decide_true, decide_false, Bool.not_true, Bool.not_false, Bool.false_and, Bool.true_and, Bool.and_true, Bool.and_false, Bool.or_false, Bool.true_or, Bool.or_true, Bool.false_or, h1] <;> rfl
    · by_cases h2 : nI 20 ≤ x
      · simp (disch := omega) only [↓ite_b2r, ↓ite_nb2r, ↓lit_m1, ↓lit_m2, lit_0, lit_1, lit_2, lit_3, lit_4, lit_5, lit_6, lit_7, lit_8, lit_9, lit_10, lit_11, lit_12, lit_13, lit_14, lit_15, lit_16, lit_17, lit_18, lit_19, lit_20, lit_21, lit_22, lit_23, lit_24, lit_25, lit_26, lit_27, lit_28, lit_29, lit_30, lit_31, lit_32, lit_33, lit_34, lit_35, lit_36, lit_40, lit_41, lit_42, lit_44, lit_48, lit_57, lit_59, lit_62, lit_63, lit_64, lit_82, lit_98, lit_99, lit_100, lit_101, lit_102, lit_103, lit_104, lit_105, lit_106, lit_107, lit_108, lit_109, lit_110, lit_111, lit_112, lit_113, lit_119, lit_120, lit_127, lit_128, lit_149, lit_150, lit_202, lit_240, lit_262, lit_894, lit_900, lit_999, lit_1000, lit_2000, lit_2662, lit_2663, lit_2695, lit_2701, lit_2702, lit_3602, lit_10806, nI_add, pk_mul, cl_nI, inb_nI, nI_leI, nI_ltI, nI_eq, nI_eq_m1, m1_eq_nI, nI_eq_m2, div_nI, rem_nI, Option.bind_some, b2_0, b2_1, isb_b2, if_true_, if_false_, ↓reduceIte, reduceCtorEq, not_true_eq_false, not_false_eq_true, bt_hasBit, ult, Nat.add_zero, false_and, true_and, and_true, and_false, Nat.reduceLeDiff, Nat.reduceEqDiff, Nat.reduceLT, Bool.toNat_true, Bool.toNat_false, decide_true, decide_false, Bool.not_true, Bool.not_false, Bool.false_and, Bool.true_and, Bool.and_true, Bool.and_false, Bool.or_false, Bool.true_or, Bool.or_true, Bool.false_or, h1, h2] <;> rfl
      · rcases pk_ix x (n := 20) (by decide) with h3 | h3 | ⟨s, hs, rfl⟩
        · exact absurd h3 h1
        · exact absurd h3 h2
        · have e2 : M1.1 g 2 = M.1 g 2 := hj 2 (by omega) (by omega)
          cases hu : us N s with
          | true =>
            have e := hp s hs hu
            have hne : (N (22 + s) = mII) = False := by
              refine eq_false ?_
              by_cases h0 : s = 0
              · subst h0
                rw [show N (22 + 0) = mI from hN.2.2.1]
                decide
              · obtain ⟨e1, e3, e4⟩ := hN.2.2.2.1 s (by omega) hs hu
                rw [e1]
                intro e4
                rw [nI_eq_m2 (by omega)] at e4
                exact e4
            simp (disch := omega) only [↓ite_b2r, ↓ite_nb2r, ↓lit_m1, ↓lit_m2, lit_0, lit_1, lit_2, lit_3, lit_4, lit_5, lit_6, lit_7, lit_8, lit_9, lit_10, lit_11, lit_12, lit_13, lit_14, lit_15, lit_16, lit_17, lit_18, lit_19, lit_20, lit_21, lit_22, lit_23, lit_24, lit_25, lit_26, lit_27, lit_28, lit_29, lit_30, lit_31, lit_32, lit_33, lit_34, lit_35, lit_36, lit_40, lit_41, lit_42, lit_44, lit_48, lit_57, lit_59, lit_62, lit_63, lit_64, lit_82, lit_98, lit_99, lit_100, lit_101, lit_102, lit_103, lit_104, lit_105, lit_106, lit_107, lit_108, lit_109, lit_110, lit_111, lit_112, lit_113, lit_119, lit_120, lit_127, lit_128, lit_149, lit_150, lit_202, lit_240, lit_262, lit_894, lit_900, lit_999, lit_1000, lit_2000, lit_2662, lit_2663, lit_2695, lit_2701, lit_2702, lit_3602, lit_10806, nI_add, pk_mul, cl_nI, inb_nI, nI_leI, nI_ltI, nI_eq, nI_eq_m1, m1_eq_nI, nI_eq_m2, div_nI, rem_nI, Option.bind_some, b2_0, b2_1, isb_b2, if_true_, if_false_, ↓reduceIte, reduceCtorEq, not_true_eq_false, not_false_eq_true, bt_hasBit, ult, Nat.add_zero, false_and, true_and, and_true, and_false, Nat.reduceLeDiff, Nat.reduceEqDiff, Nat.reduceLT, Bool.toNat_true, Bool.toNat_false, decide_true, decide_false, Bool.not_true, Bool.not_false, Bool.false_and, Bool.true_and, Bool.and_true, Bool.and_false, Bool.or_false, Bool.true_or, Bool.or_true, Bool.false_or, h1, h2, hu, e2, e, hne] <;> rfl
          | false =>
            simp (disch := omega) only [↓ite_b2r, ↓ite_nb2r, ↓lit_m1, ↓lit_m2, lit_0, lit_1, lit_2, lit_3, lit_4, lit_5, lit_6, lit_7, lit_8, lit_9, lit_10, lit_11, lit_12, lit_13, lit_14, lit_15, lit_16, lit_17, lit_18, lit_19, lit_20, lit_21, lit_22, lit_23, lit_24, lit_25, lit_26, lit_27, lit_28, lit_29, lit_30, lit_31, lit_32, lit_33, lit_34, lit_35, lit_36, lit_40, lit_41, lit_42, lit_44, lit_48, lit_57, lit_59, lit_62, lit_63, lit_64, lit_82, lit_98, lit_99, lit_100, lit_101, lit_102, lit_103, lit_104, lit_105, lit_106, lit_107, lit_108, lit_109, lit_110, lit_111, lit_112, lit_113, lit_119, lit_120, lit_127, lit_128, lit_149, lit_150, lit_202, lit_240, lit_262, lit_894, lit_900, lit_999, lit_1000, lit_2000, lit_2662, lit_2663, lit_2695, lit_2701, lit_2702, lit_3602, lit_10806, nI_add, pk_mul, cl_nI, inb_nI, nI_leI, nI_ltI, nI_eq, nI_eq_m1, m1_eq_nI, nI_eq_m2, div_nI, rem_nI, Option.bind_some, b2_0, b2_1, isb_b2, if_true_, if_false_, ↓reduceIte, reduceCtorEq, not_true_eq_false, not_false_eq_true, bt_hasBit, ult, Nat.add_zero, false_and, true_and, and_true, and_false, Nat.reduceLeDiff, Nat.reduceEqDiff, Nat.reduceLT, Bool.toNat_true, Bool.toNat_false, decide_true, decide_false, Bool.not_true, Bool.not_false, Bool.false_and, Bool.true_and, Bool.and_true, Bool.and_false, Bool.or_false, Bool.true_or, Bool.or_true, Bool.false_or, h1, h2, hu, e2, hn s hs hu] <;> rfl
  refine loopE (fun n (σ : Int32 × Mem) => L_X7_findOverlaps_18 g n σ.1 σ.2) (fun s σ => ∃ M', σ = (nI s, M') ∧ ov6 N (M'.1 g) s ∧ ov7 N (M'.1 g) s ∧ (∀ j, j ≠ 6 → j ≠ 7 → M'.1 g j = M.1 g j) ∧ Fr g M M') 20 (fun n s σ hs hσ => ?_) (fun n σ hσ => ?_) FU (by decide) (nI 0, M0) ⟨M0, rfl, z6, z7, zj, zF⟩
  · obtain ⟨M1, rfl, a1, a2, a3, a4⟩ := hσ
    show ∃ s', L_X7_findOverlaps_18 g (n + 1) _ _ = L_X7_findOverlaps_18 g n _ _ ∧ _
    rw [L_X7_findOverlaps_18]
    dsimp only
    rw [if_neg (show ¬ (20 : Int32) ≤ nI s from fun e => by have e2 : nI 20 ≤ nI s := e; rw [nI_leI (by omega) (by omega)] at e2; omega)]
    cases hu : us N s with
    | false =>
      obtain ⟨F, hF⟩ : ∃ F, FU = F + 1 := ⟨999999, rfl⟩
      refine ⟨(nI (s + 1), M1), ?_, M1, rfl, fun t ht i hi => ?_, fun s' hs' t ht => ?_, a3, a4⟩
      · rw [hF, L_X7_findOverlaps_28, hhas M1 a3, isS_nI hs, hu]
        unfold B_X7_findOverlaps_79
        simp (disch := omega) only [↓ite_b2r, ↓ite_nb2r, ↓lit_m1, ↓lit_m2, lit_0, lit_1, lit_2, lit_3, lit_4, lit_5, lit_6, lit_7, lit_8, lit_9, lit_10, lit_11, lit_12, lit_13, lit_14, lit_15, lit_16, lit_17, lit_18, lit_19, lit_20, lit_21, lit_22, lit_23, lit_24, lit_25, lit_26, lit_27, lit_28, lit_29, lit_30, lit_31, lit_32, lit_33, lit_34, lit_35, lit_36, lit_40, lit_41, lit_42, lit_44, lit_48, lit_57, lit_59, lit_62, lit_63, lit_64, lit_82, lit_98, lit_99, lit_100, lit_101, lit_102, lit_103, lit_104, lit_105, lit_106, lit_107, lit_108, lit_109, lit_110, lit_111, lit_112, lit_113, lit_119, lit_120, lit_127, lit_128, lit_149, lit_150, lit_202, lit_240, lit_262, lit_894, lit_900, lit_999, lit_1000, lit_2000, lit_2662, lit_2663, lit_2695, lit_2701, lit_2702, lit_3602, lit_10806, nI_add, pk_mul, cl_nI, inb_nI, nI_leI, nI_ltI, nI_eq, nI_eq_m1, m1_eq_nI, nI_eq_m2, div_nI, rem_nI, Option.bind_some, b2_0, b2_1, isb_b2, if_true_, if_false_, ↓reduceIte, reduceCtorEq, not_true_eq_false, not_false_eq_true, bt_hasBit, ult, Nat.add_zero, false_and, true_and, and_true, and_false, Nat.reduceLeDiff, Nat.reduceEqDiff, Nat.reduceLT, Bool.toNat_true, Bool.toNat_false, decide_true, decide_false, Bool.not_true, Bool.not_false, Bool.false_and, Bool.true_and, Bool.and_true, Bool.and_false, Bool.or_false, Bool.true_or, Bool.or_true, Bool.false_or] <;> rfl
      · rw [a1 t ht i hi]
        by_cases his : i = s
        · subst his; rw [hu]; simp
        · congr 1
          by_cases h2 : i < s
          · rw [decide_eq_true h2, decide_eq_true (by omega)]
          · rw [decide_eq_false h2, decide_eq_false (by omega)]
      · rw [a2 s' hs' t ht]
        by_cases his : s' = s
        · subst his; rw [hu]; simp
        · congr 1
          by_cases h2 : s' < s
          · rw [decide_eq_true h2, decide_eq_true (by omega)]
          · rw [decide_eq_false h2, decide_eq_false (by omega)]
    | true =>
      -- up the line from s
      have fin : ∀ M2 : Mem, ov6p N (M2.1 g) s (An N s) → ov7p N (M2.1 g) s (An N s) → ov6 N (M2.1 g) (s + 1) ∧ ov7 N (M2.1 g) (s + 1) := by
        intro M2 h6 h7
        refine ⟨fun t ht i hi => ?_, fun s' hs' t ht => ?_⟩
        · rw [h6 t ht i hi]
          by_cases his : i = s
          · subst his; rw [hu]; simp
          · rw [decide_eq_false his, Bool.false_and, Bool.or_false]
            congr 1
            by_cases h2 : i < s
            · rw [decide_eq_true h2, decide_eq_true (by omega)]
            · rw [decide_eq_false h2, decide_eq_false (by omega)]
        · rw [h7 s' hs' t ht]
          by_cases his : s' = s
          · subst his; rw [hu]; simp
          · rw [decide_eq_false his, Bool.false_and, Bool.or_false]
            congr 1
            by_cases h2 : s' < s
            · rw [decide_eq_true h2, decide_eq_true (by omega)]
            · rw [decide_eq_false h2, decide_eq_false (by omega)]
      have inner := loopI (fun m (σ : Int32 × Int32 × Mem) => L_X7_findOverlaps_28 g (L_X7_findOverlaps_18 g n) (nI s) m σ.1 σ.2.1 σ.2.2) (fun L σ => ∃ M', (∀ j, j ≠ 6 → j ≠ 7 → M'.1 g j = M.1 g j) ∧ Fr g M M' ∧ ((∃ a, σ = (nI a, nI L, M') ∧ a < 20 ∧ us N a = true ∧ An N s a = true ∧ r a + L ≤ 19 ∧ ov6p N (M'.1 g) s (fun t => An N s t && !An N a t) ∧ ov7p N (M'.1 g) s (fun t => An N s t && !An N a t)) ∨ (σ = (mI, nI L, M') ∧ ov6p N (M'.1 g) s (An N s) ∧ ov7p N (M'.1 g) s (An N s)))) (fun o => ∃ M', o = L_X7_findOverlaps_18 g n (nI (s + 1)) M' ∧ ov6 N (M'.1 g) (s + 1) ∧ ov7 N (M'.1 g) (s + 1) ∧ (∀ j, j ≠ 6 → j ≠ 7 → M'.1 g j = M.1 g j) ∧ Fr g M M') 20 (fun m L σ hL hσ => ?_) (fun m σ hσ => ?_) FU (by decide) (nI s, nI 0, M1) ⟨M1, a3, a4, Or.inl ⟨s, rfl, hs, hu, An_refl s, by have := r1 s hs hu; omega, fun t ht i hi => ?_, fun s' hs' t ht => ?_⟩⟩
      · obtain ⟨M2, e1, e2, e3, e4, e5⟩ := inner
        exact ⟨(nI (s + 1), M2), e1, M2, rfl, e2, e3, e4, e5⟩
      · obtain ⟨M2, b1, b2', hcase⟩ := hσ
        show (∃ M', L_X7_findOverlaps_28 g (L_X7_findOverlaps_18 g n) (nI s) (m + 1) _ _ _ = _ ∧ _) ∨ ∃ s', L_X7_findOverlaps_28 g (L_X7_findOverlaps_18 g n) (nI s) (m + 1) _ _ _ = L_X7_findOverlaps_28 g (L_X7_findOverlaps_18 g n) (nI s) m _ _ _ ∧ _
        rcases hcase with ⟨a, rfl, ha, hua, haa, hra, h6, h7⟩ | ⟨rfl, h6, h7⟩
        · refine Or.inr ?_
          rw [L_X7_findOverlaps_28]
          dsimp only
          have e2 : M2.1 g 2 a = N (22 + a) := by rw [b1 2 (by omega) (by omega)]; exact hp a ha hua
          generalize hM3 : wr (wr M2 g 6 a (M2.1 g 6 a ||| (nI 1 <<< (nI s &&& nI 31)))) g 7 s ((wr M2 g 6 a (M2.1 g 6 a ||| (nI 1 <<< (nI s &&& nI 31)))).1 g 7 s ||| (nI 1 <<< (nI a &&& nI 31))) = M3
          have k6 : M3.1 g 6 = upd (M2.1 g 6) a (M2.1 g 6 a ||| (nI 1 <<< (nI s &&& nI 31))) := by rw [← hM3, wr_other _ _ _ _ _ (by omega), wr_same]
          have k7 : M3.1 g 7 = upd (M2.1 g 7) s (M2.1 g 7 s ||| (nI 1 <<< (nI a &&& nI 31))) := by rw [← hM3, wr_same, wr_other _ _ _ _ _ (by omega)]
          have kj : ∀ j, j ≠ 6 → j ≠ 7 → M3.1 g j = M.1 g j := fun j h1 h2 => by rw [← hM3, wr_other _ _ _ _ _ (by omega), wr_other _ _ _ _ _ (by omega)]; exact b1 j h1 h2
          have kF : Fr g M M3 := by rw [← hM3]; exact (b2'.tr (Fr_wr _ _ _ _ _)).tr (Fr_wr _ _ _ _ _)
          have e3 : M3.1 g 2 a = N (22 + a) := by rw [kj 2 (by omega) (by omega)]; exact hp a ha hua
          have step : ∀ p : Nat → Bool, (∀ t, t < 20 → us N t = true → p t = ((An N s t && !An N a t) || decide (t = a))) → ov6p N (M3.1 g) s p ∧ ov7p N (M3.1 g) s p := by
            intro p hpp
            refine ⟨fun t ht i hi => ?_, fun s' hs' t ht => ?_⟩
            · rw [k6]
              have h6t := h6 t ht i hi
              by_cases hta : t = a
              · subst hta
                rw [upd_same, bt_or, h6t, bt_one s (by omega) i hi, hua, hpp t ht hua]
                simp [An_refl]
              · rw [upd_other hta, h6t]
                cases hut : us N t with
                | false => simp
                | true => rw [hpp t ht hut, decide_eq_false hta, Bool.or_false]
            · rw [k7]
              have h7t := h7 s' hs' t ht
              by_cases hss : s' = s
              · subst hss
                rw [upd_same, bt_or, h7t, bt_one a (by omega) t ht, decide_eq_true rfl, decide_eq_false (Nat.lt_irrefl s')]
                by_cases hta : t = a
                · subst hta
                  rw [hpp t ha hua, decide_eq_true ha, hua, decide_eq_true rfl, An_refl]
                  simp
                · by_cases ht20 : t < 20
                  · cases hut : us N t with
                    | false => simp [hta]
                    | true => rw [hpp t ht20 hut, decide_eq_false hta]; simp
                  · simp [ht20, hta]
              · rw [upd_other hss, h7t, decide_eq_false hss]
                simp
          have hval : ∀ y : Int32, N (22 + a) = y → L_X7_findOverlaps_28 g (L_X7_findOverlaps_18 g n) (nI s) m y (nI (L + 1)) M3 = (if (20 : Int32) ≤ nI L then B_X7_findOverlaps_79 g (L_X7_findOverlaps_18 g n) (nI s) M2 else (f_X7_has g (nI a) M2).bind fun q5 => if q5 = 0 then B_X7_findOverlaps_79 g (L_X7_findOverlaps_18 g n) (nI s) M2 else if inb (nI a) 20 then if inb (nI a) 20 then if inb (nI s) 20 then if inb (nI s) 20 then if inb (nI a) 20 then L_X7_findOverlaps_28 g (L_X7_findOverlaps_18 g n) (nI s) m (M3.1 g 2 a) (nI (L + 1)) M3 else none else none else none else none else none) := by
            intro y hy
            rw [hhas M2 b1, isS_nI ha, hua, e3, hy]
            simp (disch := omega) only [↓ite_b2r, ↓ite_nb2r, ↓lit_m1, ↓lit_m2, lit_0, lit_1, lit_2, lit_3, lit_4, lit_5, lit_6, lit_7, lit_8, lit_9, lit_10, lit_11, lit_12, lit_13, lit_14, lit_15, lit_16, lit_17, lit_18, lit_19, lit_20, lit_21, lit_22, lit_23, lit_24, lit_25, lit_26, lit_27, lit_28, lit_29, lit_30, lit_31, lit_32, lit_33, lit_34, lit_35, lit_36, lit_40, lit_41, lit_42, lit_44, lit_48, lit_57, lit_59, lit_62, lit_63, lit_64, lit_82, lit_98, lit_99, lit_100, lit_101, lit_102, lit_103, lit_104, lit_105, lit_106, lit_107, lit_108, lit_109, lit_110, lit_111, lit_112, lit_113, lit_119, lit_120, lit_127, lit_128, lit_149, lit_150, lit_202, lit_240, lit_262, lit_894, lit_900, lit_999, lit_1000, lit_2000, lit_2662, lit_2663, lit_2695, lit_2701, lit_2702, lit_3602, lit_10806, nI_add, pk_mul, cl_nI, inb_nI, nI_leI, nI_ltI, nI_eq, nI_eq_m1, m1_eq_nI, nI_eq_m2, div_nI, rem_nI, Option.bind_some, b2_0, b2_1, isb_b2, if_true_, if_false_, ↓reduceIte, reduceCtorEq, not_true_eq_false, not_false_eq_true, bt_hasBit, ult, Nat.add_zero, false_and, true_and, and_true, and_false, Nat.reduceLeDiff, Nat.reduceEqDiff, Nat.reduceLT, Bool.toNat_true, Bool.toNat_false, decide_true, decide_false, Bool.not_true, Bool.not_false, Bool.false_and, Bool.true_and, Bool.and_true, Bool.and_false, Bool.or_false, Bool.true_or, Bool.or_true, Bool.false_or, show ¬ 20 ≤ L by omega]
          by_cases h0 : a = 0
          · subst h0
            have h22 : N 22 = mI := hN.2.2.1
            obtain ⟨s6, s7⟩ := step (An N s) (fun t ht hut => by
              rw [An_0]
              by_cases ht0 : t = 0
              · subst ht0; rw [haa]; simp
              · rw [beq_no (fun e => ht0 e.symm), decide_eq_false ht0]; simp)
            refine ⟨(mI, nI (L + 1), M3), ?_, M3, kj, kF, Or.inr ⟨rfl, s6, s7⟩⟩
            dsimp only
            rw [hhas M2 b1, isS_nI ha, hua]
            have e3' : M3.1 g 2 0 = mI := e3.trans h22
            simp (disch := omega) only [↓ite_b2r, ↓ite_nb2r, ↓lit_m1, ↓lit_m2, lit_0, lit_1, lit_2, lit_3, lit_4, lit_5, lit_6, lit_7, lit_8, lit_9, lit_10, lit_11, lit_12, lit_13, lit_14, lit_15, lit_16, lit_17, lit_18, lit_19, lit_20, lit_21, lit_22, lit_23, lit_24, lit_25, lit_26, lit_27, lit_28, lit_29, lit_30, lit_31, lit_32, lit_33, lit_34, lit_35, lit_36, lit_40, lit_41, lit_42, lit_44, lit_48, lit_57, lit_59, lit_62, lit_63, lit_64, lit_82, lit_98, lit_99, lit_100, lit_101, lit_102, lit_103, lit_104, lit_105, lit_106, lit_107, lit_108, lit_109, lit_110, lit_111, lit_112, lit_113, lit_119, lit_120, lit_127, lit_128, lit_149, lit_150, lit_202, lit_240, lit_262, lit_894, lit_900, lit_999, lit_1000, lit_2000, lit_2662, lit_2663, lit_2695, lit_2701, lit_2702, lit_3602, lit_10806, nI_add, pk_mul, cl_nI, inb_nI, nI_leI, nI_ltI, nI_eq, nI_eq_m1, m1_eq_nI, nI_eq_m2, div_nI, rem_nI, Option.bind_some, b2_0, b2_1, isb_b2, if_true_, if_false_, ↓reduceIte, reduceCtorEq, not_true_eq_false, not_false_eq_true, bt_hasBit, ult, Nat.add_zero, false_and, true_and, and_true, and_false, Nat.reduceLeDiff, Nat.reduceEqDiff, Nat.reduceLT, Bool.toNat_true, Bool.toNat_false, decide_true, decide_false, Bool.not_true, Bool.not_false, Bool.false_and, Bool.true_and, Bool.and_true, Bool.and_false, Bool.or_false, Bool.true_or, Bool.or_true, Bool.false_or, show ¬ 20 ≤ L by omega, hM3, e3']
          · obtain ⟨f1, f2, f3⟩ := hN.2.2.2.1 a (by omega) ha hua
            have hrl := r2 a (by omega) ha hua
            have hpa : An N s (pa N a) = true := An_tr hN s hs hu haa (by rw [An_s hN (by omega) ha hua, An_refl, Bool.or_true])
            have hna : An N (pa N a) a = false := by
              cases hz : An N (pa N a) a with
              | false => rfl
              | true =>
                have e5 := An_anti hN ha hua (show An N a (pa N a) = true by rw [An_s hN (by omega) ha hua, An_refl, Bool.or_true]) hz
                rw [← e5] at hrl
                omega
            obtain ⟨s6, s7⟩ := step (fun t => An N s t && !An N (pa N a) t) (fun t ht hut => by
              rw [An_s hN (by omega) ha hua (t := t)]
              by_cases hta : t = a
              · subst hta; rw [haa, hna]; simp
              · rw [beq_no (fun e => hta e.symm), decide_eq_false hta]; simp)
            refine ⟨(nI (pa N a), nI (L + 1), M3), ?_, M3, kj, kF, Or.inl ⟨pa N a, rfl, f2, f3, hpa, by omega, s6, s7⟩⟩
            dsimp only
            rw [hhas M2 b1, isS_nI ha, hua]
            have e3' : M3.1 g 2 a = nI (pa N a) := e3.trans f1
            simp (disch := omega) only [↓ite_b2r, ↓ite_nb2r, ↓lit_m1, ↓lit_m2, lit_0, lit_1, lit_2, lit_3, lit_4, lit_5, lit_6, lit_7, lit_8, lit_9, lit_10, lit_11, lit_12, lit_13, lit_14, lit_15, lit_16, lit_17, lit_18, lit_19, lit_20, lit_21, lit_22, lit_23, lit_24, lit_25, lit_26, lit_27, lit_28, lit_29, lit_30, lit_31, lit_32, lit_33, lit_34, lit_35, lit_36, lit_40, lit_41, lit_42, lit_44, lit_48, lit_57, lit_59, lit_62, lit_63, lit_64, lit_82, lit_98, lit_99, lit_100, lit_101, lit_102, lit_103, lit_104, lit_105, lit_106, lit_107, lit_108, lit_109, lit_110, lit_111, lit_112, lit_113, lit_119, lit_120, lit_127, lit_128, lit_149, lit_150, lit_202, lit_240, lit_262, lit_894, lit_900, lit_999, lit_1000, lit_2000, lit_2662, lit_2663, lit_2695, lit_2701, lit_2702, lit_3602, lit_10806, nI_add, pk_mul, cl_nI, inb_nI, nI_leI, nI_ltI, nI_eq, nI_eq_m1, m1_eq_nI, nI_eq_m2, div_nI, rem_nI, Option.bind_some, b2_0, b2_1, isb_b2, if_true_, if_false_, ↓reduceIte, reduceCtorEq, not_true_eq_false, not_false_eq_true, bt_hasBit, ult, Nat.add_zero, false_and, true_and, and_true, and_false, Nat.reduceLeDiff, Nat.reduceEqDiff, Nat.reduceLT, Bool.toNat_true, Bool.toNat_false, decide_true, decide_false, Bool.not_true, Bool.not_false, Bool.false_and, Bool.true_and, Bool.and_true, Bool.and_false, Bool.or_false, Bool.true_or, Bool.or_true, Bool.false_or, show ¬ 20 ≤ L by omega, hM3, e3']
        · refine Or.inl ⟨M2, ?_, (fin M2 h6 h7).1, (fin M2 h6 h7).2, b1, b2'⟩
          rw [L_X7_findOverlaps_28, hhas M2 b1, show isS N mI = false from rfl]
          unfold B_X7_findOverlaps_79
          simp (disch := omega) only [↓ite_b2r, ↓ite_nb2r, ↓lit_m1, ↓lit_m2, lit_0, lit_1, lit_2, lit_3, lit_4, lit_5, lit_6, lit_7, lit_8, lit_9, lit_10, lit_11, lit_12, lit_13, lit_14, lit_15, lit_16, lit_17, lit_18, lit_19, lit_20, lit_21, lit_22, lit_23, lit_24, lit_25, lit_26, lit_27, lit_28, lit_29, lit_30, lit_31, lit_32, lit_33, lit_34, lit_35, lit_36, lit_40, lit_41, lit_42, lit_44, lit_48, lit_57, lit_59, lit_62, lit_63, lit_64, lit_82, lit_98, lit_99, lit_100, lit_101, lit_102, lit_103, lit_104, lit_105, lit_106, lit_107, lit_108, lit_109, lit_110, lit_111, lit_112, lit_113, lit_119, lit_120, lit_127, lit_128, lit_149, lit_150, lit_202, lit_240, lit_262, lit_894, lit_900, lit_999, lit_1000, lit_2000, lit_2662, lit_2663, lit_2695, lit_2701, lit_2702, lit_3602, lit_10806, nI_add, pk_mul, cl_nI, inb_nI, nI_leI, nI_ltI, nI_eq, nI_eq_m1, m1_eq_nI, nI_eq_m2, div_nI, rem_nI, Option.bind_some, b2_0, b2_1, isb_b2, if_true_, if_false_, ↓reduceIte, reduceCtorEq, not_true_eq_false, not_false_eq_true, bt_hasBit, ult, Nat.add_zero, false_and, true_and, and_true, and_false, Nat.reduceLeDiff, Nat.reduceEqDiff, Nat.reduceLT, Bool.toNat_true, Bool.toNat_false, decide_true, decide_false, Bool.not_true, Bool.not_false, Bool.false_and, Bool.true_and, Bool.and_true, Bool.and_false, Bool.or_false, Bool.true_or, Bool.or_true, Bool.false_or, show ¬ 20 ≤ L by omega]
      · obtain ⟨M2, b1, b2', hcase⟩ := hσ
        rcases hcase with ⟨a, rfl, ha, hua, haa, hra, h6, h7⟩ | ⟨rfl, h6, h7⟩
        · omega
        · refine ⟨M2, ?_, (fin M2 h6 h7).1, (fin M2 h6 h7).2, b1, b2'⟩
          show L_X7_findOverlaps_28 g (L_X7_findOverlaps_18 g n) (nI s) (m + 1) _ _ _ = _
          rw [L_X7_findOverlaps_28]
          unfold B_X7_findOverlaps_79
          simp (disch := omega) only [↓ite_b2r, ↓ite_nb2r, ↓lit_m1, ↓lit_m2, lit_0, lit_1, lit_2, lit_3, lit_4, lit_5, lit_6, lit_7, lit_8, lit_9, lit_10, lit_11, lit_12, lit_13, lit_14, lit_15, lit_16, lit_17, lit_18, lit_19, lit_20, lit_21, lit_22, lit_23, lit_24, lit_25, lit_26, lit_27, lit_28, lit_29, lit_30, lit_31, lit_32, lit_33, lit_34, lit_35, lit_36, lit_40, lit_41, lit_42, lit_44, lit_48, lit_57, lit_59, lit_62, lit_63, lit_64, lit_82, lit_98, lit_99, lit_100, lit_101, lit_102, lit_103, lit_104, lit_105, lit_106, lit_107, lit_108, lit_109, lit_110, lit_111, lit_112, lit_113, lit_119, lit_120, lit_127, lit_128, lit_149, lit_150, lit_202, lit_240, lit_262, lit_894, lit_900, lit_999, lit_1000, lit_2000, lit_2662, lit_2663, lit_2695, lit_2701, lit_2702, lit_3602, lit_10806, nI_add, pk_mul, cl_nI, inb_nI, nI_leI, nI_ltI, nI_eq, nI_eq_m1, m1_eq_nI, nI_eq_m2, div_nI, rem_nI, Option.bind_some, b2_0, b2_1, isb_b2, if_true_, if_false_, ↓reduceIte, reduceCtorEq, not_true_eq_false, not_false_eq_true, bt_hasBit, ult, Nat.add_zero, false_and, true_and, and_true, and_false, Nat.reduceLeDiff, Nat.reduceEqDiff, Nat.reduceLT, Bool.toNat_true, Bool.toNat_false, decide_true, decide_false, Bool.not_true, Bool.not_false, Bool.false_and, Bool.true_and, Bool.and_true, Bool.and_false, Bool.or_false, Bool.true_or, Bool.or_true, Bool.false_or, Nat.le_refl]
      · rw [a1 t ht i hi]
        cases An N s t <;> simp
      · rw [a2 s' hs' t ht]
        cases An N s t <;> simp
  · obtain ⟨M1, rfl, a1, a2, a3, a4⟩ := hσ
    refine ⟨M1, ?_, fun t ht s hs => a1 t ht s hs, fun s hs t ht => ?_, a3, a4⟩
    · show L_X7_findOverlaps_18 g (n + 1) _ _ = some M1
      rw [L_X7_findOverlaps_18]
      simp (disch := omega) only [↓ite_b2r, ↓ite_nb2r, ↓lit_m1, ↓lit_m2, lit_0, lit_1, lit_2, lit_3, lit_4, lit_5, lit_6, lit_7, lit_8, lit_9, lit_10, lit_11, lit_12, lit_13, lit_14, lit_15, lit_16, lit_17, lit_18, lit_19, lit_20, lit_21, lit_22, lit_23, lit_24, lit_25, lit_26, lit_27, lit_28, lit_29, lit_30, lit_31, lit_32, lit_33, lit_34, lit_35, lit_36, lit_40, lit_41, lit_42, lit_44, lit_48, lit_57, lit_59, lit_62, lit_63, lit_64, lit_82, lit_98, lit_99, lit_100, lit_101, lit_102, lit_103, lit_104, lit_105, lit_106, lit_107, lit_108, lit_109, lit_110, lit_111, lit_112, lit_113, lit_119, lit_120, lit_127, lit_128, lit_149, lit_150, lit_202, lit_240, lit_262, lit_894, lit_900, lit_999, lit_1000, lit_2000, lit_2662, lit_2663, lit_2695, lit_2701, lit_2702, lit_3602, lit_10806, nI_add, pk_mul, cl_nI, inb_nI, nI_leI, nI_ltI, nI_eq, nI_eq_m1, m1_eq_nI, nI_eq_m2, div_nI, rem_nI, Option.bind_some, b2_0, b2_1, isb_b2, if_true_, if_false_, ↓reduceIte, reduceCtorEq, not_true_eq_false, not_false_eq_true, bt_hasBit, ult, Nat.add_zero, false_and, true_and, and_true, and_false, Nat.reduceLeDiff, Nat.reduceEqDiff, Nat.reduceLT, Bool.toNat_true, Bool.toNat_false, decide_true, decide_false, Bool.not_true, Bool.not_false, Bool.false_and, Bool.true_and, Bool.and_true, Bool.and_false, Bool.or_false, Bool.true_or, Bool.or_true, Bool.false_or, Nat.le_refl]
    · rw [a2 s hs t ht, decide_eq_true hs, Bool.true_and]
end FO
