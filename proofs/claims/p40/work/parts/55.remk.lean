/-! ===== a section is removed: the desk and the reference ===== -/
section RK
variable {N : Row} {s : Nat}
theorem c_hasR (M : Mem) (g : Nat) {t : Nat} (ht : t < 20) : f_X7_has g (nI t) M = some (b2 (!decide (M.1 g 2 t = mII))) := by
  unfold f_X7_has
  by_cases h : M.1 g 2 t = mII
  · simp (disch := omega) only [↓ite_b2r, ↓ite_nb2r, ↓lit_m1, ↓lit_m2, lit_0, lit_1, lit_2, lit_3, lit_4, lit_5, lit_6, lit_7, lit_8, lit_9, lit_10, lit_11, lit_12, lit_13, lit_14, lit_15, lit_16, lit_17, lit_18, lit_19, lit_20, lit_21, lit_22, lit_23, lit_24, lit_25, lit_26, lit_27, lit_28, lit_29, lit_30, lit_31, lit_32, lit_33, lit_34, lit_35, lit_36, lit_40, lit_41, lit_42, lit_44, lit_48, lit_57, lit_59, lit_62, lit_63, lit_64, lit_82, lit_98, lit_99, lit_100, lit_101, lit_102, lit_103, lit_104, lit_105, lit_106, lit_107, lit_108, lit_109, lit_110, lit_111, lit_112, lit_113, lit_119, lit_120, lit_127, lit_128, lit_149, lit_150, lit_202, lit_240, lit_262, lit_894, lit_900, lit_999, lit_1000, lit_2000, lit_2662, lit_2663, lit_2695, lit_2701, lit_2702, lit_3602, lit_10806, nI_add, pk_mul, cl_nI, inb_nI, nI_leI, nI_ltI, nI_eq, nI_eq_m1, m1_eq_nI, nI_eq_m2, div_nI, rem_nI, Option.bind_some, b2_0, b2_1, isb_b2, if_true_, if_false_, ↓reduceIte, reduceCtorEq, not_true_eq_false, not_false_eq_true, bt_hasBit, ult, Nat.add_zero, false_and, true_and, and_true, and_false, Nat.reduceLeDiff, Nat.reduceEqDiff, Nat.reduceLT, Bool.toNat_true, Bool.toNat_false, decide_true, decide_false, Bool.not_true, Bool.not_false, Bool.false_and, Bool.true_and, Bool.and_true, Bool.and_false, Bool.or_false, Bool.true_or, Bool.or_true, Bool.false_or, show ¬ 20 ≤ t by omega, Nat.not_lt_zero, h] <;> rfl
  · simp (disch := omega) only [↓ite_b2r, ↓ite_nb2r, ↓lit_m1, ↓lit_m2, lit_0, lit_1, lit_2, lit_3, lit_4, lit_5, lit_6, lit_7, lit_8, lit_9, lit_10, lit_11, lit_12, lit_13, lit_14, lit_15, lit_16, lit_17, lit_18, lit_19, lit_20, lit_21, lit_22, lit_23, lit_24, lit_25, lit_26, lit_27, lit_28, lit_29, lit_30, lit_31, lit_32, lit_33, lit_34, lit_35, lit_36, lit_40, lit_41, lit_42, lit_44, lit_48, lit_57, lit_59, lit_62, lit_63, lit_64, lit_82, lit_98, lit_99, lit_100, lit_101, lit_102, lit_103, lit_104, lit_105, lit_106, lit_107, lit_108, lit_109, lit_110, lit_111, lit_112, lit_113, lit_119, lit_120, lit_127, lit_128, lit_149, lit_150, lit_202, lit_240, lit_262, lit_894, lit_900, lit_999, lit_1000, lit_2000, lit_2662, lit_2663, lit_2695, lit_2701, lit_2702, lit_3602, lit_10806, nI_add, pk_mul, cl_nI, inb_nI, nI_leI, nI_ltI, nI_eq, nI_eq_m1, m1_eq_nI, nI_eq_m2, div_nI, rem_nI, Option.bind_some, b2_0, b2_1, isb_b2, if_true_, if_false_, ↓reduceIte, reduceCtorEq, not_true_eq_false, not_false_eq_true, bt_hasBit, ult, Nat.add_zero, false_and, true_and, and_true, and_false, Nat.reduceLeDiff, Nat.reduceEqDiff, Nat.reduceLT, Bool.toNat_true, Bool.toNat_false, decide_true, decide_false, Bool.not_true, Bool.not_false, Bool.false_and, Bool.true_and, Bool.and_true, Bool.and_false, Bool.or_false, Bool.true_or, Bool.or_true, Bool.false_or, show ¬ 20 ≤ t by omega, Nat.not_lt_zero, h] <;> rfl
theorem c_remLoop {M : Mem} {g : Nat} {S : Int32} {m : Nat} {q : Nat → Nat} (hm : m ≤ 20) (hS : ∀ t, t < 20 → bt S t = gN N s t) (h16 : M.1 g 1 6 = nI m) (hq : ∀ i, i < m → M.1 g 3 i = nI (q i) ∧ q i < 20) : ∃ M1, f_X7_remove g S M = f_X7_findOverlaps g (wr M1 g 1 6 (nI (cntN (fun i => !gN N s (q i)) m))) >>= some ∧ (∀ i, i < m → gN N s (q i) = false → M1.1 g 3 (cntN (fun i => !gN N s (q i)) i) = nI (q i)) ∧ (∀ i, i < m → gN N s (q i) = true → M1.1 g 2 (q i) = mII) ∧ (∀ t, t < 20 → gN N s t = false → M1.1 g 2 t = M.1 g 2 t) ∧ (∀ j, j ≠ 2 → j ≠ 3 → M1.1 g j = M.1 g j) ∧ Fr g M M1 := by
  unfold f_X7_remove
  rw [h16]
  refine loopI (fun n (σ : Int32 × Int32 × Mem) => L_X7_remove_10 g S (nI m) n σ.1 σ.2.1 σ.2.2) (fun i σ => ∃ M1, σ = (nI (cntN (fun i => !gN N s (q i)) i), nI i, M1) ∧ (∀ i', i' < i → gN N s (q i') = false → M1.1 g 3 (cntN (fun i => !gN N s (q i)) i') = nI (q i')) ∧ (∀ x, cntN (fun i => !gN N s (q i)) i ≤ x → M1.1 g 3 x = M.1 g 3 x) ∧ (∀ i', i' < i → gN N s (q i') = true → M1.1 g 2 (q i') = mII) ∧ (∀ t, t < 20 → gN N s t = false → M1.1 g 2 t = M.1 g 2 t) ∧ (∀ j, j ≠ 2 → j ≠ 3 → M1.1 g j = M.1 g j) ∧ Fr g M M1) (fun o => ∃ M1, o = f_X7_findOverlaps g (wr M1 g 1 6 (nI (cntN (fun i => !gN N s (q i)) m))) >>= some ∧ (∀ i, i < m → gN N s (q i) = false → M1.1 g 3 (cntN (fun i => !gN N s (q i)) i) = nI (q i)) ∧ (∀ i, i < m → gN N s (q i) = true → M1.1 g 2 (q i) = mII) ∧ (∀ t, t < 20 → gN N s t = false → M1.1 g 2 t = M.1 g 2 t) ∧ (∀ j, j ≠ 2 → j ≠ 3 → M1.1 g j = M.1 g j) ∧ Fr g M M1) m (fun n i σ hi hσ => ?_) (fun n σ hσ => ?_) FU (FU_lt (by omega)) (nI 0, nI 0, M) ⟨M, rfl, fun _ h => absurd h (Nat.not_lt_zero _), fun _ _ => rfl, fun _ h => absurd h (Nat.not_lt_zero _), fun _ _ _ => rfl, fun _ _ _ => rfl, Fr.rf⟩
  · obtain ⟨M1, rfl, a1, a2, a3, a4, a5, a6⟩ := hσ
    refine Or.inr ?_
    show ∃ s', L_X7_remove_10 g S (nI m) (n + 1) _ _ _ = L_X7_remove_10 g S (nI m) n _ _ _ ∧ _
    have hle := cntN_le (fun i => !gN N s (q i)) i
    obtain ⟨v1, v2⟩ := hq i hi
    have e3 : M1.1 g 3 i = nI (q i) := by rw [a2 i hle]; exact v1
    have hbit := hS (q i) v2
    have hcs : cntN (fun i => !gN N s (q i)) (i + 1) = cntN (fun i => !gN N s (q i)) i + (!gN N s (q i)).toNat := cntN_s _ _
    have hh := c_hasR M1 g v2
    rw [L_X7_remove_10]
    unfold B_X7_remove_79
    cases hg : gN N s (q i) with
    | false =>
      rw [hg] at hbit hcs
      have hcs : cntN (fun i => !gN N s (q i)) (i + 1) = cntN (fun i => !gN N s (q i)) i + 1 := hcs
      refine ⟨(nI (cntN (fun i => !gN N s (q i)) i + 1), nI (i + 1), wr M1 g 3 (cntN (fun i => !gN N s (q i)) i) (nI (q i))), ?_, wr M1 g 3 (cntN (fun i => !gN N s (q i)) i) (nI (q i)), ?_, fun i' h1 h2 => ?_, fun x hx => ?_, fun i' h1 h2 => ?_, fun t h1 h2 => ?_, fun j h1 h2 => by rw [wr_other _ _ _ _ _ (by omega)]; exact a5 j h1 h2, a6.tr (Fr_wr _ _ _ _ _)⟩
      · simp (disch := omega) only [↓ite_b2r, ↓ite_nb2r, ↓lit_m1, ↓lit_m2, lit_0, lit_1, lit_2, lit_3, lit_4, lit_5, lit_6, lit_7, lit_8, lit_9, lit_10, lit_11, lit_12, lit_13, lit_14, lit_15, lit_16, lit_17, lit_18, lit_19, lit_20, lit_21, lit_22, lit_23, lit_24, lit_25, lit_26, lit_27, lit_28, lit_29, lit_30, lit_31, lit_32, lit_33, lit_34, lit_35, lit_36, lit_40, lit_41, lit_42, lit_44, lit_48, lit_57, lit_59, lit_62, lit_63, lit_64, lit_82, lit_98, lit_99, lit_100, lit_101, lit_102, lit_103, lit_104, lit_105, lit_106, lit_107, lit_108, lit_109, lit_110, lit_111, lit_112, lit_113, lit_119, lit_120, lit_127, lit_128, lit_149, lit_150, lit_202, lit_240, lit_262, lit_894, lit_900, lit_999, lit_1000, lit_2000, lit_2662, lit_2663, lit_2695, lit_2701, lit_2702, lit_3602, lit_10806, nI_add, pk_mul, cl_nI, inb_nI, nI_leI, nI_ltI, nI_eq, nI_eq_m1, m1_eq_nI, nI_eq_m2, div_nI, rem_nI, Option.bind_some, b2_0, b2_1, isb_b2, if_true_, if_false_, ↓reduceIte, reduceCtorEq, not_true_eq_false, not_false_eq_true, bt_hasBit, ult, Nat.add_zero, false_and, true_and, and_true, and_false, Nat.reduceLeDiff, Nat.reduceEqDiff, Nat.reduceLT, Bool.toNat_true, Bool.toNat_false, decide_true, decide_false, Bool.not_true, Bool.not_false, Bool.false_and, Bool.true_and, Bool.and_true, Bool.and_false, Bool.or_false, Bool.true_or, Bool.or_true, Bool.false_or, Nat.not_le.mpr hi, show ¬ 20 ≤ i by omega, show ¬ 20 ≤ cntN (fun i => !gN N s (q i)) i by omega, e3, hbit]
      · rw [hcs]
      · rw [wr_same]
        by_cases hii : i' = i
        · rw [hii, upd_same]
        · have hlt : cntN (fun i => !gN N s (q i)) i' + 1 ≤ cntN (fun i => !gN N s (q i)) i := by
            have := cnt_mon (p := fun i => !gN N s (q i)) (show i' + 1 ≤ i by omega)
            rw [cntN_s] at this
            rw [h2] at this
            exact this
          rw [upd_other (by omega)]
          exact a1 i' (by omega) h2
      · rw [hcs] at hx
        rw [wr_same, upd_other (by omega)]
        exact a2 x (by omega)
      · rw [wr_other _ _ _ _ _ (by omega)]
        by_cases hii : i' = i
        · rw [hii, hg] at h2; cases h2
        · exact a3 i' (by omega) h2
      · rw [wr_other _ _ _ _ _ (by omega)]; exact a4 t h1 h2
    | true =>
      rw [hg] at hbit hcs
      have hcs : cntN (fun i => !gN N s (q i)) (i + 1) = cntN (fun i => !gN N s (q i)) i := hcs
      by_cases hm2 : M1.1 g 2 (q i) = mII
      · rw [hm2, decide_eq_true rfl] at hh
        refine ⟨(nI (cntN (fun i => !gN N s (q i)) i), nI (i + 1), M1), ?_, M1, ?_, fun i' h1 h2 => ?_, fun x hx => ?_, fun i' h1 h2 => ?_, a4, a5, a6⟩
        · simp (disch := omega) only [↓ite_b2r, ↓ite_nb2r, ↓lit_m1, ↓lit_m2, lit_0, lit_1, lit_2, lit_3, lit_4, lit_5, lit_6, lit_7, lit_8, lit_9, lit_10, lit_11, lit_12, lit_13, lit_14, lit_15, lit_16, lit_17, lit_18, lit_19, lit_20, lit_21, lit_22, lit_23, lit_24, lit_25, lit_26, lit_27, lit_28, lit_29, lit_30, lit_31, lit_32, lit_33, lit_34, lit_35, lit_36, lit_40, lit_41, lit_42, lit_44, lit_48, lit_57, lit_59, lit_62, lit_63, lit_64, lit_82, lit_98, lit_99, lit_100, lit_101, lit_102, lit_103, lit_104, lit_105, lit_106, lit_107, lit_108, lit_109, lit_110, lit_111, lit_112, lit_113, lit_119, lit_120, lit_127, lit_128, lit_149, lit_150, lit_202, lit_240, lit_262, lit_894, lit_900, lit_999, lit_1000, lit_2000, lit_2662, lit_2663, lit_2695, lit_2701, lit_2702, lit_3602, lit_10806, nI_add, pk_mul, cl_nI, inb_nI, nI_leI, nI_ltI, nI_eq, nI_eq_m1, m1_eq_nI, nI_eq_m2, div_nI, rem_nI, Option.bind_some, b2_0, b2_1, isb_b2, if_true_, if_false_, ↓reduceIte, reduceCtorEq, not_true_eq_false, not_false_eq_true, bt_hasBit, ult, Nat.add_zero, false_and, true_and, and_true, and_false, Nat.reduceLeDiff, Nat.reduceEqDiff, Nat.reduceLT, Bool.toNat_true, Bool.toNat_false, decide_true, decide_false, Bool.not_true, Bool.not_false, Bool.false_and, Bool.true_and, Bool.and_true, Bool.and_false, Bool.or_false, Bool.true_or, Bool.or_true, Bool.false_or, Nat.not_le.mpr hi, show ¬ 20 ≤ i by omega, show ¬ 20 ≤ cntN (fun i => !gN N s (q i)) i by omega, e3, hbit, hh]
        · rw [hcs]
        · by_cases hii : i' = i
          · rw [hii, hg] at h2; cases h2
          · exact a1 i' (by omega) h2
        · rw [hcs] at hx; exact a2 x hx
        · by_cases hii : i' = i
          · rw [hii]; exact hm2
          · exact a3 i' (by omega) h2
      · rw [decide_eq_false hm2] at hh
        refine ⟨(nI (cntN (fun i => !gN N s (q i)) i), nI (i + 1), wr M1 g 2 (q i) mII), ?_, wr M1 g 2 (q i) mII, ?_, fun i' h1 h2 => ?_, fun x hx => ?_, fun i' h1 h2 => ?_, fun t h1 h2 => ?_, fun j h1 h2 => by rw [wr_other _ _ _ _ _ (by omega)]; exact a5 j h1 h2, a6.tr (Fr_wr _ _ _ _ _)⟩
        · simp (disch := omega) only [↓ite_b2r, ↓ite_nb2r, ↓lit_m1, ↓lit_m2, lit_0, lit_1, lit_2, lit_3, lit_4, lit_5, lit_6, lit_7, lit_8, lit_9, lit_10, lit_11, lit_12, lit_13, lit_14, lit_15, lit_16, lit_17, lit_18, lit_19, lit_20, lit_21, lit_22, lit_23, lit_24, lit_25, lit_26, lit_27, lit_28, lit_29, lit_30, lit_31, lit_32, lit_33, lit_34, lit_35, lit_36, lit_40, lit_41, lit_42, lit_44, lit_48, lit_57, lit_59, lit_62, lit_63, lit_64, lit_82, lit_98, lit_99, lit_100, lit_101, lit_102, lit_103, lit_104, lit_105, lit_106, lit_107, lit_108, lit_109, lit_110, lit_111, lit_112, lit_113, lit_119, lit_120, lit_127, lit_128, lit_149, lit_150, lit_202, lit_240, lit_262, lit_894, lit_900, lit_999, lit_1000, lit_2000, lit_2662, lit_2663, lit_2695, lit_2701, lit_2702, lit_3602, lit_10806, nI_add, pk_mul, cl_nI, inb_nI, nI_leI, nI_ltI, nI_eq, nI_eq_m1, m1_eq_nI, nI_eq_m2, div_nI, rem_nI, Option.bind_some, b2_0, b2_1, isb_b2, if_true_, if_false_, ↓reduceIte, reduceCtorEq, not_true_eq_false, not_false_eq_true, bt_hasBit, ult, Nat.add_zero, false_and, true_and, and_true, and_false, Nat.reduceLeDiff, Nat.reduceEqDiff, Nat.reduceLT, Bool.toNat_true, Bool.toNat_false, decide_true, decide_false, Bool.not_true, Bool.not_false, Bool.false_and, Bool.true_and, Bool.and_true, Bool.and_false, Bool.or_false, Bool.true_or, Bool.or_true, Bool.false_or, Nat.not_le.mpr hi, show ¬ 20 ≤ i by omega, show ¬ 20 ≤ cntN (fun i => !gN N s (q i)) i by omega, e3, hbit, hh, v2]
        · rw [hcs]
        · rw [wr_other _ _ _ _ _ (by omega)]
          by_cases hii : i' = i
          · rw [hii, hg] at h2; cases h2
          · exact a1 i' (by omega) h2
        · rw [hcs] at hx
          rw [wr_other _ _ _ _ _ (by omega)]
          exact a2 x hx
        · rw [wr_same]
          by_cases hqq : q i' = q i
          · rw [hqq, upd_same]
          · rw [upd_other hqq]
            refine a3 i' ?_ h2
            rcases Nat.lt_or_ge i' i with h3 | h3
            · exact h3
            · exact absurd (by rw [show i' = i by omega]) hqq
        · rw [wr_same, upd_other (fun e => by rw [e, hg] at h2; cases h2)]
          exact a4 t h1 h2
  · obtain ⟨M1, rfl, a1, a2, a3, a4, a5, a6⟩ := hσ
    refine ⟨M1, ?_, a1, a3, a4, a5, a6⟩
    show L_X7_remove_10 g S (nI m) (n + 1) _ _ _ = _
    rw [L_X7_remove_10]
    unfold B_X7_remove_85
    simp (disch := omega) only [↓ite_b2r, ↓ite_nb2r, ↓lit_m1, ↓lit_m2, lit_0, lit_1, lit_2, lit_3, lit_4, lit_5, lit_6, lit_7, lit_8, lit_9, lit_10, lit_11, lit_12, lit_13, lit_14, lit_15, lit_16, lit_17, lit_18, lit_19, lit_20, lit_21, lit_22, lit_23, lit_24, lit_25, lit_26, lit_27, lit_28, lit_29, lit_30, lit_31, lit_32, lit_33, lit_34, lit_35, lit_36, lit_40, lit_41, lit_42, lit_44, lit_48, lit_57, lit_59, lit_62, lit_63, lit_64, lit_82, lit_98, lit_99, lit_100, lit_101, lit_102, lit_103, lit_104, lit_105, lit_106, lit_107, lit_108, lit_109, lit_110, lit_111, lit_112, lit_113, lit_119, lit_120, lit_127, lit_128, lit_149, lit_150, lit_202, lit_240, lit_262, lit_894, lit_900, lit_999, lit_1000, lit_2000, lit_2662, lit_2663, lit_2695, lit_2701, lit_2702, lit_3602, lit_10806, nI_add, pk_mul, cl_nI, inb_nI, nI_leI, nI_ltI, nI_eq, nI_eq_m1, m1_eq_nI, nI_eq_m2, div_nI, rem_nI, Option.bind_some, b2_0, b2_1, isb_b2, if_true_, if_false_, ↓reduceIte, reduceCtorEq, not_true_eq_false, not_false_eq_true, bt_hasBit, ult, Nat.add_zero, false_and, true_and, and_true, and_false, Nat.reduceLeDiff, Nat.reduceEqDiff, Nat.reduceLT, Bool.toNat_true, Bool.toNat_false, decide_true, decide_false, Bool.not_true, Bool.not_false, Bool.false_and, Bool.true_and, Bool.and_true, Bool.and_false, Bool.or_false, Bool.true_or, Bool.or_true, Bool.false_or, Nat.le_refl] <;> rfl
theorem c_removeNow {M : Mem} {g : Nat} (hN : WFa N) (h : RD (M.1 g) N) (hs0 : s ≠ 0) (hs : s < 20) (hus : us N s = true) (htou : Tou N s = false) : ∃ M', f_X1_removeNow g (nI s) M = some (nI (blN N s + 1), M') ∧ RD (M'.1 g) (remS N s) ∧ Fr g M M' := by
  have hR := WFt_rem hN.1.1 hs0
  have hm20 := manyS_le N
  obtain ⟨h16, q, q1, q2, q3, q4⟩ := h.2.1
  have hS : ∀ t, t < 20 → bt (M.1 g 6 s) t = gN N s t := fun t ht => by
    rw [h.1.2.2.2.2.1 s hs t (by omega), decide_eq_true ht, hus, Bool.true_and, Bool.true_and]
    rfl
  obtain ⟨M1, e1, b1, b2', ⟨f, b3, b4, b5⟩, b6, b7⟩ := c_removeOf (M := M) (g := g) (S := M.1 g 6 s) hN.1.2.2.2.2.2 h.2.2.2.2.2.1 hS
  have r1 : M1.1 g 1 6 = nI (manyS N) := by rw [b6 1 (by omega) (by omega)]; exact h16
  have r3 : ∀ i, i < manyS N → M1.1 g 3 i = nI (q i) ∧ q i < 20 := fun i hi => by rw [b6 3 (by omega) (by omega)]; exact ⟨(q1 i hi).1, (q1 i hi).2.1⟩
  obtain ⟨M2, e2, d1, d2, d3, d4, d5⟩ := c_remLoop (M := M1) (g := g) (S := M.1 g 6 s) hm20 hS r1 r3
  have hm : manyS (remS N s) = cntN (fun i => !gN N s (q i)) (manyS N) := by
    have := cnt_perm (n := 20) (m := manyS N) (f := fun t => us N t && !gN N s t) (q := q) (fun i hi => (q1 i hi).2.1) q3 (fun t ht hf => by
      rw [Bool.and_eq_true] at hf
      exact q2 t ht hf.1)
    unfold manyS
    rw [cntN_c (p := us (remS N s)) (q := fun t => us N t && !gN N s t) (fun t ht => remS_us hN.1.1 ht), ← this]
    exact cntN_c fun i hi => by rw [(q1 i hi).2.2, Bool.true_and]
  have hcle : cntN (fun i => !gN N s (q i)) (manyS N) ≤ manyS N := cntN_le _ _
  generalize hM3 : wr M2 g 1 6 (nI (cntN (fun i => !gN N s (q i)) (manyS N))) = M3
  rw [hM3] at e2
  have k1 : M3.1 g 1 6 = nI (manyS (remS N s)) := by rw [← hM3, wr_same, upd_same, hm]
  have kj : ∀ j, j ≠ 1 → M3.1 g j = M2.1 g j := fun j h1 => by rw [← hM3, wr_other _ _ _ _ _ (by omega)]
  have kF : Fr g M M3 := by rw [← hM3]; exact (b7.tr d5).tr (Fr_wr _ _ _ _ _)
  have hlow : ∀ t, t < 20 → remS N s (22 + t) = N (22 + t) := fun t ht => remS_lo (by omega) (by omega)
  have hold : ∀ t, t < 20 → us (remS N s) t = true → us N t = true ∧ gN N s t = false := fun t ht hu => by
    rw [remS_us hN.1.1 ht, Bool.and_eq_true, Bool.not_eq_true'] at hu
    exact hu
  have p2 : ∀ t, t < 20 → us (remS N s) t = true → M3.1 g 2 t = remS N s (22 + t) := fun t ht hu => by
    obtain ⟨a, b⟩ := hold t ht hu
    rw [kj 2 (by omega), d3 t ht b, b6 2 (by omega) (by omega), hlow t ht]
    exact h.1.1 t ht a
  have p2n : ∀ t, t < 20 → us (remS N s) t = false → M3.1 g 2 t = mII := fun t ht hu => by
    rw [remS_us hN.1.1 ht] at hu
    rw [kj 2 (by omega)]
    cases hun : us N t with
    | false => rw [d3 t ht (by unfold gN; rw [hun, Bool.false_and]), b6 2 (by omega) (by omega)]; exact h.1.2.1 t ht hun
    | true =>
      rw [hun, Bool.true_and, Bool.not_eq_false'] at hu
      obtain ⟨i, c1, c2⟩ := q2 t ht hun
      rw [← c2]
      exact d2 i c1 (by rw [c2]; exact hu)
  obtain ⟨M4, f1, f2, f3, f4, f5⟩ := c_findOverlaps (M := M3) (g := g) hR p2 p2n
  refine ⟨M4, ?_, ?_, kF.tr f5⟩
  · unfold f_X1_removeNow
    rw [c_subtreeOf, rowAt_nI hs (by omega), Option.bind_some, e1, Option.bind_some, e2, f1, c_subCount h.1 hs hus]
    rfl
  · have hj : ∀ j, j ≠ 1 → j ≠ 2 → j ≠ 3 → j ≠ 6 → j ≠ 7 → j ≠ 14 → j ≠ 15 → M4.1 g j = M.1 g j := fun j h1 h2 h3 h4 h5 h6 h7 => (f4 j h4 h5).trans ((kj j h1).trans ((d4 j h2 h3).trans (b6 j h6 h7)))
    refine RD_tree (D := M.1 g) hN (remS_lo (by omega) (by omega)) (fun k h1 h2 => remS_lo (by omega) h2) ⟨fun t ht hu => ?_, fun t ht hu => ?_, fun t ht hu => ?_, fun t l ht hl hu => ?_, f2, f3⟩ ⟨?_, ?_⟩ ?_ (fun j hjj => hj j (by omega) (by omega) (by omega) (by omega) (by omega) (by omega) (by omega)) (fun c s' hc hs' hk hu ha => ?_) h
    · rw [f4 2 (by omega) (by omega)]; exact p2 t ht hu
    · rw [f4 2 (by omega) (by omega)]; exact p2n t ht hu
    · rw [hj 4 (by omega) (by omega) (by omega) (by omega) (by omega) (by omega) (by omega), remS_lo (by omega) (by omega)]
      exact h.1.2.2.1 t ht (hold t ht hu).1
    · rw [hj 5 (by omega) (by omega) (by omega) (by omega) (by omega) (by omega) (by omega), remS_lo (by omega) (by omega)]
      exact h.1.2.2.2.1 t l ht hl (hold t ht hu).1
    · rw [f4 1 (by omega) (by omega)]; exact k1
    · have hw : ∀ x, ∃ i, x < cntN (fun i => !gN N s (q i)) (manyS N) → i < manyS N ∧ gN N s (q i) = false ∧ cntN (fun i => !gN N s (q i)) i = x := fun x => by
        by_cases hx : x < cntN (fun i => !gN N s (q i)) (manyS N)
        · obtain ⟨i, c1, c2, c3⟩ := cnt_at hx
          exact ⟨i, fun _ => ⟨c1, by simpa using c2, c3⟩⟩
        · exact ⟨0, fun h => absurd h hx⟩
      obtain ⟨w, hw⟩ := Classical.axiomOfChoice hw
      rw [hm]
      have hmono : ∀ i j, i < j → j < cntN (fun i => !gN N s (q i)) (manyS N) → w i < w j := fun i j hij hjm => by
        obtain ⟨c1, c2, c3⟩ := hw i (by omega)
        obtain ⟨c4, c5, c6⟩ := hw j hjm
        rcases Nat.lt_or_ge (w i) (w j) with h1 | h1
        · exact h1
        · have := cnt_mon (p := fun i => !gN N s (q i)) h1
          omega
      refine ⟨fun x => q (w x), fun i hi => ?_, fun t ht hu => ?_, fun i j hij hjm => ?_, fun i j hij hjm h1 h2 => ?_⟩
      · obtain ⟨c1, c2, c3⟩ := hw i hi
        obtain ⟨v1, v2, v3⟩ := q1 (w i) c1
        refine ⟨?_, v2, by rw [remS_us hN.1.1 v2, v3, c2]; rfl⟩
        rw [f4 3 (by omega) (by omega), kj 3 (by omega)]
        have := d1 (w i) c1 c2
        rw [c3] at this
        exact this
      · obtain ⟨a, b⟩ := hold t ht hu
        obtain ⟨i, c1, c2⟩ := q2 t ht a
        have hlt : cntN (fun i => !gN N s (q i)) i < cntN (fun i => !gN N s (q i)) (manyS N) := by
          have := cnt_mon (p := fun i => !gN N s (q i)) (show i + 1 ≤ manyS N by omega)
          rw [cntN_s] at this
          rw [c2, b] at this
          exact this
        refine ⟨_, hlt, ?_⟩
        obtain ⟨c4, c5, c6⟩ := hw _ hlt
        have hwi : w (cntN (fun i => !gN N s (q i)) i) = i := by
          rcases Nat.lt_trichotomy (w (cntN (fun i => !gN N s (q i)) i)) i with h1 | h1 | h1
          · have := cnt_mon (p := fun i => !gN N s (q i)) (show w (cntN (fun i => !gN N s (q i)) i) + 1 ≤ i by omega)
            rw [cntN_s] at this
            rw [c5, c6] at this
            have : cntN (fun i => !gN N s (q i)) i + 1 ≤ cntN (fun i => !gN N s (q i)) i := this
            omega
          · exact h1
          · have := cnt_mon (p := fun i => !gN N s (q i)) (show i + 1 ≤ w (cntN (fun i => !gN N s (q i)) i) by omega)
            rw [cntN_s] at this
            rw [c2, b, c6] at this
            have : cntN (fun i => !gN N s (q i)) i + 1 ≤ cntN (fun i => !gN N s (q i)) i := this
            omega
        dsimp only
        rw [hwi, c2]
      · exact q3 (w i) (w j) (hmono i j hij hjm) (hw j hjm).1
      · have := q4 (w i) (w j) (hmono i j hij hjm) (hw j hjm).1 h1 h2
        have v1 := (q1 (w i) (hw i (by omega)).1).2.1
        have v2 := (q1 (w j) (hw j hjm).1).2.1
        show cl (remS N s (42 + q (w i))) < cl (remS N s (42 + q (w j)))
        rw [remS_lo (k := 42 + q (w i)) (by omega) (by omega), remS_lo (k := 42 + q (w j)) (by omega) (by omega)]
        exact this
    · have h14 : M4.1 g 14 = M1.1 g 14 := by rw [f4 14 (by omega) (by omega), kj 14 (by omega), d4 14 (by omega) (by omega)]
      have h15 : M4.1 g 15 = M1.1 g 15 := by rw [f4 15 (by omega) (by omega), kj 15 (by omega), d4 15 (by omega) (by omega)]
      obtain ⟨g1, g2⟩ := remS_hn (s := s) hN.1.2.2.2.2.2
      unfold RDh
      rw [h14, h15, g1, g2]
      refine ⟨b1, f, b3, b2'.trans b4, fun e w he hw => ?_⟩
      obtain ⟨e', c1, c2, c3⟩ := cnt_at he
      subst c3
      rw [b5 e' w c1 c2 hw, remS_e (by omega), filR_at _ e' w c1 c2 hw]
    · obtain ⟨a, b⟩ := hold s' hs' hu
      have hks := sec_us hN.1.2.1 hc hk
      rw [An_rem hN.1.1 hs0 hs' a (by rw [← gN_us a]; exact b)] at ha
      exact ⟨a, ha⟩
end RK
