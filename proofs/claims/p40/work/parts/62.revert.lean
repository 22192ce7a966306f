/-! ===== revert ===== -/
def revT (N : Row) (s : Nat) (T : Int32) (k : Nat) : Int32 := if gN N s (k / 6) = true then wasK N T k (N (82 + k)) 0 (hn N) else N (82 + k)
def revS (N : Row) (s : Nat) (T : Int32) : Nat × Row := becS (revT N s T) mI (0, N) 20
theorem revS_eq (N : Row) (s : Nat) (T : Int32) : becS (revT N s T) mI (0, N) 20 = revS N s T := rfl
section RV
variable {M : Mem} {g : Nat} {N : Row}
theorem wasK_v {T : Int32} {k : Nat} {v : Int32} (hh : WFh N) (hv : v = nI (cl v) ∧ cl v < 1000) : ∀ d e, e + d ≤ hn N → wasK N T k v e d = nI (cl (wasK N T k v e d)) ∧ cl (wasK N T k v e d) < 1000
  | 0, _, _ => hv
  | d + 1, e, h => by
    rw [wasK]
    by_cases hc : wasE N T k e = true
    · rw [if_pos hc]; exact (hh.2 e (by omega)).2.2
    · rw [if_neg hc]; exact wasK_v hh hv d (e + 1) (by omega)
theorem revT_v (hN : WFa N) {s : Nat} {T : Int32} {k : Nat} (hk : k < 120) : revT N s T k = nI (cl (revT N s T k)) ∧ cl (revT N s T k) < 1000 := by
  unfold revT
  by_cases hg : gN N s (k / 6) = true
  · rw [if_pos hg]; exact wasK_v hN.1.2.2.2.2.2 (hN.1.2.2.1.1 k hk) _ _ (by omega)
  · rw [if_neg hg]; exact hN.1.2.2.1.1 k hk
theorem c_revert28 {S : Int32} {s : Nat} {T : Int32} (hN : WFa N) (h : RD (M.1 g) N) (hS : ∀ t, t < 20 → bt S t = gN N s t) (h17 : ∀ k, k < 120 → M.1 g 17 k = wasK N T k (M.1 g 5 k) 0 (hn N)) : ∃ M', L_X1_revertNow_28 g S FU 0 M = some (nI (revS N s T).1, M') ∧ RD (M'.1 g) (revS N s T).2 ∧ Fr g M M' := by
  refine loopI (fun n (σ : Int32 × Mem) => L_X1_revertNow_28 g S n σ.1 σ.2) (fun i σ => ∃ M1, σ = (nI i, M1) ∧ (∀ k, k < 120 → M1.1 g 17 k = if k < i ∧ gN N s (k / 6) = false then M.1 g 5 k else M.1 g 17 k) ∧ (∀ j, j ≠ 17 → M1.1 g j = M.1 g j) ∧ Fr g M M1) (fun o => ∃ M', o = some (nI (revS N s T).1, M') ∧ RD (M'.1 g) (revS N s T).2 ∧ Fr g M M') 120 (fun n i σ hi hσ => ?_) (fun n σ hσ => ?_) FU (by decide) (nI 0, M) ⟨M, rfl, fun k hk => by rw [if_neg (fun z => Nat.not_lt_zero _ z.1)], fun _ _ => rfl, Fr.rf⟩
  · obtain ⟨M1, rfl, a1, a2, a3⟩ := hσ
    refine Or.inr ?_
    show ∃ s', L_X1_revertNow_28 g S (n + 1) _ _ = L_X1_revertNow_28 g S n _ _ ∧ _
    have hb := hS (i / 6) (by omega)
    rw [L_X1_revertNow_28]
    unfold B_X1_revertNow_62
    cases hg : gN N s (i / 6) with
    | true =>
      rw [hg] at hb
      refine ⟨(nI (i + 1), M1), ?_, M1, rfl, fun k hk => ?_, a2, a3⟩
      · simp (disch := omega) only [↓ite_b2r, ↓ite_nb2r, ↓lit_m1, ↓lit_m2, lit_0, lit_1, lit_2, lit_3, lit_4, lit_5, lit_6, lit_7, lit_8, lit_9, lit_10, lit_11, lit_12, lit_13, lit_14, lit_15, lit_16, lit_17, lit_18, lit_19, lit_20, lit_21, lit_22, lit_23, lit_24, lit_25, lit_26, lit_27, lit_28, lit_29, lit_30, lit_31, lit_32, lit_33, lit_34, lit_35, lit_36, lit_40, lit_41, lit_42, lit_44, lit_48, lit_57, lit_59, lit_62, lit_63, lit_64, lit_82, lit_98, lit_99, lit_100, lit_101, lit_102, lit_103, lit_104, lit_105, lit_106, lit_107, lit_108, lit_109, lit_110, lit_111, lit_112, lit_113, lit_119, lit_120, lit_127, lit_128, lit_149, lit_150, lit_202, lit_240, lit_262, lit_894, lit_900, lit_999, lit_1000, lit_2000, lit_2662, lit_2663, lit_2695, lit_2701, lit_2702, lit_3602, lit_10806, nI_add, pk_mul, cl_nI, inb_nI, nI_leI, nI_ltI, nI_eq, nI_eq_m1, m1_eq_nI, nI_eq_m2, div_nI, rem_nI, Option.bind_some, b2_0, b2_1, isb_b2, if_true_, if_false_, ↓reduceIte, reduceCtorEq, not_true_eq_false, not_false_eq_true, bt_hasBit, ult, Nat.add_zero, false_and, true_and, and_true, and_false, Nat.reduceLeDiff, Nat.reduceEqDiff, Nat.reduceLT, Bool.toNat_true, Bool.toNat_false, decide_true, decide_false, Bool.not_true, Bool.not_false, Bool.false_and, Bool.true_and, Bool.and_true, Bool.and_false, Bool.or_false, Bool.true_or, Bool.or_true, Bool.false_or, Nat.not_le.mpr hi, hb]
      · rw [a1 k hk]
        by_cases h2 : k < i ∧ gN N s (k / 6) = false
        · rw [if_pos h2, if_pos ⟨by omega, h2.2⟩]
        · have h5 : ¬ (k < i + 1 ∧ gN N s (k / 6) = false) := fun z => by
            by_cases h4 : k = i
            · have h6 := z.2
              rw [h4, hg] at h6
              cases h6
            · exact h2 ⟨by omega, z.2⟩
          rw [if_neg h2, if_neg h5]
    | false =>
      rw [hg] at hb
      refine ⟨(nI (i + 1), wr M1 g 17 i (M.1 g 5 i)), ?_, wr M1 g 17 i (M.1 g 5 i), rfl, fun k hk => ?_, fun j hj => by rw [wr_other _ _ _ _ _ (by omega)]; exact a2 j hj, a3.tr (Fr_wr _ _ _ _ _)⟩
      · simp (disch := omega) only [↓ite_b2r, ↓ite_nb2r, ↓lit_m1, ↓lit_m2, lit_0, lit_1, lit_2, lit_3, lit_4, lit_5, lit_6, lit_7, lit_8, lit_9, lit_10, lit_11, lit_12, lit_13, lit_14, lit_15, lit_16, lit_17, lit_18, lit_19, lit_20, lit_21, lit_22, lit_23, lit_24, lit_25, lit_26, lit_27, lit_28, lit_29, lit_30, lit_31, lit_32, lit_33, lit_34, lit_35, lit_36, lit_40, lit_41, lit_42, lit_44, lit_48, lit_57, lit_59, lit_62, lit_63, lit_64, lit_82, lit_98, lit_99, lit_100, lit_101, lit_102, lit_103, lit_104, lit_105, lit_106, lit_107, lit_108, lit_109, lit_110, lit_111, lit_112, lit_113, lit_119, lit_120, lit_127, lit_128, lit_149, lit_150, lit_202, lit_240, lit_262, lit_894, lit_900, lit_999, lit_1000, lit_2000, lit_2662, lit_2663, lit_2695, lit_2701, lit_2702, lit_3602, lit_10806, nI_add, pk_mul, cl_nI, inb_nI, nI_leI, nI_ltI, nI_eq, nI_eq_m1, m1_eq_nI, nI_eq_m2, div_nI, rem_nI, Option.bind_some, b2_0, b2_1, isb_b2, if_true_, if_false_, ↓reduceIte, reduceCtorEq, not_true_eq_false, not_false_eq_true, bt_hasBit, ult, Nat.add_zero, false_and, true_and, and_true, and_false, Nat.reduceLeDiff, Nat.reduceEqDiff, Nat.reduceLT, Bool.toNat_true, Bool.toNat_false, decide_true, decide_false, Bool.not_true, Bool.not_false, Bool.false_and, Bool.true_and, Bool.and_true, Bool.and_false, Bool.or_false, Bool.true_or, Bool.or_true, Bool.false_or, Nat.not_le.mpr hi, hb, c_valueAt hi, c_want hi, a2 5 (by omega)]
      · rw [wr_same]
        by_cases h3 : k = i
        · rw [h3, upd_same, if_pos ⟨by omega, hg⟩]
        · rw [upd_other h3, a1 k hk]
          by_cases h2 : k < i ∧ gN N s (k / 6) = false
          · rw [if_pos h2, if_pos ⟨by omega, h2.2⟩]
          · rw [if_neg h2, if_neg (fun z => h2 ⟨by omega, z.2⟩)]
  · obtain ⟨M1, rfl, a1, a2, a3⟩ := hσ
    have r1 : RD (M1.1 g) N := RD_17 a2 h
    obtain ⟨M2, b1, b2', b3⟩ := c_changeToWanted (M := M1) (g := g) (N := N) (T := revT N s T) (u := mI) hN.1 (fun k hk hu => by unfold revT; rw [if_neg (fun z => by unfold gN at z; rw [hu] at z; cases z)]) ⟨r1, fun k hk hu => by
      have hl : M.1 g 5 k = N (82 + k) := by rw [← a2 5 (by omega)]; exact r_lin r1.1 hk hu
      rw [a1 k hk]
      unfold revT
      cases hg : gN N s (k / 6) with
      | true => rw [if_neg (fun z => by cases z.2), if_pos rfl, h17 k hk, hl]
      | false => rw [if_pos ⟨hk, rfl⟩, if_neg (by decide), hl], fun k hk hu => by
      rw [a1 k hk, if_pos ⟨hk, by unfold gN; rw [hu, Bool.false_and]⟩, a2 5 (by omega)]⟩
    rw [revS_eq] at b1 b2'
    refine ⟨M2, ?_, b2', a3.tr b3⟩
    show L_X1_revertNow_28 g S (n + 1) _ _ = _
    rw [L_X1_revertNow_28]
    dsimp only
    rw [if_pos (show (120 : Int32) ≤ nI 120 from Int32.le_refl _), show f_X1_changeToWanted g (-1) M1 = _ from b1]
    rfl
theorem c_revertNow {s : Nat} {T : Int32} (hN : WFa N) (h : RD (M.1 g) N) (hs : s < 20) (hus : us N s = true) : ∃ M', f_X1_revertNow g (nI s) T M = some (nI (revS N s T).1, M') ∧ RD (M'.1 g) (revS N s T).2 ∧ Fr g M M' := by
  unfold f_X1_revertNow
  rw [c_wantPresent, Option.bind_some]
  generalize hM0 : wrs M g 17 (fun k => if k < 120 then M.1 g 5 k else M.1 g 17 k) = M0
  have w0 : ∀ j, j ≠ 17 → M0.1 g j = M.1 g j := fun j hj => by rw [← hM0, wrs_other _ _ _ _ (by omega)]
  have w17 : ∀ k, k < 120 → M0.1 g 17 k = M.1 g 5 k := fun k hk => by rw [← hM0, wrs_same, if_pos hk]
  have wF : Fr g M M0 := by rw [← hM0]; exact Fr_wrs _ _ _ _
  obtain ⟨M2, b1, b2', b3, b4⟩ := c_turnBack (M := M0) (g := g) (T := T) hN.1.2.2.2.2.2 (RDh_D (w0 14 (by omega)) (w0 15 (by omega)) h.2.2.2.2.2.1)
  have r2 : RD (M2.1 g) N := RD_17 (fun j hj => (b3 j hj).trans (w0 j hj)) h
  obtain ⟨M3, d1, d2, d3⟩ := c_revert28 (M := M2) (g := g) (S := M2.1 g 6 s) (s := s) (T := T) hN r2 (fun t ht => by
    rw [r2.1.2.2.2.2.1 s hs t (by omega), decide_eq_true ht, hus, Bool.true_and, Bool.true_and]
    rfl) (fun k hk => by rw [b2' k hk, w17 k hk, b3 5 (by omega), w0 5 (by omega)])
  refine ⟨M3, ?_, d2, (wF.tr b4).tr d3⟩
  rw [b1, Option.bind_some, c_subtreeOf, rowAt_nI hs (by omega), Option.bind_some]
  exact d1
theorem m_revert {M : Mem} {s : Nat} {T : Int32} (hN : WFa (M.1 7 1)) (hs : s < 20) : ∃ M', (f_X9_laysThen M).bind (fun q10 => L_X9_revert_56 (nI s) T FU (0 : Int32) q10) = some (nI (revS (M.1 7 1) s T).1, M') ∧ M'.1 7 1 = (revS (M.1 7 1) s T).2 ∧ FrN M M' := by
  rw [m_laysThen, Option.bind_some]
  generalize hN0 : M.1 7 1 = N at hN ⊢
  refine loopI (fun n (σ : Int32 × Mem) => L_X9_revert_56 (nI s) T n σ.1 σ.2) (fun i σ => ∃ M1, σ = (nI i, M1) ∧ M1.1 7 1 = N ∧ (∀ k, k < 120 → M1.1 7 6 k = if k < 6 * i then revT N s T k else N (82 + k)) ∧ FrN M M1) (fun o => ∃ M', o = some (nI (revS N s T).1, M') ∧ M'.1 7 1 = (revS N s T).2 ∧ FrN M M') 20 (fun n i σ hi hσ => ?_) (fun n σ hσ => ?_) FU (by decide) (nI 0, wrs M 7 6 (mixF (lin N) (M.1 7 6) 120)) ⟨_, rfl, by rw [wrs_other _ _ _ _ (by omega)]; exact hN0, fun k hk => by rw [wrs_same, mixF_lt hk, if_neg (by omega)]; rfl, FrN_wrs _ (by omega) _⟩
  · obtain ⟨M1, rfl, a1, a2, a3⟩ := hσ
    refine Or.inr ?_
    show ∃ s', L_X9_revert_56 (nI s) T (n + 1) _ _ = L_X9_revert_56 (nI s) T n _ _ ∧ _
    have hno : gN N s i = false → ∀ k, k < 120 → M1.1 7 6 k = if k < 6 * (i + 1) then revT N s T k else N (82 + k) := fun hg k hk => by
      rw [a2 k hk]
      by_cases h1 : k < 6 * i
      · rw [if_pos h1, if_pos (by omega)]
      · rw [if_neg h1]
        by_cases h2 : k < 6 * (i + 1)
        · rw [if_pos h2]
          unfold revT
          rw [show k / 6 = i by omega, hg, if_neg (by decide)]
        · rw [if_neg h2]
    have hF : ∃ F, FU = F + 1 := ⟨FU - 1, rfl⟩
    rw [L_X9_revert_56]
    dsimp only
    rw [if_neg (show ¬ (20 : Int32) ≤ nI i from fun z => by have z2 : nI 20 ≤ nI i := z; rw [nI_leI (by omega) (by omega)] at z2; omega)]
    cases hu : us N i with
    | false =>
      refine ⟨(nI (i + 1), M1), ?_, M1, rfl, a1, hno (by unfold gN; rw [hu, Bool.false_and]), a3⟩
      obtain ⟨F, hF⟩ := hF
      rw [hF, L_X9_revert_65]
      unfold B_X9_revert_115
      simp (disch := omega) only [↓ite_b2r, ↓ite_nb2r, ↓lit_m1, ↓lit_m2, lit_0, lit_1, lit_2, lit_3, lit_4, lit_5, lit_6, lit_7, lit_8, lit_9, lit_10, lit_11, lit_12, lit_13, lit_14, lit_15, lit_16, lit_17, lit_18, lit_19, lit_20, lit_21, lit_22, lit_23, lit_24, lit_25, lit_26, lit_27, lit_28, lit_29, lit_30, lit_31, lit_32, lit_33, lit_34, lit_35, lit_36, lit_40, lit_41, lit_42, lit_44, lit_48, lit_57, lit_59, lit_62, lit_63, lit_64, lit_82, lit_98, lit_99, lit_100, lit_101, lit_102, lit_103, lit_104, lit_105, lit_106, lit_107, lit_108, lit_109, lit_110, lit_111, lit_112, lit_113, lit_119, lit_120, lit_127, lit_128, lit_149, lit_150, lit_202, lit_240, lit_262, lit_894, lit_900, lit_999, lit_1000, lit_2000, lit_2662, lit_2663, lit_2695, lit_2701, lit_2702, lit_3602, lit_10806, nI_add, pk_mul, cl_nI, inb_nI, nI_leI, nI_ltI, nI_eq, nI_eq_m1, m1_eq_nI, nI_eq_m2, div_nI, rem_nI, Option.bind_some, b2_0, b2_1, isb_b2, if_true_, if_false_, ↓reduceIte, reduceCtorEq, not_true_eq_false, not_false_eq_true, bt_hasBit, ult, Nat.add_zero, false_and, true_and, and_true, and_false, Nat.reduceLeDiff, Nat.reduceEqDiff, Nat.reduceLT, Bool.toNat_true, Bool.toNat_false, decide_true, decide_false, Bool.not_true, Bool.not_false, Bool.false_and, Bool.true_and, Bool.and_true, Bool.and_false, Bool.or_false, Bool.true_or, Bool.or_true, Bool.false_or, show ¬ 6 ≤ 0 by omega, m_isSection, a1, isS_nI hi, hu]
    | true =>
      have hin := fun (M' : Mem) (h : M'.1 7 1 = N) => m_isIn (M := M') (by rw [h]; exact hN.1.1) hi (by rw [h]; exact hu) hs
      cases ha : An N i s with
      | false =>
        refine ⟨(nI (i + 1), M1), ?_, M1, rfl, a1, hno (by rw [gN_us hu]; exact ha), a3⟩
        have h1 := hin M1 a1
        rw [a1, ha] at h1
        obtain ⟨F, hF⟩ := hF
        rw [hF, L_X9_revert_65]
        unfold B_X9_revert_115
        simp (disch := omega) only [↓ite_b2r, ↓ite_nb2r, ↓lit_m1, ↓lit_m2, lit_0, lit_1, lit_2, lit_3, lit_4, lit_5, lit_6, lit_7, lit_8, lit_9, lit_10, lit_11, lit_12, lit_13, lit_14, lit_15, lit_16, lit_17, lit_18, lit_19, lit_20, lit_21, lit_22, lit_23, lit_24, lit_25, lit_26, lit_27, lit_28, lit_29, lit_30, lit_31, lit_32, lit_33, lit_34, lit_35, lit_36, lit_40, lit_41, lit_42, lit_44, lit_48, lit_57, lit_59, lit_62, lit_63, lit_64, lit_82, lit_98, lit_99, lit_100, lit_101, lit_102, lit_103, lit_104, lit_105, lit_106, lit_107, lit_108, lit_109, lit_110, lit_111, lit_112, lit_113, lit_119, lit_120, lit_127, lit_128, lit_149, lit_150, lit_202, lit_240, lit_262, lit_894, lit_900, lit_999, lit_1000, lit_2000, lit_2662, lit_2663, lit_2695, lit_2701, lit_2702, lit_3602, lit_10806, nI_add, pk_mul, cl_nI, inb_nI, nI_leI, nI_ltI, nI_eq, nI_eq_m1, m1_eq_nI, nI_eq_m2, div_nI, rem_nI, Option.bind_some, b2_0, b2_1, isb_b2, if_true_, if_false_, ↓reduceIte, reduceCtorEq, not_true_eq_false, not_false_eq_true, bt_hasBit, ult, Nat.add_zero, false_and, true_and, and_true, and_false, Nat.reduceLeDiff, Nat.reduceEqDiff, Nat.reduceLT, Bool.toNat_true, Bool.toNat_false, decide_true, decide_false, Bool.not_true, Bool.not_false, Bool.false_and, Bool.true_and, Bool.and_true, Bool.and_false, Bool.or_false, Bool.true_or, Bool.or_true, Bool.false_or, show ¬ 6 ≤ 0 by omega, m_isSection, a1, isS_nI hi, hu, h1]
      | true =>
        have hg : gN N s i = true := by rw [gN_us hu]; exact ha
        have inner := loopI (fun m (σ : Int32 × Mem) => L_X9_revert_65 (L_X9_revert_56 (nI s) T n) (nI s) T (nI i) m σ.1 σ.2) (fun l σ => ∃ M2, σ = (nI l, M2) ∧ M2.1 7 1 = N ∧ (∀ k, k < 120 → M2.1 7 6 k = if k < 6 * i + l then revT N s T k else N (82 + k)) ∧ FrN M M2) (fun o => ∃ M2, o = L_X9_revert_56 (nI s) T n (nI (i + 1)) M2 ∧ M2.1 7 1 = N ∧ (∀ k, k < 120 → M2.1 7 6 k = if k < 6 * (i + 1) then revT N s T k else N (82 + k)) ∧ FrN M M2) 6 (fun m l σ hl hσ => ?_) (fun m σ hσ => ?_) FU (by decide) (nI 0, M1) ⟨M1, rfl, a1, a2, a3⟩
        · obtain ⟨M2, b0, b1, b2', b3⟩ := inner
          exact ⟨(nI (i + 1), M2), b0, M2, rfl, b1, b2', b3⟩
        · obtain ⟨M2, rfl, b1, b2', b3⟩ := hσ
          have h1 := hin M2 b1
          rw [b1, ha] at h1
          have hw := m_was (M := M2) (s := i) (l := l) (by rw [b1]; exact hN.1.2.2.2.2.2) hi hl T
          rw [b1] at hw
          have hv : wasK N T (6 * i + l) (N (82 + 6 * i + l)) 0 (hn N) = revT N s T (6 * i + l) := by
            unfold revT
            rw [show (6 * i + l) / 6 = i by omega, if_pos hg, show 82 + 6 * i + l = 82 + (6 * i + l) by omega]
          rw [hv] at hw
          refine Or.inr ⟨(nI (l + 1), wr M2 7 6 (6 * i + l) (revT N s T (6 * i + l))), ?_, wr M2 7 6 (6 * i + l) (revT N s T (6 * i + l)), rfl, ?_, fun k hk => ?_, b3.tr (FrN_wr _ (by omega) _ _)⟩
          · show L_X9_revert_65 _ (nI s) T (nI i) (m + 1) _ _ = L_X9_revert_65 _ (nI s) T (nI i) m _ _
            rw [L_X9_revert_65]
            simp (disch := omega) only [↓ite_b2r, ↓ite_nb2r, ↓lit_m1, ↓lit_m2, lit_0, lit_1, lit_2, lit_3, lit_4, lit_5, lit_6, lit_7, lit_8, lit_9, lit_10, lit_11, lit_12, lit_13, lit_14, lit_15, lit_16, lit_17, lit_18, lit_19, lit_20, lit_21, lit_22, lit_23, lit_24, lit_25, lit_26, lit_27, lit_28, lit_29, lit_30, lit_31, lit_32, lit_33, lit_34, lit_35, lit_36, lit_40, lit_41, lit_42, lit_44, lit_48, lit_57, lit_59, lit_62, lit_63, lit_64, lit_82, lit_98, lit_99, lit_100, lit_101, lit_102, lit_103, lit_104, lit_105, lit_106, lit_107, lit_108, lit_109, lit_110, lit_111, lit_112, lit_113, lit_119, lit_120, lit_127, lit_128, lit_149, lit_150, lit_202, lit_240, lit_262, lit_894, lit_900, lit_999, lit_1000, lit_2000, lit_2662, lit_2663, lit_2695, lit_2701, lit_2702, lit_3602, lit_10806, nI_add, pk_mul, cl_nI, inb_nI, nI_leI, nI_ltI, nI_eq, nI_eq_m1, m1_eq_nI, nI_eq_m2, div_nI, rem_nI, Option.bind_some, b2_0, b2_1, isb_b2, if_true_, if_false_, ↓reduceIte, reduceCtorEq, not_true_eq_false, not_false_eq_true, bt_hasBit, ult, Nat.add_zero, false_and, true_and, and_true, and_false, Nat.reduceLeDiff, Nat.reduceEqDiff, Nat.reduceLT, Bool.toNat_true, Bool.toNat_false, decide_true, decide_false, Bool.not_true, Bool.not_false, Bool.false_and, Bool.true_and, Bool.and_true, Bool.and_false, Bool.or_false, Bool.true_or, Bool.or_true, Bool.false_or, Nat.not_le.mpr hl, m_isSection, b1, isS_nI hi, hu, h1, hw]
          · rw [wr_other _ _ _ _ _ (by omega)]; exact b1
          · rw [wr_same]
            by_cases h2 : k = 6 * i + l
            · rw [h2, upd_same, if_pos (by omega)]
            · rw [upd_other h2, b2' k hk]
              by_cases h3 : k < 6 * i + l
              · rw [if_pos h3, if_pos (by omega)]
              · rw [if_neg h3, if_neg (by omega)]
        · obtain ⟨M2, rfl, b1, b2', b3⟩ := hσ
          refine ⟨M2, ?_, b1, fun k hk => by rw [b2' k hk, show 6 * i + 6 = 6 * (i + 1) by omega], b3⟩
          show L_X9_revert_65 _ (nI s) T (nI i) (m + 1) _ _ = _
          rw [L_X9_revert_65]
          unfold B_X9_revert_115
          simp (disch := omega) only [↓ite_b2r, ↓ite_nb2r, ↓lit_m1, ↓lit_m2, lit_0, lit_1, lit_2, lit_3, lit_4, lit_5, lit_6, lit_7, lit_8, lit_9, lit_10, lit_11, lit_12, lit_13, lit_14, lit_15, lit_16, lit_17, lit_18, lit_19, lit_20, lit_21, lit_22, lit_23, lit_24, lit_25, lit_26, lit_27, lit_28, lit_29, lit_30, lit_31, lit_32, lit_33, lit_34, lit_35, lit_36, lit_40, lit_41, lit_42, lit_44, lit_48, lit_57, lit_59, lit_62, lit_63, lit_64, lit_82, lit_98, lit_99, lit_100, lit_101, lit_102, lit_103, lit_104, lit_105, lit_106, lit_107, lit_108, lit_109, lit_110, lit_111, lit_112, lit_113, lit_119, lit_120, lit_127, lit_128, lit_149, lit_150, lit_202, lit_240, lit_262, lit_894, lit_900, lit_999, lit_1000, lit_2000, lit_2662, lit_2663, lit_2695, lit_2701, lit_2702, lit_3602, lit_10806, nI_add, pk_mul, cl_nI, inb_nI, nI_leI, nI_ltI, nI_eq, nI_eq_m1, m1_eq_nI, nI_eq_m2, div_nI, rem_nI, Option.bind_some, b2_0, b2_1, isb_b2, if_true_, if_false_, ↓reduceIte, reduceCtorEq, not_true_eq_false, not_false_eq_true, bt_hasBit, ult, Nat.add_zero, false_and, true_and, and_true, and_false, Nat.reduceLeDiff, Nat.reduceEqDiff, Nat.reduceLT, Bool.toNat_true, Bool.toNat_false, decide_true, decide_false, Bool.not_true, Bool.not_false, Bool.false_and, Bool.true_and, Bool.and_true, Bool.and_false, Bool.or_false, Bool.true_or, Bool.or_true, Bool.false_or, Nat.le_refl]
  · obtain ⟨M1, rfl, a1, a2, a3⟩ := hσ
    have hb := m_becomes (M := M1) (by rw [a1]; exact hN.1.2.2.1.1) (by rw [a1]; exact hN.1.2.2.2.2.2) mI
    rw [a1, becS_cgT (T' := revT N s T) (fun k hk => by rw [a2 k hk, if_pos (by omega)]) 20 (by omega), revS_eq] at hb
    refine ⟨wrs M1 7 1 (revS N s T).2, ?_, wrs_same _ _ _ _, a3.tr (FrN_wrs _ (by omega) _)⟩
    show L_X9_revert_56 (nI s) T (n + 1) _ _ = _
    rw [L_X9_revert_56]
    dsimp only
    rw [if_pos (show (20 : Int32) ≤ nI 20 from Int32.le_refl _), show f_X9_becomes (-1) M1 = _ from hb]
    rfl
end RV
section RvK
variable {k : Nat} {M : Mem}
end RvK
