/-! ===== saved states, what is laid aside ===== -/
def SVC (M : Mem) (n : Nat) (P : Nat → Row) : Prop := n ≤ 4 ∧ M.1 6 1 1 = nI n ∧ ∃ σ : Nat → Nat, (∀ i, i < 4 → M.1 6 2 i = nI (2 + σ i) ∧ σ i < 4) ∧ (∀ i j, i < 4 → j < 4 → σ i = σ j → i = j) ∧ ∀ i, i < n → RD (M.1 (2 + σ i)) (P i)
def SVM (M : Mem) (n : Nat) (P : Nat → Row) : Prop := M.1 7 0 3 = nI n ∧ ∀ i, i < n → ∀ x, x < 3602 → M.1 7 2 (3602 * i + x) = P i x
def pushN (n : Nat) : Nat := if n = 4 then 4 else n + 1
def pushP (n : Nat) (P : Nat → Row) (N : Row) : Nat → Row := fun i => if n = 4 then (if i = 3 then N else P (i + 1)) else (if i = n then N else P i)
/-- nothing but the saved states has changed -/
def FrS (M M' : Mem) : Prop := M'.1 0 = M.1 0 ∧ M'.1 1 = M.1 1 ∧ M'.1 7 = M.1 7 ∧ M'.2 = M.2 ∧ ∀ j, j ≠ 1 → j ≠ 2 → M'.1 6 j = M.1 6 j
theorem c_push4 {M : Mem} {n : Nat} {P : Nat → Row} {N : Row} (hS : SVC M n P) (hn : n < 4) (hN : WFa N) (hr : RD (M.1 0) N) : ∃ M', B_X6_push_12 0 M = some M' ∧ SVC M' (n + 1) (fun i => if i = n then N else P i) ∧ FrS M M' := by
  obtain ⟨s1, s2, σ, t1, t2, t3⟩ := hS
  obtain ⟨e1, e2⟩ := t1 n hn
  obtain ⟨M1, c1, c2, c3⟩ := c_copyFrom M (g := 2 + σ n) (g2 := 0) (by omega)
  have h6 : M1.1 6 = M.1 6 := c3.1 6 (by omega)
  refine ⟨wr M1 6 1 1 (nI (n + 1)), ?_, ⟨by omega, ?_, σ, fun i hi => ?_, t2, fun i hi => ?_⟩, ⟨?_, ?_, ?_, c3.2, fun j h1 h2 => ?_⟩⟩
  · unfold B_X6_push_12
    rw [s2, if_neg (show ¬ nI n < 0 from nI_pos (by omega)), if_neg (show ¬ (4 : Int32) ≤ nI n from fun z => by have z2 : nI 4 ≤ nI n := z; rw [nI_leI (by omega) (by omega)] at z2; omega)]
    have hg : gok (2 + σ n) = true := decide_eq_true (by omega)
    simp (disch := omega) only [↓ite_b2r, ↓ite_nb2r, ↓lit_m1, ↓lit_m2, lit_0, lit_1, lit_2, lit_3, lit_4, lit_5, lit_6, lit_7, lit_8, lit_9, lit_10, lit_11, lit_12, lit_13, lit_14, lit_15, lit_16, lit_17, lit_18, lit_19, lit_20, lit_21, lit_22, lit_23, lit_24, lit_25, lit_26, lit_27, lit_28, lit_29, lit_30, lit_31, lit_32, lit_33, lit_34, lit_35, lit_36, lit_40, lit_41, lit_42, lit_44, lit_48, lit_57, lit_59, lit_62, lit_63, lit_64, lit_82, lit_98, lit_99, lit_100, lit_101, lit_102, lit_103, lit_104, lit_105, lit_106, lit_107, lit_108, lit_109, lit_110, lit_111, lit_112, lit_113, lit_119, lit_120, lit_127, lit_128, lit_149, lit_150, lit_202, lit_240, lit_262, lit_894, lit_900, lit_999, lit_1000, lit_2000, lit_2662, lit_2663, lit_2695, lit_2701, lit_2702, lit_3602, lit_10806, nI_add, pk_mul, cl_nI, inb_nI, nI_leI, nI_ltI, nI_eq, nI_eq_m1, m1_eq_nI, nI_eq_m2, div_nI, rem_nI, Option.bind_some, b2_0, b2_1, isb_b2, if_true_, if_false_, ↓reduceIte, reduceCtorEq, not_true_eq_false, not_false_eq_true, bt_hasBit, ult, Nat.add_zero, false_and, true_and, and_true, and_false, Nat.reduceLeDiff, Nat.reduceEqDiff, Nat.reduceLT, Bool.toNat_true, Bool.toNat_false, decide_true, decide_false, Bool.not_true, Bool.not_false, Bool.false_and, Bool.true_and, Bool.and_true, Bool.and_false, Bool.or_false, Bool.true_or, Bool.or_true, Bool.false_or, e1, hg, c1]
    rw [h6, s2, nI_add]
  · rw [wr_same, upd_same]
  · rw [wr_other _ _ _ _ _ (by omega), h6]
    exact t1 i hi
  · have hsi := (t1 i (by omega)).2
    rw [wr_ng _ _ _ _ (by omega)]
    dsimp only
    by_cases hin : i = n
    · subst hin
      rw [if_pos rfl]
      exact RD_eq c2 hN.1.2.1 hN.1.2.2.2.1 hN.1.2.2.2.2.2 hr
    · rw [if_neg hin, c3.1 _ (fun z => hin (t2 i n (by omega) hn (by omega)))]
      exact t3 i (by omega)
  · rw [wr_ng _ _ _ _ (by omega)]; exact c3.1 0 (by omega)
  · rw [wr_ng _ _ _ _ (by omega)]; exact c3.1 1 (by omega)
  · rw [wr_ng _ _ _ _ (by omega)]; exact c3.1 7 (by omega)
  · rw [wr_other _ _ _ _ _ (by omega), h6]
theorem c_push {M : Mem} {n : Nat} {P : Nat → Row} {N : Row} (hS : SVC M n P) (hN : WFa N) (hr : RD (M.1 0) N) : ∃ M', f_X6_push 0 M = some M' ∧ SVC M' (pushN n) (pushP n P N) ∧ FrS M M' := by
  by_cases hn : n = 4
  · subst hn
    obtain ⟨s1, s2, σ, t1, t2, t3⟩ := hS
    obtain ⟨e1, e2⟩ := t1 0 (by omega)
    have hd : f_X6_dropOldest M = some (wr (wrs M 6 2 (upd (fun k => if k < 3 then M.1 6 2 (k + 1) else M.1 6 2 k) 3 (nI (2 + σ 0)))) 6 1 1 (nI 3)) := by
      unfold f_X6_dropOldest
      have hg : gok (2 + σ 0) = true := decide_eq_true (by omega)
      simp (disch := omega) only [↓ite_b2r, ↓ite_nb2r, ↓lit_m1, ↓lit_m2, lit_0, lit_1, lit_2, lit_3, lit_4, lit_5, lit_6, lit_7, lit_8, lit_9, lit_10, lit_11, lit_12, lit_13, lit_14, lit_15, lit_16, lit_17, lit_18, lit_19, lit_20, lit_21, lit_22, lit_23, lit_24, lit_25, lit_26, lit_27, lit_28, lit_29, lit_30, lit_31, lit_32, lit_33, lit_34, lit_35, lit_36, lit_40, lit_41, lit_42, lit_44, lit_48, lit_57, lit_59, lit_62, lit_63, lit_64, lit_82, lit_98, lit_99, lit_100, lit_101, lit_102, lit_103, lit_104, lit_105, lit_106, lit_107, lit_108, lit_109, lit_110, lit_111, lit_112, lit_113, lit_119, lit_120, lit_127, lit_128, lit_149, lit_150, lit_202, lit_240, lit_262, lit_894, lit_900, lit_999, lit_1000, lit_2000, lit_2662, lit_2663, lit_2695, lit_2701, lit_2702, lit_3602, lit_10806, nI_add, pk_mul, cl_nI, inb_nI, nI_leI, nI_ltI, nI_eq, nI_eq_m1, m1_eq_nI, nI_eq_m2, div_nI, rem_nI, Option.bind_some, b2_0, b2_1, isb_b2, if_true_, if_false_, ↓reduceIte, reduceCtorEq, not_true_eq_false, not_false_eq_true, bt_hasBit, ult, Nat.add_zero, false_and, true_and, and_true, and_false, Nat.reduceLeDiff, Nat.reduceEqDiff, Nat.reduceLT, Bool.toNat_true, Bool.toNat_false, decide_true, decide_false, Bool.not_true, Bool.not_false, Bool.false_and, Bool.true_and, Bool.and_true, Bool.and_false, Bool.or_false, Bool.true_or, Bool.or_true, Bool.false_or, e1, hg]
      refine loop0 (fun n (τ : Int32 × Mem) => L_X6_dropOldest_9 (2 + σ 0) n τ.1 τ.2) (fun i => (nI (1 + i), wrs M 6 2 (fun k => if k < i then M.1 6 2 (k + 1) else M.1 6 2 k))) 3 (nI 1, M) ?_ (fun n i hi => ?_) (fun n => ?_) FU (by decide)
      · refine Prod.ext rfl ?_
        show wrs M 6 2 (fun k => if k < 0 then M.1 6 2 (k + 1) else M.1 6 2 k) = M
        rw [show (fun k => if k < 0 then M.1 6 2 (k + 1) else M.1 6 2 k) = M.1 6 2 from funext fun k => if_neg (Nat.not_lt_zero k), wrs_self]
      · show L_X6_dropOldest_9 _ (n + 1) _ _ = L_X6_dropOldest_9 _ n _ _
        obtain ⟨f1, f2⟩ := t1 (1 + i) (by omega)
        have hg2 : gok (2 + σ (1 + i)) = true := decide_eq_true (by omega)
        rw [L_X6_dropOldest_9]
        dsimp only
        rw [if_neg (show ¬ (4 : Int32) ≤ nI (1 + i) from fun z => by have z2 : nI 4 ≤ nI (1 + i) := z; rw [nI_leI (by omega) (by omega)] at z2; omega), if_pos (show inb (nI (1 + i)) 4 = true by rw [inb_nI (by omega) (by omega)]; trivial), cl_nI (n := 1 + i) (by omega), wrs_same, if_neg (show ¬ 1 + i < i by omega), f1, cl_nI (n := 2 + σ (1 + i)) (by omega), if_pos hg2, show nI (1 + i) - (1 : Int32) = nI i from (pk_sub (b := 1) (by omega)).trans (by congr 1; omega), if_pos (show inb (nI i) 4 = true by rw [inb_nI (by omega) (by omega)]; trivial), cl_nI (n := i) (by omega), wr_wrs, nI_1]
        congr 2
        funext k
        by_cases hk : k = i
        · subst hk
          rw [upd_same, if_pos (by omega), ← f1, show 1 + k = k + 1 by omega]
        · rw [upd_other hk]
          by_cases h2 : k < i
          · rw [if_pos h2, if_pos (by omega)]
          · rw [if_neg h2, if_neg (by omega)]
      · show L_X6_dropOldest_9 _ (n + 1) _ _ = _
        rw [L_X6_dropOldest_9]
        simp (disch := omega) only [↓ite_b2r, ↓ite_nb2r, ↓lit_m1, ↓lit_m2, lit_0, lit_1, lit_2, lit_3, lit_4, lit_5, lit_6, lit_7, lit_8, lit_9, lit_10, lit_11, lit_12, lit_13, lit_14, lit_15, lit_16, lit_17, lit_18, lit_19, lit_20, lit_21, lit_22, lit_23, lit_24, lit_25, lit_26, lit_27, lit_28, lit_29, lit_30, lit_31, lit_32, lit_33, lit_34, lit_35, lit_36, lit_40, lit_41, lit_42, lit_44, lit_48, lit_57, lit_59, lit_62, lit_63, lit_64, lit_82, lit_98, lit_99, lit_100, lit_101, lit_102, lit_103, lit_104, lit_105, lit_106, lit_107, lit_108, lit_109, lit_110, lit_111, lit_112, lit_113, lit_119, lit_120, lit_127, lit_128, lit_149, lit_150, lit_202, lit_240, lit_262, lit_894, lit_900, lit_999, lit_1000, lit_2000, lit_2662, lit_2663, lit_2695, lit_2701, lit_2702, lit_3602, lit_10806, nI_add, pk_mul, cl_nI, inb_nI, nI_leI, nI_ltI, nI_eq, nI_eq_m1, m1_eq_nI, nI_eq_m2, div_nI, rem_nI, Option.bind_some, b2_0, b2_1, isb_b2, if_true_, if_false_, ↓reduceIte, reduceCtorEq, not_true_eq_false, not_false_eq_true, bt_hasBit, ult, Nat.add_zero, false_and, true_and, and_true, and_false, Nat.reduceLeDiff, Nat.reduceEqDiff, Nat.reduceLT, Bool.toNat_true, Bool.toNat_false, decide_true, decide_false, Bool.not_true, Bool.not_false, Bool.false_and, Bool.true_and, Bool.and_true, Bool.and_false, Bool.or_false, Bool.true_or, Bool.or_true, Bool.false_or, Nat.le_refl, wr_wrs]
    generalize hM1 : wr (wrs M 6 2 (upd (fun k => if k < 3 then M.1 6 2 (k + 1) else M.1 6 2 k) 3 (nI (2 + σ 0)))) 6 1 1 (nI 3) = M1 at hd
    have k1 : M1.1 6 1 1 = nI 3 := by rw [← hM1, wr_same, upd_same]
    have k2 : M1.1 6 2 = upd (fun k => if k < 3 then M.1 6 2 (k + 1) else M.1 6 2 k) 3 (nI (2 + σ 0)) := by rw [← hM1, wr_other _ _ _ _ _ (by omega), wrs_same]
    have kg : ∀ g, g ≠ 6 → M1.1 g = M.1 g := fun g hg => by rw [← hM1, wr_ng _ _ _ _ hg, wrs_ng _ _ _ hg]
    have kj : ∀ j, j ≠ 1 → j ≠ 2 → M1.1 6 j = M.1 6 j := fun j h1 h2 => by rw [← hM1, wr_other _ _ _ _ _ (by omega), wrs_other _ _ _ _ (by omega)]
    have kL : M1.2 = M.2 := by rw [← hM1]; rfl
    have hS1 : SVC M1 3 (fun i => P (i + 1)) := by
      refine ⟨by omega, k1, fun i => if i = 3 then σ 0 else σ (i + 1), fun i hi => ?_, fun i j hi hj e => ?_, fun i hi => ?_⟩
      · rw [k2]
        dsimp only
        by_cases h3 : i = 3
        · subst h3; rw [upd_same, if_pos rfl]; exact ⟨rfl, e2⟩
        · rw [upd_other h3, if_pos (by omega), if_neg h3]; exact t1 (i + 1) (by omega)
      · dsimp only at e
        by_cases h1 : i = 3
        · by_cases h2 : j = 3
          · omega
          · rw [if_pos h1, if_neg h2] at e
            have := t2 0 (j + 1) (by omega) (by omega) e
            omega
        · by_cases h2 : j = 3
          · rw [if_neg h1, if_pos h2] at e
            have := t2 (i + 1) 0 (by omega) (by omega) e
            omega
          · rw [if_neg h1, if_neg h2] at e
            have := t2 (i + 1) (j + 1) (by omega) (by omega) e
            omega
      · dsimp only
        rw [if_neg (by omega), kg _ (by have := (t1 (i + 1) (by omega)).2; omega)]
        exact t3 (i + 1) (by omega)
    obtain ⟨M2, p1, p2, p3⟩ := c_push4 hS1 (by omega) hN (by rw [kg 0 (by omega)]; exact hr)
    refine ⟨M2, ?_, ?_, ⟨p3.1.trans (kg 0 (by omega)), p3.2.1.trans (kg 1 (by omega)), p3.2.2.1.trans (kg 7 (by omega)), p3.2.2.2.1.trans kL, fun j h1 h2 => (p3.2.2.2.2 j h1 h2).trans (kj j h1 h2)⟩⟩
    · unfold f_X6_push
      rw [s2, if_neg (show ¬ nI 4 < 4 by decide), hd, Option.bind_some, p1]
    · exact p2
  · have hn2 : n < 4 := by have := hS.1; omega
    obtain ⟨M2, p1, p2, p3⟩ := c_push4 hS hn2 hN hr
    refine ⟨M2, ?_, ?_, p3⟩
    · unfold f_X6_push
      rw [hS.2.1, if_pos (show nI n < 4 from (show nI n < nI 4 from (nI_ltI (by omega) (by omega)).mpr hn2)), p1]
    · unfold pushN pushP
      rw [if_neg hn]
      have : (fun i => if n = 4 then (if i = 3 then N else P (i + 1)) else (if i = n then N else P i)) = fun i => if i = n then N else P i := funext fun i => if_neg hn
      rw [this]
      exact p2
theorem c_pop {M : Mem} {n : Nat} {P : Nat → Row} (hS : SVC M (n + 1) P) (hP : WFa (P n)) : ∃ M', f_X6_pop 0 M = some M' ∧ SVC M' n P ∧ RD (M'.1 0) (P n) ∧ M'.1 1 = M.1 1 ∧ M'.1 7 = M.1 7 ∧ M'.2 = M.2 ∧ ∀ j, j ≠ 1 → M'.1 6 j = M.1 6 j := by
  obtain ⟨s1, s2, σ, t1, t2, t3⟩ := hS
  obtain ⟨e1, e2⟩ := t1 n (by omega)
  obtain ⟨M1, c1, c2, c3⟩ := c_copyFrom (wr M 6 1 1 (nI n)) (g := 0) (g2 := 2 + σ n) (by omega)
  have hgr : (wr M 6 1 1 (nI n)).1 (2 + σ n) = M.1 (2 + σ n) := wr_ng _ _ _ _ (by omega)
  rw [hgr] at c2
  refine ⟨M1, ?_, ⟨by omega, ?_, σ, fun i hi => ?_, t2, fun i hi => ?_⟩, ?_, ?_, ?_, c3.2, fun j h1 => ?_⟩
  · unfold f_X6_pop
    have hg : gok (2 + σ n) = true := decide_eq_true (by omega)
    have e3 : (wr M 6 1 1 (nI n)).1 6 1 1 = nI n := by rw [wr_same, upd_same]
    have e4 : (wr M 6 1 1 (nI n)).1 6 2 n = nI (2 + σ n) := by rw [wr_other _ _ _ _ _ (by omega)]; exact e1
    rw [s2, if_neg (show ¬ nI (n + 1) ≤ 0 from nI_nle (by omega) (by omega)), if_neg (show ¬ (4 : Int32) < nI (n + 1) from fun z => by have z2 : nI 4 < nI (n + 1) := z; rw [nI_ltI (by omega) (by omega)] at z2; omega), show nI (n + 1) - (1 : Int32) = nI n from nI_pred _]
    simp (disch := omega) only [↓ite_b2r, ↓ite_nb2r, ↓lit_m1, ↓lit_m2, lit_0, lit_1, lit_2, lit_3, lit_4, lit_5, lit_6, lit_7, lit_8, lit_9, lit_10, lit_11, lit_12, lit_13, lit_14, lit_15, lit_16, lit_17, lit_18, lit_19, lit_20, lit_21, lit_22, lit_23, lit_24, lit_25, lit_26, lit_27, lit_28, lit_29, lit_30, lit_31, lit_32, lit_33, lit_34, lit_35, lit_36, lit_40, lit_41, lit_42, lit_44, lit_48, lit_57, lit_59, lit_62, lit_63, lit_64, lit_82, lit_98, lit_99, lit_100, lit_101, lit_102, lit_103, lit_104, lit_105, lit_106, lit_107, lit_108, lit_109, lit_110, lit_111, lit_112, lit_113, lit_119, lit_120, lit_127, lit_128, lit_149, lit_150, lit_202, lit_240, lit_262, lit_894, lit_900, lit_999, lit_1000, lit_2000, lit_2662, lit_2663, lit_2695, lit_2701, lit_2702, lit_3602, lit_10806, nI_add, pk_mul, cl_nI, inb_nI, nI_leI, nI_ltI, nI_eq, nI_eq_m1, m1_eq_nI, nI_eq_m2, div_nI, rem_nI, Option.bind_some, b2_0, b2_1, isb_b2, if_true_, if_false_, ↓reduceIte, reduceCtorEq, not_true_eq_false, not_false_eq_true, bt_hasBit, ult, Nat.add_zero, false_and, true_and, and_true, and_false, Nat.reduceLeDiff, Nat.reduceEqDiff, Nat.reduceLT, Bool.toNat_true, Bool.toNat_false, decide_true, decide_false, Bool.not_true, Bool.not_false, Bool.false_and, Bool.true_and, Bool.and_true, Bool.and_false, Bool.or_false, Bool.true_or, Bool.or_true, Bool.false_or, e1, hg, e3, e4, c1]
  · rw [c3.1 6 (by omega), wr_same, upd_same]
  · rw [c3.1 6 (by omega), wr_other _ _ _ _ _ (by omega)]; exact t1 i hi
  · rw [c3.1 _ (by omega), wr_ng _ _ _ _ (by have := (t1 i (by omega)).2; omega)]; exact t3 i (by omega)
  · exact RD_eq c2 hP.1.2.1 hP.1.2.2.2.1 hP.1.2.2.2.2.2 (t3 n (by omega))
  · rw [c3.1 1 (by omega), wr_ng _ _ _ _ (by omega)]
  · rw [c3.1 7 (by omega), wr_ng _ _ _ _ (by omega)]
  · rw [c3.1 6 (by omega), wr_other _ _ _ _ _ (by omega)]
/-- nothing but the reference's saved states has changed -/
def FrP (M M' : Mem) : Prop := (∀ g, g ≠ 7 → M'.1 g = M.1 g) ∧ M'.2 = M.2 ∧ (∀ j, j ≠ 0 → j ≠ 2 → M'.1 7 j = M.1 7 j) ∧ ∀ k, k ≠ 3 → M'.1 7 0 k = M.1 7 0 k
theorem m_saves4 {M : Mem} {n : Nat} {P : Nat → Row} (hS : SVM M n P) (hn : n < 4) : ∃ M', B_X9_saves_49 M = some M' ∧ SVM M' (n + 1) (fun i => if i = n then M.1 7 1 else P i) ∧ FrP M M' := by
  obtain ⟨s1, s2⟩ := hS
  unfold B_X9_saves_49
  refine loopE (fun m (σ : Int32 × Mem) => L_X9_saves_51 m σ.1 σ.2) (fun i σ => σ = (nI i, wrs M 7 2 (fun k => if 3602 * n ≤ k ∧ k < 3602 * n + i then M.1 7 1 (k - 3602 * n) else M.1 7 2 k))) 3602 (fun m i σ hi hσ => ?_) (fun m σ hσ => ?_) FU (by decide) (nI 0, M) ?_
  · subst hσ
    refine ⟨_, ?_, rfl⟩
    show L_X9_saves_51 (m + 1) _ _ = L_X9_saves_51 m _ _
    have h0 : ∀ f, (wrs M 7 2 f).1 7 0 3 = nI n := fun f => by rw [wrs_other _ _ _ _ (by omega)]; exact s1
    have h1 : ∀ f, (wrs M 7 2 f).1 7 1 = M.1 7 1 := fun f => wrs_other _ _ _ _ (by omega)
    rw [L_X9_saves_51]
    simp (disch := omega) only [↓ite_b2r, ↓ite_nb2r, ↓lit_m1, ↓lit_m2, lit_0, lit_1, lit_2, lit_3, lit_4, lit_5, lit_6, lit_7, lit_8, lit_9, lit_10, lit_11, lit_12, lit_13, lit_14, lit_15, lit_16, lit_17, lit_18, lit_19, lit_20, lit_21, lit_22, lit_23, lit_24, lit_25, lit_26, lit_27, lit_28, lit_29, lit_30, lit_31, lit_32, lit_33, lit_34, lit_35, lit_36, lit_40, lit_41, lit_42, lit_44, lit_48, lit_57, lit_59, lit_62, lit_63, lit_64, lit_82, lit_98, lit_99, lit_100, lit_101, lit_102, lit_103, lit_104, lit_105, lit_106, lit_107, lit_108, lit_109, lit_110, lit_111, lit_112, lit_113, lit_119, lit_120, lit_127, lit_128, lit_149, lit_150, lit_202, lit_240, lit_262, lit_894, lit_900, lit_999, lit_1000, lit_2000, lit_2662, lit_2663, lit_2695, lit_2701, lit_2702, lit_3602, lit_10806, nI_add, pk_mul, cl_nI, inb_nI, nI_leI, nI_ltI, nI_eq, nI_eq_m1, m1_eq_nI, nI_eq_m2, div_nI, rem_nI, Option.bind_some, b2_0, b2_1, isb_b2, if_true_, if_false_, ↓reduceIte, reduceCtorEq, not_true_eq_false, not_false_eq_true, bt_hasBit, ult, Nat.add_zero, false_and, true_and, and_true, and_false, Nat.reduceLeDiff, Nat.reduceEqDiff, Nat.reduceLT, Bool.toNat_true, Bool.toNat_false, decide_true, decide_false, Bool.not_true, Bool.not_false, Bool.false_and, Bool.true_and, Bool.and_true, Bool.and_false, Bool.or_false, Bool.true_or, Bool.or_true, Bool.false_or, Nat.not_le.mpr hi, h0, h1, wr_wrs]
    congr 2
    funext k
    by_cases hk : k = 3602 * n + i
    · subst hk
      rw [upd_same, if_pos (by omega), show 3602 * n + i - 3602 * n = i by omega]
    · rw [upd_other hk]
      by_cases h2 : 3602 * n ≤ k ∧ k < 3602 * n + i
      · rw [if_pos h2, if_pos (by omega)]
      · rw [if_neg h2, if_neg (by omega)]
  · subst hσ
    have h0 : ∀ f, (wrs M 7 2 f).1 7 0 = M.1 7 0 := fun f => wrs_other _ _ _ _ (by omega)
    refine ⟨wr (wrs M 7 2 (fun k => if 3602 * n ≤ k ∧ k < 3602 * n + 3602 then M.1 7 1 (k - 3602 * n) else M.1 7 2 k)) 7 0 3 (nI (n + 1)), ?_, ⟨?_, fun i hi x hx => ?_⟩, ⟨fun g hg => ?_, rfl, fun j h1 h2 => ?_, fun k hk => ?_⟩⟩
    · show L_X9_saves_51 (m + 1) _ _ = _
      rw [L_X9_saves_51]
      simp (disch := omega) only [↓ite_b2r, ↓ite_nb2r, ↓lit_m1, ↓lit_m2, lit_0, lit_1, lit_2, lit_3, lit_4, lit_5, lit_6, lit_7, lit_8, lit_9, lit_10, lit_11, lit_12, lit_13, lit_14, lit_15, lit_16, lit_17, lit_18, lit_19, lit_20, lit_21, lit_22, lit_23, lit_24, lit_25, lit_26, lit_27, lit_28, lit_29, lit_30, lit_31, lit_32, lit_33, lit_34, lit_35, lit_36, lit_40, lit_41, lit_42, lit_44, lit_48, lit_57, lit_59, lit_62, lit_63, lit_64, lit_82, lit_98, lit_99, lit_100, lit_101, lit_102, lit_103, lit_104, lit_105, lit_106, lit_107, lit_108, lit_109, lit_110, lit_111, lit_112, lit_113, lit_119, lit_120, lit_127, lit_128, lit_149, lit_150, lit_202, lit_240, lit_262, lit_894, lit_900, lit_999, lit_1000, lit_2000, lit_2662, lit_2663, lit_2695, lit_2701, lit_2702, lit_3602, lit_10806, nI_add, pk_mul, cl_nI, inb_nI, nI_leI, nI_ltI, nI_eq, nI_eq_m1, m1_eq_nI, nI_eq_m2, div_nI, rem_nI, Option.bind_some, b2_0, b2_1, isb_b2, if_true_, if_false_, ↓reduceIte, reduceCtorEq, not_true_eq_false, not_false_eq_true, bt_hasBit, ult, Nat.add_zero, false_and, true_and, and_true, and_false, Nat.reduceLeDiff, Nat.reduceEqDiff, Nat.reduceLT, Bool.toNat_true, Bool.toNat_false, decide_true, decide_false, Bool.not_true, Bool.not_false, Bool.false_and, Bool.true_and, Bool.and_true, Bool.and_false, Bool.or_false, Bool.true_or, Bool.or_true, Bool.false_or, Nat.le_refl, h0, s1]
    · rw [wr_same, upd_same]
    · rw [wr_other _ _ _ _ _ (by omega), wrs_same]
      dsimp only
      by_cases hin : i = n
      · subst hin
        rw [if_pos (by omega), if_pos rfl, show 3602 * i + x - 3602 * i = x by omega]
      · rw [if_neg (by omega), if_neg hin]
        exact s2 i (by omega) x hx
    · rw [wr_ng _ _ _ _ hg, wrs_ng _ _ _ hg]
    · rw [wr_other _ _ _ _ _ (by omega), wrs_other _ _ _ _ (by omega)]
    · rw [wr_same, upd_other hk, h0]
  · refine Prod.ext rfl ?_
    show M = wrs M 7 2 _
    rw [show (fun k => if 3602 * n ≤ k ∧ k < 3602 * n + 0 then M.1 7 1 (k - 3602 * n) else M.1 7 2 k) = M.1 7 2 from funext fun k => if_neg (by omega), wrs_self]
theorem m_saves {M : Mem} {n : Nat} {P : Nat → Row} (hS : SVM M n P) (hn : n ≤ 4) : ∃ M', f_X9_saves M = some M' ∧ SVM M' (pushN n) (pushP n P (M.1 7 1)) ∧ FrP M M' := by
  unfold f_X9_saves pushN pushP
  rw [hS.1]
  by_cases h4 : n = 4
  · subst h4
    obtain ⟨s1, s2⟩ := hS
    rw [if_pos (show nI 4 = 4 from rfl), if_pos rfl]
    refine loopE (fun m (σ : Int32 × Mem) => L_X9_saves_10 m σ.1 σ.2) (fun i σ => σ = (nI i, wrs M 7 2 (fun k => if k < i then M.1 7 2 (k + 3602) else M.1 7 2 k))) 10806 (fun m i σ hi hσ => ?_) (fun m σ hσ => ?_) FU (by decide) (nI 0, M) ?_
    · subst hσ
      refine ⟨_, ?_, rfl⟩
      show L_X9_saves_10 (m + 1) _ _ = L_X9_saves_10 m _ _
      have h1 : (wrs M 7 2 (fun k => if k < i then M.1 7 2 (k + 3602) else M.1 7 2 k)).1 7 2 (i + 3602) = M.1 7 2 (i + 3602) := by rw [wrs_same, if_neg (by omega)]
      rw [L_X9_saves_10]
      simp (disch := omega) only [↓ite_b2r, ↓ite_nb2r, ↓lit_m1, ↓lit_m2, lit_0, lit_1, lit_2, lit_3, lit_4, lit_5, lit_6, lit_7, lit_8, lit_9, lit_10, lit_11, lit_12, lit_13, lit_14, lit_15, lit_16, lit_17, lit_18, lit_19, lit_20, lit_21, lit_22, lit_23, lit_24, lit_25, lit_26, lit_27, lit_28, lit_29, lit_30, lit_31, lit_32, lit_33, lit_34, lit_35, lit_36, lit_40, lit_41, lit_42, lit_44, lit_48, lit_57, lit_59, lit_62, lit_63, lit_64, lit_82, lit_98, lit_99, lit_100, lit_101, lit_102, lit_103, lit_104, lit_105, lit_106, lit_107, lit_108, lit_109, lit_110, lit_111, lit_112, lit_113, lit_119, lit_120, lit_127, lit_128, lit_149, lit_150, lit_202, lit_240, lit_262, lit_894, lit_900, lit_999, lit_1000, lit_2000, lit_2662, lit_2663, lit_2695, lit_2701, lit_2702, lit_3602, lit_10806, nI_add, pk_mul, cl_nI, inb_nI, nI_leI, nI_ltI, nI_eq, nI_eq_m1, m1_eq_nI, nI_eq_m2, div_nI, rem_nI, Option.bind_some, b2_0, b2_1, isb_b2, if_true_, if_false_, ↓reduceIte, reduceCtorEq, not_true_eq_false, not_false_eq_true, bt_hasBit, ult, Nat.add_zero, false_and, true_and, and_true, and_false, Nat.reduceLeDiff, Nat.reduceEqDiff, Nat.reduceLT, Bool.toNat_true, Bool.toNat_false, decide_true, decide_false, Bool.not_true, Bool.not_false, Bool.false_and, Bool.true_and, Bool.and_true, Bool.and_false, Bool.or_false, Bool.true_or, Bool.or_true, Bool.false_or, Nat.not_le.mpr hi, h1, wr_wrs]
      congr 2
      funext k
      by_cases hk : k = i
      · subst hk; rw [upd_same, if_pos (by omega)]
      · rw [upd_other hk]
        by_cases h2 : k < i
        · rw [if_pos h2, if_pos (by omega)]
        · rw [if_neg h2, if_neg (by omega)]
    · subst hσ
      have h0 : ∀ f, (wrs M 7 2 f).1 7 0 = M.1 7 0 := fun f => wrs_other _ _ _ _ (by omega)
      show ∃ b, L_X9_saves_10 (m + 1) _ _ = some b ∧ _
      rw [L_X9_saves_10]
      simp (disch := omega) only [↓ite_b2r, ↓ite_nb2r, ↓lit_m1, ↓lit_m2, lit_0, lit_1, lit_2, lit_3, lit_4, lit_5, lit_6, lit_7, lit_8, lit_9, lit_10, lit_11, lit_12, lit_13, lit_14, lit_15, lit_16, lit_17, lit_18, lit_19, lit_20, lit_21, lit_22, lit_23, lit_24, lit_25, lit_26, lit_27, lit_28, lit_29, lit_30, lit_31, lit_32, lit_33, lit_34, lit_35, lit_36, lit_40, lit_41, lit_42, lit_44, lit_48, lit_57, lit_59, lit_62, lit_63, lit_64, lit_82, lit_98, lit_99, lit_100, lit_101, lit_102, lit_103, lit_104, lit_105, lit_106, lit_107, lit_108, lit_109, lit_110, lit_111, lit_112, lit_113, lit_119, lit_120, lit_127, lit_128, lit_149, lit_150, lit_202, lit_240, lit_262, lit_894, lit_900, lit_999, lit_1000, lit_2000, lit_2662, lit_2663, lit_2695, lit_2701, lit_2702, lit_3602, lit_10806, nI_add, pk_mul, cl_nI, inb_nI, nI_leI, nI_ltI, nI_eq, nI_eq_m1, m1_eq_nI, nI_eq_m2, div_nI, rem_nI, Option.bind_some, b2_0, b2_1, isb_b2, if_true_, if_false_, ↓reduceIte, reduceCtorEq, not_true_eq_false, not_false_eq_true, bt_hasBit, ult, Nat.add_zero, false_and, true_and, and_true, and_false, Nat.reduceLeDiff, Nat.reduceEqDiff, Nat.reduceLT, Bool.toNat_true, Bool.toNat_false, decide_true, decide_false, Bool.not_true, Bool.not_false, Bool.false_and, Bool.true_and, Bool.and_true, Bool.and_false, Bool.or_false, Bool.true_or, Bool.or_true, Bool.false_or, Nat.le_refl, h0, s1]
      rw [show nI 4 - nI 1 = nI 3 from pk_sub (by omega)]
      generalize hM1 : wr (wrs M 7 2 (fun k => if k < 10806 then M.1 7 2 (k + 3602) else M.1 7 2 k)) 7 0 3 (nI 3) = M1
      have k1 : M1.1 7 1 = M.1 7 1 := by rw [← hM1, wr_other _ _ _ _ _ (by omega), wrs_other _ _ _ _ (by omega)]
      have k2 : M1.1 7 2 = fun k => if k < 10806 then M.1 7 2 (k + 3602) else M.1 7 2 k := by rw [← hM1, wr_other _ _ _ _ _ (by omega), wrs_same]
      obtain ⟨M2, p1, p2, p3⟩ := m_saves4 (M := M1) (n := 3) (P := fun i => P (i + 1)) ⟨by rw [← hM1, wr_same, upd_same], fun i hi x hx => by
        rw [k2]
        dsimp only
        rw [if_pos (by omega), ← s2 (i + 1) (by omega) x hx, show 3602 * i + x + 3602 = 3602 * (i + 1) + x by omega]⟩ (by omega)
      refine ⟨M2, p1, ?_, ⟨fun g hg => (p3.1 g hg).trans ?_, p3.2.1.trans ?_, fun j h1 h2 => (p3.2.2.1 j h1 h2).trans ?_, fun k hk => (p3.2.2.2 k hk).trans ?_⟩⟩
      · rw [k1] at p2
        exact p2
      · rw [← hM1, wr_ng _ _ _ _ hg, wrs_ng _ _ _ hg]
      · rw [← hM1]; rfl
      · rw [← hM1, wr_other _ _ _ _ _ (by omega), wrs_other _ _ _ _ (by omega)]
      · rw [← hM1, wr_same, upd_other hk, h0]
    · refine Prod.ext rfl ?_
      show M = wrs M 7 2 _
      rw [show (fun k => if k < 0 then M.1 7 2 (k + 3602) else M.1 7 2 k) = M.1 7 2 from funext fun k => if_neg (Nat.not_lt_zero k), wrs_self]
  · rw [if_neg (show ¬ nI n = 4 from fun z => by have z2 : nI n = nI 4 := z; rw [nI_eq (by omega) (by omega)] at z2; exact h4 z2), if_neg h4]
    obtain ⟨M2, p1, p2, p3⟩ := m_saves4 hS (by omega)
    refine ⟨M2, p1, ?_, p3⟩
    have : (fun i => if n = 4 then (if i = 3 then M.1 7 1 else P (i + 1)) else (if i = n then M.1 7 1 else P i)) = fun i => if i = n then M.1 7 1 else P i := funext fun i => if_neg h4
    rw [this]
    exact p2
theorem m_laysAside (M : Mem) : f_X9_laysAside M = some (wrs M 7 3 (mixF (M.1 7 1) (M.1 7 3) 3602)) := by
  unfold f_X9_laysAside
  refine loop0 (fun n (σ : Int32 × Mem) => L_X9_laysAside_2 n σ.1 σ.2) (fun k => (nI k, wrs M 7 3 (mixF (M.1 7 1) (M.1 7 3) k))) 3602 (nI 0, M) (by rw [mixF_0, wrs_self]) (fun n k hk => ?_) (fun n => ?_) FU (by decide)
  · show L_X9_laysAside_2 (n + 1) _ _ = L_X9_laysAside_2 n _ _
    rw [L_X9_laysAside_2]
    simp (disch := omega) only [↓ite_b2r, ↓ite_nb2r, ↓lit_m1, ↓lit_m2, lit_0, lit_1, lit_2, lit_3, lit_4, lit_5, lit_6, lit_7, lit_8, lit_9, lit_10, lit_11, lit_12, lit_13, lit_14, lit_15, lit_16, lit_17, lit_18, lit_19, lit_20, lit_21, lit_22, lit_23, lit_24, lit_25, lit_26, lit_27, lit_28, lit_29, lit_30, lit_31, lit_32, lit_33, lit_34, lit_35, lit_36, lit_40, lit_41, lit_42, lit_44, lit_48, lit_57, lit_59, lit_62, lit_63, lit_64, lit_82, lit_98, lit_99, lit_100, lit_101, lit_102, lit_103, lit_104, lit_105, lit_106, lit_107, lit_108, lit_109, lit_110, lit_111, lit_112, lit_113, lit_119, lit_120, lit_127, lit_128, lit_149, lit_150, lit_202, lit_240, lit_262, lit_894, lit_900, lit_999, lit_1000, lit_2000, lit_2662, lit_2663, lit_2695, lit_2701, lit_2702, lit_3602, lit_10806, nI_add, pk_mul, cl_nI, inb_nI, nI_leI, nI_ltI, nI_eq, nI_eq_m1, m1_eq_nI, nI_eq_m2, div_nI, rem_nI, Option.bind_some, b2_0, b2_1, isb_b2, if_true_, if_false_, ↓reduceIte, reduceCtorEq, not_true_eq_false, not_false_eq_true, bt_hasBit, ult, Nat.add_zero, false_and, true_and, and_true, and_false, Nat.reduceLeDiff, Nat.reduceEqDiff, Nat.reduceLT, Bool.toNat_true, Bool.toNat_false, decide_true, decide_false, Bool.not_true, Bool.not_false, Bool.false_and, Bool.true_and, Bool.and_true, Bool.and_false, Bool.or_false, Bool.true_or, Bool.or_true, Bool.false_or, Nat.not_le.mpr hk, wr_wrs, wrs_other]
    rw [mixF_s]
  · show L_X9_laysAside_2 (n + 1) _ _ = _
    rw [L_X9_laysAside_2]
    simp (disch := omega) only [↓ite_b2r, ↓ite_nb2r, ↓lit_m1, ↓lit_m2, lit_0, lit_1, lit_2, lit_3, lit_4, lit_5, lit_6, lit_7, lit_8, lit_9, lit_10, lit_11, lit_12, lit_13, lit_14, lit_15, lit_16, lit_17, lit_18, lit_19, lit_20, lit_21, lit_22, lit_23, lit_24, lit_25, lit_26, lit_27, lit_28, lit_29, lit_30, lit_31, lit_32, lit_33, lit_34, lit_35, lit_36, lit_40, lit_41, lit_42, lit_44, lit_48, lit_57, lit_59, lit_62, lit_63, lit_64, lit_82, lit_98, lit_99, lit_100, lit_101, lit_102, lit_103, lit_104, lit_105, lit_106, lit_107, lit_108, lit_109, lit_110, lit_111, lit_112, lit_113, lit_119, lit_120, lit_127, lit_128, lit_149, lit_150, lit_202, lit_240, lit_262, lit_894, lit_900, lit_999, lit_1000, lit_2000, lit_2662, lit_2663, lit_2695, lit_2701, lit_2702, lit_3602, lit_10806, nI_add, pk_mul, cl_nI, inb_nI, nI_leI, nI_ltI, nI_eq, nI_eq_m1, m1_eq_nI, nI_eq_m2, div_nI, rem_nI, Option.bind_some, b2_0, b2_1, isb_b2, if_true_, if_false_, ↓reduceIte, reduceCtorEq, not_true_eq_false, not_false_eq_true, bt_hasBit, ult, Nat.add_zero, false_and, true_and, and_true, and_false, Nat.reduceLeDiff, Nat.reduceEqDiff, Nat.reduceLT, Bool.toNat_true, Bool.toNat_false, decide_true, decide_false, Bool.not_true, Bool.not_false, Bool.false_and, Bool.true_and, Bool.and_true, Bool.and_false, Bool.or_false, Bool.true_or, Bool.or_true, Bool.false_or, Nat.le_refl]
theorem m_takesBack (M : Mem) : f_X9_takesBack M = some (wrs M 7 1 (mixF (M.1 7 3) (M.1 7 1) 3602)) := by
  unfold f_X9_takesBack
  refine loop0 (fun n (σ : Int32 × Mem) => L_X9_takesBack_2 n σ.1 σ.2) (fun k => (nI k, wrs M 7 1 (mixF (M.1 7 3) (M.1 7 1) k))) 3602 (nI 0, M) (by rw [mixF_0, wrs_self]) (fun n k hk => ?_) (fun n => ?_) FU (by decide)
  · show L_X9_takesBack_2 (n + 1) _ _ = L_X9_takesBack_2 n _ _
    rw [L_X9_takesBack_2]
    simp (disch := omega) only [↓ite_b2r, ↓ite_nb2r, ↓lit_m1, ↓lit_m2, lit_0, lit_1, lit_2, lit_3, lit_4, lit_5, lit_6, lit_7, lit_8, lit_9, lit_10, lit_11, lit_12, lit_13, lit_14, lit_15, lit_16, lit_17, lit_18, lit_19, lit_20, lit_21, lit_22, lit_23, lit_24, lit_25, lit_26, lit_27, lit_28, lit_29, lit_30, lit_31, lit_32, lit_33, lit_34, lit_35, lit_36, lit_40, lit_41, lit_42, lit_44, lit_48, lit_57, lit_59, lit_62, lit_63, lit_64, lit_82, lit_98, lit_99, lit_100, lit_101, lit_102, lit_103, lit_104, lit_105, lit_106, lit_107, lit_108, lit_109, lit_110, lit_111, lit_112, lit_113, lit_119, lit_120, lit_127, lit_128, lit_149, lit_150, lit_202, lit_240, lit_262, lit_894, lit_900, lit_999, lit_1000, lit_2000, lit_2662, lit_2663, lit_2695, lit_2701, lit_2702, lit_3602, lit_10806, nI_add, pk_mul, cl_nI, inb_nI, nI_leI, nI_ltI, nI_eq, nI_eq_m1, m1_eq_nI, nI_eq_m2, div_nI, rem_nI, Option.bind_some, b2_0, b2_1, isb_b2, if_true_, if_false_, ↓reduceIte, reduceCtorEq, not_true_eq_false, not_false_eq_true, bt_hasBit, ult, Nat.add_zero, false_and, true_and, and_true, and_false, Nat.reduceLeDiff, Nat.reduceEqDiff, Nat.reduceLT, Bool.toNat_true, Bool.toNat_false, decide_true, decide_false, Bool.not_true, Bool.not_false, Bool.false_and, Bool.true_and, Bool.and_true, Bool.and_false, Bool.or_false, Bool.true_or, Bool.or_true, Bool.false_or, Nat.not_le.mpr hk, wr_wrs, wrs_other]
    rw [mixF_s]
  · show L_X9_takesBack_2 (n + 1) _ _ = _
    rw [L_X9_takesBack_2]
    simp (disch := omega) only [↓ite_b2r, ↓ite_nb2r, ↓lit_m1, ↓lit_m2, lit_0, lit_1, lit_2, lit_3, lit_4, lit_5, lit_6, lit_7, lit_8, lit_9, lit_10, lit_11, lit_12, lit_13, lit_14, lit_15, lit_16, lit_17, lit_18, lit_19, lit_20, lit_21, lit_22, lit_23, lit_24, lit_25, lit_26, lit_27, lit_28, lit_29, lit_30, lit_31, lit_32, lit_33, lit_34, lit_35, lit_36, lit_40, lit_41, lit_42, lit_44, lit_48, lit_57, lit_59, lit_62, lit_63, lit_64, lit_82, lit_98, lit_99, lit_100, lit_101, lit_102, lit_103, lit_104, lit_105, lit_106, lit_107, lit_108, lit_109, lit_110, lit_111, lit_112, lit_113, lit_119, lit_120, lit_127, lit_128, lit_149, lit_150, lit_202, lit_240, lit_262, lit_894, lit_900, lit_999, lit_1000, lit_2000, lit_2662, lit_2663, lit_2695, lit_2701, lit_2702, lit_3602, lit_10806, nI_add, pk_mul, cl_nI, inb_nI, nI_leI, nI_ltI, nI_eq, nI_eq_m1, m1_eq_nI, nI_eq_m2, div_nI, rem_nI, Option.bind_some, b2_0, b2_1, isb_b2, if_true_, if_false_, ↓reduceIte, reduceCtorEq, not_true_eq_false, not_false_eq_true, bt_hasBit, ult, Nat.add_zero, false_and, true_and, and_true, and_false, Nat.reduceLeDiff, Nat.reduceEqDiff, Nat.reduceLT, Bool.toNat_true, Bool.toNat_false, decide_true, decide_false, Bool.not_true, Bool.not_false, Bool.false_and, Bool.true_and, Bool.and_true, Bool.and_false, Bool.or_false, Bool.true_or, Bool.or_true, Bool.false_or, Nat.le_refl]
