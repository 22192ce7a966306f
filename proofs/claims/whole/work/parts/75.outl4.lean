/-! ===== the outline: the call ===== -/
section KO
variable {k : Nat} {M : Mem}
theorem m_outlines {R0 : Mem} {N : Row} (hN : WFt N) (h1 : R0.1 7 1 = N) (hH : HC N) : ∃ R', f_X9_outlines R0 = some R' ∧ BR R0 R' (outT N 21 0) := by
  have h80 := out_80 hN hH 21
  have hbr0 : BR R0 (wr R0 7 0 15 (nI 0)) [] := ⟨by rw [wr_same, upd_same]; rfl, fun i hi => absurd hi (Nat.not_lt_zero _), fun j h1 h2 h3 h4 => by rw [wr_other _ _ _ _ _ (by omega)], fun i hi => by rw [wr_same, upd_other hi], fun g hg => by rw [wr_ng _ _ _ _ hg], by rw [wr_2]⟩
  have hbr := (hbr0.stk (j := 11) (Or.inl rfl) 0 (nI 0)).stk (j := 12) (Or.inr rfl) 0 (nI 0)
  generalize hR1 : wr (wr (wr R0 7 0 15 (nI 0)) 7 11 0 (nI 0)) 7 12 0 (nI 0) = R1 at hbr
  have v11 : R1.1 7 11 0 = nI 0 := by rw [← hR1, wr_other _ _ _ _ _ (by omega), wr_same, upd_same]
  have v12 : R1.1 7 12 0 = nI 0 := by rw [← hR1, wr_same, upd_same]
  obtain ⟨R2, n1, n2, n3, n4⟩ := br_num (s := 0) hbr (by omega) (by have := (numL_len 0).2; show 0 + (numL 0).length ≤ 160; omega)
  obtain ⟨R3, u1, u2, u3⟩ := m_outT hN h1 hH 21 0 1 (by omega) (us_0 hN) (dp_0 hN) rfl R2 [] n2 (by rw [n3]; exact v11) (by rw [n4]; exact v12) (by show 0 + (outT N 21 0).length ≤ 128; omega)
  have u1 : BR R0 R3 (outT N 21 0) := u1
  have u3 : ∀ r, OR (outT N 21 0) 0 R3 r → OR ([] ++ numL 0) 1 R2 r := u3
  refine ⟨R3, ?_, u1⟩
  have hend : OR (outT N 21 0) 0 R3 (some R3) := fun n hn => by
    obtain ⟨m, rfl⟩ : ∃ m, n = m + 1 := ⟨n - 1, by omega⟩
    rw [L_X9_outlines_26, if_pos (show nI 0 ≤ 0 from Int32.le_refl _)]
  have hFU : 300 < FU := FU_lt (by omega)
  have := u3 _ hend FU (by omega)
  have e0 : cl (0 : Int32) = 0 := cl_nI (n := 0) (by omega)
  have hR1' : wr (wr (wr R0 7 0 15 (0 : Int32)) 7 11 0 (0 : Int32)) 7 12 0 (0 : Int32) = R1 := hR1
  unfold f_X9_outlines
  rw [e0, hR1', show f_X9_putsNumber 0 R1 = some R2 from n1, Option.bind_some]
  exact (congrArg (fun z => L_X9_outlines_26 FU z R2) (show (1 : Int32) = nI 1 from rfl)).trans this
theorem k_outline (h : SR k M) (x : Int32) : okc k M (f_L_outline x) (f_X9_outline x) := by
  have hr := h.2.1
  have hN := h.1.1
  by_cases hx : x < nI 0
  · refine okc_r h (r := 1) (b := nI 0) (by decide) ?_ ?_
    · have e : f_X8_faultOf (nI 1) (nI 0) (nI 1) = nI (flt true false true) := c_faultOf true false true
      unfold f_L_outline f_X8_outline B_X8_outline_10
      simp (disch := omega) only [↓ite_b2r, ↓ite_nb2r, ↓lit_m1, ↓lit_m2, lit_0, lit_1, lit_2, lit_3, lit_4, lit_5, lit_6, lit_7, lit_8, lit_9, lit_10, lit_11, lit_12, lit_13, lit_14, lit_15, lit_16, lit_17, lit_18, lit_19, lit_20, lit_21, lit_22, lit_23, lit_24, lit_25, lit_26, lit_27, lit_28, lit_29, lit_30, lit_31, lit_32, lit_33, lit_34, lit_35, lit_36, lit_40, lit_41, lit_42, lit_44, lit_48, lit_57, lit_59, lit_62, lit_63, lit_64, lit_82, lit_98, lit_99, lit_100, lit_101, lit_102, lit_103, lit_104, lit_105, lit_106, lit_107, lit_108, lit_109, lit_110, lit_111, lit_112, lit_113, lit_119, lit_120, lit_127, lit_128, lit_149, lit_150, lit_202, lit_240, lit_262, lit_894, lit_900, lit_999, lit_1000, lit_2000, lit_2662, lit_2663, lit_2695, lit_2701, lit_2702, lit_3602, lit_10806, nI_add, pk_mul, cl_nI, inb_nI, nI_leI, nI_ltI, nI_eq, nI_eq_m1, m1_eq_nI, nI_eq_m2, div_nI, rem_nI, Option.bind_some, b2_0, b2_1, isb_b2, if_true_, if_false_, ↓reduceIte, reduceCtorEq, not_true_eq_false, not_false_eq_true, bt_hasBit, ult, Nat.add_zero, false_and, true_and, and_true, and_false, Nat.reduceLeDiff, Nat.reduceEqDiff, Nat.reduceLT, Bool.toNat_true, Bool.toNat_false, decide_true, decide_false, Bool.not_true, Bool.not_false, Bool.false_and, Bool.true_and, Bool.and_true, Bool.and_false, Bool.or_false, Bool.true_or, Bool.or_true, Bool.false_or, flt_1, flt_2, flt_3, flt_0, fk_flt, fkl_0, fkl_1, fkl_2, fkl_3, n10, n20, n30, n12, n13, n21, n23, n31, n32, refu_0, refu_1, refu_2, refu_3, hx, e]
    · have hx2 : ¬ nI 0 ≤ x := fun z => Int32.not_lt.mpr z hx
      unfold f_X9_outline B_X9_outline_10
      simp (disch := omega) only [↓ite_b2r, ↓ite_nb2r, ↓lit_m1, ↓lit_m2, lit_0, lit_1, lit_2, lit_3, lit_4, lit_5, lit_6, lit_7, lit_8, lit_9, lit_10, lit_11, lit_12, lit_13, lit_14, lit_15, lit_16, lit_17, lit_18, lit_19, lit_20, lit_21, lit_22, lit_23, lit_24, lit_25, lit_26, lit_27, lit_28, lit_29, lit_30, lit_31, lit_32, lit_33, lit_34, lit_35, lit_36, lit_40, lit_41, lit_42, lit_44, lit_48, lit_57, lit_59, lit_62, lit_63, lit_64, lit_82, lit_98, lit_99, lit_100, lit_101, lit_102, lit_103, lit_104, lit_105, lit_106, lit_107, lit_108, lit_109, lit_110, lit_111, lit_112, lit_113, lit_119, lit_120, lit_127, lit_128, lit_149, lit_150, lit_202, lit_240, lit_262, lit_894, lit_900, lit_999, lit_1000, lit_2000, lit_2662, lit_2663, lit_2695, lit_2701, lit_2702, lit_3602, lit_10806, nI_add, pk_mul, cl_nI, inb_nI, nI_leI, nI_ltI, nI_eq, nI_eq_m1, m1_eq_nI, nI_eq_m2, div_nI, rem_nI, Option.bind_some, b2_0, b2_1, isb_b2, if_true_, if_false_, ↓reduceIte, reduceCtorEq, not_true_eq_false, not_false_eq_true, bt_hasBit, ult, Nat.add_zero, false_and, true_and, and_true, and_false, Nat.reduceLeDiff, Nat.reduceEqDiff, Nat.reduceLT, Bool.toNat_true, Bool.toNat_false, decide_true, decide_false, Bool.not_true, Bool.not_false, Bool.false_and, Bool.true_and, Bool.and_true, Bool.and_false, Bool.or_false, Bool.true_or, Bool.or_true, Bool.false_or, flt_1, flt_2, flt_3, flt_0, fk_flt, fkl_0, fkl_1, fkl_2, fkl_3, n10, n20, n30, n12, n13, n21, n23, n31, n32, refu_0, refu_1, refu_2, refu_3, hx2]
  · have hx2 : nI 0 ≤ x := Int32.not_lt.mp hx
    have hH : HC (M.1 7 1) := HC_of hN.1.1 hr.2.1
    have h80 := out_80 hN.1.1 hH 21
    have hb0 : BC M (wr M 6 7 1 (nI 0)) [] := ⟨by rw [wr_same, upd_same]; rfl, fun i hi => absurd hi (Nat.not_lt_zero _), fun j h1 h2 => by rw [wr_other _ _ _ _ _ (by omega)], fun g hg => by rw [wr_ng _ _ _ _ hg], by rw [wr_2]⟩
    obtain ⟨M2, a1, a2⟩ := c_outT hN.1.1 hr hH 21 0 0 (by omega) (us_0 hN.1.1) (dp_0 hN.1.1) rfl _ [] hb0 (by show 0 + (outT (M.1 7 1) 21 0).length ≤ 128; omega)
    have a2 : BC M M2 (outT (M.1 7 1) 21 0) := a2
    obtain ⟨b1, b2', b3, b4, b5⟩ := a2
    generalize hl : outT (M.1 7 1) 21 0 = l at h80 b1 b2'
    have hby : f_X4_byteAt x M2 = some (if inR x l.length = true then l.getD (cl x) (nI 0) else mI) := by
      have hw := wiN x (n := l.length) (by omega)
      unfold f_X4_byteAt B_X4_byteAt_25 B_X4_byteAt_26
      rw [b1, hw]
      cases hi : inR x l.length with
      | false => rfl
      | true =>
        obtain ⟨i, hi2, rfl⟩ := inR_t (by omega) hi
        have e8 := b2' i hi2
        rw [if_neg (show ¬ b2 true = 0 by decide), if_pos rfl]
        simp (disch := omega) only [↓ite_b2r, ↓ite_nb2r, ↓lit_m1, ↓lit_m2, lit_0, lit_1, lit_2, lit_3, lit_4, lit_5, lit_6, lit_7, lit_8, lit_9, lit_10, lit_11, lit_12, lit_13, lit_14, lit_15, lit_16, lit_17, lit_18, lit_19, lit_20, lit_21, lit_22, lit_23, lit_24, lit_25, lit_26, lit_27, lit_28, lit_29, lit_30, lit_31, lit_32, lit_33, lit_34, lit_35, lit_36, lit_40, lit_41, lit_42, lit_44, lit_48, lit_57, lit_59, lit_62, lit_63, lit_64, lit_82, lit_98, lit_99, lit_100, lit_101, lit_102, lit_103, lit_104, lit_105, lit_106, lit_107, lit_108, lit_109, lit_110, lit_111, lit_112, lit_113, lit_119, lit_120, lit_127, lit_128, lit_149, lit_150, lit_202, lit_240, lit_262, lit_894, lit_900, lit_999, lit_1000, lit_2000, lit_2662, lit_2663, lit_2695, lit_2701, lit_2702, lit_3602, lit_10806, nI_add, pk_mul, cl_nI, inb_nI, nI_leI, nI_ltI, nI_eq, nI_eq_m1, m1_eq_nI, nI_eq_m2, div_nI, rem_nI, Option.bind_some, b2_0, b2_1, isb_b2, if_true_, if_false_, ↓reduceIte, reduceCtorEq, not_true_eq_false, not_false_eq_true, bt_hasBit, ult, Nat.add_zero, false_and, true_and, and_true, and_false, Nat.reduceLeDiff, Nat.reduceEqDiff, Nat.reduceLT, Bool.toNat_true, Bool.toNat_false, decide_true, decide_false, Bool.not_true, Bool.not_false, Bool.false_and, Bool.true_and, Bool.and_true, Bool.and_false, Bool.or_false, Bool.true_or, Bool.or_true, Bool.false_or, show ¬ 128 ≤ i by omega, show i < 128 by omega, e8]
    refine okc_g (M' := M2) h (a := if inR x l.length = true then l.getD (cl x) (nI 0) else mI) ?_ (b4 0 (by omega)) (fun g h1 h2 => b4 g (by omega)) (fun j hj => b3 j (by omega) (by omega)) (b4 7 (by omega)) (fun M1 h1 => ?_)
    · have e : f_X8_faultOf (1 : Int32) (1 : Int32) (1 : Int32) = nI (flt true true true) := c_faultOf true true true
      have a1' : f_X4_putSection 0 21 (0 : Int32) (0 : Int32) (wr M 6 7 1 (0 : Int32)) = some M2 := a1
      unfold f_L_outline f_X8_outline B_X8_outline_10
      rw [if_neg (show ¬ x < 0 from hx), e, fk_flt, flt_0, if_pos rfl, a1', Option.bind_some, hby]
      rfl
    · have h71 : (wr M1 7 0 4 (nI 0)).1 7 1 = M.1 7 1 := by rw [wr_other _ _ _ _ _ (by omega), h1]
      obtain ⟨R', c1, c2⟩ := m_outlines (R0 := wr M1 7 0 4 (nI 0)) (N := M.1 7 1) hN.1.1 h71 hH
      rw [hl] at c2
      obtain ⟨d1, d2, d3, d4, d5, d6⟩ := c2
      refine ⟨R', ?_, by rw [d6, wr_2], by rw [d4 4 (by omega), wr_same, upd_same], fun g hg => by rw [d5 g (by omega), wr_ng _ _ _ _ (by omega)], ?_, ?_, ?_, ?_, ?_⟩
      · unfold f_X9_outline B_X9_outline_10
        rw [if_pos (show (0 : Int32) ≤ x from hx2), show f_X9_refused 0 M1 = _ from refu_0 M1, Option.bind_some, if_pos (show nI 0 = 0 from rfl), c1, Option.bind_some, d1]
        cases hi : inR x l.length with
        | false =>
          have hle : nI l.length ≤ x := by
            unfold inR at hi
            rw [decide_eq_false hx, Bool.not_false, Bool.true_and, Bool.not_eq_false', decide_eq_true_eq] at hi
            exact hi
          rw [if_pos hle]
          rfl
        | true =>
          obtain ⟨i, hi2, rfl⟩ := inR_t (by omega) hi
          have e8 := d2 i hi2
          rw [if_neg (show ¬ nI l.length ≤ nI i from fun z => by rw [nI_leI (by omega) (by omega)] at z; omega), if_pos rfl]
          simp (disch := omega) only [↓ite_b2r, ↓ite_nb2r, ↓lit_m1, ↓lit_m2, lit_0, lit_1, lit_2, lit_3, lit_4, lit_5, lit_6, lit_7, lit_8, lit_9, lit_10, lit_11, lit_12, lit_13, lit_14, lit_15, lit_16, lit_17, lit_18, lit_19, lit_20, lit_21, lit_22, lit_23, lit_24, lit_25, lit_26, lit_27, lit_28, lit_29, lit_30, lit_31, lit_32, lit_33, lit_34, lit_35, lit_36, lit_40, lit_41, lit_42, lit_44, lit_48, lit_57, lit_59, lit_62, lit_63, lit_64, lit_82, lit_98, lit_99, lit_100, lit_101, lit_102, lit_103, lit_104, lit_105, lit_106, lit_107, lit_108, lit_109, lit_110, lit_111, lit_112, lit_113, lit_119, lit_120, lit_127, lit_128, lit_149, lit_150, lit_202, lit_240, lit_262, lit_894, lit_900, lit_999, lit_1000, lit_2000, lit_2662, lit_2663, lit_2695, lit_2701, lit_2702, lit_3602, lit_10806, nI_add, pk_mul, cl_nI, inb_nI, nI_leI, nI_ltI, nI_eq, nI_eq_m1, m1_eq_nI, nI_eq_m2, div_nI, rem_nI, Option.bind_some, b2_0, b2_1, isb_b2, if_true_, if_false_, ↓reduceIte, reduceCtorEq, not_true_eq_false, not_false_eq_true, bt_hasBit, ult, Nat.add_zero, false_and, true_and, and_true, and_false, Nat.reduceLeDiff, Nat.reduceEqDiff, Nat.reduceLT, Bool.toNat_true, Bool.toNat_false, decide_true, decide_false, Bool.not_true, Bool.not_false, Bool.false_and, Bool.true_and, Bool.and_true, Bool.and_false, Bool.or_false, Bool.true_or, Bool.or_true, Bool.false_or, show i < 160 by omega, e8]
      · rw [d3 1 (by omega) (by omega) (by omega) (by omega), wr_other _ _ _ _ _ (by omega)]; exact eqR.rf
      · rw [d3 2 (by omega) (by omega) (by omega) (by omega), wr_other _ _ _ _ _ (by omega)]
      · rw [d3 4 (by omega) (by omega) (by omega) (by omega), wr_other _ _ _ _ _ (by omega)]
      · rw [d4 3 (by omega), wr_same, upd_other (by omega)]
      · rw [d4 6 (by omega), wr_same, upd_other (by omega)]
end KO
