/-! ===== the outline: the class writes it ===== -/
def BC (M0 M : Mem) (l : List Int32) : Prop := M.1 6 7 1 = nI l.length ∧ (∀ i, i < l.length → M.1 6 8 i = l.getD i (nI 0)) ∧ (∀ j, j ≠ 7 → j ≠ 8 → M.1 6 j = M0.1 6 j) ∧ (∀ g, g ≠ 6 → M.1 g = M0.1 g) ∧ M.2 = M0.2
theorem getD_app (l : List Int32) (x d : Int32) (i : Nat) (h : i < l.length + 1) : (l ++ [x]).getD i d = if i = l.length then x else l.getD i d := by
  by_cases h2 : i = l.length
  · subst h2
    simp
  · rw [if_neg h2]
    have : i < l.length := by omega
    simp [List.getElem?_append_left this]
section OC
variable {M0 M : Mem} {N : Row}
theorem bc_put {l : List Int32} (h : BC M0 M l) (hl : l.length < 128) (x : Int32) : ∃ M', f_X4_put x M = some M' ∧ BC M0 M' (l ++ [x]) := by
  obtain ⟨a1, a2, a3, a4, a5⟩ := h
  have hw : f_X8_isWithin (nI l.length) (nI 0) (nI 127) = b2 true := (c_within (nI l.length) 127 (by decide)).trans (by rw [inR_nI (by omega) (by omega), decide_eq_true (by omega)])
  have e1 : (wr M 6 8 l.length x).1 6 7 1 = nI l.length := by rw [wr_other _ _ _ _ _ (by omega)]; exact a1
  refine ⟨wr (wr M 6 8 l.length x) 6 7 1 (nI (l.length + 1)), ?_, ?_, fun i hi => ?_, fun j h1 h2 => ?_, fun g hg => ?_, ?_⟩
  · unfold f_X4_put
    simp (disch := omega) only [↓ite_b2r, ↓ite_nb2r, ↓lit_m1, ↓lit_m2, lit_0, lit_1, lit_2, lit_3, lit_4, lit_5, lit_6, lit_7, lit_8, lit_9, lit_10, lit_11, lit_12, lit_13, lit_14, lit_15, lit_16, lit_17, lit_18, lit_19, lit_20, lit_21, lit_22, lit_23, lit_24, lit_25, lit_26, lit_27, lit_28, lit_29, lit_30, lit_31, lit_32, lit_33, lit_34, lit_35, lit_36, lit_40, lit_41, lit_42, lit_44, lit_48, lit_57, lit_59, lit_62, lit_63, lit_64, lit_82, lit_98, lit_99, lit_100, lit_101, lit_102, lit_103, lit_104, lit_105, lit_106, lit_107, lit_108, lit_109, lit_110, lit_111, lit_112, lit_113, lit_119, lit_120, lit_127, lit_128, lit_149, lit_150, lit_202, lit_240, lit_262, lit_894, lit_900, lit_999, lit_1000, lit_2000, lit_2662, lit_2663, lit_2695, lit_2701, lit_2702, lit_3602, lit_10806, nI_add, pk_mul, cl_nI, inb_nI, nI_leI, nI_ltI, nI_eq, nI_eq_m1, m1_eq_nI, nI_eq_m2, div_nI, rem_nI, Option.bind_some, b2_0, b2_1, isb_b2, if_true_, if_false_, ↓reduceIte, reduceCtorEq, not_true_eq_false, not_false_eq_true, bt_hasBit, ult, Nat.add_zero, false_and, true_and, and_true, and_false, Nat.reduceLeDiff, Nat.reduceEqDiff, Nat.reduceLT, Bool.toNat_true, Bool.toNat_false, decide_true, decide_false, Bool.not_true, Bool.not_false, Bool.false_and, Bool.true_and, Bool.and_true, Bool.and_false, Bool.or_false, Bool.true_or, Bool.or_true, Bool.false_or, a1, hw, hl, e1]
  · rw [wr_same, upd_same, List.length_append]; rfl
  · rw [List.length_append] at hi
    have hi : i < l.length + 1 := hi
    rw [wr_other _ _ _ _ _ (by omega), wr_same, getD_app _ _ _ _ hi]
    by_cases h2 : i = l.length
    · rw [h2, upd_same, if_pos rfl]
    · rw [upd_other h2, if_neg h2]; exact a2 i (by omega)
  · rw [wr_other _ _ _ _ _ (by omega), wr_other _ _ _ _ _ (by omega)]; exact a3 j h1 h2
  · rw [wr_ng _ _ _ _ hg, wr_ng _ _ _ _ hg]; exact a4 g hg
  · rw [wr_2, wr_2]; exact a5
theorem bc_num {l : List Int32} (h : BC M0 M l) {s : Nat} (hs : s < 20) (hl : l.length + (numL s).length ≤ 128) : ∃ M', f_X4_putNumber (nI s) M = some M' ∧ BC M0 M' (l ++ numL s) := by
  unfold f_X4_putNumber B_X4_putNumber_17
  unfold numL at hl ⊢
  by_cases h10 : s < 10
  · rw [if_pos h10] at hl ⊢
    have hl : l.length + 1 ≤ 128 := hl
    obtain ⟨M1, b1, b2'⟩ := bc_put h (by omega) (nI (48 + s))
    refine ⟨M1, ?_, b2'⟩
    simp (disch := omega) only [↓ite_b2r, ↓ite_nb2r, ↓lit_m1, ↓lit_m2, lit_0, lit_1, lit_2, lit_3, lit_4, lit_5, lit_6, lit_7, lit_8, lit_9, lit_10, lit_11, lit_12, lit_13, lit_14, lit_15, lit_16, lit_17, lit_18, lit_19, lit_20, lit_21, lit_22, lit_23, lit_24, lit_25, lit_26, lit_27, lit_28, lit_29, lit_30, lit_31, lit_32, lit_33, lit_34, lit_35, lit_36, lit_40, lit_41, lit_42, lit_44, lit_48, lit_57, lit_59, lit_62, lit_63, lit_64, lit_82, lit_98, lit_99, lit_100, lit_101, lit_102, lit_103, lit_104, lit_105, lit_106, lit_107, lit_108, lit_109, lit_110, lit_111, lit_112, lit_113, lit_119, lit_120, lit_127, lit_128, lit_149, lit_150, lit_202, lit_240, lit_262, lit_894, lit_900, lit_999, lit_1000, lit_2000, lit_2662, lit_2663, lit_2695, lit_2701, lit_2702, lit_3602, lit_10806, nI_add, pk_mul, cl_nI, inb_nI, nI_leI, nI_ltI, nI_eq, nI_eq_m1, m1_eq_nI, nI_eq_m2, div_nI, rem_nI, Option.bind_some, b2_0, b2_1, isb_b2, if_true_, if_false_, ↓reduceIte, reduceCtorEq, not_true_eq_false, not_false_eq_true, bt_hasBit, ult, Nat.add_zero, false_and, true_and, and_true, and_false, Nat.reduceLeDiff, Nat.reduceEqDiff, Nat.reduceLT, Bool.toNat_true, Bool.toNat_false, decide_true, decide_false, Bool.not_true, Bool.not_false, Bool.false_and, Bool.true_and, Bool.and_true, Bool.and_false, Bool.or_false, Bool.true_or, Bool.or_true, Bool.false_or, h10, show s % 10 = s by omega, b1]
  · rw [if_neg h10] at hl ⊢
    have hl : l.length + 2 ≤ 128 := hl
    obtain ⟨M1, b1, b2'⟩ := bc_put h (by omega) (nI (48 + s / 10))
    obtain ⟨M2, c1, c2⟩ := bc_put b2' (by rw [List.length_append]; show l.length + 1 < 128; omega) (nI (48 + s % 10))
    refine ⟨M2, ?_, by rw [List.append_assoc] at c2; exact c2⟩
    simp (disch := omega) only [↓ite_b2r, ↓ite_nb2r, ↓lit_m1, ↓lit_m2, lit_0, lit_1, lit_2, lit_3, lit_4, lit_5, lit_6, lit_7, lit_8, lit_9, lit_10, lit_11, lit_12, lit_13, lit_14, lit_15, lit_16, lit_17, lit_18, lit_19, lit_20, lit_21, lit_22, lit_23, lit_24, lit_25, lit_26, lit_27, lit_28, lit_29, lit_30, lit_31, lit_32, lit_33, lit_34, lit_35, lit_36, lit_40, lit_41, lit_42, lit_44, lit_48, lit_57, lit_59, lit_62, lit_63, lit_64, lit_82, lit_98, lit_99, lit_100, lit_101, lit_102, lit_103, lit_104, lit_105, lit_106, lit_107, lit_108, lit_109, lit_110, lit_111, lit_112, lit_113, lit_119, lit_120, lit_127, lit_128, lit_149, lit_150, lit_202, lit_240, lit_262, lit_894, lit_900, lit_999, lit_1000, lit_2000, lit_2662, lit_2663, lit_2695, lit_2701, lit_2702, lit_3602, lit_10806, nI_add, pk_mul, cl_nI, inb_nI, nI_leI, nI_ltI, nI_eq, nI_eq_m1, m1_eq_nI, nI_eq_m2, div_nI, rem_nI, Option.bind_some, b2_0, b2_1, isb_b2, if_true_, if_false_, ↓reduceIte, reduceCtorEq, not_true_eq_false, not_false_eq_true, bt_hasBit, ult, Nat.add_zero, false_and, true_and, and_true, and_false, Nat.reduceLeDiff, Nat.reduceEqDiff, Nat.reduceLT, Bool.toNat_true, Bool.toNat_false, decide_true, decide_false, Bool.not_true, Bool.not_false, Bool.false_and, Bool.true_and, Bool.and_true, Bool.and_false, Bool.or_false, Bool.true_or, Bool.or_true, Bool.false_or, h10, b1, c1]
theorem BC.rd {l : List Int32} (h : BC M0 M l) (hr : RD (M0.1 0) N) : RD (M.1 0) N := by rw [h.2.2.2.1 0 (by omega)]; exact hr
theorem c_outT (hN : WFt N) (hr : RD (M0.1 0) N) (hH : HC N) : ∀ f s x3, s < 20 → us N s = true → dpN N s = x3 + 1 → x3 + f = 21 → ∀ (M : Mem) (l : List Int32), BC M0 M l → l.length + (outT N f s).length ≤ 128 → ∃ M', f_X4_putSection 0 f (nI s) (nI x3) M = some M' ∧ BC M0 M' (l ++ outT N f s)
  | 0, s, x3, hs, hu, hd, hf, _, _, _, _ => by have := (dp_pos hN hs hu).2; omega
  | f + 1, s, x3, hs, hu, hd, hf, M, l, hb, hl => by
    have hn1 := numL_len s
    have hd20 := (dp_pos hN hs hu).2
    have hnl : l.length + (numL s).length ≤ 128 := by
      rw [outT] at hl
      by_cases h0 : chMany N s = 0
      · rw [if_pos h0] at hl; exact hl
      · rw [if_neg h0, List.length_append, List.length_append] at hl; omega
    obtain ⟨M1, n1, n2⟩ := bc_num hb hs hnl
    have hle := chMany_le N s
    have hcm := c_childrenOf (M := M1) (g := 0) hN (n2.rd hr) hs hu
    rw [outT] at hl ⊢
    rw [f_X4_putSection, n1, Option.bind_some, hcm, Option.bind_some]
    by_cases h0 : chMany N s = 0
    · rw [if_pos h0, h0, if_pos (show nI 0 = 0 from rfl)]
      exact ⟨M1, rfl, n2⟩
    · rw [if_neg h0] at hl ⊢
      rw [List.length_append, List.length_append] at hl
      have hl2 : l.length + ((numL s).length + (kidL N (outT N f) s (chMany N s)).length + 1) ≤ 128 := hl
      have hne : ¬ nI (chMany N s) = 0 := fun z => by
        have z2 : nI (chMany N s) = nI 0 := z
        rw [nI_eq (by omega) (by omega)] at z2
        exact h0 z2
      have h10 : nI x3 < 20 := by
        show nI x3 < nI 20
        rw [nI_ltI (by omega) (by omega)]
        obtain ⟨d1, d2, d3, -⟩ := hH s hs hu 0 (by omega)
        obtain ⟨e1, e2, e3⟩ := isCh_t d2
        have := dp_s hN (by omega) d1 e2
        rw [e3] at this
        have := (dp_pos hN d1 e2).2
        omega
      rw [if_neg hne, if_pos h10]
      obtain ⟨M2, p1, p2⟩ := bc_put n2 (by rw [List.length_append]; omega) (nI 40)
      rw [show f_X4_put 40 M1 = some M2 from p1, Option.bind_some]
      refine loopE (fun n (σ : Int32 × Mem) => L_X4_putSection_33 0 (f_X4_putSection 0 f) (nI s) (nI x3) (nI (chMany N s)) n σ.1 σ.2) (fun j σ => ∃ M3, σ = (nI j, M3) ∧ BC M0 M3 (if j = 0 then (l ++ numL s) ++ [nI 40] else (l ++ numL s) ++ kidL N (outT N f) s j)) (chMany N s) (fun n j σ hj hσ => ?_) (fun n σ hσ => ?_) FU (FU_lt (by omega)) (nI 0, M2) ⟨M2, rfl, by rw [if_pos rfl]; exact p2⟩
      · obtain ⟨M3, rfl, b1⟩ := hσ
        obtain ⟨d1, d2, d3, d4⟩ := hH s hs hu j hj
        obtain ⟨e1, e2, e3⟩ := isCh_t d2
        have hdc := dp_s hN (by omega) d1 e2
        rw [e3] at hdc
        have hkm := kidL_mono (N := N) (T := outT N f) (s := s) (show j + 1 ≤ chMany N s by omega)
        rw [kidL, List.length_append, List.length_append] at hkm
        have hkm : (kidL N (outT N f) s j).length + 1 + (outT N f (chI N s j)).length ≤ (kidL N (outT N f) s (chMany N s)).length := hkm
        -- the separator stands
        have hsep : ∃ M4, (∀ k : Mem → Option Mem, (if nI j ≤ 0 then k M3 else (f_X4_put (44 : Int32) M3).bind k) = k M4) ∧ BC M0 M4 (((l ++ numL s) ++ kidL N (outT N f) s j) ++ [sepC j]) := by
          by_cases hj0 : j = 0
          · subst hj0
            rw [if_pos rfl] at b1
            refine ⟨M3, fun k => if_pos (show nI 0 ≤ 0 from Int32.le_refl _), ?_⟩
            show BC M0 M3 (((l ++ numL s) ++ []) ++ [nI 40])
            rw [List.append_nil]
            exact b1
          · rw [if_neg hj0] at b1
            obtain ⟨M4, q1, q2⟩ := bc_put b1 (by rw [List.length_append, List.length_append]; omega) (nI 44)
            refine ⟨M4, fun k => ?_, ?_⟩
            · rw [if_neg (nI_nle (by omega) (by omega)), show f_X4_put 44 M3 = some M4 from q1, Option.bind_some]
            · unfold sepC
              rw [if_neg hj0]
              exact q2
        obtain ⟨M4, q1, q2⟩ := hsep
        have hca := c_childAt (M := M4) (g := 0) hN (q2.rd hr) hs hu (nI j)
        rw [d4] at hca
        obtain ⟨M5, r1, r2⟩ := c_outT hN hr hH f (chI N s j) (x3 + 1) d1 e2 (by omega) (by omega) M4 _ q2 (by
          rw [List.length_append, List.length_append, List.length_append]
          show l.length + (numL s).length + (kidL N (outT N f) s j).length + 1 + (outT N f (chI N s j)).length ≤ 128
          omega)
        refine ⟨(nI (j + 1), M5), ?_, M5, rfl, ?_⟩
        · show L_X4_putSection_33 0 _ (nI s) (nI x3) (nI (chMany N s)) (n + 1) _ _ = L_X4_putSection_33 0 _ (nI s) (nI x3) (nI (chMany N s)) n _ _
          rw [L_X4_putSection_33]
          unfold B_X4_putSection_51
          dsimp only
          rw [if_neg (show ¬ nI (chMany N s) ≤ nI j from fun z => by rw [nI_leI (by omega) (by omega)] at z; omega)]
          refine (q1 (fun M => (f_X7_childAt 0 (nI s) (nI j) M).bind fun q9 => (f_X4_putSection 0 f q9 (nI x3 + (1 : Int32)) M).bind fun q10 => L_X4_putSection_33 0 (f_X4_putSection 0 f) (nI s) (nI x3) (nI (chMany N s)) n (nI j + 1) q10)).trans ?_
          rw [hca, Option.bind_some, nI_1, r1, Option.bind_some, nI_1]
        · rw [if_neg (by omega), kidL]
          rw [List.append_assoc (l ++ numL s), List.append_assoc (l ++ numL s)] at r2
          exact r2
      · obtain ⟨M3, rfl, b1⟩ := hσ
        rw [if_neg h0] at b1
        obtain ⟨M4, q1, q2⟩ := bc_put b1 (by rw [List.length_append, List.length_append]; omega) (nI 41)
        refine ⟨M4, ?_, ?_⟩
        · show L_X4_putSection_33 0 _ (nI s) (nI x3) (nI (chMany N s)) (n + 1) _ _ = _
          rw [L_X4_putSection_33]
          dsimp only
          rw [if_pos (Int32.le_refl _), show f_X4_put 41 M3 = some M4 from q1]
          rfl
        · rw [List.append_assoc, List.append_assoc] at q2
          rw [List.append_assoc]
          exact q2
end OC
