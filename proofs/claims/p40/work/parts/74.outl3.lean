/-! ===== the outline: the reference writes it ===== -/
def BR (R0 R : Mem) (l : List Int32) : Prop := R.1 7 0 15 = nI l.length ∧ (∀ i, i < l.length → R.1 7 10 i = l.getD i (nI 0)) ∧ (∀ j, j ≠ 0 → j ≠ 10 → j ≠ 11 → j ≠ 12 → R.1 7 j = R0.1 7 j) ∧ (∀ i, i ≠ 15 → R.1 7 0 i = R0.1 7 0 i) ∧ (∀ g, g ≠ 7 → R.1 g = R0.1 g) ∧ R.2 = R0.2
/-- the loop from here has this result, however much fuel is left -/
def OR (l : List Int32) (h : Nat) (R : Mem) (r : Option Mem) : Prop := ∀ n, 300 < n + (2 * l.length + 21 - h) → L_X9_outlines_26 n (nI h) R = r
theorem lapp (a b : List Int32) : (a ++ b).length = a.length + b.length := List.length_append
section OQ
variable {R0 R : Mem} {N : Row} {l : List Int32}
theorem br_put (h : BR R0 R l) (hl : l.length < 160) (x : Int32) : ∃ R', f_X9_puts x R = some R' ∧ BR R0 R' (l ++ [x]) ∧ R'.1 7 11 = R.1 7 11 ∧ R'.1 7 12 = R.1 7 12 := by
  obtain ⟨a1, a2, a3, a4, a5, a6⟩ := h
  have e1 : (wr R 7 10 l.length x).1 7 0 15 = nI l.length := by rw [wr_other _ _ _ _ _ (by omega)]; exact a1
  refine ⟨wr (wr R 7 10 l.length x) 7 0 15 (nI (l.length + 1)), ?_, ⟨?_, fun i hi => ?_, fun j h1 h2 h3 h4 => ?_, fun i hi => ?_, fun g hg => ?_, ?_⟩, ?_, ?_⟩
  · unfold f_X9_puts
    simp (disch := omega) only [↓ite_b2r, ↓ite_nb2r, ↓lit_m1, ↓lit_m2, lit_0, lit_1, lit_2, lit_3, lit_4, lit_5, lit_6, lit_7, lit_8, lit_9, lit_10, lit_11, lit_12, lit_13, lit_14, lit_15, lit_16, lit_17, lit_18, lit_19, lit_20, lit_21, lit_22, lit_23, lit_24, lit_25, lit_26, lit_27, lit_28, lit_29, lit_30, lit_31, lit_32, lit_33, lit_34, lit_35, lit_36, lit_40, lit_41, lit_42, lit_44, lit_48, lit_57, lit_59, lit_62, lit_63, lit_64, lit_82, lit_98, lit_99, lit_100, lit_101, lit_102, lit_103, lit_104, lit_105, lit_106, lit_107, lit_108, lit_109, lit_110, lit_111, lit_112, lit_113, lit_119, lit_120, lit_127, lit_128, lit_149, lit_150, lit_202, lit_240, lit_262, lit_894, lit_900, lit_999, lit_1000, lit_2000, lit_2662, lit_2663, lit_2695, lit_2701, lit_2702, lit_3602, lit_10806, nI_add, pk_mul, cl_nI, inb_nI, nI_leI, nI_ltI, nI_eq, nI_eq_m1, m1_eq_nI, nI_eq_m2, div_nI, rem_nI, Option.bind_some, b2_0, b2_1, isb_b2, if_true_, if_false_, ↓reduceIte, reduceCtorEq, not_true_eq_false, not_false_eq_true, bt_hasBit, ult, Nat.add_zero, false_and, true_and, and_true, and_false, Nat.reduceLeDiff, Nat.reduceEqDiff, Nat.reduceLT, Bool.toNat_true, Bool.toNat_false, decide_true, decide_false, Bool.not_true, Bool.not_false, Bool.false_and, Bool.true_and, Bool.and_true, Bool.and_false, Bool.or_false, Bool.true_or, Bool.or_true, Bool.false_or, a1, hl, e1]
  · rw [wr_same, upd_same, List.length_append]; rfl
  · rw [List.length_append] at hi
    have hi : i < l.length + 1 := hi
    rw [wr_other _ _ _ _ _ (by omega), wr_same, getD_app _ _ _ _ hi]
    by_cases h2 : i = l.length
    · rw [h2, upd_same, if_pos rfl]
    · rw [upd_other h2, if_neg h2]; exact a2 i (by omega)
  · rw [wr_other _ _ _ _ _ (by omega), wr_other _ _ _ _ _ (by omega)]; exact a3 j h1 h2 h3 h4
  · rw [wr_same, upd_other hi, wr_other _ _ _ _ _ (by omega)]; exact a4 i hi
  · rw [wr_ng _ _ _ _ hg, wr_ng _ _ _ _ hg]; exact a5 g hg
  · rw [wr_2, wr_2]; exact a6
  · rw [wr_other _ _ _ _ _ (by omega), wr_other _ _ _ _ _ (by omega)]
  · rw [wr_other _ _ _ _ _ (by omega), wr_other _ _ _ _ _ (by omega)]
theorem br_num (h : BR R0 R l) {s : Nat} (hs : s < 20) (hl : l.length + (numL s).length ≤ 160) : ∃ R', f_X9_putsNumber (nI s) R = some R' ∧ BR R0 R' (l ++ numL s) ∧ R'.1 7 11 = R.1 7 11 ∧ R'.1 7 12 = R.1 7 12 := by
  unfold f_X9_putsNumber B_X9_putsNumber_17
  unfold numL at hl ⊢
  by_cases h10 : s < 10
  · rw [if_pos h10] at hl ⊢
    have hl : l.length + 1 ≤ 160 := hl
    obtain ⟨M1, b1, b2'⟩ := br_put h (by omega) (nI (48 + s))
    refine ⟨M1, ?_, b2'⟩
    simp (disch := omega) only [↓ite_b2r, ↓ite_nb2r, ↓lit_m1, ↓lit_m2, lit_0, lit_1, lit_2, lit_3, lit_4, lit_5, lit_6, lit_7, lit_8, lit_9, lit_10, lit_11, lit_12, lit_13, lit_14, lit_15, lit_16, lit_17, lit_18, lit_19, lit_20, lit_21, lit_22, lit_23, lit_24, lit_25, lit_26, lit_27, lit_28, lit_29, lit_30, lit_31, lit_32, lit_33, lit_34, lit_35, lit_36, lit_40, lit_41, lit_42, lit_44, lit_48, lit_57, lit_59, lit_62, lit_63, lit_64, lit_82, lit_98, lit_99, lit_100, lit_101, lit_102, lit_103, lit_104, lit_105, lit_106, lit_107, lit_108, lit_109, lit_110, lit_111, lit_112, lit_113, lit_119, lit_120, lit_127, lit_128, lit_149, lit_150, lit_202, lit_240, lit_262, lit_894, lit_900, lit_999, lit_1000, lit_2000, lit_2662, lit_2663, lit_2695, lit_2701, lit_2702, lit_3602, lit_10806, nI_add, pk_mul, cl_nI, inb_nI, nI_leI, nI_ltI, nI_eq, nI_eq_m1, m1_eq_nI, nI_eq_m2, div_nI, rem_nI, Option.bind_some, b2_0, b2_1, isb_b2, if_true_, if_false_, ↓reduceIte, reduceCtorEq, not_true_eq_false, not_false_eq_true, bt_hasBit, ult, Nat.add_zero, false_and, true_and, and_true, and_false, Nat.reduceLeDiff, Nat.reduceEqDiff, Nat.reduceLT, Bool.toNat_true, Bool.toNat_false, decide_true, decide_false, Bool.not_true, Bool.not_false, Bool.false_and, Bool.true_and, Bool.and_true, Bool.and_false, Bool.or_false, Bool.true_or, Bool.or_true, Bool.false_or, show s ≤ 9 by omega, show s % 10 = s by omega, b1]
  · rw [if_neg h10] at hl ⊢
    have hl : l.length + 2 ≤ 160 := hl
    obtain ⟨M1, b1, b2', b3, b4⟩ := br_put h (by omega) (nI (48 + s / 10))
    obtain ⟨M2, c1, c2, c3, c4⟩ := br_put b2' (by rw [List.length_append]; show l.length + 1 < 160; omega) (nI (48 + s % 10))
    refine ⟨M2, ?_, by rw [List.append_assoc] at c2; exact c2, c3.trans b3, c4.trans b4⟩
    simp (disch := omega) only [↓ite_b2r, ↓ite_nb2r, ↓lit_m1, ↓lit_m2, lit_0, lit_1, lit_2, lit_3, lit_4, lit_5, lit_6, lit_7, lit_8, lit_9, lit_10, lit_11, lit_12, lit_13, lit_14, lit_15, lit_16, lit_17, lit_18, lit_19, lit_20, lit_21, lit_22, lit_23, lit_24, lit_25, lit_26, lit_27, lit_28, lit_29, lit_30, lit_31, lit_32, lit_33, lit_34, lit_35, lit_36, lit_40, lit_41, lit_42, lit_44, lit_48, lit_57, lit_59, lit_62, lit_63, lit_64, lit_82, lit_98, lit_99, lit_100, lit_101, lit_102, lit_103, lit_104, lit_105, lit_106, lit_107, lit_108, lit_109, lit_110, lit_111, lit_112, lit_113, lit_119, lit_120, lit_127, lit_128, lit_149, lit_150, lit_202, lit_240, lit_262, lit_894, lit_900, lit_999, lit_1000, lit_2000, lit_2662, lit_2663, lit_2695, lit_2701, lit_2702, lit_3602, lit_10806, nI_add, pk_mul, cl_nI, inb_nI, nI_leI, nI_ltI, nI_eq, nI_eq_m1, m1_eq_nI, nI_eq_m2, div_nI, rem_nI, Option.bind_some, b2_0, b2_1, isb_b2, if_true_, if_false_, ↓reduceIte, reduceCtorEq, not_true_eq_false, not_false_eq_true, bt_hasBit, ult, Nat.add_zero, false_and, true_and, and_true, and_false, Nat.reduceLeDiff, Nat.reduceEqDiff, Nat.reduceLT, Bool.toNat_true, Bool.toNat_false, decide_true, decide_false, Bool.not_true, Bool.not_false, Bool.false_and, Bool.true_and, Bool.and_true, Bool.and_false, Bool.or_false, Bool.true_or, Bool.or_true, Bool.false_or, show ¬ s ≤ 9 by omega, b1, c1]
theorem BR.stk (h : BR R0 R l) {j : Nat} (hj : j = 11 ∨ j = 12) (i : Nat) (v : Int32) : BR R0 (wr R 7 j i v) l := by
  obtain ⟨a1, a2, a3, a4, a5, a6⟩ := h
  exact ⟨by rw [wr_other _ _ _ _ _ (by omega)]; exact a1, fun i hi => by rw [wr_other _ _ _ _ _ (by omega)]; exact a2 i hi, fun j' h1 h2 h3 h4 => by rw [wr_other _ _ _ _ _ (by omega)]; exact a3 j' h1 h2 h3 h4, fun i hi => by rw [wr_other _ _ _ _ _ (by omega)]; exact a4 i hi, fun g hg => by rw [wr_ng _ _ _ _ hg]; exact a5 g hg, by rw [wr_2]; exact a6⟩
theorem or_step {l l' : List Int32} {h h' : Nat} {R R' : Mem} {r : Option Mem} (hs : ∀ n, L_X9_outlines_26 (n + 1) (nI h) R = L_X9_outlines_26 n (nI h') R') (hl : l.length ≤ 128) (hμ : 2 * l.length + 21 - h < 2 * l'.length + 21 - h') (hr : OR l' h' R' r) : OR l h R r := by
  intro n hn
  obtain ⟨m, rfl⟩ : ∃ m, n = m + 1 := ⟨n - 1, by omega⟩
  rw [hs]
  exact hr m (by omega)
theorem m_outT (hN : WFt N) (h1 : R0.1 7 1 = N) (hH : HC N) : ∀ f s h, s < 20 → us N s = true → dpN N s = h → h + f = 22 → ∀ (R : Mem) (l : List Int32), BR R0 R (l ++ numL s) → R.1 7 11 (h - 1) = nI s → R.1 7 12 (h - 1) = nI 0 → l.length + (outT N f s).length ≤ 128 → ∃ R', BR R0 R' (l ++ outT N f s) ∧ (∀ i, i < h - 1 → R'.1 7 11 i = R.1 7 11 i ∧ R'.1 7 12 i = R.1 7 12 i) ∧ ∀ r, OR (l ++ outT N f s) (h - 1) R' r → OR (l ++ numL s) h R r
  | 0, s, h, hs, hu, hd, hf, _, _, _, _, _, _ => by have := (dp_pos hN hs hu).2; omega
  | f + 1, s, h, hs, hu, hd, hf, R, l, hb, hs1, hs2, hl => by
    obtain ⟨hp1, hp2⟩ := dp_pos hN hs hu
    have hle := chMany_le N s
    have hn1 := numL_len s
    have hcm : ∀ R l, BR R0 R l → f_X9_childMany (nI s) R = some (nI (chMany N s)) := fun R l hb => by
      have e : R.1 7 1 = N := by rw [hb.2.2.1 1 (by omega) (by omega) (by omega) (by omega)]; exact h1
      have := m_childMany (M := R) (by rw [e]; exact hN) hs
      rw [e] at this
      exact this
    have hh1 : nI h - 1 = nI (h - 1) := pk_sub (b := 1) (by omega)
    have hhm : nI h + mI = nI (h - 1) := (show nI h + mI = nI h - 1 from (Int32.sub_eq_add_neg _ _).symm).trans hh1
    by_cases h0 : chMany N s = 0
    · rw [outT, if_pos h0] at hl ⊢
      refine ⟨R, hb, fun _ _ => ⟨rfl, rfl⟩, fun r hr => or_step (fun n => ?_) (by rw [List.length_append]; omega) (by omega) hr⟩
      have hc := hcm R _ hb
      rw [h0] at hc
      rw [L_X9_outlines_26]
      unfold B_X9_outlines_129 B_X9_outlines_132
      have hs1' : R.1 7 11 (h - 1) = nI s := hs1
      rw [if_neg (nI_nle (by omega) (by omega)), hh1]
      simp (disch := omega) only [↓ite_b2r, ↓ite_nb2r, ↓lit_m1, ↓lit_m2, lit_0, lit_1, lit_2, lit_3, lit_4, lit_5, lit_6, lit_7, lit_8, lit_9, lit_10, lit_11, lit_12, lit_13, lit_14, lit_15, lit_16, lit_17, lit_18, lit_19, lit_20, lit_21, lit_22, lit_23, lit_24, lit_25, lit_26, lit_27, lit_28, lit_29, lit_30, lit_31, lit_32, lit_33, lit_34, lit_35, lit_36, lit_40, lit_41, lit_42, lit_44, lit_48, lit_57, lit_59, lit_62, lit_63, lit_64, lit_82, lit_98, lit_99, lit_100, lit_101, lit_102, lit_103, lit_104, lit_105, lit_106, lit_107, lit_108, lit_109, lit_110, lit_111, lit_112, lit_113, lit_119, lit_120, lit_127, lit_128, lit_149, lit_150, lit_202, lit_240, lit_262, lit_894, lit_900, lit_999, lit_1000, lit_2000, lit_2662, lit_2663, lit_2695, lit_2701, lit_2702, lit_3602, lit_10806, nI_add, pk_mul, cl_nI, inb_nI, nI_leI, nI_ltI, nI_eq, nI_eq_m1, m1_eq_nI, nI_eq_m2, div_nI, rem_nI, Option.bind_some, b2_0, b2_1, isb_b2, if_true_, if_false_, ↓reduceIte, reduceCtorEq, not_true_eq_false, not_false_eq_true, bt_hasBit, ult, Nat.add_zero, false_and, true_and, and_true, and_false, Nat.reduceLeDiff, Nat.reduceEqDiff, Nat.reduceLT, Bool.toNat_true, Bool.toNat_false, decide_true, decide_false, Bool.not_true, Bool.not_false, Bool.false_and, Bool.true_and, Bool.and_true, Bool.and_false, Bool.or_false, Bool.true_or, Bool.or_true, Bool.false_or, show h - 1 < 21 by omega, hs1, hs2, hc, Nat.le_refl]
      rw [hhm]
    · have hkids : ∀ j, j ≤ chMany N s → ∃ R', BR R0 R' ((l ++ numL s) ++ kidL N (outT N f) s j) ∧ R'.1 7 11 (h - 1) = nI s ∧ R'.1 7 12 (h - 1) = nI j ∧ (∀ i, i < h - 1 → R'.1 7 11 i = R.1 7 11 i ∧ R'.1 7 12 i = R.1 7 12 i) ∧ ∀ r, OR ((l ++ numL s) ++ kidL N (outT N f) s j) h R' r → OR (l ++ numL s) h R r := by
        have hl3 : l.length + ((numL s).length + (kidL N (outT N f) s (chMany N s)).length + 1) ≤ 128 := by
          rw [outT, if_neg h0, List.length_append, List.length_append] at hl
          exact hl
        intro j
        induction j with
        | zero =>
          intro _
          refine ⟨R, ?_, hs1, hs2, fun _ _ => ⟨rfl, rfl⟩, fun r hr => ?_⟩
          · show BR R0 R ((l ++ numL s) ++ [])
            rw [List.append_nil]; exact hb
          · have hr2 : OR ((l ++ numL s) ++ []) h R r := hr
            rw [List.append_nil] at hr2
            exact hr2
        | succ j ih =>
          intro hj
          obtain ⟨R1, b1, b2', b3, b4, b5⟩ := ih (by omega)
          obtain ⟨d1, d2, d3, d4⟩ := hH s hs hu j (by omega)
          obtain ⟨e1, e2, e3⟩ := isCh_t d2
          have hdc := dp_s hN (by omega) d1 e2
          rw [e3] at hdc
          have hdc20 := (dp_pos hN d1 e2).2
          have hkm := kidL_mono (N := N) (T := outT N f) (s := s) hj
          rw [kidL, List.length_append, List.length_append] at hkm
          have hkm : (kidL N (outT N f) s j).length + 1 + (outT N f (chI N s j)).length ≤ (kidL N (outT N f) s (chMany N s)).length := hkm
          obtain ⟨R2, p1, p2, p3, p4⟩ := br_put b1 (by rw [List.length_append, List.length_append]; omega) (sepC j)
          have q2 := p2.stk (j := 12) (Or.inr rfl) (h - 1) (nI (j + 1))
          generalize hR3 : wr R2 7 12 (h - 1) (nI (j + 1)) = R3 at q2
          have eR3 : R3.1 7 1 = N := by rw [q2.2.2.1 1 (by omega) (by omega) (by omega) (by omega)]; exact h1
          have hca := m_childAt (M := R3) (by rw [eR3]; exact hN) hs (nI j)
          rw [eR3, d4] at hca
          have q3 := (q2.stk (j := 11) (Or.inl rfl) h (nI (chI N s j))).stk (j := 12) (Or.inr rfl) h (nI 0)
          generalize hR4 : wr (wr R3 7 11 h (nI (chI N s j))) 7 12 h (nI 0) = R4 at q3
          have v11 : R4.1 7 11 = upd (R2.1 7 11) h (nI (chI N s j)) := by rw [← hR4, wr_other _ _ _ _ _ (by omega), wr_same, ← hR3, wr_other _ _ _ _ _ (by omega)]
          have v12 : R4.1 7 12 = upd (upd (R2.1 7 12) (h - 1) (nI (j + 1))) h (nI 0) := by rw [← hR4, wr_same, wr_other _ _ _ _ _ (by omega), ← hR3, wr_same]
          obtain ⟨R5, n1, n2, n3, n4⟩ := br_num q3 d1 (by
            have := (numL_len (chI N s j)).2
            rw [List.length_append, List.length_append, List.length_append]
            show l.length + (numL s).length + (kidL N (outT N f) s j).length + 1 + _ ≤ 160
            omega)
          have w11 : R5.1 7 11 h = nI (chI N s j) := by rw [n3, v11, upd_same]
          have w12 : R5.1 7 12 h = nI 0 := by rw [n4, v12, upd_same]
          obtain ⟨R6, u1, u2, u3⟩ := m_outT hN h1 hH f (chI N s j) (h + 1) d1 e2 (by omega) (by omega) R5 _ n2 (by rw [Nat.add_sub_cancel]; exact w11) (by rw [Nat.add_sub_cancel]; exact w12) (by
            rw [List.length_append, List.length_append, List.length_append]
            show l.length + (numL s).length + (kidL N (outT N f) s j).length + 1 + _ ≤ 128
            omega)
          rw [Nat.add_sub_cancel] at u2 u3
          have ek : ((((l ++ numL s) ++ kidL N (outT N f) s j) ++ [sepC j]) ++ outT N f (chI N s j)) = (l ++ numL s) ++ kidL N (outT N f) s (j + 1) := by
            rw [kidL]
            simp only [List.append_assoc]
          rw [ek] at u1 u3
          refine ⟨R6, u1, ?_, ?_, fun i hi => ?_, fun r hr => b5 r (or_step (fun n => ?_) ?_ ?_ (u3 r hr))⟩
          · rw [(u2 (h - 1) (by omega)).1, n3, v11, upd_other (by omega), p3]; exact b2'
          · rw [(u2 (h - 1) (by omega)).2, n4, v12, upd_other (by omega), upd_same]
          · rw [(u2 i (by omega)).1, (u2 i (by omega)).2, n3, n4, v11, v12, upd_other (by omega), upd_other (by omega), upd_other (by omega), p3, p4]
            exact b4 i hi
          · have hc := hcm R1 _ b1
            have hsp : f_X9_puts (sepC j) R1 = some R2 := p1
            have y12 : R2.1 7 12 (h - 1) = nI j := by rw [p4]; exact b3
            have hR3' : wr R2 7 12 (h - 1) (nI (j + 1)) = R3 := hR3
            have z11 : R4.1 7 11 h = nI (chI N s j) := by rw [v11, upd_same]
            rw [L_X9_outlines_26]
            unfold B_X9_outlines_69 B_X9_outlines_132
            rw [if_neg (nI_nle (by omega) (by omega)), hh1]
            have hc1 := d1
            have h21 : h < 21 := by omega
            have h21' : h - 1 < 21 := by omega
            by_cases hj0 : j = 0
            · subst hj0
              have hsp0 : f_X9_puts (nI 40) R1 = some R2 := hsp
              simp (disch := omega) only [↓ite_b2r, ↓ite_nb2r, ↓lit_m1, ↓lit_m2, lit_0, lit_1, lit_2, lit_3, lit_4, lit_5, lit_6, lit_7, lit_8, lit_9, lit_10, lit_11, lit_12, lit_13, lit_14, lit_15, lit_16, lit_17, lit_18, lit_19, lit_20, lit_21, lit_22, lit_23, lit_24, lit_25, lit_26, lit_27, lit_28, lit_29, lit_30, lit_31, lit_32, lit_33, lit_34, lit_35, lit_36, lit_40, lit_41, lit_42, lit_44, lit_48, lit_57, lit_59, lit_62, lit_63, lit_64, lit_82, lit_98, lit_99, lit_100, lit_101, lit_102, lit_103, lit_104, lit_105, lit_106, lit_107, lit_108, lit_109, lit_110, lit_111, lit_112, lit_113, lit_119, lit_120, lit_127, lit_128, lit_149, lit_150, lit_202, lit_240, lit_262, lit_894, lit_900, lit_999, lit_1000, lit_2000, lit_2662, lit_2663, lit_2695, lit_2701, lit_2702, lit_3602, lit_10806, nI_add, pk_mul, cl_nI, inb_nI, nI_leI, nI_ltI, nI_eq, nI_eq_m1, m1_eq_nI, nI_eq_m2, div_nI, rem_nI, Option.bind_some, b2_0, b2_1, isb_b2, if_true_, if_false_, ↓reduceIte, reduceCtorEq, not_true_eq_false, not_false_eq_true, bt_hasBit, ult, Nat.add_zero, false_and, true_and, and_true, and_false, Nat.reduceLeDiff, Nat.reduceEqDiff, Nat.reduceLT, Bool.toNat_true, Bool.toNat_false, decide_true, decide_false, Bool.not_true, Bool.not_false, Bool.false_and, Bool.true_and, Bool.and_true, Bool.and_false, Bool.or_false, Bool.true_or, Bool.or_true, Bool.false_or, h21', b2', b3, hc, show ¬ chMany N s ≤ 0 by omega, hsp0, y12, hR3', hca, h21, hR4, z11, n1]
            · have hsp0 : f_X9_puts (nI 44) R1 = some R2 := by
                unfold sepC at hsp
                rw [if_neg hj0] at hsp
                exact hsp
              simp (disch := omega) only [↓ite_b2r, ↓ite_nb2r, ↓lit_m1, ↓lit_m2, lit_0, lit_1, lit_2, lit_3, lit_4, lit_5, lit_6, lit_7, lit_8, lit_9, lit_10, lit_11, lit_12, lit_13, lit_14, lit_15, lit_16, lit_17, lit_18, lit_19, lit_20, lit_21, lit_22, lit_23, lit_24, lit_25, lit_26, lit_27, lit_28, lit_29, lit_30, lit_31, lit_32, lit_33, lit_34, lit_35, lit_36, lit_40, lit_41, lit_42, lit_44, lit_48, lit_57, lit_59, lit_62, lit_63, lit_64, lit_82, lit_98, lit_99, lit_100, lit_101, lit_102, lit_103, lit_104, lit_105, lit_106, lit_107, lit_108, lit_109, lit_110, lit_111, lit_112, lit_113, lit_119, lit_120, lit_127, lit_128, lit_149, lit_150, lit_202, lit_240, lit_262, lit_894, lit_900, lit_999, lit_1000, lit_2000, lit_2662, lit_2663, lit_2695, lit_2701, lit_2702, lit_3602, lit_10806, nI_add, pk_mul, cl_nI, inb_nI, nI_leI, nI_ltI, nI_eq, nI_eq_m1, m1_eq_nI, nI_eq_m2, div_nI, rem_nI, Option.bind_some, b2_0, b2_1, isb_b2, if_true_, if_false_, ↓reduceIte, reduceCtorEq, not_true_eq_false, not_false_eq_true, bt_hasBit, ult, Nat.add_zero, false_and, true_and, and_true, and_false, Nat.reduceLeDiff, Nat.reduceEqDiff, Nat.reduceLT, Bool.toNat_true, Bool.toNat_false, decide_true, decide_false, Bool.not_true, Bool.not_false, Bool.false_and, Bool.true_and, Bool.and_true, Bool.and_false, Bool.or_false, Bool.true_or, Bool.or_true, Bool.false_or, h21', b2', b3, hc, show ¬ chMany N s ≤ j by omega, hj0, hsp0, y12, hR3', hca, h21, hR4, z11, n1]
          · rw [List.length_append, List.length_append]; omega
          · have := (numL_len (chI N s j)).1
            rw [lapp _ (numL (chI N s j)), lapp _ [sepC j]]
            show _ < 2 * ((((l ++ numL s) ++ kidL N (outT N f) s j).length + 1) + _) + 21 - (h + 1)
            omega
      obtain ⟨R1, b1, b2', b3, b4, b5⟩ := hkids (chMany N s) (Nat.le_refl _)
      rw [outT, if_neg h0] at hl ⊢
      rw [List.length_append, List.length_append] at hl
      have hl3 : l.length + ((numL s).length + (kidL N (outT N f) s (chMany N s)).length + 1) ≤ 128 := hl
      obtain ⟨R2, p1, p2, p3, p4⟩ := br_put b1 (by rw [List.length_append, List.length_append]; omega) (nI 41)
      have ek : l ++ ((numL s ++ kidL N (outT N f) s (chMany N s)) ++ [nI 41]) = ((l ++ numL s) ++ kidL N (outT N f) s (chMany N s)) ++ [nI 41] := by simp only [List.append_assoc]
      rw [ek]
      refine ⟨R2, p2, fun i hi => by rw [p3, p4]; exact b4 i hi, fun r hr => b5 r (or_step (fun n => ?_) ?_ ?_ hr)⟩
      · have hc := hcm R1 _ b1
        rw [L_X9_outlines_26]
        unfold B_X9_outlines_129 B_X9_outlines_132
        rw [if_neg (nI_nle (by omega) (by omega)), hh1]
        simp (disch := omega) only [↓ite_b2r, ↓ite_nb2r, ↓lit_m1, ↓lit_m2, lit_0, lit_1, lit_2, lit_3, lit_4, lit_5, lit_6, lit_7, lit_8, lit_9, lit_10, lit_11, lit_12, lit_13, lit_14, lit_15, lit_16, lit_17, lit_18, lit_19, lit_20, lit_21, lit_22, lit_23, lit_24, lit_25, lit_26, lit_27, lit_28, lit_29, lit_30, lit_31, lit_32, lit_33, lit_34, lit_35, lit_36, lit_40, lit_41, lit_42, lit_44, lit_48, lit_57, lit_59, lit_62, lit_63, lit_64, lit_82, lit_98, lit_99, lit_100, lit_101, lit_102, lit_103, lit_104, lit_105, lit_106, lit_107, lit_108, lit_109, lit_110, lit_111, lit_112, lit_113, lit_119, lit_120, lit_127, lit_128, lit_149, lit_150, lit_202, lit_240, lit_262, lit_894, lit_900, lit_999, lit_1000, lit_2000, lit_2662, lit_2663, lit_2695, lit_2701, lit_2702, lit_3602, lit_10806, nI_add, pk_mul, cl_nI, inb_nI, nI_leI, nI_ltI, nI_eq, nI_eq_m1, m1_eq_nI, nI_eq_m2, div_nI, rem_nI, Option.bind_some, b2_0, b2_1, isb_b2, if_true_, if_false_, ↓reduceIte, reduceCtorEq, not_true_eq_false, not_false_eq_true, bt_hasBit, ult, Nat.add_zero, false_and, true_and, and_true, and_false, Nat.reduceLeDiff, Nat.reduceEqDiff, Nat.reduceLT, Bool.toNat_true, Bool.toNat_false, decide_true, decide_false, Bool.not_true, Bool.not_false, Bool.false_and, Bool.true_and, Bool.and_true, Bool.and_false, Bool.or_false, Bool.true_or, Bool.or_true, Bool.false_or, show h - 1 < 21 by omega, b2', b3, hc, Nat.le_refl, show ¬ chMany N s ≤ 0 by omega, p1]
        rw [hhm]
      · rw [List.length_append, List.length_append]; omega
      · rw [lapp _ [nI 41]]
        show _ < 2 * (((l ++ numL s) ++ kidL N (outT N f) s (chMany N s)).length + 1) + 21 - (h - 1)
        omega
end OQ
