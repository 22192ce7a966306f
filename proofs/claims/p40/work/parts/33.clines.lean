/-! ===== one change of the document: the class ===== -/
section CW
variable {M : Mem} {g : Nat} {N R : Row}
theorem RDt_line {D D' : Dk} {v : Int32} {m : Nat} (h0 : eqR 0 82 R N) (hl : ∀ k, k < 120 → R (82 + k) = if k = m then v else N (82 + k)) (hN : WFt N) (h2 : D' 2 = D 2) (h4 : D' 4 = D 4) (h5 : D' 5 = upd (D 5) m v) (h6 : D' 6 = D 6) (h7 : D' 7 = D 7) (h : RDt D N) : RDt D' R := by
  have h00 : eqR 0 62 R N := h0.sub (by omega) (by omega)
  obtain ⟨a1, a2, a3, a4, a5, a6⟩ := h
  refine ⟨fun s hs hu => ?_, fun s hs hu => ?_, fun s hs hu => ?_, fun s l hs hl2 hu => ?_, fun t ht s hs => ?_, fun s hs t ht => ?_⟩
  · rw [us_cg h00 hs] at hu; rw [h2, h0 _ (by omega) (by omega)]; exact a1 s hs hu
  · rw [us_cg h00 hs] at hu; rw [h2]; exact a2 s hs hu
  · rw [us_cg h00 hs] at hu; rw [h4, h0 _ (by omega) (by omega)]; exact a3 s hs hu
  · rw [us_cg h00 hs] at hu
    rw [h5, show 82 + 6 * s + l = 82 + (6 * s + l) by omega, hl _ (by omega)]
    by_cases hk : 6 * s + l = m
    · rw [if_pos hk, ← hk, upd_same]
    · rw [if_neg hk, upd_other hk, a4 s l hs hl2 hu]
      congr 1
      omega
  · rw [h6, a5 t ht s hs]
    by_cases h1 : s < 20
    · rw [us_cg h00 h1, us_cg h00 ht]
      cases hu : us N s with
      | false => simp
      | true => rw [An_cg h00 hN h1 hu]
    · rw [decide_eq_false h1]; simp
  · rw [h7, a6 s hs t ht]
    by_cases h1 : t < 20
    · rw [us_cg h00 h1, us_cg h00 hs]
      cases hu : us N s with
      | false => simp
      | true => rw [An_cg h00 hN hs hu]
    · rw [decide_eq_false h1]; simp
theorem c_setValue {k : Nat} (hk : k < 120) (v : Int32) : f_X7_setValue g (nI k) v M = some (wr M g 5 k v) := by
  unfold f_X7_setValue f_X8_isCell
  rw [show f_X8_isWithin (nI k) 0 119 = _ from c_within (nI k) 119 (by decide), inR_nI (by omega) (by decide), decide_eq_true (show k < 119 + 1 by omega)]
  simp (disch := omega) only [↓ite_b2r, ↓ite_nb2r, ↓lit_m1, ↓lit_m2, lit_0, lit_1, lit_2, lit_3, lit_4, lit_5, lit_6, lit_7, lit_8, lit_9, lit_10, lit_11, lit_12, lit_13, lit_14, lit_15, lit_16, lit_17, lit_18, lit_19, lit_20, lit_21, lit_22, lit_23, lit_24, lit_25, lit_26, lit_27, lit_28, lit_29, lit_30, lit_31, lit_32, lit_33, lit_34, lit_35, lit_36, lit_40, lit_41, lit_42, lit_44, lit_48, lit_57, lit_59, lit_62, lit_63, lit_64, lit_82, lit_98, lit_99, lit_100, lit_101, lit_102, lit_103, lit_104, lit_105, lit_106, lit_107, lit_108, lit_109, lit_110, lit_111, lit_112, lit_113, lit_119, lit_120, lit_127, lit_128, lit_149, lit_150, lit_202, lit_240, lit_262, lit_894, lit_900, lit_999, lit_1000, lit_2000, lit_2662, lit_2663, lit_2695, lit_2701, lit_2702, lit_3602, lit_10806, nI_add, pk_mul, cl_nI, inb_nI, nI_leI, nI_ltI, nI_eq, nI_eq_m1, m1_eq_nI, nI_eq_m2, div_nI, rem_nI, Option.bind_some, b2_0, b2_1, isb_b2, if_true_, if_false_, ↓reduceIte, reduceCtorEq, not_true_eq_false, not_false_eq_true, bt_hasBit, ult, Nat.add_zero, false_and, true_and, and_true, and_false, Nat.reduceLeDiff, Nat.reduceEqDiff, Nat.reduceLT, Bool.toNat_true, Bool.toNat_false, decide_true, decide_false, Bool.not_true, Bool.not_false, Bool.false_and, Bool.true_and, Bool.and_true, Bool.and_false, Bool.or_false, Bool.true_or, Bool.or_true, Bool.false_or]
/-- a desk in the midst of a change: its rows are those of R, and it wants T -/
def LI (D : Dk) (R N : Row) (T : Nat → Int32) : Prop := RD D R ∧ (∀ k, k < 120 → us N (k / 6) = true → D 17 k = T k) ∧ (∀ k, k < 120 → us N (k / 6) = false → D 17 k = D 5 k)
theorem c_changeCell {T : Nat → Int32} {u : Int32} (hNt : WFt N) (hNc : WFc N) (hNq : WFq N) (hNl : ∀ k, k < 120 → isV N (82 + k) 1000) (hT : ∀ k, k < 120 → us N (k / 6) = false → T k = N (82 + k)) {m : Nat} (hm : m < 120) {p : Nat × Row} (hB : BI N T m p) (hL : LI (M.1 g) p.2 N T) : ∃ d M', f_X1_changeCell g (nI m) u M = some (nI d, M') ∧ (cellS T u p m).1 = p.1 + d ∧ LI (M'.1 g) (cellS T u p m).2 N T ∧ Fr g M M' := by
  obtain ⟨⟨ht, hs, hc, hk, hq, hh, hu⟩, hw1, hw2⟩ := hL
  obtain ⟨b1, b2, b3, b4, b5, b6⟩ := hB
  have hlen : ∀ k, k < 120 → us N (k / 6) = true → M.1 g 5 k = p.2 (82 + k) := fun k hk2 hu2 => r_lin ht hk2 (by rw [us_cg b1 (by omega)]; exact hu2)
  have hm5 := b4 m hm
  rw [if_neg (Nat.lt_irrefl m)] at hm5
  unfold f_X1_changeCell f_X8_isCell cellS
  rw [show f_X8_isWithin (nI m) 0 119 = _ from c_within (nI m) 119 (by decide), inR_nI (by omega) (by decide), decide_eq_true (show m < 119 + 1 by omega)]
  simp (disch := omega) only [↓ite_b2r, ↓ite_nb2r, ↓lit_m1, ↓lit_m2, lit_0, lit_1, lit_2, lit_3, lit_4, lit_5, lit_6, lit_7, lit_8, lit_9, lit_10, lit_11, lit_12, lit_13, lit_14, lit_15, lit_16, lit_17, lit_18, lit_19, lit_20, lit_21, lit_22, lit_23, lit_24, lit_25, lit_26, lit_27, lit_28, lit_29, lit_30, lit_31, lit_32, lit_33, lit_34, lit_35, lit_36, lit_40, lit_41, lit_42, lit_44, lit_48, lit_57, lit_59, lit_62, lit_63, lit_64, lit_82, lit_98, lit_99, lit_100, lit_101, lit_102, lit_103, lit_104, lit_105, lit_106, lit_107, lit_108, lit_109, lit_110, lit_111, lit_112, lit_113, lit_119, lit_120, lit_127, lit_128, lit_149, lit_150, lit_202, lit_240, lit_262, lit_894, lit_900, lit_999, lit_1000, lit_2000, lit_2662, lit_2663, lit_2695, lit_2701, lit_2702, lit_3602, lit_10806, nI_add, pk_mul, cl_nI, inb_nI, nI_leI, nI_ltI, nI_eq, nI_eq_m1, m1_eq_nI, nI_eq_m2, div_nI, rem_nI, Option.bind_some, b2_0, b2_1, isb_b2, if_true_, if_false_, ↓reduceIte, reduceCtorEq, not_true_eq_false, not_false_eq_true, bt_hasBit, ult, Nat.add_zero, false_and, true_and, and_true, and_false, Nat.reduceLeDiff, Nat.reduceEqDiff, Nat.reduceLT, Bool.toNat_true, Bool.toNat_false, decide_true, decide_false, Bool.not_true, Bool.not_false, Bool.false_and, Bool.true_and, Bool.and_true, Bool.and_false, Bool.or_false, Bool.true_or, Bool.or_true, Bool.false_or, c_valueAt]
  cases hus : us N (m / 6) with
  | false =>
    refine ⟨0, M, ?_, ?_, ?_, Fr.rf⟩
    · simp (disch := omega) only [↓ite_b2r, ↓ite_nb2r, ↓lit_m1, ↓lit_m2, lit_0, lit_1, lit_2, lit_3, lit_4, lit_5, lit_6, lit_7, lit_8, lit_9, lit_10, lit_11, lit_12, lit_13, lit_14, lit_15, lit_16, lit_17, lit_18, lit_19, lit_20, lit_21, lit_22, lit_23, lit_24, lit_25, lit_26, lit_27, lit_28, lit_29, lit_30, lit_31, lit_32, lit_33, lit_34, lit_35, lit_36, lit_40, lit_41, lit_42, lit_44, lit_48, lit_57, lit_59, lit_62, lit_63, lit_64, lit_82, lit_98, lit_99, lit_100, lit_101, lit_102, lit_103, lit_104, lit_105, lit_106, lit_107, lit_108, lit_109, lit_110, lit_111, lit_112, lit_113, lit_119, lit_120, lit_127, lit_128, lit_149, lit_150, lit_202, lit_240, lit_262, lit_894, lit_900, lit_999, lit_1000, lit_2000, lit_2662, lit_2663, lit_2695, lit_2701, lit_2702, lit_3602, lit_10806, nI_add, pk_mul, cl_nI, inb_nI, nI_leI, nI_ltI, nI_eq, nI_eq_m1, m1_eq_nI, nI_eq_m2, div_nI, rem_nI, Option.bind_some, b2_0, b2_1, isb_b2, if_true_, if_false_, ↓reduceIte, reduceCtorEq, not_true_eq_false, not_false_eq_true, bt_hasBit, ult, Nat.add_zero, false_and, true_and, and_true, and_false, Nat.reduceLeDiff, Nat.reduceEqDiff, Nat.reduceLT, Bool.toNat_true, Bool.toNat_false, decide_true, decide_false, Bool.not_true, Bool.not_false, Bool.false_and, Bool.true_and, Bool.and_true, Bool.and_false, Bool.or_false, Bool.true_or, Bool.or_true, Bool.false_or, hw2 m hm hus]
    · rw [if_pos (by rw [hm5]; exact (hT m hm hus).symm)]
      rfl
    · rw [if_pos (by rw [hm5]; exact (hT m hm hus).symm)]
      exact ⟨⟨ht, hs, hc, hk, hq, hh, hu⟩, hw1, hw2⟩
  | true =>
    rw [hw1 m hm hus, hlen m hm hus]
    by_cases he : p.2 (82 + m) = T m
    · refine ⟨0, M, ?_, ?_, ?_, Fr.rf⟩
      · simp (disch := omega) only [↓ite_b2r, ↓ite_nb2r, ↓lit_m1, ↓lit_m2, lit_0, lit_1, lit_2, lit_3, lit_4, lit_5, lit_6, lit_7, lit_8, lit_9, lit_10, lit_11, lit_12, lit_13, lit_14, lit_15, lit_16, lit_17, lit_18, lit_19, lit_20, lit_21, lit_22, lit_23, lit_24, lit_25, lit_26, lit_27, lit_28, lit_29, lit_30, lit_31, lit_32, lit_33, lit_34, lit_35, lit_36, lit_40, lit_41, lit_42, lit_44, lit_48, lit_57, lit_59, lit_62, lit_63, lit_64, lit_82, lit_98, lit_99, lit_100, lit_101, lit_102, lit_103, lit_104, lit_105, lit_106, lit_107, lit_108, lit_109, lit_110, lit_111, lit_112, lit_113, lit_119, lit_120, lit_127, lit_128, lit_149, lit_150, lit_202, lit_240, lit_262, lit_894, lit_900, lit_999, lit_1000, lit_2000, lit_2662, lit_2663, lit_2695, lit_2701, lit_2702, lit_3602, lit_10806, nI_add, pk_mul, cl_nI, inb_nI, nI_leI, nI_ltI, nI_eq, nI_eq_m1, m1_eq_nI, nI_eq_m2, div_nI, rem_nI, Option.bind_some, b2_0, b2_1, isb_b2, if_true_, if_false_, ↓reduceIte, reduceCtorEq, not_true_eq_false, not_false_eq_true, bt_hasBit, ult, Nat.add_zero, false_and, true_and, and_true, and_false, Nat.reduceLeDiff, Nat.reduceEqDiff, Nat.reduceLT, Bool.toNat_true, Bool.toNat_false, decide_true, decide_false, Bool.not_true, Bool.not_false, Bool.false_and, Bool.true_and, Bool.and_true, Bool.and_false, Bool.or_false, Bool.true_or, Bool.or_true, Bool.false_or, he]
      · rw [if_pos he]
        rfl
      · rw [if_pos he]
        exact ⟨⟨ht, hs, hc, hk, hq, hh, hu⟩, hw1, hw2⟩
    · have hW : WFh (gEnt p.2 (m / 6) (m % 6) (p.2 (82 + m)) (T m) u) := WFh_gEnt b5 (by omega) (by omega) (by rw [hm5]; exact hNl m hm)
      have e0 : (M.1 g 0 6) = p.2 0 := hu.1
      obtain ⟨M1, a1, a2, a3, a4⟩ := c_add (M := M) (g := g) hh b5 hm (p.2 (82 + m)) (T m) u
      have e17 : M1.1 g 17 = M.1 g 17 := a3 17 (by omega) (by omega)
      refine ⟨1, wr M1 g 5 m (T m), ?_, ?_, ?_, a4.tr (Fr_wr _ _ _ _ _)⟩
      · have he2 : ¬ T m = p.2 (82 + m) := fun e => he e.symm
        simp (disch := omega) only [↓ite_b2r, ↓ite_nb2r, ↓lit_m1, ↓lit_m2, lit_0, lit_1, lit_2, lit_3, lit_4, lit_5, lit_6, lit_7, lit_8, lit_9, lit_10, lit_11, lit_12, lit_13, lit_14, lit_15, lit_16, lit_17, lit_18, lit_19, lit_20, lit_21, lit_22, lit_23, lit_24, lit_25, lit_26, lit_27, lit_28, lit_29, lit_30, lit_31, lit_32, lit_33, lit_34, lit_35, lit_36, lit_40, lit_41, lit_42, lit_44, lit_48, lit_57, lit_59, lit_62, lit_63, lit_64, lit_82, lit_98, lit_99, lit_100, lit_101, lit_102, lit_103, lit_104, lit_105, lit_106, lit_107, lit_108, lit_109, lit_110, lit_111, lit_112, lit_113, lit_119, lit_120, lit_127, lit_128, lit_149, lit_150, lit_202, lit_240, lit_262, lit_894, lit_900, lit_999, lit_1000, lit_2000, lit_2662, lit_2663, lit_2695, lit_2701, lit_2702, lit_3602, lit_10806, nI_add, pk_mul, cl_nI, inb_nI, nI_leI, nI_ltI, nI_eq, nI_eq_m1, m1_eq_nI, nI_eq_m2, div_nI, rem_nI, Option.bind_some, b2_0, b2_1, isb_b2, if_true_, if_false_, ↓reduceIte, reduceCtorEq, not_true_eq_false, not_false_eq_true, bt_hasBit, ult, Nat.add_zero, false_and, true_and, and_true, and_false, Nat.reduceLeDiff, Nat.reduceEqDiff, Nat.reduceLT, Bool.toNat_true, Bool.toNat_false, decide_true, decide_false, Bool.not_true, Bool.not_false, Bool.false_and, Bool.true_and, Bool.and_true, Bool.and_false, Bool.or_false, Bool.true_or, Bool.or_true, Bool.false_or, he2, e0, a1, e17, hw1 m hm hus, c_setValue]
      · rw [if_neg he]
      · rw [if_neg he]
        have q0 : ∀ k, k < 82 → upd (gEnt p.2 (m / 6) (m % 6) (p.2 (82 + m)) (T m) u) (82 + m) (T m) k = p.2 k := fun k hk2 => by rw [upd_other (by omega), gEnt_lo (by omega)]
        have q1 : ∀ k, 202 ≤ k → k < 2701 → upd (gEnt p.2 (m / 6) (m % 6) (p.2 (82 + m)) (T m) u) (82 + m) (T m) k = p.2 k := fun k h1 h2 => by rw [upd_other (by omega), gEnt_lo (by omega)]
        have q2 : ∀ k, 2701 ≤ k → upd (gEnt p.2 (m / 6) (m % 6) (p.2 (82 + m)) (T m) u) (82 + m) (T m) k = gEnt p.2 (m / 6) (m % 6) (p.2 (82 + m)) (T m) u k := fun k h1 => by rw [upd_other (by omega)]
        have q3 : ∀ k, k < 120 → upd (gEnt p.2 (m / 6) (m % 6) (p.2 (82 + m)) (T m) u) (82 + m) (T m) (82 + k) = if k = m then T m else p.2 (82 + k) := fun k hk2 => by
          by_cases hkm : k = m
          · subst hkm; rw [upd_same, if_pos rfl]
          · rw [upd_other (by omega), gEnt_lo (by omega), if_neg hkm]
        generalize upd (gEnt p.2 (m / 6) (m % 6) (p.2 (82 + m)) (T m) u) (82 + m) (T m) = R' at q0 q1 q2 q3
        have d5 : (wr M1 g 5 m (T m)).1 g 5 = upd (M.1 g 5) m (T m) := by rw [wr_same, a3 5 (by omega) (by omega)]
        have dj : ∀ j, j ≠ 5 → (wr M1 g 5 m (T m)).1 g j = M1.1 g j := fun j hj => wr_other _ _ _ _ _ (by omega)
        have dk : ∀ j, j ≠ 5 → j ≠ 14 → j ≠ 15 → (wr M1 g 5 m (T m)).1 g j = M.1 g j := fun j h1 h2 h3 => (dj j h1).trans (a3 j h2 h3)
        have hpt : WFt p.2 := WFt_cg b1 hNt
        have hpc : WFc p.2 := WFc_cg b1 (b2.sub (by omega) (by omega)) hNc
        have hpq : WFq p.2 := WFq_cg b1 (b2.sub (by omega) (by omega)) hNq
        refine ⟨⟨RDt_line (N := p.2) (v := T m) (m := m) (fun k _ h => q0 k h) q3 hpt (dk 2 (by omega) (by omega) (by omega)) (dk 4 (by omega) (by omega) (by omega)) d5 (dk 6 (by omega) (by omega) (by omega)) (dk 7 (by omega) (by omega) (by omega)) ht,
          RDs_D (dk 1 (by omega) (by omega) (by omega)) (dk 3 (by omega) (by omega) (by omega)) (RDs_cg (fun k _ h => q0 k (by omega)) hs),
          RDc_D (dk 8 (by omega) (by omega) (by omega)) (dk 9 (by omega) (by omega) (by omega)) (RDc_cg (fun k h1 h2 => q1 k (by omega) (by omega)) hc),
          RDk_D (dk 10 (by omega) (by omega) (by omega)) (dk 11 (by omega) (by omega) (by omega)) (RDk_cg (fun k _ h => q0 k (by omega)) (fun k h1 h2 => q1 k (by omega) (by omega)) hpt hk),
          RDq_D (dk 12 (by omega) (by omega) (by omega)) (dk 13 (by omega) (by omega) (by omega)) (RDq_cg (fun k h1 h2 => q1 k (by omega) (by omega)) hpq hq),
          RDh_D (dj 14 (by omega)) (dj 15 (by omega)) (RDh_cg (fun k h1 h2 => q2 k h1) hW a2),
          RDu_D (dk 0 (by omega) (by omega) (by omega)) (dk 16 (by omega) (by omega) (by omega)) (RDu_cg (q0 0 (by omega)) (fun k h1 h2 => q1 k (by omega) (by omega)) hu)⟩, fun k hk2 hu2 => ?_, fun k hk2 hu2 => ?_⟩
        · rw [dk 17 (by omega) (by omega) (by omega)]
          exact hw1 k hk2 hu2
        · rw [dk 17 (by omega) (by omega) (by omega), d5]
          have hkm : k ≠ m := fun e => by rw [e, hus] at hu2; cases hu2
          rw [upd_other hkm]
          exact hw2 k hk2 hu2
theorem cellsS_no {T : Nat → Int32} {u : Int32} {p : Nat × Row} {s : Nat} (h : ∀ l, l < 6 → p.2 (82 + (6 * s + l)) = T (6 * s + l)) : ∀ l, l ≤ 6 → cellsS T u p s l = p
  | 0, _ => rfl
  | l + 1, hl => by rw [cellsS, cellsS_no h l (by omega), cellS, if_pos (h l (by omega))]
theorem RDt_ver {D D' : Dk} {s : Nat} (hs : s < 20) (h0 : eqR 0 62 R N) (hv : ∀ k, k < 20 → R (62 + k) = if k = s then N (62 + k) + nI 1 else N (62 + k)) (hl : eqR 82 202 R N) (hN : WFt N) (h2 : D' 2 = D 2) (h4 : D' 4 = upd (D 4) s (D 4 s + nI 1)) (h5 : D' 5 = D 5) (h6 : D' 6 = D 6) (h7 : D' 7 = D 7) (h : RDt D N) : RDt D' R := by
  obtain ⟨a1, a2, a3, a4, a5, a6⟩ := h
  refine ⟨fun s hs hu => ?_, fun s hs hu => ?_, fun s' hs hu => ?_, fun s l hs hl2 hu => ?_, fun t ht s hs => ?_, fun s hs t ht => ?_⟩
  · rw [us_cg h0 hs] at hu; rw [h2, h0 _ (by omega) (by omega)]; exact a1 s hs hu
  · rw [us_cg h0 hs] at hu; rw [h2]; exact a2 s hs hu
  · rw [us_cg h0 hs] at hu
    rw [h4, hv s' hs]
    by_cases hk : s' = s
    · subst hk; rw [upd_same, if_pos rfl, a3 s' hs hu]
    · rw [upd_other hk, if_neg hk]; exact a3 s' hs hu
  · rw [us_cg h0 hs] at hu
    rw [h5, hl _ (by omega) (by omega)]; exact a4 s l hs hl2 hu
  · rw [h6, a5 t ht s hs]
    by_cases h1 : s < 20
    · rw [us_cg h0 h1, us_cg h0 ht]
      cases hu : us N s with
      | false => simp
      | true => rw [An_cg h0 hN h1 hu]
    · rw [decide_eq_false h1]; simp
  · rw [h7, a6 s hs t ht]
    by_cases h1 : t < 20
    · rw [us_cg h0 h1, us_cg h0 hs]
      cases hu : us N s with
      | false => simp
      | true => rw [An_cg h0 hN hs hu]
    · rw [decide_eq_false h1]; simp
theorem c_changeToWanted {T : Nat → Int32} {u : Int32} (hN : WF N) (hT : ∀ k, k < 120 → us N (k / 6) = false → T k = N (82 + k)) (hL : LI (M.1 g) N N T) : ∃ M', f_X1_changeToWanted g u M = some (nI (becS T u (0, N) 20).1, M') ∧ RD (M'.1 g) (becS T u (0, N) 20).2 ∧ Fr g M M' := by
  obtain ⟨hNt, hNc, ⟨hNl, hNl2⟩, hNq, hNu, hNh⟩ := hN
  unfold f_X1_changeToWanted
  refine loopI (fun n (σ : Int32 × Int32 × Mem) => L_X1_changeToWanted_4 g u n σ.1 σ.2.1 σ.2.2) (fun s σ => ∃ M', σ = (nI (becS T u (0, N) s).1, nI s, M') ∧ LI (M'.1 g) (becS T u (0, N) s).2 N T ∧ Fr g M M') (fun o => ∃ M', o = some (nI (becS T u (0, N) 20).1, M') ∧ RD (M'.1 g) (becS T u (0, N) 20).2 ∧ Fr g M M') 20 (fun n s σ hs hσ => ?_) (fun n σ hσ => ?_) FU (by decide) (nI 0, nI 0, M) ⟨M, rfl, hL, Fr.rf⟩
  · obtain ⟨M', rfl, hL2, hF⟩ := hσ
    refine Or.inr ?_
    show ∃ s', L_X1_changeToWanted_4 g u (n + 1) _ _ _ = L_X1_changeToWanted_4 g u n _ _ _ ∧ _
    have hB := BI_bec (T := T) (u := u) hNl hNh s (by omega)
    rw [L_X1_changeToWanted_4, if_neg (show ¬ (20 : Int32) ≤ nI s from fun e => by have e2 : nI 20 ≤ nI s := e; rw [nI_leI (by omega) (by omega)] at e2; omega)]
    rw [show becS T u (0, N) (s + 1) = secS T u (becS T u (0, N) s) s from rfl]
    generalize becS T u (0, N) s = p at hB hL2 ⊢
    have inner := loopI (fun m (σ : Int32 × Int32 × Mem) => L_X1_changeToWanted_16 g (L_X1_changeToWanted_4 g u n) u (nI s) (nI p.1) m σ.1 σ.2.1 σ.2.2) (fun l σ => ∃ M'', σ = (nI (cellsS T u p s l).1, nI l, M'') ∧ LI (M''.1 g) (cellsS T u p s l).2 N T ∧ Fr g M M'') (fun o => ∃ M'', o = L_X1_changeToWanted_4 g u n (nI (secS T u p s).1) (nI (s + 1)) M'' ∧ LI (M''.1 g) (secS T u p s).2 N T ∧ Fr g M M'') 6 (fun m l σ hl6 hσ => ?_) (fun m σ hσ => ?_) FU (by decide) (nI p.1, nI 0, M') ⟨M', rfl, hL2, hF⟩
    · obtain ⟨M'', e1, e2, e3⟩ := inner
      exact ⟨(nI (secS T u p s).1, nI (s + 1), M''), e1, M'', rfl, e2, e3⟩
    · obtain ⟨M'', rfl, hL3, hF3⟩ := hσ
      refine Or.inr ?_
      show ∃ s', L_X1_changeToWanted_16 g _ u (nI s) (nI p.1) (m + 1) _ _ _ = L_X1_changeToWanted_16 g _ u (nI s) (nI p.1) m _ _ _ ∧ _
      have hC := BI_cells (u := u) hNl hs hB l (by omega)
      rw [show cellsS T u p s (l + 1) = cellS T u (cellsS T u p s l) (6 * s + l) from rfl]
      generalize cellsS T u p s l = q at hC hL3 ⊢
      obtain ⟨d, M3, a1, a2, a3, a4⟩ := c_changeCell (M := M'') (g := g) (u := u) hNt hNc hNq hNl hT (show 6 * s + l < 120 by omega) hC hL3
      refine ⟨(nI (cellS T u q (6 * s + l)).1, nI (l + 1), M3), ?_, M3, rfl, a3, hF3.tr a4⟩
      rw [L_X1_changeToWanted_16]
      unfold f_X8_cellOf
      simp (disch := omega) only [↓ite_b2r, ↓ite_nb2r, ↓lit_m1, ↓lit_m2, lit_0, lit_1, lit_2, lit_3, lit_4, lit_5, lit_6, lit_7, lit_8, lit_9, lit_10, lit_11, lit_12, lit_13, lit_14, lit_15, lit_16, lit_17, lit_18, lit_19, lit_20, lit_21, lit_22, lit_23, lit_24, lit_25, lit_26, lit_27, lit_28, lit_29, lit_30, lit_31, lit_32, lit_33, lit_34, lit_35, lit_36, lit_40, lit_41, lit_42, lit_44, lit_48, lit_57, lit_59, lit_62, lit_63, lit_64, lit_82, lit_98, lit_99, lit_100, lit_101, lit_102, lit_103, lit_104, lit_105, lit_106, lit_107, lit_108, lit_109, lit_110, lit_111, lit_112, lit_113, lit_119, lit_120, lit_127, lit_128, lit_149, lit_150, lit_202, lit_240, lit_262, lit_894, lit_900, lit_999, lit_1000, lit_2000, lit_2662, lit_2663, lit_2695, lit_2701, lit_2702, lit_3602, lit_10806, nI_add, pk_mul, cl_nI, inb_nI, nI_leI, nI_ltI, nI_eq, nI_eq_m1, m1_eq_nI, nI_eq_m2, div_nI, rem_nI, Option.bind_some, b2_0, b2_1, isb_b2, if_true_, if_false_, ↓reduceIte, reduceCtorEq, not_true_eq_false, not_false_eq_true, bt_hasBit, ult, Nat.add_zero, false_and, true_and, and_true, and_false, Nat.reduceLeDiff, Nat.reduceEqDiff, Nat.reduceLT, Bool.toNat_true, Bool.toNat_false, decide_true, decide_false, Bool.not_true, Bool.not_false, Bool.false_and, Bool.true_and, Bool.and_true, Bool.and_false, Bool.or_false, Bool.true_or, Bool.or_true, Bool.false_or, Nat.not_le.mpr hl6, Nat.mul_comm s 6, a1, a2]
    · obtain ⟨M'', rfl, hL3, hF3⟩ := hσ
      show ∃ M''', L_X1_changeToWanted_16 g _ u (nI s) (nI p.1) (m + 1) _ _ _ = _ ∧ _
      have hC := BI_cells (u := u) hNl hs hB 6 (by omega)
      have hb1 := hB.2.2.2.2.2
      have hno : us N s = false → cellsS T u p s 6 = p := fun hu => cellsS_no (fun l hl => by
        have h4 := hB.2.2.2.1 (6 * s + l) (by omega)
        rw [if_neg (by omega)] at h4
        rw [h4]
        exact (hT _ (by omega) (by rw [cell_div hl]; exact hu)).symm) 6 (by omega)
      rw [L_X1_changeToWanted_16]
      unfold B_X1_changeToWanted_57
      rw [show secS T u p s = ((cellsS T u p s 6).1, verS p.1 (cellsS T u p s 6).1 s (cellsS T u p s 6).2) from rfl]
      generalize cellsS T u p s 6 = q at hC hL3 hno ⊢
      unfold verS
      obtain ⟨b1, b2, b3, b4, b5, b6⟩ := hC
      by_cases hle : q.1 ≤ p.1
      · refine ⟨M'', ?_, ?_, hF3⟩
        · simp (disch := omega) only [↓ite_b2r, ↓ite_nb2r, ↓lit_m1, ↓lit_m2, lit_0, lit_1, lit_2, lit_3, lit_4, lit_5, lit_6, lit_7, lit_8, lit_9, lit_10, lit_11, lit_12, lit_13, lit_14, lit_15, lit_16, lit_17, lit_18, lit_19, lit_20, lit_21, lit_22, lit_23, lit_24, lit_25, lit_26, lit_27, lit_28, lit_29, lit_30, lit_31, lit_32, lit_33, lit_34, lit_35, lit_36, lit_40, lit_41, lit_42, lit_44, lit_48, lit_57, lit_59, lit_62, lit_63, lit_64, lit_82, lit_98, lit_99, lit_100, lit_101, lit_102, lit_103, lit_104, lit_105, lit_106, lit_107, lit_108, lit_109, lit_110, lit_111, lit_112, lit_113, lit_119, lit_120, lit_127, lit_128, lit_149, lit_150, lit_202, lit_240, lit_262, lit_894, lit_900, lit_999, lit_1000, lit_2000, lit_2662, lit_2663, lit_2695, lit_2701, lit_2702, lit_3602, lit_10806, nI_add, pk_mul, cl_nI, inb_nI, nI_leI, nI_ltI, nI_eq, nI_eq_m1, m1_eq_nI, nI_eq_m2, div_nI, rem_nI, Option.bind_some, b2_0, b2_1, isb_b2, if_true_, if_false_, ↓reduceIte, reduceCtorEq, not_true_eq_false, not_false_eq_true, bt_hasBit, ult, Nat.add_zero, false_and, true_and, and_true, and_false, Nat.reduceLeDiff, Nat.reduceEqDiff, Nat.reduceLT, Bool.toNat_true, Bool.toNat_false, decide_true, decide_false, Bool.not_true, Bool.not_false, Bool.false_and, Bool.true_and, Bool.and_true, Bool.and_false, Bool.or_false, Bool.true_or, Bool.or_true, Bool.false_or, Nat.le_refl, hle]
        · rw [if_pos hle]
          exact hL3
      · cases hu : us N s with
        | false =>
          rw [hno hu] at hle
          exact absurd (Nat.le_refl _) hle
        | true =>
          obtain ⟨⟨ht, hs2, hc, hk, hq, hh, hu2⟩, hw1, hw2⟩ := hL3
          have hqt : WFt q.2 := WFt_cg b1 hNt
          have hqc : WFc q.2 := WFc_cg b1 (b2.sub (by omega) (by omega)) hNc
          have hqq : WFq q.2 := WFq_cg b1 (b2.sub (by omega) (by omega)) hNq
          refine ⟨wr M'' g 4 s (M''.1 g 4 s + nI 1), ?_, ?_, hF3.tr (Fr_wr _ _ _ _ _)⟩
          · unfold f_X7_raiseVersion
            rw [c_hasN ht hqt hs, us_cg b1 hs, hu]
            simp (disch := omega) only [↓ite_b2r, ↓ite_nb2r, ↓lit_m1, ↓lit_m2, lit_0, lit_1, lit_2, lit_3, lit_4, lit_5, lit_6, lit_7, lit_8, lit_9, lit_10, lit_11, lit_12, lit_13, lit_14, lit_15, lit_16, lit_17, lit_18, lit_19, lit_20, lit_21, lit_22, lit_23, lit_24, lit_25, lit_26, lit_27, lit_28, lit_29, lit_30, lit_31, lit_32, lit_33, lit_34, lit_35, lit_36, lit_40, lit_41, lit_42, lit_44, lit_48, lit_57, lit_59, lit_62, lit_63, lit_64, lit_82, lit_98, lit_99, lit_100, lit_101, lit_102, lit_103, lit_104, lit_105, lit_106, lit_107, lit_108, lit_109, lit_110, lit_111, lit_112, lit_113, lit_119, lit_120, lit_127, lit_128, lit_149, lit_150, lit_202, lit_240, lit_262, lit_894, lit_900, lit_999, lit_1000, lit_2000, lit_2662, lit_2663, lit_2695, lit_2701, lit_2702, lit_3602, lit_10806, nI_add, pk_mul, cl_nI, inb_nI, nI_leI, nI_ltI, nI_eq, nI_eq_m1, m1_eq_nI, nI_eq_m2, div_nI, rem_nI, Option.bind_some, b2_0, b2_1, isb_b2, if_true_, if_false_, ↓reduceIte, reduceCtorEq, not_true_eq_false, not_false_eq_true, bt_hasBit, ult, Nat.add_zero, false_and, true_and, and_true, and_false, Nat.reduceLeDiff, Nat.reduceEqDiff, Nat.reduceLT, Bool.toNat_true, Bool.toNat_false, decide_true, decide_false, Bool.not_true, Bool.not_false, Bool.false_and, Bool.true_and, Bool.and_true, Bool.and_false, Bool.or_false, Bool.true_or, Bool.or_true, Bool.false_or, Nat.le_refl, hle]
          · rw [if_neg hle]
            have r0 : ∀ k, k ≠ 62 + s → upd q.2 (62 + s) (q.2 (62 + s) + nI 1) k = q.2 k := fun k hk => upd_other hk
            have r1 : ∀ k, k < 20 → upd q.2 (62 + s) (q.2 (62 + s) + nI 1) (62 + k) = if k = s then q.2 (62 + k) + nI 1 else q.2 (62 + k) := fun k _ => by
              by_cases hks : k = s
              · subst hks; rw [upd_same, if_pos rfl]
              · rw [upd_other (by omega), if_neg hks]
            generalize upd q.2 (62 + s) (q.2 (62 + s) + nI 1) = R' at r0 r1
            have d4 : (wr M'' g 4 s (M''.1 g 4 s + nI 1)).1 g 4 = upd (M''.1 g 4) s (M''.1 g 4 s + nI 1) := wr_same _ _ _ _ _
            have dj : ∀ j, j ≠ 4 → (wr M'' g 4 s (M''.1 g 4 s + nI 1)).1 g j = M''.1 g j := fun j hj => wr_other _ _ _ _ _ (by omega)
            refine ⟨⟨RDt_ver (N := q.2) hs (fun k _ h => r0 k (by omega)) r1 (fun k h1 h2 => r0 k (by omega)) hqt (dj 2 (by omega)) d4 (dj 5 (by omega)) (dj 6 (by omega)) (dj 7 (by omega)) ht,
              RDs_D (dj 1 (by omega)) (dj 3 (by omega)) (RDs_cg (fun k _ h => r0 k (by omega)) hs2),
              RDc_D (dj 8 (by omega)) (dj 9 (by omega)) (RDc_cg (fun k h1 h2 => r0 k (by omega)) hc),
              RDk_D (dj 10 (by omega)) (dj 11 (by omega)) (RDk_cg (fun k _ h => r0 k (by omega)) (fun k h1 h2 => r0 k (by omega)) hqt hk),
              RDq_D (dj 12 (by omega)) (dj 13 (by omega)) (RDq_cg (fun k h1 h2 => r0 k (by omega)) hqq hq),
              RDh_D (dj 14 (by omega)) (dj 15 (by omega)) (RDh_cg (fun k h1 h2 => r0 k (by omega)) b5 hh),
              RDu_D (dj 0 (by omega)) (dj 16 (by omega)) (RDu_cg (r0 0 (by omega)) (fun k h1 h2 => r0 k (by omega)) hu2)⟩, ?_, ?_⟩
            · rw [dj 17 (by omega)]; exact hw1
            · rw [dj 17 (by omega), dj 5 (by omega)]; exact hw2
  · obtain ⟨M', rfl, hL2, hF⟩ := hσ
    show ∃ M'', L_X1_changeToWanted_4 g u (n + 1) _ _ _ = _ ∧ _
    refine ⟨M', ?_, hL2.1, hF⟩
    rw [L_X1_changeToWanted_4]
    simp (disch := omega) only [↓ite_b2r, ↓ite_nb2r, ↓lit_m1, ↓lit_m2, lit_0, lit_1, lit_2, lit_3, lit_4, lit_5, lit_6, lit_7, lit_8, lit_9, lit_10, lit_11, lit_12, lit_13, lit_14, lit_15, lit_16, lit_17, lit_18, lit_19, lit_20, lit_21, lit_22, lit_23, lit_24, lit_25, lit_26, lit_27, lit_28, lit_29, lit_30, lit_31, lit_32, lit_33, lit_34, lit_35, lit_36, lit_40, lit_41, lit_42, lit_44, lit_48, lit_57, lit_59, lit_62, lit_63, lit_64, lit_82, lit_98, lit_99, lit_100, lit_101, lit_102, lit_103, lit_104, lit_105, lit_106, lit_107, lit_108, lit_109, lit_110, lit_111, lit_112, lit_113, lit_119, lit_120, lit_127, lit_128, lit_149, lit_150, lit_202, lit_240, lit_262, lit_894, lit_900, lit_999, lit_1000, lit_2000, lit_2662, lit_2663, lit_2695, lit_2701, lit_2702, lit_3602, lit_10806, nI_add, pk_mul, cl_nI, inb_nI, nI_leI, nI_ltI, nI_eq, nI_eq_m1, m1_eq_nI, nI_eq_m2, div_nI, rem_nI, Option.bind_some, b2_0, b2_1, isb_b2, if_true_, if_false_, ↓reduceIte, reduceCtorEq, not_true_eq_false, not_false_eq_true, bt_hasBit, ult, Nat.add_zero, false_and, true_and, and_true, and_false, Nat.reduceLeDiff, Nat.reduceEqDiff, Nat.reduceLT, Bool.toNat_true, Bool.toNat_false, decide_true, decide_false, Bool.not_true, Bool.not_false, Bool.false_and, Bool.true_and, Bool.and_true, Bool.and_false, Bool.or_false, Bool.true_or, Bool.or_true, Bool.false_or, Nat.le_refl]
end CW
