/-! ===== a request is looked at: the class reads ===== -/
theorem loopE {σ β : Type} (L : Nat → σ → Option β) (I : Nat → σ → Prop) {P : β → Prop} (j : Nat) (hs : ∀ n i s, i < j → I i s → ∃ s', L (n + 1) s = L n s' ∧ I (i + 1) s') (he : ∀ n s, I j s → ∃ b, L (n + 1) s = some b ∧ P b) (F : Nat) (hF : j < F) (s0 : σ) (h0 : I 0 s0) : ∃ b, L F s0 = some b ∧ P b :=
  loopI L I (fun o => ∃ b, o = some b ∧ P b) j (fun n i s h1 h2 => Or.inr (hs n i s h1 h2)) he F hF s0 h0
theorem setN_no {p : Nat → Bool} : ∀ {n : Nat}, (∀ k, k < n → p k = false) → setN p n = nI 0
  | 0, _ => rfl
  | n + 1, h => by rw [setN_s, h n (by omega), if_neg (by decide)]; exact setN_no (fun k hk => h k (by omega))
theorem setN_c {p q : Nat → Bool} : ∀ {n : Nat}, (∀ k, k < n → p k = q k) → setN p n = setN q n
  | 0, _ => rfl
  | n + 1, h => by rw [setN_s, setN_s, h n (by omega), setN_c (fun k hk => h k (by omega))]
theorem orS_0 {p : Nat → Bool} {f : Nat → Nat} {n : Nat} (h : ∀ k, k < n → p k = true → f k < 32) : (orS p f n = nI 0) = (anyN p n = false) := by
  refine propext ⟨fun e => ?_, fun e => bt_ext fun i hi => ?_⟩
  · rw [anyN_f]
    intro k hk
    cases hp : p k with
    | false => rfl
    | true =>
      have hb := bt_orS h (f k) (h k hk hp)
      rw [e, bt_0] at hb
      have := anyN_f.mp hb.symm k hk
      rw [hp, decide_eq_true rfl] at this
      cases this
  · rw [bt_orS h i hi, bt_0, anyN_f]
    intro k hk
    rw [anyN_f.mp e k hk, Bool.false_and]
theorem An_cmp {N : Row} (h : WFt N) {a b : Nat} : ∀ s, s < 20 → us N s = true → An N s a = true → An N s b = true → Ov N a b = true := by
  intro s hs hu
  refine up_ind h (fun s => An N s a = true → An N s b = true → Ov N a b = true) ?_ ?_ s hs hu
  · intro h1 h2
    rw [An_0, beq_iff_eq] at h1 h2
    rw [← h1, ← h2]
    unfold Ov
    rw [An_refl]
    rfl
  · intro s h1 h2 h3 ih h4 h5
    have h6 := h4
    have h7 := h5
    rw [An_s h h1 h2 h3, Bool.or_eq_true, beq_iff_eq] at h6 h7
    rcases h6 with h6 | h6
    · subst h6
      unfold Ov
      rw [h5, Bool.true_or]
    · rcases h7 with h7 | h7
      · subst h7
        unfold Ov
        rw [h4, Bool.or_true]
      · exact ih h6 h7
section LK
variable {M : Mem} {g : Nat} {N : Row} {k : Nat}
theorem c_absorbedBy (hN : WF N) (h : RD (M.1 g) N) (hk : k < wq N) : f_X1_absorbedBy g (nI k) M = some (setN (Abs N (wus N k) (wse N k) (wsh N k)) 10) := by
  have hNq := hN.2.2.2.1
  have hNc := hN.2.1
  have hq8 := wq_le hNq
  have hc := h.2.2.1
  obtain ⟨q0, q1, q2, q3⟩ := h.2.2.2.2.1.2 k hk
  obtain ⟨e0, l0⟩ := wus_eq hNq hk
  obtain ⟨e1, l1, u1⟩ := wse_eq hNq hk
  have e3 := wsh_eq hNq hk
  unfold f_X1_absorbedBy
  rw [show f_X5_fact g (nI k) 3 M = _ from c_qfact (by omega) (w := 3) (by decide), Option.bind_some, q3, e3]
  generalize hu : wus N k = u at e0 l0 ⊢
  generalize hs : wse N k = s at e1 l1 u1 ⊢
  generalize wsh N k = e
  cases e with
  | true =>
    rw [if_pos (show nI true.toNat = 1 from rfl)]
    rw [setN_no (fun c _ => by unfold Abs; rfl)]
    rfl
  | false =>
    rw [if_neg (show ¬ nI false.toNat = 1 by decide), show f_X5_fact g (nI k) 1 M = _ from c_qfact (by omega) (w := 1) (by decide), Option.bind_some, q1, e1, c_subtreeOf, Option.bind_some]
    refine loop (fun n (σ : Int32 × Int32) => L_X1_absorbedBy_46 g (nI k) (rowAt (M.1 g 6) (nI s) 20 &&& ((nI 1 <<< (nI s &&& nI 31)) ^^^ mI)) M n σ.1 σ.2) (fun i => (setN (Abs N u s false) i, nI i)) 10 (fun n i hi => ?_) (fun n => ?_) FU (by decide)
    · show L_X1_absorbedBy_46 g (nI k) _ M (n + 1) _ _ = L_X1_absorbedBy_46 g (nI k) _ M n _ _
      rw [L_X1_absorbedBy_46, c_isHeldN hc hi, setN_s]
      unfold B_X1_absorbedBy_113
      cases hh : hel N i with
      | false =>
        have ea : Abs N u s false i = false := by unfold Abs; rw [hh]; rfl
        simp (disch := omega) only [↓ite_b2r, ↓ite_nb2r, ↓lit_m1, ↓lit_m2, lit_0, lit_1, lit_2, lit_3, lit_4, lit_5, lit_6, lit_7, lit_8, lit_9, lit_10, lit_11, lit_12, lit_13, lit_14, lit_15, lit_16, lit_17, lit_18, lit_19, lit_20, lit_21, lit_22, lit_23, lit_24, lit_25, lit_26, lit_27, lit_28, lit_29, lit_30, lit_31, lit_32, lit_33, lit_34, lit_35, lit_36, lit_40, lit_41, lit_42, lit_44, lit_48, lit_57, lit_59, lit_62, lit_63, lit_64, lit_82, lit_98, lit_99, lit_100, lit_101, lit_102, lit_103, lit_104, lit_105, lit_106, lit_107, lit_108, lit_109, lit_110, lit_111, lit_112, lit_113, lit_119, lit_120, lit_127, lit_128, lit_149, lit_150, lit_202, lit_240, lit_262, lit_894, lit_900, lit_999, lit_1000, lit_2000, lit_2662, lit_2663, lit_2695, lit_2701, lit_2702, lit_3602, lit_10806, nI_add, pk_mul, cl_nI, inb_nI, nI_leI, nI_ltI, nI_eq, nI_eq_m1, m1_eq_nI, nI_eq_m2, div_nI, rem_nI, Option.bind_some, b2_0, b2_1, isb_b2, if_true_, if_false_, ↓reduceIte, reduceCtorEq, not_true_eq_false, not_false_eq_true, bt_hasBit, ult, Nat.add_zero, false_and, true_and, and_true, and_false, Nat.reduceLeDiff, Nat.reduceEqDiff, Nat.reduceLT, Bool.toNat_true, Bool.toNat_false, decide_true, decide_false, Bool.not_true, Bool.not_false, Bool.false_and, Bool.true_and, Bool.and_true, Bool.and_false, Bool.or_false, Bool.true_or, Bool.or_true, Bool.false_or, Nat.not_le.mpr hi, ea]
      | true =>
        have hck := hel_ck hh
        have hl := sec_lt hNc hi hck
        have hul := usr_lt hNc hi
        rw [show f_X0_fact g (nI i) 0 M = _ from c_fact hc (nI i) (w := 0) (by decide), show f_X0_fact g (nI i) 1 M = _ from c_fact hc (nI i) (w := 1) (by decide), show f_X5_fact g (nI k) 0 M = _ from c_qfact (by omega) (w := 0) (by decide)]
        have hb : bt (rowAt (M.1 g 6) (nI s) 20 &&& ((nI 1 <<< (nI s &&& nI 31)) ^^^ mI)) (sec N i) = (!decide (sec N i = s) && An N (sec N i) s) := by
          rw [bt_and, bt_not (by omega), bt_one s (by omega) _ (by omega), bt_sub h.1 _ (by omega), isS_nI l1, u1, cl_nI (by omega), decide_eq_true hl, sec_us hNc hi hck]
          cases An N (sec N i) s <;> cases decide (sec N i = s) <;> rfl
        have ea : Abs N u s false i = (decide (usr N i = u) && (!decide (sec N i = s) && An N (sec N i) s)) := by unfold Abs; rw [hh]; rfl
        rw [ea]
        simp (disch := omega) only [↓ite_b2r, ↓ite_nb2r, ↓lit_m1, ↓lit_m2, lit_0, lit_1, lit_2, lit_3, lit_4, lit_5, lit_6, lit_7, lit_8, lit_9, lit_10, lit_11, lit_12, lit_13, lit_14, lit_15, lit_16, lit_17, lit_18, lit_19, lit_20, lit_21, lit_22, lit_23, lit_24, lit_25, lit_26, lit_27, lit_28, lit_29, lit_30, lit_31, lit_32, lit_33, lit_34, lit_35, lit_36, lit_40, lit_41, lit_42, lit_44, lit_48, lit_57, lit_59, lit_62, lit_63, lit_64, lit_82, lit_98, lit_99, lit_100, lit_101, lit_102, lit_103, lit_104, lit_105, lit_106, lit_107, lit_108, lit_109, lit_110, lit_111, lit_112, lit_113, lit_119, lit_120, lit_127, lit_128, lit_149, lit_150, lit_202, lit_240, lit_262, lit_894, lit_900, lit_999, lit_1000, lit_2000, lit_2662, lit_2663, lit_2695, lit_2701, lit_2702, lit_3602, lit_10806, nI_add, pk_mul, cl_nI, inb_nI, nI_leI, nI_ltI, nI_eq, nI_eq_m1, m1_eq_nI, nI_eq_m2, div_nI, rem_nI, Option.bind_some, b2_0, b2_1, isb_b2, if_true_, if_false_, ↓reduceIte, reduceCtorEq, not_true_eq_false, not_false_eq_true, bt_hasBit, ult, Nat.add_zero, false_and, true_and, and_true, and_false, Nat.reduceLeDiff, Nat.reduceEqDiff, Nat.reduceLT, Bool.toNat_true, Bool.toNat_false, decide_true, decide_false, Bool.not_true, Bool.not_false, Bool.false_and, Bool.true_and, Bool.and_true, Bool.and_false, Bool.or_false, Bool.true_or, Bool.or_true, Bool.false_or, Nat.not_le.mpr hi, fac_nI hc hi hck, usr_eq hNc hi, sec_eq hNc hi hck, q0, e0, hb]
        by_cases h1 : usr N i = u
        · by_cases h2 : sec N i = s
          · simp (disch := omega) only [↓ite_b2r, ↓ite_nb2r, ↓lit_m1, ↓lit_m2, lit_0, lit_1, lit_2, lit_3, lit_4, lit_5, lit_6, lit_7, lit_8, lit_9, lit_10, lit_11, lit_12, lit_13, lit_14, lit_15, lit_16, lit_17, lit_18, lit_19, lit_20, lit_21, lit_22, lit_23, lit_24, lit_25, lit_26, lit_27, lit_28, lit_29, lit_30, lit_31, lit_32, lit_33, lit_34, lit_35, lit_36, lit_40, lit_41, lit_42, lit_44, lit_48, lit_57, lit_59, lit_62, lit_63, lit_64, lit_82, lit_98, lit_99, lit_100, lit_101, lit_102, lit_103, lit_104, lit_105, lit_106, lit_107, lit_108, lit_109, lit_110, lit_111, lit_112, lit_113, lit_119, lit_120, lit_127, lit_128, lit_149, lit_150, lit_202, lit_240, lit_262, lit_894, lit_900, lit_999, lit_1000, lit_2000, lit_2662, lit_2663, lit_2695, lit_2701, lit_2702, lit_3602, lit_10806, nI_add, pk_mul, cl_nI, inb_nI, nI_leI, nI_ltI, nI_eq, nI_eq_m1, m1_eq_nI, nI_eq_m2, div_nI, rem_nI, Option.bind_some, b2_0, b2_1, isb_b2, if_true_, if_false_, ↓reduceIte, reduceCtorEq, not_true_eq_false, not_false_eq_true, bt_hasBit, ult, Nat.add_zero, false_and, true_and, and_true, and_false, Nat.reduceLeDiff, Nat.reduceEqDiff, Nat.reduceLT, Bool.toNat_true, Bool.toNat_false, decide_true, decide_false, Bool.not_true, Bool.not_false, Bool.false_and, Bool.true_and, Bool.and_true, Bool.and_false, Bool.or_false, Bool.true_or, Bool.or_true, Bool.false_or, h1, h2]
          · cases An N (sec N i) s <;> simp (disch := omega) only [↓ite_b2r, ↓ite_nb2r, ↓lit_m1, ↓lit_m2, lit_0, lit_1, lit_2, lit_3, lit_4, lit_5, lit_6, lit_7, lit_8, lit_9, lit_10, lit_11, lit_12, lit_13, lit_14, lit_15, lit_16, lit_17, lit_18, lit_19, lit_20, lit_21, lit_22, lit_23, lit_24, lit_25, lit_26, lit_27, lit_28, lit_29, lit_30, lit_31, lit_32, lit_33, lit_34, lit_35, lit_36, lit_40, lit_41, lit_42, lit_44, lit_48, lit_57, lit_59, lit_62, lit_63, lit_64, lit_82, lit_98, lit_99, lit_100, lit_101, lit_102, lit_103, lit_104, lit_105, lit_106, lit_107, lit_108, lit_109, lit_110, lit_111, lit_112, lit_113, lit_119, lit_120, lit_127, lit_128, lit_149, lit_150, lit_202, lit_240, lit_262, lit_894, lit_900, lit_999, lit_1000, lit_2000, lit_2662, lit_2663, lit_2695, lit_2701, lit_2702, lit_3602, lit_10806, nI_add, pk_mul, cl_nI, inb_nI, nI_leI, nI_ltI, nI_eq, nI_eq_m1, m1_eq_nI, nI_eq_m2, div_nI, rem_nI, Option.bind_some, b2_0, b2_1, isb_b2, if_true_, if_false_, ↓reduceIte, reduceCtorEq, not_true_eq_false, not_false_eq_true, bt_hasBit, ult, Nat.add_zero, false_and, true_and, and_true, and_false, Nat.reduceLeDiff, Nat.reduceEqDiff, Nat.reduceLT, Bool.toNat_true, Bool.toNat_false, decide_true, decide_false, Bool.not_true, Bool.not_false, Bool.false_and, Bool.true_and, Bool.and_true, Bool.and_false, Bool.or_false, Bool.true_or, Bool.or_true, Bool.false_or, h1, h2]
        · simp (disch := omega) only [↓ite_b2r, ↓ite_nb2r, ↓lit_m1, ↓lit_m2, lit_0, lit_1, lit_2, lit_3, lit_4, lit_5, lit_6, lit_7, lit_8, lit_9, lit_10, lit_11, lit_12, lit_13, lit_14, lit_15, lit_16, lit_17, lit_18, lit_19, lit_20, lit_21, lit_22, lit_23, lit_24, lit_25, lit_26, lit_27, lit_28, lit_29, lit_30, lit_31, lit_32, lit_33, lit_34, lit_35, lit_36, lit_40, lit_41, lit_42, lit_44, lit_48, lit_57, lit_59, lit_62, lit_63, lit_64, lit_82, lit_98, lit_99, lit_100, lit_101, lit_102, lit_103, lit_104, lit_105, lit_106, lit_107, lit_108, lit_109, lit_110, lit_111, lit_112, lit_113, lit_119, lit_120, lit_127, lit_128, lit_149, lit_150, lit_202, lit_240, lit_262, lit_894, lit_900, lit_999, lit_1000, lit_2000, lit_2662, lit_2663, lit_2695, lit_2701, lit_2702, lit_3602, lit_10806, nI_add, pk_mul, cl_nI, inb_nI, nI_leI, nI_ltI, nI_eq, nI_eq_m1, m1_eq_nI, nI_eq_m2, div_nI, rem_nI, Option.bind_some, b2_0, b2_1, isb_b2, if_true_, if_false_, ↓reduceIte, reduceCtorEq, not_true_eq_false, not_false_eq_true, bt_hasBit, ult, Nat.add_zero, false_and, true_and, and_true, and_false, Nat.reduceLeDiff, Nat.reduceEqDiff, Nat.reduceLT, Bool.toNat_true, Bool.toNat_false, decide_true, decide_false, Bool.not_true, Bool.not_false, Bool.false_and, Bool.true_and, Bool.and_true, Bool.and_false, Bool.or_false, Bool.true_or, Bool.or_true, Bool.false_or, h1]
    · show L_X1_absorbedBy_46 g (nI k) _ M (n + 1) _ _ = _
      rw [L_X1_absorbedBy_46]
      simp (disch := omega) only [↓ite_b2r, ↓ite_nb2r, ↓lit_m1, ↓lit_m2, lit_0, lit_1, lit_2, lit_3, lit_4, lit_5, lit_6, lit_7, lit_8, lit_9, lit_10, lit_11, lit_12, lit_13, lit_14, lit_15, lit_16, lit_17, lit_18, lit_19, lit_20, lit_21, lit_22, lit_23, lit_24, lit_25, lit_26, lit_27, lit_28, lit_29, lit_30, lit_31, lit_32, lit_33, lit_34, lit_35, lit_36, lit_40, lit_41, lit_42, lit_44, lit_48, lit_57, lit_59, lit_62, lit_63, lit_64, lit_82, lit_98, lit_99, lit_100, lit_101, lit_102, lit_103, lit_104, lit_105, lit_106, lit_107, lit_108, lit_109, lit_110, lit_111, lit_112, lit_113, lit_119, lit_120, lit_127, lit_128, lit_149, lit_150, lit_202, lit_240, lit_262, lit_894, lit_900, lit_999, lit_1000, lit_2000, lit_2662, lit_2663, lit_2695, lit_2701, lit_2702, lit_3602, lit_10806, nI_add, pk_mul, cl_nI, inb_nI, nI_leI, nI_ltI, nI_eq, nI_eq_m1, m1_eq_nI, nI_eq_m2, div_nI, rem_nI, Option.bind_some, b2_0, b2_1, isb_b2, if_true_, if_false_, ↓reduceIte, reduceCtorEq, not_true_eq_false, not_false_eq_true, bt_hasBit, ult, Nat.add_zero, false_and, true_and, and_true, and_false, Nat.reduceLeDiff, Nat.reduceEqDiff, Nat.reduceLT, Bool.toNat_true, Bool.toNat_false, decide_true, decide_false, Bool.not_true, Bool.not_false, Bool.false_and, Bool.true_and, Bool.and_true, Bool.and_false, Bool.or_false, Bool.true_or, Bool.or_true, Bool.false_or, Nat.le_refl]
theorem c_hinderersOf (hN : WF N) (h : RD (M.1 g) N) (hk : k < wq N) : f_X1_hinderersOf g (nI k) (setN (Abs N (wus N k) (wse N k) (wsh N k)) 10) M = some (orS (Bar N (wus N k) (wse N k) (wsh N k)) (usr N) 10) := by
  have hNq := hN.2.2.2.1
  have hNc := hN.2.1
  have hq8 := wq_le hNq
  have hc := h.2.2.1
  obtain ⟨q0, q1, q2, q3⟩ := h.2.2.2.2.1.2 k hk
  obtain ⟨e1, l1, u1⟩ := wse_eq hNq hk
  have e3 := wsh_eq hNq hk
  unfold f_X1_hinderersOf B_X1_hinderersOf_35
  rw [show f_X5_fact g (nI k) 1 M = _ from c_qfact (by omega) (w := 1) (by decide), Option.bind_some, q1, e1, c_overlapOf, Option.bind_some, show f_X5_fact g (nI k) 3 M = _ from c_qfact (by omega) (w := 3) (by decide), Option.bind_some, q3, e3]
  generalize wus N k = u
  generalize hs : wse N k = s at e1 l1 u1 ⊢
  generalize wsh N k = e
  have key : L_X1_hinderersOf_43 g (setN (Abs N u s e) 10) (ovlAt M g (nI s)) (b2 e) M FU (nI 0) (nI 0) = some (orS (Bar N u s e) (usr N) 10) := by
    refine loop (fun n (σ : Int32 × Int32) => L_X1_hinderersOf_43 g (setN (Abs N u s e) 10) (ovlAt M g (nI s)) (b2 e) M n σ.1 σ.2) (fun i => (orS (Bar N u s e) (usr N) i, nI i)) 10 (fun n i hi => ?_) (fun n => ?_) FU (by decide)
    · show L_X1_hinderersOf_43 g _ _ _ M (n + 1) _ _ = L_X1_hinderersOf_43 g _ _ _ M n _ _
      rw [L_X1_hinderersOf_43, c_isHeldN hc hi, orS_s]
      unfold B_X1_hinderersOf_88 B_X1_hinderersOf_122
      cases hh : hel N i with
      | false =>
        have ea : Bar N u s e i = false := by unfold Bar; rw [hh]; rfl
        simp (disch := omega) only [↓ite_b2r, ↓ite_nb2r, ↓lit_m1, ↓lit_m2, lit_0, lit_1, lit_2, lit_3, lit_4, lit_5, lit_6, lit_7, lit_8, lit_9, lit_10, lit_11, lit_12, lit_13, lit_14, lit_15, lit_16, lit_17, lit_18, lit_19, lit_20, lit_21, lit_22, lit_23, lit_24, lit_25, lit_26, lit_27, lit_28, lit_29, lit_30, lit_31, lit_32, lit_33, lit_34, lit_35, lit_36, lit_40, lit_41, lit_42, lit_44, lit_48, lit_57, lit_59, lit_62, lit_63, lit_64, lit_82, lit_98, lit_99, lit_100, lit_101, lit_102, lit_103, lit_104, lit_105, lit_106, lit_107, lit_108, lit_109, lit_110, lit_111, lit_112, lit_113, lit_119, lit_120, lit_127, lit_128, lit_149, lit_150, lit_202, lit_240, lit_262, lit_894, lit_900, lit_999, lit_1000, lit_2000, lit_2662, lit_2663, lit_2695, lit_2701, lit_2702, lit_3602, lit_10806, nI_add, pk_mul, cl_nI, inb_nI, nI_leI, nI_ltI, nI_eq, nI_eq_m1, m1_eq_nI, nI_eq_m2, div_nI, rem_nI, Option.bind_some, b2_0, b2_1, isb_b2, if_true_, if_false_, ↓reduceIte, reduceCtorEq, not_true_eq_false, not_false_eq_true, bt_hasBit, ult, Nat.add_zero, false_and, true_and, and_true, and_false, Nat.reduceLeDiff, Nat.reduceEqDiff, Nat.reduceLT, Bool.toNat_true, Bool.toNat_false, decide_true, decide_false, Bool.not_true, Bool.not_false, Bool.false_and, Bool.true_and, Bool.and_true, Bool.and_false, Bool.or_false, Bool.true_or, Bool.or_true, Bool.false_or, Nat.not_le.mpr hi, ea]
      | true =>
        have hck := hel_ck hh
        have hl := sec_lt hNc hi hck
        have hul := usr_lt hNc hi
        rw [show f_X0_fact g (nI i) 0 M = _ from c_fact hc (nI i) (w := 0) (by decide), show f_X0_fact g (nI i) 1 M = _ from c_fact hc (nI i) (w := 1) (by decide), c_isShared hc, isC_nI hi, hck, cl_nI (by omega), Bool.true_and]
        have hb : bt (ovlAt M g (nI s)) (sec N i) = Ov N s (sec N i) := by
          rw [bt_ovl h.1 _ (by omega), isS_nI l1, u1, cl_nI (by omega), decide_eq_true hl, sec_us hNc hi hck]
          rfl
        have hA : bt (setN (Abs N u s e) 10) i = Abs N u s e i := by rw [bt_setN (by omega) i (by omega), decide_eq_true hi, Bool.true_and]
        have ea : Bar N u s e i = (Ov N s (sec N i) && (!(e && sh N i) && !Abs N u s e i)) := by unfold Bar; rw [hh]; rfl
        rw [ea]
        simp (disch := omega) only [↓ite_b2r, ↓ite_nb2r, ↓lit_m1, ↓lit_m2, lit_0, lit_1, lit_2, lit_3, lit_4, lit_5, lit_6, lit_7, lit_8, lit_9, lit_10, lit_11, lit_12, lit_13, lit_14, lit_15, lit_16, lit_17, lit_18, lit_19, lit_20, lit_21, lit_22, lit_23, lit_24, lit_25, lit_26, lit_27, lit_28, lit_29, lit_30, lit_31, lit_32, lit_33, lit_34, lit_35, lit_36, lit_40, lit_41, lit_42, lit_44, lit_48, lit_57, lit_59, lit_62, lit_63, lit_64, lit_82, lit_98, lit_99, lit_100, lit_101, lit_102, lit_103, lit_104, lit_105, lit_106, lit_107, lit_108, lit_109, lit_110, lit_111, lit_112, lit_113, lit_119, lit_120, lit_127, lit_128, lit_149, lit_150, lit_202, lit_240, lit_262, lit_894, lit_900, lit_999, lit_1000, lit_2000, lit_2662, lit_2663, lit_2695, lit_2701, lit_2702, lit_3602, lit_10806, nI_add, pk_mul, cl_nI, inb_nI, nI_leI, nI_ltI, nI_eq, nI_eq_m1, m1_eq_nI, nI_eq_m2, div_nI, rem_nI, Option.bind_some, b2_0, b2_1, isb_b2, if_true_, if_false_, ↓reduceIte, reduceCtorEq, not_true_eq_false, not_false_eq_true, bt_hasBit, ult, Nat.add_zero, false_and, true_and, and_true, and_false, Nat.reduceLeDiff, Nat.reduceEqDiff, Nat.reduceLT, Bool.toNat_true, Bool.toNat_false, decide_true, decide_false, Bool.not_true, Bool.not_false, Bool.false_and, Bool.true_and, Bool.and_true, Bool.and_false, Bool.or_false, Bool.true_or, Bool.or_true, Bool.false_or, Nat.not_le.mpr hi, fac_nI hc hi hck, usr_eq hNc hi, sec_eq hNc hi hck, hA, hb]
        cases Abs N u s e i with
        | true => cases Ov N s (sec N i) <;> cases e <;> cases sh N i <;> simp (disch := omega) only [↓ite_b2r, ↓ite_nb2r, ↓lit_m1, ↓lit_m2, lit_0, lit_1, lit_2, lit_3, lit_4, lit_5, lit_6, lit_7, lit_8, lit_9, lit_10, lit_11, lit_12, lit_13, lit_14, lit_15, lit_16, lit_17, lit_18, lit_19, lit_20, lit_21, lit_22, lit_23, lit_24, lit_25, lit_26, lit_27, lit_28, lit_29, lit_30, lit_31, lit_32, lit_33, lit_34, lit_35, lit_36, lit_40, lit_41, lit_42, lit_44, lit_48, lit_57, lit_59, lit_62, lit_63, lit_64, lit_82, lit_98, lit_99, lit_100, lit_101, lit_102, lit_103, lit_104, lit_105, lit_106, lit_107, lit_108, lit_109, lit_110, lit_111, lit_112, lit_113, lit_119, lit_120, lit_127, lit_128, lit_149, lit_150, lit_202, lit_240, lit_262, lit_894, lit_900, lit_999, lit_1000, lit_2000, lit_2662, lit_2663, lit_2695, lit_2701, lit_2702, lit_3602, lit_10806, nI_add, pk_mul, cl_nI, inb_nI, nI_leI, nI_ltI, nI_eq, nI_eq_m1, m1_eq_nI, nI_eq_m2, div_nI, rem_nI, Option.bind_some, b2_0, b2_1, isb_b2, if_true_, if_false_, ↓reduceIte, reduceCtorEq, not_true_eq_false, not_false_eq_true, bt_hasBit, ult, Nat.add_zero, false_and, true_and, and_true, and_false, Nat.reduceLeDiff, Nat.reduceEqDiff, Nat.reduceLT, Bool.toNat_true, Bool.toNat_false, decide_true, decide_false, Bool.not_true, Bool.not_false, Bool.false_and, Bool.true_and, Bool.and_true, Bool.and_false, Bool.or_false, Bool.true_or, Bool.or_true, Bool.false_or]
        | false => cases Ov N s (sec N i) <;> cases e <;> cases sh N i <;> simp (disch := omega) only [↓ite_b2r, ↓ite_nb2r, ↓lit_m1, ↓lit_m2, lit_0, lit_1, lit_2, lit_3, lit_4, lit_5, lit_6, lit_7, lit_8, lit_9, lit_10, lit_11, lit_12, lit_13, lit_14, lit_15, lit_16, lit_17, lit_18, lit_19, lit_20, lit_21, lit_22, lit_23, lit_24, lit_25, lit_26, lit_27, lit_28, lit_29, lit_30, lit_31, lit_32, lit_33, lit_34, lit_35, lit_36, lit_40, lit_41, lit_42, lit_44, lit_48, lit_57, lit_59, lit_62, lit_63, lit_64, lit_82, lit_98, lit_99, lit_100, lit_101, lit_102, lit_103, lit_104, lit_105, lit_106, lit_107, lit_108, lit_109, lit_110, lit_111, lit_112, lit_113, lit_119, lit_120, lit_127, lit_128, lit_149, lit_150, lit_202, lit_240, lit_262, lit_894, lit_900, lit_999, lit_1000, lit_2000, lit_2662, lit_2663, lit_2695, lit_2701, lit_2702, lit_3602, lit_10806, nI_add, pk_mul, cl_nI, inb_nI, nI_leI, nI_ltI, nI_eq, nI_eq_m1, m1_eq_nI, nI_eq_m2, div_nI, rem_nI, Option.bind_some, b2_0, b2_1, isb_b2, if_true_, if_false_, ↓reduceIte, reduceCtorEq, not_true_eq_false, not_false_eq_true, bt_hasBit, ult, Nat.add_zero, false_and, true_and, and_true, and_false, Nat.reduceLeDiff, Nat.reduceEqDiff, Nat.reduceLT, Bool.toNat_true, Bool.toNat_false, decide_true, decide_false, Bool.not_true, Bool.not_false, Bool.false_and, Bool.true_and, Bool.and_true, Bool.and_false, Bool.or_false, Bool.true_or, Bool.or_true, Bool.false_or]
    · show L_X1_hinderersOf_43 g _ _ _ M (n + 1) _ _ = _
      rw [L_X1_hinderersOf_43]
      simp (disch := omega) only [↓ite_b2r, ↓ite_nb2r, ↓lit_m1, ↓lit_m2, lit_0, lit_1, lit_2, lit_3, lit_4, lit_5, lit_6, lit_7, lit_8, lit_9, lit_10, lit_11, lit_12, lit_13, lit_14, lit_15, lit_16, lit_17, lit_18, lit_19, lit_20, lit_21, lit_22, lit_23, lit_24, lit_25, lit_26, lit_27, lit_28, lit_29, lit_30, lit_31, lit_32, lit_33, lit_34, lit_35, lit_36, lit_40, lit_41, lit_42, lit_44, lit_48, lit_57, lit_59, lit_62, lit_63, lit_64, lit_82, lit_98, lit_99, lit_100, lit_101, lit_102, lit_103, lit_104, lit_105, lit_106, lit_107, lit_108, lit_109, lit_110, lit_111, lit_112, lit_113, lit_119, lit_120, lit_127, lit_128, lit_149, lit_150, lit_202, lit_240, lit_262, lit_894, lit_900, lit_999, lit_1000, lit_2000, lit_2662, lit_2663, lit_2695, lit_2701, lit_2702, lit_3602, lit_10806, nI_add, pk_mul, cl_nI, inb_nI, nI_leI, nI_ltI, nI_eq, nI_eq_m1, m1_eq_nI, nI_eq_m2, div_nI, rem_nI, Option.bind_some, b2_0, b2_1, isb_b2, if_true_, if_false_, ↓reduceIte, reduceCtorEq, not_true_eq_false, not_false_eq_true, bt_hasBit, ult, Nat.add_zero, false_and, true_and, and_true, and_false, Nat.reduceLeDiff, Nat.reduceEqDiff, Nat.reduceLT, Bool.toNat_true, Bool.toNat_false, decide_true, decide_false, Bool.not_true, Bool.not_false, Bool.false_and, Bool.true_and, Bool.and_true, Bool.and_false, Bool.or_false, Bool.true_or, Bool.or_true, Bool.false_or, Nat.le_refl]
  cases e with
  | true => rw [if_pos (show nI true.toNat = 1 from rfl)]; exact key
  | false => rw [if_neg (show ¬ nI false.toNat = 1 by decide)]; exact key
theorem c_blockersOf (hN : WF N) (h : RD (M.1 g) N) (hk : k < wq N) : f_X1_blockersOf g (nI k) M = some (orS (fun j => Blk N j (wse N k) (wsh N k)) (wus N) k) := by
  have hNq := hN.2.2.2.1
  have hNc := hN.2.1
  have hq8 := wq_le hNq
  have hc := h.2.2.1
  obtain ⟨q0, q1, q2, q3⟩ := h.2.2.2.2.1.2 k hk
  obtain ⟨e1, l1, u1⟩ := wse_eq hNq hk
  have e3 := wsh_eq hNq hk
  unfold f_X1_blockersOf B_X1_blockersOf_35
  rw [show f_X5_fact g (nI k) 1 M = _ from c_qfact (by omega) (w := 1) (by decide), Option.bind_some, q1, e1, c_overlapOf, Option.bind_some, show f_X5_fact g (nI k) 3 M = _ from c_qfact (by omega) (w := 3) (by decide), Option.bind_some, q3, e3]
  generalize hs : wse N k = s at e1 l1 u1 ⊢
  generalize wsh N k = e
  have key : L_X1_blockersOf_42 g (nI k) (ovlAt M g (nI s)) (b2 e) M FU (nI 0) (nI 0) = some (orS (fun j => Blk N j s e) (wus N) k) := by
    refine loop (fun n (σ : Int32 × Int32) => L_X1_blockersOf_42 g (nI k) (ovlAt M g (nI s)) (b2 e) M n σ.1 σ.2) (fun i => (orS (fun j => Blk N j s e) (wus N) i, nI i)) k (fun n i hi => ?_) (fun n => ?_) FU (FU_lt (by omega))
    · show L_X1_blockersOf_42 g (nI k) _ _ M (n + 1) _ _ = L_X1_blockersOf_42 g (nI k) _ _ M n _ _
      rw [L_X1_blockersOf_42, orS_s]
      unfold B_X1_blockersOf_66 B_X1_blockersOf_100
      have hi2 : i < wq N := by omega
      obtain ⟨p0, p1, p2, p3⟩ := h.2.2.2.2.1.2 i hi2
      obtain ⟨f0, m0⟩ := wus_eq hNq hi2
      obtain ⟨f1, m1, v1⟩ := wse_eq hNq hi2
      have f3 := wsh_eq hNq hi2
      have hb : bt (ovlAt M g (nI s)) (wse N i) = Ov N (wse N i) s := by
        rw [bt_ovl h.1 _ (by omega), isS_nI l1, u1, cl_nI (by omega), decide_eq_true m1, v1, Ov_comm]
        rfl
      rw [show f_X5_fact g (nI i) 1 M = _ from c_qfact (by omega) (w := 1) (by decide), show f_X5_fact g (nI i) 0 M = _ from c_qfact (by omega) (w := 0) (by decide), show f_X5_fact g (nI i) 3 M = _ from c_qfact (by omega) (w := 3) (by decide)]
      unfold Blk
      simp (disch := omega) only [↓ite_b2r, ↓ite_nb2r, ↓lit_m1, ↓lit_m2, lit_0, lit_1, lit_2, lit_3, lit_4, lit_5, lit_6, lit_7, lit_8, lit_9, lit_10, lit_11, lit_12, lit_13, lit_14, lit_15, lit_16, lit_17, lit_18, lit_19, lit_20, lit_21, lit_22, lit_23, lit_24, lit_25, lit_26, lit_27, lit_28, lit_29, lit_30, lit_31, lit_32, lit_33, lit_34, lit_35, lit_36, lit_40, lit_41, lit_42, lit_44, lit_48, lit_57, lit_59, lit_62, lit_63, lit_64, lit_82, lit_98, lit_99, lit_100, lit_101, lit_102, lit_103, lit_104, lit_105, lit_106, lit_107, lit_108, lit_109, lit_110, lit_111, lit_112, lit_113, lit_119, lit_120, lit_127, lit_128, lit_149, lit_150, lit_202, lit_240, lit_262, lit_894, lit_900, lit_999, lit_1000, lit_2000, lit_2662, lit_2663, lit_2695, lit_2701, lit_2702, lit_3602, lit_10806, nI_add, pk_mul, cl_nI, inb_nI, nI_leI, nI_ltI, nI_eq, nI_eq_m1, m1_eq_nI, nI_eq_m2, div_nI, rem_nI, Option.bind_some, b2_0, b2_1, isb_b2, if_true_, if_false_, ↓reduceIte, reduceCtorEq, not_true_eq_false, not_false_eq_true, bt_hasBit, ult, Nat.add_zero, false_and, true_and, and_true, and_false, Nat.reduceLeDiff, Nat.reduceEqDiff, Nat.reduceLT, Bool.toNat_true, Bool.toNat_false, decide_true, decide_false, Bool.not_true, Bool.not_false, Bool.false_and, Bool.true_and, Bool.and_true, Bool.and_false, Bool.or_false, Bool.true_or, Bool.or_true, Bool.false_or, Nat.not_le.mpr hi, p0, p1, p3, f0, f1, f3, hb]
      cases Ov N (wse N i) s <;> cases e <;> cases wsh N i <;> simp (disch := omega) only [↓ite_b2r, ↓ite_nb2r, ↓lit_m1, ↓lit_m2, lit_0, lit_1, lit_2, lit_3, lit_4, lit_5, lit_6, lit_7, lit_8, lit_9, lit_10, lit_11, lit_12, lit_13, lit_14, lit_15, lit_16, lit_17, lit_18, lit_19, lit_20, lit_21, lit_22, lit_23, lit_24, lit_25, lit_26, lit_27, lit_28, lit_29, lit_30, lit_31, lit_32, lit_33, lit_34, lit_35, lit_36, lit_40, lit_41, lit_42, lit_44, lit_48, lit_57, lit_59, lit_62, lit_63, lit_64, lit_82, lit_98, lit_99, lit_100, lit_101, lit_102, lit_103, lit_104, lit_105, lit_106, lit_107, lit_108, lit_109, lit_110, lit_111, lit_112, lit_113, lit_119, lit_120, lit_127, lit_128, lit_149, lit_150, lit_202, lit_240, lit_262, lit_894, lit_900, lit_999, lit_1000, lit_2000, lit_2662, lit_2663, lit_2695, lit_2701, lit_2702, lit_3602, lit_10806, nI_add, pk_mul, cl_nI, inb_nI, nI_leI, nI_ltI, nI_eq, nI_eq_m1, m1_eq_nI, nI_eq_m2, div_nI, rem_nI, Option.bind_some, b2_0, b2_1, isb_b2, if_true_, if_false_, ↓reduceIte, reduceCtorEq, not_true_eq_false, not_false_eq_true, bt_hasBit, ult, Nat.add_zero, false_and, true_and, and_true, and_false, Nat.reduceLeDiff, Nat.reduceEqDiff, Nat.reduceLT, Bool.toNat_true, Bool.toNat_false, decide_true, decide_false, Bool.not_true, Bool.not_false, Bool.false_and, Bool.true_and, Bool.and_true, Bool.and_false, Bool.or_false, Bool.true_or, Bool.or_true, Bool.false_or]
    · show L_X1_blockersOf_42 g (nI k) _ _ M (n + 1) _ _ = _
      rw [L_X1_blockersOf_42]
      simp (disch := omega) only [↓ite_b2r, ↓ite_nb2r, ↓lit_m1, ↓lit_m2, lit_0, lit_1, lit_2, lit_3, lit_4, lit_5, lit_6, lit_7, lit_8, lit_9, lit_10, lit_11, lit_12, lit_13, lit_14, lit_15, lit_16, lit_17, lit_18, lit_19, lit_20, lit_21, lit_22, lit_23, lit_24, lit_25, lit_26, lit_27, lit_28, lit_29, lit_30, lit_31, lit_32, lit_33, lit_34, lit_35, lit_36, lit_40, lit_41, lit_42, lit_44, lit_48, lit_57, lit_59, lit_62, lit_63, lit_64, lit_82, lit_98, lit_99, lit_100, lit_101, lit_102, lit_103, lit_104, lit_105, lit_106, lit_107, lit_108, lit_109, lit_110, lit_111, lit_112, lit_113, lit_119, lit_120, lit_127, lit_128, lit_149, lit_150, lit_202, lit_240, lit_262, lit_894, lit_900, lit_999, lit_1000, lit_2000, lit_2662, lit_2663, lit_2695, lit_2701, lit_2702, lit_3602, lit_10806, nI_add, pk_mul, cl_nI, inb_nI, nI_leI, nI_ltI, nI_eq, nI_eq_m1, m1_eq_nI, nI_eq_m2, div_nI, rem_nI, Option.bind_some, b2_0, b2_1, isb_b2, if_true_, if_false_, ↓reduceIte, reduceCtorEq, not_true_eq_false, not_false_eq_true, bt_hasBit, ult, Nat.add_zero, false_and, true_and, and_true, and_false, Nat.reduceLeDiff, Nat.reduceEqDiff, Nat.reduceLT, Bool.toNat_true, Bool.toNat_false, decide_true, decide_false, Bool.not_true, Bool.not_false, Bool.false_and, Bool.true_and, Bool.and_true, Bool.and_false, Bool.or_false, Bool.true_or, Bool.or_true, Bool.false_or, Nat.le_refl]
  cases e with
  | true => rw [if_pos (show nI true.toNat = 1 from rfl)]; exact key
  | false => rw [if_neg (show ¬ nI false.toNat = 1 by decide)]; exact key
theorem bt_free (h : RD (M.1 g) N) {u s : Nat} {e : Bool} {i : Nat} (hi : i < 32) : bt (M.1 g 8 3 &&& (setN (Abs N u s e) 10 ^^^ mI)) i = (decide (i < 10) && frN N u s e i) := by
  rw [bt_and, bt_not hi, h.2.2.1.1 i hi, bt_setN (by omega) i hi]
  unfold frN
  cases decide (i < 10) <;> cases ck N i <;> rfl
theorem cntN_add (p : Nat → Bool) (a : Nat) : ∀ b, cntN p (a + b) = cntN p a + cntN (fun i => p (a + i)) b
  | 0 => rfl
  | b + 1 => by rw [show a + (b + 1) = a + b + 1 from rfl, cntN_s, cntN_s, cntN_add p a b, Nat.add_assoc]
theorem c_countWithout (h : RD (M.1 g) N) (u s : Nat) (e : Bool) : f_X0_countWithout g (setN (Abs N u s e) 10) M = nI (Cnt N u s e) := by
  unfold f_X0_countWithout
  show f_J6_bitCount_0f7a4 (M.1 g 8 3 &&& (setN (Abs N u s e) 10 ^^^ mI)) = _
  rw [bitCount_bt (fun i h1 h2 => by rw [bt_free h h2, decide_eq_false (by omega)]; rfl)]
  congr 1
  rw [show (20 : Nat) = 10 + 10 from rfl, cntN_add, cntN_0 (p := fun i => bt (M.1 g 8 3 &&& (setN (Abs N u s e) 10 ^^^ mI)) (10 + i)) (fun i hi => by rw [bt_free h (by omega), decide_eq_false (by omega)]; rfl), Nat.add_zero]
  exact cntN_c (fun i hi => by rw [bt_free h (by omega), decide_eq_true hi]; rfl)
theorem c_lowestFree (h : RD (M.1 g) N) {u s : Nat} {e : Bool} (hc : Cnt N u s e < 10) : f_X0_lowestFree g (setN (Abs N u s e) 10) M = some (nI (itsN N u s e)) := by
  obtain ⟨n1, n2, n3⟩ := its_spec hc
  generalize itsN N u s e = its at n1 n2 n3 ⊢
  unfold f_X0_lowestFree
  refine loop (fun n (σ : Int32) => L_X0_lowestFree_2 g (setN (Abs N u s e) 10) M n σ) (fun i => nI i) its (fun n i hi => ?_) (fun n => ?_) FU (FU_lt (by omega))
  · show L_X0_lowestFree_2 g _ M (n + 1) _ = L_X0_lowestFree_2 g _ M n _
    have hb := bt_free (M := M) (g := g) h (u := u) (s := s) (e := e) (i := i) (by omega)
    rw [n3 i hi, decide_eq_true (show i < 10 by omega)] at hb
    rw [L_X0_lowestFree_2]
    simp (disch := omega) only [↓ite_b2r, ↓ite_nb2r, ↓lit_m1, ↓lit_m2, lit_0, lit_1, lit_2, lit_3, lit_4, lit_5, lit_6, lit_7, lit_8, lit_9, lit_10, lit_11, lit_12, lit_13, lit_14, lit_15, lit_16, lit_17, lit_18, lit_19, lit_20, lit_21, lit_22, lit_23, lit_24, lit_25, lit_26, lit_27, lit_28, lit_29, lit_30, lit_31, lit_32, lit_33, lit_34, lit_35, lit_36, lit_40, lit_41, lit_42, lit_44, lit_48, lit_57, lit_59, lit_62, lit_63, lit_64, lit_82, lit_98, lit_99, lit_100, lit_101, lit_102, lit_103, lit_104, lit_105, lit_106, lit_107, lit_108, lit_109, lit_110, lit_111, lit_112, lit_113, lit_119, lit_120, lit_127, lit_128, lit_149, lit_150, lit_202, lit_240, lit_262, lit_894, lit_900, lit_999, lit_1000, lit_2000, lit_2662, lit_2663, lit_2695, lit_2701, lit_2702, lit_3602, lit_10806, nI_add, pk_mul, cl_nI, inb_nI, nI_leI, nI_ltI, nI_eq, nI_eq_m1, m1_eq_nI, nI_eq_m2, div_nI, rem_nI, Option.bind_some, b2_0, b2_1, isb_b2, if_true_, if_false_, ↓reduceIte, reduceCtorEq, not_true_eq_false, not_false_eq_true, bt_hasBit, ult, Nat.add_zero, false_and, true_and, and_true, and_false, Nat.reduceLeDiff, Nat.reduceEqDiff, Nat.reduceLT, Bool.toNat_true, Bool.toNat_false, decide_true, decide_false, Bool.not_true, Bool.not_false, Bool.false_and, Bool.true_and, Bool.and_true, Bool.and_false, Bool.or_false, Bool.true_or, Bool.or_true, Bool.false_or, Nat.not_le.mpr (show i < 10 by omega), hb]
  · show L_X0_lowestFree_2 g _ M (n + 1) _ = _
    have hb := bt_free (M := M) (g := g) h (u := u) (s := s) (e := e) (i := its) (by omega)
    rw [n2, Bool.and_false] at hb
    rw [L_X0_lowestFree_2]
    simp (disch := omega) only [↓ite_b2r, ↓ite_nb2r, ↓lit_m1, ↓lit_m2, lit_0, lit_1, lit_2, lit_3, lit_4, lit_5, lit_6, lit_7, lit_8, lit_9, lit_10, lit_11, lit_12, lit_13, lit_14, lit_15, lit_16, lit_17, lit_18, lit_19, lit_20, lit_21, lit_22, lit_23, lit_24, lit_25, lit_26, lit_27, lit_28, lit_29, lit_30, lit_31, lit_32, lit_33, lit_34, lit_35, lit_36, lit_40, lit_41, lit_42, lit_44, lit_48, lit_57, lit_59, lit_62, lit_63, lit_64, lit_82, lit_98, lit_99, lit_100, lit_101, lit_102, lit_103, lit_104, lit_105, lit_106, lit_107, lit_108, lit_109, lit_110, lit_111, lit_112, lit_113, lit_119, lit_120, lit_127, lit_128, lit_149, lit_150, lit_202, lit_240, lit_262, lit_894, lit_900, lit_999, lit_1000, lit_2000, lit_2662, lit_2663, lit_2695, lit_2701, lit_2702, lit_3602, lit_10806, nI_add, pk_mul, cl_nI, inb_nI, nI_leI, nI_ltI, nI_eq, nI_eq_m1, m1_eq_nI, nI_eq_m2, div_nI, rem_nI, Option.bind_some, b2_0, b2_1, isb_b2, if_true_, if_false_, ↓reduceIte, reduceCtorEq, not_true_eq_false, not_false_eq_true, bt_hasBit, ult, Nat.add_zero, false_and, true_and, and_true, and_false, Nat.reduceLeDiff, Nat.reduceEqDiff, Nat.reduceLT, Bool.toNat_true, Bool.toNat_false, decide_true, decide_false, Bool.not_true, Bool.not_false, Bool.false_and, Bool.true_and, Bool.and_true, Bool.and_false, Bool.or_false, Bool.true_or, Bool.or_true, Bool.false_or, Nat.not_le.mpr n1, hb]
theorem c_setBase {c x : Nat} (hc : c < 10) (hx : x < 120) (v : Int32) : f_X0_setBase g (nI c) (nI x) v M = some (wr M g 10 (120 * c + x) v) := by
  unfold f_X0_setBase
  simp (disch := omega) only [↓ite_b2r, ↓ite_nb2r, ↓lit_m1, ↓lit_m2, lit_0, lit_1, lit_2, lit_3, lit_4, lit_5, lit_6, lit_7, lit_8, lit_9, lit_10, lit_11, lit_12, lit_13, lit_14, lit_15, lit_16, lit_17, lit_18, lit_19, lit_20, lit_21, lit_22, lit_23, lit_24, lit_25, lit_26, lit_27, lit_28, lit_29, lit_30, lit_31, lit_32, lit_33, lit_34, lit_35, lit_36, lit_40, lit_41, lit_42, lit_44, lit_48, lit_57, lit_59, lit_62, lit_63, lit_64, lit_82, lit_98, lit_99, lit_100, lit_101, lit_102, lit_103, lit_104, lit_105, lit_106, lit_107, lit_108, lit_109, lit_110, lit_111, lit_112, lit_113, lit_119, lit_120, lit_127, lit_128, lit_149, lit_150, lit_202, lit_240, lit_262, lit_894, lit_900, lit_999, lit_1000, lit_2000, lit_2662, lit_2663, lit_2695, lit_2701, lit_2702, lit_3602, lit_10806, nI_add, pk_mul, cl_nI, inb_nI, nI_leI, nI_ltI, nI_eq, nI_eq_m1, m1_eq_nI, nI_eq_m2, div_nI, rem_nI, Option.bind_some, b2_0, b2_1, isb_b2, if_true_, if_false_, ↓reduceIte, reduceCtorEq, not_true_eq_false, not_false_eq_true, bt_hasBit, ult, Nat.add_zero, false_and, true_and, and_true, and_false, Nat.reduceLeDiff, Nat.reduceEqDiff, Nat.reduceLT, Bool.toNat_true, Bool.toNat_false, decide_true, decide_false, Bool.not_true, Bool.not_false, Bool.false_and, Bool.true_and, Bool.and_true, Bool.and_false, Bool.or_false, Bool.true_or, Bool.or_true, Bool.false_or, Nat.not_le.mpr hc, Nat.not_le.mpr hx, Nat.mul_comm c 120, Nat.not_lt_zero]
theorem c_setOwn {c x : Nat} (hc : c < 10) (hx : x < 120) (v : Int32) : f_X0_setOwn g (nI c) (nI x) v M = some (wr M g 11 (120 * c + x) v) := by
  unfold f_X0_setOwn
  simp (disch := omega) only [↓ite_b2r, ↓ite_nb2r, ↓lit_m1, ↓lit_m2, lit_0, lit_1, lit_2, lit_3, lit_4, lit_5, lit_6, lit_7, lit_8, lit_9, lit_10, lit_11, lit_12, lit_13, lit_14, lit_15, lit_16, lit_17, lit_18, lit_19, lit_20, lit_21, lit_22, lit_23, lit_24, lit_25, lit_26, lit_27, lit_28, lit_29, lit_30, lit_31, lit_32, lit_33, lit_34, lit_35, lit_36, lit_40, lit_41, lit_42, lit_44, lit_48, lit_57, lit_59, lit_62, lit_63, lit_64, lit_82, lit_98, lit_99, lit_100, lit_101, lit_102, lit_103, lit_104, lit_105, lit_106, lit_107, lit_108, lit_109, lit_110, lit_111, lit_112, lit_113, lit_119, lit_120, lit_127, lit_128, lit_149, lit_150, lit_202, lit_240, lit_262, lit_894, lit_900, lit_999, lit_1000, lit_2000, lit_2662, lit_2663, lit_2695, lit_2701, lit_2702, lit_3602, lit_10806, nI_add, pk_mul, cl_nI, inb_nI, nI_leI, nI_ltI, nI_eq, nI_eq_m1, m1_eq_nI, nI_eq_m2, div_nI, rem_nI, Option.bind_some, b2_0, b2_1, isb_b2, if_true_, if_false_, ↓reduceIte, reduceCtorEq, not_true_eq_false, not_false_eq_true, bt_hasBit, ult, Nat.add_zero, false_and, true_and, and_true, and_false, Nat.reduceLeDiff, Nat.reduceEqDiff, Nat.reduceLT, Bool.toNat_true, Bool.toNat_false, decide_true, decide_false, Bool.not_true, Bool.not_false, Bool.false_and, Bool.true_and, Bool.and_true, Bool.and_false, Bool.or_false, Bool.true_or, Bool.or_true, Bool.false_or, Nat.not_le.mpr hc, Nat.not_le.mpr hx, Nat.mul_comm c 120, Nat.not_lt_zero]
/-- a copy's cells of the sections S become v, up to m -/
def cpV (r : Nat → Int32) (n : Nat) (S : Int32) (v : Nat → Int32) (m : Nat) : Nat → Int32 := fun x => if 120 * n ≤ x ∧ x < 120 * n + m ∧ bt S ((x - 120 * n) / 6) = true then v (x - 120 * n) else r x
theorem cpV_0 (r : Nat → Int32) (n : Nat) (S : Int32) (v : Nat → Int32) : cpV r n S v 0 = r := by funext x; unfold cpV; rw [if_neg (fun z => by omega)]
theorem cpV_t {r : Nat → Int32} {n : Nat} {S : Int32} {v : Nat → Int32} {m : Nat} (h : bt S (m / 6) = true) : upd (cpV r n S v m) (120 * n + m) (v m) = cpV r n S v (m + 1) := by
  funext x
  unfold cpV
  by_cases hx : x = 120 * n + m
  · subst hx
    rw [upd_same, show 120 * n + m - 120 * n = m by omega, if_pos ⟨by omega, by omega, h⟩]
  · rw [upd_other hx]
    by_cases h2 : 120 * n ≤ x ∧ x < 120 * n + m ∧ bt S ((x - 120 * n) / 6) = true
    · rw [if_pos h2, if_pos ⟨h2.1, by omega, h2.2.2⟩]
    · rw [if_neg h2, if_neg (fun z => h2 ⟨z.1, by omega, z.2.2⟩)]
theorem cpV_f {r : Nat → Int32} {n : Nat} {S : Int32} {v : Nat → Int32} {m : Nat} (h : bt S (m / 6) = false) : cpV r n S v m = cpV r n S v (m + 1) := by
  funext x
  unfold cpV
  by_cases h2 : 120 * n ≤ x ∧ x < 120 * n + m ∧ bt S ((x - 120 * n) / 6) = true
  · rw [if_pos h2, if_pos ⟨h2.1, by omega, h2.2.2⟩]
  · rw [if_neg h2, if_neg (fun z => h2 ⟨z.1, ?_, z.2.2⟩)]
    by_cases hx : x = 120 * n + m
    · subst hx
      rw [show 120 * n + m - 120 * n = m by omega, h] at z
      cases z.2.2
    · omega
theorem cpV_no {r : Nat → Int32} {n : Nat} {S : Int32} {v : Nat → Int32} {m c x : Nat} (hm : m < 120) (hc : c ≠ n ∨ m ≤ x) (hx : x < 120) : cpV r n S v m (120 * c + x) = r (120 * c + x) := by
  unfold cpV
  rw [if_neg (fun z => by omega)]
theorem c_copyOther {n c : Nat} (hn : n < 10) (hc : c < 10) (S : Int32) : ∃ M', f_X0_copyOther g (nI n) S (nI c) M = some M' ∧ M'.1 g 10 = cpV (M.1 g 10) n S (fun x => M.1 g 10 (120 * c + x)) 120 ∧ M'.1 g 11 = cpV (M.1 g 11) n S (fun x => M.1 g 11 (120 * c + x)) 120 ∧ (∀ j, j ≠ 10 → j ≠ 11 → M'.1 g j = M.1 g j) ∧ Fr g M M' := by
  unfold f_X0_copyOther
  refine loopE (fun i (σ : Int32 × Mem) => L_X0_copyOther_3 g (nI n) S (nI c) i σ.1 σ.2) (fun m σ => ∃ M', σ = (nI m, M') ∧ M'.1 g 10 = cpV (M.1 g 10) n S (fun x => M.1 g 10 (120 * c + x)) m ∧ M'.1 g 11 = cpV (M.1 g 11) n S (fun x => M.1 g 11 (120 * c + x)) m ∧ (∀ j, j ≠ 10 → j ≠ 11 → M'.1 g j = M.1 g j) ∧ Fr g M M') 120 (fun i m σ hm hσ => ?_) (fun i σ hσ => ?_) FU (by decide) (nI 0, M) ⟨M, rfl, (cpV_0 _ _ _ _).symm, (cpV_0 _ _ _ _).symm, fun _ _ _ => rfl, Fr.rf⟩
  · obtain ⟨M1, rfl, a1, a2, a3, a4⟩ := hσ
    show ∃ s', L_X0_copyOther_3 g (nI n) S (nI c) (i + 1) _ _ = L_X0_copyOther_3 g (nI n) S (nI c) i _ _ ∧ _
    rw [L_X0_copyOther_3]
    unfold B_X0_copyOther_50
    cases hb : bt S (m / 6) with
    | false =>
      refine ⟨(nI (m + 1), M1), ?_, M1, rfl, by rw [a1, cpV_f hb], by rw [a2, cpV_f hb], a3, a4⟩
      simp (disch := omega) only [↓ite_b2r, ↓ite_nb2r, ↓lit_m1, ↓lit_m2, lit_0, lit_1, lit_2, lit_3, lit_4, lit_5, lit_6, lit_7, lit_8, lit_9, lit_10, lit_11, lit_12, lit_13, lit_14, lit_15, lit_16, lit_17, lit_18, lit_19, lit_20, lit_21, lit_22, lit_23, lit_24, lit_25, lit_26, lit_27, lit_28, lit_29, lit_30, lit_31, lit_32, lit_33, lit_34, lit_35, lit_36, lit_40, lit_41, lit_42, lit_44, lit_48, lit_57, lit_59, lit_62, lit_63, lit_64, lit_82, lit_98, lit_99, lit_100, lit_101, lit_102, lit_103, lit_104, lit_105, lit_106, lit_107, lit_108, lit_109, lit_110, lit_111, lit_112, lit_113, lit_119, lit_120, lit_127, lit_128, lit_149, lit_150, lit_202, lit_240, lit_262, lit_894, lit_900, lit_999, lit_1000, lit_2000, lit_2662, lit_2663, lit_2695, lit_2701, lit_2702, lit_3602, lit_10806, nI_add, pk_mul, cl_nI, inb_nI, nI_leI, nI_ltI, nI_eq, nI_eq_m1, m1_eq_nI, nI_eq_m2, div_nI, rem_nI, Option.bind_some, b2_0, b2_1, isb_b2, if_true_, if_false_, ↓reduceIte, reduceCtorEq, not_true_eq_false, not_false_eq_true, bt_hasBit, ult, Nat.add_zero, false_and, true_and, and_true, and_false, Nat.reduceLeDiff, Nat.reduceEqDiff, Nat.reduceLT, Bool.toNat_true, Bool.toNat_false, decide_true, decide_false, Bool.not_true, Bool.not_false, Bool.false_and, Bool.true_and, Bool.and_true, Bool.and_false, Bool.or_false, Bool.true_or, Bool.or_true, Bool.false_or, Nat.not_le.mpr hm, hb]
    | true =>
      refine ⟨(nI (m + 1), wr (wr M1 g 10 (120 * n + m) (M1.1 g 10 (120 * c + m))) g 11 (120 * n + m) ((wr M1 g 10 (120 * n + m) (M1.1 g 10 (120 * c + m))).1 g 11 (120 * c + m))), ?_, _, rfl, ?_, ?_, fun j h1 h2 => ?_, (a4.tr (Fr_wr _ _ _ _ _)).tr (Fr_wr _ _ _ _ _)⟩
      · simp (disch := omega) only [↓ite_b2r, ↓ite_nb2r, ↓lit_m1, ↓lit_m2, lit_0, lit_1, lit_2, lit_3, lit_4, lit_5, lit_6, lit_7, lit_8, lit_9, lit_10, lit_11, lit_12, lit_13, lit_14, lit_15, lit_16, lit_17, lit_18, lit_19, lit_20, lit_21, lit_22, lit_23, lit_24, lit_25, lit_26, lit_27, lit_28, lit_29, lit_30, lit_31, lit_32, lit_33, lit_34, lit_35, lit_36, lit_40, lit_41, lit_42, lit_44, lit_48, lit_57, lit_59, lit_62, lit_63, lit_64, lit_82, lit_98, lit_99, lit_100, lit_101, lit_102, lit_103, lit_104, lit_105, lit_106, lit_107, lit_108, lit_109, lit_110, lit_111, lit_112, lit_113, lit_119, lit_120, lit_127, lit_128, lit_149, lit_150, lit_202, lit_240, lit_262, lit_894, lit_900, lit_999, lit_1000, lit_2000, lit_2662, lit_2663, lit_2695, lit_2701, lit_2702, lit_3602, lit_10806, nI_add, pk_mul, cl_nI, inb_nI, nI_leI, nI_ltI, nI_eq, nI_eq_m1, m1_eq_nI, nI_eq_m2, div_nI, rem_nI, Option.bind_some, b2_0, b2_1, isb_b2, if_true_, if_false_, ↓reduceIte, reduceCtorEq, not_true_eq_false, not_false_eq_true, bt_hasBit, ult, Nat.add_zero, false_and, true_and, and_true, and_false, Nat.reduceLeDiff, Nat.reduceEqDiff, Nat.reduceLT, Bool.toNat_true, Bool.toNat_false, decide_true, decide_false, Bool.not_true, Bool.not_false, Bool.false_and, Bool.true_and, Bool.and_true, Bool.and_false, Bool.or_false, Bool.true_or, Bool.or_true, Bool.false_or, Nat.not_le.mpr hm, hb, c_baseAt, c_ownAt, c_setBase, c_setOwn]
      · rw [wr_other _ _ _ _ _ (by omega), wr_same, a1, cpV_no hm (by omega) hm, cpV_t hb]
      · rw [wr_same, wr_other _ _ _ _ _ (by omega), a2, cpV_no hm (by omega) hm, cpV_t hb]
      · rw [wr_other _ _ _ _ _ (by omega), wr_other _ _ _ _ _ (by omega)]; exact a3 j h1 h2
  · obtain ⟨M1, rfl, a1, a2, a3, a4⟩ := hσ
    show ∃ M', L_X0_copyOther_3 g (nI n) S (nI c) (i + 1) _ _ = _ ∧ _
    refine ⟨M1, ?_, a1, a2, a3, a4⟩
    rw [L_X0_copyOther_3]
    simp (disch := omega) only [↓ite_b2r, ↓ite_nb2r, ↓lit_m1, ↓lit_m2, lit_0, lit_1, lit_2, lit_3, lit_4, lit_5, lit_6, lit_7, lit_8, lit_9, lit_10, lit_11, lit_12, lit_13, lit_14, lit_15, lit_16, lit_17, lit_18, lit_19, lit_20, lit_21, lit_22, lit_23, lit_24, lit_25, lit_26, lit_27, lit_28, lit_29, lit_30, lit_31, lit_32, lit_33, lit_34, lit_35, lit_36, lit_40, lit_41, lit_42, lit_44, lit_48, lit_57, lit_59, lit_62, lit_63, lit_64, lit_82, lit_98, lit_99, lit_100, lit_101, lit_102, lit_103, lit_104, lit_105, lit_106, lit_107, lit_108, lit_109, lit_110, lit_111, lit_112, lit_113, lit_119, lit_120, lit_127, lit_128, lit_149, lit_150, lit_202, lit_240, lit_262, lit_894, lit_900, lit_999, lit_1000, lit_2000, lit_2662, lit_2663, lit_2695, lit_2701, lit_2702, lit_3602, lit_10806, nI_add, pk_mul, cl_nI, inb_nI, nI_leI, nI_ltI, nI_eq, nI_eq_m1, m1_eq_nI, nI_eq_m2, div_nI, rem_nI, Option.bind_some, b2_0, b2_1, isb_b2, if_true_, if_false_, ↓reduceIte, reduceCtorEq, not_true_eq_false, not_false_eq_true, bt_hasBit, ult, Nat.add_zero, false_and, true_and, and_true, and_false, Nat.reduceLeDiff, Nat.reduceEqDiff, Nat.reduceLT, Bool.toNat_true, Bool.toNat_false, decide_true, decide_false, Bool.not_true, Bool.not_false, Bool.false_and, Bool.true_and, Bool.and_true, Bool.and_false, Bool.or_false, Bool.true_or, Bool.or_true, Bool.false_or, Nat.le_refl]
theorem c_copyDocument {n : Nat} (hn : n < 10) (S : Int32) : ∃ M', f_X0_copyDocument g (nI n) S M = some M' ∧ M'.1 g 10 = cpV (M.1 g 10) n S (M.1 g 5) 120 ∧ M'.1 g 11 = cpV (M.1 g 11) n S (M.1 g 5) 120 ∧ (∀ j, j ≠ 10 → j ≠ 11 → M'.1 g j = M.1 g j) ∧ Fr g M M' := by
  unfold f_X0_copyDocument
  refine loopE (fun i (σ : Int32 × Mem) => L_X0_copyDocument_3 g (nI n) S i σ.1 σ.2) (fun m σ => ∃ M', σ = (nI m, M') ∧ M'.1 g 10 = cpV (M.1 g 10) n S (M.1 g 5) m ∧ M'.1 g 11 = cpV (M.1 g 11) n S (M.1 g 5) m ∧ (∀ j, j ≠ 10 → j ≠ 11 → M'.1 g j = M.1 g j) ∧ Fr g M M') 120 (fun i m σ hm hσ => ?_) (fun i σ hσ => ?_) FU (by decide) (nI 0, M) ⟨M, rfl, (cpV_0 _ _ _ _).symm, (cpV_0 _ _ _ _).symm, fun _ _ _ => rfl, Fr.rf⟩
  · obtain ⟨M1, rfl, a1, a2, a3, a4⟩ := hσ
    show ∃ s', L_X0_copyDocument_3 g (nI n) S (i + 1) _ _ = L_X0_copyDocument_3 g (nI n) S i _ _ ∧ _
    rw [L_X0_copyDocument_3]
    unfold B_X0_copyDocument_48
    cases hb : bt S (m / 6) with
    | false =>
      refine ⟨(nI (m + 1), M1), ?_, M1, rfl, by rw [a1, cpV_f hb], by rw [a2, cpV_f hb], a3, a4⟩
      simp (disch := omega) only [↓ite_b2r, ↓ite_nb2r, ↓lit_m1, ↓lit_m2, lit_0, lit_1, lit_2, lit_3, lit_4, lit_5, lit_6, lit_7, lit_8, lit_9, lit_10, lit_11, lit_12, lit_13, lit_14, lit_15, lit_16, lit_17, lit_18, lit_19, lit_20, lit_21, lit_22, lit_23, lit_24, lit_25, lit_26, lit_27, lit_28, lit_29, lit_30, lit_31, lit_32, lit_33, lit_34, lit_35, lit_36, lit_40, lit_41, lit_42, lit_44, lit_48, lit_57, lit_59, lit_62, lit_63, lit_64, lit_82, lit_98, lit_99, lit_100, lit_101, lit_102, lit_103, lit_104, lit_105, lit_106, lit_107, lit_108, lit_109, lit_110, lit_111, lit_112, lit_113, lit_119, lit_120, lit_127, lit_128, lit_149, lit_150, lit_202, lit_240, lit_262, lit_894, lit_900, lit_999, lit_1000, lit_2000, lit_2662, lit_2663, lit_2695, lit_2701, lit_2702, lit_3602, lit_10806, nI_add, pk_mul, cl_nI, inb_nI, nI_leI, nI_ltI, nI_eq, nI_eq_m1, m1_eq_nI, nI_eq_m2, div_nI, rem_nI, Option.bind_some, b2_0, b2_1, isb_b2, if_true_, if_false_, ↓reduceIte, reduceCtorEq, not_true_eq_false, not_false_eq_true, bt_hasBit, ult, Nat.add_zero, false_and, true_and, and_true, and_false, Nat.reduceLeDiff, Nat.reduceEqDiff, Nat.reduceLT, Bool.toNat_true, Bool.toNat_false, decide_true, decide_false, Bool.not_true, Bool.not_false, Bool.false_and, Bool.true_and, Bool.and_true, Bool.and_false, Bool.or_false, Bool.true_or, Bool.or_true, Bool.false_or, Nat.not_le.mpr hm, hb]
    | true =>
      refine ⟨(nI (m + 1), wr (wr M1 g 10 (120 * n + m) (M1.1 g 5 m)) g 11 (120 * n + m) ((wr M1 g 10 (120 * n + m) (M1.1 g 5 m)).1 g 5 m)), ?_, _, rfl, ?_, ?_, fun j h1 h2 => ?_, (a4.tr (Fr_wr _ _ _ _ _)).tr (Fr_wr _ _ _ _ _)⟩
      · simp (disch := omega) only [↓ite_b2r, ↓ite_nb2r, ↓lit_m1, ↓lit_m2, lit_0, lit_1, lit_2, lit_3, lit_4, lit_5, lit_6, lit_7, lit_8, lit_9, lit_10, lit_11, lit_12, lit_13, lit_14, lit_15, lit_16, lit_17, lit_18, lit_19, lit_20, lit_21, lit_22, lit_23, lit_24, lit_25, lit_26, lit_27, lit_28, lit_29, lit_30, lit_31, lit_32, lit_33, lit_34, lit_35, lit_36, lit_40, lit_41, lit_42, lit_44, lit_48, lit_57, lit_59, lit_62, lit_63, lit_64, lit_82, lit_98, lit_99, lit_100, lit_101, lit_102, lit_103, lit_104, lit_105, lit_106, lit_107, lit_108, lit_109, lit_110, lit_111, lit_112, lit_113, lit_119, lit_120, lit_127, lit_128, lit_149, lit_150, lit_202, lit_240, lit_262, lit_894, lit_900, lit_999, lit_1000, lit_2000, lit_2662, lit_2663, lit_2695, lit_2701, lit_2702, lit_3602, lit_10806, nI_add, pk_mul, cl_nI, inb_nI, nI_leI, nI_ltI, nI_eq, nI_eq_m1, m1_eq_nI, nI_eq_m2, div_nI, rem_nI, Option.bind_some, b2_0, b2_1, isb_b2, if_true_, if_false_, ↓reduceIte, reduceCtorEq, not_true_eq_false, not_false_eq_true, bt_hasBit, ult, Nat.add_zero, false_and, true_and, and_true, and_false, Nat.reduceLeDiff, Nat.reduceEqDiff, Nat.reduceLT, Bool.toNat_true, Bool.toNat_false, decide_true, decide_false, Bool.not_true, Bool.not_false, Bool.false_and, Bool.true_and, Bool.and_true, Bool.and_false, Bool.or_false, Bool.true_or, Bool.or_true, Bool.false_or, Nat.not_le.mpr hm, hb, c_valueAt, c_setBase, c_setOwn]
      · rw [wr_other _ _ _ _ _ (by omega), wr_same, a1, a3 5 (by omega) (by omega), cpV_t hb]
      · rw [wr_same, wr_other _ _ _ _ _ (by omega), wr_other _ _ _ _ _ (by omega), a2, a3 5 (by omega) (by omega), cpV_t hb]
      · rw [wr_other _ _ _ _ _ (by omega), wr_other _ _ _ _ _ (by omega)]; exact a3 j h1 h2
  · obtain ⟨M1, rfl, a1, a2, a3, a4⟩ := hσ
    show ∃ M', L_X0_copyDocument_3 g (nI n) S (i + 1) _ _ = _ ∧ _
    refine ⟨M1, ?_, a1, a2, a3, a4⟩
    rw [L_X0_copyDocument_3]
    simp (disch := omega) only [↓ite_b2r, ↓ite_nb2r, ↓lit_m1, ↓lit_m2, lit_0, lit_1, lit_2, lit_3, lit_4, lit_5, lit_6, lit_7, lit_8, lit_9, lit_10, lit_11, lit_12, lit_13, lit_14, lit_15, lit_16, lit_17, lit_18, lit_19, lit_20, lit_21, lit_22, lit_23, lit_24, lit_25, lit_26, lit_27, lit_28, lit_29, lit_30, lit_31, lit_32, lit_33, lit_34, lit_35, lit_36, lit_40, lit_41, lit_42, lit_44, lit_48, lit_57, lit_59, lit_62, lit_63, lit_64, lit_82, lit_98, lit_99, lit_100, lit_101, lit_102, lit_103, lit_104, lit_105, lit_106, lit_107, lit_108, lit_109, lit_110, lit_111, lit_112, lit_113, lit_119, lit_120, lit_127, lit_128, lit_149, lit_150, lit_202, lit_240, lit_262, lit_894, lit_900, lit_999, lit_1000, lit_2000, lit_2662, lit_2663, lit_2695, lit_2701, lit_2702, lit_3602, lit_10806, nI_add, pk_mul, cl_nI, inb_nI, nI_leI, nI_ltI, nI_eq, nI_eq_m1, m1_eq_nI, nI_eq_m2, div_nI, rem_nI, Option.bind_some, b2_0, b2_1, isb_b2, if_true_, if_false_, ↓reduceIte, reduceCtorEq, not_true_eq_false, not_false_eq_true, bt_hasBit, ult, Nat.add_zero, false_and, true_and, and_true, and_false, Nat.reduceLeDiff, Nat.reduceEqDiff, Nat.reduceLT, Bool.toNat_true, Bool.toNat_false, decide_true, decide_false, Bool.not_true, Bool.not_false, Bool.false_and, Bool.true_and, Bool.and_true, Bool.and_false, Bool.or_false, Bool.true_or, Bool.or_true, Bool.false_or, Nat.le_refl]
end LK
