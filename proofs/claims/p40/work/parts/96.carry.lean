/-! ===== orders: the text is carried out ===== -/
section OC
variable {N : Row} {S : List Row} {T : List Nat} {M Mc : Mem}
theorem ox_112 (hN : WFa N) (hr : RD (Mc.1 1) N) {n : Nat} (hn : n ≤ 1000) (hb : cl (N 0) + n < 134217728) (a b c : Int32) : ∃ M2, runX (nI 112) (nI n) a b c Mc = some (nI 1, M2) ∧ RD (M2.1 1) (pasS n N) ∧ Fr 1 Mc M2 := by
  have hx : inR (nI n) 1001 = true := by rw [inR_nI (by omega) (by decide), decide_eq_true (by omega)]
  have hf : f_X1_passFault 1 (nI n) = nI (flt true (inR (nI n) 1001) true) := by
    unfold f_X1_passFault
    rw [show f_X8_isWithin (nI n) 0 1000 = _ from c_within (nI n) 1000 (by decide)]
    exact c_faultOf true _ true
  rw [hx, flt_0] at hf
  obtain ⟨M2, a1, a2, a3⟩ := c_passTicks hN hr (n := n) (by omega) hb mI
  refine ⟨M2, ?_, a2, a3⟩
  unfold runX doX f_X8_orderFault
  simp (disch := omega) only [↓ite_b2r, ↓ite_nb2r, ↓lit_m1, ↓lit_m2, lit_0, lit_1, lit_2, lit_3, lit_4, lit_5, lit_6, lit_7, lit_8, lit_9, lit_10, lit_11, lit_12, lit_13, lit_14, lit_15, lit_16, lit_17, lit_18, lit_19, lit_20, lit_21, lit_22, lit_23, lit_24, lit_25, lit_26, lit_27, lit_28, lit_29, lit_30, lit_31, lit_32, lit_33, lit_34, lit_35, lit_36, lit_40, lit_41, lit_42, lit_44, lit_48, lit_57, lit_59, lit_62, lit_63, lit_64, lit_82, lit_98, lit_99, lit_100, lit_101, lit_102, lit_103, lit_104, lit_105, lit_106, lit_107, lit_108, lit_109, lit_110, lit_111, lit_112, lit_113, lit_119, lit_120, lit_127, lit_128, lit_149, lit_150, lit_202, lit_240, lit_262, lit_894, lit_900, lit_999, lit_1000, lit_2000, lit_2662, lit_2663, lit_2695, lit_2701, lit_2702, lit_3602, lit_10806, nI_add, pk_mul, cl_nI, inb_nI, nI_leI, nI_ltI, nI_eq, nI_eq_m1, m1_eq_nI, nI_eq_m2, div_nI, rem_nI, Option.bind_some, b2_0, b2_1, isb_b2, if_true_, if_false_, ↓reduceIte, reduceCtorEq, not_true_eq_false, not_false_eq_true, bt_hasBit, ult, Nat.add_zero, false_and, true_and, and_true, and_false, Nat.reduceLeDiff, Nat.reduceEqDiff, Nat.reduceLT, Bool.toNat_true, Bool.toNat_false, decide_true, decide_false, Bool.not_true, Bool.not_false, Bool.false_and, Bool.true_and, Bool.and_true, Bool.and_false, Bool.or_false, Bool.true_or, Bool.or_true, Bool.false_or, hf, a1]
theorem req_0 {u s t : Nat} {e : Bool} : (reqS N u s t e).2 0 = N 0 := by
  unfold reqS
  split
  · exact gr_lo (u := u) (s := s) (t := t) (e := e) 0 (by omega) (by omega)
  · exact joinS_lo (u := u) (s := s) (t := t) (e := e) 0 (by omega) (by omega)
theorem req_1 {u s t : Nat} {e : Bool} : (reqS N u s t e).2 1 = N 1 := by
  unfold reqS
  split
  · exact gr_lo (u := u) (s := s) (t := t) (e := e) 1 (by omega) (by omega)
  · exact joinS_lo (u := u) (s := s) (t := t) (e := e) 1 (by omega) (by omega)
theorem req_a {u s t : Nat} {e : Bool} : ¬ (reqS N u s t e).1 < mI := by
  unfold reqS
  by_cases ho : reqOk N u s e = true
  · rw [if_pos ho]
    have h10 : itsN N u s e < 2147483648 := by
      unfold reqOk at ho
      rw [Bool.and_eq_true] at ho
      have := (its_spec (Can_its ho.1)).1
      omega
    intro h
    have h : nI (itsN N u s e) < mI := h
    rw [Int32.lt_iff_toInt_lt] at h
    have h1 : mI.toInt = -1 := by decide
    have h2 : (0 : Int) ≤ (nI (itsN N u s e)).toInt := by
      have h3 : ¬ (nI (itsN N u s e) < nI 0) := by rw [nI_ltI h10 (by omega)]; omega
      rw [Int32.lt_iff_toInt_lt] at h3
      have : (nI 0).toInt = 0 := by decide
      omega
    omega
  · rw [if_neg ho]
    show ¬ mI < mI
    exact Int32.lt_irrefl
theorem ox_113n (hN : WFa N) (hr : RD (Mc.1 1) N) (x y z : Int32) (e : Bool) (h0 : cdReq N x y z e ≠ 0) : runX (nI 113) x y z (b2 e) Mc = some (nI 0, Mc) := by
  have hwc : f_X8_isWithin (b2 e) (nI 0) (nI 1) = b2 (inR (b2 e) 2) := c_within (b2 e) 1 (by decide)
  have hv : inR (b2 e) 2 = true := by cases e <;> decide
  have hf := c_requestFault (M := Mc) (g := 1) hr.1 hr.2.2.1 hr.2.2.2.2.1 hN.1.1 hN.1.2.1 hN.1.2.2.2.1 x y z e
  have hcl := cdReq_lt (N := N) x y z e
  have hne : (nI (cdReq N x y z e) = nI 0) = False := by rw [nI_eq (by omega) (by omega)]; exact eq_false h0
  unfold runX doX f_X8_orderFault B_X8_orderFault_81
  cases e with
  | false =>
    have hf' : f_X1_requestFault 1 x y z (nI 0) Mc = some (nI (cdReq N x y z false)) := hf
    simp (disch := omega) only [↓ite_b2r, ↓ite_nb2r, ↓lit_m1, ↓lit_m2, lit_0, lit_1, lit_2, lit_3, lit_4, lit_5, lit_6, lit_7, lit_8, lit_9, lit_10, lit_11, lit_12, lit_13, lit_14, lit_15, lit_16, lit_17, lit_18, lit_19, lit_20, lit_21, lit_22, lit_23, lit_24, lit_25, lit_26, lit_27, lit_28, lit_29, lit_30, lit_31, lit_32, lit_33, lit_34, lit_35, lit_36, lit_40, lit_41, lit_42, lit_44, lit_48, lit_57, lit_59, lit_62, lit_63, lit_64, lit_82, lit_98, lit_99, lit_100, lit_101, lit_102, lit_103, lit_104, lit_105, lit_106, lit_107, lit_108, lit_109, lit_110, lit_111, lit_112, lit_113, lit_119, lit_120, lit_127, lit_128, lit_149, lit_150, lit_202, lit_240, lit_262, lit_894, lit_900, lit_999, lit_1000, lit_2000, lit_2662, lit_2663, lit_2695, lit_2701, lit_2702, lit_3602, lit_10806, nI_add, pk_mul, cl_nI, inb_nI, nI_leI, nI_ltI, nI_eq, nI_eq_m1, m1_eq_nI, nI_eq_m2, div_nI, rem_nI, Option.bind_some, b2_0, b2_1, isb_b2, if_true_, if_false_, ↓reduceIte, reduceCtorEq, not_true_eq_false, not_false_eq_true, bt_hasBit, ult, Nat.add_zero, false_and, true_and, and_true, and_false, Nat.reduceLeDiff, Nat.reduceEqDiff, Nat.reduceLT, Bool.toNat_true, Bool.toNat_false, decide_true, decide_false, Bool.not_true, Bool.not_false, Bool.false_and, Bool.true_and, Bool.and_true, Bool.and_false, Bool.or_false, Bool.true_or, Bool.or_true, Bool.false_or, hwc, hv, hf', hne]
  | true =>
    have hf' : f_X1_requestFault 1 x y z (nI 1) Mc = some (nI (cdReq N x y z true)) := hf
    simp (disch := omega) only [↓ite_b2r, ↓ite_nb2r, ↓lit_m1, ↓lit_m2, lit_0, lit_1, lit_2, lit_3, lit_4, lit_5, lit_6, lit_7, lit_8, lit_9, lit_10, lit_11, lit_12, lit_13, lit_14, lit_15, lit_16, lit_17, lit_18, lit_19, lit_20, lit_21, lit_22, lit_23, lit_24, lit_25, lit_26, lit_27, lit_28, lit_29, lit_30, lit_31, lit_32, lit_33, lit_34, lit_35, lit_36, lit_40, lit_41, lit_42, lit_44, lit_48, lit_57, lit_59, lit_62, lit_63, lit_64, lit_82, lit_98, lit_99, lit_100, lit_101, lit_102, lit_103, lit_104, lit_105, lit_106, lit_107, lit_108, lit_109, lit_110, lit_111, lit_112, lit_113, lit_119, lit_120, lit_127, lit_128, lit_149, lit_150, lit_202, lit_240, lit_262, lit_894, lit_900, lit_999, lit_1000, lit_2000, lit_2662, lit_2663, lit_2695, lit_2701, lit_2702, lit_3602, lit_10806, nI_add, pk_mul, cl_nI, inb_nI, nI_leI, nI_ltI, nI_eq, nI_eq_m1, m1_eq_nI, nI_eq_m2, div_nI, rem_nI, Option.bind_some, b2_0, b2_1, isb_b2, if_true_, if_false_, ↓reduceIte, reduceCtorEq, not_true_eq_false, not_false_eq_true, bt_hasBit, ult, Nat.add_zero, false_and, true_and, and_true, and_false, Nat.reduceLeDiff, Nat.reduceEqDiff, Nat.reduceLT, Bool.toNat_true, Bool.toNat_false, decide_true, decide_false, Bool.not_true, Bool.not_false, Bool.false_and, Bool.true_and, Bool.and_true, Bool.and_false, Bool.or_false, Bool.true_or, Bool.or_true, Bool.false_or, hwc, hv, hf', hne]
theorem cdReq_z {u s t : Nat} {e : Bool} (hN : WFa N) (hu : u < 6) (hs : s < 20) (ht : t ≤ 1000) (h0 : cdReq N (nI u) (nI s) (nI t) e = 0) : us N s = true ∧ 0 < t ∧ wq N < 8 ∧ ∀ k, k < wq N → wus N k ≠ u := by
  have hv : inR (nI u) 6 = true ∧ isS N (nI s) = true ∧ inT (nI t) = true ∧ pl N (nI u) = mI ∧ wq N ≠ 8 := by
    unfold cdReq at h0
    cases h1 : inR (nI u) 6 && isS N (nI s) with
    | false => rw [h1] at h0; simp at h0
    | true =>
      rw [h1] at h0
      cases h2 : inT (nI t) with
      | false => rw [h2] at h0; simp at h0
      | true =>
        rw [h2] at h0
        rw [Bool.and_eq_true] at h1
        by_cases h3 : pl N (nI u) = mI
        · by_cases h4 : wq N = 8
          · simp [h3, h4] at h0
          · exact ⟨h1.1, h1.2, rfl, h3, h4⟩
        · simp [h3] at h0
  obtain ⟨v1, v2, v3, v4, v5⟩ := hv
  rw [isS_nI hs] at v2
  obtain ⟨t', ht0, ht', e3⟩ := inT_t v3
  have ett : t = t' := by rw [nI_eq (by omega) (by omega)] at e3; exact e3
  subst ett
  have := wq_le hN.1.2.2.2.1
  exact ⟨v2, ht0, by omega, pl_no hN.1.2.2.2.1 hu v4⟩
theorem ox_113 (hN : WFa N) (hr : RD (Mc.1 1) N) {u s t : Nat} (e : Bool) (hu : u < 6) (hs : s < 20) (ht : t ≤ 1000) (h0 : cdReq N (nI u) (nI s) (nI t) e = 0) : ∃ M2, runX (nI 113) (nI u) (nI s) (nI t) (b2 e) Mc = some (nI 1, M2) ∧ RD (M2.1 1) (reqS N u s t e).2 ∧ Fr 1 Mc M2 ∧ WFa (reqS N u s t e).2 := by
  have hwc : f_X8_isWithin (b2 e) (nI 0) (nI 1) = b2 (inR (b2 e) 2) := c_within (b2 e) 1 (by decide)
  have hv : inR (b2 e) 2 = true := by cases e <;> decide
  have hf := c_requestFault (M := Mc) (g := 1) hr.1 hr.2.2.1 hr.2.2.2.2.1 hN.1.1 hN.1.2.1 hN.1.2.2.2.1 (nI u) (nI s) (nI t) e
  obtain ⟨v2, ht0, hw, hnew⟩ := cdReq_z hN hu hs ht h0
  rw [h0] at hf
  obtain ⟨M2, a1, a2, a3⟩ := c_requestNow hN hr e hw hu hs v2 ht ht0 hnew
  refine ⟨M2, ?_, a2, a3, WFa_req hN hw hu hs v2 ht ht0 hnew⟩
  unfold runX doX f_X8_orderFault B_X8_orderFault_81 B_X8_runOrder_147
  cases e with
  | false =>
    have hf' : f_X1_requestFault 1 (nI u) (nI s) (nI t) (nI 0) Mc = some (nI 0) := hf
    have a1' : f_X1_requestNow 1 (nI u) (nI s) (nI t) (nI 0) Mc = some ((reqS N u s t false).1, M2) := a1
    simp (disch := omega) only [↓ite_b2r, ↓ite_nb2r, ↓lit_m1, ↓lit_m2, lit_0, lit_1, lit_2, lit_3, lit_4, lit_5, lit_6, lit_7, lit_8, lit_9, lit_10, lit_11, lit_12, lit_13, lit_14, lit_15, lit_16, lit_17, lit_18, lit_19, lit_20, lit_21, lit_22, lit_23, lit_24, lit_25, lit_26, lit_27, lit_28, lit_29, lit_30, lit_31, lit_32, lit_33, lit_34, lit_35, lit_36, lit_40, lit_41, lit_42, lit_44, lit_48, lit_57, lit_59, lit_62, lit_63, lit_64, lit_82, lit_98, lit_99, lit_100, lit_101, lit_102, lit_103, lit_104, lit_105, lit_106, lit_107, lit_108, lit_109, lit_110, lit_111, lit_112, lit_113, lit_119, lit_120, lit_127, lit_128, lit_149, lit_150, lit_202, lit_240, lit_262, lit_894, lit_900, lit_999, lit_1000, lit_2000, lit_2662, lit_2663, lit_2695, lit_2701, lit_2702, lit_3602, lit_10806, nI_add, pk_mul, cl_nI, inb_nI, nI_leI, nI_ltI, nI_eq, nI_eq_m1, m1_eq_nI, nI_eq_m2, div_nI, rem_nI, Option.bind_some, b2_0, b2_1, isb_b2, if_true_, if_false_, ↓reduceIte, reduceCtorEq, not_true_eq_false, not_false_eq_true, bt_hasBit, ult, Nat.add_zero, false_and, true_and, and_true, and_false, Nat.reduceLeDiff, Nat.reduceEqDiff, Nat.reduceLT, Bool.toNat_true, Bool.toNat_false, decide_true, decide_false, Bool.not_true, Bool.not_false, Bool.false_and, Bool.true_and, Bool.and_true, Bool.and_false, Bool.or_false, Bool.true_or, Bool.or_true, Bool.false_or, hwc, hv, hf', a1']
  | true =>
    have hf' : f_X1_requestFault 1 (nI u) (nI s) (nI t) (nI 1) Mc = some (nI 0) := hf
    have a1' : f_X1_requestNow 1 (nI u) (nI s) (nI t) (nI 1) Mc = some ((reqS N u s t true).1, M2) := a1
    simp (disch := omega) only [↓ite_b2r, ↓ite_nb2r, ↓lit_m1, ↓lit_m2, lit_0, lit_1, lit_2, lit_3, lit_4, lit_5, lit_6, lit_7, lit_8, lit_9, lit_10, lit_11, lit_12, lit_13, lit_14, lit_15, lit_16, lit_17, lit_18, lit_19, lit_20, lit_21, lit_22, lit_23, lit_24, lit_25, lit_26, lit_27, lit_28, lit_29, lit_30, lit_31, lit_32, lit_33, lit_34, lit_35, lit_36, lit_40, lit_41, lit_42, lit_44, lit_48, lit_57, lit_59, lit_62, lit_63, lit_64, lit_82, lit_98, lit_99, lit_100, lit_101, lit_102, lit_103, lit_104, lit_105, lit_106, lit_107, lit_108, lit_109, lit_110, lit_111, lit_112, lit_113, lit_119, lit_120, lit_127, lit_128, lit_149, lit_150, lit_202, lit_240, lit_262, lit_894, lit_900, lit_999, lit_1000, lit_2000, lit_2662, lit_2663, lit_2695, lit_2701, lit_2702, lit_3602, lit_10806, nI_add, pk_mul, cl_nI, inb_nI, nI_leI, nI_ltI, nI_eq, nI_eq_m1, m1_eq_nI, nI_eq_m2, div_nI, rem_nI, Option.bind_some, b2_0, b2_1, isb_b2, if_true_, if_false_, ↓reduceIte, reduceCtorEq, not_true_eq_false, not_false_eq_true, bt_hasBit, ult, Nat.add_zero, false_and, true_and, and_true, and_false, Nat.reduceLeDiff, Nat.reduceEqDiff, Nat.reduceLT, Bool.toNat_true, Bool.toNat_false, decide_true, decide_false, Bool.not_true, Bool.not_false, Bool.false_and, Bool.true_and, Bool.and_true, Bool.and_false, Bool.or_false, Bool.true_or, Bool.or_true, Bool.false_or, hwc, hv, hf', a1']
theorem cdBrk_z {c : Nat} (hc : c < 10) (h0 : cdBrk N (nI c) = 0) : ck N c = true ∧ hd N c = true := by
  obtain ⟨a, -, b⟩ := flt_z h0
  rw [isC_nI hc] at a b
  rw [a, cl_nI (by omega), Bool.true_and] at b
  exact ⟨a, b⟩
theorem ox_98n (hr : RD (Mc.1 1) N) (x a b d : Int32) (h0 : cdBrk N x ≠ 0) : runX (nI 98) x a b d Mc = some (nI 0, Mc) := by
  have hf : f_X1_breakFault 1 x Mc = some (nI (cdBrk N x)) := c_breakFault (M := Mc) (g := 1) hr.2.2.1 x
  have hcl : cdBrk N x < 4 := flt_lt _ _ _
  have hne : (nI (cdBrk N x) = nI 0) = False := by rw [nI_eq (by omega) (by omega)]; exact eq_false h0
  unfold runX doX f_X8_orderFault
  simp (disch := omega) only [↓ite_b2r, ↓ite_nb2r, ↓lit_m1, ↓lit_m2, lit_0, lit_1, lit_2, lit_3, lit_4, lit_5, lit_6, lit_7, lit_8, lit_9, lit_10, lit_11, lit_12, lit_13, lit_14, lit_15, lit_16, lit_17, lit_18, lit_19, lit_20, lit_21, lit_22, lit_23, lit_24, lit_25, lit_26, lit_27, lit_28, lit_29, lit_30, lit_31, lit_32, lit_33, lit_34, lit_35, lit_36, lit_40, lit_41, lit_42, lit_44, lit_48, lit_57, lit_59, lit_62, lit_63, lit_64, lit_82, lit_98, lit_99, lit_100, lit_101, lit_102, lit_103, lit_104, lit_105, lit_106, lit_107, lit_108, lit_109, lit_110, lit_111, lit_112, lit_113, lit_119, lit_120, lit_127, lit_128, lit_149, lit_150, lit_202, lit_240, lit_262, lit_894, lit_900, lit_999, lit_1000, lit_2000, lit_2662, lit_2663, lit_2695, lit_2701, lit_2702, lit_3602, lit_10806, nI_add, pk_mul, cl_nI, inb_nI, nI_leI, nI_ltI, nI_eq, nI_eq_m1, m1_eq_nI, nI_eq_m2, div_nI, rem_nI, Option.bind_some, b2_0, b2_1, isb_b2, if_true_, if_false_, ↓reduceIte, reduceCtorEq, not_true_eq_false, not_false_eq_true, bt_hasBit, ult, Nat.add_zero, false_and, true_and, and_true, and_false, Nat.reduceLeDiff, Nat.reduceEqDiff, Nat.reduceLT, Bool.toNat_true, Bool.toNat_false, decide_true, decide_false, Bool.not_true, Bool.not_false, Bool.false_and, Bool.true_and, Bool.and_true, Bool.and_false, Bool.or_false, Bool.true_or, Bool.or_true, Bool.false_or, hf, hne]
theorem ox_98 (hN : WFa N) (hr : RD (Mc.1 1) N) {c : Nat} (hc : c < 10) (a b d : Int32) (h0 : cdBrk N (nI c) = 0) : ∃ M2, runX (nI 98) (nI c) a b d Mc = some (nI 1, M2) ∧ RD (M2.1 1) (brkS N c) ∧ Fr 1 Mc M2 := by
  have hf : f_X1_breakFault 1 (nI c) Mc = some (nI (cdBrk N (nI c))) := c_breakFault (M := Mc) (g := 1) hr.2.2.1 (nI c)
  rw [h0] at hf
  obtain ⟨M2, a1, a2, a3⟩ := c_breakNow hN hr hc (cdBrk_z hc h0).1
  refine ⟨M2, ?_, a2, a3⟩
  unfold runX doX f_X8_orderFault
  simp (disch := omega) only [↓ite_b2r, ↓ite_nb2r, ↓lit_m1, ↓lit_m2, lit_0, lit_1, lit_2, lit_3, lit_4, lit_5, lit_6, lit_7, lit_8, lit_9, lit_10, lit_11, lit_12, lit_13, lit_14, lit_15, lit_16, lit_17, lit_18, lit_19, lit_20, lit_21, lit_22, lit_23, lit_24, lit_25, lit_26, lit_27, lit_28, lit_29, lit_30, lit_31, lit_32, lit_33, lit_34, lit_35, lit_36, lit_40, lit_41, lit_42, lit_44, lit_48, lit_57, lit_59, lit_62, lit_63, lit_64, lit_82, lit_98, lit_99, lit_100, lit_101, lit_102, lit_103, lit_104, lit_105, lit_106, lit_107, lit_108, lit_109, lit_110, lit_111, lit_112, lit_113, lit_119, lit_120, lit_127, lit_128, lit_149, lit_150, lit_202, lit_240, lit_262, lit_894, lit_900, lit_999, lit_1000, lit_2000, lit_2662, lit_2663, lit_2695, lit_2701, lit_2702, lit_3602, lit_10806, nI_add, pk_mul, cl_nI, inb_nI, nI_leI, nI_ltI, nI_eq, nI_eq_m1, m1_eq_nI, nI_eq_m2, div_nI, rem_nI, Option.bind_some, b2_0, b2_1, isb_b2, if_true_, if_false_, ↓reduceIte, reduceCtorEq, not_true_eq_false, not_false_eq_true, bt_hasBit, ult, Nat.add_zero, false_and, true_and, and_true, and_false, Nat.reduceLeDiff, Nat.reduceEqDiff, Nat.reduceLT, Bool.toNat_true, Bool.toNat_false, decide_true, decide_false, Bool.not_true, Bool.not_false, Bool.false_and, Bool.true_and, Bool.and_true, Bool.and_false, Bool.or_false, Bool.true_or, Bool.or_true, Bool.false_or, hf, a1]
theorem De_cf {Mx : Mem} (h : De N S T M) (hg : ∀ g, g ≠ 1 → g ≠ 6 → Mx.1 g = M.1 g) (h6 : ∀ j, j ≠ 3 → j ≠ 5 → j ≠ 6 → Mx.1 6 j = M.1 6 j) (h31 : Mx.1 6 3 1 = M.1 6 3 1) : De N S T Mx :=
  ⟨by rw [hg 0 (by omega) (by omega)]; exact h.1, SvL_cg h.2.1 (h6 1 (by omega) (by omega) (by omega)) (h6 2 (by omega) (by omega) (by omega)) (fun g _ _ => hg g (by omega) (by omega)), h.2.2.1, by rw [h31]; exact h.2.2.2.1, fun i v hi => by rw [h6 4 (by omega) (by omega) (by omega)]; exact h.2.2.2.2 i v hi⟩
theorem p_okC {R : Row} (hN : WFa N) (h : De N S T M) (hW : WFa R) (hr : RD (M.1 1) R) (h34 : M.1 6 3 4 = nI 3) : ∃ M', okC M = some (nI 3, M') ∧ De R ((N :: S).take 4) T M' := by
  obtain ⟨hr0, ⟨a, b, P, c, d⟩, x⟩ := h
  obtain ⟨M1, p1, p2, p3⟩ := c_push c hN hr0
  have hD : De N ((N :: S).take 4) T M1 := ⟨by rw [p3.1]; exact hr0, SvL_push a b d hN p2, TxD_cg x (p3.2.2.2.2 3 (by omega) (by omega)) (p3.2.2.2.2 4 (by omega) (by omega))⟩
  obtain ⟨M4, v1, v2, v3⟩ := c_copyFrom M1 (g := 0) (g2 := 1) (by omega)
  have r4 : RD (M4.1 0) R := RD_eq v2 hW.1.2.1 hW.1.2.2.2.1 hW.1.2.2.2.2.2 (by rw [p3.2.1]; exact hr)
  refine ⟨M4, ?_, De_fr hD r4 v3⟩
  unfold okC
  rw [p1, Option.bind_some, v1, Option.bind_some, v3.1 6 (by omega), p3.2.2.2.2 3 (by omega) (by omega), h34]
theorem c31_end (n : Nat) {M : Mem} (h3 : M.1 6 3 4 = nI 3) : L_X8_carryOut_31 (n + 1) (nI 3) M = okC M := by
  rw [L_X8_carryOut_31, h3, if_pos (Int32.le_refl _)]
  rfl
theorem c31_no (n : Nat) {i : Nat} (hi : i < 3) {M M' : Mem} (h3 : M.1 6 3 4 = nI 3) (hq : f_X8_runOrder (nI i) M = some (nI 0, M')) : L_X8_carryOut_31 (n + 1) (nI i) M = some (-1000 - nI i, M') := by
  rw [L_X8_carryOut_31, h3, if_neg (show ¬ nI 3 ≤ nI i by rw [nI_leI (by omega) (by omega)]; omega), hq, Option.bind_some, if_pos (show (nI 0, M').1 = 0 from rfl)]
theorem c31_go (n : Nat) {i : Nat} (hi : i < 3) {M M' : Mem} (h3 : M.1 6 3 4 = nI 3) (hq : f_X8_runOrder (nI i) M = some (nI 1, M')) : L_X8_carryOut_31 (n + 1) (nI i) M = L_X8_carryOut_31 n (nI (i + 1)) M' := by
  rw [L_X8_carryOut_31, h3, if_neg (show ¬ nI 3 ≤ nI i by rw [nI_leI (by omega) (by omega)]; omega), hq, Option.bind_some, if_neg (show ¬ (nI 1, M').1 = 0 from (show ¬ nI 1 = 0 by decide)), nI_1]
theorem p_carry {p u s t c : Nat} {e : Bool} (hN : WFa N) (hb : cl (N 0) + 1000 < 134217728) (hp : p ≤ 999) (hu : u < 6) (hs : s < 20) (ht : t ≤ 999) (hc : c < 10) (h : De N S (txt p u s t e.toNat c) M) : ∃ M',
    (cdReq (pasS p N) (nI u) (nI s) (nI t) e ≠ 0 ∧ f_X8_carryOut M = some (-1001, M') ∧ De N S (txt p u s t e.toNat c) M') ∨
    (cdReq (pasS p N) (nI u) (nI s) (nI t) e = 0 ∧ cdBrk (reqS (pasS p N) u s t e).2 (nI c) ≠ 0 ∧ f_X8_carryOut M = some (-1002, M') ∧ De N S (txt p u s t e.toNat c) M') ∨
    (cdReq (pasS p N) (nI u) (nI s) (nI t) e = 0 ∧ cdBrk (reqS (pasS p N) u s t e).2 (nI c) = 0 ∧ f_X8_carryOut M = some (3, M') ∧ De (brkS (reqS (pasS p N) u s t e).2 c) ((N :: S).take 4) (txt p u s t e.toNat c) M') := by
  have he : e.toNat < 1000 := by cases e <;> decide
  obtain ⟨M', L, V, p1, q, l0, l1, l2, v0, v4, v5, v6, v7, v8⟩ := p_parse (by omega) (by omega) (by omega) (by omega) he (by omega) h.2.2
  obtain ⟨q1, q2, q3, q4, q5, q6, q7, q8, q9, q10⟩ := q
  obtain ⟨Ma, m1, m2, m3⟩ := c_copyFrom M' (g := 1) (g2 := 0) (by omega)
  have hra : RD (Ma.1 1) N := RD_eq m2 hN.1.2.1 hN.1.2.2.2.1 hN.1.2.2.2.2.2 (by rw [q9 0 (by omega)]; exact h.1)
  have eC : f_X8_carryOut M = L_X8_carryOut_31 FU (nI 0) Ma := by
    unfold f_X8_carryOut
    rw [p1, Option.bind_some, if_pos (show (mI, M').1 = -1 from rfl), m1, Option.bind_some]
    exact congrArg (fun z => L_X8_carryOut_31 FU z Ma) (show (0 : Int32) = nI 0 from rfl)
  have G6 : ∀ Mx : Mem, Fr 1 Ma Mx → Mx.1 6 = M'.1 6 := fun Mx hF => by rw [hF.1 6 (by omega), m3.1 6 (by omega)]
  have D6 : ∀ Mx : Mem, Fr 1 Ma Mx → De N S (txt p u s t e.toNat c) Mx := fun Mx hF => De_cf h (fun g h1 h6 => by rw [hF.1 g h1, m3.1 g h1, q9 g h6]) (fun j h3 h5 h6 => by rw [G6 Mx hF]; exact q8 j h3 h5 h6) (by rw [G6 Mx hF]; exact q7)
  have R6 : ∀ (Mx : Mem) (i : Nat), i < 3 → Fr 1 Ma Mx → f_X8_runOrder (nI i) Mx = runX (L i) (V (4 * i)) (V (4 * i + 1)) (V (4 * i + 2)) (V (4 * i + 3)) Mx := fun Mx i hi hF => runs_eq (by omega) (x := L i) (V := fun w => V (4 * i + w)) (by rw [G6 Mx hF, q5]) (fun w _ => by rw [G6 Mx hF, q6])
  have O6 : ∀ Mx : Mem, Fr 1 Ma Mx → Mx.1 6 3 4 = nI 3 := fun Mx hF => by rw [G6 Mx hF]; exact q1
  obtain ⟨w1, w2, w3⟩ := WFa_pas hN p (by omega)
  obtain ⟨Mb, b1, b2', b3⟩ := ox_112 hN hra (n := p) (by omega) (by omega) (V 1) (V 2) (V 3)
  have s1 : L_X8_carryOut_31 FU (nI 0) Ma = L_X8_carryOut_31 (FU - 1) (nI 1) Mb := c31_go (FU - 1) (by omega) (O6 Ma Fr.rf) (by
    rw [R6 Ma 0 (by omega) Fr.rf, l0, show V (4 * 0) = nI p from v0]
    exact b1)
  have hVe : V (4 * 1 + 3) = b2 e := v7
  have r1 : f_X8_runOrder (nI 1) Mb = runX (nI 113) (nI u) (nI s) (nI t) (b2 e) Mb := by
    rw [R6 Mb 1 (by omega) b3, l1, hVe, show V (4 * 1) = nI u from v4, show V (4 * 1 + 1) = nI s from v5, show V (4 * 1 + 2) = nI t from v6]
  by_cases h0 : cdReq (pasS p N) (nI u) (nI s) (nI t) e = 0
  · obtain ⟨Mc2, c1, c2, c3, c4⟩ := ox_113 w1 b2' e hu hs (by omega) h0
    have f3 : Fr 1 Ma Mc2 := b3.tr c3
    have s2 : L_X8_carryOut_31 (FU - 1) (nI 1) Mb = L_X8_carryOut_31 (FU - 2) (nI 2) Mc2 := c31_go (FU - 2) (by omega) (O6 Mb b3) (r1.trans c1)
    have r2 : f_X8_runOrder (nI 2) Mc2 = runX (nI 98) (nI c) (V (4 * 2 + 1)) (V (4 * 2 + 2)) (V (4 * 2 + 3)) Mc2 := by
      rw [R6 Mc2 2 (by omega) f3, l2, show V (4 * 2) = nI c from v8]
    by_cases h1 : cdBrk (reqS (pasS p N) u s t e).2 (nI c) = 0
    · obtain ⟨Md, d1, d2, d3⟩ := ox_98 c4 c2 hc (V (4 * 2 + 1)) (V (4 * 2 + 2)) (V (4 * 2 + 3)) h1
      have f4 : Fr 1 Ma Md := f3.tr d3
      have s3 : L_X8_carryOut_31 (FU - 2) (nI 2) Mc2 = L_X8_carryOut_31 (FU - 3) (nI 3) Md := c31_go (FU - 3) (by omega) (O6 Mc2 f3) (r2.trans d1)
      have hW : WFa (brkS (reqS (pasS p N) u s t e).2 c) := WFa_srv (WFa_lose c4 hc)
      obtain ⟨Me, k1, k2⟩ := p_okC hN (D6 Md f4) hW d2 (O6 Md f4)
      exact ⟨Me, Or.inr (Or.inr ⟨h0, h1, (eC.trans (s1.trans (s2.trans (s3.trans (c31_end (FU - 4) (O6 Md f4)))))).trans k1, k2⟩)⟩
    · exact ⟨Mc2, Or.inr (Or.inl ⟨h0, h1, eC.trans (s1.trans (s2.trans (c31_no (FU - 3) (by omega) (O6 Mc2 f3) (r2.trans (ox_98n c2 _ _ _ _ h1))))), D6 Mc2 f3⟩)⟩
  · exact ⟨Mb, Or.inl ⟨h0, eC.trans (s1.trans (c31_no (FU - 2) (by omega) (O6 Mb b3) (r1.trans (ox_113n w1 b2' _ _ _ e h0)))), D6 Mb b3⟩⟩
end OC
