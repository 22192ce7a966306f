/-! ===== further questions; the letters; what-if; undo ===== -/
def aWas (N : Row) (x y z : Int32) : Int32 := if isL N x y = true then (if inR z (cl (N 0) + 1) = true then wasK N z (6 * cl x + cl y) (N (82 + 6 * cl x + cl y)) 0 (hn N) else -51) else -53
def aIfB (N : Row) (x : Int32) : Int32 := if isC N x = true then (if hel N (cl x) = true then nI (srvS (loseS N (cl x))).1 else nI 0) else -53
def aGra (N : Row) (x : Int32) : Int32 := if inR x 6 = true then (if pl N x = mI then -52 else (if pl (wF x 2000 N) x = mI then wF x 2000 N 0 else mI)) else -53
def aFor (N : Row) (x : Int32) : Int32 := if inR x 6 = true then (if pl N x = mI then -52 else orS (Bar N (cl x) (wse N (cl (pl N x))) (wsh N (cl (pl N x)))) (usr N) 10 ||| orS (fun j => Blk N j (wse N (cl (pl N x))) (wsh N (cl (pl N x)))) (wus N) (cl (pl N x))) else -53
def aUse (N : Row) (x : Int32) : Int32 := if inR x 6 = true then (if cl (N 0) = 0 then nI 0 else f_Jxf58ca_floatToIntBits_5c35a (FP.fdiv (FP.i2f (nI (cl (N (2695 + cl x))))) (FP.i2f (nI (cl (N 0)))))) else -53
section AK2
variable {N : Row} {S : List Row} {T : List Nat} {M : Mem}
theorem e_blame (hN : WFa N) (h : De N S T M) (x y : Int32) : f_L_blame x y M = some (aBla N x y, M) := by
  have hr := h.1
  unfold aBla
  cases hL : isL N x y with
  | false =>
    unfold f_L_blame f_X8_blame
    rw [c_hasLine hr.1 hN.1.1, hL, Option.bind_some, fo1, fk_flt]
    rfl
  | true =>
    have hL2 := hL
    unfold isL at hL2
    rw [Bool.and_eq_true] at hL2
    obtain ⟨s, hs, rfl, hu⟩ := isS_t hL2.1
    obtain ⟨l, hl, rfl⟩ := inR_t (by decide) hL2.2
    rw [if_pos rfl, cl_nI (by omega), cl_nI (by omega)]
    unfold f_L_blame f_X8_blame
    rw [c_hasLine hr.1 hN.1.1, hL, Option.bind_some, fo1, fk_flt, flt_0, if_pos rfl, c_latestUserOf hN.1.2.2.2.2.2 hr.2.2.2.2.2.1]
    rfl
theorem e_lineAt (hN : WFa N) (h : De N S T M) (x y z : Int32) : ∃ M', f_L_lineAt x y z M = some (aWas N x y z, M') ∧ De N S T M' := by
  have hr := h.1
  obtain ⟨t1, t2⟩ := N0_within hN
  have e6 : M.1 0 0 6 = nI (cl (N 0)) := hr.2.2.2.2.2.2.1.trans t1
  have hw : f_X8_isWithin z 0 (nI (cl (N 0))) = b2 (inR z (cl (N 0) + 1)) := c_within z _ (by omega)
  unfold aWas
  cases hL : isL N x y with
  | false =>
    refine ⟨M, ?_, h⟩
    unfold f_L_lineAt f_X8_lineAt
    rw [c_hasLine hr.1 hN.1.1, hL, Option.bind_some, e6, hw, fo2, fk_flt]
    rfl
  | true =>
    cases hz : inR z (cl (N 0) + 1) with
    | false =>
      refine ⟨M, ?_, h⟩
      unfold f_L_lineAt f_X8_lineAt
      rw [c_hasLine hr.1 hN.1.1, hL, Option.bind_some, e6, hw, fo2, fk_flt, hz]
      rfl
    | true =>
      have hL2 := hL
      unfold isL at hL2
      rw [Bool.and_eq_true] at hL2
      obtain ⟨s, hs, rfl, hu⟩ := isS_t hL2.1
      obtain ⟨l, hl, rfl⟩ := inR_t (by decide) hL2.2
      rw [if_pos rfl, if_pos rfl, cl_nI (by omega), cl_nI (by omega)]
      generalize hM0 : wrs M 0 17 (fun k => if k < 120 then M.1 0 5 k else M.1 0 17 k) = M0
      have w0 : ∀ j, j ≠ 17 → M0.1 0 j = M.1 0 j := fun j hj => by rw [← hM0, wrs_other _ _ _ _ (by omega)]
      have w17 : ∀ k, k < 120 → M0.1 0 17 k = M.1 0 5 k := fun k hk => by rw [← hM0, wrs_same, if_pos hk]
      have wg : ∀ g, g ≠ 0 → M0.1 g = M.1 g := fun g hg => by rw [← hM0, wrs_ng _ _ _ (by omega)]
      obtain ⟨M2, b1, b2', b3, b4⟩ := c_turnBack (M := M0) (g := 0) (T := z) hN.1.2.2.2.2.2 (RDh_D (w0 14 (by omega)) (w0 15 (by omega)) hr.2.2.2.2.2.1)
      have hval : M2.1 0 17 (6 * s + l) = wasK N z (6 * s + l) (N (82 + 6 * s + l)) 0 (hn N) := by
        rw [b2' _ (by omega), w17 _ (by omega), hr.1.2.2.2.1 s l hs hl hu]
      have e119 : f_X8_isCell (nI (6 * s + l)) = b2 true := (c_within (nI (6 * s + l)) 119 (by decide)).trans (by rw [inR_nI (by omega) (by omega), decide_eq_true (by omega)])
      refine ⟨M2, ?_, De_sc h (fun j hj => (b3 j hj).trans (w0 j hj)) (fun g h1 _ => (b4.1 g (by omega)).trans (wg g (by omega))) (fun j _ => by rw [b4.1 6 (by omega), wg 6 (by omega)])⟩
      unfold f_L_lineAt f_X8_lineAt f_X1_valueAtEndOf f_X8_cellOf
      rw [c_hasLine hr.1 hN.1.1, hL, Option.bind_some, e6, hw, fo2, fk_flt, hz, flt_0, if_pos rfl, c_wantPresent, hM0, Option.bind_some, b1, Option.bind_some, show nI s * 6 + nI l = nI (6 * s + l) from by rw [show (6 : Int32) = nI 6 from rfl, pk_mul, nI_add, Nat.mul_comm], e119]
      simp (disch := omega) only [↓ite_b2r, ↓ite_nb2r, ↓lit_m1, ↓lit_m2, lit_0, lit_1, lit_2, lit_3, lit_4, lit_5, lit_6, lit_7, lit_8, lit_9, lit_10, lit_11, lit_12, lit_13, lit_14, lit_15, lit_16, lit_17, lit_18, lit_19, lit_20, lit_21, lit_22, lit_23, lit_24, lit_25, lit_26, lit_27, lit_28, lit_29, lit_30, lit_31, lit_32, lit_33, lit_34, lit_35, lit_36, lit_40, lit_41, lit_42, lit_44, lit_48, lit_57, lit_59, lit_62, lit_63, lit_64, lit_82, lit_98, lit_99, lit_100, lit_101, lit_102, lit_103, lit_104, lit_105, lit_106, lit_107, lit_108, lit_109, lit_110, lit_111, lit_112, lit_113, lit_119, lit_120, lit_127, lit_128, lit_149, lit_150, lit_202, lit_240, lit_262, lit_894, lit_900, lit_999, lit_1000, lit_2000, lit_2662, lit_2663, lit_2695, lit_2701, lit_2702, lit_3602, lit_10806, nI_add, pk_mul, cl_nI, inb_nI, nI_leI, nI_ltI, nI_eq, nI_eq_m1, m1_eq_nI, nI_eq_m2, div_nI, rem_nI, Option.bind_some, b2_0, b2_1, isb_b2, if_true_, if_false_, ↓reduceIte, reduceCtorEq, not_true_eq_false, not_false_eq_true, bt_hasBit, ult, Nat.add_zero, false_and, true_and, and_true, and_false, Nat.reduceLeDiff, Nat.reduceEqDiff, Nat.reduceLT, Bool.toNat_true, Bool.toNat_false, decide_true, decide_false, Bool.not_true, Bool.not_false, Bool.false_and, Bool.true_and, Bool.and_true, Bool.and_false, Bool.or_false, Bool.true_or, Bool.or_true, Bool.false_or, hval]
theorem e_ifBroken (hN : WFa N) (h : De N S T M) (x : Int32) : ∃ M', f_L_ifBroken x M = some (aIfB N x, M') ∧ De N S T M' := by
  have hr := h.1
  have hf := c_checkOutFault (M := M) (g := 0) hr.2.2.1 x
  unfold aIfB
  cases hC : isC N x with
  | false =>
    refine ⟨M, ?_, h⟩
    unfold f_L_ifBroken f_X8_ifBroken
    rw [hf, hC, fk_flt]
    rfl
  | true =>
    obtain ⟨c, hc, rfl, hk⟩ := isC_t hC
    rw [if_pos rfl, cl_nI (by omega)]
    cases hH : hel N c with
    | false =>
      refine ⟨M, ?_, h⟩
      unfold f_L_ifBroken f_X8_ifBroken
      rw [hf, hC, fk_flt, flt_0, if_pos rfl, c_isHeldN hr.2.2.1 hc, hH]
      rfl
    | true =>
      obtain ⟨M2, a1, a2, a3⟩ := c_copyFrom M (g := 1) (g2 := 0) (by omega)
      have r2 : RD (M2.1 1) N := RD_eq a2 hN.1.2.1 hN.1.2.2.2.1 hN.1.2.2.2.2.2 hr
      obtain ⟨M3, b1, b2', b3⟩ := c_lose hN.1 r2 hc hk
      obtain ⟨M4, d1, d2, d3⟩ := c_serve (WFa_lose hN hc) b2'
      have hF : Fr 1 M M4 := (a3.tr b3).tr d3
      refine ⟨M4, ?_, De_sc h (fun j _ => by rw [hF.1 0 (by omega)]) (fun g h1 h2 => hF.1 g (by omega)) (fun j _ => by rw [hF.1 6 (by omega)])⟩
      unfold f_L_ifBroken f_X8_ifBroken
      rw [hf, hC, fk_flt, flt_0, if_pos rfl, c_isHeldN hr.2.2.1 hc, hH, Option.bind_some, if_neg (show ¬ b2 true = 0 by decide), a1, Option.bind_some, b1, Option.bind_some, d1]
      rfl
theorem e_grantedAt (hN : WFa N) (hb : cl (N 0) + 2000 < 134217728) (h : De N S T M) (x : Int32) : ∃ M', f_L_grantedAt x M = some (aGra N x, M') ∧ De N S T M' := by
  have hr := h.1
  have hq := hN.1.2.2.2.1
  have hf := c_waitingFault (M := M) (g := 0) hr.2.2.2.2.1 hq x
  unfold aGra
  cases hU : inR x 6 with
  | false =>
    refine ⟨M, ?_, h⟩
    unfold f_L_grantedAt f_X8_grantedAt
    rw [hf, hU, Option.bind_some, fk_flt]
    rfl
  | true =>
    by_cases hp : pl N x = mI
    · refine ⟨M, ?_, h⟩
      rw [if_pos rfl, if_pos hp]
      unfold f_L_grantedAt f_X8_grantedAt
      rw [hf, hU, hp, decide_eq_true rfl, Option.bind_some, fk_flt]
      rfl
    · obtain ⟨u, hu, rfl⟩ := inR_t (by decide) hU
      obtain ⟨M2, a1, a2, a3⟩ := c_copyFrom M (g := 1) (g2 := 0) (by omega)
      have r2 : RD (M2.1 1) N := RD_eq a2 hN.1.2.1 hN.1.2.2.2.1 hN.1.2.2.2.2.2 hr
      obtain ⟨M3, b1, b2', b3⟩ := c_passTicks (M := M2) (g := 1) (n := 2000) hN r2 (by omega) hb (nI u)
      have hW := WFa_wF (x := nI u) 2000 N hN hb
      have hF : Fr 1 M M3 := a3.tr b3
      have hplc := c_placeOf b2'.2.2.2.2.1 hW.1.2.2.2.1 (nI u)
      have e6 : M3.1 1 0 6 = wF (nI u) 2000 N 0 := b2'.2.2.2.2.2.2.1
      refine ⟨M3, ?_, De_sc h (fun j _ => by rw [hF.1 0 (by omega)]) (fun g h1 h2 => hF.1 g (by omega)) (fun j _ => by rw [hF.1 6 (by omega)])⟩
      rw [if_pos rfl, if_neg hp]
      unfold f_L_grantedAt f_X8_grantedAt
      rw [hf, hU, decide_eq_false hp, Option.bind_some, fk_flt, Bool.not_false, flt_0, if_pos rfl, a1, Option.bind_some, show f_X1_passTicks 1 2000 (nI u) M2 = _ from b1, Option.bind_some, hplc, Option.bind_some]
      by_cases hp2 : pl (wF (nI u) 2000 N) (nI u) = mI
      · rw [if_pos hp2, if_pos (show pl (wF (nI u) 2000 N) (nI u) = -1 from hp2), e6]
        rfl
      · rw [if_neg hp2, if_neg (show ¬ pl (wF (nI u) 2000 N) (nI u) = -1 from hp2)]
        rfl
theorem e_waitsFor (hN : WFa N) (h : De N S T M) (x : Int32) : f_L_waitsFor x M = some (aFor N x, M) := by
  have hr := h.1
  have hq := hN.1.2.2.2.1
  have hf := c_waitingFault (M := M) (g := 0) hr.2.2.2.2.1 hq x
  have hq8 := wq_le hq
  unfold aFor
  cases hU : inR x 6 with
  | false =>
    unfold f_L_waitsFor f_X8_waitsFor
    rw [hf, hU, Option.bind_some, fk_flt]
    rfl
  | true =>
    by_cases hp : pl N x = mI
    · rw [if_pos rfl, if_pos hp]
      unfold f_L_waitsFor f_X8_waitsFor
      rw [hf, hU, hp, decide_eq_true rfl, Option.bind_some, fk_flt]
      rfl
    · obtain ⟨q, hq1, hq2, hq3⟩ := pl_k hq hp
      obtain ⟨u, hu, rfl⟩ := inR_t (by decide) hU
      obtain ⟨w1, w2⟩ := wus_eq hq hq1
      have euq : wus N q = u := by
        rw [w1, nI_eq (by omega) (by omega)] at hq3
        exact hq3
      rw [if_pos rfl, if_neg hp, hq2, cl_nI (by omega), cl_nI (by omega)]
      unfold f_L_waitsFor f_X8_waitsFor f_X1_usersBefore
      rw [hf, hU, decide_eq_false hp, Option.bind_some, fk_flt, Bool.not_false, flt_0, if_pos rfl, c_placeOf hr.2.2.2.2.1 hq, hq2, Option.bind_some, c_absorbedBy hN.1 hr hq1, Option.bind_some, c_hinderersOf hN.1 hr hq1, Option.bind_some, c_blockersOf hN.1 hr hq1, euq]
      rfl
theorem e_useBits (hN : WFa N) (hb : cl (N 0) < 134217728) (h : De N S T M) (x : Int32) : f_L_useBits x M = some (aUse N x, M) := by
  have hr := h.1
  unfold aUse
  cases hU : inR x 6 with
  | false =>
    unfold f_L_useBits f_X8_useBits
    rw [c_isUser, hU, fo1, fk_flt]
    rfl
  | true =>
    obtain ⟨u, hu, rfl⟩ := inR_t (by decide) hU
    obtain ⟨t1, t2⟩ := hr.2.2.2.2.2.2
    have t3 := t2 u hu
    obtain ⟨v1, v2⟩ := hN.1.2.1.1
    obtain ⟨w1, w2⟩ := hN.1.2.2.2.2.1 u hu
    rw [if_pos rfl, cl_nI (n := u) (by omega)]
    generalize hTT : cl (N 0) = Q at v1 v2 w2 hb
    generalize hHH : cl (N (2695 + u)) = H at w1 w2
    by_cases hT0 : Q = 0
    · subst hT0
      rw [if_pos rfl]
      unfold f_L_useBits f_X8_useBits
      rw [c_isUser, hU, fo1, fk_flt, flt_0, if_pos rfl, t1, v1, if_pos (show nI 0 = 0 from rfl)]
      rfl
    · rw [if_neg hT0]
      obtain ⟨g1, g2⟩ := bits_of (a := H) (b := Q) (by omega) (by omega) (by omega)
      unfold f_L_useBits f_X8_useBits f_X1_heldTicksOf
      rw [c_isUser, hU, fo1, fk_flt, flt_0, if_pos rfl, t1, v1, if_neg (show ¬ nI Q = 0 by rw [show (0 : Int32) = nI 0 from rfl, nI_eq (by omega) (by omega)]; exact hT0), if_neg (show ¬ b2 true = 0 by decide), if_pos (show inb (nI u) 6 = true by rw [inb_nI hu (by omega)]; trivial), cl_nI (by omega), t3, w1, Option.bind_some, if_pos g1, g2]
      rfl
theorem e_undo {R : Row} (h : De N (R :: S) T M) : ∃ M', f_L_undo M = some (nI S.length, M') ∧ De R S T M' := by
  obtain ⟨M2, p1, p2, p3⟩ := De_pop h
  have hl := h.2.1.1
  obtain ⟨-, -, P, c, -⟩ := h.2.1
  have c1 : M.1 6 1 1 = nI (S.length + 1) := c.2.1
  have e111 : f_X8_faultOf (nI 1) (nI 1) (nI 1) = nI (flt true true true) := c_faultOf true true true
  refine ⟨M2, ?_, p2⟩
  rw [List.length_cons] at hl
  unfold f_L_undo f_X8_undo B_X8_undo_17
  simp (disch := omega) only [↓ite_b2r, ↓ite_nb2r, ↓lit_m1, ↓lit_m2, lit_0, lit_1, lit_2, lit_3, lit_4, lit_5, lit_6, lit_7, lit_8, lit_9, lit_10, lit_11, lit_12, lit_13, lit_14, lit_15, lit_16, lit_17, lit_18, lit_19, lit_20, lit_21, lit_22, lit_23, lit_24, lit_25, lit_26, lit_27, lit_28, lit_29, lit_30, lit_31, lit_32, lit_33, lit_34, lit_35, lit_36, lit_40, lit_41, lit_42, lit_44, lit_48, lit_57, lit_59, lit_62, lit_63, lit_64, lit_82, lit_98, lit_99, lit_100, lit_101, lit_102, lit_103, lit_104, lit_105, lit_106, lit_107, lit_108, lit_109, lit_110, lit_111, lit_112, lit_113, lit_119, lit_120, lit_127, lit_128, lit_149, lit_150, lit_202, lit_240, lit_262, lit_894, lit_900, lit_999, lit_1000, lit_2000, lit_2662, lit_2663, lit_2695, lit_2701, lit_2702, lit_3602, lit_10806, nI_add, pk_mul, cl_nI, inb_nI, nI_leI, nI_ltI, nI_eq, nI_eq_m1, m1_eq_nI, nI_eq_m2, div_nI, rem_nI, Option.bind_some, b2_0, b2_1, isb_b2, if_true_, if_false_, ↓reduceIte, reduceCtorEq, not_true_eq_false, not_false_eq_true, bt_hasBit, ult, Nat.add_zero, false_and, true_and, and_true, and_false, Nat.reduceLeDiff, Nat.reduceEqDiff, Nat.reduceLT, Bool.toNat_true, Bool.toNat_false, decide_true, decide_false, Bool.not_true, Bool.not_false, Bool.false_and, Bool.true_and, Bool.and_true, Bool.and_false, Bool.or_false, Bool.true_or, Bool.or_true, Bool.false_or, flt_1, flt_2, flt_3, flt_0, fk_flt, fkl_0, fkl_1, fkl_2, fkl_3, n10, n20, n30, n12, n13, n21, n23, n31, n32, refu_0, refu_1, refu_2, refu_3, c1, show ¬ S.length + 1 ≤ 0 by omega, e111, p1, p3]
theorem e_undo0 (h : De N [] T M) : f_L_undo M = some (-52, M) := by
  obtain ⟨-, -, P, c, -⟩ := h.2.1
  have c1 : M.1 6 1 1 = nI 0 := c.2.1
  have e110 : f_X8_faultOf (nI 1) (nI 1) (nI 0) = nI (flt true true false) := c_faultOf true true false
  unfold f_L_undo f_X8_undo B_X8_undo_17
  simp (disch := omega) only [↓ite_b2r, ↓ite_nb2r, ↓lit_m1, ↓lit_m2, lit_0, lit_1, lit_2, lit_3, lit_4, lit_5, lit_6, lit_7, lit_8, lit_9, lit_10, lit_11, lit_12, lit_13, lit_14, lit_15, lit_16, lit_17, lit_18, lit_19, lit_20, lit_21, lit_22, lit_23, lit_24, lit_25, lit_26, lit_27, lit_28, lit_29, lit_30, lit_31, lit_32, lit_33, lit_34, lit_35, lit_36, lit_40, lit_41, lit_42, lit_44, lit_48, lit_57, lit_59, lit_62, lit_63, lit_64, lit_82, lit_98, lit_99, lit_100, lit_101, lit_102, lit_103, lit_104, lit_105, lit_106, lit_107, lit_108, lit_109, lit_110, lit_111, lit_112, lit_113, lit_119, lit_120, lit_127, lit_128, lit_149, lit_150, lit_202, lit_240, lit_262, lit_894, lit_900, lit_999, lit_1000, lit_2000, lit_2662, lit_2663, lit_2695, lit_2701, lit_2702, lit_3602, lit_10806, nI_add, pk_mul, cl_nI, inb_nI, nI_leI, nI_ltI, nI_eq, nI_eq_m1, m1_eq_nI, nI_eq_m2, div_nI, rem_nI, Option.bind_some, b2_0, b2_1, isb_b2, if_true_, if_false_, ↓reduceIte, reduceCtorEq, not_true_eq_false, not_false_eq_true, bt_hasBit, ult, Nat.add_zero, false_and, true_and, and_true, and_false, Nat.reduceLeDiff, Nat.reduceEqDiff, Nat.reduceLT, Bool.toNat_true, Bool.toNat_false, decide_true, decide_false, Bool.not_true, Bool.not_false, Bool.false_and, Bool.true_and, Bool.and_true, Bool.and_false, Bool.or_false, Bool.true_or, Bool.or_true, Bool.false_or, flt_1, flt_2, flt_3, flt_0, fk_flt, fkl_0, fkl_1, fkl_2, fkl_3, n10, n20, n30, n12, n13, n21, n23, n31, n32, refu_0, refu_1, refu_2, refu_3, c1, Nat.le_refl, e110]
theorem e_clearText (h : De N S T M) : ∃ M', f_X8_clearText M = some (nI T.length, M') ∧ De N S [] M' := by
  refine ⟨wr M 6 3 1 0, ?_, ?_, ?_, ?_⟩
  · show some (M.1 6 3 1, _) = _
    rw [h.2.2.2.1]
  · rw [wr_ng _ _ _ _ (by omega)]; exact h.1
  · exact SvL_cg h.2.1 (wr_other _ _ _ _ _ (by omega)) (wr_other _ _ _ _ _ (by omega)) (fun g _ _ => wr_ng _ _ _ _ (by omega))
  · refine ⟨by decide, ?_, fun i v hv => ?_⟩
    · rw [wr_same, upd_same]; rfl
    · rw [List.getElem?_nil] at hv; cases hv
theorem e_append {v : Nat} (hv : v < 128) (hl : T.length < 120) (h : De N S T M) : ∃ M', f_L_append (nI v) M = some (nI (T.length + 1), M') ∧ De N S (T ++ [v]) M' := by
  obtain ⟨h1, h2, h3⟩ := h
  obtain ⟨l1, l2, l3⟩ := h3
  have ec : ∀ x, f_X8_isWithin x (nI 0) (nI 127) = b2 (inR x 128) := fun x => c_within x 127 (by decide)
  have e111 : ∀ (a : Bool), f_X8_faultOf (nI 1) (b2 a) (nI 1) = nI (flt true a true) := fun a => c_faultOf true a true
  have e119 : ∀ x, f_X8_isWithin x (nI 0) (nI 119) = b2 (inR x 120) := fun x => c_within x 119 (by decide)
  have hin : inR (nI T.length) 120 = true := by rw [inR_nI (by omega) (by omega), decide_eq_true (by omega)]
  have hx : inR (nI v) 128 = true := by rw [inR_nI (by omega) (by omega), decide_eq_true (by omega)]
  have w1 : (wr M 6 4 T.length (nI v)).1 6 3 1 = nI T.length := by rw [wr_other _ _ _ _ _ (by omega)]; exact l2
  generalize hM2 : wr (wr M 6 4 T.length (nI v)) 6 3 1 (nI (T.length + 1)) = M2
  have k6 : M2.1 6 3 1 = nI (T.length + 1) := by rw [← hM2, wr_same, upd_same]
  refine ⟨M2, ?_, ?_, ?_, ?_⟩
  · unfold f_L_append f_X8_append B_X8_append_25 f_X3_put B_X3_put_33
    simp (disch := omega) only [↓ite_b2r, ↓ite_nb2r, ↓lit_m1, ↓lit_m2, lit_0, lit_1, lit_2, lit_3, lit_4, lit_5, lit_6, lit_7, lit_8, lit_9, lit_10, lit_11, lit_12, lit_13, lit_14, lit_15, lit_16, lit_17, lit_18, lit_19, lit_20, lit_21, lit_22, lit_23, lit_24, lit_25, lit_26, lit_27, lit_28, lit_29, lit_30, lit_31, lit_32, lit_33, lit_34, lit_35, lit_36, lit_40, lit_41, lit_42, lit_44, lit_48, lit_57, lit_59, lit_62, lit_63, lit_64, lit_82, lit_98, lit_99, lit_100, lit_101, lit_102, lit_103, lit_104, lit_105, lit_106, lit_107, lit_108, lit_109, lit_110, lit_111, lit_112, lit_113, lit_119, lit_120, lit_127, lit_128, lit_149, lit_150, lit_202, lit_240, lit_262, lit_894, lit_900, lit_999, lit_1000, lit_2000, lit_2662, lit_2663, lit_2695, lit_2701, lit_2702, lit_3602, lit_10806, nI_add, pk_mul, cl_nI, inb_nI, nI_leI, nI_ltI, nI_eq, nI_eq_m1, m1_eq_nI, nI_eq_m2, div_nI, rem_nI, Option.bind_some, b2_0, b2_1, isb_b2, if_true_, if_false_, ↓reduceIte, reduceCtorEq, not_true_eq_false, not_false_eq_true, bt_hasBit, ult, Nat.add_zero, false_and, true_and, and_true, and_false, Nat.reduceLeDiff, Nat.reduceEqDiff, Nat.reduceLT, Bool.toNat_true, Bool.toNat_false, decide_true, decide_false, Bool.not_true, Bool.not_false, Bool.false_and, Bool.true_and, Bool.and_true, Bool.and_false, Bool.or_false, Bool.true_or, Bool.or_true, Bool.false_or, flt_1, flt_2, flt_3, flt_0, fk_flt, fkl_0, fkl_1, fkl_2, fkl_3, n10, n20, n30, n12, n13, n21, n23, n31, n32, refu_0, refu_1, refu_2, refu_3, l2, show ¬ 120 ≤ T.length by omega, ec, hx, e111, e119, hin, w1, hM2, k6]
  · rw [← hM2, wr_ng _ _ _ _ (by omega), wr_ng _ _ _ _ (by omega)]; exact h1
  · refine SvL_cg h2 ?_ ?_ (fun g _ _ => ?_)
    · rw [← hM2, wr_other _ _ _ _ _ (by omega), wr_other _ _ _ _ _ (by omega)]
    · rw [← hM2, wr_other _ _ _ _ _ (by omega), wr_other _ _ _ _ _ (by omega)]
    · rw [← hM2, wr_ng _ _ _ _ (by omega), wr_ng _ _ _ _ (by omega)]
  · refine ⟨by rw [List.length_append]; exact hl, by rw [List.length_append]; exact k6, fun i w hw => ?_⟩
    have k64 : M2.1 6 4 = upd (M.1 6 4) T.length (nI v) := by rw [← hM2, wr_other _ _ _ _ _ (by omega), wr_same]
    rw [k64]
    by_cases h2 : i = T.length
    · rw [h2, List.getElem?_append_right (Nat.le_refl _), Nat.sub_self] at hw
      have : v = w := Option.some.inj hw
      subst this
      rw [h2, upd_same]
      exact ⟨rfl, hv⟩
    · have hi : i < T.length := by
        have := (List.getElem?_eq_some_iff.mp hw).1
        rw [List.length_append] at this
        simp at this
        omega
      rw [upd_other h2]
      rw [List.getElem?_append_left hi] at hw
      exact l3 i w hw
end AK2
