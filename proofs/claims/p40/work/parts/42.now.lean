/-! ===== what check-outs undergo: editing, closing, breaking, cancelling, renewing, returning ===== -/
theorem RD_17 {D D' : Dk} {N : Row} (hD : ∀ j, j ≠ 17 → D' j = D j) (h : RD D N) : RD D' N := by
  obtain ⟨a1, a2, a3, a4, a5, a6, a7⟩ := h
  exact ⟨RDt_D (hD 2 (by omega)) (hD 4 (by omega)) (hD 5 (by omega)) (hD 6 (by omega)) (hD 7 (by omega)) a1, RDs_D (hD 1 (by omega)) (hD 3 (by omega)) a2, RDc_D (hD 8 (by omega)) (hD 9 (by omega)) a3, RDk_D (hD 10 (by omega)) (hD 11 (by omega)) a4, RDq_D (hD 12 (by omega)) (hD 13 (by omega)) a5, RDh_D (hD 14 (by omega)) (hD 15 (by omega)) a6, RDu_D (hD 0 (by omega)) (hD 16 (by omega)) a7⟩
def editS (N : Row) (c s l : Nat) (v : Int32) : Row := upd N (262 + 240 * c + 12 * s + 2 * l + 1) v
theorem WFa_edit {N : Row} (h : WFa N) {c s l w : Nat} (hc : c < 10) (hs : s < 20) (hl : l < 6) (hw : w < 1000) : WFa (editS N c s l (nI w)) := by
  have h0 : eqR 0 262 (editS N c s l (nI w)) N := fun k _ hk => upd_other (by omega)
  have h1 : eqR 2662 3602 (editS N c s l (nI w)) N := fun k hk _ => upd_other (by omega)
  refine ⟨⟨WFt_cg (h0.sub (by omega) (by omega)) h.1.1, WFc_cg (h0.sub (by omega) (by omega)) (h0.sub (by omega) (by omega)) h.1.2.1, ⟨fun k hk => isV_cg (h0 _ (by omega) (by omega)) (h.1.2.2.1.1 k hk), fun k hk => ?_⟩, WFq_cg (h0.sub (by omega) (by omega)) (h1.sub (by omega) (by omega)) h.1.2.2.2.1, WFu_cg (h0 0 (by omega) (by omega)) (h1.sub (by omega) (by omega)) h.1.2.2.2.2.1, WFh_cg (h1.sub (by omega) (by omega)) h.1.2.2.2.2.2⟩, WFx_c (h0.sub (by omega) (by omega)) (h0.sub (by omega) (by omega)) h.1.1 h.1.2.1 h.2⟩
  by_cases hk2 : 262 + k = 262 + 240 * c + 12 * s + 2 * l + 1
  · unfold isV editS
    rw [hk2, upd_same, cl_nI (by omega)]
    exact ⟨rfl, hw⟩
  · exact isV_cg (upd_other hk2) (h.1.2.2.1.2 k hk)
theorem c_editNow {M : Mem} {g : Nat} {N : Row} (hN : WFa N) (h : RD (M.1 g) N) {c s l : Nat} (v : Int32) (hc : c < 10) (hs : s < 20) (hl : l < 6) (hk : ck N c = true) (hus : us N s = true) (ha : An N s (sec N c) = true) : ∃ M', f_X1_editNow g (nI c) (nI s) (nI l) v M = some (N (262 + 240 * c + 12 * s + 2 * l + 1), M') ∧ RD (M'.1 g) (editS N c s l v) ∧ Fr g M M' := by
  have h0 : eqR 0 262 (editS N c s l v) N := fun k _ hk => upd_other (by omega)
  have h1 : eqR 2662 3602 (editS N c s l v) N := fun k hk _ => upd_other (by omega)
  have ho := h.2.2.2.1 c s l hc hs hl hk hus ha
  refine ⟨wr M g 11 (120 * c + (6 * s + l)) v, ?_, ?_, Fr_wr _ _ _ _ _⟩
  · unfold f_X1_editNow f_X8_cellOf
    simp (disch := omega) only [↓ite_b2r, ↓ite_nb2r, ↓lit_m1, ↓lit_m2, lit_0, lit_1, lit_2, lit_3, lit_4, lit_5, lit_6, lit_7, lit_8, lit_9, lit_10, lit_11, lit_12, lit_13, lit_14, lit_15, lit_16, lit_17, lit_18, lit_19, lit_20, lit_21, lit_22, lit_23, lit_24, lit_25, lit_26, lit_27, lit_28, lit_29, lit_30, lit_31, lit_32, lit_33, lit_34, lit_35, lit_36, lit_40, lit_41, lit_42, lit_44, lit_48, lit_57, lit_59, lit_62, lit_63, lit_64, lit_82, lit_98, lit_99, lit_100, lit_101, lit_102, lit_103, lit_104, lit_105, lit_106, lit_107, lit_108, lit_109, lit_110, lit_111, lit_112, lit_113, lit_119, lit_120, lit_127, lit_128, lit_149, lit_150, lit_202, lit_240, lit_262, lit_894, lit_900, lit_999, lit_1000, lit_2000, lit_2662, lit_2663, lit_2695, lit_2701, lit_2702, lit_3602, lit_10806, nI_add, pk_mul, cl_nI, inb_nI, nI_leI, nI_ltI, nI_eq, nI_eq_m1, m1_eq_nI, nI_eq_m2, div_nI, rem_nI, Option.bind_some, b2_0, b2_1, isb_b2, if_true_, if_false_, ↓reduceIte, reduceCtorEq, not_true_eq_false, not_false_eq_true, bt_hasBit, ult, Nat.add_zero, false_and, true_and, and_true, and_false, Nat.reduceLeDiff, Nat.reduceEqDiff, Nat.reduceLT, Bool.toNat_true, Bool.toNat_false, decide_true, decide_false, Bool.not_true, Bool.not_false, Bool.false_and, Bool.true_and, Bool.and_true, Bool.and_false, Bool.or_false, Bool.true_or, Bool.or_true, Bool.false_or, Nat.mul_comm s 6, c_ownAt, c_setOwn, ho.2]
  · obtain ⟨a1, a2, a3, a4, a5, a6, a7⟩ := h
    have hD : ∀ j, j ≠ 11 → (wr M g 11 (120 * c + (6 * s + l)) v).1 g j = M.1 g j := fun j hj => wr_other _ _ _ _ _ (by omega)
    have h00 : eqR 0 62 (editS N c s l v) N := h0.sub (by omega) (by omega)
    refine ⟨RDt_D (hD 2 (by omega)) (hD 4 (by omega)) (hD 5 (by omega)) (hD 6 (by omega)) (hD 7 (by omega)) (RDt_cg h00 (h0.sub (by omega) (by omega)) (h0.sub (by omega) (by omega)) hN.1.1 a1), RDs_D (hD 1 (by omega)) (hD 3 (by omega)) (RDs_cg h00 a2), RDc_D (hD 8 (by omega)) (hD 9 (by omega)) (RDc_cg (h0.sub (by omega) (by omega)) a3), fun c' s' l' hc' hs' hl' hk' hu' ha' => ?_, RDq_D (hD 12 (by omega)) (hD 13 (by omega)) (RDq_cg (h1.sub (by omega) (by omega)) hN.1.2.2.2.1 a5), RDh_D (hD 14 (by omega)) (hD 15 (by omega)) (RDh_cg (h1.sub (by omega) (by omega)) hN.1.2.2.2.2.2 a6), RDu_D (hD 0 (by omega)) (hD 16 (by omega)) (RDu_cg (h0 0 (by omega) (by omega)) (h1.sub (by omega) (by omega)) a7)⟩
    have hc2 : eqR 202 262 (editS N c s l v) N := h0.sub (by omega) (by omega)
    rw [ck_cg hc2 hc'] at hk'
    rw [us_cg h00 hs'] at hu'
    rw [sec_cg hc2 hc', An_cg h00 hN.1.1 hs' hu'] at ha'
    obtain ⟨b1, b2⟩ := a4 c' s' l' hc' hs' hl' hk' hu' ha'
    rw [hD 10 (by omega), b1]
    refine ⟨(upd_other (by omega)).symm, ?_⟩
    rw [wr_same]
    unfold editS
    by_cases he : 120 * c' + (6 * s' + l') = 120 * c + (6 * s + l)
    · rw [he, upd_same, show 262 + 240 * c' + 12 * s' + 2 * l' + 1 = 262 + 240 * c + 12 * s + 2 * l + 1 by omega, upd_same]
    · rw [upd_other he, upd_other (by omega), b2]
theorem m_edits {M : Mem} {c s l : Nat} (v : Int32) (hc : c < 10) (hs : s < 20) (hl : l < 6) : f_X9_edits (nI c) (nI s) (nI l) v M = some (M.1 7 1 (262 + 240 * c + 12 * s + 2 * l + 1), wrs M 7 1 (editS (M.1 7 1) c s l v)) := by
  unfold f_X9_edits f_X9_copy
  simp (disch := omega) only [↓ite_b2r, ↓ite_nb2r, ↓lit_m1, ↓lit_m2, lit_0, lit_1, lit_2, lit_3, lit_4, lit_5, lit_6, lit_7, lit_8, lit_9, lit_10, lit_11, lit_12, lit_13, lit_14, lit_15, lit_16, lit_17, lit_18, lit_19, lit_20, lit_21, lit_22, lit_23, lit_24, lit_25, lit_26, lit_27, lit_28, lit_29, lit_30, lit_31, lit_32, lit_33, lit_34, lit_35, lit_36, lit_40, lit_41, lit_42, lit_44, lit_48, lit_57, lit_59, lit_62, lit_63, lit_64, lit_82, lit_98, lit_99, lit_100, lit_101, lit_102, lit_103, lit_104, lit_105, lit_106, lit_107, lit_108, lit_109, lit_110, lit_111, lit_112, lit_113, lit_119, lit_120, lit_127, lit_128, lit_149, lit_150, lit_202, lit_240, lit_262, lit_894, lit_900, lit_999, lit_1000, lit_2000, lit_2662, lit_2663, lit_2695, lit_2701, lit_2702, lit_3602, lit_10806, nI_add, pk_mul, cl_nI, inb_nI, nI_leI, nI_ltI, nI_eq, nI_eq_m1, m1_eq_nI, nI_eq_m2, div_nI, rem_nI, Option.bind_some, b2_0, b2_1, isb_b2, if_true_, if_false_, ↓reduceIte, reduceCtorEq, not_true_eq_false, not_false_eq_true, bt_hasBit, ult, Nat.add_zero, false_and, true_and, and_true, and_false, Nat.reduceLeDiff, Nat.reduceEqDiff, Nat.reduceLT, Bool.toNat_true, Bool.toNat_false, decide_true, decide_false, Bool.not_true, Bool.not_false, Bool.false_and, Bool.true_and, Bool.and_true, Bool.and_false, Bool.or_false, Bool.true_or, Bool.or_true, Bool.false_or] <;> rfl
/-- close, then serve -/
def discS (N : Row) (c : Nat) : Row := (srvS (closeS N c)).2
theorem WFa_close {N : Row} (h : WFa N) {c : Nat} (hc : c < 10) : WFa (closeS N c) := ⟨WF_close h.1 hc, WFx_close h.1 h.2 c⟩
theorem WFa_lose {N : Row} (h : WFa N) {c : Nat} (hc : c < 10) : WFa (loseS N c) := ⟨WF_lose h.1 hc, WFx_lose h.1 h.2 c⟩
theorem WFa_leave {N : Row} (h : WFa N) {k : Nat} (hk : k < wq N) : WFa (leaveS N k) := ⟨WF_leave h.1 hk, WFx_leave h.1 h.2 k⟩
theorem c_discardNow {M : Mem} {g : Nat} {N : Row} (hN : WFa N) (h : RD (M.1 g) N) {c : Nat} (hc : c < 10) (hk : ck N c = true) : ∃ M', f_X1_discardNow g (nI c) M = some (nI (cntEd N c), M') ∧ RD (M'.1 g) (discS N c) ∧ Fr g M M' := by
  obtain ⟨M1, a1, a2, a3⟩ := c_close hN.1 h hc hk
  obtain ⟨M2, b1, b2, b3⟩ := c_serve (WFa_close hN hc) a2
  refine ⟨M2, ?_, b2, a3.tr b3⟩
  unfold f_X1_discardNow
  rw [c_countEdited h.1 h.2.2.1 h.2.2.2.1 hN.1.2.1 hc hk, Option.bind_some, a1, Option.bind_some, b1]
  rfl
theorem m_discards {M : Mem} (hN : WFa (M.1 7 1)) {c : Nat} (hc : c < 10) (hk : ck (M.1 7 1) c = true) : ∃ M', f_X9_discards (nI c) M = some (nI (cntEd (M.1 7 1) c), M') ∧ M'.1 7 1 = discS (M.1 7 1) c ∧ FrN M M' := by
  obtain ⟨M2, b1, b2, b3⟩ := m_serves (M := wrs M 7 1 (closeS (M.1 7 1) c)) (by rw [wrs_same]; exact WFa_close hN hc)
  rw [wrs_same] at b2
  refine ⟨M2, ?_, b2, (FrN_wrs _ (by omega) _).tr b3⟩
  unfold f_X9_discards f_X9_check
  rw [m_edited hN.1.1 hN.1.2.1 hc hk]
  simp (disch := omega) only [↓ite_b2r, ↓ite_nb2r, ↓lit_m1, ↓lit_m2, lit_0, lit_1, lit_2, lit_3, lit_4, lit_5, lit_6, lit_7, lit_8, lit_9, lit_10, lit_11, lit_12, lit_13, lit_14, lit_15, lit_16, lit_17, lit_18, lit_19, lit_20, lit_21, lit_22, lit_23, lit_24, lit_25, lit_26, lit_27, lit_28, lit_29, lit_30, lit_31, lit_32, lit_33, lit_34, lit_35, lit_36, lit_40, lit_41, lit_42, lit_44, lit_48, lit_57, lit_59, lit_62, lit_63, lit_64, lit_82, lit_98, lit_99, lit_100, lit_101, lit_102, lit_103, lit_104, lit_105, lit_106, lit_107, lit_108, lit_109, lit_110, lit_111, lit_112, lit_113, lit_119, lit_120, lit_127, lit_128, lit_149, lit_150, lit_202, lit_240, lit_262, lit_894, lit_900, lit_999, lit_1000, lit_2000, lit_2662, lit_2663, lit_2695, lit_2701, lit_2702, lit_3602, lit_10806, nI_add, pk_mul, cl_nI, inb_nI, nI_leI, nI_ltI, nI_eq, nI_eq_m1, m1_eq_nI, nI_eq_m2, div_nI, rem_nI, Option.bind_some, b2_0, b2_1, isb_b2, if_true_, if_false_, ↓reduceIte, reduceCtorEq, not_true_eq_false, not_false_eq_true, bt_hasBit, ult, Nat.add_zero, false_and, true_and, and_true, and_false, Nat.reduceLeDiff, Nat.reduceEqDiff, Nat.reduceLT, Bool.toNat_true, Bool.toNat_false, decide_true, decide_false, Bool.not_true, Bool.not_false, Bool.false_and, Bool.true_and, Bool.and_true, Bool.and_false, Bool.or_false, Bool.true_or, Bool.or_true, Bool.false_or]
  rw [show wr M 7 1 (202 + 6 * c) (nI 0) = wrs M 7 1 (closeS (M.1 7 1) c) from rfl, b1]
  rfl
def brkS (N : Row) (c : Nat) : Row := (srvS (loseS N c)).2
theorem c_breakNow {M : Mem} {g : Nat} {N : Row} (hN : WFa N) (h : RD (M.1 g) N) {c : Nat} (hc : c < 10) (hk : ck N c = true) : ∃ M', f_X1_breakNow g (nI c) M = some (N (202 + 6 * c + 1), M') ∧ RD (M'.1 g) (brkS N c) ∧ Fr g M M' := by
  obtain ⟨M1, a1, a2, a3⟩ := c_lose hN.1 h hc hk
  obtain ⟨M2, b1, b2, b3⟩ := c_serve (WFa_lose hN hc) a2
  refine ⟨M2, ?_, b2, a3.tr b3⟩
  unfold f_X1_breakNow
  rw [show f_X0_fact g (nI c) 0 M = _ from c_fact h.2.2.1 (nI c) (w := 0) (by decide), fac_nI h.2.2.1 hc hk (by decide), Option.bind_some, a1, Option.bind_some, b1]
  rfl
theorem m_breaks {M : Mem} (hN : WFa (M.1 7 1)) {c : Nat} (hc : c < 10) : ∃ M', f_X9_breaks (nI c) M = some (brkS (M.1 7 1) c (202 + 6 * c + 1), M') ∧ M'.1 7 1 = brkS (M.1 7 1) c ∧ FrN M M' := by
  obtain ⟨M2, b1, b2, b3⟩ := m_serves (M := wrs M 7 1 (loseS (M.1 7 1) c)) (by rw [wrs_same]; exact WFa_lose hN hc)
  rw [wrs_same] at b2
  refine ⟨M2, ?_, b2, (FrN_wrs _ (by omega) _).tr b3⟩
  unfold f_X9_breaks
  rw [m_loses hN.1.2.1 hc, Option.bind_some, b1, Option.bind_some, show f_X9_get (nI c) 1 M2 = _ from m_get _ hc (by decide), b2]
  rfl
def cancS (N : Row) (k : Nat) : Row := (srvS (leaveS N k)).2
theorem c_cancelNow {M : Mem} {g : Nat} {N : Row} (hN : WFa N) (h : RD (M.1 g) N) {x : Int32} {k : Nat} (hx : pl N x = nI k) (hk : k < wq N) : ∃ M', f_X1_cancelNow g x M = some (nI (wq (cancS N k)), M') ∧ RD (M'.1 g) (cancS N k) ∧ Fr g M M' := by
  obtain ⟨M1, a1, a2, a3⟩ := c_leaveR hN.1 h hk
  obtain ⟨M2, b1, b2, b3⟩ := c_serve (WFa_leave hN hk) a2
  refine ⟨M2, ?_, b2, a3.tr b3⟩
  unfold f_X1_cancelNow
  rw [c_placeOf h.2.2.2.2.1 hN.1.2.2.2.1, hx, Option.bind_some, a1, Option.bind_some, b1, Option.bind_some]
  rw [b2.2.2.2.2.1.1]
  exact congrArg (fun z => some (z, M2)) (wq_eq (WFa_srv (WFa_leave hN hk)).1.2.2.2.1)
theorem m_cancels {M : Mem} (hN : WFa (M.1 7 1)) {k : Nat} (hk : k < wq (M.1 7 1)) : ∃ M' M'', f_X9_leavesLine (nI k) M = some M'' ∧ f_X9_serves M'' = some M' ∧ M'.1 7 1 = cancS (M.1 7 1) k ∧ FrN M M' := by
  obtain ⟨M2, b1, b2, b3⟩ := m_serves (M := wrs M 7 1 (leaveS (M.1 7 1) k)) (by rw [wrs_same]; exact WFa_leave hN hk)
  rw [wrs_same] at b2
  exact ⟨M2, _, m_leave hN.1.2.2.2.1 hk, b1, b2, (FrN_wrs _ (by omega) _).tr b3⟩
def renS (N : Row) (c t : Nat) : Row := setC N c 3 (N 0 + nI t)
theorem WFa_ren {N : Row} (h : WFa N) {c t : Nat} (hc : c < 10) (ht : t ≤ 1000) (ht0 : 0 < t) : WFa (renS N c t) := by
  have h0 : renS N c t 0 = N 0 := setC_o (by omega)
  have hck : ∀ c', ck (renS N c t) c' = ck N c' := fun c' => by unfold ck renS; rw [setC_o (by omega)]
  have hsec : ∀ c', sec (renS N c t) c' = sec N c' := fun c' => by unfold sec renS; rw [setC_o (by omega)]
  have hsh : ∀ c', sh (renS N c t) c' = sh N c' := fun c' => by unfold sh renS; rw [setC_o (by omega)]
  have hhd : ∀ c', hd (renS N c t) c' = hd N c' := fun c' => by unfold hd renS; rw [setC_o (by omega)]
  have e62 : eqR 0 62 (renS N c t) N := fun k _ h => setC_o (by omega)
  have hT := h.1.2.1.1
  have hTl := hT.2
  have hc2 : WFc (renS N c t) := by
    refine ⟨isV_cg h0 h.1.2.1.1, fun c' hc' => ?_⟩
    obtain ⟨a1, a2, a3, a4, a5, a6⟩ := h.1.2.1.2 c' hc'
    unfold hel at a6 ⊢
    rw [hck, hsec, hsh, hhd, h0]
    refine ⟨isV_cg (setC_o (by omega)) a1, isV_cg (setC_o (by omega)) a2, isV_cg (setC_o (by omega)) a3, isV_cg (setC_o (by omega)) a4, fun hk => ?_, fun hk => ?_⟩
    · obtain ⟨b1, b2, b3⟩ := a5 hk
      rw [us_cg e62 (s := sec N c') b1.2]
      exact ⟨isV_cg (setC_o (by omega)) b1, b2, b3⟩
    · by_cases hcc : c' = c
      · subst hcc
        unfold renS
        rw [setC_s, hT.1, nI_add, cl_nI (n := cl (N 0) + t) (by omega), cl_nI (n := cl (N 0)) (by omega)]
        exact ⟨rfl, by omega, by omega⟩
      · unfold renS
        rw [setC_o (by omega)]
        exact a6 hk
  exact ⟨WF_chk (setC_lo _) (setC_hi hc (by omega) _) hc2 h.1, WFx_sub e62 h.1.1 h.1.2.1 (fun c' _ hh => ⟨by unfold hel at hh ⊢; rw [hck, hhd] at hh; exact hh, hsec c', hsh c'⟩) h.2⟩
theorem c_renewNow {M : Mem} {g : Nat} {N : Row} (hN : WFa N) (h : RD (M.1 g) N) {c t : Nat} (hc : c < 10) (hk : ck N c = true) : ∃ M', f_X1_renewNow g (nI c) (nI t) M = some (N 0 + nI t, M') ∧ RD (M'.1 g) (renS N c t) ∧ Fr g M M' := by
  have hr := RD_set (D' := (wr M g 9 (5 * c + 2) (N 0 + nI t)).1 g) hN.1.r hc (w := 2) (by omega) (by omega) (N 0 + nI t) (wr_same _ _ _ _ _) (fun j hj => wr_other _ _ _ _ _ (by omega)) h
  refine ⟨wr M g 9 (5 * c + 2) (N 0 + nI t), ?_, hr, Fr_wr _ _ _ _ _⟩
  have hk2 : ck (setC N c (2 + 1) (N 0 + nI t)) c = true := by unfold ck; rw [setC_o (by omega)]; exact hk
  unfold f_X1_renewNow f_X0_setExpiry
  rw [h.2.2.2.2.2.2.1, show f_X0_setFact g (nI c) 2 _ M = _ from c_setFact hc (w := 2) (by decide) _, Option.bind_some, Option.bind_some, show f_X0_fact g (nI c) 2 _ = _ from c_fact hr.2.2.1 (nI c) (w := 2) (by decide), fac_nI hr.2.2.1 hc hk2 (by decide), setC_s]
  rfl
/-! returning -/
theorem c_copyRow2 (M : Mem) (g j1 j2 n : Nat) (hn : n < 2147483648) : f_X8_copyRow g j1 n g j2 n M = some (wrs M g j2 (fun k => if k < n then M.1 g j1 k else M.1 g j2 k)) := by
  have e0 : cl (0 : Int32) = 0 := by decide
  have e1 : imin (Int32.ofNat n) (Int32.ofNat n) = nI n := by unfold imin; rw [if_neg (Int32.lt_irrefl)]; rfl
  have hk : cpk 0 0 (nI n) n n = true := by
    unfold cpk
    rw [e0, cl_nI hn]
    refine decide_eq_true ⟨by decide, by decide, ?_, by omega, by omega⟩
    intro h
    have h2 : nI n < nI 0 := h
    rw [nI_ltI (by omega) (by omega)] at h2
    omega
  unfold f_X8_copyRow
  rw [e1, if_pos hk, e0, cl_nI hn]
  congr 1
  congr 1
  funext k
  unfold va_cpy
  by_cases h : k < n
  · rw [if_pos h, if_pos (by omega), Nat.zero_add, Nat.sub_zero]
  · rw [if_neg h, if_neg (by omega)]
theorem c_wantPresent (M : Mem) (g : Nat) : f_X1_wantPresent g M = some (wrs M g 17 (fun k => if k < 120 then M.1 g 5 k else M.1 g 17 k)) := by
  unfold f_X1_wantPresent
  rw [c_copyRow2 _ _ _ _ _ (by decide)]
  rfl
theorem c_want {M : Mem} {g k : Nat} (hk : k < 120) (v : Int32) : f_X1_want g (nI k) v M = some (wr M g 17 k v) := by
  unfold f_X1_want f_X8_isCell
  rw [show f_X8_isWithin (nI k) 0 119 = _ from c_within (nI k) 119 (by decide), inR_nI (by omega) (by decide), decide_eq_true (show k < 119 + 1 by omega)]
  simp (disch := omega) only [↓ite_b2r, ↓ite_nb2r, ↓lit_m1, ↓lit_m2, lit_0, lit_1, lit_2, lit_3, lit_4, lit_5, lit_6, lit_7, lit_8, lit_9, lit_10, lit_11, lit_12, lit_13, lit_14, lit_15, lit_16, lit_17, lit_18, lit_19, lit_20, lit_21, lit_22, lit_23, lit_24, lit_25, lit_26, lit_27, lit_28, lit_29, lit_30, lit_31, lit_32, lit_33, lit_34, lit_35, lit_36, lit_40, lit_41, lit_42, lit_44, lit_48, lit_57, lit_59, lit_62, lit_63, lit_64, lit_82, lit_98, lit_99, lit_100, lit_101, lit_102, lit_103, lit_104, lit_105, lit_106, lit_107, lit_108, lit_109, lit_110, lit_111, lit_112, lit_113, lit_119, lit_120, lit_127, lit_128, lit_149, lit_150, lit_202, lit_240, lit_262, lit_894, lit_900, lit_999, lit_1000, lit_2000, lit_2662, lit_2663, lit_2695, lit_2701, lit_2702, lit_3602, lit_10806, nI_add, pk_mul, cl_nI, inb_nI, nI_leI, nI_ltI, nI_eq, nI_eq_m1, m1_eq_nI, nI_eq_m2, div_nI, rem_nI, Option.bind_some, b2_0, b2_1, isb_b2, if_true_, if_false_, ↓reduceIte, reduceCtorEq, not_true_eq_false, not_false_eq_true, bt_hasBit, ult, Nat.add_zero, false_and, true_and, and_true, and_false, Nat.reduceLeDiff, Nat.reduceEqDiff, Nat.reduceLT, Bool.toNat_true, Bool.toNat_false, decide_true, decide_false, Bool.not_true, Bool.not_false, Bool.false_and, Bool.true_and, Bool.and_true, Bool.and_false, Bool.or_false, Bool.true_or, Bool.or_true, Bool.false_or]
theorem c_returnedValue {M : Mem} {g : Nat} {N : Row} (hN : WF N) (h : RD (M.1 g) N) {c k p : Nat} (hc : c < 10) (hk : k < 120) (hp : p < 3) (hck : ck N c = true) (hcp : cop N c (k / 6) = true) (hsh : sh N c = false) : f_X1_returnedValue g (nI c) (nI k) (nI p) M = some (mgK N c p k) := by
  obtain ⟨ht, -, hcc, hkk, -⟩ := h
  obtain ⟨e2, e3⟩ := r_bas hkk hc hk hck hcp
  have e5 := r_lin ht hk (cop_us hcp)
  unfold f_X1_returnedValue B_X1_returnedValue_53 B_X1_returnedValue_57 B_X1_returnedValue_58 mgK mine
  rw [hcp, c_isHeld hcc, isC_nI hc, hck, cl_nI (by omega), Bool.true_and, c_isConflict ht hkk hc hk hck hcp]
  simp (disch := omega) only [↓ite_b2r, ↓ite_nb2r, ↓lit_m1, ↓lit_m2, lit_0, lit_1, lit_2, lit_3, lit_4, lit_5, lit_6, lit_7, lit_8, lit_9, lit_10, lit_11, lit_12, lit_13, lit_14, lit_15, lit_16, lit_17, lit_18, lit_19, lit_20, lit_21, lit_22, lit_23, lit_24, lit_25, lit_26, lit_27, lit_28, lit_29, lit_30, lit_31, lit_32, lit_33, lit_34, lit_35, lit_36, lit_40, lit_41, lit_42, lit_44, lit_48, lit_57, lit_59, lit_62, lit_63, lit_64, lit_82, lit_98, lit_99, lit_100, lit_101, lit_102, lit_103, lit_104, lit_105, lit_106, lit_107, lit_108, lit_109, lit_110, lit_111, lit_112, lit_113, lit_119, lit_120, lit_127, lit_128, lit_149, lit_150, lit_202, lit_240, lit_262, lit_894, lit_900, lit_999, lit_1000, lit_2000, lit_2662, lit_2663, lit_2695, lit_2701, lit_2702, lit_3602, lit_10806, nI_add, pk_mul, cl_nI, inb_nI, nI_leI, nI_ltI, nI_eq, nI_eq_m1, m1_eq_nI, nI_eq_m2, div_nI, rem_nI, Option.bind_some, b2_0, b2_1, isb_b2, if_true_, if_false_, ↓reduceIte, reduceCtorEq, not_true_eq_false, not_false_eq_true, bt_hasBit, ult, Nat.add_zero, false_and, true_and, and_true, and_false, Nat.reduceLeDiff, Nat.reduceEqDiff, Nat.reduceLT, Bool.toNat_true, Bool.toNat_false, decide_true, decide_false, Bool.not_true, Bool.not_false, Bool.false_and, Bool.true_and, Bool.and_true, Bool.and_false, Bool.or_false, Bool.true_or, Bool.or_true, Bool.false_or, c_ownAt, c_baseAt, c_valueAt, e2, e3, e5]
  cases hd N c with
  | true => simp (disch := omega) only [↓ite_b2r, ↓ite_nb2r, ↓lit_m1, ↓lit_m2, lit_0, lit_1, lit_2, lit_3, lit_4, lit_5, lit_6, lit_7, lit_8, lit_9, lit_10, lit_11, lit_12, lit_13, lit_14, lit_15, lit_16, lit_17, lit_18, lit_19, lit_20, lit_21, lit_22, lit_23, lit_24, lit_25, lit_26, lit_27, lit_28, lit_29, lit_30, lit_31, lit_32, lit_33, lit_34, lit_35, lit_36, lit_40, lit_41, lit_42, lit_44, lit_48, lit_57, lit_59, lit_62, lit_63, lit_64, lit_82, lit_98, lit_99, lit_100, lit_101, lit_102, lit_103, lit_104, lit_105, lit_106, lit_107, lit_108, lit_109, lit_110, lit_111, lit_112, lit_113, lit_119, lit_120, lit_127, lit_128, lit_149, lit_150, lit_202, lit_240, lit_262, lit_894, lit_900, lit_999, lit_1000, lit_2000, lit_2662, lit_2663, lit_2695, lit_2701, lit_2702, lit_3602, lit_10806, nI_add, pk_mul, cl_nI, inb_nI, nI_leI, nI_ltI, nI_eq, nI_eq_m1, m1_eq_nI, nI_eq_m2, div_nI, rem_nI, Option.bind_some, b2_0, b2_1, isb_b2, if_true_, if_false_, ↓reduceIte, reduceCtorEq, not_true_eq_false, not_false_eq_true, bt_hasBit, ult, Nat.add_zero, false_and, true_and, and_true, and_false, Nat.reduceLeDiff, Nat.reduceEqDiff, Nat.reduceLT, Bool.toNat_true, Bool.toNat_false, decide_true, decide_false, Bool.not_true, Bool.not_false, Bool.false_and, Bool.true_and, Bool.and_true, Bool.and_false, Bool.or_false, Bool.true_or, Bool.or_true, Bool.false_or, hsh]
  | false =>
    by_cases h1 : own N c k = bas N c k
    · simp (disch := omega) only [↓ite_b2r, ↓ite_nb2r, ↓lit_m1, ↓lit_m2, lit_0, lit_1, lit_2, lit_3, lit_4, lit_5, lit_6, lit_7, lit_8, lit_9, lit_10, lit_11, lit_12, lit_13, lit_14, lit_15, lit_16, lit_17, lit_18, lit_19, lit_20, lit_21, lit_22, lit_23, lit_24, lit_25, lit_26, lit_27, lit_28, lit_29, lit_30, lit_31, lit_32, lit_33, lit_34, lit_35, lit_36, lit_40, lit_41, lit_42, lit_44, lit_48, lit_57, lit_59, lit_62, lit_63, lit_64, lit_82, lit_98, lit_99, lit_100, lit_101, lit_102, lit_103, lit_104, lit_105, lit_106, lit_107, lit_108, lit_109, lit_110, lit_111, lit_112, lit_113, lit_119, lit_120, lit_127, lit_128, lit_149, lit_150, lit_202, lit_240, lit_262, lit_894, lit_900, lit_999, lit_1000, lit_2000, lit_2662, lit_2663, lit_2695, lit_2701, lit_2702, lit_3602, lit_10806, nI_add, pk_mul, cl_nI, inb_nI, nI_leI, nI_ltI, nI_eq, nI_eq_m1, m1_eq_nI, nI_eq_m2, div_nI, rem_nI, Option.bind_some, b2_0, b2_1, isb_b2, if_true_, if_false_, ↓reduceIte, reduceCtorEq, not_true_eq_false, not_false_eq_true, bt_hasBit, ult, Nat.add_zero, false_and, true_and, and_true, and_false, Nat.reduceLeDiff, Nat.reduceEqDiff, Nat.reduceLT, Bool.toNat_true, Bool.toNat_false, decide_true, decide_false, Bool.not_true, Bool.not_false, Bool.false_and, Bool.true_and, Bool.and_true, Bool.and_false, Bool.or_false, Bool.true_or, Bool.or_true, Bool.false_or, h1]
    · cases cfK N c k with
      | false => simp (disch := omega) only [↓ite_b2r, ↓ite_nb2r, ↓lit_m1, ↓lit_m2, lit_0, lit_1, lit_2, lit_3, lit_4, lit_5, lit_6, lit_7, lit_8, lit_9, lit_10, lit_11, lit_12, lit_13, lit_14, lit_15, lit_16, lit_17, lit_18, lit_19, lit_20, lit_21, lit_22, lit_23, lit_24, lit_25, lit_26, lit_27, lit_28, lit_29, lit_30, lit_31, lit_32, lit_33, lit_34, lit_35, lit_36, lit_40, lit_41, lit_42, lit_44, lit_48, lit_57, lit_59, lit_62, lit_63, lit_64, lit_82, lit_98, lit_99, lit_100, lit_101, lit_102, lit_103, lit_104, lit_105, lit_106, lit_107, lit_108, lit_109, lit_110, lit_111, lit_112, lit_113, lit_119, lit_120, lit_127, lit_128, lit_149, lit_150, lit_202, lit_240, lit_262, lit_894, lit_900, lit_999, lit_1000, lit_2000, lit_2662, lit_2663, lit_2695, lit_2701, lit_2702, lit_3602, lit_10806, nI_add, pk_mul, cl_nI, inb_nI, nI_leI, nI_ltI, nI_eq, nI_eq_m1, m1_eq_nI, nI_eq_m2, div_nI, rem_nI, Option.bind_some, b2_0, b2_1, isb_b2, if_true_, if_false_, ↓reduceIte, reduceCtorEq, not_true_eq_false, not_false_eq_true, bt_hasBit, ult, Nat.add_zero, false_and, true_and, and_true, and_false, Nat.reduceLeDiff, Nat.reduceEqDiff, Nat.reduceLT, Bool.toNat_true, Bool.toNat_false, decide_true, decide_false, Bool.not_true, Bool.not_false, Bool.false_and, Bool.true_and, Bool.and_true, Bool.and_false, Bool.or_false, Bool.true_or, Bool.or_true, Bool.false_or, h1]
      | true =>
        by_cases h4 : p = 1
        · subst h4
          simp (disch := omega) only [↓ite_b2r, ↓ite_nb2r, ↓lit_m1, ↓lit_m2, lit_0, lit_1, lit_2, lit_3, lit_4, lit_5, lit_6, lit_7, lit_8, lit_9, lit_10, lit_11, lit_12, lit_13, lit_14, lit_15, lit_16, lit_17, lit_18, lit_19, lit_20, lit_21, lit_22, lit_23, lit_24, lit_25, lit_26, lit_27, lit_28, lit_29, lit_30, lit_31, lit_32, lit_33, lit_34, lit_35, lit_36, lit_40, lit_41, lit_42, lit_44, lit_48, lit_57, lit_59, lit_62, lit_63, lit_64, lit_82, lit_98, lit_99, lit_100, lit_101, lit_102, lit_103, lit_104, lit_105, lit_106, lit_107, lit_108, lit_109, lit_110, lit_111, lit_112, lit_113, lit_119, lit_120, lit_127, lit_128, lit_149, lit_150, lit_202, lit_240, lit_262, lit_894, lit_900, lit_999, lit_1000, lit_2000, lit_2662, lit_2663, lit_2695, lit_2701, lit_2702, lit_3602, lit_10806, nI_add, pk_mul, cl_nI, inb_nI, nI_leI, nI_ltI, nI_eq, nI_eq_m1, m1_eq_nI, nI_eq_m2, div_nI, rem_nI, Option.bind_some, b2_0, b2_1, isb_b2, if_true_, if_false_, ↓reduceIte, reduceCtorEq, not_true_eq_false, not_false_eq_true, bt_hasBit, ult, Nat.add_zero, false_and, true_and, and_true, and_false, Nat.reduceLeDiff, Nat.reduceEqDiff, Nat.reduceLT, Bool.toNat_true, Bool.toNat_false, decide_true, decide_false, Bool.not_true, Bool.not_false, Bool.false_and, Bool.true_and, Bool.and_true, Bool.and_false, Bool.or_false, Bool.true_or, Bool.or_true, Bool.false_or, h1]
        · simp (disch := omega) only [↓ite_b2r, ↓ite_nb2r, ↓lit_m1, ↓lit_m2, lit_0, lit_1, lit_2, lit_3, lit_4, lit_5, lit_6, lit_7, lit_8, lit_9, lit_10, lit_11, lit_12, lit_13, lit_14, lit_15, lit_16, lit_17, lit_18, lit_19, lit_20, lit_21, lit_22, lit_23, lit_24, lit_25, lit_26, lit_27, lit_28, lit_29, lit_30, lit_31, lit_32, lit_33, lit_34, lit_35, lit_36, lit_40, lit_41, lit_42, lit_44, lit_48, lit_57, lit_59, lit_62, lit_63, lit_64, lit_82, lit_98, lit_99, lit_100, lit_101, lit_102, lit_103, lit_104, lit_105, lit_106, lit_107, lit_108, lit_109, lit_110, lit_111, lit_112, lit_113, lit_119, lit_120, lit_127, lit_128, lit_149, lit_150, lit_202, lit_240, lit_262, lit_894, lit_900, lit_999, lit_1000, lit_2000, lit_2662, lit_2663, lit_2695, lit_2701, lit_2702, lit_3602, lit_10806, nI_add, pk_mul, cl_nI, inb_nI, nI_leI, nI_ltI, nI_eq, nI_eq_m1, m1_eq_nI, nI_eq_m2, div_nI, rem_nI, Option.bind_some, b2_0, b2_1, isb_b2, if_true_, if_false_, ↓reduceIte, reduceCtorEq, not_true_eq_false, not_false_eq_true, bt_hasBit, ult, Nat.add_zero, false_and, true_and, and_true, and_false, Nat.reduceLeDiff, Nat.reduceEqDiff, Nat.reduceLT, Bool.toNat_true, Bool.toNat_false, decide_true, decide_false, Bool.not_true, Bool.not_false, Bool.false_and, Bool.true_and, Bool.and_true, Bool.and_false, Bool.or_false, Bool.true_or, Bool.or_true, Bool.false_or, h1, h4]
theorem c_wantReturned {M : Mem} {g : Nat} {N : Row} (hN : WF N) (h : RD (M.1 g) N) {c p : Nat} (hc : c < 10) (hp : p < 3) (hck : ck N c = true) (hsh : sh N c = false) : ∃ M', f_X1_wantReturned g (nI c) (nI p) M = some M' ∧ (∀ k, k < 120 → M'.1 g 17 k = if cop N c (k / 6) = true then mgK N c p k else M.1 g 17 k) ∧ (∀ j, j ≠ 17 → M'.1 g j = M.1 g j) ∧ Fr g M M' := by
  unfold f_X1_wantReturned
  rw [c_sectionsOf h.2.2.1, Option.bind_some]
  have hb := fun k (hk : k < 120) => c_secbit h.1 h.2.2.1 hN.2.1 hc hck hk
  generalize rowAt (M.1 g 6) (fac (M.1 g) N (nI c) 1) 20 = S at hb ⊢
  refine loopE (fun n (σ : Int32 × Mem) => L_X1_wantReturned_9 g (nI c) (nI p) S n σ.1 σ.2) (fun m σ => ∃ M', σ = (nI m, M') ∧ (∀ k, k < 120 → M'.1 g 17 k = if k < m ∧ cop N c (k / 6) = true then mgK N c p k else M.1 g 17 k) ∧ (∀ j, j ≠ 17 → M'.1 g j = M.1 g j) ∧ Fr g M M') 120 (fun n m σ hm hσ => ?_) (fun n σ hσ => ?_) FU (by decide) (nI 0, M) ⟨M, rfl, fun k hk => by rw [if_neg (by omega)], fun _ _ => rfl, Fr.rf⟩
  · obtain ⟨M1, rfl, a1, a2, a3⟩ := hσ
    show ∃ s', L_X1_wantReturned_9 g _ _ S (n + 1) _ _ = L_X1_wantReturned_9 g _ _ S n _ _ ∧ _
    have hr : RD (M1.1 g) N := RD_17 a2 h
    rw [L_X1_wantReturned_9]
    unfold B_X1_wantReturned_42
    cases hcp : cop N c (m / 6) with
    | false =>
      refine ⟨(nI (m + 1), M1), ?_, M1, rfl, fun k hk => ?_, a2, a3⟩
      · simp (disch := omega) only [↓ite_b2r, ↓ite_nb2r, ↓lit_m1, ↓lit_m2, lit_0, lit_1, lit_2, lit_3, lit_4, lit_5, lit_6, lit_7, lit_8, lit_9, lit_10, lit_11, lit_12, lit_13, lit_14, lit_15, lit_16, lit_17, lit_18, lit_19, lit_20, lit_21, lit_22, lit_23, lit_24, lit_25, lit_26, lit_27, lit_28, lit_29, lit_30, lit_31, lit_32, lit_33, lit_34, lit_35, lit_36, lit_40, lit_41, lit_42, lit_44, lit_48, lit_57, lit_59, lit_62, lit_63, lit_64, lit_82, lit_98, lit_99, lit_100, lit_101, lit_102, lit_103, lit_104, lit_105, lit_106, lit_107, lit_108, lit_109, lit_110, lit_111, lit_112, lit_113, lit_119, lit_120, lit_127, lit_128, lit_149, lit_150, lit_202, lit_240, lit_262, lit_894, lit_900, lit_999, lit_1000, lit_2000, lit_2662, lit_2663, lit_2695, lit_2701, lit_2702, lit_3602, lit_10806, nI_add, pk_mul, cl_nI, inb_nI, nI_leI, nI_ltI, nI_eq, nI_eq_m1, m1_eq_nI, nI_eq_m2, div_nI, rem_nI, Option.bind_some, b2_0, b2_1, isb_b2, if_true_, if_false_, ↓reduceIte, reduceCtorEq, not_true_eq_false, not_false_eq_true, bt_hasBit, ult, Nat.add_zero, false_and, true_and, and_true, and_false, Nat.reduceLeDiff, Nat.reduceEqDiff, Nat.reduceLT, Bool.toNat_true, Bool.toNat_false, decide_true, decide_false, Bool.not_true, Bool.not_false, Bool.false_and, Bool.true_and, Bool.and_true, Bool.and_false, Bool.or_false, Bool.true_or, Bool.or_true, Bool.false_or, Nat.not_le.mpr hm, hb m hm, hcp]
      · rw [a1 k hk]
        by_cases h1 : k = m
        · subst h1
          rw [hcp, if_neg (by omega), if_neg (fun z => by cases z.2)]
        · by_cases h2 : k < m ∧ cop N c (k / 6) = true
          · rw [if_pos h2, if_pos ⟨by omega, h2.2⟩]
          · rw [if_neg h2, if_neg (fun z => h2 ⟨by omega, z.2⟩)]
    | true =>
      refine ⟨(nI (m + 1), wr M1 g 17 m (mgK N c p m)), ?_, _, rfl, fun k hk => ?_, fun j hj => (wr_other _ _ _ _ _ (by omega)).trans (a2 j hj), a3.tr (Fr_wr _ _ _ _ _)⟩
      · simp (disch := omega) only [↓ite_b2r, ↓ite_nb2r, ↓lit_m1, ↓lit_m2, lit_0, lit_1, lit_2, lit_3, lit_4, lit_5, lit_6, lit_7, lit_8, lit_9, lit_10, lit_11, lit_12, lit_13, lit_14, lit_15, lit_16, lit_17, lit_18, lit_19, lit_20, lit_21, lit_22, lit_23, lit_24, lit_25, lit_26, lit_27, lit_28, lit_29, lit_30, lit_31, lit_32, lit_33, lit_34, lit_35, lit_36, lit_40, lit_41, lit_42, lit_44, lit_48, lit_57, lit_59, lit_62, lit_63, lit_64, lit_82, lit_98, lit_99, lit_100, lit_101, lit_102, lit_103, lit_104, lit_105, lit_106, lit_107, lit_108, lit_109, lit_110, lit_111, lit_112, lit_113, lit_119, lit_120, lit_127, lit_128, lit_149, lit_150, lit_202, lit_240, lit_262, lit_894, lit_900, lit_999, lit_1000, lit_2000, lit_2662, lit_2663, lit_2695, lit_2701, lit_2702, lit_3602, lit_10806, nI_add, pk_mul, cl_nI, inb_nI, nI_leI, nI_ltI, nI_eq, nI_eq_m1, m1_eq_nI, nI_eq_m2, div_nI, rem_nI, Option.bind_some, b2_0, b2_1, isb_b2, if_true_, if_false_, ↓reduceIte, reduceCtorEq, not_true_eq_false, not_false_eq_true, bt_hasBit, ult, Nat.add_zero, false_and, true_and, and_true, and_false, Nat.reduceLeDiff, Nat.reduceEqDiff, Nat.reduceLT, Bool.toNat_true, Bool.toNat_false, decide_true, decide_false, Bool.not_true, Bool.not_false, Bool.false_and, Bool.true_and, Bool.and_true, Bool.and_false, Bool.or_false, Bool.true_or, Bool.or_true, Bool.false_or, Nat.not_le.mpr hm, hb m hm, hcp, c_returnedValue hN hr hc hm hp hck hcp hsh, c_want]
      · rw [wr_same]
        by_cases h1 : k = m
        · subst h1
          rw [upd_same, if_pos ⟨by omega, hcp⟩]
        · rw [upd_other h1, a1 k hk]
          by_cases h2 : k < m ∧ cop N c (k / 6) = true
          · rw [if_pos h2, if_pos ⟨by omega, h2.2⟩]
          · rw [if_neg h2, if_neg (fun z => h2 ⟨by omega, z.2⟩)]
  · obtain ⟨M1, rfl, a1, a2, a3⟩ := hσ
    show ∃ b, L_X1_wantReturned_9 g _ _ S (n + 1) _ _ = some b ∧ _
    refine ⟨M1, ?_, fun k hk => ?_, a2, a3⟩
    · rw [L_X1_wantReturned_9]
      simp (disch := omega) only [↓ite_b2r, ↓ite_nb2r, ↓lit_m1, ↓lit_m2, lit_0, lit_1, lit_2, lit_3, lit_4, lit_5, lit_6, lit_7, lit_8, lit_9, lit_10, lit_11, lit_12, lit_13, lit_14, lit_15, lit_16, lit_17, lit_18, lit_19, lit_20, lit_21, lit_22, lit_23, lit_24, lit_25, lit_26, lit_27, lit_28, lit_29, lit_30, lit_31, lit_32, lit_33, lit_34, lit_35, lit_36, lit_40, lit_41, lit_42, lit_44, lit_48, lit_57, lit_59, lit_62, lit_63, lit_64, lit_82, lit_98, lit_99, lit_100, lit_101, lit_102, lit_103, lit_104, lit_105, lit_106, lit_107, lit_108, lit_109, lit_110, lit_111, lit_112, lit_113, lit_119, lit_120, lit_127, lit_128, lit_149, lit_150, lit_202, lit_240, lit_262, lit_894, lit_900, lit_999, lit_1000, lit_2000, lit_2662, lit_2663, lit_2695, lit_2701, lit_2702, lit_3602, lit_10806, nI_add, pk_mul, cl_nI, inb_nI, nI_leI, nI_ltI, nI_eq, nI_eq_m1, m1_eq_nI, nI_eq_m2, div_nI, rem_nI, Option.bind_some, b2_0, b2_1, isb_b2, if_true_, if_false_, ↓reduceIte, reduceCtorEq, not_true_eq_false, not_false_eq_true, bt_hasBit, ult, Nat.add_zero, false_and, true_and, and_true, and_false, Nat.reduceLeDiff, Nat.reduceEqDiff, Nat.reduceLT, Bool.toNat_true, Bool.toNat_false, decide_true, decide_false, Bool.not_true, Bool.not_false, Bool.false_and, Bool.true_and, Bool.and_true, Bool.and_false, Bool.or_false, Bool.true_or, Bool.or_true, Bool.false_or, Nat.le_refl]
    · rw [a1 k hk]
      by_cases h2 : cop N c (k / 6) = true
      · rw [if_pos ⟨hk, h2⟩, if_pos h2]
      · rw [if_neg (fun z => h2 z.2), if_neg h2]
theorem cellsS_cgT {T T' : Nat → Int32} {u : Int32} {p : Nat × Row} {s : Nat} (hs : s < 20) (h : ∀ k, k < 120 → T k = T' k) : ∀ l, l ≤ 6 → cellsS T u p s l = cellsS T' u p s l
  | 0, _ => rfl
  | l + 1, hl => by
    rw [cellsS, cellsS, cellsS_cgT hs h l (by omega)]
    unfold cellS
    rw [h (6 * s + l) (by omega)]
theorem becS_cgT {T T' : Nat → Int32} {u : Int32} {p : Nat × Row} (h : ∀ k, k < 120 → T k = T' k) : ∀ s, s ≤ 20 → becS T u p s = becS T' u p s
  | 0, _ => rfl
  | s + 1, hs => by
    rw [becS, becS, becS_cgT h s (by omega)]
    unfold secS
    rw [cellsS_cgT (by omega) h 6 (by omega)]
theorem WFa_bec {N : Row} (h : WFa N) {T : Nat → Int32} {u : Int32} (hT : ∀ k, k < 120 → T k = nI (cl (T k)) ∧ cl (T k) < 1000) : WFa (becS T u (0, N) 20).2 := by
  obtain ⟨b1, b2, b3, b4, b5, b6⟩ := BI_bec (T := T) (u := u) h.1.2.2.1.1 h.1.2.2.2.2.2 20 (by omega)
  refine ⟨⟨WFt_cg b1 h.1.1, WFc_cg b1 (b2.sub (by omega) (by omega)) h.1.2.1, ⟨fun k hk => ?_, fun k hk => isV_cg (b2 _ (by omega) (by omega)) (h.1.2.2.1.2 k hk)⟩, WFq_cg b1 (b2.sub (by omega) (by omega)) h.1.2.2.2.1, WFu_cg (b1 0 (by omega) (by omega)) (b2.sub (by omega) (by omega)) h.1.2.2.2.2.1, b5⟩, WFx_c b1 (b2.sub (by omega) (by omega)) h.1.1 h.1.2.1 h.2⟩
  unfold isV
  rw [b4 k hk, if_pos (by omega)]
  exact hT k hk
theorem mgK_v {N : Row} (h : WFl N) {c p : Nat} (hc : c < 10) {k : Nat} (hk : k < 120) : mgK N c p k = nI (cl (mgK N c p k)) ∧ cl (mgK N c p k) < 1000 := by
  unfold mgK
  by_cases h2 : cop N c (k / 6) = true ∧ mine N c p k = true
  · rw [if_pos h2]
    have := h.2 (240 * c + 12 * (k / 6) + 2 * (k % 6) + 1) (by omega)
    unfold own
    rw [show 262 + 240 * c + 12 * (k / 6) + 2 * (k % 6) + 1 = 262 + (240 * c + 12 * (k / 6) + 2 * (k % 6) + 1) by omega]
    exact this
  · rw [if_neg h2]
    exact h.1 k hk
def givB (N : Row) (c p : Nat) : Nat × Row := becS (mgK N c p) (N (202 + 6 * c + 1)) (0, N) 20
def givR (N : Row) (c p : Nat) : Row := (srvS (closeS (givB N c p).2 c)).2
theorem givB_eq (N : Row) (c p : Nat) : becS (mgK N c p) (N (202 + 6 * c + 1)) (0, N) 20 = givB N c p := rfl
theorem WFa_giv {N : Row} (h : WFa N) {c p : Nat} (hc : c < 10) : WFa (givR N c p) := by
  have hW := WFa_bec (u := N (202 + 6 * c + 1)) h (fun k hk2 => mgK_v (p := p) h.1.2.2.1 hc hk2)
  rw [givB_eq] at hW
  unfold givR
  exact WFa_srv (WFa_close hW hc)
theorem c_giveBackNow {M : Mem} {g : Nat} {N : Row} (hN : WFa N) (h : RD (M.1 g) N) {c p : Nat} (hc : c < 10) (hp : p < 3) (hk : ck N c = true) : ∃ M', f_X1_giveBackNow g (nI c) (nI p) M = some (nI (givB N c p).1, M') ∧ RD (M'.1 g) (givR N c p) ∧ Fr g M M' := by
  have hfin : ∀ M1 : Mem, RD (M1.1 g) N → (∀ k, k < 120 → us N (k / 6) = true → M1.1 g 17 k = mgK N c p k) → (∀ k, k < 120 → us N (k / 6) = false → M1.1 g 17 k = M1.1 g 5 k) → Fr g M M1 → ∃ M', B_X1_giveBackNow_21 g (nI c) M1 = some (nI (givB N c p).1, M') ∧ RD (M'.1 g) (givR N c p) ∧ Fr g M M' := by
    intro M1 r1 r2 r3 r4
    obtain ⟨M2, a1, a2, a3⟩ := c_changeToWanted (M := M1) (g := g) (N := N) (T := mgK N c p) (u := N (202 + 6 * c + 1)) hN.1 (fun k hk2 hu => by unfold mgK; rw [if_neg (fun z => by have := cop_us z.1; rw [hu] at this; cases this)]; rfl) ⟨r1, r2, r3⟩
    have hW := WFa_bec (u := N (202 + 6 * c + 1)) hN (fun k hk2 => mgK_v (p := p) hN.1.2.2.1 hc hk2)
    have hck : ck (becS (mgK N c p) (N (202 + 6 * c + 1)) (0, N) 20).2 c = true := by
      obtain ⟨b1, b2, -⟩ := BI_bec (T := mgK N c p) (u := N (202 + 6 * c + 1)) hN.1.2.2.1.1 hN.1.2.2.2.2.2 20 (by omega)
      rw [ck_cg (b2.sub (by omega) (by omega)) hc]
      exact hk
    rw [givB_eq] at a1 a2 hW hck
    obtain ⟨M3, d1, d2, d3⟩ := c_close hW.1 a2 hc hck
    obtain ⟨M4, e1, e2, e3⟩ := c_serve (WFa_close hW hc) d2
    refine ⟨M4, ?_, e2, ((r4.tr a3).tr d3).tr e3⟩
    unfold B_X1_giveBackNow_21
    rw [show f_X0_fact g (nI c) 0 M1 = _ from c_fact r1.2.2.1 (nI c) (w := 0) (by decide), fac_nI r1.2.2.1 hc hk (by decide), Option.bind_some, show 202 + 6 * c + (0 + 1) = 202 + 6 * c + 1 from rfl, a1, Option.bind_some]
    dsimp only
    rw [d1, Option.bind_some, e1]
    rfl
  unfold f_X1_giveBackNow
  rw [c_wantPresent, Option.bind_some]
  have r1 : RD ((wrs M g 17 (fun k => if k < 120 then M.1 g 5 k else M.1 g 17 k)).1 g) N := RD_17 (fun j hj => wrs_other _ _ _ _ (by omega)) h
  have r5 : ∀ k, k < 120 → (wrs M g 17 (fun k => if k < 120 then M.1 g 5 k else M.1 g 17 k)).1 g 17 k = M.1 g 5 k := fun k hk2 => by rw [wrs_same, if_pos hk2]
  have r6 : (wrs M g 17 (fun k => if k < 120 then M.1 g 5 k else M.1 g 17 k)).1 g 5 = M.1 g 5 := wrs_other _ _ _ _ (by omega)
  have rF : Fr g M (wrs M g 17 (fun k => if k < 120 then M.1 g 5 k else M.1 g 17 k)) := Fr_wrs _ _ _ _
  generalize wrs M g 17 (fun k => if k < 120 then M.1 g 5 k else M.1 g 17 k) = M1 at r1 r5 r6 rF ⊢
  rw [c_isShared r1.2.2.1, isC_nI hc, hk, cl_nI (by omega), Bool.true_and, Option.bind_some]
  have hlin : ∀ k, k < 120 → us N (k / 6) = true → M1.1 g 5 k = lin N k := fun k hk2 hu => r_lin r1.1 hk2 hu
  cases hsh : sh N c with
  | true =>
    rw [if_neg (show ¬ b2 true = 0 by decide)]
    refine hfin M1 r1 (fun k hk2 hu => ?_) (fun k hk2 _ => by rw [r5 k hk2, r6]) rF
    have hhd : hd N c = true := ((hN.1.2.1.2 c hc).2.2.2.2.1 hk).2.2 hsh
    rw [r5 k hk2, ← r6, hlin k hk2 hu]
    unfold mgK mine
    rw [hhd, hsh]
    simp
  | false =>
    rw [if_pos (show b2 false = 0 from rfl)]
    obtain ⟨M2, w1, w2, w3, w4⟩ := c_wantReturned hN.1 r1 hc hp hk hsh
    rw [w1, Option.bind_some]
    have r1' : RD (M2.1 g) N := RD_17 w3 r1
    refine hfin M2 r1' (fun k hk2 hu => ?_) (fun k hk2 hu => ?_) (rF.tr w4)
    · rw [w2 k hk2]
      by_cases hcp : cop N c (k / 6) = true
      · rw [if_pos hcp]
      · rw [if_neg hcp, r5 k hk2, ← r6, hlin k hk2 hu]
        unfold mgK
        rw [if_neg (fun z => hcp z.1)]
    · rw [w2 k hk2, if_neg (fun z => by have := cop_us z; rw [hu] at this; cases this), r5 k hk2, w3 5 (by omega), r6]
theorem m_gives {M : Mem} (hN : WFa (M.1 7 1)) {c p : Nat} (hc : c < 10) (hp : p < 3) (hk : ck (M.1 7 1) c = true) : ∃ M', f_X9_gives (nI c) (nI p) M = some (nI (givB (M.1 7 1) c p).1, M') ∧ M'.1 7 1 = givR (M.1 7 1) c p ∧ FrN M M' := by
  have hm := m_merges hN.1.1 hN.1.2.1 hc hk hp
  generalize hM1 : wrs M 7 6 (mixF (mgK (M.1 7 1) c p) (M.1 7 6) 120) = M1 at hm
  have w1 : M1.1 7 1 = M.1 7 1 := by rw [← hM1]; exact wrs_other _ _ _ _ (by decide)
  have w6 : ∀ k, k < 120 → M1.1 7 6 k = mgK (M.1 7 1) c p k := fun k hk2 => by rw [← hM1, wrs_same, mixF_lt hk2]
  have wF : FrN M M1 := by rw [← hM1]; exact FrN_wrs _ (by omega) _
  have hb := m_becomes (M := M1) (by rw [w1]; exact hN.1.2.2.1.1) (by rw [w1]; exact hN.1.2.2.2.2.2) (M.1 7 1 (202 + 6 * c + 1))
  rw [w1, becS_cgT w6 20 (by omega)] at hb
  have hW := WFa_bec (u := M.1 7 1 (202 + 6 * c + 1)) hN (fun k hk2 => mgK_v (p := p) hN.1.2.2.1 hc hk2)
  rw [givB_eq] at hb hW
  obtain ⟨M2, b1, b2, b3⟩ := m_serves (M := wrs M1 7 1 (closeS (givB (M.1 7 1) c p).2 c)) (by rw [wrs_same]; exact WFa_close hW hc)
  rw [wrs_same] at b2
  refine ⟨M2, ?_, b2, (wF.tr (FrN_wrs _ (by omega) _)).tr b3⟩
  unfold f_X9_gives f_X9_check
  rw [hm, Option.bind_some]
  dsimp only
  rw [show f_X9_get (nI c) 1 M1 = _ from m_get _ hc (by decide), Option.bind_some, w1, hb, Option.bind_some]
  dsimp only
  simp (disch := omega) only [↓ite_b2r, ↓ite_nb2r, ↓lit_m1, ↓lit_m2, lit_0, lit_1, lit_2, lit_3, lit_4, lit_5, lit_6, lit_7, lit_8, lit_9, lit_10, lit_11, lit_12, lit_13, lit_14, lit_15, lit_16, lit_17, lit_18, lit_19, lit_20, lit_21, lit_22, lit_23, lit_24, lit_25, lit_26, lit_27, lit_28, lit_29, lit_30, lit_31, lit_32, lit_33, lit_34, lit_35, lit_36, lit_40, lit_41, lit_42, lit_44, lit_48, lit_57, lit_59, lit_62, lit_63, lit_64, lit_82, lit_98, lit_99, lit_100, lit_101, lit_102, lit_103, lit_104, lit_105, lit_106, lit_107, lit_108, lit_109, lit_110, lit_111, lit_112, lit_113, lit_119, lit_120, lit_127, lit_128, lit_149, lit_150, lit_202, lit_240, lit_262, lit_894, lit_900, lit_999, lit_1000, lit_2000, lit_2662, lit_2663, lit_2695, lit_2701, lit_2702, lit_3602, lit_10806, nI_add, pk_mul, cl_nI, inb_nI, nI_leI, nI_ltI, nI_eq, nI_eq_m1, m1_eq_nI, nI_eq_m2, div_nI, rem_nI, Option.bind_some, b2_0, b2_1, isb_b2, if_true_, if_false_, ↓reduceIte, reduceCtorEq, not_true_eq_false, not_false_eq_true, bt_hasBit, ult, Nat.add_zero, false_and, true_and, and_true, and_false, Nat.reduceLeDiff, Nat.reduceEqDiff, Nat.reduceLT, Bool.toNat_true, Bool.toNat_false, decide_true, decide_false, Bool.not_true, Bool.not_false, Bool.false_and, Bool.true_and, Bool.and_true, Bool.and_false, Bool.or_false, Bool.true_or, Bool.or_true, Bool.false_or]
  rw [wr_wrs]
  rw [show upd (givB (M.1 7 1) c p).2 (202 + 6 * c) (nI 0) = closeS (givB (M.1 7 1) c p).2 c from rfl, b1]
  rfl
