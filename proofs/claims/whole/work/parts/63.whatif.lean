/-! ===== what would be: ifBroken, grantedAt ===== -/
theorem srvF_wq : ∀ r k N, WFa N → k + r = wq N → (srvF r k N).1 + wq (srvF r k N).2 = wq N
  | 0, _, _, _, _ => by rw [srvF]; exact Nat.zero_add _
  | r + 1, k, N, h, hk => by
    rw [srvF]
    by_cases ho : okS N k = true
    · rw [if_pos ho]
      obtain ⟨a, b, c⟩ := WF_grS h.1 h.2 (k := k) (by omega) ho
      have := srvF_wq r k (grS N k) ⟨a, b⟩ (by rw [c]; omega)
      show (srvF r k (grS N k)).1 + 1 + wq (srvF r k (grS N k)).2 = wq N
      omega
    · rw [if_neg ho]
      exact srvF_wq r (k + 1) N h (by omega)
theorem wq_lose {N : Row} {c : Nat} (hc : c < 10) : wq (loseS N c) = wq N := by
  unfold loseS closeS wq
  by_cases h : sh N c = true
  · rw [if_pos h, setC_o (by omega)]
  · rw [if_neg h, setC_o (by omega)]
theorem WFa_wF {x : Int32} : ∀ n N, WFa N → cl (N 0) + n < 134217728 → WFa (wF x n N)
  | 0, _, h, _ => h
  | n + 1, N, h, hb => by
    rw [wF]
    by_cases hs : stp x N = true
    · rw [if_pos hs]; exact h
    · rw [if_neg hs]
      exact WFa_wF n _ (WFa_tick h (by omega)) (by rw [tickS_0 h (by omega), cl_nI (by omega)]; omega)
section WI
variable {k : Nat} {M : Mem}
theorem k_ifBroken (h : SR k M) (x : Int32) : okc k M (f_L_ifBroken x) (f_X9_ifBroken x) := by
  have hr := h.2.1
  have hN := h.1.1
  have hf := c_checkOutFault (M := M) (g := 0) hr.2.2.1 x
  cases hC : isC (M.1 7 1) x with
  | false =>
    refine okc_r h (r := 1) (b := nI 0) (by decide) ?_ ?_
    · unfold f_L_ifBroken f_X8_ifBroken
      rw [hf, hC, fk_flt]
      rfl
    · unfold f_X9_ifBroken B_X9_ifBroken_14
      simp (disch := omega) only [↓ite_b2r, ↓ite_nb2r, ↓lit_m1, ↓lit_m2, lit_0, lit_1, lit_2, lit_3, lit_4, lit_5, lit_6, lit_7, lit_8, lit_9, lit_10, lit_11, lit_12, lit_13, lit_14, lit_15, lit_16, lit_17, lit_18, lit_19, lit_20, lit_21, lit_22, lit_23, lit_24, lit_25, lit_26, lit_27, lit_28, lit_29, lit_30, lit_31, lit_32, lit_33, lit_34, lit_35, lit_36, lit_40, lit_41, lit_42, lit_44, lit_48, lit_57, lit_59, lit_62, lit_63, lit_64, lit_82, lit_98, lit_99, lit_100, lit_101, lit_102, lit_103, lit_104, lit_105, lit_106, lit_107, lit_108, lit_109, lit_110, lit_111, lit_112, lit_113, lit_119, lit_120, lit_127, lit_128, lit_149, lit_150, lit_202, lit_240, lit_262, lit_894, lit_900, lit_999, lit_1000, lit_2000, lit_2662, lit_2663, lit_2695, lit_2701, lit_2702, lit_3602, lit_10806, nI_add, pk_mul, cl_nI, inb_nI, nI_leI, nI_ltI, nI_eq, nI_eq_m1, m1_eq_nI, nI_eq_m2, div_nI, rem_nI, Option.bind_some, b2_0, b2_1, isb_b2, if_true_, if_false_, ↓reduceIte, reduceCtorEq, not_true_eq_false, not_false_eq_true, bt_hasBit, ult, Nat.add_zero, false_and, true_and, and_true, and_false, Nat.reduceLeDiff, Nat.reduceEqDiff, Nat.reduceLT, Bool.toNat_true, Bool.toNat_false, decide_true, decide_false, Bool.not_true, Bool.not_false, Bool.false_and, Bool.true_and, Bool.and_true, Bool.and_false, Bool.or_false, Bool.true_or, Bool.or_true, Bool.false_or, flt_1, flt_2, flt_3, flt_0, fk_flt, fkl_0, fkl_1, fkl_2, fkl_3, n10, n20, n30, n12, n13, n21, n23, n31, n32, refu_0, refu_1, refu_2, refu_3, m_isCheck, hC]
  | true =>
    obtain ⟨c, hc, rfl, hk⟩ := isC_t hC
    cases hH : hel (M.1 7 1) c with
    | false =>
      refine okc_q h (a := nI 0) ?_ (fun M1 h1 => ?_)
      · unfold f_L_ifBroken f_X8_ifBroken
        rw [hf, hC, fk_flt, flt_0, if_pos rfl, c_isHeldN hr.2.2.1 hc, hH]
        rfl
      · have h71 : M1.1 7 1 = M.1 7 1 := by rw [h1]
        have h72 : (wr M1 7 0 4 (nI 0)).1 7 1 = M.1 7 1 := by rw [wr_other _ _ _ _ _ (by omega)]; exact h71
        have g1 := m_hel hc (wr M1 7 0 4 (nI 0))
        rw [h72, hH] at g1
        unfold f_X9_ifBroken B_X9_ifBroken_14
        simp (disch := omega) only [↓ite_b2r, ↓ite_nb2r, ↓lit_m1, ↓lit_m2, lit_0, lit_1, lit_2, lit_3, lit_4, lit_5, lit_6, lit_7, lit_8, lit_9, lit_10, lit_11, lit_12, lit_13, lit_14, lit_15, lit_16, lit_17, lit_18, lit_19, lit_20, lit_21, lit_22, lit_23, lit_24, lit_25, lit_26, lit_27, lit_28, lit_29, lit_30, lit_31, lit_32, lit_33, lit_34, lit_35, lit_36, lit_40, lit_41, lit_42, lit_44, lit_48, lit_57, lit_59, lit_62, lit_63, lit_64, lit_82, lit_98, lit_99, lit_100, lit_101, lit_102, lit_103, lit_104, lit_105, lit_106, lit_107, lit_108, lit_109, lit_110, lit_111, lit_112, lit_113, lit_119, lit_120, lit_127, lit_128, lit_149, lit_150, lit_202, lit_240, lit_262, lit_894, lit_900, lit_999, lit_1000, lit_2000, lit_2662, lit_2663, lit_2695, lit_2701, lit_2702, lit_3602, lit_10806, nI_add, pk_mul, cl_nI, inb_nI, nI_leI, nI_ltI, nI_eq, nI_eq_m1, m1_eq_nI, nI_eq_m2, div_nI, rem_nI, Option.bind_some, b2_0, b2_1, isb_b2, if_true_, if_false_, ↓reduceIte, reduceCtorEq, not_true_eq_false, not_false_eq_true, bt_hasBit, ult, Nat.add_zero, false_and, true_and, and_true, and_false, Nat.reduceLeDiff, Nat.reduceEqDiff, Nat.reduceLT, Bool.toNat_true, Bool.toNat_false, decide_true, decide_false, Bool.not_true, Bool.not_false, Bool.false_and, Bool.true_and, Bool.and_true, Bool.and_false, Bool.or_false, Bool.true_or, Bool.or_true, Bool.false_or, flt_1, flt_2, flt_3, flt_0, fk_flt, fkl_0, fkl_1, fkl_2, fkl_3, n10, n20, n30, n12, n13, n21, n23, n31, n32, refu_0, refu_1, refu_2, refu_3, m_isCheck, h71, hC, g1]
    | true =>
      obtain ⟨M2, a1, a2, a3⟩ := c_copyFrom M (g := 1) (g2 := 0) (by omega)
      have r2 : RD (M2.1 1) (M.1 7 1) := RD_eq a2 hN.1.2.1 hN.1.2.2.2.1 hN.1.2.2.2.2.2 hr
      obtain ⟨M3, b1, b2', b3⟩ := c_lose hN.1 r2 hc hk
      obtain ⟨M4, d1, d2, d3⟩ := c_serve (WFa_lose hN hc) b2'
      have hF : Fr 1 M M4 := (a3.tr b3).tr d3
      have hwq := srvF_wq (wq (loseS (M.1 7 1) c)) 0 (loseS (M.1 7 1) c) (WFa_lose hN hc) (by omega)
      rw [wq_lose hc] at hwq
      have hwq : (brkS (M.1 7 1) c) = (srvF (wq (M.1 7 1)) 0 (loseS (M.1 7 1) c)).2 ∧ (srvS (loseS (M.1 7 1) c)).1 + wq (brkS (M.1 7 1) c) = wq (M.1 7 1) := by
        unfold brkS srvS
        rw [wq_lose hc]
        exact ⟨rfl, hwq⟩
      have hq8 := wq_le hN.1.2.2.2.1
      refine okc_g (M' := M4) h (a := nI (srvS (loseS (M.1 7 1) c)).1) ?_ (hF.1 0 (by omega)) (fun g h1 h2 => hF.1 g (by omega)) (fun j _ => by rw [hF.1 6 (by omega)]) (hF.1 7 (by omega)) (fun M1 h1 => ?_)
      · unfold f_L_ifBroken f_X8_ifBroken
        rw [hf, hC, fk_flt, flt_0, if_pos rfl, c_isHeldN hr.2.2.1 hc, hH, Option.bind_some, if_neg (show ¬ b2 true = 0 by decide), a1, Option.bind_some, b1, Option.bind_some, d1]
        rfl
      · have h71 : M1.1 7 1 = M.1 7 1 := by rw [h1]
        have h72 : (wr M1 7 0 4 (nI 0)).1 7 1 = M.1 7 1 := by rw [wr_other _ _ _ _ _ (by omega)]; exact h71
        have g1 := m_hel hc (wr M1 7 0 4 (nI 0))
        rw [h72, hH] at g1
        have g2 := m_laysAside (wr M1 7 0 4 (nI 0))
        rw [h72] at g2
        generalize hM5 : wrs (wr M1 7 0 4 (nI 0)) 7 3 (mixF (M.1 7 1) ((wr M1 7 0 4 (nI 0)).1 7 3) 3602) = M5 at g2
        have h75 : M5.1 7 1 = M.1 7 1 := by rw [← hM5, wrs_other _ _ _ _ (by omega)]; exact h72
        obtain ⟨M6, e1, e2, e3⟩ := m_breaks (M := M5) (by rw [h75]; exact hN) hc
        rw [h75] at e1 e2
        have ew : M5.1 7 1 2662 = nI (wq (M.1 7 1)) := by rw [h75]; exact wq_eq hN.1.2.2.2.1
        have hWb : WFa (brkS (M.1 7 1) c) := WFa_srv (WFa_lose hN hc)
        have ew6 : M6.1 7 1 2662 = nI (wq (brkS (M.1 7 1) c)) := by rw [e2]; exact wq_eq hWb.1.2.2.2.1
        have hsub : nI (wq (M.1 7 1)) - nI (wq (brkS (M.1 7 1) c)) = nI (srvS (loseS (M.1 7 1) c)).1 := (pk_sub (by omega)).trans (by rw [show wq (M.1 7 1) - wq (brkS (M.1 7 1) c) = (srvS (loseS (M.1 7 1) c)).1 by omega])
        have m3 : M6.1 7 3 = mixF (M.1 7 1) ((wr M1 7 0 4 (nI 0)).1 7 3) 3602 := by rw [e3.2.2 3 (by omega) (by omega) (by omega) (by omega), ← hM5, wrs_same]
        have mj : ∀ j, j ≠ 0 → j ≠ 1 → j ≠ 3 → j ≠ 5 → j ≠ 6 → j ≠ 7 → M6.1 7 j = M1.1 7 j := fun j c0 c1 c2 c3 c4 c5 => by rw [e3.2.2 j (by omega) (by omega) (by omega) (by omega), ← hM5, wrs_other _ _ _ _ (by omega), wr_other _ _ _ _ _ (by omega)]
        have m0 : M6.1 7 0 = upd (M1.1 7 0) 4 (nI 0) := by rw [e3.2.2 0 (by omega) (by omega) (by omega) (by omega), ← hM5, wrs_other _ _ _ _ (by omega), wr_same]
        have mg : ∀ g, g ≠ 7 → M6.1 g = M1.1 g := fun g hg => by rw [e3.1 g hg, ← hM5, wrs_ng _ _ _ hg, wr_ng _ _ _ _ hg]
        have m2 : M6.2 = M1.2 := by rw [e3.2.1, ← hM5, wrs_2, wr_2]
        refine ⟨wrs M6 7 1 (mixF (M6.1 7 3) (M6.1 7 1) 3602), ?_, ?_, ?_, fun g hg => ?_, ?_, ?_, ?_, ?_, ?_⟩
        · unfold f_X9_ifBroken B_X9_ifBroken_14 f_X9_waits
          simp (disch := omega) only [↓ite_b2r, ↓ite_nb2r, ↓lit_m1, ↓lit_m2, lit_0, lit_1, lit_2, lit_3, lit_4, lit_5, lit_6, lit_7, lit_8, lit_9, lit_10, lit_11, lit_12, lit_13, lit_14, lit_15, lit_16, lit_17, lit_18, lit_19, lit_20, lit_21, lit_22, lit_23, lit_24, lit_25, lit_26, lit_27, lit_28, lit_29, lit_30, lit_31, lit_32, lit_33, lit_34, lit_35, lit_36, lit_40, lit_41, lit_42, lit_44, lit_48, lit_57, lit_59, lit_62, lit_63, lit_64, lit_82, lit_98, lit_99, lit_100, lit_101, lit_102, lit_103, lit_104, lit_105, lit_106, lit_107, lit_108, lit_109, lit_110, lit_111, lit_112, lit_113, lit_119, lit_120, lit_127, lit_128, lit_149, lit_150, lit_202, lit_240, lit_262, lit_894, lit_900, lit_999, lit_1000, lit_2000, lit_2662, lit_2663, lit_2695, lit_2701, lit_2702, lit_3602, lit_10806, nI_add, pk_mul, cl_nI, inb_nI, nI_leI, nI_ltI, nI_eq, nI_eq_m1, m1_eq_nI, nI_eq_m2, div_nI, rem_nI, Option.bind_some, b2_0, b2_1, isb_b2, if_true_, if_false_, ↓reduceIte, reduceCtorEq, not_true_eq_false, not_false_eq_true, bt_hasBit, ult, Nat.add_zero, false_and, true_and, and_true, and_false, Nat.reduceLeDiff, Nat.reduceEqDiff, Nat.reduceLT, Bool.toNat_true, Bool.toNat_false, decide_true, decide_false, Bool.not_true, Bool.not_false, Bool.false_and, Bool.true_and, Bool.and_true, Bool.and_false, Bool.or_false, Bool.true_or, Bool.or_true, Bool.false_or, flt_1, flt_2, flt_3, flt_0, fk_flt, fkl_0, fkl_1, fkl_2, fkl_3, n10, n20, n30, n12, n13, n21, n23, n31, n32, refu_0, refu_1, refu_2, refu_3, m_isCheck, h71, hC, g1, g2, e1, ew, ew6, hsub, m_takesBack]
        · rw [wrs_2, m2]
        · rw [wrs_other _ _ _ _ (by omega), m0, upd_same]
        · rw [wrs_ng _ _ _ (by omega), mg g (by omega)]
        · rw [wrs_same, m3, h71]
          exact fun k _ hk => by rw [mixF_lt hk, mixF_lt hk]
        · rw [wrs_other _ _ _ _ (by omega), mj 2 (by omega) (by omega) (by omega) (by omega) (by omega) (by omega)]
        · rw [wrs_other _ _ _ _ (by omega), mj 4 (by omega) (by omega) (by omega) (by omega) (by omega) (by omega)]
        · rw [wrs_other _ _ _ _ (by omega), m0, upd_other (by omega)]
        · rw [wrs_other _ _ _ _ (by omega), m0, upd_other (by omega)]
theorem m_granted42 {M : Mem} {u : Nat} (hu : u < 6) {n : Nat} (hn : n ≤ 2000) {N : Row} (h1 : M.1 7 1 = N) (hN : WFa N) (hb : cl (N 0) + n < 134217728) : ∃ M2, L_X9_grantedAt_42 (nI u) FU (nI n) M = B_X9_grantedAt_65 (nI u) M2 ∧ M2.1 7 1 = wF (nI u) n N ∧ FrN M M2 := by
  have hum : (nI u = mI) = False := nI_eq_m1 (by omega)
  refine loopI (fun m (σ : Int32 × Mem) => L_X9_grantedAt_42 (nI u) m σ.1 σ.2) (fun i σ => ∃ M1, σ = (nI (n - i), M1) ∧ WFa (M1.1 7 1) ∧ cl (M1.1 7 1 0) + (n - i) < 134217728 ∧ wF (nI u) (n - i) (M1.1 7 1) = wF (nI u) n N ∧ FrN M M1) (fun o => ∃ M2, o = B_X9_grantedAt_65 (nI u) M2 ∧ M2.1 7 1 = wF (nI u) n N ∧ FrN M M2) n (fun m i σ hi hσ => ?_) (fun m σ hσ => ?_) FU (FU_lt (by omega)) (nI n, M) ⟨M, rfl, by rw [h1]; exact hN, by rw [h1]; exact hb, by rw [h1]; rfl, FrN.rf⟩
  · obtain ⟨M1, rfl, a1, a2, a3, a4⟩ := hσ
    obtain ⟨d, hd⟩ : ∃ d, n - i = d + 1 := ⟨n - i - 1, by omega⟩
    have hne : n - (i + 1) = d := by omega
    rw [hd] at a2 a3 ⊢
    rw [hne]
    rw [wF] at a3
    have hpl := m_placeOf (M := M1) a1.1.2.2.2.1 (nI u)
    have hst : stp (nI u) (M1.1 7 1) = decide (pl (M1.1 7 1) (nI u) = mI) := by
      unfold stp
      rw [decide_eq_false (by rw [hum]; exact id), Bool.not_false, Bool.true_and]
    rw [hst] at a3
    show (∃ M2, L_X9_grantedAt_42 (nI u) (m + 1) _ _ = _ ∧ _) ∨ ∃ s', L_X9_grantedAt_42 (nI u) (m + 1) _ _ = L_X9_grantedAt_42 (nI u) m _ _ ∧ _
    rw [L_X9_grantedAt_42, if_neg (show ¬ nI (d + 1) ≤ 0 from nI_nle (by omega) (by omega)), hpl, Option.bind_some]
    by_cases hp : pl (M1.1 7 1) (nI u) = mI
    · rw [if_pos (decide_eq_true hp)] at a3
      exact Or.inl ⟨M1, by rw [hp]; exact if_pos rfl, a3, a4⟩
    · rw [if_neg (by rw [decide_eq_true_eq]; exact hp)] at a3
      obtain ⟨M2, e1, e2, e3⟩ := m_tickOn a1 (by omega)
      have hs1 : nI (d + 1) + (-1 : Int32) = nI d := by
        rw [show nI (d + 1) + (-1 : Int32) = nI (d + 1) - 1 from (Int32.sub_eq_add_neg _ _).symm]
        exact (pk_sub (b := 1) (by omega)).trans (by rw [Nat.add_sub_cancel])
      refine Or.inr ⟨(nI d, M2), ?_, M2, rfl, by rw [e2]; exact WFa_tick a1 (by omega), ?_, by rw [e2]; exact a3, a4.tr e3⟩
      · rw [if_neg (show ¬ pl (M1.1 7 1) (nI u) = -1 from hp), e1, Option.bind_some, hs1]
      · rw [e2, tickS_0 a1 (by omega), cl_nI (by omega)]; omega
  · obtain ⟨M1, rfl, a1, a2, a3, a4⟩ := hσ
    rw [Nat.sub_self] at a3 ⊢
    refine ⟨M1, ?_, a3, a4⟩
    show L_X9_grantedAt_42 (nI u) (m + 1) _ _ = _
    rw [L_X9_grantedAt_42]
    dsimp only
    rw [if_pos (show nI 0 ≤ 0 by decide)]
theorem k_grantedAt (h : SR k M) (hk : k < 512) (x : Int32) : okc k M (f_L_grantedAt x) (f_X9_grantedAt x) := by
  have hr := h.2.1
  have hN := h.1.1
  have hq := hN.1.2.2.2.1
  have hf := c_waitingFault (M := M) (g := 0) hr.2.2.2.2.1 hq x
  have eu : ∀ x, f_X9_isUser x = b2 (inR x 6) := fun x => m_within x 5 (by decide)
  cases hU : inR x 6 with
  | false =>
    refine okc_r h (r := 1) (b := nI 0) (by decide) ?_ ?_
    · unfold f_L_grantedAt f_X8_grantedAt
      rw [hf, hU, Option.bind_some, fk_flt]
      rfl
    · unfold f_X9_grantedAt B_X9_grantedAt_26
      simp (disch := omega) only [↓ite_b2r, ↓ite_nb2r, ↓lit_m1, ↓lit_m2, lit_0, lit_1, lit_2, lit_3, lit_4, lit_5, lit_6, lit_7, lit_8, lit_9, lit_10, lit_11, lit_12, lit_13, lit_14, lit_15, lit_16, lit_17, lit_18, lit_19, lit_20, lit_21, lit_22, lit_23, lit_24, lit_25, lit_26, lit_27, lit_28, lit_29, lit_30, lit_31, lit_32, lit_33, lit_34, lit_35, lit_36, lit_40, lit_41, lit_42, lit_44, lit_48, lit_57, lit_59, lit_62, lit_63, lit_64, lit_82, lit_98, lit_99, lit_100, lit_101, lit_102, lit_103, lit_104, lit_105, lit_106, lit_107, lit_108, lit_109, lit_110, lit_111, lit_112, lit_113, lit_119, lit_120, lit_127, lit_128, lit_149, lit_150, lit_202, lit_240, lit_262, lit_894, lit_900, lit_999, lit_1000, lit_2000, lit_2662, lit_2663, lit_2695, lit_2701, lit_2702, lit_3602, lit_10806, nI_add, pk_mul, cl_nI, inb_nI, nI_leI, nI_ltI, nI_eq, nI_eq_m1, m1_eq_nI, nI_eq_m2, div_nI, rem_nI, Option.bind_some, b2_0, b2_1, isb_b2, if_true_, if_false_, ↓reduceIte, reduceCtorEq, not_true_eq_false, not_false_eq_true, bt_hasBit, ult, Nat.add_zero, false_and, true_and, and_true, and_false, Nat.reduceLeDiff, Nat.reduceEqDiff, Nat.reduceLT, Bool.toNat_true, Bool.toNat_false, decide_true, decide_false, Bool.not_true, Bool.not_false, Bool.false_and, Bool.true_and, Bool.and_true, Bool.and_false, Bool.or_false, Bool.true_or, Bool.or_true, Bool.false_or, flt_1, flt_2, flt_3, flt_0, fk_flt, fkl_0, fkl_1, fkl_2, fkl_3, n10, n20, n30, n12, n13, n21, n23, n31, n32, refu_0, refu_1, refu_2, refu_3, eu, hU]
  | true =>
    by_cases hp : pl (M.1 7 1) x = mI
    · refine okc_r h (r := 2) (b := nI 0) (by decide) ?_ ?_
      · unfold f_L_grantedAt f_X8_grantedAt
        rw [hf, hU, hp, decide_eq_true rfl, Option.bind_some, fk_flt]
        rfl
      · unfold f_X9_grantedAt B_X9_grantedAt_26
        simp (disch := omega) only [↓ite_b2r, ↓ite_nb2r, ↓lit_m1, ↓lit_m2, lit_0, lit_1, lit_2, lit_3, lit_4, lit_5, lit_6, lit_7, lit_8, lit_9, lit_10, lit_11, lit_12, lit_13, lit_14, lit_15, lit_16, lit_17, lit_18, lit_19, lit_20, lit_21, lit_22, lit_23, lit_24, lit_25, lit_26, lit_27, lit_28, lit_29, lit_30, lit_31, lit_32, lit_33, lit_34, lit_35, lit_36, lit_40, lit_41, lit_42, lit_44, lit_48, lit_57, lit_59, lit_62, lit_63, lit_64, lit_82, lit_98, lit_99, lit_100, lit_101, lit_102, lit_103, lit_104, lit_105, lit_106, lit_107, lit_108, lit_109, lit_110, lit_111, lit_112, lit_113, lit_119, lit_120, lit_127, lit_128, lit_149, lit_150, lit_202, lit_240, lit_262, lit_894, lit_900, lit_999, lit_1000, lit_2000, lit_2662, lit_2663, lit_2695, lit_2701, lit_2702, lit_3602, lit_10806, nI_add, pk_mul, cl_nI, inb_nI, nI_leI, nI_ltI, nI_eq, nI_eq_m1, m1_eq_nI, nI_eq_m2, div_nI, rem_nI, Option.bind_some, b2_0, b2_1, isb_b2, if_true_, if_false_, ↓reduceIte, reduceCtorEq, not_true_eq_false, not_false_eq_true, bt_hasBit, ult, Nat.add_zero, false_and, true_and, and_true, and_false, Nat.reduceLeDiff, Nat.reduceEqDiff, Nat.reduceLT, Bool.toNat_true, Bool.toNat_false, decide_true, decide_false, Bool.not_true, Bool.not_false, Bool.false_and, Bool.true_and, Bool.and_true, Bool.and_false, Bool.or_false, Bool.true_or, Bool.or_true, Bool.false_or, flt_1, flt_2, flt_3, flt_0, fk_flt, fkl_0, fkl_1, fkl_2, fkl_3, n10, n20, n30, n12, n13, n21, n23, n31, n32, refu_0, refu_1, refu_2, refu_3, eu, hU, m_placeOf hq, hp]
    · obtain ⟨u, hu, rfl⟩ := inR_t (by decide) hU
      have hb : cl (M.1 7 1 0) + 2000 < 134217728 := by have := h.1.2.1; omega
      obtain ⟨M2, a1, a2, a3⟩ := c_copyFrom M (g := 1) (g2 := 0) (by omega)
      have r2 : RD (M2.1 1) (M.1 7 1) := RD_eq a2 hN.1.2.1 hN.1.2.2.2.1 hN.1.2.2.2.2.2 hr
      obtain ⟨M3, b1, b2', b3⟩ := c_passTicks (M := M2) (g := 1) (n := 2000) hN r2 (by omega) hb (nI u)
      have hW := WFa_wF (x := nI u) 2000 (M.1 7 1) hN hb
      have hF : Fr 1 M M3 := a3.tr b3
      have hplc := c_placeOf b2'.2.2.2.2.1 hW.1.2.2.2.1 (nI u)
      have e6 : M3.1 1 0 6 = wF (nI u) 2000 (M.1 7 1) 0 := b2'.2.2.2.2.2.2.1
      refine okc_g (M' := M3) h (a := if pl (wF (nI u) 2000 (M.1 7 1)) (nI u) = mI then wF (nI u) 2000 (M.1 7 1) 0 else mI) ?_ (hF.1 0 (by omega)) (fun g h1 h2 => hF.1 g (by omega)) (fun j _ => by rw [hF.1 6 (by omega)]) (hF.1 7 (by omega)) (fun M1 h1 => ?_)
      · unfold f_L_grantedAt f_X8_grantedAt
        rw [hf, hU, decide_eq_false hp, Option.bind_some, fk_flt, Bool.not_false, flt_0, if_pos rfl, a1, Option.bind_some, show f_X1_passTicks 1 2000 (nI u) M2 = _ from b1, Option.bind_some, hplc, Option.bind_some]
        by_cases hp2 : pl (wF (nI u) 2000 (M.1 7 1)) (nI u) = mI
        · rw [if_pos hp2, if_pos (show pl (wF (nI u) 2000 (M.1 7 1)) (nI u) = -1 from hp2), e6]
          rfl
        · rw [if_neg hp2, if_neg (show ¬ pl (wF (nI u) 2000 (M.1 7 1)) (nI u) = -1 from hp2)]
          rfl
      · have h71 : M1.1 7 1 = M.1 7 1 := by rw [h1]
        have h72 : (wr M1 7 0 4 (nI 0)).1 7 1 = M.1 7 1 := by rw [wr_other _ _ _ _ _ (by omega)]; exact h71
        have g1 := m_placeOf (M := M1) (by rw [h71]; exact hq) (nI u)
        rw [h71] at g1
        have g2 := m_laysAside (wr M1 7 0 4 (nI 0))
        rw [h72] at g2
        generalize hM5 : wrs (wr M1 7 0 4 (nI 0)) 7 3 (mixF (M.1 7 1) ((wr M1 7 0 4 (nI 0)).1 7 3) 3602) = M5 at g2
        have h75 : M5.1 7 1 = M.1 7 1 := by rw [← hM5, wrs_other _ _ _ _ (by omega)]; exact h72
        obtain ⟨M6, e1, e2, e3⟩ := m_granted42 (M := M5) hu (n := 2000) (by omega) h75 hN hb
        have m3 : M6.1 7 3 = mixF (M.1 7 1) ((wr M1 7 0 4 (nI 0)).1 7 3) 3602 := by rw [e3.2.2 3 (by omega) (by omega) (by omega) (by omega), ← hM5, wrs_same]
        have mj : ∀ j, j ≠ 0 → j ≠ 1 → j ≠ 3 → j ≠ 5 → j ≠ 6 → j ≠ 7 → M6.1 7 j = M1.1 7 j := fun j c0 c1 c2 c3 c4 c5 => by rw [e3.2.2 j (by omega) (by omega) (by omega) (by omega), ← hM5, wrs_other _ _ _ _ (by omega), wr_other _ _ _ _ _ (by omega)]
        have m0 : M6.1 7 0 = upd (M1.1 7 0) 4 (nI 0) := by rw [e3.2.2 0 (by omega) (by omega) (by omega) (by omega), ← hM5, wrs_other _ _ _ _ (by omega), wr_same]
        have mg : ∀ g, g ≠ 7 → M6.1 g = M1.1 g := fun g hg => by rw [e3.1 g hg, ← hM5, wrs_ng _ _ _ hg, wr_ng _ _ _ _ hg]
        have m2 : M6.2 = M1.2 := by rw [e3.2.1, ← hM5, wrs_2, wr_2]
        have g6 := m_placeOf (M := M6) (by rw [e2]; exact hW.1.2.2.2.1) (nI u)
        rw [e2] at g6
        refine ⟨wrs M6 7 1 (mixF (M6.1 7 3) (M6.1 7 1) 3602), ?_, ?_, ?_, fun g hg => ?_, ?_, ?_, ?_, ?_, ?_⟩
        · have e42 : L_X9_grantedAt_42 (nI u) FU (nI 2000) M5 = some (if pl (wF (nI u) 2000 (M.1 7 1)) (nI u) = mI then wF (nI u) 2000 (M.1 7 1) 0 else mI, wrs M6 7 1 (mixF (M6.1 7 3) (M6.1 7 1) 3602)) := by
            rw [e1]
            unfold B_X9_grantedAt_65 B_X9_grantedAt_84
            rw [g6, Option.bind_some]
            by_cases hp2 : pl (wF (nI u) 2000 (M.1 7 1)) (nI u) = mI
            · rw [if_pos hp2, if_pos (show pl (wF (nI u) 2000 (M.1 7 1)) (nI u) = -1 from hp2), m_takesBack, e2]
              rfl
            · rw [if_neg hp2, if_neg (show ¬ pl (wF (nI u) 2000 (M.1 7 1)) (nI u) = -1 from hp2), m_takesBack]
              rfl
          obtain ⟨q, q1, q2, q3⟩ := pl_k hq hp
          have hq8 := wq_le hq
          unfold f_X9_grantedAt B_X9_grantedAt_26
          simp (disch := omega) only [↓ite_b2r, ↓ite_nb2r, ↓lit_m1, ↓lit_m2, lit_0, lit_1, lit_2, lit_3, lit_4, lit_5, lit_6, lit_7, lit_8, lit_9, lit_10, lit_11, lit_12, lit_13, lit_14, lit_15, lit_16, lit_17, lit_18, lit_19, lit_20, lit_21, lit_22, lit_23, lit_24, lit_25, lit_26, lit_27, lit_28, lit_29, lit_30, lit_31, lit_32, lit_33, lit_34, lit_35, lit_36, lit_40, lit_41, lit_42, lit_44, lit_48, lit_57, lit_59, lit_62, lit_63, lit_64, lit_82, lit_98, lit_99, lit_100, lit_101, lit_102, lit_103, lit_104, lit_105, lit_106, lit_107, lit_108, lit_109, lit_110, lit_111, lit_112, lit_113, lit_119, lit_120, lit_127, lit_128, lit_149, lit_150, lit_202, lit_240, lit_262, lit_894, lit_900, lit_999, lit_1000, lit_2000, lit_2662, lit_2663, lit_2695, lit_2701, lit_2702, lit_3602, lit_10806, nI_add, pk_mul, cl_nI, inb_nI, nI_leI, nI_ltI, nI_eq, nI_eq_m1, m1_eq_nI, nI_eq_m2, div_nI, rem_nI, Option.bind_some, b2_0, b2_1, isb_b2, if_true_, if_false_, ↓reduceIte, reduceCtorEq, not_true_eq_false, not_false_eq_true, bt_hasBit, ult, Nat.add_zero, false_and, true_and, and_true, and_false, Nat.reduceLeDiff, Nat.reduceEqDiff, Nat.reduceLT, Bool.toNat_true, Bool.toNat_false, decide_true, decide_false, Bool.not_true, Bool.not_false, Bool.false_and, Bool.true_and, Bool.and_true, Bool.and_false, Bool.or_false, Bool.true_or, Bool.or_true, Bool.false_or, flt_1, flt_2, flt_3, flt_0, fk_flt, fkl_0, fkl_1, fkl_2, fkl_3, n10, n20, n30, n12, n13, n21, n23, n31, n32, refu_0, refu_1, refu_2, refu_3, eu, hU, g1, q2, g2]
          exact e42
        · rw [wrs_2, m2]
        · rw [wrs_other _ _ _ _ (by omega), m0, upd_same]
        · rw [wrs_ng _ _ _ (by omega), mg g (by omega)]
        · rw [wrs_same, m3, h71]
          exact fun k _ hk => by rw [mixF_lt hk, mixF_lt hk]
        · rw [wrs_other _ _ _ _ (by omega), mj 2 (by omega) (by omega) (by omega) (by omega) (by omega) (by omega)]
        · rw [wrs_other _ _ _ _ (by omega), mj 4 (by omega) (by omega) (by omega) (by omega) (by omega) (by omega)]
        · rw [wrs_other _ _ _ _ (by omega), m0, upd_other (by omega)]
        · rw [wrs_other _ _ _ _ (by omega), m0, upd_other (by omega)]
end WI
