/-! ===== time passes: the class's leaps ===== -/
def quiS (R : Row) (d : Nat) : Row := addU (upd R 0 (R 0 + nI d)) d 10
section QU
variable {N R : Row} {x : Int32}
theorem z_hcN {u i : Nat} : hcN (upd N 0 x) u i = hcN N u i := by unfold hcN; rw [z_hel, z_usr]
theorem addU_upd0 {a i : Nat} : addU (upd N 0 x) a i = upd (addU N a i) 0 x := by
  funext k
  unfold addU
  by_cases h0 : k = 0
  · subst h0
    rw [if_neg (by omega), upd_same, upd_same]
  · rw [upd_other h0, upd_other h0, z_hcN]
theorem hcN_addU {a j u i : Nat} (hi : i ≤ 10) : hcN (addU N a j) u i = hcN N u i := by
  unfold hcN
  exact cntN_c fun c hc => by rw [hel_addU (by omega), usr_addU (by omega)]
theorem addU_addU {a b : Nat} : addU (addU N a 10) b 10 = addU N (a + b) 10 := by
  funext k
  by_cases h : 2695 ≤ k ∧ k < 2701
  · obtain ⟨u, hu, rfl⟩ : ∃ u, u < 6 ∧ k = 2695 + u := ⟨k - 2695, by omega, by omega⟩
    rw [addU_u hu, addU_u hu, addU_u hu, hcN_addU (Nat.le_refl _), Int32.add_assoc, nI_add, Nat.add_mul]
  · rw [addU_o (by omega), addU_o (by omega), addU_o (by omega)]
theorem addU_z : addU N 0 10 = N := by
  funext k
  unfold addU
  rw [Nat.zero_mul, add_0]
  split <;> rfl
theorem quiS_0 : quiS R 0 = R := by
  unfold quiS
  rw [add_0, addU_z]
  funext k
  by_cases h : k = 0
  · subst h; rw [upd_same]
  · rw [upd_other h]
theorem quiS_at0 {d : Nat} : quiS R d 0 = R 0 + nI d := by unfold quiS; rw [addU_o (by omega), upd_same]
theorem upd_upd {f : Nat → Int32} {k : Nat} {v w : Int32} : upd (upd f k v) k w = upd f k w := by
  funext j
  by_cases h : j = k
  · subst h; rw [upd_same, upd_same]
  · rw [upd_other h, upd_other h, upd_other h]
theorem quiS_s {a b : Nat} : quiS (quiS R a) b = quiS R (a + b) := by
  have h0 : quiS R a 0 = R 0 + nI a := quiS_at0
  unfold quiS at h0 ⊢
  rw [h0, addU_upd0, addU_upd0, addU_upd0, addU_upd0, addU_addU, upd_upd, Int32.add_assoc, nI_add]
def setl (N : Row) : Prop := ∀ k, k < wq N → okS N k = false
theorem srvF_no : ∀ r k N, (∀ j, k ≤ j → j < k + r → okS N j = false) → srvF r k N = (0, N)
  | 0, _, _, _ => rfl
  | r + 1, k, N, h => by
    rw [srvF, if_neg (by rw [h k (by omega) (by omega)]; decide)]
    exact srvF_no r (k + 1) N (fun j h1 h2 => h j (by omega) (by omega))
theorem srv_setl (h : setl N) : srvS N = (0, N) := srvF_no _ _ _ (fun j _ h2 => h j (by omega))
theorem srvF_zero : ∀ r k N, (srvF r k N).1 = 0 → (srvF r k N).2 = N ∧ ∀ j, k ≤ j → j < k + r → okS N j = false
  | 0, _, _, _ => ⟨rfl, fun j h1 h2 => by omega⟩
  | r + 1, k, N, h => by
    rw [srvF] at h ⊢
    by_cases ho : okS N k = true
    · rw [if_pos ho] at h
      simp at h
    · rw [if_neg ho] at h ⊢
      obtain ⟨a, b⟩ := srvF_zero r (k + 1) N h
      refine ⟨a, fun j h1 h2 => ?_⟩
      by_cases hj : j = k
      · subst hj; exact Bool.eq_false_iff.mpr ho
      · exact b j (by omega) (by omega)
theorem srv_zero (h : (srvS N).1 = 0) : (srvS N).2 = N ∧ setl N := by
  obtain ⟨a, b⟩ := srvF_zero _ _ _ h
  exact ⟨a, fun k hk => b k (by omega) (by omega)⟩
theorem okS_cg (h : eqR 0 2695 R N) (hN : WF N) {k : Nat} (hk : k < wq N) : okS R k = okS N k := by
  have h0 : eqR 0 62 R N := h.sub (by omega) (by omega)
  have h1 : eqR 202 262 R N := h.sub (by omega) (by omega)
  have hq8 := wq_le hN.2.2.2.1
  obtain ⟨e1, l1, u1⟩ := wse_eq hN.2.2.2.1 hk
  have w0 : wus R k = wus N k := wus_cg (h.sub (by omega) (by omega)) (by omega)
  have w1 : wse R k = wse N k := wse_cg (h.sub (by omega) (by omega)) (by omega)
  have w3 : wsh R k = wsh N k := by unfold wsh; rw [h _ (by omega) (by omega)]
  unfold okS BlkA
  rw [w0, w1, w3, Can_cg h0 h1 hN.1 hN.2.1 l1 u1]
  congr 2
  refine anyN_c fun j hj => ?_
  obtain ⟨a, b, c⟩ := wse_eq hN.2.2.2.1 (show j < wq N by omega)
  exact Blk_cg h0 hN.1 (h _ (by omega) (by omega)) (h _ (by omega) (by omega)) b c l1 u1
theorem setl_0 (h : setl N) : setl (upd N 0 x) := fun k hk => by rw [z_wq] at hk; rw [z_okS]; exact h k hk
theorem setl_addU {a i : Nat} (hN : WF N) (h : setl N) : setl (addU N a i) := fun k hk => by
  have hlo : eqR 0 2695 (addU N a i) N := addU_lo
  rw [wq_cg (hlo.sub (by omega) (by omega))] at hk
  rw [okS_cg hlo hN hk]
  exact h k hk
theorem expG_no {N : Row} {x : Int32} (h : ∀ c, c < 10 → hel N c = true → N (202 + 6 * c + 3) ≠ x) : ∀ i, i ≤ 10 → expG N x i = N
  | 0, _ => rfl
  | i + 1, hi => by
    rw [expG, expG_no h i (by omega), if_neg (fun z => by
      rw [Bool.and_eq_true, decide_eq_true_eq] at z
      exact h i (by omega) z.1 z.2)]
theorem tick_qui (hs : setl N) (h : ∀ c, c < 10 → hel N c = true → N (202 + 6 * c + 3) ≠ tk1 N) : tickS N = quiS N 1 := by
  unfold tickS ageS
  rw [expG_no h 10 (by omega), srv_setl (setl_0 hs)]
  rfl
def stp (x : Int32) (N : Row) : Bool := !decide (x = mI) && decide (pl N x = mI)
def wF (x : Int32) : Nat → Row → Row
  | 0, N => N
  | n + 1, N => if stp x N = true then N else wF x n (tickS N)
theorem pl_cg {y : Int32} (h : eqR 2662 2695 R N) (hq : wq N ≤ 8) : pl R y = pl N y := by
  have : ∀ n, n ≤ 8 → plF R y n = plF N y n := by
    intro n
    induction n with
    | zero => intro _; rfl
    | succ n ih => intro hn; rw [plF, plF, h _ (by omega) (by omega), ih (by omega)]
  unfold pl
  rw [wq_cg h, this _ hq]
theorem qui_lo {d : Nat} : eqR 1 2695 (quiS R d) R := fun k h1 h2 => by unfold quiS; rw [addU_o (by omega), z_at (by omega)]
theorem hel_qui {d c : Nat} (hc : c < 10) : hel (quiS R d) c = hel R c := hel_cg (qui_lo.sub (by omega) (by omega)) hc
theorem cl_qui {d : Nat} (hR : WFc R) (hb : cl (R 0) + d < 134217728) : cl (quiS R d 0) = cl (R 0) + d := by
  rw [quiS_at0, hR.1.1, nI_add, cl_nI (n := cl (R 0)) (by omega), cl_nI (by omega)]
theorem qui_run {d : Nat} (hR : WFa R) (hs : setl R) (hst : stp x R = false) (hb : cl (R 0) + d < 134217728) (he : ∀ c, c < 10 → hel R c = true → cl (R 0) + d < cl (R (202 + 6 * c + 3))) : ∀ j, j ≤ d → WFa (quiS R j) ∧ ∀ r, wF x (j + r) R = wF x r (quiS R j)
  | 0, _ => ⟨by rw [quiS_0]; exact hR, fun r => by rw [quiS_0, Nat.zero_add]⟩
  | j + 1, hj => by
    obtain ⟨a, b⟩ := qui_run hR hs hst hb he j (by omega)
    have hsq : setl (quiS R j) := by unfold quiS; rw [addU_upd0]; exact setl_0 (setl_addU hR.1 hs)
    · have ht : tickS (quiS R j) = quiS R (j + 1) := by
        rw [tick_qui hsq, quiS_s]
        intro c hc hh
        rw [hel_qui hc] at hh
        have h1 := he c hc hh
        have h2 := ((hR.1.2.1.2 c hc).2.2.2.2.2 hh).1
        have h3 : quiS R j (202 + 6 * c + 3) = R (202 + 6 * c + 3) := qui_lo _ (by omega) (by omega)
        rw [h3, tk1_eq a.1.2.1, cl_qui hR.1.2.1 (by omega)]
        intro e
        rw [e, cl_nI (by omega)] at h1
        omega
      have hclj := cl_qui hR.1.2.1 (d := j) (by omega)
      refine ⟨?_, fun r => ?_⟩
      · rw [← ht]
        exact WFa_tick a (by rw [hclj]; omega)
      · rw [show j + 1 + r = j + (r + 1) by omega, b (r + 1)]
        show (if stp x (quiS R j) = true then _ else wF x r (tickS (quiS R j))) = _
        have hst2 : stp x (quiS R j) = false := by
          unfold stp at hst ⊢
          rw [pl_cg (qui_lo.sub (by omega) (by omega)) (wq_le hR.1.2.2.2.1)]
          exact hst
        rw [hst2, if_neg (by decide), ht]
end QU
section CP
variable {M : Mem} {g : Nat} {N R : Row}
theorem c_tickRest (hR : WFa R) (hb : cl (R 0) + 1 < 134217728) (hr : RD (M.1 g) (upd R 0 (tk1 R))) : ∃ M3 M4 M5, f_X1_loseExpired g M = some M3 ∧ f_X1_serve g M3 = some (nI (srvS (ageS R)).1, M4) ∧ f_X1_countUse g (nI 1) M4 = some M5 ∧ RD (M5.1 g) (tickS R) ∧ Fr g M M5 := by
  have main : ∃ M3, f_X1_loseExpired g M = some M3 ∧ RD (M3.1 g) (ageS R) ∧ Fr g M M3 := by
    unfold f_X1_loseExpired
    refine loopE (fun n (σ : Int32 × Mem) => L_X1_loseExpired_2 g n σ.1 σ.2) (fun i σ => ∃ M', σ = (nI i, M') ∧ RD (M'.1 g) (upd (expG R (tk1 R) i) 0 (tk1 R)) ∧ Fr g M M') 10 (fun n i σ hi hσ => ?_) (fun n σ hσ => ?_) FU (by decide) (nI 0, M) ⟨M, rfl, hr, Fr.rf⟩
    · obtain ⟨M1, rfl, a1, a2⟩ := hσ
      show ∃ s', L_X1_loseExpired_2 g (n + 1) _ _ = L_X1_loseExpired_2 g n _ _ ∧ _
      have hE := WFa_exp hR (tk1 R) i (by omega)
      have hst : expG R (tk1 R) (i + 1) = if (hel (expG R (tk1 R) i) i && decide (expG R (tk1 R) i (202 + 6 * i + 3) = tk1 R)) = true then loseS (expG R (tk1 R) i) i else expG R (tk1 R) i := rfl
      rw [hst]
      generalize expG R (tk1 R) i = E at a1 hE ⊢
      have h06 : M1.1 g 0 6 = tk1 R := a1.2.2.2.2.2.2.1.trans upd_same
      rw [L_X1_loseExpired_2, c_isHeldN a1.2.2.1 hi, z_hel, show f_X0_fact g (nI i) 2 M1 = _ from c_fact a1.2.2.1 (nI i) (w := 2) (by decide)]
      unfold B_X1_loseExpired_43
      cases hh : hel E i with
      | false =>
        refine ⟨(nI (i + 1), M1), ?_, M1, rfl, ?_, a2⟩
        · simp (disch := omega) only [↓ite_b2r, ↓ite_nb2r, ↓lit_m1, ↓lit_m2, lit_0, lit_1, lit_2, lit_3, lit_4, lit_5, lit_6, lit_7, lit_8, lit_9, lit_10, lit_11, lit_12, lit_13, lit_14, lit_15, lit_16, lit_17, lit_18, lit_19, lit_20, lit_21, lit_22, lit_23, lit_24, lit_25, lit_26, lit_27, lit_28, lit_29, lit_30, lit_31, lit_32, lit_33, lit_34, lit_35, lit_36, lit_40, lit_41, lit_42, lit_44, lit_48, lit_57, lit_59, lit_62, lit_63, lit_64, lit_82, lit_98, lit_99, lit_100, lit_101, lit_102, lit_103, lit_104, lit_105, lit_106, lit_107, lit_108, lit_109, lit_110, lit_111, lit_112, lit_113, lit_119, lit_120, lit_127, lit_128, lit_149, lit_150, lit_202, lit_240, lit_262, lit_894, lit_900, lit_999, lit_1000, lit_2000, lit_2662, lit_2663, lit_2695, lit_2701, lit_2702, lit_3602, lit_10806, nI_add, pk_mul, cl_nI, inb_nI, nI_leI, nI_ltI, nI_eq, nI_eq_m1, m1_eq_nI, nI_eq_m2, div_nI, rem_nI, Option.bind_some, b2_0, b2_1, isb_b2, if_true_, if_false_, ↓reduceIte, reduceCtorEq, not_true_eq_false, not_false_eq_true, bt_hasBit, ult, Nat.add_zero, false_and, true_and, and_true, and_false, Nat.reduceLeDiff, Nat.reduceEqDiff, Nat.reduceLT, Bool.toNat_true, Bool.toNat_false, decide_true, decide_false, Bool.not_true, Bool.not_false, Bool.false_and, Bool.true_and, Bool.and_true, Bool.and_false, Bool.or_false, Bool.true_or, Bool.or_true, Bool.false_or, Nat.not_le.mpr hi]
        · rw [Bool.false_and, if_neg (by decide)]; exact a1
      | true =>
        have hk : ck (upd E 0 (tk1 R)) i = true := by rw [z_ck]; exact hel_ck hh
        rw [fac_nI a1.2.2.1 hi hk (by decide), z_at (by omega)]
        by_cases hx : E (202 + 6 * i + (2 + 1)) = tk1 R
        · obtain ⟨M2, l1, l2, l3⟩ := c_lose' ⟨z_WFt hE.1.1, z_WFq hE.1.2.2.2.1, z_WFh hE.1.2.2.2.2.2⟩ a1 hi hk
          refine ⟨(nI (i + 1), M2), ?_, M2, rfl, ?_, a2.tr l3⟩
          · simp (disch := omega) only [↓ite_b2r, ↓ite_nb2r, ↓lit_m1, ↓lit_m2, lit_0, lit_1, lit_2, lit_3, lit_4, lit_5, lit_6, lit_7, lit_8, lit_9, lit_10, lit_11, lit_12, lit_13, lit_14, lit_15, lit_16, lit_17, lit_18, lit_19, lit_20, lit_21, lit_22, lit_23, lit_24, lit_25, lit_26, lit_27, lit_28, lit_29, lit_30, lit_31, lit_32, lit_33, lit_34, lit_35, lit_36, lit_40, lit_41, lit_42, lit_44, lit_48, lit_57, lit_59, lit_62, lit_63, lit_64, lit_82, lit_98, lit_99, lit_100, lit_101, lit_102, lit_103, lit_104, lit_105, lit_106, lit_107, lit_108, lit_109, lit_110, lit_111, lit_112, lit_113, lit_119, lit_120, lit_127, lit_128, lit_149, lit_150, lit_202, lit_240, lit_262, lit_894, lit_900, lit_999, lit_1000, lit_2000, lit_2662, lit_2663, lit_2695, lit_2701, lit_2702, lit_3602, lit_10806, nI_add, pk_mul, cl_nI, inb_nI, nI_leI, nI_ltI, nI_eq, nI_eq_m1, m1_eq_nI, nI_eq_m2, div_nI, rem_nI, Option.bind_some, b2_0, b2_1, isb_b2, if_true_, if_false_, ↓reduceIte, reduceCtorEq, not_true_eq_false, not_false_eq_true, bt_hasBit, ult, Nat.add_zero, false_and, true_and, and_true, and_false, Nat.reduceLeDiff, Nat.reduceEqDiff, Nat.reduceLT, Bool.toNat_true, Bool.toNat_false, decide_true, decide_false, Bool.not_true, Bool.not_false, Bool.false_and, Bool.true_and, Bool.and_true, Bool.and_false, Bool.or_false, Bool.true_or, Bool.or_true, Bool.false_or, Nat.not_le.mpr hi, h06, hx, l1]
          · rw [Bool.true_and, if_pos (decide_eq_true hx), ← z_lose]; exact l2
        · refine ⟨(nI (i + 1), M1), ?_, M1, rfl, ?_, a2⟩
          · simp (disch := omega) only [↓ite_b2r, ↓ite_nb2r, ↓lit_m1, ↓lit_m2, lit_0, lit_1, lit_2, lit_3, lit_4, lit_5, lit_6, lit_7, lit_8, lit_9, lit_10, lit_11, lit_12, lit_13, lit_14, lit_15, lit_16, lit_17, lit_18, lit_19, lit_20, lit_21, lit_22, lit_23, lit_24, lit_25, lit_26, lit_27, lit_28, lit_29, lit_30, lit_31, lit_32, lit_33, lit_34, lit_35, lit_36, lit_40, lit_41, lit_42, lit_44, lit_48, lit_57, lit_59, lit_62, lit_63, lit_64, lit_82, lit_98, lit_99, lit_100, lit_101, lit_102, lit_103, lit_104, lit_105, lit_106, lit_107, lit_108, lit_109, lit_110, lit_111, lit_112, lit_113, lit_119, lit_120, lit_127, lit_128, lit_149, lit_150, lit_202, lit_240, lit_262, lit_894, lit_900, lit_999, lit_1000, lit_2000, lit_2662, lit_2663, lit_2695, lit_2701, lit_2702, lit_3602, lit_10806, nI_add, pk_mul, cl_nI, inb_nI, nI_leI, nI_ltI, nI_eq, nI_eq_m1, m1_eq_nI, nI_eq_m2, div_nI, rem_nI, Option.bind_some, b2_0, b2_1, isb_b2, if_true_, if_false_, ↓reduceIte, reduceCtorEq, not_true_eq_false, not_false_eq_true, bt_hasBit, ult, Nat.add_zero, false_and, true_and, and_true, and_false, Nat.reduceLeDiff, Nat.reduceEqDiff, Nat.reduceLT, Bool.toNat_true, Bool.toNat_false, decide_true, decide_false, Bool.not_true, Bool.not_false, Bool.false_and, Bool.true_and, Bool.and_true, Bool.and_false, Bool.or_false, Bool.true_or, Bool.or_true, Bool.false_or, Nat.not_le.mpr hi, h06, hx]
          · rw [Bool.true_and, if_neg (by rw [decide_eq_false hx]; decide)]; exact a1
    · obtain ⟨M1, rfl, a1, a2⟩ := hσ
      refine ⟨M1, ?_, a1, a2⟩
      show L_X1_loseExpired_2 g (n + 1) _ _ = some M1
      rw [L_X1_loseExpired_2]
      simp (disch := omega) only [↓ite_b2r, ↓ite_nb2r, ↓lit_m1, ↓lit_m2, lit_0, lit_1, lit_2, lit_3, lit_4, lit_5, lit_6, lit_7, lit_8, lit_9, lit_10, lit_11, lit_12, lit_13, lit_14, lit_15, lit_16, lit_17, lit_18, lit_19, lit_20, lit_21, lit_22, lit_23, lit_24, lit_25, lit_26, lit_27, lit_28, lit_29, lit_30, lit_31, lit_32, lit_33, lit_34, lit_35, lit_36, lit_40, lit_41, lit_42, lit_44, lit_48, lit_57, lit_59, lit_62, lit_63, lit_64, lit_82, lit_98, lit_99, lit_100, lit_101, lit_102, lit_103, lit_104, lit_105, lit_106, lit_107, lit_108, lit_109, lit_110, lit_111, lit_112, lit_113, lit_119, lit_120, lit_127, lit_128, lit_149, lit_150, lit_202, lit_240, lit_262, lit_894, lit_900, lit_999, lit_1000, lit_2000, lit_2662, lit_2663, lit_2695, lit_2701, lit_2702, lit_3602, lit_10806, nI_add, pk_mul, cl_nI, inb_nI, nI_leI, nI_ltI, nI_eq, nI_eq_m1, m1_eq_nI, nI_eq_m2, div_nI, rem_nI, Option.bind_some, b2_0, b2_1, isb_b2, if_true_, if_false_, ↓reduceIte, reduceCtorEq, not_true_eq_false, not_false_eq_true, bt_hasBit, ult, Nat.add_zero, false_and, true_and, and_true, and_false, Nat.reduceLeDiff, Nat.reduceEqDiff, Nat.reduceLT, Bool.toNat_true, Bool.toNat_false, decide_true, decide_false, Bool.not_true, Bool.not_false, Bool.false_and, Bool.true_and, Bool.and_true, Bool.and_false, Bool.or_false, Bool.true_or, Bool.or_true, Bool.false_or, Nat.le_refl]
  obtain ⟨M3, a1, a2, a3⟩ := main
  have hA := WFa_age hR (by omega)
  obtain ⟨M4, b1, b2, b3⟩ := c_serve hA a2
  have hS := WFa_srv hA
  obtain ⟨M5, d1, d2, d3⟩ := c_countUse 1 hS.1.r (fun c hc _ => ⟨usr_eq hS.1.2.1 hc, usr_lt hS.1.2.1 hc⟩) b2
  exact ⟨M3, M4, M5, a1, b1, d1, d2, (a3.tr b3).tr d3⟩
theorem c_ticksToExpiry (hR : WFa R) (hr : RD (M.1 g) R) {left : Nat} (hl : 0 < left) (hl2 : left ≤ 2000) : ∃ sz, f_X1_ticksToExpiry g (nI left) M = some (nI sz) ∧ 0 < sz ∧ sz ≤ left ∧ ∀ c, c < 10 → hel R c = true → cl (R 0) + sz ≤ cl (R (202 + 6 * c + 3)) := by
  have main : ∃ v, f_X1_ticksToExpiry g (nI left) M = some v ∧ ∃ sz, v = nI sz ∧ 0 < sz ∧ sz ≤ left ∧ ∀ c, c < 10 → hel R c = true → cl (R 0) + sz ≤ cl (R (202 + 6 * c + 3)) := by
    unfold f_X1_ticksToExpiry
    refine loopE (fun n (σ : Int32 × Int32) => L_X1_ticksToExpiry_4 g M n σ.1 σ.2) (fun i σ => ∃ l, σ = (nI l, nI i) ∧ 0 < l ∧ l ≤ left ∧ ∀ c, c < i → hel R c = true → cl (R 0) + l ≤ cl (R (202 + 6 * c + 3))) 10 (fun n i σ hi hσ => ?_) (fun n σ hσ => ?_) FU (by decide) (nI left, nI 0) ⟨left, rfl, hl, Nat.le_refl _, fun c hc => absurd hc (Nat.not_lt_zero _)⟩
    · obtain ⟨l, rfl, l1, l2, l3⟩ := hσ
      show ∃ s', L_X1_ticksToExpiry_4 g M (n + 1) _ _ = L_X1_ticksToExpiry_4 g M n _ _ ∧ _
      rw [L_X1_ticksToExpiry_4, c_isHeldN hr.2.2.1 hi, show f_X0_fact g (nI i) 2 M = _ from c_fact hr.2.2.1 (nI i) (w := 2) (by decide)]
      unfold B_X1_ticksToExpiry_40
      cases hh : hel R i with
      | false =>
        refine ⟨(nI l, nI (i + 1)), ?_, l, rfl, l1, l2, fun c hc hc2 => ?_⟩
        · simp (disch := omega) only [↓ite_b2r, ↓ite_nb2r, ↓lit_m1, ↓lit_m2, lit_0, lit_1, lit_2, lit_3, lit_4, lit_5, lit_6, lit_7, lit_8, lit_9, lit_10, lit_11, lit_12, lit_13, lit_14, lit_15, lit_16, lit_17, lit_18, lit_19, lit_20, lit_21, lit_22, lit_23, lit_24, lit_25, lit_26, lit_27, lit_28, lit_29, lit_30, lit_31, lit_32, lit_33, lit_34, lit_35, lit_36, lit_40, lit_41, lit_42, lit_44, lit_48, lit_57, lit_59, lit_62, lit_63, lit_64, lit_82, lit_98, lit_99, lit_100, lit_101, lit_102, lit_103, lit_104, lit_105, lit_106, lit_107, lit_108, lit_109, lit_110, lit_111, lit_112, lit_113, lit_119, lit_120, lit_127, lit_128, lit_149, lit_150, lit_202, lit_240, lit_262, lit_894, lit_900, lit_999, lit_1000, lit_2000, lit_2662, lit_2663, lit_2695, lit_2701, lit_2702, lit_3602, lit_10806, nI_add, pk_mul, cl_nI, inb_nI, nI_leI, nI_ltI, nI_eq, nI_eq_m1, m1_eq_nI, nI_eq_m2, div_nI, rem_nI, Option.bind_some, b2_0, b2_1, isb_b2, if_true_, if_false_, ↓reduceIte, reduceCtorEq, not_true_eq_false, not_false_eq_true, bt_hasBit, ult, Nat.add_zero, false_and, true_and, and_true, and_false, Nat.reduceLeDiff, Nat.reduceEqDiff, Nat.reduceLT, Bool.toNat_true, Bool.toNat_false, decide_true, decide_false, Bool.not_true, Bool.not_false, Bool.false_and, Bool.true_and, Bool.and_true, Bool.and_false, Bool.or_false, Bool.true_or, Bool.or_true, Bool.false_or, Nat.not_le.mpr hi]
        · by_cases hci : c = i
          · subst hci; rw [hh] at hc2; cases hc2
          · exact l3 c (by omega) hc2
      | true =>
        obtain ⟨e1, e2, e3⟩ := (hR.1.2.1.2 i hi).2.2.2.2.2 hh
        have eT := hR.1.2.1.1
        have h06 : M.1 g 0 6 = nI (cl (R 0)) := hr.2.2.2.2.2.2.1.trans eT.1
        rw [fac_nI hr.2.2.1 hi (hel_ck hh) (by decide), show 202 + 6 * i + (2 + 1) = 202 + 6 * i + 3 from rfl, e1]
        have hTl := eT.2
        generalize hE : cl (R (202 + 6 * i + 3)) = E at e1 e2 e3
        have key : imin (nI l) (nI E - nI (cl (R 0))) = nI (min l (E - cl (R 0))) := by
          rw [pk_sub (by omega)]
          unfold imin
          by_cases h2 : E - cl (R 0) < l
          · rw [if_pos (by rw [nI_ltI (by omega) (by omega)]; exact h2), Nat.min_eq_right (by omega)]
          · rw [if_neg (by rw [nI_ltI (by omega) (by omega)]; exact h2), Nat.min_eq_left (by omega)]
        refine ⟨(nI (min l (E - cl (R 0))), nI (i + 1)), ?_, _, rfl, by omega, by omega, fun c hc hc2 => ?_⟩
        · simp (disch := omega) only [↓ite_b2r, ↓ite_nb2r, ↓lit_m1, ↓lit_m2, lit_0, lit_1, lit_2, lit_3, lit_4, lit_5, lit_6, lit_7, lit_8, lit_9, lit_10, lit_11, lit_12, lit_13, lit_14, lit_15, lit_16, lit_17, lit_18, lit_19, lit_20, lit_21, lit_22, lit_23, lit_24, lit_25, lit_26, lit_27, lit_28, lit_29, lit_30, lit_31, lit_32, lit_33, lit_34, lit_35, lit_36, lit_40, lit_41, lit_42, lit_44, lit_48, lit_57, lit_59, lit_62, lit_63, lit_64, lit_82, lit_98, lit_99, lit_100, lit_101, lit_102, lit_103, lit_104, lit_105, lit_106, lit_107, lit_108, lit_109, lit_110, lit_111, lit_112, lit_113, lit_119, lit_120, lit_127, lit_128, lit_149, lit_150, lit_202, lit_240, lit_262, lit_894, lit_900, lit_999, lit_1000, lit_2000, lit_2662, lit_2663, lit_2695, lit_2701, lit_2702, lit_3602, lit_10806, nI_add, pk_mul, cl_nI, inb_nI, nI_leI, nI_ltI, nI_eq, nI_eq_m1, m1_eq_nI, nI_eq_m2, div_nI, rem_nI, Option.bind_some, b2_0, b2_1, isb_b2, if_true_, if_false_, ↓reduceIte, reduceCtorEq, not_true_eq_false, not_false_eq_true, bt_hasBit, ult, Nat.add_zero, false_and, true_and, and_true, and_false, Nat.reduceLeDiff, Nat.reduceEqDiff, Nat.reduceLT, Bool.toNat_true, Bool.toNat_false, decide_true, decide_false, Bool.not_true, Bool.not_false, Bool.false_and, Bool.true_and, Bool.and_true, Bool.and_false, Bool.or_false, Bool.true_or, Bool.or_true, Bool.false_or, Nat.not_le.mpr hi, h06, key]
        · by_cases hci : c = i
          · subst hci; rw [hE]; omega
          · have := l3 c (by omega) hc2; omega
    · obtain ⟨l, rfl, l1, l2, l3⟩ := hσ
      refine ⟨nI l, ?_, l, rfl, l1, l2, l3⟩
      show L_X1_ticksToExpiry_4 g M (n + 1) _ _ = _
      have key : imax (1 : Int32) (nI l) = nI l := by
        unfold imax
        by_cases h2 : l = 1
        · subst h2; rw [if_neg (by decide)]; rfl
        · rw [if_pos (show (1 : Int32) < nI l from (show nI 1 < nI l from (nI_ltI (by omega) (by omega)).mpr (by omega)))]
      rw [L_X1_ticksToExpiry_4]
      dsimp only
      rw [key]
      simp (disch := omega) only [↓ite_b2r, ↓ite_nb2r, ↓lit_m1, ↓lit_m2, lit_0, lit_1, lit_2, lit_3, lit_4, lit_5, lit_6, lit_7, lit_8, lit_9, lit_10, lit_11, lit_12, lit_13, lit_14, lit_15, lit_16, lit_17, lit_18, lit_19, lit_20, lit_21, lit_22, lit_23, lit_24, lit_25, lit_26, lit_27, lit_28, lit_29, lit_30, lit_31, lit_32, lit_33, lit_34, lit_35, lit_36, lit_40, lit_41, lit_42, lit_44, lit_48, lit_57, lit_59, lit_62, lit_63, lit_64, lit_82, lit_98, lit_99, lit_100, lit_101, lit_102, lit_103, lit_104, lit_105, lit_106, lit_107, lit_108, lit_109, lit_110, lit_111, lit_112, lit_113, lit_119, lit_120, lit_127, lit_128, lit_149, lit_150, lit_202, lit_240, lit_262, lit_894, lit_900, lit_999, lit_1000, lit_2000, lit_2662, lit_2663, lit_2695, lit_2701, lit_2702, lit_3602, lit_10806, nI_add, pk_mul, cl_nI, inb_nI, nI_leI, nI_ltI, nI_eq, nI_eq_m1, m1_eq_nI, nI_eq_m2, div_nI, rem_nI, Option.bind_some, b2_0, b2_1, isb_b2, if_true_, if_false_, ↓reduceIte, reduceCtorEq, not_true_eq_false, not_false_eq_true, bt_hasBit, ult, Nat.add_zero, false_and, true_and, and_true, and_false, Nat.reduceLeDiff, Nat.reduceEqDiff, Nat.reduceLT, Bool.toNat_true, Bool.toNat_false, decide_true, decide_false, Bool.not_true, Bool.not_false, Bool.false_and, Bool.true_and, Bool.and_true, Bool.and_false, Bool.or_false, Bool.true_or, Bool.or_true, Bool.false_or, Nat.le_refl]
  obtain ⟨v, h1, sz, rfl, h2⟩ := main
  exact ⟨sz, h1, h2⟩
theorem c_step (hR : WFa R) (hr : RD (M.1 g) R) {sz : Nat} (h0 : 0 < sz) (hb : cl (R 0) + sz < 134217728) (hW : WFa (quiS R (sz - 1))) (k : Int32 → Int32 → Int32 → Mem → Option Mem) (x1 x2 x4 x5 : Int32) : ∃ b M', B_X1_passTicks_51 g k x1 x2 x4 x5 (nI sz) M = k (b2 b) (x4 - nI sz) (x5 + 1) M' ∧ RD (M'.1 g) (tickS (quiS R (sz - 1))) ∧ Fr g M M' ∧ (b = true → setl (tickS (quiS R (sz - 1)))) := by
  obtain ⟨M1, a1, a2, a3⟩ := c_countUse (M := M) (sz - 1) hR.1.r (fun c hc _ => ⟨usr_eq hR.1.2.1 hc, usr_lt hR.1.2.1 hc⟩) hr
  have e0 : M1.1 g 0 6 + nI sz = tk1 (quiS R (sz - 1)) := by
    rw [a2.2.2.2.2.2.2.1, addU_o (by omega)]
    unfold tk1
    rw [quiS_at0, Int32.add_assoc, nI_add, show sz - 1 + 1 = sz by omega]
  have hr2 : RD ((wr M1 g 0 6 (M1.1 g 0 6 + nI sz)).1 g) (upd (quiS R (sz - 1)) 0 (tk1 (quiS R (sz - 1)))) := by
    have := z_RD a2 (M1.1 g 0 6 + nI sz)
    rw [e0] at this ⊢
    have e1 : upd (quiS R (sz - 1)) 0 (tk1 (quiS R (sz - 1))) = upd (addU R (sz - 1) 10) 0 (tk1 (quiS R (sz - 1))) := by
      generalize tk1 (quiS R (sz - 1)) = y
      unfold quiS
      rw [addU_upd0, upd_upd]
    rw [e1]
    exact this
  have hbq : cl (quiS R (sz - 1) 0) + 1 < 134217728 := by rw [cl_qui hR.1.2.1 (by omega)]; omega
  obtain ⟨M3, M4, M5, b1, b2', b3, b4, b5⟩ := c_tickRest hW hbq hr2
  have hle := srvF_le (wq (ageS (quiS R (sz - 1)))) 0 (ageS (quiS R (sz - 1)))
  have hq8 := wq_le (WFa_age hW (by omega)).1.2.2.2.1
  refine ⟨decide ((srvS (ageS (quiS R (sz - 1)))).1 = 0), M5, ?_, b4, (a3.tr (Fr_wr _ _ _ _ _)).tr b5, fun hb0 => ?_⟩
  · unfold B_X1_passTicks_51 B_X1_passTicks_88
    rw [show nI sz - (1 : Int32) = nI (sz - 1) from pk_sub (b := 1) (by omega), a1, Option.bind_some, b1, Option.bind_some, b2', Option.bind_some]
    dsimp only
    rw [show f_X1_countUse g 1 M4 = some M5 from b3]
    have hs : (srvS (ageS (quiS R (sz - 1)))).1 < 2147483648 := by
      show (srvF (wq (ageS (quiS R (sz - 1)))) 0 (ageS (quiS R (sz - 1)))).1 < _
      omega
    generalize (srvS (ageS (quiS R (sz - 1)))).1 = z at hs ⊢
    by_cases hz : z = 0
    · subst hz
      rw [if_pos (show nI 0 = 0 from rfl), decide_eq_true rfl]
      rfl
    · rw [if_neg (show ¬ nI z = 0 from fun e => by have e2 : nI z = nI 0 := e; rw [nI_eq hs (by omega)] at e2; exact hz e2), decide_eq_false hz]
      rfl
  · obtain ⟨c1, c2⟩ := srv_zero (of_decide_eq_true hb0)
    unfold tickS
    rw [c1]
    exact setl_addU (WFa_age hW (by omega)).1 c2
theorem c_passTicks (hN : WFa N) (hr : RD (M.1 g) N) {n : Nat} (hn : n ≤ 2000) (hb : cl (N 0) + n < 134217728) (x : Int32) : ∃ M', f_X1_passTicks g (nI n) x M = some M' ∧ RD (M'.1 g) (wF x n N) ∧ Fr g M M' := by
  unfold f_X1_passTicks
  refine loopI (fun m (σ : Int32 × Int32 × Int32 × Mem) => L_X1_passTicks_8 g (nI n) x m σ.1 σ.2.1 σ.2.2.1 σ.2.2.2) (fun i σ => ∃ b left M' R, σ = (b2 b, nI left, nI i, M') ∧ left + i ≤ n ∧ WFa R ∧ RD (M'.1 g) R ∧ Fr g M M' ∧ cl (R 0) + left < 134217728 ∧ (b = true → setl R) ∧ wF x n N = wF x left R) (fun o => ∃ M', o = some M' ∧ RD (M'.1 g) (wF x n N) ∧ Fr g M M') n (fun m i σ hi hσ => ?_) (fun m σ hσ => ?_) FU (FU_lt (by omega)) (b2 false, nI n, nI 0, M) ⟨false, n, M, N, rfl, by omega, hN, hr, Fr.rf, hb, fun h => (by cases h), rfl⟩
  · obtain ⟨b, left, M1, R, rfl, h1, h2, h3, h4, h5, h6, h7⟩ := hσ
    show (∃ M', L_X1_passTicks_8 g (nI n) x (m + 1) _ _ _ _ = some M' ∧ _) ∨ ∃ s', L_X1_passTicks_8 g (nI n) x (m + 1) _ _ _ _ = L_X1_passTicks_8 g (nI n) x m _ _ _ _ ∧ _
    rw [L_X1_passTicks_8]
    dsimp only
    rw [if_neg (show ¬ nI n ≤ nI i from fun z => by rw [nI_leI (by omega) (by omega)] at z; omega)]
    by_cases hl : left = 0
    · refine Or.inl ⟨M1, ?_, ?_, h4⟩
      · rw [if_pos (show nI left ≤ 0 by rw [hl]; decide)]
      · rw [h7, hl]; exact h3
    · rw [if_neg (show ¬ nI left ≤ 0 from nI_nle (by omega) (by omega))]
      have hgo : stp x R = false → ∃ s' : Int32 × Int32 × Int32 × Mem, B_X1_passTicks_37 g (L_X1_passTicks_8 g (nI n) x m) (nI n) x (b2 b) (nI left) (nI i) M1 = L_X1_passTicks_8 g (nI n) x m s'.1 s'.2.1 s'.2.2.1 s'.2.2.2 ∧ ∃ b left M' R, s' = (b2 b, nI left, nI (i + 1), M') ∧ left + (i + 1) ≤ n ∧ WFa R ∧ RD (M'.1 g) R ∧ Fr g M M' ∧ cl (R 0) + left < 134217728 ∧ (b = true → setl R) ∧ wF x n N = wF x left R := by
        intro hst
        have fin : ∀ sz, 0 < sz → sz ≤ left → (1 < sz → setl R ∧ ∀ c, c < 10 → hel R c = true → cl (R 0) + sz ≤ cl (R (202 + 6 * c + 3))) → ∃ s' : Int32 × Int32 × Int32 × Mem, B_X1_passTicks_51 g (L_X1_passTicks_8 g (nI n) x m) (nI n) x (nI left) (nI i) (nI sz) M1 = L_X1_passTicks_8 g (nI n) x m s'.1 s'.2.1 s'.2.2.1 s'.2.2.2 ∧ ∃ b left M' R, s' = (b2 b, nI left, nI (i + 1), M') ∧ left + (i + 1) ≤ n ∧ WFa R ∧ RD (M'.1 g) R ∧ Fr g M M' ∧ cl (R 0) + left < 134217728 ∧ (b = true → setl R) ∧ wF x n N = wF x left R := by
          intro sz s0 s1 s2
          have hq : WFa (quiS R (sz - 1)) ∧ ∀ r, wF x (sz - 1 + r) R = wF x r (quiS R (sz - 1)) := by
            by_cases hs1 : sz = 1
            · subst hs1
              rw [quiS_0]
              exact ⟨h2, fun r => by rw [Nat.sub_self, Nat.zero_add]⟩
            · obtain ⟨t1, t2⟩ := s2 (by omega)
              exact qui_run h2 t1 hst (d := sz - 1) (by omega) (fun c hc hh => by have := t2 c hc hh; omega) (sz - 1) (Nat.le_refl _)
          obtain ⟨b', M5, q1, q2, q3, q4⟩ := c_step h2 h3 s0 (by omega) hq.1 (L_X1_passTicks_8 g (nI n) x m) (nI n) x (nI left) (nI i)
          have hclq := cl_qui (R := R) (d := sz - 1) h2.1.2.1 (by omega)
          have htk := WFa_tick hq.1 (by rw [hclq]; omega)
          have ht0 : cl (tickS (quiS R (sz - 1)) 0) = cl (R 0) + sz := by
            rw [tickS_0 hq.1 (by rw [hclq]; omega), hclq, cl_nI (by omega)]
            omega
          refine ⟨(b2 b', nI (left - sz), nI (i + 1), M5), ?_, b', left - sz, M5, _, rfl, by omega, htk, q2, h4.tr q3, by rw [ht0]; omega, q4, ?_⟩
          · rw [q1, pk_sub s1, nI_1]
          · rw [h7, show left = sz - 1 + (left - sz + 1) by omega, hq.2]
            show (if stp x (quiS R (sz - 1)) = true then _ else _) = _
            have hst2 : stp x (quiS R (sz - 1)) = false := by
              unfold stp at hst ⊢
              rw [pl_cg (qui_lo.sub (by omega) (by omega)) (wq_le h2.1.2.2.2.1)]
              exact hst
            rw [hst2, if_neg (by decide), show sz - 1 + (left - sz + 1) - sz = left - sz by omega]
        unfold B_X1_passTicks_37
        cases b with
        | false =>
          rw [if_pos (show b2 false = 0 from rfl)]
          exact fin 1 (by omega) (by omega) (fun z => by omega)
        | true =>
          obtain ⟨sz, t1, t2, t3, t4⟩ := c_ticksToExpiry h2 h3 (left := left) (by omega) (by omega)
          rw [if_neg (show ¬ b2 true = 0 by decide), t1, Option.bind_some]
          exact fin sz t2 t3 (fun _ => ⟨h6 rfl, t4⟩)
      by_cases hx : x = -1
      · rw [if_pos hx]
        exact Or.inr (hgo (by unfold stp; rw [decide_eq_true (show x = mI from hx)]; rfl))
      · rw [if_neg hx, c_placeOf h3.2.2.2.2.1 h2.1.2.2.2.1, Option.bind_some]
        by_cases hp : pl R x = -1
        · rw [if_pos hp]
          refine Or.inl ⟨M1, rfl, ?_, h4⟩
          obtain ⟨l, rfl⟩ : ∃ l, left = l + 1 := ⟨left - 1, by omega⟩
          rw [h7]
          show RD (M1.1 g) (if stp x R = true then R else _)
          rw [if_pos (by unfold stp; rw [decide_eq_false (show ¬ x = mI from hx), decide_eq_true (show pl R x = mI from hp)]; rfl)]
          exact h3
        · rw [if_neg hp]
          exact Or.inr (hgo (by unfold stp; rw [decide_eq_false (show ¬ pl R x = mI from hp), Bool.and_false]))
  · obtain ⟨b, left, M1, R, rfl, h1, h2, h3, h4, h5, h6, h7⟩ := hσ
    show ∃ M', L_X1_passTicks_8 g (nI n) x (m + 1) _ _ _ _ = some M' ∧ _
    refine ⟨M1, ?_, ?_, h4⟩
    · rw [L_X1_passTicks_8]
      dsimp only
      rw [if_pos (nI_leI (by omega) (by omega) |>.mpr (Nat.le_refl _))]
    · rw [h7, show left = 0 by omega]; exact h3
end CP
