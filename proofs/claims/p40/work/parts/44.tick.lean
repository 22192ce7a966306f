/-! ===== ticks ===== -/
/-- those that expire at x are lost -/
def expG (N : Row) (x : Int32) : Nat → Row
  | 0 => N
  | i + 1 => if (hel (expG N x i) i && decide (expG N x i (202 + 6 * i + 3) = x)) = true then loseS (expG N x i) i else expG N x i
theorem WFa_exp {N : Row} (h : WFa N) (x : Int32) : ∀ i, i ≤ 10 → WFa (expG N x i)
  | 0, _ => h
  | i + 1, hi => by
    rw [expG]
    by_cases h2 : (hel (expG N x i) i && decide (expG N x i (202 + 6 * i + 3) = x)) = true
    · rw [if_pos h2]; exact WFa_lose (WFa_exp h x i (by omega)) (by omega)
    · rw [if_neg h2]; exact WFa_exp h x i (by omega)
theorem expG_lo {N : Row} {x : Int32} : ∀ i, eqR 0 202 (expG N x i) N
  | 0 => eqR.rf
  | i + 1 => by
    rw [expG]
    by_cases h2 : (hel (expG N x i) i && decide (expG N x i (202 + 6 * i + 3) = x)) = true
    · rw [if_pos h2]; exact (loseS_lo i).tr (expG_lo i)
    · rw [if_neg h2]; exact expG_lo i
theorem expG_hi {N : Row} {x : Int32} : ∀ i, i ≤ 10 → eqR 262 3602 (expG N x i) N
  | 0, _ => eqR.rf
  | i + 1, hi => by
    rw [expG]
    by_cases h2 : (hel (expG N x i) i && decide (expG N x i (202 + 6 * i + 3) = x)) = true
    · rw [if_pos h2]; exact (loseS_hi (by omega)).tr (expG_hi i (by omega))
    · rw [if_neg h2]; exact expG_hi i (by omega)
theorem expG_o {N : Row} {x : Int32} {c w : Nat} (h0 : w ≠ 0) (h4 : w ≠ 4) (hw : w < 6) : ∀ i, expG N x i (202 + 6 * c + w) = N (202 + 6 * c + w)
  | 0 => rfl
  | i + 1 => by
    rw [expG]
    by_cases h2 : (hel (expG N x i) i && decide (expG N x i (202 + 6 * i + 3) = x)) = true
    · rw [if_pos h2, loseS_o h0 h4 hw]; exact expG_o h0 h4 hw i
    · rw [if_neg h2]; exact expG_o h0 h4 hw i
theorem expG_hel {N : Row} {x : Int32} {c : Nat} : ∀ i, hel (expG N x i) c = (hel N c && !(decide (c < i) && decide (N (202 + 6 * c + 3) = x)))
  | 0 => by simp [expG]
  | i + 1 => by
    have hlt : c ≠ i → decide (c < i + 1) = decide (c < i) := fun hc => by
      by_cases h2 : c < i
      · rw [decide_eq_true h2, decide_eq_true (by omega)]
      · rw [decide_eq_false h2, decide_eq_false (by omega)]
    rw [expG, expG_o (by omega) (by omega) (by omega)]
    by_cases h2 : (hel (expG N x i) i && decide (N (202 + 6 * i + 3) = x)) = true
    · rw [if_pos h2, loseS_hel, expG_hel i]
      rw [Bool.and_eq_true] at h2
      by_cases hc : c = i
      · subst hc
        rw [h2.2]
        simp
      · rw [hlt hc, decide_eq_false hc, Bool.not_false, Bool.and_true]
    · rw [if_neg h2, expG_hel i]
      by_cases hc : c = i
      · subst hc
        rw [expG_hel c] at h2
        simp only [Nat.lt_irrefl, decide_false, Bool.false_and, Bool.not_false, Bool.and_true, Bool.and_eq_true, not_and, Bool.not_eq_true] at h2
        cases hh : hel N c with
        | false => simp
        | true =>
          rw [h2 hh]
          simp
      · rw [hlt hc]
def tk1 (N : Row) : Int32 := N 0 + nI 1
theorem tk1_eq {N : Row} (h : WFc N) : tk1 N = nI (cl (N 0) + 1) := by unfold tk1; rw [h.1.1, nI_add, cl_nI (Nat.lt_trans h.1.2 (by decide))]
/-- the tick goes on, some are lost -/
def ageS (N : Row) : Row := upd (expG N (tk1 N) 10) 0 (tk1 N)
theorem WFa_age {N : Row} (h : WFa N) (hb : cl (N 0) + 1 < 1073741824) : WFa (ageS N) := by
  have hE := WFa_exp h (tk1 N) 10 (by omega)
  have h0 : expG N (tk1 N) 10 0 = N 0 := expG_lo 10 0 (by omega) (by omega)
  have et := tk1_eq h.1.2.1
  have hcl : cl (tk1 N) = cl (N 0) + 1 := by rw [et, cl_nI (by omega)]
  unfold ageS
  have hhe := fun c => expG_hel (N := N) (x := tk1 N) (c := c) 10
  have ho := fun c => expG_o (N := N) (x := tk1 N) (c := c) (w := 3) (by omega) (by omega) (by omega) 10
  generalize expG N (tk1 N) 10 = E at hE h0 hhe ho ⊢
  refine ⟨⟨z_WFt hE.1.1, ⟨?_, fun c hc => ?_⟩, z_WFl hE.1.2.2.1, z_WFq hE.1.2.2.2.1, fun u hu => ?_, z_WFh hE.1.2.2.2.2.2⟩, z_WFx hE.2⟩
  · unfold isV
    rw [upd_same, hcl]
    exact ⟨et, by omega⟩
  · obtain ⟨a1, a2, a3, a4, a5, a6⟩ := hE.1.2.1.2 c hc
    rw [z_isV (by omega), z_isV (by omega), z_isV (by omega), z_isV (by omega), z_isV (by omega), z_ck, z_us, z_sec, z_sh, z_hd, z_hel, z_at (by omega), upd_same]
    refine ⟨a1, a2, a3, a4, a5, fun hh => ?_⟩
    obtain ⟨b1, b2, b3⟩ := a6 hh
    refine ⟨b1, ?_, by rw [h0] at b3; omega⟩
    have hne : N (202 + 6 * c + 3) ≠ tk1 N := fun e => by
      rw [hhe c, decide_eq_true hc, Bool.true_and, decide_eq_true e] at hh
      simp at hh
    rw [h0] at b2
    by_cases h2 : cl (E (202 + 6 * c + 3)) = cl (N 0) + 1
    · rw [← ho c, et, ← h2] at hne
      exact absurd b1 hne
    · omega
  · have := hE.1.2.2.2.2.1 u hu
    rw [z_isV (by omega), upd_same]
    unfold isV at this ⊢
    rw [h0] at this
    exact ⟨this.1, by omega⟩
/-- how many a user holds; all users' ticks -/
def hcN (N : Row) (u : Nat) (i : Nat) : Nat := cntN (fun c => hel N c && decide (usr N c = u)) i
def addU (N : Row) (a i : Nat) : Row := fun k => if 2695 ≤ k ∧ k < 2701 then N k + nI (a * hcN N (k - 2695) i) else N k
theorem addU_o {N : Row} {a i k : Nat} (h : k < 2695 ∨ 2701 ≤ k) : addU N a i k = N k := if_neg (by omega)
theorem addU_u {N : Row} {a i u : Nat} (h : u < 6) : addU N a i (2695 + u) = N (2695 + u) + nI (a * hcN N u i) := by
  unfold addU
  rw [if_pos (by omega), show 2695 + u - 2695 = u by omega]
theorem add_0 (v : Int32) : v + nI 0 = v := Int32.add_zero v
theorem addU_0 (N : Row) (a : Nat) : addU N a 0 = N := by
  funext k
  unfold addU hcN cntN
  rw [Nat.mul_zero, add_0]
  split <;> rfl
theorem addU_s {N : Row} {a i : Nat} (hN : WFc N) (hi : i < 10) : addU N a (i + 1) = if hel N i = true then upd (addU N a i) (2695 + usr N i) (addU N a i (2695 + usr N i) + nI a) else addU N a i := by
  have hul := usr_lt hN hi
  funext k
  by_cases hh : hel N i = true
  · rw [if_pos hh]
    by_cases hk : k = 2695 + usr N i
    · subst hk
      rw [upd_same, addU_u hul, addU_u hul, Int32.add_assoc, nI_add]
      congr 2
      unfold hcN
      rw [cntN_s, hh, decide_eq_true rfl, Nat.mul_add]
      simp
    · rw [upd_other hk]
      unfold addU
      by_cases h2 : 2695 ≤ k ∧ k < 2701
      · rw [if_pos h2, if_pos h2]
        unfold hcN
        rw [cntN_s, decide_eq_false (show ¬ usr N i = k - 2695 by omega), Bool.and_false]
        rfl
      · rw [if_neg h2, if_neg h2]
  · rw [if_neg hh]
    unfold addU hcN
    rw [cntN_s, Bool.eq_false_iff.mpr hh, Bool.false_and]
    rfl
theorem hcN_le (N : Row) (u i : Nat) : hcN N u i ≤ i := cntN_le _ _
theorem addU_lo {N : Row} {a i : Nat} : eqR 0 2695 (addU N a i) N := fun k _ h => addU_o (by omega)
theorem addU_hi {N : Row} {a i : Nat} : eqR 2701 3602 (addU N a i) N := fun k h _ => addU_o (by omega)
theorem hel_addU {N : Row} {a i c : Nat} (hc : c < 10) : hel (addU N a i) c = hel N c := hel_cg (addU_lo.sub (by omega) (by omega)) hc
theorem usr_addU {N : Row} {a i c : Nat} (hc : c < 10) : usr (addU N a i) c = usr N c := usr_cg (addU_lo.sub (by omega) (by omega)) hc
theorem RD_addU {M : Mem} {D : Dk} {g : Nat} {N : Row} {a i : Nat} (hN : WFr N) (hr : RD D N) (hD : ∀ j, j ≠ 16 → M.1 g j = D j) (h16 : ∀ u, u < 6 → M.1 g 16 u = N (2695 + u) + nI (a * hcN N u i)) : RD (M.1 g) (addU N a i) := by
  obtain ⟨a1, a2, a3, a4, a5, a6, a7⟩ := hr
  have hlo : eqR 0 2695 (addU N a i) N := addU_lo
  have h00 : eqR 0 62 (addU N a i) N := hlo.sub (by omega) (by omega)
  exact ⟨RDt_D (hD 2 (by omega)) (hD 4 (by omega)) (hD 5 (by omega)) (hD 6 (by omega)) (hD 7 (by omega)) (RDt_cg h00 (hlo.sub (by omega) (by omega)) (hlo.sub (by omega) (by omega)) hN.1 a1), RDs_D (hD 1 (by omega)) (hD 3 (by omega)) (RDs_cg h00 a2), RDc_D (hD 8 (by omega)) (hD 9 (by omega)) (RDc_cg (hlo.sub (by omega) (by omega)) a3), RDk_D (hD 10 (by omega)) (hD 11 (by omega)) (RDk_cg h00 (hlo.sub (by omega) (by omega)) hN.1 a4), RDq_D (hD 12 (by omega)) (hD 13 (by omega)) (RDq_cg (hlo.sub (by omega) (by omega)) hN.2.1 a5), RDh_D (hD 14 (by omega)) (hD 15 (by omega)) (RDh_cg (addU_hi.sub (by omega) (by omega)) hN.2.2 a6), ⟨by rw [hD 0 (by omega), addU_o (by omega)]; exact a7.1, fun u hu => by rw [h16 u hu, addU_u hu]⟩⟩
theorem c_countUse {M : Mem} {g : Nat} {N : Row} (a : Nat) (hN : WFr N) (hc : ∀ c, c < 10 → ck N c = true → N (202 + 6 * c + 1) = nI (usr N c) ∧ usr N c < 6) (hr : RD (M.1 g) N) : ∃ M', f_X1_countUse g (nI a) M = some M' ∧ RD (M'.1 g) (addU N a 10) ∧ Fr g M M' := by
  have hrc := hr.2.2.1
  have main := loopE (fun n (σ : Int32 × Mem) => L_X1_countUse_2 g (nI a) n σ.1 σ.2) (fun i σ => ∃ M', σ = (nI i, M') ∧ (∀ u, u < 6 → M'.1 g 16 u = N (2695 + u) + nI (a * hcN N u i)) ∧ (∀ j, j ≠ 16 → M'.1 g j = M.1 g j) ∧ Fr g M M') (P := fun M' => (∀ u, u < 6 → M'.1 g 16 u = N (2695 + u) + nI (a * hcN N u 10)) ∧ (∀ j, j ≠ 16 → M'.1 g j = M.1 g j) ∧ Fr g M M') 10 (fun n i σ hi hσ => ?_) (fun n σ hσ => ?_) FU (by decide) (nI 0, M) ⟨M, rfl, fun u hu => ?_, fun _ _ => rfl, Fr.rf⟩
  · obtain ⟨M', e1, e2, e3, e4⟩ := main
    exact ⟨M', e1, RD_addU hN hr e3 e2, e4⟩
  · obtain ⟨M1, rfl, a1, a2, a3⟩ := hσ
    show ∃ s', L_X1_countUse_2 g _ (n + 1) _ _ = L_X1_countUse_2 g _ n _ _ ∧ _
    have hc1 : RDc (M1.1 g) N := RDc_D (a2 8 (by omega)) (a2 9 (by omega)) hrc
    rw [L_X1_countUse_2, c_isHeldN hc1 hi, show f_X0_fact g (nI i) 0 M1 = _ from c_fact hc1 (nI i) (w := 0) (by decide)]
    unfold B_X1_countUse_46
    cases hh : hel N i with
    | false =>
      refine ⟨(nI (i + 1), M1), ?_, M1, rfl, fun u hu => ?_, a2, a3⟩
      · simp (disch := omega) only [↓ite_b2r, ↓ite_nb2r, ↓lit_m1, ↓lit_m2, lit_0, lit_1, lit_2, lit_3, lit_4, lit_5, lit_6, lit_7, lit_8, lit_9, lit_10, lit_11, lit_12, lit_13, lit_14, lit_15, lit_16, lit_17, lit_18, lit_19, lit_20, lit_21, lit_22, lit_23, lit_24, lit_25, lit_26, lit_27, lit_28, lit_29, lit_30, lit_31, lit_32, lit_33, lit_34, lit_35, lit_36, lit_40, lit_41, lit_42, lit_44, lit_48, lit_57, lit_59, lit_62, lit_63, lit_64, lit_82, lit_98, lit_99, lit_100, lit_101, lit_102, lit_103, lit_104, lit_105, lit_106, lit_107, lit_108, lit_109, lit_110, lit_111, lit_112, lit_113, lit_119, lit_120, lit_127, lit_128, lit_149, lit_150, lit_202, lit_240, lit_262, lit_894, lit_900, lit_999, lit_1000, lit_2000, lit_2662, lit_2663, lit_2695, lit_2701, lit_2702, lit_3602, lit_10806, nI_add, pk_mul, cl_nI, inb_nI, nI_leI, nI_ltI, nI_eq, nI_eq_m1, m1_eq_nI, nI_eq_m2, div_nI, rem_nI, Option.bind_some, b2_0, b2_1, isb_b2, if_true_, if_false_, ↓reduceIte, reduceCtorEq, not_true_eq_false, not_false_eq_true, bt_hasBit, ult, Nat.add_zero, false_and, true_and, and_true, and_false, Nat.reduceLeDiff, Nat.reduceEqDiff, Nat.reduceLT, Bool.toNat_true, Bool.toNat_false, decide_true, decide_false, Bool.not_true, Bool.not_false, Bool.false_and, Bool.true_and, Bool.and_true, Bool.and_false, Bool.or_false, Bool.true_or, Bool.or_true, Bool.false_or, Nat.not_le.mpr hi]
      · rw [a1 u hu]
        unfold hcN
        rw [cntN_s, hh]
        rfl
    | true =>
      have hck := hel_ck hh
      obtain ⟨u1, u2⟩ := hc i hi hck
      refine ⟨(nI (i + 1), wr M1 g 16 (usr N i) (M1.1 g 16 (usr N i) + nI a)), ?_, _, rfl, fun u hu => ?_, fun j hj => (wr_other _ _ _ _ _ (by omega)).trans (a2 j hj), a3.tr (Fr_wr _ _ _ _ _)⟩
      · rw [fac_nI hc1 hi hck (by decide), show 202 + 6 * i + (0 + 1) = 202 + 6 * i + 1 from rfl, u1]
        simp (disch := omega) only [↓ite_b2r, ↓ite_nb2r, ↓lit_m1, ↓lit_m2, lit_0, lit_1, lit_2, lit_3, lit_4, lit_5, lit_6, lit_7, lit_8, lit_9, lit_10, lit_11, lit_12, lit_13, lit_14, lit_15, lit_16, lit_17, lit_18, lit_19, lit_20, lit_21, lit_22, lit_23, lit_24, lit_25, lit_26, lit_27, lit_28, lit_29, lit_30, lit_31, lit_32, lit_33, lit_34, lit_35, lit_36, lit_40, lit_41, lit_42, lit_44, lit_48, lit_57, lit_59, lit_62, lit_63, lit_64, lit_82, lit_98, lit_99, lit_100, lit_101, lit_102, lit_103, lit_104, lit_105, lit_106, lit_107, lit_108, lit_109, lit_110, lit_111, lit_112, lit_113, lit_119, lit_120, lit_127, lit_128, lit_149, lit_150, lit_202, lit_240, lit_262, lit_894, lit_900, lit_999, lit_1000, lit_2000, lit_2662, lit_2663, lit_2695, lit_2701, lit_2702, lit_3602, lit_10806, nI_add, pk_mul, cl_nI, inb_nI, nI_leI, nI_ltI, nI_eq, nI_eq_m1, m1_eq_nI, nI_eq_m2, div_nI, rem_nI, Option.bind_some, b2_0, b2_1, isb_b2, if_true_, if_false_, ↓reduceIte, reduceCtorEq, not_true_eq_false, not_false_eq_true, bt_hasBit, ult, Nat.add_zero, false_and, true_and, and_true, and_false, Nat.reduceLeDiff, Nat.reduceEqDiff, Nat.reduceLT, Bool.toNat_true, Bool.toNat_false, decide_true, decide_false, Bool.not_true, Bool.not_false, Bool.false_and, Bool.true_and, Bool.and_true, Bool.and_false, Bool.or_false, Bool.true_or, Bool.or_true, Bool.false_or, Nat.not_le.mpr hi, c_isUser, inR_nI, u2]
      · rw [wr_same]
        unfold hcN
        rw [cntN_s, hh, Bool.true_and]
        by_cases he : u = usr N i
        · subst he
          rw [upd_same, a1 _ hu, decide_eq_true rfl, Int32.add_assoc, nI_add, Nat.mul_add]
          unfold hcN
          simp
        · rw [upd_other he, a1 u hu, decide_eq_false (fun z => he z.symm)]
          rfl
  · obtain ⟨M1, rfl, a1, a2, a3⟩ := hσ
    refine ⟨M1, ?_, a1, a2, a3⟩
    show L_X1_countUse_2 g _ (n + 1) _ _ = some M1
    rw [L_X1_countUse_2]
    simp (disch := omega) only [↓ite_b2r, ↓ite_nb2r, ↓lit_m1, ↓lit_m2, lit_0, lit_1, lit_2, lit_3, lit_4, lit_5, lit_6, lit_7, lit_8, lit_9, lit_10, lit_11, lit_12, lit_13, lit_14, lit_15, lit_16, lit_17, lit_18, lit_19, lit_20, lit_21, lit_22, lit_23, lit_24, lit_25, lit_26, lit_27, lit_28, lit_29, lit_30, lit_31, lit_32, lit_33, lit_34, lit_35, lit_36, lit_40, lit_41, lit_42, lit_44, lit_48, lit_57, lit_59, lit_62, lit_63, lit_64, lit_82, lit_98, lit_99, lit_100, lit_101, lit_102, lit_103, lit_104, lit_105, lit_106, lit_107, lit_108, lit_109, lit_110, lit_111, lit_112, lit_113, lit_119, lit_120, lit_127, lit_128, lit_149, lit_150, lit_202, lit_240, lit_262, lit_894, lit_900, lit_999, lit_1000, lit_2000, lit_2662, lit_2663, lit_2695, lit_2701, lit_2702, lit_3602, lit_10806, nI_add, pk_mul, cl_nI, inb_nI, nI_leI, nI_ltI, nI_eq, nI_eq_m1, m1_eq_nI, nI_eq_m2, div_nI, rem_nI, Option.bind_some, b2_0, b2_1, isb_b2, if_true_, if_false_, ↓reduceIte, reduceCtorEq, not_true_eq_false, not_false_eq_true, bt_hasBit, ult, Nat.add_zero, false_and, true_and, and_true, and_false, Nat.reduceLeDiff, Nat.reduceEqDiff, Nat.reduceLT, Bool.toNat_true, Bool.toNat_false, decide_true, decide_false, Bool.not_true, Bool.not_false, Bool.false_and, Bool.true_and, Bool.and_true, Bool.and_false, Bool.or_false, Bool.true_or, Bool.or_true, Bool.false_or, Nat.le_refl]
  · unfold hcN cntN
    rw [Nat.mul_zero, add_0]
    exact hr.2.2.2.2.2.2.2 u hu
/-- one tick -/
def tickS (N : Row) : Row := addU (srvS (ageS N)).2 1 10
theorem srvF_o {x : Nat} (hx : x < 202 ∨ 2695 ≤ x) : ∀ r k N, WFa N → k + r = wq N → (srvF r k N).2 x = N x
  | 0, _, _, _, _ => rfl
  | r + 1, k, N, h, hk => by
    rw [srvF]
    by_cases ho : okS N k = true
    · rw [if_pos ho]
      obtain ⟨a, b, c⟩ := WF_grS h.1 h.2 (k := k) (by omega) ho
      show (srvF r k (grS N k)).2 x = N x
      rw [srvF_o hx r k (grS N k) ⟨a, b⟩ (by rw [c]; omega)]
      unfold okS at ho
      rw [Bool.and_eq_true] at ho
      have hlo : eqR 0 2662 (leaveS N k) N := leaveS_lo
      have hi : itsN (leaveS N k) (wus N k) (wse N k) (wsh N k) < 10 := by
        rw [its_cg (hlo.sub (by omega) (by omega)) (hlo.sub (by omega) (by omega)) h.1.1 h.1.2.1]
        exact (its_spec (Can_its ho.1)).1
      have hq8 := wq_le h.1.2.2.2.1
      unfold grS
      by_cases h2 : x < 202
      · rw [gr_lo x (by omega) h2, hlo x (by omega) (by omega)]
      · rw [gr_hi hi (by omega)]
        unfold leaveS
        rw [shF_ge (by omega), upd_other (by omega)]
    · rw [if_neg ho]
      exact srvF_o hx r (k + 1) N h (by omega)
theorem srvS_o {N : Row} (h : WFa N) {x : Nat} (hx : x < 202 ∨ 2695 ≤ x) : (srvS N).2 x = N x := srvF_o hx _ _ _ h (by omega)
theorem ageS_u {N : Row} {k : Nat} (h : 262 ≤ k) (h2 : k < 3602) : ageS N k = N k := by
  unfold ageS
  rw [z_at (by omega)]
  exact expG_hi 10 (by omega) k h h2
theorem ageS_0 {N : Row} : ageS N 0 = tk1 N := upd_same
theorem tickS_0 {N : Row} (h : WFa N) (hb : cl (N 0) + 1 < 134217728) : tickS N 0 = nI (cl (N 0) + 1) := by
  unfold tickS
  rw [addU_o (by omega), srvS_o (WFa_age h (by omega)) (by omega), ageS_0, tk1_eq h.1.2.1]
theorem WFa_tick {N : Row} (h : WFa N) (hb : cl (N 0) + 1 < 134217728) : WFa (tickS N) := by
  have hA := WFa_age h (by omega)
  have hS := WFa_srv hA
  have hu : ∀ u, u < 6 → (srvS (ageS N)).2 (2695 + u) = N (2695 + u) := fun u hu => by rw [srvS_o hA (by omega), ageS_u (by omega) (by omega)]
  have h0 : (srvS (ageS N)).2 0 = nI (cl (N 0) + 1) := by rw [srvS_o hA (by omega), ageS_0, tk1_eq h.1.2.1]
  unfold tickS
  generalize (srvS (ageS N)).2 = R at hS hu h0 ⊢
  have hlo : eqR 0 2695 (addU R 1 10) R := addU_lo
  have e0 : addU R 1 10 0 = R 0 := addU_o (by omega)
  refine ⟨⟨WFt_cg (hlo.sub (by omega) (by omega)) hS.1.1, WFc_cg (hlo.sub (by omega) (by omega)) (hlo.sub (by omega) (by omega)) hS.1.2.1, WFl_cg (hlo.sub (by omega) (by omega)) (hlo.sub (by omega) (by omega)) hS.1.2.2.1, WFq_cg (hlo.sub (by omega) (by omega)) (hlo.sub (by omega) (by omega)) hS.1.2.2.2.1, fun u hu6 => ?_, WFh_cg (addU_hi.sub (by omega) (by omega)) hS.1.2.2.2.2.2⟩, WFx_c (hlo.sub (by omega) (by omega)) (hlo.sub (by omega) (by omega)) hS.1.1 hS.1.2.1 hS.2⟩
  have hN := h.1.2.2.2.2.1 u hu6
  have hl := hcN_le R u 10
  unfold isV at hN ⊢
  rw [e0, h0, addU_u hu6, hu u hu6, cl_nI (n := cl (N 0) + 1) (by omega)]
  have e1 : N (2695 + u) + nI (1 * hcN R u 10) = nI (cl (N (2695 + u)) + hcN R u 10) := by
    rw [hN.1, nI_add, cl_nI (by omega), Nat.one_mul]
  rw [e1, cl_nI (by omega)]
  exact ⟨rfl, by omega⟩
/-! the reference's tick -/
theorem m_tickOn {M : Mem} (h : WFa (M.1 7 1)) (hb : cl (M.1 7 1 0) + 1 < 134217728) : ∃ M', f_X9_tickOn M = some M' ∧ M'.1 7 1 = tickS (M.1 7 1) ∧ FrN M M' := by
  have hw : M.1 7 1 0 + nI 1 = tk1 (M.1 7 1) := rfl
  unfold f_X9_tickOn
  refine loopE (fun n (σ : Int32 × Mem) => L_X9_tickOn_12 n σ.1 σ.2) (fun i σ => ∃ M', σ = (nI i, M') ∧ M'.1 7 1 = upd (expG (M.1 7 1) (tk1 (M.1 7 1)) i) 0 (tk1 (M.1 7 1)) ∧ FrN M M') 10 (fun n i σ hi hσ => ?_) (fun n σ hσ => ?_) FU (by decide) (nI 0, wr M 7 1 (cl (0 : Int32)) (M.1 7 1 (cl (0 : Int32)) + 1)) ⟨_, rfl, ?_, FrN_wr _ (by omega) _ _⟩
  · obtain ⟨M1, rfl, a1, a2⟩ := hσ
    show ∃ s', L_X9_tickOn_12 (n + 1) _ _ = L_X9_tickOn_12 n _ _ ∧ _
    have hE := WFa_exp h (tk1 (M.1 7 1)) i (by omega)
    have e0 : M1.1 7 1 0 = tk1 (M.1 7 1) := by rw [a1, upd_same]
    have e3 : M1.1 7 1 (202 + 6 * i + 3) = expG (M.1 7 1) (tk1 (M.1 7 1)) i (202 + 6 * i + 3) := by rw [a1, z_at (by omega)]
    have eh : hel (M1.1 7 1) i = hel (expG (M.1 7 1) (tk1 (M.1 7 1)) i) i := by rw [a1, z_hel]
    have es : M1.1 7 1 (202 + 6 * i + 5) = nI (sh (M1.1 7 1) i).toNat := by rw [a1, z_at (by omega), z_sh]; exact sh_eq hE.1.2.1 hi
    have hl := m_loses' (M := M1) es hi
    rw [L_X9_tickOn_12]
    unfold B_X9_tickOn_46
    cases hh : hel (expG (M.1 7 1) (tk1 (M.1 7 1)) i) i with
    | false =>
      refine ⟨(nI (i + 1), M1), ?_, M1, rfl, ?_, a2⟩
      · simp (disch := omega) only [↓ite_b2r, ↓ite_nb2r, ↓lit_m1, ↓lit_m2, lit_0, lit_1, lit_2, lit_3, lit_4, lit_5, lit_6, lit_7, lit_8, lit_9, lit_10, lit_11, lit_12, lit_13, lit_14, lit_15, lit_16, lit_17, lit_18, lit_19, lit_20, lit_21, lit_22, lit_23, lit_24, lit_25, lit_26, lit_27, lit_28, lit_29, lit_30, lit_31, lit_32, lit_33, lit_34, lit_35, lit_36, lit_40, lit_41, lit_42, lit_44, lit_48, lit_57, lit_59, lit_62, lit_63, lit_64, lit_82, lit_98, lit_99, lit_100, lit_101, lit_102, lit_103, lit_104, lit_105, lit_106, lit_107, lit_108, lit_109, lit_110, lit_111, lit_112, lit_113, lit_119, lit_120, lit_127, lit_128, lit_149, lit_150, lit_202, lit_240, lit_262, lit_894, lit_900, lit_999, lit_1000, lit_2000, lit_2662, lit_2663, lit_2695, lit_2701, lit_2702, lit_3602, lit_10806, nI_add, pk_mul, cl_nI, inb_nI, nI_leI, nI_ltI, nI_eq, nI_eq_m1, m1_eq_nI, nI_eq_m2, div_nI, rem_nI, Option.bind_some, b2_0, b2_1, isb_b2, if_true_, if_false_, ↓reduceIte, reduceCtorEq, not_true_eq_false, not_false_eq_true, bt_hasBit, ult, Nat.add_zero, false_and, true_and, and_true, and_false, Nat.reduceLeDiff, Nat.reduceEqDiff, Nat.reduceLT, Bool.toNat_true, Bool.toNat_false, decide_true, decide_false, Bool.not_true, Bool.not_false, Bool.false_and, Bool.true_and, Bool.and_true, Bool.and_false, Bool.or_false, Bool.true_or, Bool.or_true, Bool.false_or, Nat.not_le.mpr hi, m_hel, eh, hh]
      · rw [a1, expG, hh]
        rfl
    | true =>
      by_cases hx : expG (M.1 7 1) (tk1 (M.1 7 1)) i (202 + 6 * i + 3) = tk1 (M.1 7 1)
      · refine ⟨(nI (i + 1), wrs M1 7 1 (loseS (M1.1 7 1) i)), ?_, _, rfl, ?_, a2.tr (FrN_wrs _ (by omega) _)⟩
        · simp (disch := omega) only [↓ite_b2r, ↓ite_nb2r, ↓lit_m1, ↓lit_m2, lit_0, lit_1, lit_2, lit_3, lit_4, lit_5, lit_6, lit_7, lit_8, lit_9, lit_10, lit_11, lit_12, lit_13, lit_14, lit_15, lit_16, lit_17, lit_18, lit_19, lit_20, lit_21, lit_22, lit_23, lit_24, lit_25, lit_26, lit_27, lit_28, lit_29, lit_30, lit_31, lit_32, lit_33, lit_34, lit_35, lit_36, lit_40, lit_41, lit_42, lit_44, lit_48, lit_57, lit_59, lit_62, lit_63, lit_64, lit_82, lit_98, lit_99, lit_100, lit_101, lit_102, lit_103, lit_104, lit_105, lit_106, lit_107, lit_108, lit_109, lit_110, lit_111, lit_112, lit_113, lit_119, lit_120, lit_127, lit_128, lit_149, lit_150, lit_202, lit_240, lit_262, lit_894, lit_900, lit_999, lit_1000, lit_2000, lit_2662, lit_2663, lit_2695, lit_2701, lit_2702, lit_3602, lit_10806, nI_add, pk_mul, cl_nI, inb_nI, nI_leI, nI_ltI, nI_eq, nI_eq_m1, m1_eq_nI, nI_eq_m2, div_nI, rem_nI, Option.bind_some, b2_0, b2_1, isb_b2, if_true_, if_false_, ↓reduceIte, reduceCtorEq, not_true_eq_false, not_false_eq_true, bt_hasBit, ult, Nat.add_zero, false_and, true_and, and_true, and_false, Nat.reduceLeDiff, Nat.reduceEqDiff, Nat.reduceLT, Bool.toNat_true, Bool.toNat_false, decide_true, decide_false, Bool.not_true, Bool.not_false, Bool.false_and, Bool.true_and, Bool.and_true, Bool.and_false, Bool.or_false, Bool.true_or, Bool.or_true, Bool.false_or, Nat.not_le.mpr hi, m_hel, eh, hh, m_get, e3, e0, hx, hl]
        · rw [wrs_same, a1, z_lose, expG, hh, decide_eq_true hx]
          rfl
      · refine ⟨(nI (i + 1), M1), ?_, M1, rfl, ?_, a2⟩
        · simp (disch := omega) only [↓ite_b2r, ↓ite_nb2r, ↓lit_m1, ↓lit_m2, lit_0, lit_1, lit_2, lit_3, lit_4, lit_5, lit_6, lit_7, lit_8, lit_9, lit_10, lit_11, lit_12, lit_13, lit_14, lit_15, lit_16, lit_17, lit_18, lit_19, lit_20, lit_21, lit_22, lit_23, lit_24, lit_25, lit_26, lit_27, lit_28, lit_29, lit_30, lit_31, lit_32, lit_33, lit_34, lit_35, lit_36, lit_40, lit_41, lit_42, lit_44, lit_48, lit_57, lit_59, lit_62, lit_63, lit_64, lit_82, lit_98, lit_99, lit_100, lit_101, lit_102, lit_103, lit_104, lit_105, lit_106, lit_107, lit_108, lit_109, lit_110, lit_111, lit_112, lit_113, lit_119, lit_120, lit_127, lit_128, lit_149, lit_150, lit_202, lit_240, lit_262, lit_894, lit_900, lit_999, lit_1000, lit_2000, lit_2662, lit_2663, lit_2695, lit_2701, lit_2702, lit_3602, lit_10806, nI_add, pk_mul, cl_nI, inb_nI, nI_leI, nI_ltI, nI_eq, nI_eq_m1, m1_eq_nI, nI_eq_m2, div_nI, rem_nI, Option.bind_some, b2_0, b2_1, isb_b2, if_true_, if_false_, ↓reduceIte, reduceCtorEq, not_true_eq_false, not_false_eq_true, bt_hasBit, ult, Nat.add_zero, false_and, true_and, and_true, and_false, Nat.reduceLeDiff, Nat.reduceEqDiff, Nat.reduceLT, Bool.toNat_true, Bool.toNat_false, decide_true, decide_false, Bool.not_true, Bool.not_false, Bool.false_and, Bool.true_and, Bool.and_true, Bool.and_false, Bool.or_false, Bool.true_or, Bool.or_true, Bool.false_or, Nat.not_le.mpr hi, m_hel, eh, hh, m_get, e3, e0, hx]
        · rw [a1, expG, hh, decide_eq_false hx]
          rfl
  · obtain ⟨M1, rfl, a1, a2⟩ := hσ
    show ∃ b, L_X9_tickOn_12 (n + 1) _ _ = some b ∧ _
    have hA := WFa_age h (by omega)
    have a1' : M1.1 7 1 = ageS (M.1 7 1) := a1
    obtain ⟨M2, b1, b2, b3⟩ := m_serves (M := M1) (by rw [a1']; exact hA)
    rw [a1'] at b2
    have hS := WFa_srv hA
    rw [L_X9_tickOn_12]
    simp (disch := omega) only [↓ite_b2r, ↓ite_nb2r, ↓lit_m1, ↓lit_m2, lit_0, lit_1, lit_2, lit_3, lit_4, lit_5, lit_6, lit_7, lit_8, lit_9, lit_10, lit_11, lit_12, lit_13, lit_14, lit_15, lit_16, lit_17, lit_18, lit_19, lit_20, lit_21, lit_22, lit_23, lit_24, lit_25, lit_26, lit_27, lit_28, lit_29, lit_30, lit_31, lit_32, lit_33, lit_34, lit_35, lit_36, lit_40, lit_41, lit_42, lit_44, lit_48, lit_57, lit_59, lit_62, lit_63, lit_64, lit_82, lit_98, lit_99, lit_100, lit_101, lit_102, lit_103, lit_104, lit_105, lit_106, lit_107, lit_108, lit_109, lit_110, lit_111, lit_112, lit_113, lit_119, lit_120, lit_127, lit_128, lit_149, lit_150, lit_202, lit_240, lit_262, lit_894, lit_900, lit_999, lit_1000, lit_2000, lit_2662, lit_2663, lit_2695, lit_2701, lit_2702, lit_3602, lit_10806, nI_add, pk_mul, cl_nI, inb_nI, nI_leI, nI_ltI, nI_eq, nI_eq_m1, m1_eq_nI, nI_eq_m2, div_nI, rem_nI, Option.bind_some, b2_0, b2_1, isb_b2, if_true_, if_false_, ↓reduceIte, reduceCtorEq, not_true_eq_false, not_false_eq_true, bt_hasBit, ult, Nat.add_zero, false_and, true_and, and_true, and_false, Nat.reduceLeDiff, Nat.reduceEqDiff, Nat.reduceLT, Bool.toNat_true, Bool.toNat_false, decide_true, decide_false, Bool.not_true, Bool.not_false, Bool.false_and, Bool.true_and, Bool.and_true, Bool.and_false, Bool.or_false, Bool.true_or, Bool.or_true, Bool.false_or, Nat.le_refl, b1]
    clear n
    refine loopE (fun n (σ : Int32 × Mem) => L_X9_tickOn_58 n σ.1 σ.2) (fun i σ => ∃ M', σ = (nI i, M') ∧ M'.1 7 1 = addU (srvS (ageS (M.1 7 1))).2 1 i ∧ FrN M M') 10 (fun n i σ hi hσ => ?_) (fun n σ hσ => ?_) FU (by decide) (nI 0, M2) ⟨M2, rfl, by rw [b2, addU_0], a2.tr b3⟩
    · obtain ⟨M3, rfl, d1, d2⟩ := hσ
      show ∃ s', L_X9_tickOn_58 (n + 1) _ _ = L_X9_tickOn_58 n _ _ ∧ _
      have hs := addU_s (a := 1) hS.1.2.1 hi
      generalize (srvS (ageS (M.1 7 1))).2 = R at hS hs d1
      have eu : M3.1 7 1 (202 + 6 * i + 1) = nI (usr R i) := by rw [d1, addU_o (by omega)]; exact usr_eq hS.1.2.1 hi
      have hul := usr_lt hS.1.2.1 hi
      have eh : hel (M3.1 7 1) i = hel R i := by rw [d1, hel_addU hi]
      rw [L_X9_tickOn_58]
      unfold B_X9_tickOn_93
      cases hh : hel R i with
      | false =>
        refine ⟨(nI (i + 1), wr M3 7 1 (2695 + usr R i) (M3.1 7 1 (2695 + usr R i) + nI 0)), ?_, _, rfl, ?_, d2.tr (FrN_wr _ (by omega) _ _)⟩
        · simp (disch := omega) only [↓ite_b2r, ↓ite_nb2r, ↓lit_m1, ↓lit_m2, lit_0, lit_1, lit_2, lit_3, lit_4, lit_5, lit_6, lit_7, lit_8, lit_9, lit_10, lit_11, lit_12, lit_13, lit_14, lit_15, lit_16, lit_17, lit_18, lit_19, lit_20, lit_21, lit_22, lit_23, lit_24, lit_25, lit_26, lit_27, lit_28, lit_29, lit_30, lit_31, lit_32, lit_33, lit_34, lit_35, lit_36, lit_40, lit_41, lit_42, lit_44, lit_48, lit_57, lit_59, lit_62, lit_63, lit_64, lit_82, lit_98, lit_99, lit_100, lit_101, lit_102, lit_103, lit_104, lit_105, lit_106, lit_107, lit_108, lit_109, lit_110, lit_111, lit_112, lit_113, lit_119, lit_120, lit_127, lit_128, lit_149, lit_150, lit_202, lit_240, lit_262, lit_894, lit_900, lit_999, lit_1000, lit_2000, lit_2662, lit_2663, lit_2695, lit_2701, lit_2702, lit_3602, lit_10806, nI_add, pk_mul, cl_nI, inb_nI, nI_leI, nI_ltI, nI_eq, nI_eq_m1, m1_eq_nI, nI_eq_m2, div_nI, rem_nI, Option.bind_some, b2_0, b2_1, isb_b2, if_true_, if_false_, ↓reduceIte, reduceCtorEq, not_true_eq_false, not_false_eq_true, bt_hasBit, ult, Nat.add_zero, false_and, true_and, and_true, and_false, Nat.reduceLeDiff, Nat.reduceEqDiff, Nat.reduceLT, Bool.toNat_true, Bool.toNat_false, decide_true, decide_false, Bool.not_true, Bool.not_false, Bool.false_and, Bool.true_and, Bool.and_true, Bool.and_false, Bool.or_false, Bool.true_or, Bool.or_true, Bool.false_or, Nat.not_le.mpr hi, m_get, eu, m_hel, eh, hh]
        · rw [wr_same, add_0, hs, hh, if_neg (by decide), ← d1]
          funext k
          by_cases hk : k = 2695 + usr R i
          · rw [hk, upd_same]
          · rw [upd_other hk]
      | true =>
        refine ⟨(nI (i + 1), wr M3 7 1 (2695 + usr R i) (M3.1 7 1 (2695 + usr R i) + nI 1)), ?_, _, rfl, ?_, d2.tr (FrN_wr _ (by omega) _ _)⟩
        · simp (disch := omega) only [↓ite_b2r, ↓ite_nb2r, ↓lit_m1, ↓lit_m2, lit_0, lit_1, lit_2, lit_3, lit_4, lit_5, lit_6, lit_7, lit_8, lit_9, lit_10, lit_11, lit_12, lit_13, lit_14, lit_15, lit_16, lit_17, lit_18, lit_19, lit_20, lit_21, lit_22, lit_23, lit_24, lit_25, lit_26, lit_27, lit_28, lit_29, lit_30, lit_31, lit_32, lit_33, lit_34, lit_35, lit_36, lit_40, lit_41, lit_42, lit_44, lit_48, lit_57, lit_59, lit_62, lit_63, lit_64, lit_82, lit_98, lit_99, lit_100, lit_101, lit_102, lit_103, lit_104, lit_105, lit_106, lit_107, lit_108, lit_109, lit_110, lit_111, lit_112, lit_113, lit_119, lit_120, lit_127, lit_128, lit_149, lit_150, lit_202, lit_240, lit_262, lit_894, lit_900, lit_999, lit_1000, lit_2000, lit_2662, lit_2663, lit_2695, lit_2701, lit_2702, lit_3602, lit_10806, nI_add, pk_mul, cl_nI, inb_nI, nI_leI, nI_ltI, nI_eq, nI_eq_m1, m1_eq_nI, nI_eq_m2, div_nI, rem_nI, Option.bind_some, b2_0, b2_1, isb_b2, if_true_, if_false_, ↓reduceIte, reduceCtorEq, not_true_eq_false, not_false_eq_true, bt_hasBit, ult, Nat.add_zero, false_and, true_and, and_true, and_false, Nat.reduceLeDiff, Nat.reduceEqDiff, Nat.reduceLT, Bool.toNat_true, Bool.toNat_false, decide_true, decide_false, Bool.not_true, Bool.not_false, Bool.false_and, Bool.true_and, Bool.and_true, Bool.and_false, Bool.or_false, Bool.true_or, Bool.or_true, Bool.false_or, Nat.not_le.mpr hi, m_get, eu, m_hel, eh, hh]
        · rw [wr_same, hs, hh, if_pos rfl, d1]
    · obtain ⟨M3, rfl, d1, d2⟩ := hσ
      refine ⟨M3, ?_, d1, d2⟩
      show L_X9_tickOn_58 (n + 1) _ _ = some M3
      rw [L_X9_tickOn_58]
      simp (disch := omega) only [↓ite_b2r, ↓ite_nb2r, ↓lit_m1, ↓lit_m2, lit_0, lit_1, lit_2, lit_3, lit_4, lit_5, lit_6, lit_7, lit_8, lit_9, lit_10, lit_11, lit_12, lit_13, lit_14, lit_15, lit_16, lit_17, lit_18, lit_19, lit_20, lit_21, lit_22, lit_23, lit_24, lit_25, lit_26, lit_27, lit_28, lit_29, lit_30, lit_31, lit_32, lit_33, lit_34, lit_35, lit_36, lit_40, lit_41, lit_42, lit_44, lit_48, lit_57, lit_59, lit_62, lit_63, lit_64, lit_82, lit_98, lit_99, lit_100, lit_101, lit_102, lit_103, lit_104, lit_105, lit_106, lit_107, lit_108, lit_109, lit_110, lit_111, lit_112, lit_113, lit_119, lit_120, lit_127, lit_128, lit_149, lit_150, lit_202, lit_240, lit_262, lit_894, lit_900, lit_999, lit_1000, lit_2000, lit_2662, lit_2663, lit_2695, lit_2701, lit_2702, lit_3602, lit_10806, nI_add, pk_mul, cl_nI, inb_nI, nI_leI, nI_ltI, nI_eq, nI_eq_m1, m1_eq_nI, nI_eq_m2, div_nI, rem_nI, Option.bind_some, b2_0, b2_1, isb_b2, if_true_, if_false_, ↓reduceIte, reduceCtorEq, not_true_eq_false, not_false_eq_true, bt_hasBit, ult, Nat.add_zero, false_and, true_and, and_true, and_false, Nat.reduceLeDiff, Nat.reduceEqDiff, Nat.reduceLT, Bool.toNat_true, Bool.toNat_false, decide_true, decide_false, Bool.not_true, Bool.not_false, Bool.false_and, Bool.true_and, Bool.and_true, Bool.and_false, Bool.or_false, Bool.true_or, Bool.or_true, Bool.false_or, Nat.le_refl]
  · rw [wr_same]
    rfl
