/-! ===== steps: frames of the reference, small steps of check-outs and of the line ===== -/
def FrN (M M' : Mem) : Prop := (∀ g', g' ≠ 7 → M'.1 g' = M.1 g') ∧ M'.2 = M.2 ∧ (∀ j, j ≠ 1 → j ≠ 5 → j ≠ 6 → j ≠ 7 → M'.1 7 j = M.1 7 j)
theorem FrN.rf {M : Mem} : FrN M M := ⟨fun _ _ => rfl, rfl, fun _ _ _ _ _ => rfl⟩
theorem FrN.tr {M M' M'' : Mem} (h1 : FrN M M') (h2 : FrN M' M'') : FrN M M'' := ⟨fun g' hg => (h2.1 g' hg).trans (h1.1 g' hg), h2.2.1.trans h1.2.1, fun j a b c d => (h2.2.2 j a b c d).trans (h1.2.2 j a b c d)⟩
theorem FrN_wrs (M : Mem) {j : Nat} (hj : j = 1 ∨ j = 5 ∨ j = 6 ∨ j = 7) (f : Nat → Int32) : FrN M (wrs M 7 j f) := ⟨fun _ h => wrs_ng _ _ _ h, rfl, fun j' a b c d => wrs_other _ _ _ _ (by omega)⟩
theorem FrN_wr (M : Mem) {j : Nat} (hj : j = 1 ∨ j = 5 ∨ j = 6 ∨ j = 7) (k : Nat) (v : Int32) : FrN M (wr M 7 j k v) := FrN_wrs M hj _
/-- held check-outs do not conflict -/
def WFx (N : Row) : Prop := ∀ c c', c < 10 → c' < 10 → c ≠ c' → hel N c = true → hel N c' = true → Ov N (sec N c) (sec N c') = true → sh N c = true ∧ sh N c' = true
theorem Ov_cg {R N : Row} (h : eqR 0 62 R N) (hN : WFt N) {s t : Nat} (hs : s < 20) (hu : us N s = true) (ht : t < 20) (hv : us N t = true) : Ov R s t = Ov N s t := by
  unfold Ov
  rw [An_cg h hN hs hu, An_cg h hN ht hv]
theorem WFx_sub {R N : Row} (h0 : eqR 0 62 R N) (hN : WFt N) (hc : WFc N) (h : ∀ c, c < 10 → hel R c = true → hel N c = true ∧ sec R c = sec N c ∧ sh R c = sh N c) (hx : WFx N) : WFx R := by
  intro c c' a1 a2 a3 a4 a5 a6
  obtain ⟨b1, b2, b3⟩ := h c a1 a4
  obtain ⟨d1, d2, d3⟩ := h c' a2 a5
  have e1 := hel_ck b1
  have e2 := hel_ck d1
  rw [b2, d2, Ov_cg h0 hN (sec_lt hc a1 e1) (sec_us hc a1 e1) (sec_lt hc a2 e2) (sec_us hc a2 e2)] at a6
  rw [b3, d3]
  exact hx c c' a1 a2 a3 b1 d1 a6
/-- steps that change facts of check-outs alone, and open none -/
theorem WF_chk {R N : Row} (h0 : eqR 0 202 R N) (h1 : eqR 262 3602 R N) (hc : WFc R) (hN : WF N) : WF R :=
  ⟨WFt_cg (h0.sub (by omega) (by omega)) hN.1, hc, WFl_cg (h0.sub (by omega) (by omega)) (h1.sub (by omega) (by omega)) hN.2.2.1, WFq_cg (h0.sub (by omega) (by omega)) (h1.sub (by omega) (by omega)) hN.2.2.2.1, WFu_cg (h0 0 (by omega) (by omega)) (h1.sub (by omega) (by omega)) hN.2.2.2.2.1, WFh_cg (h1.sub (by omega) (by omega)) hN.2.2.2.2.2⟩
/-- the half of it that does not speak of time -/
def WFr (N : Row) : Prop := WFt N ∧ WFq N ∧ WFh N
theorem WF.r {N : Row} (h : WF N) : WFr N := ⟨h.1, h.2.2.2.1, h.2.2.2.2.2⟩
theorem RD_chk {D D' : Dk} {R N : Row} (h0 : eqR 0 202 R N) (h1 : eqR 262 3602 R N) (hN : WFr N) (hck : ∀ c, c < 10 → ck R c = true → ck N c = true ∧ sec R c = sec N c) (hD : ∀ j, j ≠ 8 → j ≠ 9 → D' j = D j) (hc : RDc D' R) (h : RD D N) : RD D' R := by
  obtain ⟨a1, a2, a3, a4, a5, a6, a7⟩ := h
  have h00 : eqR 0 62 R N := h0.sub (by omega) (by omega)
  refine ⟨RDt_D (hD 2 (by omega) (by omega)) (hD 4 (by omega) (by omega)) (hD 5 (by omega) (by omega)) (hD 6 (by omega) (by omega)) (hD 7 (by omega) (by omega)) (RDt_cg h00 (h0.sub (by omega) (by omega)) (h0.sub (by omega) (by omega)) hN.1 a1),
    RDs_D (hD 1 (by omega) (by omega)) (hD 3 (by omega) (by omega)) (RDs_cg h00 a2), hc, RDk_D (D := D) (hD 10 (by omega) (by omega)) (hD 11 (by omega) (by omega)) ?_,
    RDq_D (hD 12 (by omega) (by omega)) (hD 13 (by omega) (by omega)) (RDq_cg (h1.sub (by omega) (by omega)) hN.2.1 a5),
    RDh_D (hD 14 (by omega) (by omega)) (hD 15 (by omega) (by omega)) (RDh_cg (h1.sub (by omega) (by omega)) hN.2.2 a6),
    RDu_D (hD 0 (by omega) (by omega)) (hD 16 (by omega) (by omega)) (RDu_cg (h0 0 (by omega) (by omega)) (h1.sub (by omega) (by omega)) a7)⟩
  intro c s l hc hs hl hk hu ha
  obtain ⟨b1, b2⟩ := hck c hc hk
  rw [us_cg h00 hs] at hu
  rw [b2, An_cg h00 hN.1 hs hu] at ha
  rw [h1 _ (by omega) (by omega), h1 (262 + 240 * c + 12 * s + 2 * l + 1) (by omega) (by omega)]
  exact a4 c s l hc hs hl b1 hu ha
/-- one fact of one check-out -/
def setC (N : Row) (c w : Nat) (v : Int32) : Row := upd N (202 + 6 * c + w) v
theorem setC_o {N : Row} {c w k : Nat} {v : Int32} (h : k ≠ 202 + 6 * c + w) : setC N c w v k = N k := upd_other h
theorem setC_s {N : Row} {c w : Nat} {v : Int32} : setC N c w v (202 + 6 * c + w) = v := upd_same
theorem setC_lo {N : Row} {c w : Nat} (v : Int32) : eqR 0 202 (setC N c w v) N := fun k _ h => setC_o (by omega)
theorem setC_hi {N : Row} {c w : Nat} (hc : c < 10) (hw : w < 6) (v : Int32) : eqR 262 3602 (setC N c w v) N := fun k h _ => setC_o (by omega)
/-- the check-out ceases to be -/
def closeS (N : Row) (c : Nat) : Row := setC N c 0 (nI 0)
theorem closeS_ck {N : Row} {c c' : Nat} : ck (closeS N c) c' = (ck N c' && !decide (c' = c)) := by
  unfold ck closeS
  by_cases h : c' = c
  · subst h
    rw [show 202 + 6 * c' = 202 + 6 * c' + 0 from rfl, setC_s]
    simp (disch := omega) only [↓ite_b2r, ↓ite_nb2r, ↓lit_m1, ↓lit_m2, lit_0, lit_1, lit_2, lit_3, lit_4, lit_5, lit_6, lit_7, lit_8, lit_9, lit_10, lit_11, lit_12, lit_13, lit_14, lit_15, lit_16, lit_17, lit_18, lit_19, lit_20, lit_21, lit_22, lit_23, lit_24, lit_25, lit_26, lit_27, lit_28, lit_29, lit_30, lit_31, lit_32, lit_33, lit_34, lit_35, lit_36, lit_40, lit_41, lit_42, lit_44, lit_48, lit_57, lit_59, lit_62, lit_63, lit_64, lit_82, lit_98, lit_99, lit_100, lit_101, lit_102, lit_103, lit_104, lit_105, lit_106, lit_107, lit_108, lit_109, lit_110, lit_111, lit_112, lit_113, lit_119, lit_120, lit_127, lit_128, lit_149, lit_150, lit_202, lit_240, lit_262, lit_894, lit_900, lit_999, lit_1000, lit_2000, lit_2662, lit_2663, lit_2695, lit_2701, lit_2702, lit_3602, lit_10806, nI_add, pk_mul, cl_nI, inb_nI, nI_leI, nI_ltI, nI_eq, nI_eq_m1, m1_eq_nI, nI_eq_m2, div_nI, rem_nI, Option.bind_some, b2_0, b2_1, isb_b2, if_true_, if_false_, ↓reduceIte, reduceCtorEq, not_true_eq_false, not_false_eq_true, bt_hasBit, ult, Nat.add_zero, false_and, true_and, and_true, and_false, Nat.reduceLeDiff, Nat.reduceEqDiff, Nat.reduceLT, Bool.toNat_true, Bool.toNat_false, decide_true, decide_false, Bool.not_true, Bool.not_false, Bool.false_and, Bool.true_and, Bool.and_true, Bool.and_false, Bool.or_false, Bool.true_or, Bool.or_true, Bool.false_or]
  · rw [setC_o (by omega), decide_eq_false h, Bool.not_false, Bool.and_true]
theorem closeS_o {N : Row} {c c' w : Nat} (hw : 0 < w) (hw2 : w < 6) : closeS N c (202 + 6 * c' + w) = N (202 + 6 * c' + w) := setC_o (by omega)
theorem closeS_hel {N : Row} {c c' : Nat} : hel (closeS N c) c' = (hel N c' && !decide (c' = c)) := by
  unfold hel
  rw [closeS_ck, show hd (closeS N c) c' = hd N c' from by unfold hd; rw [closeS_o (by omega) (by omega)]]
  cases ck N c' <;> cases hd N c' <;> cases decide (c' = c) <;> rfl
theorem closeS_sec {N : Row} {c c' : Nat} : sec (closeS N c) c' = sec N c' := by unfold sec; rw [closeS_o (by omega) (by omega)]
theorem closeS_sh {N : Row} {c c' : Nat} : sh (closeS N c) c' = sh N c' := by unfold sh; rw [closeS_o (by omega) (by omega)]
theorem closeS_hd {N : Row} {c c' : Nat} : hd (closeS N c) c' = hd N c' := by unfold hd; rw [closeS_o (by omega) (by omega)]
theorem WFc_close {N : Row} (hN : WFc N) {c : Nat} (hc : c < 10) : WFc (closeS N c) := by
  have h0 : closeS N c 0 = N 0 := setC_o (by omega)
  refine ⟨isV_cg h0 hN.1, fun c' hc' => ?_⟩
  obtain ⟨a1, a2, a3, a4, a5, a6⟩ := hN.2 c' hc'
  refine ⟨?_, isV_cg (closeS_o (by omega) (by omega)) a2, isV_cg (closeS_o (by omega) (by omega)) a3, isV_cg (closeS_o (by omega) (by omega)) a4, fun hk => ?_, fun hk => ?_⟩
  · by_cases h : c' = c
    · subst h
      unfold isV
      rw [show closeS N c' (202 + 6 * c') = nI 0 from setC_s, cl_nI (by omega)]
      exact ⟨rfl, by omega⟩
    · exact isV_cg (setC_o (by omega)) a1
  · rw [closeS_ck, Bool.and_eq_true] at hk
    obtain ⟨b1, b2, b3⟩ := a5 hk.1
    rw [closeS_sec, closeS_sh, closeS_hd]
    have e62 : eqR 0 62 (closeS N c) N := fun k _ h => setC_o (by omega)
    refine ⟨isV_cg (closeS_o (by omega) (by omega)) b1, ?_, b3⟩
    rw [us_cg e62 (s := sec N c') b1.2]
    exact b2
  · rw [closeS_hel, Bool.and_eq_true] at hk
    rw [h0, closeS_o (by omega) (by omega)]
    exact a6 hk.1
theorem WF_close {N : Row} (hN : WF N) {c : Nat} (hc : c < 10) : WF (closeS N c) := WF_chk (setC_lo _) (setC_hi hc (by omega) _) (WFc_close hN.2.1 hc) hN
theorem WFx_close {N : Row} (hN : WF N) (hx : WFx N) (c : Nat) : WFx (closeS N c) :=
  WFx_sub ((setC_lo _).sub (by omega) (by omega)) hN.1 hN.2.1 (fun c' _ h => by rw [closeS_hel, Bool.and_eq_true] at h; exact ⟨h.1, closeS_sec, closeS_sh⟩) hx
theorem bt_mI {i : Nat} (h : i < 32) : bt mI i = true := bt_m1 i h
theorem c_close' {M : Mem} {g : Nat} {N : Row} (hN : WFr N) (h : RD (M.1 g) N) {c : Nat} (hc : c < 10) (hk : ck N c = true) : ∃ M', f_X0_close g (nI c) M = some M' ∧ RD (M'.1 g) (closeS N c) ∧ Fr g M M' := by
  have hrc := h.2.2.1
  refine ⟨wr M g 8 3 (M.1 g 8 3 &&& ((nI 1 <<< (nI c &&& nI 31)) ^^^ mI)), ?_, ?_, Fr_wr _ _ _ _ _⟩
  · unfold f_X0_close
    rw [c_ohas hrc, isC_nI hc, hk]
    simp (disch := omega) only [↓ite_b2r, ↓ite_nb2r, ↓lit_m1, ↓lit_m2, lit_0, lit_1, lit_2, lit_3, lit_4, lit_5, lit_6, lit_7, lit_8, lit_9, lit_10, lit_11, lit_12, lit_13, lit_14, lit_15, lit_16, lit_17, lit_18, lit_19, lit_20, lit_21, lit_22, lit_23, lit_24, lit_25, lit_26, lit_27, lit_28, lit_29, lit_30, lit_31, lit_32, lit_33, lit_34, lit_35, lit_36, lit_40, lit_41, lit_42, lit_44, lit_48, lit_57, lit_59, lit_62, lit_63, lit_64, lit_82, lit_98, lit_99, lit_100, lit_101, lit_102, lit_103, lit_104, lit_105, lit_106, lit_107, lit_108, lit_109, lit_110, lit_111, lit_112, lit_113, lit_119, lit_120, lit_127, lit_128, lit_149, lit_150, lit_202, lit_240, lit_262, lit_894, lit_900, lit_999, lit_1000, lit_2000, lit_2662, lit_2663, lit_2695, lit_2701, lit_2702, lit_3602, lit_10806, nI_add, pk_mul, cl_nI, inb_nI, nI_leI, nI_ltI, nI_eq, nI_eq_m1, m1_eq_nI, nI_eq_m2, div_nI, rem_nI, Option.bind_some, b2_0, b2_1, isb_b2, if_true_, if_false_, ↓reduceIte, reduceCtorEq, not_true_eq_false, not_false_eq_true, bt_hasBit, ult, Nat.add_zero, false_and, true_and, and_true, and_false, Nat.reduceLeDiff, Nat.reduceEqDiff, Nat.reduceLT, Bool.toNat_true, Bool.toNat_false, decide_true, decide_false, Bool.not_true, Bool.not_false, Bool.false_and, Bool.true_and, Bool.and_true, Bool.and_false, Bool.or_false, Bool.true_or, Bool.or_true, Bool.false_or, b2_t]
  · refine RD_chk (setC_lo _) (setC_hi hc (by omega) _) hN (fun c' _ hk' => ?_) (fun j h8 h9 => wr_other _ _ _ _ _ (by omega)) ⟨fun i hi => ?_, fun c' hc' hk' => ?_⟩ h
    · rw [closeS_ck, Bool.and_eq_true] at hk'
      exact ⟨hk'.1, closeS_sec⟩
    · rw [wr_same, upd_same, bt_and, bt_not hi, bt_one c (by omega) i hi, hrc.1 i hi, closeS_ck]
      cases decide (i < 10) <;> rfl
    · rw [closeS_ck, Bool.and_eq_true] at hk'
      rw [wr_other _ _ _ _ _ (by omega), closeS_o (by omega) (by omega), closeS_o (by omega) (by omega), closeS_o (by omega) (by omega), closeS_o (by omega) (by omega), closeS_o (by omega) (by omega)]
      exact hrc.2 c' hc' hk'.1
theorem c_close {M : Mem} {g : Nat} {N : Row} (hN : WF N) (h : RD (M.1 g) N) {c : Nat} (hc : c < 10) (hk : ck N c = true) : ∃ M', f_X0_close g (nI c) M = some M' ∧ RD (M'.1 g) (closeS N c) ∧ Fr g M M' := c_close' hN.r h hc hk
/-- a fact of a check-out (expiry, held) is set -/
theorem c_setFact {M : Mem} {g : Nat} {c w : Nat} (hc : c < 10) (hw : w < 5) (v : Int32) : f_X0_setFact g (nI c) (nI w) v M = some (wr M g 9 (5 * c + w) v) := by
  unfold f_X0_setFact
  simp (disch := omega) only [↓ite_b2r, ↓ite_nb2r, ↓lit_m1, ↓lit_m2, lit_0, lit_1, lit_2, lit_3, lit_4, lit_5, lit_6, lit_7, lit_8, lit_9, lit_10, lit_11, lit_12, lit_13, lit_14, lit_15, lit_16, lit_17, lit_18, lit_19, lit_20, lit_21, lit_22, lit_23, lit_24, lit_25, lit_26, lit_27, lit_28, lit_29, lit_30, lit_31, lit_32, lit_33, lit_34, lit_35, lit_36, lit_40, lit_41, lit_42, lit_44, lit_48, lit_57, lit_59, lit_62, lit_63, lit_64, lit_82, lit_98, lit_99, lit_100, lit_101, lit_102, lit_103, lit_104, lit_105, lit_106, lit_107, lit_108, lit_109, lit_110, lit_111, lit_112, lit_113, lit_119, lit_120, lit_127, lit_128, lit_149, lit_150, lit_202, lit_240, lit_262, lit_894, lit_900, lit_999, lit_1000, lit_2000, lit_2662, lit_2663, lit_2695, lit_2701, lit_2702, lit_3602, lit_10806, nI_add, pk_mul, cl_nI, inb_nI, nI_leI, nI_ltI, nI_eq, nI_eq_m1, m1_eq_nI, nI_eq_m2, div_nI, rem_nI, Option.bind_some, b2_0, b2_1, isb_b2, if_true_, if_false_, ↓reduceIte, reduceCtorEq, not_true_eq_false, not_false_eq_true, bt_hasBit, ult, Nat.add_zero, false_and, true_and, and_true, and_false, Nat.reduceLeDiff, Nat.reduceEqDiff, Nat.reduceLT, Bool.toNat_true, Bool.toNat_false, decide_true, decide_false, Bool.not_true, Bool.not_false, Bool.false_and, Bool.true_and, Bool.and_true, Bool.and_false, Bool.or_false, Bool.true_or, Bool.or_true, Bool.false_or, Nat.not_le.mpr hc, Nat.not_le.mpr hw, Nat.mul_comm c 5, Nat.not_lt_zero]
theorem RD_set {D : Dk} {D' : Dk} {N : Row} (hN : WFr N) {c w : Nat} (hc : c < 10) (hw : w < 5) (hw1 : w ≠ 1) (v : Int32) (h9 : D' 9 = upd (D 9) (5 * c + w) v) (hD : ∀ j, j ≠ 9 → D' j = D j) (h : RD D N) : RD D' (setC N c (w + 1) v) := by
  have hck : ∀ c', ck (setC N c (w + 1) v) c' = ck N c' := fun c' => by unfold ck; rw [setC_o (by omega)]
  have hsec : ∀ c', sec (setC N c (w + 1) v) c' = sec N c' := fun c' => by unfold sec; rw [setC_o (by omega)]
  refine RD_chk (setC_lo _) (setC_hi hc (by omega) _) hN (fun c' _ hk' => ⟨by rw [hck] at hk'; exact hk', hsec c'⟩) (fun j _ h9 => hD j h9) ⟨fun i hi => ?_, fun c' hc' hk' => ?_⟩ h
  · rw [hD 8 (by omega), hck]
    exact h.2.2.1.1 i hi
  · rw [hck] at hk'
    obtain ⟨a0, a1, a2, a3, a4⟩ := h.2.2.1.2 c' hc' hk'
    rw [h9]
    have key : ∀ w', w' < 5 → D 9 (5 * c' + w') = N (202 + 6 * c' + (w' + 1)) → upd (D 9) (5 * c + w) v (5 * c' + w') = setC N c (w + 1) v (202 + 6 * c' + (w' + 1)) := by
      intro w' hw' e
      by_cases hh : c' = c ∧ w' = w
      · obtain ⟨rfl, rfl⟩ := hh
        rw [upd_same, setC_s]
      · rw [upd_other (by omega), setC_o (by omega)]
        exact e
    exact ⟨key 0 (by omega) a0, key 1 (by omega) a1, key 2 (by omega) a2, key 3 (by omega) a3, key 4 (by omega) a4⟩
/-- a check-out is lost: a shared one ceases to be -/
def loseS (N : Row) (c : Nat) : Row := if sh N c = true then closeS N c else setC N c 4 (nI 0)
theorem hd_set {N : Row} {c c' : Nat} : hd (setC N c 4 (nI 0)) c' = (hd N c' && !decide (c' = c)) := by
  unfold hd
  by_cases h : c' = c
  · subst h
    rw [setC_s]
    simp (disch := omega) only [↓ite_b2r, ↓ite_nb2r, ↓lit_m1, ↓lit_m2, lit_0, lit_1, lit_2, lit_3, lit_4, lit_5, lit_6, lit_7, lit_8, lit_9, lit_10, lit_11, lit_12, lit_13, lit_14, lit_15, lit_16, lit_17, lit_18, lit_19, lit_20, lit_21, lit_22, lit_23, lit_24, lit_25, lit_26, lit_27, lit_28, lit_29, lit_30, lit_31, lit_32, lit_33, lit_34, lit_35, lit_36, lit_40, lit_41, lit_42, lit_44, lit_48, lit_57, lit_59, lit_62, lit_63, lit_64, lit_82, lit_98, lit_99, lit_100, lit_101, lit_102, lit_103, lit_104, lit_105, lit_106, lit_107, lit_108, lit_109, lit_110, lit_111, lit_112, lit_113, lit_119, lit_120, lit_127, lit_128, lit_149, lit_150, lit_202, lit_240, lit_262, lit_894, lit_900, lit_999, lit_1000, lit_2000, lit_2662, lit_2663, lit_2695, lit_2701, lit_2702, lit_3602, lit_10806, nI_add, pk_mul, cl_nI, inb_nI, nI_leI, nI_ltI, nI_eq, nI_eq_m1, m1_eq_nI, nI_eq_m2, div_nI, rem_nI, Option.bind_some, b2_0, b2_1, isb_b2, if_true_, if_false_, ↓reduceIte, reduceCtorEq, not_true_eq_false, not_false_eq_true, bt_hasBit, ult, Nat.add_zero, false_and, true_and, and_true, and_false, Nat.reduceLeDiff, Nat.reduceEqDiff, Nat.reduceLT, Bool.toNat_true, Bool.toNat_false, decide_true, decide_false, Bool.not_true, Bool.not_false, Bool.false_and, Bool.true_and, Bool.and_true, Bool.and_false, Bool.or_false, Bool.true_or, Bool.or_true, Bool.false_or]
  · rw [setC_o (by omega), decide_eq_false h, Bool.not_false, Bool.and_true]
theorem loseS_lo {N : Row} (c : Nat) : eqR 0 202 (loseS N c) N := by
  unfold loseS
  by_cases h : sh N c = true
  · rw [if_pos h]; exact setC_lo _
  · rw [if_neg h]; exact setC_lo _
theorem loseS_hi {N : Row} {c : Nat} (hc : c < 10) : eqR 262 3602 (loseS N c) N := by
  unfold loseS
  by_cases h : sh N c = true
  · rw [if_pos h]; exact setC_hi hc (by omega) _
  · rw [if_neg h]; exact setC_hi hc (by omega) _
theorem loseS_o {N : Row} {c c' w : Nat} (h0 : w ≠ 0) (h4 : w ≠ 4) (hw : w < 6) : loseS N c (202 + 6 * c' + w) = N (202 + 6 * c' + w) := by
  unfold loseS
  by_cases h : sh N c = true
  · rw [if_pos h]; exact closeS_o (by omega) hw
  · rw [if_neg h]; exact setC_o (by omega)
theorem loseS_hel {N : Row} {c c' : Nat} : hel (loseS N c) c' = (hel N c' && !decide (c' = c)) := by
  unfold loseS
  by_cases h : sh N c = true
  · rw [if_pos h]; exact closeS_hel
  · rw [if_neg h]
    unfold hel
    rw [hd_set, show ck (setC N c 4 (nI 0)) c' = ck N c' from by unfold ck; rw [setC_o (by omega)], Bool.and_assoc]
theorem loseS_sec {N : Row} {c c' : Nat} : sec (loseS N c) c' = sec N c' := by unfold sec; rw [loseS_o (by omega) (by omega) (by omega)]
theorem loseS_sh {N : Row} {c c' : Nat} : sh (loseS N c) c' = sh N c' := by unfold sh; rw [loseS_o (by omega) (by omega) (by omega)]
theorem WFc_lose {N : Row} (hN : WFc N) {c : Nat} (hc : c < 10) : WFc (loseS N c) := by
  by_cases h : sh N c = true
  · unfold loseS
    rw [if_pos h]
    exact WFc_close hN hc
  · have hl : loseS N c = setC N c 4 (nI 0) := by unfold loseS; rw [if_neg h]
    rw [hl]
    have h0 : setC N c 4 (nI 0) 0 = N 0 := setC_o (by omega)
    have hck : ∀ c', ck (setC N c 4 (nI 0)) c' = ck N c' := fun c' => by unfold ck; rw [setC_o (by omega)]
    have hsec : ∀ c', sec (setC N c 4 (nI 0)) c' = sec N c' := fun c' => by unfold sec; rw [setC_o (by omega)]
    have hsh : ∀ c', sh (setC N c 4 (nI 0)) c' = sh N c' := fun c' => by unfold sh; rw [setC_o (by omega)]
    refine ⟨isV_cg h0 hN.1, fun c' hc' => ?_⟩
    obtain ⟨a1, a2, a3, a4, a5, a6⟩ := hN.2 c' hc'
    refine ⟨isV_cg (setC_o (by omega)) a1, isV_cg (setC_o (by omega)) a2, ?_, isV_cg (setC_o (by omega)) a4, fun hk => ?_, fun hk => ?_⟩
    · by_cases h1 : c' = c
      · subst h1
        unfold isV
        rw [setC_s, cl_nI (by omega)]
        exact ⟨rfl, by omega⟩
      · exact isV_cg (setC_o (by omega)) a3
    · rw [hck] at hk
      obtain ⟨b1, b2, b3⟩ := a5 hk
      have e62 : eqR 0 62 (setC N c 4 (nI 0)) N := fun k _ h => setC_o (by omega)
      rw [hsec, hsh, hd_set, us_cg e62 (s := sec N c') b1.2]
      refine ⟨isV_cg (setC_o (by omega)) b1, b2, fun hs => ?_⟩
      have hne : c' ≠ c := fun e => h (by rw [← e]; exact hs)
      rw [b3 hs, decide_eq_false hne]
      rfl
    · unfold hel at hk
      rw [hck, hd_set, Bool.and_eq_true, Bool.and_eq_true] at hk
      rw [h0, setC_o (by omega)]
      exact a6 (by unfold hel; rw [hk.1, hk.2.1]; rfl)
theorem WF_lose {N : Row} (hN : WF N) {c : Nat} (hc : c < 10) : WF (loseS N c) := WF_chk (loseS_lo _) (loseS_hi hc) (WFc_lose hN.2.1 hc) hN
theorem WFx_lose {N : Row} (hN : WF N) (hx : WFx N) (c : Nat) : WFx (loseS N c) :=
  WFx_sub ((loseS_lo _).sub (by omega) (by omega)) hN.1 hN.2.1 (fun c' _ h => by rw [loseS_hel, Bool.and_eq_true] at h; exact ⟨h.1, loseS_sec, loseS_sh⟩) hx
theorem c_lose' {M : Mem} {g : Nat} {N : Row} (hN : WFr N) (h : RD (M.1 g) N) {c : Nat} (hc : c < 10) (hk : ck N c = true) : ∃ M', f_X0_lose g (nI c) M = some M' ∧ RD (M'.1 g) (loseS N c) ∧ Fr g M M' := by
  unfold f_X0_lose loseS
  rw [c_isShared h.2.2.1, isC_nI hc, hk, cl_nI (by omega), Bool.true_and]
  cases hs : sh N c with
  | true =>
    obtain ⟨M', e1, e2, e3⟩ := c_close' hN h hc hk
    refine ⟨M', ?_, e2, e3⟩
    simp (disch := omega) only [↓ite_b2r, ↓ite_nb2r, ↓lit_m1, ↓lit_m2, lit_0, lit_1, lit_2, lit_3, lit_4, lit_5, lit_6, lit_7, lit_8, lit_9, lit_10, lit_11, lit_12, lit_13, lit_14, lit_15, lit_16, lit_17, lit_18, lit_19, lit_20, lit_21, lit_22, lit_23, lit_24, lit_25, lit_26, lit_27, lit_28, lit_29, lit_30, lit_31, lit_32, lit_33, lit_34, lit_35, lit_36, lit_40, lit_41, lit_42, lit_44, lit_48, lit_57, lit_59, lit_62, lit_63, lit_64, lit_82, lit_98, lit_99, lit_100, lit_101, lit_102, lit_103, lit_104, lit_105, lit_106, lit_107, lit_108, lit_109, lit_110, lit_111, lit_112, lit_113, lit_119, lit_120, lit_127, lit_128, lit_149, lit_150, lit_202, lit_240, lit_262, lit_894, lit_900, lit_999, lit_1000, lit_2000, lit_2662, lit_2663, lit_2695, lit_2701, lit_2702, lit_3602, lit_10806, nI_add, pk_mul, cl_nI, inb_nI, nI_leI, nI_ltI, nI_eq, nI_eq_m1, m1_eq_nI, nI_eq_m2, div_nI, rem_nI, Option.bind_some, b2_0, b2_1, isb_b2, if_true_, if_false_, ↓reduceIte, reduceCtorEq, not_true_eq_false, not_false_eq_true, bt_hasBit, ult, Nat.add_zero, false_and, true_and, and_true, and_false, Nat.reduceLeDiff, Nat.reduceEqDiff, Nat.reduceLT, Bool.toNat_true, Bool.toNat_false, decide_true, decide_false, Bool.not_true, Bool.not_false, Bool.false_and, Bool.true_and, Bool.and_true, Bool.and_false, Bool.or_false, Bool.true_or, Bool.or_true, Bool.false_or, e1]
  | false =>
    refine ⟨wr M g 9 (5 * c + 3) (nI 0), ?_, ?_, Fr_wr _ _ _ _ _⟩
    · simp (disch := omega) only [↓ite_b2r, ↓ite_nb2r, ↓lit_m1, ↓lit_m2, lit_0, lit_1, lit_2, lit_3, lit_4, lit_5, lit_6, lit_7, lit_8, lit_9, lit_10, lit_11, lit_12, lit_13, lit_14, lit_15, lit_16, lit_17, lit_18, lit_19, lit_20, lit_21, lit_22, lit_23, lit_24, lit_25, lit_26, lit_27, lit_28, lit_29, lit_30, lit_31, lit_32, lit_33, lit_34, lit_35, lit_36, lit_40, lit_41, lit_42, lit_44, lit_48, lit_57, lit_59, lit_62, lit_63, lit_64, lit_82, lit_98, lit_99, lit_100, lit_101, lit_102, lit_103, lit_104, lit_105, lit_106, lit_107, lit_108, lit_109, lit_110, lit_111, lit_112, lit_113, lit_119, lit_120, lit_127, lit_128, lit_149, lit_150, lit_202, lit_240, lit_262, lit_894, lit_900, lit_999, lit_1000, lit_2000, lit_2662, lit_2663, lit_2695, lit_2701, lit_2702, lit_3602, lit_10806, nI_add, pk_mul, cl_nI, inb_nI, nI_leI, nI_ltI, nI_eq, nI_eq_m1, m1_eq_nI, nI_eq_m2, div_nI, rem_nI, Option.bind_some, b2_0, b2_1, isb_b2, if_true_, if_false_, ↓reduceIte, reduceCtorEq, not_true_eq_false, not_false_eq_true, bt_hasBit, ult, Nat.add_zero, false_and, true_and, and_true, and_false, Nat.reduceLeDiff, Nat.reduceEqDiff, Nat.reduceLT, Bool.toNat_true, Bool.toNat_false, decide_true, decide_false, Bool.not_true, Bool.not_false, Bool.false_and, Bool.true_and, Bool.and_true, Bool.and_false, Bool.or_false, Bool.true_or, Bool.or_true, Bool.false_or]
      rw [c_setFact hc (by decide)]
      simp (disch := omega) only [↓ite_b2r, ↓ite_nb2r, ↓lit_m1, ↓lit_m2, lit_0, lit_1, lit_2, lit_3, lit_4, lit_5, lit_6, lit_7, lit_8, lit_9, lit_10, lit_11, lit_12, lit_13, lit_14, lit_15, lit_16, lit_17, lit_18, lit_19, lit_20, lit_21, lit_22, lit_23, lit_24, lit_25, lit_26, lit_27, lit_28, lit_29, lit_30, lit_31, lit_32, lit_33, lit_34, lit_35, lit_36, lit_40, lit_41, lit_42, lit_44, lit_48, lit_57, lit_59, lit_62, lit_63, lit_64, lit_82, lit_98, lit_99, lit_100, lit_101, lit_102, lit_103, lit_104, lit_105, lit_106, lit_107, lit_108, lit_109, lit_110, lit_111, lit_112, lit_113, lit_119, lit_120, lit_127, lit_128, lit_149, lit_150, lit_202, lit_240, lit_262, lit_894, lit_900, lit_999, lit_1000, lit_2000, lit_2662, lit_2663, lit_2695, lit_2701, lit_2702, lit_3602, lit_10806, nI_add, pk_mul, cl_nI, inb_nI, nI_leI, nI_ltI, nI_eq, nI_eq_m1, m1_eq_nI, nI_eq_m2, div_nI, rem_nI, Option.bind_some, b2_0, b2_1, isb_b2, if_true_, if_false_, ↓reduceIte, reduceCtorEq, not_true_eq_false, not_false_eq_true, bt_hasBit, ult, Nat.add_zero, false_and, true_and, and_true, and_false, Nat.reduceLeDiff, Nat.reduceEqDiff, Nat.reduceLT, Bool.toNat_true, Bool.toNat_false, decide_true, decide_false, Bool.not_true, Bool.not_false, Bool.false_and, Bool.true_and, Bool.and_true, Bool.and_false, Bool.or_false, Bool.true_or, Bool.or_true, Bool.false_or]
    · rw [if_neg (by decide)]
      exact RD_set hN hc (w := 3) (by omega) (by omega) _ (wr_same _ _ _ _ _) (fun j hj => wr_other _ _ _ _ _ (by omega)) h
theorem c_lose {M : Mem} {g : Nat} {N : Row} (hN : WF N) (h : RD (M.1 g) N) {c : Nat} (hc : c < 10) (hk : ck N c = true) : ∃ M', f_X0_lose g (nI c) M = some M' ∧ RD (M'.1 g) (loseS N c) ∧ Fr g M M' := c_lose' hN.r h hc hk
theorem m_loses' {M : Mem} {c : Nat} (hs : M.1 7 1 (202 + 6 * c + 5) = nI (sh (M.1 7 1) c).toNat) (hc : c < 10) : f_X9_loses (nI c) M = some (wrs M 7 1 (loseS (M.1 7 1) c)) := by
  unfold f_X9_loses B_X9_loses_20 f_X9_check loseS closeS setC
  simp (disch := omega) only [↓ite_b2r, ↓ite_nb2r, ↓lit_m1, ↓lit_m2, lit_0, lit_1, lit_2, lit_3, lit_4, lit_5, lit_6, lit_7, lit_8, lit_9, lit_10, lit_11, lit_12, lit_13, lit_14, lit_15, lit_16, lit_17, lit_18, lit_19, lit_20, lit_21, lit_22, lit_23, lit_24, lit_25, lit_26, lit_27, lit_28, lit_29, lit_30, lit_31, lit_32, lit_33, lit_34, lit_35, lit_36, lit_40, lit_41, lit_42, lit_44, lit_48, lit_57, lit_59, lit_62, lit_63, lit_64, lit_82, lit_98, lit_99, lit_100, lit_101, lit_102, lit_103, lit_104, lit_105, lit_106, lit_107, lit_108, lit_109, lit_110, lit_111, lit_112, lit_113, lit_119, lit_120, lit_127, lit_128, lit_149, lit_150, lit_202, lit_240, lit_262, lit_894, lit_900, lit_999, lit_1000, lit_2000, lit_2662, lit_2663, lit_2695, lit_2701, lit_2702, lit_3602, lit_10806, nI_add, pk_mul, cl_nI, inb_nI, nI_leI, nI_ltI, nI_eq, nI_eq_m1, m1_eq_nI, nI_eq_m2, div_nI, rem_nI, Option.bind_some, b2_0, b2_1, isb_b2, if_true_, if_false_, ↓reduceIte, reduceCtorEq, not_true_eq_false, not_false_eq_true, bt_hasBit, ult, Nat.add_zero, false_and, true_and, and_true, and_false, Nat.reduceLeDiff, Nat.reduceEqDiff, Nat.reduceLT, Bool.toNat_true, Bool.toNat_false, decide_true, decide_false, Bool.not_true, Bool.not_false, Bool.false_and, Bool.true_and, Bool.and_true, Bool.and_false, Bool.or_false, Bool.true_or, Bool.or_true, Bool.false_or, m_get, hs]
  cases sh (M.1 7 1) c <;> simp (disch := omega) only [↓ite_b2r, ↓ite_nb2r, ↓lit_m1, ↓lit_m2, lit_0, lit_1, lit_2, lit_3, lit_4, lit_5, lit_6, lit_7, lit_8, lit_9, lit_10, lit_11, lit_12, lit_13, lit_14, lit_15, lit_16, lit_17, lit_18, lit_19, lit_20, lit_21, lit_22, lit_23, lit_24, lit_25, lit_26, lit_27, lit_28, lit_29, lit_30, lit_31, lit_32, lit_33, lit_34, lit_35, lit_36, lit_40, lit_41, lit_42, lit_44, lit_48, lit_57, lit_59, lit_62, lit_63, lit_64, lit_82, lit_98, lit_99, lit_100, lit_101, lit_102, lit_103, lit_104, lit_105, lit_106, lit_107, lit_108, lit_109, lit_110, lit_111, lit_112, lit_113, lit_119, lit_120, lit_127, lit_128, lit_149, lit_150, lit_202, lit_240, lit_262, lit_894, lit_900, lit_999, lit_1000, lit_2000, lit_2662, lit_2663, lit_2695, lit_2701, lit_2702, lit_3602, lit_10806, nI_add, pk_mul, cl_nI, inb_nI, nI_leI, nI_ltI, nI_eq, nI_eq_m1, m1_eq_nI, nI_eq_m2, div_nI, rem_nI, Option.bind_some, b2_0, b2_1, isb_b2, if_true_, if_false_, ↓reduceIte, reduceCtorEq, not_true_eq_false, not_false_eq_true, bt_hasBit, ult, Nat.add_zero, false_and, true_and, and_true, and_false, Nat.reduceLeDiff, Nat.reduceEqDiff, Nat.reduceLT, Bool.toNat_true, Bool.toNat_false, decide_true, decide_false, Bool.not_true, Bool.not_false, Bool.false_and, Bool.true_and, Bool.and_true, Bool.and_false, Bool.or_false, Bool.true_or, Bool.or_true, Bool.false_or] <;> rfl
theorem m_loses {M : Mem} (hN : WFc (M.1 7 1)) {c : Nat} (hc : c < 10) : f_X9_loses (nI c) M = some (wrs M 7 1 (loseS (M.1 7 1) c)) := m_loses' (sh_eq hN hc) hc
/-- the line without its k-th request -/
def shF (r : Nat → Int32) (a b : Nat) : Nat → Int32 := fun x => if a ≤ x ∧ x < b then r (x + 4) else r x
theorem shF_s (r : Nat → Int32) {a b : Nat} (h : a ≤ b) : upd (shF r a b) b (r (b + 4)) = shF r a (b + 1) := by
  funext x
  unfold shF
  by_cases hx : x = b
  · subst hx; rw [upd_same, if_pos (by omega)]
  · rw [upd_other hx]
    by_cases h2 : a ≤ x ∧ x < b
    · rw [if_pos h2, if_pos (by omega)]
    · rw [if_neg h2, if_neg (by omega)]
theorem shF_0 (r : Nat → Int32) (a : Nat) : shF r a a = r := by funext x; unfold shF; rw [if_neg (by omega)]
theorem shF_ge {r : Nat → Int32} {a b x : Nat} (h : b ≤ x) : shF r a b x = r x := if_neg (by omega)
theorem shF_lt {r : Nat → Int32} {a b x : Nat} (h : x < a) : shF r a b x = r x := if_neg (by omega)
theorem shF_in {r : Nat → Int32} {a b x : Nat} (h : a ≤ x) (h2 : x < b) : shF r a b x = r (x + 4) := if_pos ⟨h, h2⟩
def leaveS (N : Row) (k : Nat) : Row := shF (upd N 2662 (nI (wq N - 1))) (2663 + 4 * k) (2663 + 4 * (wq N - 1))
theorem m_leave {M : Mem} (hq : WFq (M.1 7 1)) {k : Nat} (hk : k < wq (M.1 7 1)) : f_X9_leavesLine (nI k) M = some (wrs M 7 1 (leaveS (M.1 7 1) k)) := by
  have hq8 := wq_le hq
  have hw := wq_eq hq
  unfold f_X9_leavesLine leaveS
  generalize wq (M.1 7 1) = w at hk hq8 hw ⊢
  simp (disch := omega) only [↓ite_b2r, ↓ite_nb2r, ↓lit_m1, ↓lit_m2, lit_0, lit_1, lit_2, lit_3, lit_4, lit_5, lit_6, lit_7, lit_8, lit_9, lit_10, lit_11, lit_12, lit_13, lit_14, lit_15, lit_16, lit_17, lit_18, lit_19, lit_20, lit_21, lit_22, lit_23, lit_24, lit_25, lit_26, lit_27, lit_28, lit_29, lit_30, lit_31, lit_32, lit_33, lit_34, lit_35, lit_36, lit_40, lit_41, lit_42, lit_44, lit_48, lit_57, lit_59, lit_62, lit_63, lit_64, lit_82, lit_98, lit_99, lit_100, lit_101, lit_102, lit_103, lit_104, lit_105, lit_106, lit_107, lit_108, lit_109, lit_110, lit_111, lit_112, lit_113, lit_119, lit_120, lit_127, lit_128, lit_149, lit_150, lit_202, lit_240, lit_262, lit_894, lit_900, lit_999, lit_1000, lit_2000, lit_2662, lit_2663, lit_2695, lit_2701, lit_2702, lit_3602, lit_10806, nI_add, pk_mul, cl_nI, inb_nI, nI_leI, nI_ltI, nI_eq, nI_eq_m1, m1_eq_nI, nI_eq_m2, div_nI, rem_nI, Option.bind_some, b2_0, b2_1, isb_b2, if_true_, if_false_, ↓reduceIte, reduceCtorEq, not_true_eq_false, not_false_eq_true, bt_hasBit, ult, Nat.add_zero, false_and, true_and, and_true, and_false, Nat.reduceLeDiff, Nat.reduceEqDiff, Nat.reduceLT, Bool.toNat_true, Bool.toNat_false, decide_true, decide_false, Bool.not_true, Bool.not_false, Bool.false_and, Bool.true_and, Bool.and_true, Bool.and_false, Bool.or_false, Bool.true_or, Bool.or_true, Bool.false_or, hw]
  rw [show nI w - nI 1 = nI (w - 1) from pk_sub (by omega), show wr M 7 1 2662 (nI (w - 1)) = wrs M 7 1 (upd (M.1 7 1) 2662 (nI (w - 1))) from rfl]
  generalize hr : upd (M.1 7 1) 2662 (nI (w - 1)) = r
  have hr2 : r 2662 = nI (w - 1) := by rw [← hr, upd_same]
  refine loop0 (fun n (σ : Int32 × Mem) => L_X9_leavesLine_16 n σ.1 σ.2) (fun i => (nI (4 * k + i), wrs M 7 1 (shF r (2663 + 4 * k) (2663 + (4 * k + i))))) (4 * (w - 1) - 4 * k) (nI (4 * k), wrs M 7 1 r) (by rw [Nat.add_zero, shF_0]) (fun n i hi => ?_) (fun n => ?_) FU (FU_lt (by omega))
  · show L_X9_leavesLine_16 (n + 1) _ _ = L_X9_leavesLine_16 n _ _
    rw [L_X9_leavesLine_16]
    unfold f_X9_waits
    have e1 : shF r (2663 + 4 * k) (2663 + (4 * k + i)) 2662 = nI (w - 1) := by rw [shF_lt (by omega), hr2]
    have e2 : shF r (2663 + 4 * k) (2663 + (4 * k + i)) (2663 + (4 * k + i) + 4) = r (2663 + (4 * k + i) + 4) := shF_ge (by omega)
    have e3 := shF_s r (a := 2663 + 4 * k) (b := 2663 + (4 * k + i)) (by omega)
    simp (disch := omega) only [↓ite_b2r, ↓ite_nb2r, ↓lit_m1, ↓lit_m2, lit_0, lit_1, lit_2, lit_3, lit_4, lit_5, lit_6, lit_7, lit_8, lit_9, lit_10, lit_11, lit_12, lit_13, lit_14, lit_15, lit_16, lit_17, lit_18, lit_19, lit_20, lit_21, lit_22, lit_23, lit_24, lit_25, lit_26, lit_27, lit_28, lit_29, lit_30, lit_31, lit_32, lit_33, lit_34, lit_35, lit_36, lit_40, lit_41, lit_42, lit_44, lit_48, lit_57, lit_59, lit_62, lit_63, lit_64, lit_82, lit_98, lit_99, lit_100, lit_101, lit_102, lit_103, lit_104, lit_105, lit_106, lit_107, lit_108, lit_109, lit_110, lit_111, lit_112, lit_113, lit_119, lit_120, lit_127, lit_128, lit_149, lit_150, lit_202, lit_240, lit_262, lit_894, lit_900, lit_999, lit_1000, lit_2000, lit_2662, lit_2663, lit_2695, lit_2701, lit_2702, lit_3602, lit_10806, nI_add, pk_mul, cl_nI, inb_nI, nI_leI, nI_ltI, nI_eq, nI_eq_m1, m1_eq_nI, nI_eq_m2, div_nI, rem_nI, Option.bind_some, b2_0, b2_1, isb_b2, if_true_, if_false_, ↓reduceIte, reduceCtorEq, not_true_eq_false, not_false_eq_true, bt_hasBit, ult, Nat.add_zero, false_and, true_and, and_true, and_false, Nat.reduceLeDiff, Nat.reduceEqDiff, Nat.reduceLT, Bool.toNat_true, Bool.toNat_false, decide_true, decide_false, Bool.not_true, Bool.not_false, Bool.false_and, Bool.true_and, Bool.and_true, Bool.and_false, Bool.or_false, Bool.true_or, Bool.or_true, Bool.false_or, wrs_same, e1, Nat.not_le.mpr (show 4 * k + i < 4 * (w - 1) by omega), e2, wr_wrs, e3] <;> rfl
  · show L_X9_leavesLine_16 (n + 1) _ _ = _
    rw [L_X9_leavesLine_16]
    unfold f_X9_waits
    have e1 : shF r (2663 + 4 * k) (2663 + (4 * k + (4 * (w - 1) - 4 * k))) 2662 = nI (w - 1) := by rw [shF_lt (by omega), hr2]
    simp (disch := omega) only [↓ite_b2r, ↓ite_nb2r, ↓lit_m1, ↓lit_m2, lit_0, lit_1, lit_2, lit_3, lit_4, lit_5, lit_6, lit_7, lit_8, lit_9, lit_10, lit_11, lit_12, lit_13, lit_14, lit_15, lit_16, lit_17, lit_18, lit_19, lit_20, lit_21, lit_22, lit_23, lit_24, lit_25, lit_26, lit_27, lit_28, lit_29, lit_30, lit_31, lit_32, lit_33, lit_34, lit_35, lit_36, lit_40, lit_41, lit_42, lit_44, lit_48, lit_57, lit_59, lit_62, lit_63, lit_64, lit_82, lit_98, lit_99, lit_100, lit_101, lit_102, lit_103, lit_104, lit_105, lit_106, lit_107, lit_108, lit_109, lit_110, lit_111, lit_112, lit_113, lit_119, lit_120, lit_127, lit_128, lit_149, lit_150, lit_202, lit_240, lit_262, lit_894, lit_900, lit_999, lit_1000, lit_2000, lit_2662, lit_2663, lit_2695, lit_2701, lit_2702, lit_3602, lit_10806, nI_add, pk_mul, cl_nI, inb_nI, nI_leI, nI_ltI, nI_eq, nI_eq_m1, m1_eq_nI, nI_eq_m2, div_nI, rem_nI, Option.bind_some, b2_0, b2_1, isb_b2, if_true_, if_false_, ↓reduceIte, reduceCtorEq, not_true_eq_false, not_false_eq_true, bt_hasBit, ult, Nat.add_zero, false_and, true_and, and_true, and_false, Nat.reduceLeDiff, Nat.reduceEqDiff, Nat.reduceLT, Bool.toNat_true, Bool.toNat_false, decide_true, decide_false, Bool.not_true, Bool.not_false, Bool.false_and, Bool.true_and, Bool.and_true, Bool.and_false, Bool.or_false, Bool.true_or, Bool.or_true, Bool.false_or, wrs_same, e1, show 4 * (w - 1) ≤ 4 * k + (4 * (w - 1) - 4 * k) by omega]
    rw [show 4 * k + (4 * (w - 1) - 4 * k) = 4 * (w - 1) by omega]
theorem c_qset {M : Mem} {g k w : Nat} (hk : k < 8) (hw : w < 4) (v : Int32) : f_X5_setFact g (nI k) (nI w) v M = some (wr M g 13 (4 * k + w) v) := by
  unfold f_X5_setFact
  simp (disch := omega) only [↓ite_b2r, ↓ite_nb2r, ↓lit_m1, ↓lit_m2, lit_0, lit_1, lit_2, lit_3, lit_4, lit_5, lit_6, lit_7, lit_8, lit_9, lit_10, lit_11, lit_12, lit_13, lit_14, lit_15, lit_16, lit_17, lit_18, lit_19, lit_20, lit_21, lit_22, lit_23, lit_24, lit_25, lit_26, lit_27, lit_28, lit_29, lit_30, lit_31, lit_32, lit_33, lit_34, lit_35, lit_36, lit_40, lit_41, lit_42, lit_44, lit_48, lit_57, lit_59, lit_62, lit_63, lit_64, lit_82, lit_98, lit_99, lit_100, lit_101, lit_102, lit_103, lit_104, lit_105, lit_106, lit_107, lit_108, lit_109, lit_110, lit_111, lit_112, lit_113, lit_119, lit_120, lit_127, lit_128, lit_149, lit_150, lit_202, lit_240, lit_262, lit_894, lit_900, lit_999, lit_1000, lit_2000, lit_2662, lit_2663, lit_2695, lit_2701, lit_2702, lit_3602, lit_10806, nI_add, pk_mul, cl_nI, inb_nI, nI_leI, nI_ltI, nI_eq, nI_eq_m1, m1_eq_nI, nI_eq_m2, div_nI, rem_nI, Option.bind_some, b2_0, b2_1, isb_b2, if_true_, if_false_, ↓reduceIte, reduceCtorEq, not_true_eq_false, not_false_eq_true, bt_hasBit, ult, Nat.add_zero, false_and, true_and, and_true, and_false, Nat.reduceLeDiff, Nat.reduceEqDiff, Nat.reduceLT, Bool.toNat_true, Bool.toNat_false, decide_true, decide_false, Bool.not_true, Bool.not_false, Bool.false_and, Bool.true_and, Bool.and_true, Bool.and_false, Bool.or_false, Bool.true_or, Bool.or_true, Bool.false_or, Nat.not_le.mpr hk, Nat.not_le.mpr hw, Nat.mul_comm k 4, Nat.not_lt_zero]
theorem c_leave {M : Mem} {g w k : Nat} (hw : M.1 g 12 1 = nI w) (hw8 : w ≤ 8) (hk : k < w) : f_X5_leave g (nI k) M = some (wr (wrs M g 13 (shF (M.1 g 13) (4 * k) (4 * (w - 1)))) g 12 1 (nI (w - 1))) := by
  unfold f_X5_leave
  rw [hw, show nI w - (1 : Int32) = nI (w - 1) from pk_sub (b := 1) (by omega), show f_X8_isWithin (nI k) 0 (nI (w - 1)) = _ from c_within (nI k) (w - 1) (by omega), inR_nI (by omega) (by omega), decide_eq_true (show k < w - 1 + 1 by omega)]
  simp (disch := omega) only [↓ite_b2r, ↓ite_nb2r, ↓lit_m1, ↓lit_m2, lit_0, lit_1, lit_2, lit_3, lit_4, lit_5, lit_6, lit_7, lit_8, lit_9, lit_10, lit_11, lit_12, lit_13, lit_14, lit_15, lit_16, lit_17, lit_18, lit_19, lit_20, lit_21, lit_22, lit_23, lit_24, lit_25, lit_26, lit_27, lit_28, lit_29, lit_30, lit_31, lit_32, lit_33, lit_34, lit_35, lit_36, lit_40, lit_41, lit_42, lit_44, lit_48, lit_57, lit_59, lit_62, lit_63, lit_64, lit_82, lit_98, lit_99, lit_100, lit_101, lit_102, lit_103, lit_104, lit_105, lit_106, lit_107, lit_108, lit_109, lit_110, lit_111, lit_112, lit_113, lit_119, lit_120, lit_127, lit_128, lit_149, lit_150, lit_202, lit_240, lit_262, lit_894, lit_900, lit_999, lit_1000, lit_2000, lit_2662, lit_2663, lit_2695, lit_2701, lit_2702, lit_3602, lit_10806, nI_add, pk_mul, cl_nI, inb_nI, nI_leI, nI_ltI, nI_eq, nI_eq_m1, m1_eq_nI, nI_eq_m2, div_nI, rem_nI, Option.bind_some, b2_0, b2_1, isb_b2, if_true_, if_false_, ↓reduceIte, reduceCtorEq, not_true_eq_false, not_false_eq_true, bt_hasBit, ult, Nat.add_zero, false_and, true_and, and_true, and_false, Nat.reduceLeDiff, Nat.reduceEqDiff, Nat.reduceLT, Bool.toNat_true, Bool.toNat_false, decide_true, decide_false, Bool.not_true, Bool.not_false, Bool.false_and, Bool.true_and, Bool.and_true, Bool.and_false, Bool.or_false, Bool.true_or, Bool.or_true, Bool.false_or, b2_t]
  have h12 : ∀ f, (wrs M g 13 f).1 g 12 = M.1 g 12 := fun f => wrs_other _ _ _ _ (by omega)
  refine loop0 (fun n (σ : Int32 × Mem) => L_X5_leave_19 g n σ.1 σ.2) (fun i => (nI (k + 1 + i), wrs M g 13 (shF (M.1 g 13) (4 * k) (4 * (k + i))))) (w - 1 - k) (nI (k + 1), M) (by simp only [Nat.add_zero, shF_0, wrs_self]) (fun n i hi => ?_) (fun n => ?_) FU (FU_lt (by omega))
  · show L_X5_leave_19 g (n + 1) _ _ = L_X5_leave_19 g n _ _
    rw [L_X5_leave_19, h12, hw, if_neg (by rw [nI_leI (by omega) (by omega)]; omega)]
    refine loop (fun m (σ : Int32 × Mem) => L_X5_leave_29 g (L_X5_leave_19 g n) (nI (k + 1 + i)) m σ.1 σ.2) (fun j => (nI j, wrs M g 13 (shF (M.1 g 13) (4 * k) (4 * (k + i) + j)))) 4 (fun m j hj => ?_) (fun m => ?_) FU (by decide)
    · show L_X5_leave_29 g _ (nI (k + 1 + i)) (m + 1) _ _ = L_X5_leave_29 g _ (nI (k + 1 + i)) m _ _
      have e3 := shF_s (M.1 g 13) (a := 4 * k) (b := 4 * (k + i) + j) (by omega)
      rw [L_X5_leave_29, if_neg (show ¬ (4 : Int32) ≤ nI j from fun e => by have e2 : nI 4 ≤ nI j := e; rw [nI_leI (by omega) (by omega)] at e2; omega), bnd (c_qfact (by omega) hj), wrs_same, shF_ge (by omega), show nI (k + 1 + i) - (1 : Int32) = nI (k + i) from (pk_sub (b := 1) (by omega)).trans (by congr 1; omega), bnd (c_qset (by omega) hj _), wr_wrs, show 4 * (k + 1 + i) + j = 4 * (k + i) + j + 4 by omega, e3]
      simp (disch := omega) only [↓ite_b2r, ↓ite_nb2r, ↓lit_m1, ↓lit_m2, lit_0, lit_1, lit_2, lit_3, lit_4, lit_5, lit_6, lit_7, lit_8, lit_9, lit_10, lit_11, lit_12, lit_13, lit_14, lit_15, lit_16, lit_17, lit_18, lit_19, lit_20, lit_21, lit_22, lit_23, lit_24, lit_25, lit_26, lit_27, lit_28, lit_29, lit_30, lit_31, lit_32, lit_33, lit_34, lit_35, lit_36, lit_40, lit_41, lit_42, lit_44, lit_48, lit_57, lit_59, lit_62, lit_63, lit_64, lit_82, lit_98, lit_99, lit_100, lit_101, lit_102, lit_103, lit_104, lit_105, lit_106, lit_107, lit_108, lit_109, lit_110, lit_111, lit_112, lit_113, lit_119, lit_120, lit_127, lit_128, lit_149, lit_150, lit_202, lit_240, lit_262, lit_894, lit_900, lit_999, lit_1000, lit_2000, lit_2662, lit_2663, lit_2695, lit_2701, lit_2702, lit_3602, lit_10806, nI_add, pk_mul, cl_nI, inb_nI, nI_leI, nI_ltI, nI_eq, nI_eq_m1, m1_eq_nI, nI_eq_m2, div_nI, rem_nI, Option.bind_some, b2_0, b2_1, isb_b2, if_true_, if_false_, ↓reduceIte, reduceCtorEq, not_true_eq_false, not_false_eq_true, bt_hasBit, ult, Nat.add_zero, false_and, true_and, and_true, and_false, Nat.reduceLeDiff, Nat.reduceEqDiff, Nat.reduceLT, Bool.toNat_true, Bool.toNat_false, decide_true, decide_false, Bool.not_true, Bool.not_false, Bool.false_and, Bool.true_and, Bool.and_true, Bool.and_false, Bool.or_false, Bool.true_or, Bool.or_true, Bool.false_or] <;> rfl
    · show L_X5_leave_29 g _ (nI (k + 1 + i)) (m + 1) _ _ = _
      rw [L_X5_leave_29]
      simp (disch := omega) only [↓ite_b2r, ↓ite_nb2r, ↓lit_m1, ↓lit_m2, lit_0, lit_1, lit_2, lit_3, lit_4, lit_5, lit_6, lit_7, lit_8, lit_9, lit_10, lit_11, lit_12, lit_13, lit_14, lit_15, lit_16, lit_17, lit_18, lit_19, lit_20, lit_21, lit_22, lit_23, lit_24, lit_25, lit_26, lit_27, lit_28, lit_29, lit_30, lit_31, lit_32, lit_33, lit_34, lit_35, lit_36, lit_40, lit_41, lit_42, lit_44, lit_48, lit_57, lit_59, lit_62, lit_63, lit_64, lit_82, lit_98, lit_99, lit_100, lit_101, lit_102, lit_103, lit_104, lit_105, lit_106, lit_107, lit_108, lit_109, lit_110, lit_111, lit_112, lit_113, lit_119, lit_120, lit_127, lit_128, lit_149, lit_150, lit_202, lit_240, lit_262, lit_894, lit_900, lit_999, lit_1000, lit_2000, lit_2662, lit_2663, lit_2695, lit_2701, lit_2702, lit_3602, lit_10806, nI_add, pk_mul, cl_nI, inb_nI, nI_leI, nI_ltI, nI_eq, nI_eq_m1, m1_eq_nI, nI_eq_m2, div_nI, rem_nI, Option.bind_some, b2_0, b2_1, isb_b2, if_true_, if_false_, ↓reduceIte, reduceCtorEq, not_true_eq_false, not_false_eq_true, bt_hasBit, ult, Nat.add_zero, false_and, true_and, and_true, and_false, Nat.reduceLeDiff, Nat.reduceEqDiff, Nat.reduceLT, Bool.toNat_true, Bool.toNat_false, decide_true, decide_false, Bool.not_true, Bool.not_false, Bool.false_and, Bool.true_and, Bool.and_true, Bool.and_false, Bool.or_false, Bool.true_or, Bool.or_true, Bool.false_or, Nat.le_refl] <;> rfl
  · show L_X5_leave_19 g (n + 1) _ _ = _
    rw [L_X5_leave_19, h12, hw, show k + 1 + (w - 1 - k) = w by omega, if_pos (by rw [nI_leI (by omega) (by omega)]; omega), show nI w - (1 : Int32) = nI (w - 1) from pk_sub (b := 1) (by omega), show k + (w - 1 - k) = w - 1 by omega]
