/-! ===== giving back, requesting, writing, time ===== -/
section KD
variable {k : Nat} {M : Mem}
theorem k_giveBack (h : SR k M) (x y : Int32) : okc k M (f_L_giveBack x y) (f_X9_giveBack x y) := by
  have hT := h.1
  have hr := h.2.1
  have hN := hT.1
  obtain ⟨z, hf, hz⟩ := c_giveBackFault (M := M) (g := 0) hr.1 hr.2.2.1 hr.2.2.2.1 hN.1.2.1 x y
  have hm := fun (M1 : Mem) (h71 : M1.1 7 1 = M.1 7 1) => m_barGive (M := M1) (by rw [h71]; exact hN.1.1) (by rw [h71]; exact hN.1.2.1) x y
  have hcd : flt (isC (M.1 7 1) x) (inR y 3) z = cdGive (M.1 7 1) x y := by
    unfold cdGive
    cases hC : isC (M.1 7 1) x with
    | false => rfl
    | true =>
      cases hY : inR y 3 with
      | false => rfl
      | true =>
        obtain ⟨c, hc, rfl, hk⟩ := isC_t hC
        obtain ⟨p, hp, rfl⟩ := inR_t (by decide) hY
        rw [hz c p rfl rfl hc hp hk, cl_nI (by omega), cl_nI (by omega)]
  rw [hcd] at hf
  have hcl : cdGive (M.1 7 1) x y < 4 := flt_lt _ _ _
  by_cases h0 : 0 < cdGive (M.1 7 1) x y
  · obtain ⟨M', m1, m2, m3⟩ := hm M rfl
    refine okc_r2 (M' := M') h (r := cdGive (M.1 7 1) x y) (b := nI 0) ⟨h0, hcl⟩ ?_ ?_ m3 m2
    · unfold f_L_giveBack f_X8_giveBack
      rw [hf, Option.bind_some, fk_nI _ hcl]
      generalize cdGive (M.1 7 1) x y = c at h0 hcl
      match c, h0, hcl with
      | 1, _, _ => rfl
      | 2, _, _ => rfl
      | 3, _, _ => rfl
    · unfold f_X9_giveBack
      rw [m1, Option.bind_some]
      show (f_X9_refused (nI (cdGive (M.1 7 1) x y)) M').bind _ = _
      rw [refu_p _ h0 hcl]
      rfl
  · have hc0 : cdGive (M.1 7 1) x y = 0 := by omega
    have hv : isC (M.1 7 1) x = true ∧ inR y 3 = true := by
      unfold cdGive flt at hc0
      cases h1 : isC (M.1 7 1) x <;> cases h2 : inR y 3 <;> simp [h1, h2] at hc0 ⊢
    obtain ⟨c, hc, rfl, hk⟩ := isC_t hv.1
    obtain ⟨p, hp, rfl⟩ := inR_t (by decide) hv.2
    have hW := WFa_giv (p := p) hN hc
    rw [hc0] at hf
    refine okc_u2 h (now := fun q3 => (f_X1_giveBackNow 0 (nI c) (nI p) q3).bind fun q4 => some (0, q4.1, q4.2)) (op := fun q4 => (f_X9_gives (nI c) (nI p) q4).bind fun q5 => some (q5.1, q5.2)) (ans := nI (givB (M.1 7 1) c p).1) (R := givR (M.1 7 1) c p) (fun M2 e => ?_) (fun M1 h1 => ?_) (fun M1 h1 => ?_) (fun M1 h1 => ?_) (TB_same hT hW ?_ ?_)
    · have e8 : f_X8_giveBack (nI c) (nI p) M = some (0, nI (givB (M.1 7 1) c p).1, M2) := by
        unfold f_X8_giveBack
        rw [hf, Option.bind_some, fkl_0, if_pos rfl]
        exact e
      unfold f_L_giveBack
      rw [e8]
      rfl
    · have h71 : M1.1 7 1 = M.1 7 1 := by rw [h1]
      obtain ⟨W, m1, m2, m3⟩ := hm M1 h71
      rw [h71, hc0] at m1
      refine ⟨W, m3, m2.trans h71, ?_⟩
      unfold f_X9_giveBack
      rw [m1, Option.bind_some]
      show (f_X9_refused (nI 0) W).bind _ = _
      rw [refu_0]
      rfl
    · obtain ⟨M2, a1, a2, a3⟩ := c_giveBackNow hN h1 hc hp hk
      exact ⟨M2, by rw [a1]; rfl, a2, a3⟩
    · obtain ⟨M2, a1, a2, a3⟩ := m_gives (M := M1) (by rw [h1]; exact hN) hc hp (by rw [h1]; exact hk)
      rw [h1] at a1 a2
      exact ⟨M2, by rw [a1]; rfl, a2, a3⟩
    all_goals
      have hb := WFa_bec (u := M.1 7 1 (202 + 6 * c + 1)) hN (fun k hk2 => mgK_v (p := p) hN.1.2.2.1 hc hk2)
      obtain ⟨b1, -⟩ := BI_bec (T := mgK (M.1 7 1) c p) (u := M.1 7 1 (202 + 6 * c + 1)) hN.1.2.2.1.1 hN.1.2.2.2.2.2 20 (by omega)
      rw [givB_eq] at hb b1
      unfold givR
      rw [srvS_o (WFa_close hb hc) (by omega)]
      unfold closeS
      rw [setC_o (by omega)]
      exact b1 _ (by omega) (by omega)
theorem k_request (h : SR k M) (x y z : Int32) (e : Bool) : okc k M (f_L_request x y z (b2 e)) (f_X9_request x y z (b2 e)) := by
  have hT := h.1
  have hr := h.2.1
  have hN := hT.1
  have hf := c_requestFault (M := M) (g := 0) hr.1 hr.2.2.1 hr.2.2.2.2.1 hN.1.1 hN.1.2.1 hN.1.2.2.2.1 x y z e
  have hm := fun (M1 : Mem) (h71 : M1.1 7 1 = M.1 7 1) => m_barRequest (M := M1) (by rw [h71]; exact hN.1.1) (by rw [h71]; exact hN.1.2.1) (by rw [h71]; exact hN.1.2.2.2.1) x y z e
  have hcl : cdReq (M.1 7 1) x y z e < 4 := by
    unfold cdReq
    split
    · decide
    · split
      · decide
      · split <;> decide
  have hfm : f_X9_request x y z (b2 e) = B_X9_request_10 x y z (b2 e) := by
    funext M1
    unfold f_X9_request
    cases e <;> rfl
  rw [hfm]
  by_cases h0 : 0 < cdReq (M.1 7 1) x y z e
  · refine okc_r h (r := cdReq (M.1 7 1) x y z e) (b := nI 0) ⟨h0, hcl⟩ ?_ ?_
    · unfold f_L_request f_X8_request
      rw [hf, Option.bind_some, fk_nI _ hcl]
      generalize cdReq (M.1 7 1) x y z e = c at h0 hcl
      match c, h0, hcl with
      | 1, _, _ => rfl
      | 2, _, _ => rfl
      | 3, _, _ => rfl
    · unfold B_X9_request_10
      rw [hm M rfl, Option.bind_some, refu_p _ h0 hcl]
      rfl
  · have hc0 : cdReq (M.1 7 1) x y z e = 0 := by omega
    have hv : inR x 6 = true ∧ isS (M.1 7 1) y = true ∧ inT z = true ∧ pl (M.1 7 1) x = mI ∧ wq (M.1 7 1) ≠ 8 := by
      unfold cdReq at hc0
      cases h1 : inR x 6 && isS (M.1 7 1) y with
      | false => rw [h1] at hc0; simp at hc0
      | true =>
        rw [h1] at hc0
        cases h2 : inT z with
        | false => rw [h2] at hc0; simp at hc0
        | true =>
          rw [h2] at hc0
          rw [Bool.and_eq_true] at h1
          by_cases h3 : pl (M.1 7 1) x = mI
          · by_cases h4 : wq (M.1 7 1) = 8
            · simp [h3, h4] at hc0
            · exact ⟨h1.1, h1.2, rfl, h3, h4⟩
          · simp [h3] at hc0
    obtain ⟨v1, v2, v3, v4, v5⟩ := hv
    obtain ⟨u, hu, rfl⟩ := inR_t (by decide) v1
    obtain ⟨s, hs, rfl, hus⟩ := isS_t v2
    obtain ⟨t, ht0, ht, rfl⟩ := inT_t v3
    have hw : wq (M.1 7 1) < 8 := by have := wq_le hN.1.2.2.2.1; omega
    have hnew := pl_no hN.1.2.2.2.1 hu v4
    have hW := WFa_req (e := e) hN hw hu hs hus ht ht0 hnew
    rw [hc0] at hf
    refine okc_u h (now := fun q3 => (f_X1_requestNow 0 (nI u) (nI s) (nI t) (b2 e) q3).bind fun q4 => some (0, q4.1, q4.2)) (op := fun q5 => (f_X9_requests (nI u) (nI s) (nI t) (b2 e) q5).bind fun q6 => some (q6.1, q6.2)) (ans := (reqS (M.1 7 1) u s t e).1) (R := (reqS (M.1 7 1) u s t e).2) (fun M2 e2 => ?_) (fun M1 h1 => ?_) (fun M1 h1 => ?_) (fun M1 h1 => ?_) (TB_same hT hW ?_ ?_)
    · have e8 : f_X8_request (nI u) (nI s) (nI t) (b2 e) M = some (0, (reqS (M.1 7 1) u s t e).1, M2) := by
        unfold f_X8_request
        rw [hf, Option.bind_some, fkl_0, if_pos rfl]
        exact e2
      unfold f_L_request
      rw [e8]
      rfl
    · have h71 : M1.1 7 1 = M.1 7 1 := by rw [h1]
      have hm1 := hm M1 h71
      rw [h71, hc0] at hm1
      unfold B_X9_request_10
      rw [hm1, Option.bind_some, refu_0]
      rfl
    · obtain ⟨M2, a1, a2, a3⟩ := c_requestNow hN h1 e hw hu hs hus ht ht0 hnew
      exact ⟨M2, by rw [a1]; rfl, a2, a3⟩
    · obtain ⟨M2, a1, a2, a3⟩ := m_requests (M := M1) (by rw [h1]; exact hN) (u := u) (s := s) (t := t) e (by rw [h1]; exact hw) hu hs (by rw [h1]; exact hus)
      rw [h1] at a1 a2
      exact ⟨M2, by rw [a1]; rfl, a2, a3⟩
    · unfold reqS
      split
      · exact gr_lo (u := u) (s := s) (t := t) (e := e) 0 (by omega) (by omega)
      · exact joinS_lo (u := u) (s := s) (t := t) (e := e) 0 (by omega) (by omega)
    · unfold reqS
      split
      · exact gr_lo (u := u) (s := s) (t := t) (e := e) 1 (by omega) (by omega)
      · exact joinS_lo (u := u) (s := s) (t := t) (e := e) 1 (by omega) (by omega)
/-- one line is written -/
def wrK (N : Row) (m : Nat) (v : Int32) : Nat → Int32 := fun k => if k = m then v else lin N k
def wriS (N : Row) (m : Nat) (v : Int32) : Row := (becS (wrK N m v) mI (0, N) 20).2
theorem wrK_v {N : Row} (h : WFl N) {m w : Nat} (hw : w < 1000) {k : Nat} (hk : k < 120) : wrK N m (nI w) k = nI (cl (wrK N m (nI w) k)) ∧ cl (wrK N m (nI w) k) < 1000 := by
  unfold wrK
  by_cases h2 : k = m
  · rw [if_pos h2, cl_nI (by omega)]; exact ⟨rfl, hw⟩
  · rw [if_neg h2]; exact h.1 k hk
theorem bec_lo {N : Row} (h : WFa N) (T : Nat → Int32) (u : Int32) : eqR 0 62 (becS T u (0, N) 20).2 N := (BI_bec (T := T) (u := u) h.1.2.2.1.1 h.1.2.2.2.2.2 20 (by omega)).1
theorem k_write (h : SR k M) (x y v : Int32) : okc k M (f_L_write x y v) (f_X9_write x y v) := by
  have hT := h.1
  have hr := h.2.1
  have hN := hT.1
  have hf := c_writeFault (M := M) (g := 0) hr.1 hr.2.2.1 hN.1.1 hN.1.2.1 x y v
  cases hL : isL (M.1 7 1) x y with
  | false =>
    refine okc_r h (r := 1) (b := nI 0) (by decide) ?_ ?_
    · unfold f_L_write f_X8_write
      rw [hf, hL, Option.bind_some, fk_flt]
      rfl
    · unfold f_X9_write B_X9_write_42
      simp (disch := omega) only [↓ite_b2r, ↓ite_nb2r, ↓lit_m1, ↓lit_m2, lit_0, lit_1, lit_2, lit_3, lit_4, lit_5, lit_6, lit_7, lit_8, lit_9, lit_10, lit_11, lit_12, lit_13, lit_14, lit_15, lit_16, lit_17, lit_18, lit_19, lit_20, lit_21, lit_22, lit_23, lit_24, lit_25, lit_26, lit_27, lit_28, lit_29, lit_30, lit_31, lit_32, lit_33, lit_34, lit_35, lit_36, lit_40, lit_41, lit_42, lit_44, lit_48, lit_57, lit_59, lit_62, lit_63, lit_64, lit_82, lit_98, lit_99, lit_100, lit_101, lit_102, lit_103, lit_104, lit_105, lit_106, lit_107, lit_108, lit_109, lit_110, lit_111, lit_112, lit_113, lit_119, lit_120, lit_127, lit_128, lit_149, lit_150, lit_202, lit_240, lit_262, lit_894, lit_900, lit_999, lit_1000, lit_2000, lit_2662, lit_2663, lit_2695, lit_2701, lit_2702, lit_3602, lit_10806, nI_add, pk_mul, cl_nI, inb_nI, nI_leI, nI_ltI, nI_eq, nI_eq_m1, m1_eq_nI, nI_eq_m2, div_nI, rem_nI, Option.bind_some, b2_0, b2_1, isb_b2, if_true_, if_false_, ↓reduceIte, reduceCtorEq, not_true_eq_false, not_false_eq_true, bt_hasBit, ult, Nat.add_zero, false_and, true_and, and_true, and_false, Nat.reduceLeDiff, Nat.reduceEqDiff, Nat.reduceLT, Bool.toNat_true, Bool.toNat_false, decide_true, decide_false, Bool.not_true, Bool.not_false, Bool.false_and, Bool.true_and, Bool.and_true, Bool.and_false, Bool.or_false, Bool.true_or, Bool.or_true, Bool.false_or, flt_1, flt_2, flt_3, flt_0, fk_flt, fkl_0, fkl_1, fkl_2, fkl_3, n10, n20, n30, n12, n13, n21, n23, n31, n32, refu_0, refu_1, refu_2, refu_3, m_isLine, hL]
  | true =>
    have hL2 := hL
    unfold isL at hL2
    rw [Bool.and_eq_true] at hL2
    obtain ⟨s, hs, rfl, hus⟩ := isS_t hL2.1
    obtain ⟨l, hl, rfl⟩ := inR_t (by decide) hL2.2
    cases hv : inR v 1000 with
    | false =>
      refine okc_r h (r := 2) (b := nI 0) (by decide) ?_ ?_
      · unfold f_L_write f_X8_write
        rw [hf, hL, hv, Option.bind_some, fk_flt]
        rfl
      · unfold f_X9_write B_X9_write_42
        rw [show f_X9_within v 0 999 = _ from m_within v 999 (by decide)]
        simp (disch := omega) only [↓ite_b2r, ↓ite_nb2r, ↓lit_m1, ↓lit_m2, lit_0, lit_1, lit_2, lit_3, lit_4, lit_5, lit_6, lit_7, lit_8, lit_9, lit_10, lit_11, lit_12, lit_13, lit_14, lit_15, lit_16, lit_17, lit_18, lit_19, lit_20, lit_21, lit_22, lit_23, lit_24, lit_25, lit_26, lit_27, lit_28, lit_29, lit_30, lit_31, lit_32, lit_33, lit_34, lit_35, lit_36, lit_40, lit_41, lit_42, lit_44, lit_48, lit_57, lit_59, lit_62, lit_63, lit_64, lit_82, lit_98, lit_99, lit_100, lit_101, lit_102, lit_103, lit_104, lit_105, lit_106, lit_107, lit_108, lit_109, lit_110, lit_111, lit_112, lit_113, lit_119, lit_120, lit_127, lit_128, lit_149, lit_150, lit_202, lit_240, lit_262, lit_894, lit_900, lit_999, lit_1000, lit_2000, lit_2662, lit_2663, lit_2695, lit_2701, lit_2702, lit_3602, lit_10806, nI_add, pk_mul, cl_nI, inb_nI, nI_leI, nI_ltI, nI_eq, nI_eq_m1, m1_eq_nI, nI_eq_m2, div_nI, rem_nI, Option.bind_some, b2_0, b2_1, isb_b2, if_true_, if_false_, ↓reduceIte, reduceCtorEq, not_true_eq_false, not_false_eq_true, bt_hasBit, ult, Nat.add_zero, false_and, true_and, and_true, and_false, Nat.reduceLeDiff, Nat.reduceEqDiff, Nat.reduceLT, Bool.toNat_true, Bool.toNat_false, decide_true, decide_false, Bool.not_true, Bool.not_false, Bool.false_and, Bool.true_and, Bool.and_true, Bool.and_false, Bool.or_false, Bool.true_or, Bool.or_true, Bool.false_or, flt_1, flt_2, flt_3, flt_0, fk_flt, fkl_0, fkl_1, fkl_2, fkl_3, n10, n20, n30, n12, n13, n21, n23, n31, n32, refu_0, refu_1, refu_2, refu_3, m_isLine, hL, hv]
    | true =>
      obtain ⟨w, hw, rfl⟩ := inR_t (by decide) hv
      have hho := fun (M1 : Mem) (h71 : M1.1 7 1 = M.1 7 1) => m_holdersOf (M := M1) (by rw [h71]; exact hN.1.1) (by rw [h71]; exact hN.1.2.1) hs (by rw [h71]; exact hus)
      have h0 : (Hol (M.1 7 1) s = nI 0) = (Hup (M.1 7 1) s = false) := setN_0 (by omega)
      rw [isS_nI hs, hus, cl_nI (by omega), Bool.true_and] at hf
      cases hH : Hup (M.1 7 1) s with
      | true =>
        refine okc_r h (r := 3) (b := nI 0) (by decide) ?_ ?_
        · unfold f_L_write f_X8_write
          rw [hf, hL, hv, hH, Option.bind_some, fk_flt]
          rfl
        · unfold f_X9_write B_X9_write_42
          rw [show f_X9_within (nI w) 0 999 = _ from m_within (nI w) 999 (by decide)]
          simp (disch := omega) only [↓ite_b2r, ↓ite_nb2r, ↓lit_m1, ↓lit_m2, lit_0, lit_1, lit_2, lit_3, lit_4, lit_5, lit_6, lit_7, lit_8, lit_9, lit_10, lit_11, lit_12, lit_13, lit_14, lit_15, lit_16, lit_17, lit_18, lit_19, lit_20, lit_21, lit_22, lit_23, lit_24, lit_25, lit_26, lit_27, lit_28, lit_29, lit_30, lit_31, lit_32, lit_33, lit_34, lit_35, lit_36, lit_40, lit_41, lit_42, lit_44, lit_48, lit_57, lit_59, lit_62, lit_63, lit_64, lit_82, lit_98, lit_99, lit_100, lit_101, lit_102, lit_103, lit_104, lit_105, lit_106, lit_107, lit_108, lit_109, lit_110, lit_111, lit_112, lit_113, lit_119, lit_120, lit_127, lit_128, lit_149, lit_150, lit_202, lit_240, lit_262, lit_894, lit_900, lit_999, lit_1000, lit_2000, lit_2662, lit_2663, lit_2695, lit_2701, lit_2702, lit_3602, lit_10806, nI_add, pk_mul, cl_nI, inb_nI, nI_leI, nI_ltI, nI_eq, nI_eq_m1, m1_eq_nI, nI_eq_m2, div_nI, rem_nI, Option.bind_some, b2_0, b2_1, isb_b2, if_true_, if_false_, ↓reduceIte, reduceCtorEq, not_true_eq_false, not_false_eq_true, bt_hasBit, ult, Nat.add_zero, false_and, true_and, and_true, and_false, Nat.reduceLeDiff, Nat.reduceEqDiff, Nat.reduceLT, Bool.toNat_true, Bool.toNat_false, decide_true, decide_false, Bool.not_true, Bool.not_false, Bool.false_and, Bool.true_and, Bool.and_true, Bool.and_false, Bool.or_false, Bool.true_or, Bool.or_true, Bool.false_or, flt_1, flt_2, flt_3, flt_0, fk_flt, fkl_0, fkl_1, fkl_2, fkl_3, n10, n20, n30, n12, n13, n21, n23, n31, n32, refu_0, refu_1, refu_2, refu_3, m_isLine, hL, hv, hho M rfl, h0, hH]
      | false =>
        have hW : WFa (wriS (M.1 7 1) (6 * s + l) (nI w)) := WFa_bec hN (fun k hk => wrK_v hN.1.2.2.1 hw hk)
        have hTT : ∀ k, k < 120 → us (M.1 7 1) (k / 6) = false → wrK (M.1 7 1) (6 * s + l) (nI w) k = M.1 7 1 (82 + k) := fun k hk hu => by
          unfold wrK
          rw [if_neg (fun z => by rw [z, cell_div hl, hus] at hu; cases hu)]
          rfl
        refine okc_u h (now := fun q3 => (f_X1_writeNow 0 (nI s) (nI l) (nI w) q3).bind fun q4 => some (0, q4.1, q4.2)) (op := fun q9 => if inb (((82 : Int32) + ((6 : Int32) * nI s)) + nI l) 3602 then (f_X9_laysThen q9).bind fun q11 => if inb (((6 : Int32) * nI s) + nI l) 120 then (f_X9_becomes ((-1) : Int32) (wr q11 7 6 (cl (((6 : Int32) * nI s) + nI l)) (nI w))).bind fun q13 => some ((q9.1 7 1 (cl (((82 : Int32) + ((6 : Int32) * nI s)) + nI l))), q13.2) else none else none) (ans := M.1 7 1 (82 + 6 * s + l)) (R := wriS (M.1 7 1) (6 * s + l) (nI w)) (fun M2 e => ?_) (fun M1 h1 => ?_) (fun M1 h1 => ?_) (fun M1 h1 => ?_) (TB_same hT hW (bec_lo hN _ _ 0 (by omega) (by omega)) (bec_lo hN _ _ 1 (by omega) (by omega)))
        · have e8 : f_X8_write (nI s) (nI l) (nI w) M = some (0, M.1 7 1 (82 + 6 * s + l), M2) := by
            unfold f_X8_write
            rw [hf, hL, hv, hH, Option.bind_some, fk_flt, Bool.not_false, flt_0, if_pos rfl]
            exact e
          unfold f_L_write
          rw [e8]
          rfl
        · have h71 : M1.1 7 1 = M.1 7 1 := by rw [h1]
          have hh1 := hho M1 h71
          rw [h71] at hh1
          unfold f_X9_write B_X9_write_42
          rw [show f_X9_within (nI w) 0 999 = _ from m_within (nI w) 999 (by decide), m_isLine, h71]
          simp (disch := omega) only [↓ite_b2r, ↓ite_nb2r, ↓lit_m1, ↓lit_m2, lit_0, lit_1, lit_2, lit_3, lit_4, lit_5, lit_6, lit_7, lit_8, lit_9, lit_10, lit_11, lit_12, lit_13, lit_14, lit_15, lit_16, lit_17, lit_18, lit_19, lit_20, lit_21, lit_22, lit_23, lit_24, lit_25, lit_26, lit_27, lit_28, lit_29, lit_30, lit_31, lit_32, lit_33, lit_34, lit_35, lit_36, lit_40, lit_41, lit_42, lit_44, lit_48, lit_57, lit_59, lit_62, lit_63, lit_64, lit_82, lit_98, lit_99, lit_100, lit_101, lit_102, lit_103, lit_104, lit_105, lit_106, lit_107, lit_108, lit_109, lit_110, lit_111, lit_112, lit_113, lit_119, lit_120, lit_127, lit_128, lit_149, lit_150, lit_202, lit_240, lit_262, lit_894, lit_900, lit_999, lit_1000, lit_2000, lit_2662, lit_2663, lit_2695, lit_2701, lit_2702, lit_3602, lit_10806, nI_add, pk_mul, cl_nI, inb_nI, nI_leI, nI_ltI, nI_eq, nI_eq_m1, m1_eq_nI, nI_eq_m2, div_nI, rem_nI, Option.bind_some, b2_0, b2_1, isb_b2, if_true_, if_false_, ↓reduceIte, reduceCtorEq, not_true_eq_false, not_false_eq_true, bt_hasBit, ult, Nat.add_zero, false_and, true_and, and_true, and_false, Nat.reduceLeDiff, Nat.reduceEqDiff, Nat.reduceLT, Bool.toNat_true, Bool.toNat_false, decide_true, decide_false, Bool.not_true, Bool.not_false, Bool.false_and, Bool.true_and, Bool.and_true, Bool.and_false, Bool.or_false, Bool.true_or, Bool.or_true, Bool.false_or, flt_1, flt_2, flt_3, flt_0, fk_flt, fkl_0, fkl_1, fkl_2, fkl_3, n10, n20, n30, n12, n13, n21, n23, n31, n32, refu_0, refu_1, refu_2, refu_3, hL, hv, hh1, h0, hH]
        · have hlin := r_lin h1.1 (k := 6 * s + l) (by omega) (by rw [cell_div hl]; exact hus)
          obtain ⟨M2, a1, a2, a3⟩ := c_changeToWanted (M := wr (wrs M1 0 17 (fun k => if k < 120 then M1.1 0 5 k else M1.1 0 17 k)) 0 17 (6 * s + l) (nI w)) (g := 0) (N := M.1 7 1) (T := wrK (M.1 7 1) (6 * s + l) (nI w)) (u := mI) hN.1 hTT ⟨RD_17 (fun j hj => by rw [wr_other _ _ _ _ _ (by omega), wrs_other _ _ _ _ (by omega)]) h1, fun k hk hu => by
            rw [wr_same, wrs_same]
            unfold wrK
            by_cases hkm : k = 6 * s + l
            · rw [hkm, upd_same, if_pos rfl]
            · rw [upd_other hkm, if_neg hkm, if_pos hk]
              exact r_lin h1.1 hk hu, fun k hk hu => by
            rw [wr_same, wrs_same, wr_other _ _ _ _ _ (by omega), wrs_other _ _ _ _ (by omega), upd_other (fun z => by rw [z, cell_div hl, hus] at hu; cases hu), if_pos hk]⟩
          refine ⟨M2, ?_, a2, ((Fr_wrs _ _ _ _).tr (Fr_wr _ _ _ _ _)).tr a3⟩
          unfold f_X1_writeNow f_X8_cellOf
          rw [c_wantPresent]
          simp (disch := omega) only [↓ite_b2r, ↓ite_nb2r, ↓lit_m1, ↓lit_m2, lit_0, lit_1, lit_2, lit_3, lit_4, lit_5, lit_6, lit_7, lit_8, lit_9, lit_10, lit_11, lit_12, lit_13, lit_14, lit_15, lit_16, lit_17, lit_18, lit_19, lit_20, lit_21, lit_22, lit_23, lit_24, lit_25, lit_26, lit_27, lit_28, lit_29, lit_30, lit_31, lit_32, lit_33, lit_34, lit_35, lit_36, lit_40, lit_41, lit_42, lit_44, lit_48, lit_57, lit_59, lit_62, lit_63, lit_64, lit_82, lit_98, lit_99, lit_100, lit_101, lit_102, lit_103, lit_104, lit_105, lit_106, lit_107, lit_108, lit_109, lit_110, lit_111, lit_112, lit_113, lit_119, lit_120, lit_127, lit_128, lit_149, lit_150, lit_202, lit_240, lit_262, lit_894, lit_900, lit_999, lit_1000, lit_2000, lit_2662, lit_2663, lit_2695, lit_2701, lit_2702, lit_3602, lit_10806, nI_add, pk_mul, cl_nI, inb_nI, nI_leI, nI_ltI, nI_eq, nI_eq_m1, m1_eq_nI, nI_eq_m2, div_nI, rem_nI, Option.bind_some, b2_0, b2_1, isb_b2, if_true_, if_false_, ↓reduceIte, reduceCtorEq, not_true_eq_false, not_false_eq_true, bt_hasBit, ult, Nat.add_zero, false_and, true_and, and_true, and_false, Nat.reduceLeDiff, Nat.reduceEqDiff, Nat.reduceLT, Bool.toNat_true, Bool.toNat_false, decide_true, decide_false, Bool.not_true, Bool.not_false, Bool.false_and, Bool.true_and, Bool.and_true, Bool.and_false, Bool.or_false, Bool.true_or, Bool.or_true, Bool.false_or, Nat.mul_comm s 6, c_valueAt, c_want]
          rw [show f_X1_changeToWanted 0 mI _ = _ from a1, Option.bind_some, hlin, lin_c]
          rfl
        · have hb := m_becomes (M := wr (wrs M1 7 6 (mixF (lin (M1.1 7 1)) (M1.1 7 6) 120)) 7 6 (6 * s + l) (nI w)) (by rw [wr_other _ _ _ _ _ (by omega), wrs_other _ _ _ _ (by omega), h1]; exact hN.1.2.2.1.1) (by rw [wr_other _ _ _ _ _ (by omega), wrs_other _ _ _ _ (by omega), h1]; exact hN.1.2.2.2.2.2) mI
          have e1 : (wr (wrs M1 7 6 (mixF (lin (M1.1 7 1)) (M1.1 7 6) 120)) 7 6 (6 * s + l) (nI w)).1 7 1 = M.1 7 1 := by rw [wr_other _ _ _ _ _ (by omega), wrs_other _ _ _ _ (by omega), h1]
          have e6 : ∀ k, k < 120 → (wr (wrs M1 7 6 (mixF (lin (M1.1 7 1)) (M1.1 7 6) 120)) 7 6 (6 * s + l) (nI w)).1 7 6 k = wrK (M.1 7 1) (6 * s + l) (nI w) k := fun k hk => by
            rw [wr_same, wrs_same]
            unfold wrK
            by_cases hkm : k = 6 * s + l
            · rw [hkm, upd_same, if_pos rfl]
            · rw [upd_other hkm, if_neg hkm, mixF_lt hk, h1]
          rw [e1, becS_cgT e6 20 (by omega)] at hb
          refine ⟨_, ?_, wrs_same _ _ _ _, ((FrN_wrs M1 (j := 6) (by omega) (mixF (lin (M1.1 7 1)) (M1.1 7 6) 120)).tr (FrN_wr _ (j := 6) (by omega) (6 * s + l) (nI w))).tr (FrN_wrs _ (j := 1) (by omega) (wriS (M.1 7 1) (6 * s + l) (nI w)))⟩
          rw [m_laysThen]
          simp (disch := omega) only [↓ite_b2r, ↓ite_nb2r, ↓lit_m1, ↓lit_m2, lit_0, lit_1, lit_2, lit_3, lit_4, lit_5, lit_6, lit_7, lit_8, lit_9, lit_10, lit_11, lit_12, lit_13, lit_14, lit_15, lit_16, lit_17, lit_18, lit_19, lit_20, lit_21, lit_22, lit_23, lit_24, lit_25, lit_26, lit_27, lit_28, lit_29, lit_30, lit_31, lit_32, lit_33, lit_34, lit_35, lit_36, lit_40, lit_41, lit_42, lit_44, lit_48, lit_57, lit_59, lit_62, lit_63, lit_64, lit_82, lit_98, lit_99, lit_100, lit_101, lit_102, lit_103, lit_104, lit_105, lit_106, lit_107, lit_108, lit_109, lit_110, lit_111, lit_112, lit_113, lit_119, lit_120, lit_127, lit_128, lit_149, lit_150, lit_202, lit_240, lit_262, lit_894, lit_900, lit_999, lit_1000, lit_2000, lit_2662, lit_2663, lit_2695, lit_2701, lit_2702, lit_3602, lit_10806, nI_add, pk_mul, cl_nI, inb_nI, nI_leI, nI_ltI, nI_eq, nI_eq_m1, m1_eq_nI, nI_eq_m2, div_nI, rem_nI, Option.bind_some, b2_0, b2_1, isb_b2, if_true_, if_false_, ↓reduceIte, reduceCtorEq, not_true_eq_false, not_false_eq_true, bt_hasBit, ult, Nat.add_zero, false_and, true_and, and_true, and_false, Nat.reduceLeDiff, Nat.reduceEqDiff, Nat.reduceLT, Bool.toNat_true, Bool.toNat_false, decide_true, decide_false, Bool.not_true, Bool.not_false, Bool.false_and, Bool.true_and, Bool.and_true, Bool.and_false, Bool.or_false, Bool.true_or, Bool.or_true, Bool.false_or]
          rw [show f_X9_becomes mI _ = _ from hb, Option.bind_some, h1]
          rfl
/-! time -/
theorem stp_m (N : Row) : stp mI N = false := by unfold stp; rw [decide_eq_true rfl]; rfl
theorem wF_s {x : Int32} : ∀ n N, (∀ i, i < n → stp x (wF x i N) = false) → wF x (n + 1) N = if stp x (wF x n N) = true then wF x n N else tickS (wF x n N)
  | 0, N, _ => rfl
  | n + 1, N, h => by
    have h0 : stp x N = false := h 0 (by omega)
    have e : ∀ j, wF x (j + 1) N = wF x j (tickS N) := fun j => by
      show (if stp x N = true then N else wF x j (tickS N)) = _
      rw [h0, if_neg (by decide)]
    rw [e (n + 1), wF_s n (tickS N) (fun i hi => by rw [← e i]; exact h (i + 1) (by omega)), ← e n]
def pasS (n : Nat) (N : Row) : Row := wF mI n N
theorem pasS_s (n : Nat) (N : Row) : pasS (n + 1) N = tickS (pasS n N) := by
  unfold pasS
  rw [wF_s n N (fun i _ => stp_m _), stp_m, if_neg (by decide)]
theorem tickS_1 {N : Row} (h : WFa N) (hb : cl (N 0) + 1 < 134217728) : tickS N 1 = N 1 := by
  unfold tickS
  rw [addU_o (by omega), srvS_o (WFa_age h (by omega)) (by omega)]
  unfold ageS
  rw [z_at (by omega)]
  exact expG_lo 10 1 (by omega) (by omega)
theorem WFa_pas {N : Row} (h : WFa N) : ∀ n, cl (N 0) + n < 134217728 → WFa (pasS n N) ∧ cl (pasS n N 0) = cl (N 0) + n ∧ pasS n N 1 = N 1
  | 0, _ => ⟨h, rfl, rfl⟩
  | n + 1, hb => by
    obtain ⟨a, b, c⟩ := WFa_pas h n (by omega)
    rw [pasS_s]
    exact ⟨WFa_tick a (by omega), by rw [tickS_0 a (by omega), cl_nI (by omega)]; omega, by rw [tickS_1 a (by omega)]; exact c⟩
theorem m_passes {M : Mem} (h : WFa (M.1 7 1)) {n : Nat} (hn : n ≤ 1000) (hb : cl (M.1 7 1 0) + n < 134217728) : ∃ M', f_X9_passes (nI n) M = some (pasS n (M.1 7 1) 0, M') ∧ M'.1 7 1 = pasS n (M.1 7 1) ∧ FrN M M' := by
  unfold f_X9_passes
  have main := loopE (fun m (σ : Int32 × Mem) => L_X9_passes_2 (nI n) m σ.1 σ.2) (fun i σ => ∃ M', σ = (nI i, M') ∧ M'.1 7 1 = pasS i (M.1 7 1) ∧ FrN M M') (P := fun q => q.1 = pasS n (M.1 7 1) 0 ∧ q.2.1 7 1 = pasS n (M.1 7 1) ∧ FrN M q.2) n (fun m i σ hi hσ => ?_) (fun m σ hσ => ?_) FU (FU_lt (by omega)) (nI 0, M) ⟨M, rfl, rfl, FrN.rf⟩
  · obtain ⟨b, h1, h2, h3, h4⟩ := main
    exact ⟨b.2, by rw [← h2]; exact h1, h3, h4⟩
  · obtain ⟨M1, rfl, a1, a2⟩ := hσ
    show ∃ s', L_X9_passes_2 (nI n) (m + 1) _ _ = L_X9_passes_2 (nI n) m _ _ ∧ _
    obtain ⟨w1, w2, w3⟩ := WFa_pas h i (by omega)
    obtain ⟨M2, b1, b2, b3⟩ := m_tickOn (M := M1) (by rw [a1]; exact w1) (by rw [a1, w2]; omega)
    refine ⟨(nI (i + 1), M2), ?_, M2, rfl, ?_, a2.tr b3⟩
    · rw [L_X9_passes_2]
      simp (disch := omega) only [↓ite_b2r, ↓ite_nb2r, ↓lit_m1, ↓lit_m2, lit_0, lit_1, lit_2, lit_3, lit_4, lit_5, lit_6, lit_7, lit_8, lit_9, lit_10, lit_11, lit_12, lit_13, lit_14, lit_15, lit_16, lit_17, lit_18, lit_19, lit_20, lit_21, lit_22, lit_23, lit_24, lit_25, lit_26, lit_27, lit_28, lit_29, lit_30, lit_31, lit_32, lit_33, lit_34, lit_35, lit_36, lit_40, lit_41, lit_42, lit_44, lit_48, lit_57, lit_59, lit_62, lit_63, lit_64, lit_82, lit_98, lit_99, lit_100, lit_101, lit_102, lit_103, lit_104, lit_105, lit_106, lit_107, lit_108, lit_109, lit_110, lit_111, lit_112, lit_113, lit_119, lit_120, lit_127, lit_128, lit_149, lit_150, lit_202, lit_240, lit_262, lit_894, lit_900, lit_999, lit_1000, lit_2000, lit_2662, lit_2663, lit_2695, lit_2701, lit_2702, lit_3602, lit_10806, nI_add, pk_mul, cl_nI, inb_nI, nI_leI, nI_ltI, nI_eq, nI_eq_m1, m1_eq_nI, nI_eq_m2, div_nI, rem_nI, Option.bind_some, b2_0, b2_1, isb_b2, if_true_, if_false_, ↓reduceIte, reduceCtorEq, not_true_eq_false, not_false_eq_true, bt_hasBit, ult, Nat.add_zero, false_and, true_and, and_true, and_false, Nat.reduceLeDiff, Nat.reduceEqDiff, Nat.reduceLT, Bool.toNat_true, Bool.toNat_false, decide_true, decide_false, Bool.not_true, Bool.not_false, Bool.false_and, Bool.true_and, Bool.and_true, Bool.and_false, Bool.or_false, Bool.true_or, Bool.or_true, Bool.false_or, Nat.not_le.mpr hi, b1]
    · rw [b2, a1, pasS_s]
  · obtain ⟨M1, rfl, a1, a2⟩ := hσ
    show ∃ b, L_X9_passes_2 (nI n) (m + 1) _ _ = some b ∧ _
    refine ⟨(M1.1 7 1 0, M1), ?_, ?_, a1, a2⟩
    · rw [L_X9_passes_2]
      simp (disch := omega) only [↓ite_b2r, ↓ite_nb2r, ↓lit_m1, ↓lit_m2, lit_0, lit_1, lit_2, lit_3, lit_4, lit_5, lit_6, lit_7, lit_8, lit_9, lit_10, lit_11, lit_12, lit_13, lit_14, lit_15, lit_16, lit_17, lit_18, lit_19, lit_20, lit_21, lit_22, lit_23, lit_24, lit_25, lit_26, lit_27, lit_28, lit_29, lit_30, lit_31, lit_32, lit_33, lit_34, lit_35, lit_36, lit_40, lit_41, lit_42, lit_44, lit_48, lit_57, lit_59, lit_62, lit_63, lit_64, lit_82, lit_98, lit_99, lit_100, lit_101, lit_102, lit_103, lit_104, lit_105, lit_106, lit_107, lit_108, lit_109, lit_110, lit_111, lit_112, lit_113, lit_119, lit_120, lit_127, lit_128, lit_149, lit_150, lit_202, lit_240, lit_262, lit_894, lit_900, lit_999, lit_1000, lit_2000, lit_2662, lit_2663, lit_2695, lit_2701, lit_2702, lit_3602, lit_10806, nI_add, pk_mul, cl_nI, inb_nI, nI_leI, nI_ltI, nI_eq, nI_eq_m1, m1_eq_nI, nI_eq_m2, div_nI, rem_nI, Option.bind_some, b2_0, b2_1, isb_b2, if_true_, if_false_, ↓reduceIte, reduceCtorEq, not_true_eq_false, not_false_eq_true, bt_hasBit, ult, Nat.add_zero, false_and, true_and, and_true, and_false, Nat.reduceLeDiff, Nat.reduceEqDiff, Nat.reduceLT, Bool.toNat_true, Bool.toNat_false, decide_true, decide_false, Bool.not_true, Bool.not_false, Bool.false_and, Bool.true_and, Bool.and_true, Bool.and_false, Bool.or_false, Bool.true_or, Bool.or_true, Bool.false_or, Nat.le_refl]
    · rw [a1]
theorem k_pass (h : SR k M) (hk : k < 512) (x : Int32) : okc k M (f_L_pass x) (f_X9_pass x) := by
  have hT := h.1
  have hr := h.2.1
  have hN := hT.1
  have hf : f_X1_passFault 0 x = nI (flt true (inR x 1001) true) := by
    unfold f_X1_passFault
    rw [show f_X8_isWithin x 0 1000 = _ from c_within x 1000 (by decide)]
    exact c_faultOf true _ true
  cases hx : inR x 1001 with
  | false =>
    refine okc_r h (r := 1) (b := nI 0) (by decide) ?_ ?_
    · unfold f_L_pass f_X8_pass
      rw [hf, hx, fk_flt]
      rfl
    · unfold f_X9_pass B_X9_pass_17
      rw [show f_X9_within x 0 1000 = _ from m_within x 1000 (by decide)]
      simp (disch := omega) only [↓ite_b2r, ↓ite_nb2r, ↓lit_m1, ↓lit_m2, lit_0, lit_1, lit_2, lit_3, lit_4, lit_5, lit_6, lit_7, lit_8, lit_9, lit_10, lit_11, lit_12, lit_13, lit_14, lit_15, lit_16, lit_17, lit_18, lit_19, lit_20, lit_21, lit_22, lit_23, lit_24, lit_25, lit_26, lit_27, lit_28, lit_29, lit_30, lit_31, lit_32, lit_33, lit_34, lit_35, lit_36, lit_40, lit_41, lit_42, lit_44, lit_48, lit_57, lit_59, lit_62, lit_63, lit_64, lit_82, lit_98, lit_99, lit_100, lit_101, lit_102, lit_103, lit_104, lit_105, lit_106, lit_107, lit_108, lit_109, lit_110, lit_111, lit_112, lit_113, lit_119, lit_120, lit_127, lit_128, lit_149, lit_150, lit_202, lit_240, lit_262, lit_894, lit_900, lit_999, lit_1000, lit_2000, lit_2662, lit_2663, lit_2695, lit_2701, lit_2702, lit_3602, lit_10806, nI_add, pk_mul, cl_nI, inb_nI, nI_leI, nI_ltI, nI_eq, nI_eq_m1, m1_eq_nI, nI_eq_m2, div_nI, rem_nI, Option.bind_some, b2_0, b2_1, isb_b2, if_true_, if_false_, ↓reduceIte, reduceCtorEq, not_true_eq_false, not_false_eq_true, bt_hasBit, ult, Nat.add_zero, false_and, true_and, and_true, and_false, Nat.reduceLeDiff, Nat.reduceEqDiff, Nat.reduceLT, Bool.toNat_true, Bool.toNat_false, decide_true, decide_false, Bool.not_true, Bool.not_false, Bool.false_and, Bool.true_and, Bool.and_true, Bool.and_false, Bool.or_false, Bool.true_or, Bool.or_true, Bool.false_or, flt_1, flt_2, flt_3, flt_0, fk_flt, fkl_0, fkl_1, fkl_2, fkl_3, n10, n20, n30, n12, n13, n21, n23, n31, n32, refu_0, refu_1, refu_2, refu_3, hx]
  | true =>
    obtain ⟨n, hn, rfl⟩ := inR_t (by decide) hx
    have hb : cl (M.1 7 1 0) + n < 134217728 := by have := hT.2.1; omega
    obtain ⟨w1, w2, w3⟩ := WFa_pas hN n hb
    refine okc_u h (now := fun q3 => (f_X1_passTicks 0 (nI n) ((-1) : Int32) q3).bind fun q4 => some (0, (q4.1 0 0 6), q4)) (op := fun q5 => (f_X9_passes (nI n) q5).bind fun q6 => some (q6.1, q6.2)) (ans := pasS n (M.1 7 1) 0) (R := pasS n (M.1 7 1)) (fun M2 e => ?_) (fun M1 h1 => ?_) (fun M1 h1 => ?_) (fun M1 h1 => ?_) ⟨w1, ?_, ?_⟩
    · have e8 : f_X8_pass (nI n) M = some (0, pasS n (M.1 7 1) 0, M2) := by
        unfold f_X8_pass
        rw [hf, hx, fk_flt, flt_0, if_pos rfl]
        exact e
      unfold f_L_pass
      rw [e8]
      rfl
    · unfold f_X9_pass B_X9_pass_17
      rw [show f_X9_within (nI n) 0 1000 = _ from m_within (nI n) 1000 (by decide)]
      simp (disch := omega) only [↓ite_b2r, ↓ite_nb2r, ↓lit_m1, ↓lit_m2, lit_0, lit_1, lit_2, lit_3, lit_4, lit_5, lit_6, lit_7, lit_8, lit_9, lit_10, lit_11, lit_12, lit_13, lit_14, lit_15, lit_16, lit_17, lit_18, lit_19, lit_20, lit_21, lit_22, lit_23, lit_24, lit_25, lit_26, lit_27, lit_28, lit_29, lit_30, lit_31, lit_32, lit_33, lit_34, lit_35, lit_36, lit_40, lit_41, lit_42, lit_44, lit_48, lit_57, lit_59, lit_62, lit_63, lit_64, lit_82, lit_98, lit_99, lit_100, lit_101, lit_102, lit_103, lit_104, lit_105, lit_106, lit_107, lit_108, lit_109, lit_110, lit_111, lit_112, lit_113, lit_119, lit_120, lit_127, lit_128, lit_149, lit_150, lit_202, lit_240, lit_262, lit_894, lit_900, lit_999, lit_1000, lit_2000, lit_2662, lit_2663, lit_2695, lit_2701, lit_2702, lit_3602, lit_10806, nI_add, pk_mul, cl_nI, inb_nI, nI_leI, nI_ltI, nI_eq, nI_eq_m1, m1_eq_nI, nI_eq_m2, div_nI, rem_nI, Option.bind_some, b2_0, b2_1, isb_b2, if_true_, if_false_, ↓reduceIte, reduceCtorEq, not_true_eq_false, not_false_eq_true, bt_hasBit, ult, Nat.add_zero, false_and, true_and, and_true, and_false, Nat.reduceLeDiff, Nat.reduceEqDiff, Nat.reduceLT, Bool.toNat_true, Bool.toNat_false, decide_true, decide_false, Bool.not_true, Bool.not_false, Bool.false_and, Bool.true_and, Bool.and_true, Bool.and_false, Bool.or_false, Bool.true_or, Bool.or_true, Bool.false_or, flt_1, flt_2, flt_3, flt_0, fk_flt, fkl_0, fkl_1, fkl_2, fkl_3, n10, n20, n30, n12, n13, n21, n23, n31, n32, refu_0, refu_1, refu_2, refu_3, hx]
    · obtain ⟨M2, a1, a2, a3⟩ := c_passTicks hN h1 (n := n) (by omega) hb mI
      refine ⟨M2, ?_, a2, a3⟩
      rw [show f_X1_passTicks 0 (nI n) (-1) M1 = _ from a1, Option.bind_some, a2.2.2.2.2.2.2.1]
      rfl
    · obtain ⟨M2, a1, a2, a3⟩ := m_passes (M := M1) (by rw [h1]; exact hN) (n := n) (by omega) (by rw [h1]; exact hb)
      rw [h1] at a1 a2
      exact ⟨M2, by rw [a1]; rfl, a2, a3⟩
    · rw [w2]; have := hT.2.1; omega
    · rw [w3]; have := hT.2.2; omega
end KD
