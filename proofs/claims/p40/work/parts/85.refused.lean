/-! ===== what is refused changes nothing ===== -/
section RFD
variable {N : Row} {S : List Row} {T : List Nat} {M : Mem}
theorem isS_no {N : Row} {x : Int32} (h : inR x 20 = false) : isS N x = false := by unfold isS; rw [h]; rfl
theorem isC_no {N : Row} {x : Int32} (h : inR x 10 = false) : isC N x = false := by unfold isC; rw [h]; rfl
theorem isS_root {N : Row} (hN : WFa N) : isS N 0 = true := (isS_nI (s := 0) (by decide)).trans (us_0 hN.1.1)
theorem isL_root {N : Row} (hN : WFa N) : isL N 0 0 = true := by unfold isL; rw [isS_root hN]; rfl
theorem rf_add (hN : WFa N) (h : De N S T M) : f_L_addSection (-1) M = some (-53, M) := by
  have e : cdAdd N (-1) = 1 := by unfold cdAdd; rw [isS_no (x := -1) (by decide)]; rfl
  have := e_addSection_no hN h (-1) (by rw [e]; decide)
  rw [e] at this
  exact this
theorem rf_rem (hN : WFa N) (h : De N S T M) : f_L_removeSection 0 M = some (-51, M) := by
  have e : cdRem N 0 = 2 := by unfold cdRem; rw [isS_root hN]; rfl
  have := e_removeSection_no hN h 0 (by rw [e]; decide)
  rw [e] at this
  exact this
theorem rf_mov (hN : WFa N) (h : De N S T M) : f_L_moveSection 0 0 M = some (-51, M) := by
  have e : cdMov N 0 0 = 2 := by unfold cdMov; rw [isS_root hN]; rfl
  have := e_moveSection_no hN h 0 0 (by rw [e]; decide)
  rw [e] at this
  exact this
theorem rf_sec (hN : WFa N) (h : De N S T M) : f_L_section 0 (-1) M = some (-51, M) := by
  rw [e_section hN h, aSec, if_pos (isS_root hN), if_neg (show ¬ inR (-1) 5 = true by decide)]
theorem rf_chi (hN : WFa N) (h : De N S T M) : f_L_child 0 20 M = some (-53, M) := by
  have hle := chMany_le N 0
  have e : inR 20 (chMany N 0) = false := by
    rw [show (20 : Int32) = nI 20 from rfl, inR_nI (by omega) (by omega), decide_eq_false (by omega)]
  rw [e_child hN h, aChi, if_pos (isS_root hN), if_neg (show ¬ inR 20 (chMany N (cl 0)) = true by rw [show cl 0 = 0 from rfl, e]; decide)]
theorem rf_lin (hN : WFa N) (h : De N S T M) : f_L_line 0 6 M = some (-53, M) := by
  have e : isL N 0 6 = false := by unfold isL; rw [show inR 6 6 = false by decide, Bool.and_false]
  rw [e_line hN h, aLin, e]
  rfl
theorem rf_wri (hN : WFa N) (h : De N S T M) : f_L_write 0 0 (-5) M = some (-51, M) := by
  have e : cdWri N 0 0 (-5) = 2 := by unfold cdWri; rw [isL_root hN, show inR (-5) 1000 = false by decide]; rfl
  have := e_write_no hN h 0 0 (-5) (by rw [e]; decide)
  rw [e] at this
  exact this
theorem rf_req1 (hN : WFa N) (h : De N S T M) : f_L_request 6 0 1 1 M = some (-53, M) := by
  have e : cdReq N 6 0 1 true = 1 := by unfold cdReq; rw [show inR 6 6 = false by decide]; rfl
  have := e_request_no hN h 6 0 1 true (by rw [e]; decide)
  rw [e] at this
  exact this
theorem rf_req2 (hN : WFa N) (h : De N S T M) : f_L_request 0 0 0 1 M = some (-51, M) := by
  have e : cdReq N 0 0 0 true = 2 := by unfold cdReq; rw [show inR 0 6 = true by decide, isS_root hN, show inT 0 = false by decide]; rfl
  have := e_request_no hN h 0 0 0 true (by rw [e]; decide)
  rw [e] at this
  exact this
theorem rf_can (hN : WFa N) (h : De N S T M) : f_L_cancel (-1) M = some (-53, M) := by
  have e : cdCan N (-1) = 1 := by unfold cdCan; rw [show inR (-1) 6 = false by decide]; rfl
  have := e_cancel_no hN h (-1) (by rw [e]; decide)
  rw [e] at this
  exact this
theorem rf_ren (hN : WFa N) (h : De N S T M) : f_L_renew 10 1 M = some (-53, M) := by
  have e : cdRen N 10 1 = 1 := by unfold cdRen; rw [isC_no (x := 10) (by decide)]; rfl
  have := e_renew_no hN h 10 1 (by rw [e]; decide)
  rw [e] at this
  exact this
theorem rf_brk (hN : WFa N) (h : De N S T M) : f_L_breakUp (-1) M = some (-53, M) := by
  have e : cdBrk N (-1) = 1 := by unfold cdBrk; rw [isC_no (x := -1) (by decide)]; rfl
  have := e_breakUp_no hN h (-1) (by rw [e]; decide)
  rw [e] at this
  exact this
theorem rf_dis (h : De N S T M) : f_L_discard 10 M = some (-53, M) := e_discard_no h 10 (isC_no (by decide))
theorem rf_edi (hN : WFa N) (h : De N S T M) : f_L_edit (-1) 0 0 0 M = some (-53, M) := by
  have e : cdEdit N (-1) 0 0 0 = 1 := by unfold cdEdit hCp; rw [isC_no (x := -1) (by decide)]; rfl
  have := e_edit_no hN h (-1) 0 0 0 (by rw [e]; decide)
  rw [e] at this
  exact this
theorem rf_giv (hN : WFa N) (h : De N S T M) : f_L_giveBack 10 0 M = some (-53, M) := by
  have e : cdGive N 10 0 = 1 := by unfold cdGive; rw [isC_no (x := 10) (by decide)]; rfl
  have := e_giveBack_no hN h 10 0 (by rw [e]; decide)
  rw [e] at this
  exact this
theorem rf_hol (hN : WFa N) (h : De N S T M) : f_L_holders 20 M = some (-53, M) := by
  rw [e_holders hN h, aHol, isS_no (x := 20) (by decide)]
  rfl
theorem rf_ifb (hN : WFa N) (h : De N S T M) : ∃ M', f_L_ifBroken (-1) M = some (-53, M') ∧ De N S T M' := by
  obtain ⟨M', a, b⟩ := e_ifBroken hN h (-1)
  refine ⟨M', ?_, b⟩
  rw [a, aIfB, isC_no (x := -1) (by decide)]
  rfl
theorem rf_gra (hN : WFa N) (hb : cl (N 0) + 2000 < 134217728) (h : De N S T M) : ∃ M', f_L_grantedAt 6 M = some (-53, M') ∧ De N S T M' := by
  obtain ⟨M', a, b⟩ := e_grantedAt hN hb h 6
  refine ⟨M', ?_, b⟩
  rw [a, aGra, if_neg (show ¬ inR 6 6 = true by decide)]
theorem rf_ent (hN : WFa N) (h : De N S T M) : f_L_entry 150 0 M = some (-53, M) := by
  have hh := hN.1.2.2.2.2.2.1.2
  have e : inR 150 (hn N) = false := by
    have : hn N < 151 := hh
    rw [show (150 : Int32) = nI 150 from rfl, inR_nI (by omega) (by omega), decide_eq_false (by omega)]
  rw [e_entry hN h, aEnt, e]
  rfl
theorem rf_bla (hN : WFa N) (h : De N S T M) : f_L_blame 0 (-1) M = some (-53, M) := by
  have e : isL N 0 (-1) = false := by unfold isL; rw [show inR (-1) 6 = false by decide, Bool.and_false]
  rw [e_blame hN h, aBla, e]
  rfl
theorem rf_was (hN : WFa N) (h : De N S T M) : ∃ M', f_L_lineAt 0 0 (-1) M = some (-51, M') ∧ De N S T M' := by
  obtain ⟨M', a, b⟩ := e_lineAt hN h 0 0 (-1)
  have hN0 := (N0_within hN).2
  have e : inR (-1) (cl (N 0) + 1) = false := by unfold inR; rw [show decide ((-1 : Int32) < nI 0) = true by decide]; rfl
  refine ⟨M', ?_, b⟩
  rw [a, aWas, if_pos (isL_root hN), e]
  rfl
theorem rf_rev (hN : WFa N) (h : De N S T M) : f_L_revert 0 (-1) M = some (-51, M) := by
  have e0 : inR (-1) (cl (N 0) + 1) = false := by unfold inR; rw [show decide ((-1 : Int32) < nI 0) = true by decide]; rfl
  have e : cdRev N 0 (-1) = 2 := by unfold cdRev; rw [isS_root hN, e0]; rfl
  have := e_revert_no hN h 0 (-1) (by rw [e]; decide)
  rw [e] at this
  exact this
theorem rf_wai (hN : WFa N) (h : De N S T M) : f_L_waitingAt 8 0 M = some (-53, M) := by
  have hq := wq_le hN.1.2.2.2.1
  have e : inR 8 (wq N) = false := by
    rw [show (8 : Int32) = nI 8 from rfl, inR_nI (by omega) (by omega), decide_eq_false (by omega)]
  rw [e_waitingAt hN h, aWai, e]
  rfl
theorem rf_pas : f_L_pass 1001 M = some (-51, M) := e_pass_no 1001 (by decide)
theorem rf_use (hN : WFa N) (hb : cl (N 0) < 134217728) (h : De N S T M) : f_L_useBits 6 M = some (-53, M) := by
  rw [e_useBits hN hb h, aUse, if_neg (show ¬ inR 6 6 = true by decide)]
theorem rf_app (h : De N S T M) : f_L_append (-1) M = some (-51, M) := by
  obtain ⟨l1, l2, l3⟩ := h.2.2
  have ec : f_X8_isWithin (-1) 0 127 = b2 false := (c_within (-1) 127 (by decide)).trans (by rw [show inR (-1) (127 + 1) = false by decide])
  unfold f_L_append f_X8_append B_X8_append_25
  rw [l2]
  by_cases h120 : nI T.length < 120
  · rw [if_neg (fun z => Int32.not_lt.mpr z h120), ec, show f_X8_faultOf 1 (b2 false) 1 = _ from c_faultOf true false true, fk_flt]
    rfl
  · rw [if_pos (Int32.not_lt.mp h120), ec, show f_X8_faultOf 1 (b2 false) 0 = _ from c_faultOf true false false, fk_flt]
    rfl
theorem rf_out (h : De N S T M) : f_L_outline (-1) M = some (-51, M) := by
  unfold f_L_outline f_X8_outline B_X8_outline_10
  rw [if_pos (show (-1 : Int32) < 0 by decide), show f_X8_faultOf 1 0 1 = _ from c_faultOf true false true, fk_flt]
  rfl
theorem p_refused (hN : WFa N) (hb : cl (N 0) + 2000 < 134217728) (h : De N S T M) : ∃ M', f_L_refused M = some (1, M') ∧ De N (S.take 3) T M' := by
  have hb2 : cl (N 0) < 134217728 := by omega
  obtain ⟨v, hv⟩ := p_print hN hb2
  obtain ⟨M1, a1, h1⟩ := hv S T M h
  obtain ⟨M2, a2, h2⟩ := rf_ifb hN h1
  obtain ⟨M3, a3, h3⟩ := rf_gra hN hb h2
  obtain ⟨M4, a4, h4⟩ := rf_was hN h3
  obtain ⟨M5, a5, h5⟩ := hv _ T M4 h4
  rw [List.take_take, Nat.min_self] at h5
  refine ⟨M5, ?_, h5⟩
  unfold f_L_refused
  rw [a1, Option.bind_some, rf_add hN h1, Option.bind_some, if_pos rfl, rf_rem hN h1, Option.bind_some, if_pos rfl, rf_mov hN h1, Option.bind_some, if_pos rfl, rf_sec hN h1, Option.bind_some, if_pos rfl, rf_chi hN h1, Option.bind_some, if_pos rfl, rf_lin hN h1, Option.bind_some, if_pos rfl, rf_wri hN h1, Option.bind_some, if_pos rfl, rf_req1 hN h1, Option.bind_some, if_pos rfl, rf_req2 hN h1, Option.bind_some, if_pos rfl]
  unfold B_L_refused_116
  rw [if_neg (show ¬ (1 : Int32) = 0 by decide), rf_can hN h1, Option.bind_some, if_pos rfl, rf_ren hN h1, Option.bind_some, if_pos rfl, rf_brk hN h1, Option.bind_some, if_pos rfl, rf_dis h1, Option.bind_some, if_pos rfl, rf_edi hN h1, Option.bind_some, if_pos rfl, rf_giv hN h1, Option.bind_some, if_pos rfl, rf_hol hN h1, Option.bind_some, if_pos rfl, a2, Option.bind_some, if_pos rfl, a3, Option.bind_some, if_pos rfl, rf_ent hN h3, Option.bind_some, if_pos rfl]
  unfold B_L_refused_239
  rw [if_neg (show ¬ (1 : Int32) = 0 by decide), rf_bla hN h3, Option.bind_some, if_pos rfl, a4, Option.bind_some, if_pos rfl, rf_rev hN h4, Option.bind_some, if_pos rfl, rf_wai hN h4, Option.bind_some, if_pos rfl, rf_pas, Option.bind_some, if_pos rfl, rf_use hN hb2 h4, Option.bind_some, if_pos rfl, rf_app h4, Option.bind_some, if_pos rfl, rf_out h4, Option.bind_some, if_pos rfl, a5, Option.bind_some, if_pos (lcv_0.mpr rfl)]
end RFD
