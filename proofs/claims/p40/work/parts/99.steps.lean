/-! ===== each call of the law's loop keeps the desk in order ===== -/
def okA (v : Int32) : Prop := (-1 : Int32) ≤ v ∨ v = -52 ∨ v = -53 ∨ v = -51
theorem okA_cd (c : Nat) : okA (cdA c) := by
  unfold cdA okA
  by_cases h1 : c = 1
  · rw [if_pos h1]; exact Or.inr (Or.inr (Or.inl rfl))
  · rw [if_neg h1]
    by_cases h2 : c = 2
    · rw [if_pos h2]; exact Or.inr (Or.inr (Or.inr rfl))
    · rw [if_neg h2]; exact Or.inr (Or.inl rfl)
theorem okA_nI {n : Nat} (h : n < 2147483648) : okA (nI n) := by
  refine Or.inl (Int32.not_lt.mp fun z => ?_)
  rw [Int32.lt_iff_toInt_lt, nI_toInt h] at z
  have h1 : (-1 : Int32).toInt = -1 := by decide
  omega
theorem okA_v {N : Row} {k b : Nat} (h : isV N k b) (hb : b < 2147483648) : okA (N k) := by
  rw [h.1]
  exact okA_nI (Nat.lt_trans h.2 hb)
def Cl (f : Mem → Option (Int32 × Mem)) : Prop := ∀ (k : Nat) (N : Row) (S : List Row) (T : List Nat) (M : Mem), TB k N → Inv N → k < 512 → De N S T M → ∃ v M' N' S', f M = some (v, M') ∧ okA v ∧ De N' S' T M' ∧ TB (k + 1) N' ∧ Inv N'
theorem TB.b0 {k : Nat} {N : Row} (h : TB k N) (hk : k < 600) : cl (N 0) < 18000000 ∧ cl (N 1) < 600 := by
  have := h.2.1
  have := h.2.2
  omega
section ST
variable {k : Nat} {N : Row} {S : List Row} {T : List Nat} {M : Mem}
theorem s_no {f : Mem → Option (Int32 × Mem)} {c : Nat} (hT : TB k N) (hI : Inv N) (h : De N S T M) (e : f M = some (cdA c, M)) : ∃ v M' N' S', f M = some (v, M') ∧ okA v ∧ De N' S' T M' ∧ TB (k + 1) N' ∧ Inv N' := ⟨_, M, N, S, e, okA_cd c, h, hT.up (by omega), hI⟩
theorem s_request {u s t : Nat} (e : Bool) (hu : u < 6) (hs : s < 20) (ht : t ≤ 1000) : Cl (f_L_request (nI u) (nI s) (nI t) (b2 e)) := by
  intro k N S T M hT hI hk h
  have hN := hT.1
  by_cases h0 : cdReq N (nI u) (nI s) (nI t) e = 0
  · obtain ⟨x1, x2, x3, x4⟩ := cdReq_z hN hu hs ht h0
    obtain ⟨M', a, b, c⟩ := e_request hN h e hu hs ht h0
    exact ⟨_, M', _, _, a, Or.inl (Int32.not_lt.mp req_a), b, TB_same hT c req_0 req_1, Inv_req hN x3 hs hI⟩
  · exact s_no hT hI h (e_request_no hN h _ _ _ e h0)
theorem s_edit (x y z v : Int32) : Cl (f_L_edit x y z v) := by
  intro k N S T M hT hI hk h
  have hN := hT.1
  by_cases h0 : cdEdit N x y z v = 0
  · obtain ⟨a, b, c⟩ := flt_z h0
    obtain ⟨d, s, l, hd1, hs, hl, rfl, rfl, rfl, hk1, hus, ha⟩ := hCp_t a
    obtain ⟨w, hw, rfl⟩ := inR_t (by decide) b
    rw [isC_nI hd1, hk1, cl_nI (by omega), Bool.true_and, Bool.not_eq_true'] at c
    obtain ⟨M', e1, e2⟩ := e_edit hN h hd1 hs hl hw hk1 hus ha c
    have hW := WFa_edit hN hd1 hs hl hw
    have hv := hN.1.2.2.1.2 (240 * d + 12 * s + 2 * l + 1) (by omega)
    rw [show 262 + (240 * d + 12 * s + 2 * l + 1) = 262 + 240 * d + 12 * s + 2 * l + 1 by omega] at hv
    exact ⟨_, M', _, _, e1, okA_v hv (by decide), e2, TB_same hT hW (upd_other (by omega)) (upd_other (by omega)), Inv_edit hN hd1 hs hl hI⟩
  · exact s_no hT hI h (e_edit_no hN h _ _ _ _ h0)
theorem s_pass {n : Nat} (hn : n ≤ 1000) : Cl (f_L_pass (nI n)) := by
  intro k N S T M hT hI hk h
  have hN := hT.1
  have hb := hT.b0 (by omega)
  have hb2 : cl (N 0) + n < 134217728 := by omega
  obtain ⟨w1, w2, w3⟩ := WFa_pas hN n hb2
  obtain ⟨M', e1, e2⟩ := e_pass hN h hn hb2
  refine ⟨_, M', _, _, e1, ?_, e2, ⟨w1, ?_, ?_⟩, Inv_pas hN hI n hb2⟩
  · rw [(N0_within w1).1]; exact okA_nI (by have := (N0_within w1).2; omega)
  · rw [w2]; have := hT.2.1; omega
  · rw [w3]; have := hT.2.2; omega
theorem s_write (x y v : Int32) : Cl (f_L_write x y v) := by
  intro k N S T M hT hI hk h
  have hN := hT.1
  by_cases h0 : cdWri N x y v = 0
  · obtain ⟨a, b, c⟩ := flt_z h0
    unfold isL at a
    rw [Bool.and_eq_true] at a
    obtain ⟨s, hs, rfl, hus⟩ := isS_t a.1
    obtain ⟨l, hl, rfl⟩ := inR_t (by decide) a.2
    obtain ⟨w, hw, rfl⟩ := inR_t (by decide) b
    rw [isS_nI hs, hus, cl_nI (by omega), Bool.true_and, Bool.not_eq_true'] at c
    obtain ⟨M', e1, e2⟩ := e_write hN h hs hus hl hw c
    have hW : WFa (wriS N (6 * s + l) (nI w)) := WFa_bec hN (fun k hk => wrK_v hN.1.2.2.1 hw hk)
    obtain ⟨c1, -⟩ := BI_bec (T := wrK N (6 * s + l) (nI w)) (u := mI) hN.1.2.2.1.1 hN.1.2.2.2.2.2 20 (by omega)
    have hv := hN.1.2.2.1.1 (6 * s + l) (by omega)
    rw [show 82 + (6 * s + l) = 82 + 6 * s + l by omega] at hv
    exact ⟨_, M', _, _, e1, okA_v hv (by decide), e2, TB_same hT hW (c1 0 (by omega) (by omega)) (c1 1 (by omega) (by omega)), Inv_wri hN hs hus hl c hI⟩
  · exact s_no hT hI h (e_write_no hN h _ _ _ h0)
theorem s_giveBack (x y : Int32) : Cl (f_L_giveBack x y) := by
  intro k N S T M hT hI hk h
  have hN := hT.1
  by_cases h0 : cdGive N x y = 0
  · have hc := h0
    unfold cdGive at hc
    obtain ⟨a, b, c⟩ := flt_z hc
    obtain ⟨d, hd1, rfl, hk1⟩ := isC_t a
    obtain ⟨p, hp, rfl⟩ := inR_t (by decide) b
    rw [cl_nI (by omega), cl_nI (by omega)] at c
    obtain ⟨M', e1, e2⟩ := e_giveBack hN h hd1 hp hk1 c
    have hW := WFa_giv (p := p) hN hd1
    obtain ⟨-, -, -, -, -, hle⟩ := BI_bec (T := mgK N d p) (u := N (202 + 6 * d + 1)) hN.1.2.2.1.1 hN.1.2.2.2.2.2 20 (by omega)
    rw [givB_eq] at hle
    have hz2 : ∀ k, k = 0 ∨ k = 1 → givR N d p k = N k := fun k hk2 => by
      have hb := WFa_bec (u := N (202 + 6 * d + 1)) hN (fun k hk2 => mgK_v (p := p) hN.1.2.2.1 hd1 hk2)
      obtain ⟨b1, -⟩ := BI_bec (T := mgK N d p) (u := N (202 + 6 * d + 1)) hN.1.2.2.1.1 hN.1.2.2.2.2.2 20 (by omega)
      rw [givB_eq] at hb b1
      unfold givR
      rw [srvS_o (WFa_close hb hd1) (by omega)]
      unfold closeS
      rw [setC_o (by omega)]
      exact b1 _ (by omega) (by omega)
    exact ⟨_, M', _, _, e1, okA_nI (by omega), e2, TB_same hT hW (hz2 0 (by omega)) (hz2 1 (by omega)), Inv_giv hN hd1 hk1 c hI⟩
  · exact s_no hT hI h (e_giveBack_no hN h _ _ h0)
theorem s_breakUp (x : Int32) : Cl (f_L_breakUp x) := by
  intro k N S T M hT hI hk h
  have hN := hT.1
  by_cases h0 : cdBrk N x = 0
  · obtain ⟨a, b, c⟩ := flt_z h0
    obtain ⟨d, hd1, rfl, hk1⟩ := isC_t a
    obtain ⟨y1, y2⟩ := cdBrk_z hd1 h0
    obtain ⟨M', e1, e2⟩ := e_breakUp hN h hd1 y1 y2
    have hW : WFa (brkS N d) := WFa_srv (WFa_lose hN hd1)
    obtain ⟨eu, eu2⟩ := (hN.1.2.1.2 d hd1).2.1
    exact ⟨_, M', _, _, e1, by rw [eu]; exact okA_nI (by omega), e2, TB_same hT hW (brk_0 hN hd1 (by omega)) (brk_0 hN hd1 (by omega)), Inv_brk hN hd1 hI⟩
  · exact s_no hT hI h (e_breakUp_no hN h _ h0)
theorem s_cancel (x : Int32) : Cl (f_L_cancel x) := by
  intro k N S T M hT hI hk h
  have hN := hT.1
  by_cases h0 : cdCan N x = 0
  · obtain ⟨a, b, c⟩ := flt_z h0
    rw [Bool.not_eq_true', decide_eq_false_iff_not] at c
    obtain ⟨j, hj, ej, -⟩ := pl_k hN.1.2.2.2.1 c
    obtain ⟨M', e1, e2⟩ := e_cancel hN h a hj ej
    have hW : WFa (cancS N j) := WFa_srv (WFa_leave hN hj)
    have hq := wq_le hW.1.2.2.2.1
    have hz : ∀ k, k = 0 ∨ k = 1 → cancS N j k = N k := fun k hk2 => by
      show (srvS _).2 k = _
      rw [srvS_o (WFa_leave hN hj) (by omega)]
      exact leaveS_lo k (by omega) (by omega)
    exact ⟨_, M', _, _, e1, okA_nI (by omega), e2, TB_same hT hW (hz 0 (by omega)) (hz 1 (by omega)), Inv_canc hN hj hI⟩
  · exact s_no hT hI h (e_cancel_no hN h _ h0)
theorem s_renew (x y : Int32) : Cl (f_L_renew x y) := by
  intro k N S T M hT hI hk h
  have hN := hT.1
  have hb := hT.b0 (by omega)
  by_cases h0 : cdRen N x y = 0
  · obtain ⟨a, b, c⟩ := flt_z h0
    obtain ⟨d, hd1, rfl, hk1⟩ := isC_t a
    obtain ⟨t, ht0, ht, rfl⟩ := inT_t b
    rw [isC_nI hd1, hk1, cl_nI (by omega), Bool.true_and, Bool.and_eq_true, Bool.not_eq_true'] at c
    obtain ⟨M', e1, e2⟩ := e_renew hN h hd1 hk1 c.1 ht0 ht c.2
    have hW := WFa_ren hN hd1 ht ht0
    refine ⟨_, M', _, _, e1, ?_, e2, TB_same hT hW (setC_o (by omega)) (setC_o (by omega)), Inv_ren hN.1 hd1 hI⟩
    rw [(N0_within hN).1, nI_add]
    exact okA_nI (by omega)
  · exact s_no hT hI h (e_renew_no hN h _ _ h0)
theorem s_removeSection (x : Int32) : Cl (f_L_removeSection x) := by
  intro k N S T M hT hI hk h
  have hN := hT.1
  by_cases h0 : cdRem N x = 0
  · obtain ⟨a, b, c⟩ := flt_z h0
    obtain ⟨s, hs, rfl, hus⟩ := isS_t a
    rw [Bool.not_eq_true', decide_eq_false_iff_not, nI_eq (by omega) (by omega)] at b
    rw [isS_nI hs, hus, cl_nI (by omega), Bool.true_and, Bool.not_eq_true'] at c
    obtain ⟨M', e1, e2⟩ := e_removeSection hN h b hs hus c
    have hW := WFa_rem hN b c
    have hle : blN N s ≤ 20 := cntN_le _ _
    exact ⟨_, M', _, _, e1, okA_nI (by omega), e2, TB_same hT hW (remS_lo (by omega) (by omega)) (remS_lo (by omega) (by omega)), Inv_rem hN b hI⟩
  · exact s_no hT hI h (e_removeSection_no hN h _ h0)
theorem s_moveSection (x y : Int32) : Cl (f_L_moveSection x y) := by
  intro k N S T M hT hI hk h
  have hN := hT.1
  have hb := hT.b0 (by omega)
  have hb1 : cl (N 1) + 1 < 1073741824 := by omega
  by_cases h0 : cdMov N x y = 0
  · obtain ⟨a, b, c⟩ := flt_z h0
    rw [Bool.and_eq_true] at a
    obtain ⟨s, hs, rfl, hus⟩ := isS_t a.1
    obtain ⟨p, hp, rfl, hup⟩ := isS_t a.2
    rw [isS_nI hs, hus, isS_nI hp, hup, cl_nI (by omega), cl_nI (by omega), Bool.true_and, Bool.true_and, Bool.and_eq_true, Bool.not_eq_true', Bool.not_eq_true', decide_eq_false_iff_not, nI_eq (by omega) (by omega)] at b
    rw [isS_nI hs, hus, isS_nI hp, hup, cl_nI (by omega), cl_nI (by omega), Bool.true_and, Bool.true_and, Bool.and_eq_true, Bool.not_eq_true', Bool.not_eq_true'] at c
    obtain ⟨M', e1, e2⟩ := e_moveSection hN h hb1 b.1 hs hus hp hup b.2 c.1 c.2
    have hW := WFa_mov hN b.1 hs hus hp hup b.2 c.1 c.2 hb1
    have hle : dpN (movS N s p) s ≤ 20 := cntN_le _ _
    refine ⟨_, M', _, _, e1, okA_nI (by omega), e2, ⟨hW, ?_, ?_⟩, Inv_mov hN b.1 hs hus hp hup b.2 c.1 c.2 hb1 hI⟩
    · rw [movS_o (by omega) (by omega) (by omega)]; have := hT.2.1; omega
    · rw [movS_1, hN.1.1.2.2.2.2.2.1.1, nI_add, cl_nI (n := cl (N 1) + 1) (by omega)]; have := hT.2.2; omega
  · exact s_no hT hI h (e_moveSection_no hN h _ _ h0)
theorem s_addSection (x : Int32) : Cl (f_L_addSection x) := by
  intro k N S T M hT hI hk h
  have hN := hT.1
  have hb := hT.b0 (by omega)
  have hb1 : cl (N 1) + 1 < 1073741824 := by omega
  by_cases h0 : cdAdd N x = 0
  · obtain ⟨a, b, c⟩ := flt_z h0
    obtain ⟨p, hp, rfl, hup⟩ := isS_t a
    rw [isS_nI hp, hup, cl_nI (by omega), Bool.true_and, Bool.and_eq_true, Bool.not_eq_true', Bool.not_eq_true', decide_eq_false_iff_not] at c
    have hm : manyS N < 20 := by omega
    obtain ⟨f1, f2, f3⟩ := fre_spec hm
    obtain ⟨M', e1, e2⟩ := e_addSection hN hb1 h hp hup hm c.2
    have hW := WFa_add hN f1 f2 hp hup hb1
    exact ⟨_, M', _, _, e1, okA_nI (by omega), e2, TB_add hT f1 hW, Inv_add hN f1 f2 hp hup c.2 hb1 hI⟩
  · exact s_no hT hI h (e_addSection_no hN h _ h0)
theorem s_revert (x y : Int32) : Cl (f_L_revert x y) := by
  intro k N S T M hT hI hk h
  have hN := hT.1
  have hb := hT.b0 (by omega)
  by_cases h0 : cdRev N x y = 0
  · obtain ⟨a, b, c⟩ := flt_z h0
    obtain ⟨s, hs, rfl, hus⟩ := isS_t a
    obtain ⟨t, ht, rfl⟩ := inR_t (by omega) b
    rw [isS_nI hs, hus, cl_nI (by omega), Bool.true_and, Bool.not_eq_true'] at c
    obtain ⟨M', e1, e2⟩ := e_revert (k := t) hN h hs hus (by omega) c
    have hW := WFa_bec (u := mI) hN (fun k hk => revT_v (s := s) (T := nI t) hN hk)
    rw [revS_eq] at hW
    obtain ⟨c1, -, -, -, -, hle⟩ := BI_bec (T := revT N s (nI t)) (u := mI) hN.1.2.2.1.1 hN.1.2.2.2.2.2 20 (by omega)
    rw [revS_eq] at c1 hle
    exact ⟨_, M', _, _, e1, okA_nI (by omega), e2, TB_same hT hW (c1 0 (by omega) (by omega)) (c1 1 (by omega) (by omega)), Inv_rev hN c hI⟩
  · exact s_no hT hI h (e_revert_no hN h _ _ h0)
end ST
