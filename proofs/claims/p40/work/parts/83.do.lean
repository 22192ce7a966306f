/-! ===== the calls of the law that change the desk ===== -/
/-- what the law's wrappers answer where a call throws -/
def cdA (c : Nat) : Int32 := if c = 1 then -53 else if c = 2 then -51 else -52
def cdAdd (N : Row) (x : Int32) : Nat := flt (isS N x) true (!decide (20 ≤ manyS N) && !(isS N x && Cov N (cl x)))
def cdRem (N : Row) (x : Int32) : Nat := flt (isS N x) (!decide (x = nI 0)) (!(isS N x && Tou N (cl x)))
def cdMov (N : Row) (x y : Int32) : Nat := flt (isS N x && isS N y) (!decide (x = nI 0) && !(isS N y && (isS N x && An N (cl y) (cl x)))) (!(isS N x && Tou N (cl x)) && !(isS N y && Cov N (cl y)))
def cdWri (N : Row) (x y v : Int32) : Nat := flt (isL N x y) (inR v 1000) (!(isS N x && Hup N (cl x)))
def cdCan (N : Row) (x : Int32) : Nat := flt (inR x 6) true (!decide (pl N x = mI))
def cdRen (N : Row) (x y : Int32) : Nat := flt (isC N x) (inT y) ((isC N x && hd N (cl x)) && !Wf N (sec N (cl x)))
def cdBrk (N : Row) (x : Int32) : Nat := flt (isC N x) true (isC N x && hd N (cl x))
def cdDis (N : Row) (x : Int32) : Nat := flt (isC N x) true true
def cdRev (N : Row) (x y : Int32) : Nat := flt (isS N x) (inR y (cl (N 0) + 1)) (!(isS N x && Hel N (cl x)))
def cdPas (x : Int32) : Nat := flt true (inR x 1001) true
theorem flt_z {a b c : Bool} (h : flt a b c = 0) : a = true ∧ b = true ∧ c = true := by
  cases a <;> cases b <;> cases c <;> first | exact ⟨rfl, rfl, rfl⟩ | exact absurd h (by decide)
theorem flt_2t {a c : Bool} : flt a true c ≠ 2 := by cases a <;> cases c <;> decide
theorem inT_nI {t : Nat} (h0 : 0 < t) (h : t ≤ 1000) : inT (nI t) = true := by
  unfold inT
  rw [decide_eq_false (show ¬ nI t < nI 1 by rw [nI_ltI (by omega) (by omega)]; omega), decide_eq_false (show ¬ nI 1000 < nI t by rw [nI_ltI (by omega) (by omega)]; omega)]
  rfl
section DK
variable {N : Row} {S : List Row} {T : List Nat} {M : Mem}
theorem e_addSection_no (hN : WFa N) (h : De N S T M) (x : Int32) (h0 : cdAdd N x ≠ 0) : f_L_addSection x M = some (cdA (cdAdd N x), M) := by
  have hr := h.1
  have hf : f_X1_addFault 0 x M = some (nI (cdAdd N x)) := c_addFault hr.1 hr.2.1 hr.2.2.1 hr.2.2.2.2.1 hN.1.1 hN.1.2.1 hN.1.2.2.2.1 x
  have h4 : cdAdd N x < 4 := flt_lt _ _ _
  unfold f_L_addSection f_X8_addSection
  rw [hf, Option.bind_some, fk_nI _ h4]
  generalize hc : cdAdd N x = c at h0 h4
  have h2 : c ≠ 2 := by rw [← hc]; exact flt_2t
  match c, h0, h2, h4 with
  | 1, _, _, _ => rfl
  | 3, _, _, _ => rfl
theorem e_removeSection_no (hN : WFa N) (h : De N S T M) (x : Int32) (h0 : cdRem N x ≠ 0) : f_L_removeSection x M = some (cdA (cdRem N x), M) := by
  have hr := h.1
  have hf : f_X1_removeFault 0 x M = some (nI (cdRem N x)) := c_removeFault hr.1 hr.2.2.1 hr.2.2.2.2.1 hN.1.1 hN.1.2.1 hN.1.2.2.2.1 x
  have h4 : cdRem N x < 4 := flt_lt _ _ _
  unfold f_L_removeSection f_X8_removeSection
  rw [hf, Option.bind_some, fk_nI _ h4]
  generalize hc : cdRem N x = c at h0 h4
  match c, h0, h4 with
  | 1, _, _ => rfl
  | 2, _, _ => rfl
  | 3, _, _ => rfl
theorem e_moveSection_no (hN : WFa N) (h : De N S T M) (x y : Int32) (h0 : cdMov N x y ≠ 0) : f_L_moveSection x y M = some (cdA (cdMov N x y), M) := by
  have hr := h.1
  have hf : f_X1_moveFault 0 x y M = some (nI (cdMov N x y)) := c_moveFault hr.1 hr.2.2.1 hr.2.2.2.2.1 hN.1.1 hN.1.2.1 hN.1.2.2.2.1 x y
  have h4 : cdMov N x y < 4 := flt_lt _ _ _
  unfold f_L_moveSection f_X8_moveSection
  rw [hf, Option.bind_some, fk_nI _ h4]
  generalize hc : cdMov N x y = c at h0 h4
  match c, h0, h4 with
  | 1, _, _ => rfl
  | 2, _, _ => rfl
  | 3, _, _ => rfl
theorem e_write_no (hN : WFa N) (h : De N S T M) (x y v : Int32) (h0 : cdWri N x y v ≠ 0) : f_L_write x y v M = some (cdA (cdWri N x y v), M) := by
  have hr := h.1
  have hf : f_X1_writeFault 0 x y v M = some (nI (cdWri N x y v)) := c_writeFault hr.1 hr.2.2.1 hN.1.1 hN.1.2.1 x y v
  have h4 : cdWri N x y v < 4 := flt_lt _ _ _
  unfold f_L_write f_X8_write
  rw [hf, Option.bind_some, fk_nI _ h4]
  generalize hc : cdWri N x y v = c at h0 h4
  match c, h0, h4 with
  | 1, _, _ => rfl
  | 2, _, _ => rfl
  | 3, _, _ => rfl
theorem e_cancel_no (hN : WFa N) (h : De N S T M) (x : Int32) (h0 : cdCan N x ≠ 0) : f_L_cancel x M = some (cdA (cdCan N x), M) := by
  have hr := h.1
  have hf : f_X1_waitingFault 0 x M = some (nI (cdCan N x)) := c_waitingFault hr.2.2.2.2.1 hN.1.2.2.2.1 x
  have h4 : cdCan N x < 4 := flt_lt _ _ _
  unfold f_L_cancel f_X8_cancel
  rw [hf, Option.bind_some, fk_nI _ h4]
  generalize hc : cdCan N x = c at h0 h4
  have h2 : c ≠ 2 := by rw [← hc]; exact flt_2t
  match c, h0, h2, h4 with
  | 1, _, _, _ => rfl
  | 3, _, _, _ => rfl
theorem e_renew_no (hN : WFa N) (h : De N S T M) (x y : Int32) (h0 : cdRen N x y ≠ 0) : f_L_renew x y M = some (cdA (cdRen N x y), M) := by
  have hr := h.1
  have hf : f_X1_renewFault 0 x y M = some (nI (cdRen N x y)) := c_renewFault hr.1 hr.2.2.1 hr.2.2.2.2.1 hN.1.2.1 hN.1.2.2.2.1 x y
  have h4 : cdRen N x y < 4 := flt_lt _ _ _
  unfold f_L_renew f_X8_renew
  rw [hf, Option.bind_some, fk_nI _ h4]
  generalize hc : cdRen N x y = c at h0 h4
  match c, h0, h4 with
  | 1, _, _ => rfl
  | 2, _, _ => rfl
  | 3, _, _ => rfl
theorem e_breakUp_no (hN : WFa N) (h : De N S T M) (x : Int32) (h0 : cdBrk N x ≠ 0) : f_L_breakUp x M = some (cdA (cdBrk N x), M) := by
  have hr := h.1
  have hf : f_X1_breakFault 0 x M = some (nI (cdBrk N x)) := c_breakFault hr.2.2.1 x
  have h4 : cdBrk N x < 4 := flt_lt _ _ _
  unfold f_L_breakUp f_X8_breakUp
  rw [hf, Option.bind_some, fk_nI _ h4]
  generalize hc : cdBrk N x = c at h0 h4
  have h2 : c ≠ 2 := by rw [← hc]; exact flt_2t
  match c, h0, h2, h4 with
  | 1, _, _, _ => rfl
  | 3, _, _, _ => rfl
theorem e_edit_no (hN : WFa N) (h : De N S T M) (x y z v : Int32) (h0 : cdEdit N x y z v ≠ 0) : f_L_edit x y z v M = some (cdA (cdEdit N x y z v), M) := by
  have hr := h.1
  have hf : f_X1_editFault 0 x y z v M = some (nI (cdEdit N x y z v)) := c_editFault hr.1 hr.2.2.1 hN.1.1 hN.1.2.1 x y z v
  have h4 : cdEdit N x y z v < 4 := flt_lt _ _ _
  unfold f_L_edit f_X8_edit
  rw [hf, Option.bind_some, fk_nI _ h4]
  generalize hc : cdEdit N x y z v = c at h0 h4
  match c, h0, h4 with
  | 1, _, _ => rfl
  | 2, _, _ => rfl
  | 3, _, _ => rfl
theorem e_revert_no (hN : WFa N) (h : De N S T M) (x y : Int32) (h0 : cdRev N x y ≠ 0) : f_L_revert x y M = some (cdA (cdRev N x y), M) := by
  have hr := h.1
  have hf : f_X1_revertFault 0 x y M = some (nI (cdRev N x y)) := c_revertFault hr.1 hr.2.2.1 hr.2.2.2.2.2.2 hN.1.1 hN.1.2.1 x y
  have h4 : cdRev N x y < 4 := flt_lt _ _ _
  unfold f_L_revert f_X8_revert
  rw [hf, Option.bind_some, fk_nI _ h4]
  generalize hc : cdRev N x y = c at h0 h4
  match c, h0, h4 with
  | 1, _, _ => rfl
  | 2, _, _ => rfl
  | 3, _, _ => rfl
theorem e_discard_no (h : De N S T M) (x : Int32) (h0 : isC N x = false) : f_L_discard x M = some (-53, M) := by
  have hf := c_checkOutFault (M := M) (g := 0) h.1.2.2.1 x
  unfold f_L_discard f_X8_discard
  rw [hf, h0, fk_flt]
  rfl
theorem passF (x : Int32) : f_X1_passFault 0 x = nI (flt true (inR x 1001) true) := by
  unfold f_X1_passFault
  rw [show f_X8_isWithin x 0 1000 = _ from c_within x 1000 (by decide)]
  exact c_faultOf true _ true
theorem e_pass_no (x : Int32) (h0 : inR x 1001 = false) : f_L_pass x M = some (-51, M) := by
  unfold f_L_pass f_X8_pass
  rw [passF, h0, fk_flt]
  rfl
theorem cdReq_lt (x y z : Int32) (e : Bool) : cdReq N x y z e < 4 := by
  unfold cdReq
  split
  · decide
  · split
    · decide
    · split <;> decide
theorem e_request_no (hN : WFa N) (h : De N S T M) (x y z : Int32) (e : Bool) (h0 : cdReq N x y z e ≠ 0) : f_L_request x y z (b2 e) M = some (cdA (cdReq N x y z e), M) := by
  have hr := h.1
  have hf := c_requestFault (M := M) (g := 0) hr.1 hr.2.2.1 hr.2.2.2.2.1 hN.1.1 hN.1.2.1 hN.1.2.2.2.1 x y z e
  have h4 : cdReq N x y z e < 4 := cdReq_lt x y z e
  unfold f_L_request f_X8_request
  rw [hf, Option.bind_some, fk_nI _ h4]
  generalize cdReq N x y z e = c at h0 h4
  match c, h0, h4 with
  | 1, _, _ => rfl
  | 2, _, _ => rfl
  | 3, _, _ => rfl
theorem giveF (hN : WFa N) (h : De N S T M) (x y : Int32) : f_X1_giveBackFault 0 x y M = some (nI (cdGive N x y)) := by
  have hr := h.1
  obtain ⟨z, hf, hz⟩ := c_giveBackFault (M := M) (g := 0) hr.1 hr.2.2.1 hr.2.2.2.1 hN.1.2.1 x y
  have hcd : flt (isC N x) (inR y 3) z = cdGive N x y := by
    unfold cdGive
    cases hC : isC N x with
    | false => rfl
    | true =>
      cases hY : inR y 3 with
      | false => rfl
      | true =>
        obtain ⟨c, hc, rfl, hk⟩ := isC_t hC
        obtain ⟨p, hp, rfl⟩ := inR_t (by decide) hY
        rw [hz c p rfl rfl hc hp hk, cl_nI (by omega), cl_nI (by omega)]
  rw [hf, hcd]
theorem e_giveBack_no (hN : WFa N) (h : De N S T M) (x y : Int32) (h0 : cdGive N x y ≠ 0) : f_L_giveBack x y M = some (cdA (cdGive N x y), M) := by
  have hf := giveF hN h x y
  have h4 : cdGive N x y < 4 := flt_lt _ _ _
  unfold f_L_giveBack f_X8_giveBack
  rw [hf, Option.bind_some, fk_nI _ h4]
  generalize cdGive N x y = c at h0 h4
  match c, h0, h4 with
  | 1, _, _ => rfl
  | 2, _, _ => rfl
  | 3, _, _ => rfl
/-- a wrapper's call that returns -/
theorem e_addSection {p : Nat} (hN : WFa N) (hb : cl (N 1) + 1 < 1073741824) (h : De N S T M) (hp : p < 20) (hup : us N p = true) (hm : manyS N < 20) (hC : Cov N p = false) : ∃ M', f_L_addSection (nI p) M = some (nI (freS N), M') ∧ De (addS N p (freS N)) ((N :: S).take 4) T M' := by
  have hr := h.1
  have hf := c_addFault hr.1 hr.2.1 hr.2.2.1 hr.2.2.2.2.1 hN.1.1 hN.1.2.1 hN.1.2.2.2.1 (nI p)
  obtain ⟨M2, e, hD⟩ := De_u (now := fun q3 => (f_X7_add 0 (nI p) q3).bind fun q4 => some (0, q4.1, q4.2)) (ans := nI (freS N)) (R := addS N p (freS N)) hN h (fun M1 h1 => by
    obtain ⟨M2, a1, a2, a3⟩ := c_add_ hN h1 hm hp hup hC hb
    exact ⟨M2, by rw [a1]; rfl, a2, a3⟩)
  refine ⟨M2, ?_, hD⟩
  have e8 : f_X8_addSection (nI p) M = some (0, nI (freS N), M2) := by
    unfold f_X8_addSection
    rw [hf, isS_nI hp, hup, cl_nI (by omega), hC, decide_eq_false (show ¬ 20 ≤ manyS N by omega), Option.bind_some, fk_flt, Bool.and_false, Bool.not_false, Bool.and_true, flt_0, if_pos rfl]
    exact e
  unfold f_L_addSection
  rw [e8]
  rfl
theorem e_removeSection {s : Nat} (hN : WFa N) (h : De N S T M) (hs0 : s ≠ 0) (hs : s < 20) (hus : us N s = true) (ht : Tou N s = false) : ∃ M', f_L_removeSection (nI s) M = some (nI (blN N s + 1), M') ∧ De (remS N s) ((N :: S).take 4) T M' := by
  have hr := h.1
  have hf : f_X1_removeFault 0 (nI s) M = some (nI 0) := by
    rw [c_removeFault hr.1 hr.2.2.1 hr.2.2.2.2.1 hN.1.1 hN.1.2.1 hN.1.2.2.2.1, isS_nI hs, hus, cl_nI (by omega), ht, decide_eq_false (show ¬ nI s = nI 0 from fun z => hs0 (by rw [nI_eq (by omega) (by omega)] at z; exact z))]
    rfl
  obtain ⟨M2, e, hD⟩ := De_u (now := fun q3 => (f_X1_removeNow 0 (nI s) q3).bind fun q4 => some (0, q4.1, q4.2)) (ans := nI (blN N s + 1)) (R := remS N s) hN h (fun M1 h1 => by
    obtain ⟨M2, a1, a2, a3⟩ := c_removeNow hN h1 hs0 hs hus ht
    exact ⟨M2, by rw [a1]; rfl, a2, a3⟩)
  refine ⟨M2, ?_, hD⟩
  have e8 : f_X8_removeSection (nI s) M = some (0, nI (blN N s + 1), M2) := by
    unfold f_X8_removeSection
    rw [hf, Option.bind_some, fkl_0, if_pos rfl]
    exact e
  unfold f_L_removeSection
  rw [e8]
  rfl
theorem e_moveSection {s p : Nat} (hN : WFa N) (h : De N S T M) (hb : cl (N 1) + 1 < 1073741824) (hs0 : s ≠ 0) (hs : s < 20) (hus : us N s = true) (hp : p < 20) (hup : us N p = true) (hA : An N p s = false) (hTo : Tou N s = false) (hC : Cov N p = false) : ∃ M', f_L_moveSection (nI s) (nI p) M = some (nI (dpN (movS N s p) s - 1), M') ∧ De (movS N s p) ((N :: S).take 4) T M' := by
  have hr := h.1
  have hf : f_X1_moveFault 0 (nI s) (nI p) M = some (nI 0) := by
    rw [c_moveFault hr.1 hr.2.2.1 hr.2.2.2.2.1 hN.1.1 hN.1.2.1 hN.1.2.2.2.1, isS_nI hs, hus, isS_nI hp, hup, cl_nI (by omega), cl_nI (by omega), hA, hTo, hC, decide_eq_false (show ¬ nI s = nI 0 from fun z => hs0 (by rw [nI_eq (by omega) (by omega)] at z; exact z))]
    rfl
  obtain ⟨M2, e, hD⟩ := De_u (now := fun q3 => (f_X7_move 0 (nI s) (nI p) q3).bind fun q4 => (f_X7_depthOf 0 (nI s) q4).bind fun q5 => some (0, q5, q4)) (ans := nI (dpN (movS N s p) s - 1)) (R := movS N s p) hN h (fun M1 h1 => by
    obtain ⟨M2, a1, a2, a3⟩ := c_move hN h1 hs0 hs hus hp hup hA hTo hC hb
    refine ⟨M2, ?_, a2, a3⟩
    rw [a1, Option.bind_some, c_depthOf (WFt_mov hN.1.1 hs0 hs hus hp hup hA hb) a2.1 hs (by rw [movS_us hs hs]; exact hus)]
    rfl)
  refine ⟨M2, ?_, hD⟩
  have e8 : f_X8_moveSection (nI s) (nI p) M = some (0, nI (dpN (movS N s p) s - 1), M2) := by
    unfold f_X8_moveSection
    rw [hf, Option.bind_some, fkl_0, if_pos rfl]
    exact e
  unfold f_L_moveSection
  rw [e8]
  rfl
theorem e_write {s l w : Nat} (hN : WFa N) (h : De N S T M) (hs : s < 20) (hus : us N s = true) (hl : l < 6) (hw : w < 1000) (hH : Hup N s = false) : ∃ M', f_L_write (nI s) (nI l) (nI w) M = some (N (82 + 6 * s + l), M') ∧ De (wriS N (6 * s + l) (nI w)) ((N :: S).take 4) T M' := by
  have hr := h.1
  have hf : f_X1_writeFault 0 (nI s) (nI l) (nI w) M = some (nI 0) := by
    rw [c_writeFault hr.1 hr.2.2.1 hN.1.1 hN.1.2.1, isL, isS_nI hs, hus, inR_nI (by omega) (by decide), decide_eq_true hl, inR_nI (by omega) (by decide), decide_eq_true hw, cl_nI (by omega), hH]
    rfl
  obtain ⟨M2, e, hD⟩ := De_u (now := fun q3 => (f_X1_writeNow 0 (nI s) (nI l) (nI w) q3).bind fun q4 => some (0, q4.1, q4.2)) (ans := N (82 + 6 * s + l)) (R := wriS N (6 * s + l) (nI w)) hN h (fun M1 h1 => by
    have hTT : ∀ k, k < 120 → us N (k / 6) = false → wrK N (6 * s + l) (nI w) k = N (82 + k) := fun k hk hu => by
      unfold wrK
      rw [if_neg (fun z => by rw [z, cell_div hl, hus] at hu; cases hu)]
      rfl
    have hlin := r_lin h1.1 (k := 6 * s + l) (by omega) (by rw [cell_div hl]; exact hus)
    obtain ⟨M2, a1, a2, a3⟩ := c_changeToWanted (M := wr (wrs M1 0 17 (fun k => if k < 120 then M1.1 0 5 k else M1.1 0 17 k)) 0 17 (6 * s + l) (nI w)) (g := 0) (N := N) (T := wrK N (6 * s + l) (nI w)) (u := mI) hN.1 hTT ⟨RD_17 (fun j hj => by rw [wr_other _ _ _ _ _ (by omega), wrs_other _ _ _ _ (by omega)]) h1, fun k hk hu => by
      rw [wr_same, wrs_same]
      unfold wrK
      by_cases hkm : k = 6 * s + l
      · rw [hkm, upd_same, if_pos rfl]
      · rw [upd_other hkm, if_neg hkm, if_pos hk]
        exact r_lin h1.1 hk hu, fun k hk hu => by
      rw [wr_same, wrs_same, wr_other _ _ _ _ _ (by omega), wrs_other _ _ _ _ (by omega), upd_other (fun z => by rw [z, cell_div hl, hus] at hu; cases hu), if_pos hk]⟩
    refine ⟨M2, ?_, a2, ((Fr_wrs _ _ _ _).tr (Fr_wr _ _ _ _ _)).tr a3⟩
    unfold f_X1_writeNow f_X8_cellOf
    rw [c_wantPresent]
    simp (disch := omega) only [↓ite_b2r, ↓ite_nb2r, ↓lit_m1, ↓lit_m2, lit_0, lit_1, lit_2, lit_3, lit_4, lit_5, lit_6, lit_7, lit_8, lit_9, lit_10, lit_11, lit_12, lit_13, lit_14, lit_15, lit_16, lit_17, lit_18, lit_19, lit_20, lit_21, lit_22, lit_23, lit_24, lit_25, lit_26, lit_27, lit_28, lit_29, lit_30, lit_31, lit_32, lit_33, lit_34, lit_35, lit_36, lit_40, lit_41, lit_42, lit_44, lit_48, lit_57, lit_59, lit_62, lit_63, lit_64, lit_82, lit_98, lit_99, lit_100, lit_101, lit_102, lit_103, lit_104, lit_105, lit_106, lit_107, lit_108, lit_109, lit_110, lit_111, lit_112, lit_113, lit_119, lit_120, lit_127, lit_128, lit_149, lit_150, lit_202, lit_240, lit_262, lit_894, lit_900, lit_999, lit_1000, lit_2000, lit_2662, lit_2663, lit_2695, lit_2701, lit_2702, lit_3602, lit_10806, nI_add, pk_mul, cl_nI, inb_nI, nI_leI, nI_ltI, nI_eq, nI_eq_m1, m1_eq_nI, nI_eq_m2, div_nI, rem_nI, Option.bind_some, b2_0, b2_1, isb_b2, if_true_, if_false_, ↓reduceIte, reduceCtorEq, not_true_eq_false, not_false_eq_true, bt_hasBit, ult, Nat.add_zero, false_and, true_and, and_true, and_false, Nat.reduceLeDiff, Nat.reduceEqDiff, Nat.reduceLT, Bool.toNat_true, Bool.toNat_false, decide_true, decide_false, Bool.not_true, Bool.not_false, Bool.false_and, Bool.true_and, Bool.and_true, Bool.and_false, Bool.or_false, Bool.true_or, Bool.or_true, Bool.false_or, Nat.mul_comm s 6, c_valueAt, c_want]
    rw [show f_X1_changeToWanted 0 mI _ = _ from a1, Option.bind_some, hlin, lin_c]
    rfl)
  refine ⟨M2, ?_, hD⟩
  have e8 : f_X8_write (nI s) (nI l) (nI w) M = some (0, N (82 + 6 * s + l), M2) := by
    unfold f_X8_write
    rw [hf, Option.bind_some, fkl_0, if_pos rfl]
    exact e
  unfold f_L_write
  rw [e8]
  rfl
theorem e_cancel {x : Int32} {j : Nat} (hN : WFa N) (h : De N S T M) (hx : inR x 6 = true) (hj : j < wq N) (ej : pl N x = nI j) : ∃ M', f_L_cancel x M = some (nI (wq (cancS N j)), M') ∧ De (cancS N j) ((N :: S).take 4) T M' := by
  have hr := h.1
  have hf : f_X1_waitingFault 0 x M = some (nI 0) := by
    have hq8 := wq_le hN.1.2.2.2.1
    rw [c_waitingFault hr.2.2.2.2.1 hN.1.2.2.2.1, hx, ej, decide_eq_false (by rw [nI_eq_m1 (by omega)]; exact id)]
    rfl
  obtain ⟨M2, e, hD⟩ := De_u (now := fun q3 => (f_X1_cancelNow 0 x q3).bind fun q4 => some (0, q4.1, q4.2)) (ans := nI (wq (cancS N j))) (R := cancS N j) hN h (fun M1 h1 => by
    obtain ⟨M2, a1, a2, a3⟩ := c_cancelNow hN h1 ej hj
    exact ⟨M2, by rw [a1]; rfl, a2, a3⟩)
  refine ⟨M2, ?_, hD⟩
  have e8 : f_X8_cancel x M = some (0, nI (wq (cancS N j)), M2) := by
    unfold f_X8_cancel
    rw [hf, Option.bind_some, fkl_0, if_pos rfl]
    exact e
  unfold f_L_cancel
  rw [e8]
  rfl
theorem e_renew {c t : Nat} (hN : WFa N) (h : De N S T M) (hc : c < 10) (hk : ck N c = true) (hd1 : hd N c = true) (ht0 : 0 < t) (ht : t ≤ 1000) (hw : Wf N (sec N c) = false) : ∃ M', f_L_renew (nI c) (nI t) M = some (N 0 + nI t, M') ∧ De (renS N c t) ((N :: S).take 4) T M' := by
  have hr := h.1
  have hf : f_X1_renewFault 0 (nI c) (nI t) M = some (nI 0) := by
    rw [c_renewFault hr.1 hr.2.2.1 hr.2.2.2.2.1 hN.1.2.1 hN.1.2.2.2.1, isC_nI hc, hk, inT_nI ht0 ht, cl_nI (by omega), hd1, hw]
    rfl
  obtain ⟨M2, e, hD⟩ := De_u (now := fun q3 => (f_X1_renewNow 0 (nI c) (nI t) q3).bind fun q4 => some (0, q4.1, q4.2)) (ans := N 0 + nI t) (R := renS N c t) hN h (fun M1 h1 => by
    obtain ⟨M2, a1, a2, a3⟩ := c_renewNow hN h1 hc hk (t := t)
    exact ⟨M2, by rw [a1]; rfl, a2, a3⟩)
  refine ⟨M2, ?_, hD⟩
  have e8 : f_X8_renew (nI c) (nI t) M = some (0, N 0 + nI t, M2) := by
    unfold f_X8_renew
    rw [hf, Option.bind_some, fkl_0, if_pos rfl]
    exact e
  unfold f_L_renew
  rw [e8]
  rfl
theorem e_breakUp {c : Nat} (hN : WFa N) (h : De N S T M) (hc : c < 10) (hk : ck N c = true) (hd1 : hd N c = true) : ∃ M', f_L_breakUp (nI c) M = some (N (202 + 6 * c + 1), M') ∧ De (brkS N c) ((N :: S).take 4) T M' := by
  have hr := h.1
  have hf : f_X1_breakFault 0 (nI c) M = some (nI 0) := by
    rw [c_breakFault hr.2.2.1, isC_nI hc, hk, cl_nI (by omega), hd1]
    rfl
  obtain ⟨M2, e, hD⟩ := De_u (now := fun q3 => (f_X1_breakNow 0 (nI c) q3).bind fun q4 => some (0, q4.1, q4.2)) (ans := N (202 + 6 * c + 1)) (R := brkS N c) hN h (fun M1 h1 => by
    obtain ⟨M2, a1, a2, a3⟩ := c_breakNow hN h1 hc hk
    exact ⟨M2, by rw [a1]; rfl, a2, a3⟩)
  refine ⟨M2, ?_, hD⟩
  have e8 : f_X8_breakUp (nI c) M = some (0, N (202 + 6 * c + 1), M2) := by
    unfold f_X8_breakUp
    rw [hf, Option.bind_some, fkl_0, if_pos rfl]
    exact e
  unfold f_L_breakUp
  rw [e8]
  rfl
theorem e_edit {c s l w : Nat} (hN : WFa N) (h : De N S T M) (hc : c < 10) (hs : s < 20) (hl : l < 6) (hw : w < 1000) (hk : ck N c = true) (hus : us N s = true) (ha : An N s (sec N c) = true) (hsh : sh N c = false) : ∃ M', f_L_edit (nI c) (nI s) (nI l) (nI w) M = some (N (262 + 240 * c + 12 * s + 2 * l + 1), M') ∧ De (editS N c s l (nI w)) ((N :: S).take 4) T M' := by
  have hr := h.1
  have hf : f_X1_editFault 0 (nI c) (nI s) (nI l) (nI w) M = some (nI 0) := by
    rw [c_editFault hr.1 hr.2.2.1 hN.1.1 hN.1.2.1, hCp, isC_nI hc, hk, isL, isS_nI hs, hus, inR_nI (by omega) (by decide), decide_eq_true hl, cl_nI (by omega), cl_nI (by omega), ha, inR_nI (by omega) (by decide), decide_eq_true hw, hsh]
    rfl
  obtain ⟨M2, e, hD⟩ := De_u (now := fun q3 => (f_X1_editNow 0 (nI c) (nI s) (nI l) (nI w) q3).bind fun q4 => some (0, q4.1, q4.2)) (ans := N (262 + 240 * c + 12 * s + 2 * l + 1)) (R := editS N c s l (nI w)) hN h (fun M1 h1 => by
    obtain ⟨M2, a1, a2, a3⟩ := c_editNow hN h1 (nI w) hc hs hl hk hus ha
    exact ⟨M2, by rw [a1]; rfl, a2, a3⟩)
  refine ⟨M2, ?_, hD⟩
  have e8 : f_X8_edit (nI c) (nI s) (nI l) (nI w) M = some (0, N (262 + 240 * c + 12 * s + 2 * l + 1), M2) := by
    unfold f_X8_edit
    rw [hf, Option.bind_some, fkl_0, if_pos rfl]
    exact e
  unfold f_L_edit
  rw [e8]
  rfl
theorem e_giveBack {c p : Nat} (hN : WFa N) (h : De N S T M) (hc : c < 10) (hp : p < 3) (hk : ck N c = true) (hm : may N c p = true) : ∃ M', f_L_giveBack (nI c) (nI p) M = some (nI (givB N c p).1, M') ∧ De (givR N c p) ((N :: S).take 4) T M' := by
  have hr := h.1
  have hf : f_X1_giveBackFault 0 (nI c) (nI p) M = some (nI 0) := by
    rw [giveF hN h, cdGive, isC_nI hc, hk, inR_nI (by omega) (by decide), decide_eq_true hp, cl_nI (by omega), cl_nI (by omega), hm]
    rfl
  obtain ⟨M2, e, hD⟩ := De_u (now := fun q3 => (f_X1_giveBackNow 0 (nI c) (nI p) q3).bind fun q4 => some (0, q4.1, q4.2)) (ans := nI (givB N c p).1) (R := givR N c p) hN h (fun M1 h1 => by
    obtain ⟨M2, a1, a2, a3⟩ := c_giveBackNow hN h1 hc hp hk
    exact ⟨M2, by rw [a1]; rfl, a2, a3⟩)
  refine ⟨M2, ?_, hD⟩
  have e8 : f_X8_giveBack (nI c) (nI p) M = some (0, nI (givB N c p).1, M2) := by
    unfold f_X8_giveBack
    rw [hf, Option.bind_some, fkl_0, if_pos rfl]
    exact e
  unfold f_L_giveBack
  rw [e8]
  rfl
theorem e_revert {s k : Nat} (hN : WFa N) (h : De N S T M) (hs : s < 20) (hus : us N s = true) (hk : k ≤ cl (N 0)) (hH : Hel N s = false) : ∃ M', f_L_revert (nI s) (nI k) M = some (nI (revS N s (nI k)).1, M') ∧ De ((revS N s (nI k)).2) ((N :: S).take 4) T M' := by
  have hr := h.1
  have hf : f_X1_revertFault 0 (nI s) (nI k) M = some (nI 0) := by
    have hN0 := (N0_within hN).2
    rw [c_revertFault hr.1 hr.2.2.1 hr.2.2.2.2.2.2 hN.1.1 hN.1.2.1, isS_nI hs, hus, inR_nI (by omega) (by omega), decide_eq_true (by omega), cl_nI (n := s) (by omega), hH]
    rfl
  obtain ⟨M2, e, hD⟩ := De_u (now := fun q3 => (f_X1_revertNow 0 (nI s) (nI k) q3).bind fun q4 => some (0, q4.1, q4.2)) (ans := nI (revS N s (nI k)).1) (R := (revS N s (nI k)).2) hN h (fun M1 h1 => by
    obtain ⟨M2, a1, a2, a3⟩ := c_revertNow (T := nI k) hN h1 hs hus
    exact ⟨M2, by rw [a1]; rfl, a2, a3⟩)
  refine ⟨M2, ?_, hD⟩
  have e8 : f_X8_revert (nI s) (nI k) M = some (0, nI (revS N s (nI k)).1, M2) := by
    unfold f_X8_revert
    rw [hf, Option.bind_some, fkl_0, if_pos rfl]
    exact e
  unfold f_L_revert
  rw [e8]
  rfl
theorem e_discard {c : Nat} (hN : WFa N) (h : De N S T M) (hc : c < 10) (hk : ck N c = true) : ∃ M', f_L_discard (nI c) M = some (nI (cntEd N c), M') ∧ De (discS N c) ((N :: S).take 4) T M' := by
  have hf := c_checkOutFault (M := M) (g := 0) h.1.2.2.1 (nI c)
  obtain ⟨M2, e, hD⟩ := De_u (now := fun q3 => (f_X1_discardNow 0 (nI c) q3).bind fun q4 => some (0, q4.1, q4.2)) (ans := nI (cntEd N c)) (R := discS N c) hN h (fun M1 h1 => by
    obtain ⟨M2, a1, a2, a3⟩ := c_discardNow hN h1 hc hk
    exact ⟨M2, by rw [a1]; rfl, a2, a3⟩)
  refine ⟨M2, ?_, hD⟩
  have e8 : f_X8_discard (nI c) M = some (0, nI (cntEd N c), M2) := by
    unfold f_X8_discard
    rw [hf, isC_nI hc, hk, fk_flt, flt_0, if_pos rfl]
    exact e
  unfold f_L_discard
  rw [e8]
  rfl
theorem e_pass {n : Nat} (hN : WFa N) (h : De N S T M) (hn : n ≤ 1000) (hb : cl (N 0) + n < 134217728) : ∃ M', f_L_pass (nI n) M = some (pasS n N 0, M') ∧ De (pasS n N) ((N :: S).take 4) T M' := by
  have hx : inR (nI n) 1001 = true := by rw [inR_nI (by omega) (by decide), decide_eq_true (by omega)]
  obtain ⟨M2, e, hD⟩ := De_u (now := fun q3 => (f_X1_passTicks 0 (nI n) ((-1) : Int32) q3).bind fun q4 => some (0, (q4.1 0 0 6), q4)) (ans := pasS n N 0) (R := pasS n N) hN h (fun M1 h1 => by
    obtain ⟨M2, a1, a2, a3⟩ := c_passTicks hN h1 (n := n) (by omega) hb mI
    refine ⟨M2, ?_, a2, a3⟩
    rw [show f_X1_passTicks 0 (nI n) (-1) M1 = _ from a1, Option.bind_some, a2.2.2.2.2.2.2.1]
    rfl)
  refine ⟨M2, ?_, hD⟩
  have e8 : f_X8_pass (nI n) M = some (0, pasS n N 0, M2) := by
    unfold f_X8_pass
    rw [passF, hx, fk_flt, flt_0, if_pos rfl]
    exact e
  unfold f_L_pass
  rw [e8]
  rfl
theorem e_request {u s t : Nat} (hN : WFa N) (h : De N S T M) (e : Bool) (hu : u < 6) (hs : s < 20) (ht : t ≤ 1000) (h0 : cdReq N (nI u) (nI s) (nI t) e = 0) : ∃ M', f_L_request (nI u) (nI s) (nI t) (b2 e) M = some ((reqS N u s t e).1, M') ∧ De (reqS N u s t e).2 ((N :: S).take 4) T M' ∧ WFa (reqS N u s t e).2 := by
  have hr := h.1
  have hf := c_requestFault (M := M) (g := 0) hr.1 hr.2.2.1 hr.2.2.2.2.1 hN.1.1 hN.1.2.1 hN.1.2.2.2.1 (nI u) (nI s) (nI t) e
  have hv : inR (nI u) 6 = true ∧ isS N (nI s) = true ∧ inT (nI t) = true ∧ pl N (nI u) = mI ∧ wq N ≠ 8 := by
    unfold cdReq at h0
    cases h1 : inR (nI u) 6 && isS N (nI s) with
    | false => rw [h1] at h0; simp at h0
    | true =>
      rw [h1] at h0
      cases h2 : inT (nI t) with
      | false => rw [h2] at h0; simp at h0
      | true =>
        rw [h2] at h0
        rw [Bool.and_eq_true] at h1
        by_cases h3 : pl N (nI u) = mI
        · by_cases h4 : wq N = 8
          · simp [h3, h4] at h0
          · exact ⟨h1.1, h1.2, rfl, h3, h4⟩
        · simp [h3] at h0
  obtain ⟨v1, v2, v3, v4, v5⟩ := hv
  rw [isS_nI hs] at v2
  obtain ⟨t', ht0, ht', e3⟩ := inT_t v3
  have ett : t = t' := by rw [nI_eq (by omega) (by omega)] at e3; exact e3
  subst ett
  have hw : wq N < 8 := by have := wq_le hN.1.2.2.2.1; omega
  have hnew := pl_no hN.1.2.2.2.1 hu v4
  rw [h0] at hf
  obtain ⟨M2, e2, hD⟩ := De_u (now := fun q3 => (f_X1_requestNow 0 (nI u) (nI s) (nI t) (b2 e) q3).bind fun q4 => some (0, q4.1, q4.2)) (ans := (reqS N u s t e).1) (R := (reqS N u s t e).2) hN h (fun M1 h1 => by
    obtain ⟨M2, a1, a2, a3⟩ := c_requestNow hN h1 e hw hu hs v2 ht ht0 hnew
    exact ⟨M2, by rw [a1]; rfl, a2, a3⟩)
  refine ⟨M2, ?_, hD, WFa_req hN hw hu hs v2 ht ht0 hnew⟩
  have e8 : f_X8_request (nI u) (nI s) (nI t) (b2 e) M = some (0, (reqS N u s t e).1, M2) := by
    unfold f_X8_request
    rw [hf, Option.bind_some, fkl_0, if_pos rfl]
    exact e2
  unfold f_L_request
  rw [e8]
  rfl
end DK
