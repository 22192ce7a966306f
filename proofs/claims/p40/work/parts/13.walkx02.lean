section
variable {p : Program} {l : Launch} {e : Env} {s : State} {m : MethodId} {args : Array Value} {below : List Frame} {meth : Method} {c : Code} {G : Geo}
theorem c_L_cancel {l : Launch} {G : Geo} {x1 : Int32} {rv : Int32} {Mf : Mem} {M : Mem} (hlt : l.stackTraces = false) (hG : gD G) (h : f_L_cancel x1 M = some (rv, Mf)) : Met l yL_cancel (.codeWith yL_cancel cL_cancel 4 (some .int) [(0, 6, 9, 15), (0, 6, 13, 17)] :: GL) (rmx 10) (gPx G [.ref (adr G 6 0), .int x1] M) (gQ G (some (.int rv)) Mf) 1 6 (gA G) := by
  refine WMet_of (own := RL) (L := [(0, .ref (adr G 6 0)), (1, .int x1)]) hG (by decide +kernel) rfl (Nat.le_of_ble_eq_true rfl) rfl ?_
  intro p e s m args below meth c hC hX htab hr hlk
  refine V_aload_n hC dL_cancel_0 rfl 0 rfl ?_
  refine V_iload_n hC dL_cancel_1 rfl 1 rfl ?_
  obtain ⟨q1, e1, h⟩ := bind_some h
  refine V_xV hC hX [.int x1] (c_X8_cancel (l := l) (k0 := q1.1) (rv := q1.2.1) (Mf := q1.2.2) hlt hC.2.2.2.2.2.2.2 e1) kd_X8_cancel kv_X8_cancel gw_723 (r_s0_0).o rfl ⟨Nat.le_of_ble_eq_true rfl, Nat.le_of_ble_eq_true rfl⟩ rfl (Nat.le_of_ble_eq_true rfl) dL_cancel_2 ⟨by decide, by decide⟩ rfl (fun z1 => ?_) (fun z1 => ?_)
  · have h := ite_t z1 h
    refine V_istore_n hC ([(2, .int q1.2.1), (0, .ref (adr G 6 0)), (1, .int x1)]) dL_cancel_5 rfl (by decide) rfl ?_
    refine V_goto hC 17 dL_cancel_6 (by decide) ?_
    refine V_iload_n hC dL_cancel_17 rfl 0 rfl ?_
    obtain ⟨rfl, rfl⟩ := Prod.mk.inj (Option.some.inj h)
    exact V_wiret hC hr hlk (by decide) (by decide) dL_cancel_18
  · have h := ite_f (Nat.ne_of_gt z1) h
    by_cases c2 : q1.1 = 1
    · have h := ite_t c2 h
      refine V_catch hC hX htab (pre := []) (suf := [(0, 6, 13, 17)]) rfl (by decide) (fun z hz => nomatch hz) (by decide) (by rw [c2]; exact gw_238) (by rw [c2]; decide +kernel) (fun w2 => ?_)
      refine V_astore_n hC ([(3, .ref w2), (0, .ref (adr G 6 0)), (1, .int x1)]) dL_cancel_9 rfl (by decide) rfl ?_
      refine V_bipush hC ((-53) : Int32) dL_cancel_10 (by decide) ?_
      obtain ⟨rfl, rfl⟩ := Prod.mk.inj (Option.some.inj h)
      exact V_wiret hC hr hlk (by decide) (by decide) dL_cancel_12
    have h := ite_f c2 h
    by_cases c3 : q1.1 = 3
    · have h := ite_t c3 h
      have hpre1 : ∀ z ∈ [((0, 6, 9, 15) : Nat × Nat × Nat × Nat)], z.2.2.2 ≠ 0 ∧ ∃ nm : String, Cond.classLink RL z.2.2.2 nm ∈ GL ∧ (xcls q1.1, nm) ∈ XN := by
        rw [c3]
        intro z hz
        rcases List.mem_cons.mp hz with rfl | hz
        · exact ⟨by decide, _, gw_238, by decide +kernel⟩
        exact nomatch hz
      refine V_catch hC hX htab (pre := [(0, 6, 9, 15)]) (suf := []) rfl (by decide) (hpre1) (by decide) (by rw [c3]; exact gw_239) (by rw [c3]; decide +kernel) (fun w3 => ?_)
      refine V_astore_n hC ([(3, .ref w3), (0, .ref (adr G 6 0)), (1, .int x1)]) dL_cancel_13 rfl (by decide) rfl ?_
      refine V_bipush hC ((-52) : Int32) dL_cancel_14 (by decide) ?_
      obtain ⟨rfl, rfl⟩ := Prod.mk.inj (Option.some.inj h)
      exact V_wiret hC hr hlk (by decide) (by decide) dL_cancel_16
    have h := ite_f c3 h
    cases h
theorem c_L_renew {l : Launch} {G : Geo} {x1 : Int32} {x2 : Int32} {rv : Int32} {Mf : Mem} {M : Mem} (hlt : l.stackTraces = false) (hG : gD G) (h : f_L_renew x1 x2 M = some (rv, Mf)) : Met l yL_renew (.codeWith yL_renew cL_renew 5 (some .int) [(0, 7, 10, 15), (0, 7, 15, 22), (0, 7, 20, 17)] :: GL) (rmx 10) (gPx G [.ref (adr G 6 0), .int x1, .int x2] M) (gQ G (some (.int rv)) Mf) 1 6 (gA G) := by
  refine WMet_of (own := RL) (L := [(0, .ref (adr G 6 0)), (1, .int x1), (2, .int x2)]) hG (by decide +kernel) rfl (Nat.le_of_ble_eq_true rfl) rfl ?_
  intro p e s m args below meth c hC hX htab hr hlk
  refine V_aload_n hC dL_renew_0 rfl 0 rfl ?_
  refine V_iload_n hC dL_renew_1 rfl 1 rfl ?_
  refine V_iload_n hC dL_renew_2 rfl 2 rfl ?_
  obtain ⟨q1, e1, h⟩ := bind_some h
  refine V_xV hC hX [.int x1, .int x2] (c_X8_renew (l := l) (k0 := q1.1) (rv := q1.2.1) (Mf := q1.2.2) hlt hC.2.2.2.2.2.2.2 e1) kd_X8_renew kv_X8_renew gw_742 (r_s0_0).o rfl ⟨Nat.le_of_ble_eq_true rfl, Nat.le_of_ble_eq_true rfl⟩ rfl (Nat.le_of_ble_eq_true rfl) dL_renew_3 ⟨by decide, by decide⟩ rfl (fun z1 => ?_) (fun z1 => ?_)
  · have h := ite_t z1 h
    refine V_istore_n hC ([(3, .int q1.2.1), (0, .ref (adr G 6 0)), (1, .int x1), (2, .int x2)]) dL_renew_6 rfl (by decide) rfl ?_
    refine V_goto hC 25 dL_renew_7 (by decide) ?_
    refine V_iload_n hC dL_renew_25 rfl 0 rfl ?_
    obtain ⟨rfl, rfl⟩ := Prod.mk.inj (Option.some.inj h)
    exact V_wiret hC hr hlk (by decide) (by decide) dL_renew_26
  · have h := ite_f (Nat.ne_of_gt z1) h
    by_cases c2 : q1.1 = 1
    · have h := ite_t c2 h
      refine V_catch hC hX htab (pre := []) (suf := [(0, 7, 15, 22), (0, 7, 20, 17)]) rfl (by decide) (fun z hz => nomatch hz) (by decide) (by rw [c2]; exact gw_238) (by rw [c2]; decide +kernel) (fun w2 => ?_)
      refine V_astore hC ([(4, .ref w2), (0, .ref (adr G 6 0)), (1, .int x1), (2, .int x2)]) dL_renew_10 (by decide) rfl ?_
      refine V_bipush hC ((-53) : Int32) dL_renew_12 (by decide) ?_
      obtain ⟨rfl, rfl⟩ := Prod.mk.inj (Option.some.inj h)
      exact V_wiret hC hr hlk (by decide) (by decide) dL_renew_14
    have h := ite_f c2 h
    by_cases c3 : q1.1 = 2
    · have h := ite_t c3 h
      have hpre1 : ∀ z ∈ [((0, 7, 10, 15) : Nat × Nat × Nat × Nat)], z.2.2.2 ≠ 0 ∧ ∃ nm : String, Cond.classLink RL z.2.2.2 nm ∈ GL ∧ (xcls q1.1, nm) ∈ XN := by
        rw [c3]
        intro z hz
        rcases List.mem_cons.mp hz with rfl | hz
        · exact ⟨by decide, _, gw_238, by decide +kernel⟩
        exact nomatch hz
      refine V_catch hC hX htab (pre := [(0, 7, 10, 15)]) (suf := [(0, 7, 20, 17)]) rfl (by decide) (hpre1) (by decide) (by rw [c3]; exact gw_465) (by rw [c3]; decide +kernel) (fun w3 => ?_)
      refine V_astore hC ([(4, .ref w3), (0, .ref (adr G 6 0)), (1, .int x1), (2, .int x2)]) dL_renew_15 (by decide) rfl ?_
      refine V_bipush hC ((-51) : Int32) dL_renew_17 (by decide) ?_
      obtain ⟨rfl, rfl⟩ := Prod.mk.inj (Option.some.inj h)
      exact V_wiret hC hr hlk (by decide) (by decide) dL_renew_19
    have h := ite_f c3 h
    by_cases c4 : q1.1 = 3
    · have h := ite_t c4 h
      have hpre2 : ∀ z ∈ [((0, 7, 10, 15) : Nat × Nat × Nat × Nat), ((0, 7, 15, 22) : Nat × Nat × Nat × Nat)], z.2.2.2 ≠ 0 ∧ ∃ nm : String, Cond.classLink RL z.2.2.2 nm ∈ GL ∧ (xcls q1.1, nm) ∈ XN := by
        rw [c4]
        intro z hz
        rcases List.mem_cons.mp hz with rfl | hz
        · exact ⟨by decide, _, gw_238, by decide +kernel⟩
        rcases List.mem_cons.mp hz with rfl | hz
        · exact ⟨by decide, _, gw_465, by decide +kernel⟩
        exact nomatch hz
      refine V_catch hC hX htab (pre := [(0, 7, 10, 15), (0, 7, 15, 22)]) (suf := []) rfl (by decide) (hpre2) (by decide) (by rw [c4]; exact gw_239) (by rw [c4]; decide +kernel) (fun w4 => ?_)
      refine V_astore hC ([(4, .ref w4), (0, .ref (adr G 6 0)), (1, .int x1), (2, .int x2)]) dL_renew_20 (by decide) rfl ?_
      refine V_bipush hC ((-52) : Int32) dL_renew_22 (by decide) ?_
      obtain ⟨rfl, rfl⟩ := Prod.mk.inj (Option.some.inj h)
      exact V_wiret hC hr hlk (by decide) (by decide) dL_renew_24
    have h := ite_f c4 h
    cases h
theorem c_L_breakUp {l : Launch} {G : Geo} {x1 : Int32} {rv : Int32} {Mf : Mem} {M : Mem} (hlt : l.stackTraces = false) (hG : gD G) (h : f_L_breakUp x1 M = some (rv, Mf)) : Met l yL_breakUp (.codeWith yL_breakUp cL_breakUp 4 (some .int) [(0, 6, 9, 15), (0, 6, 13, 17)] :: GL) (rmx 10) (gPx G [.ref (adr G 6 0), .int x1] M) (gQ G (some (.int rv)) Mf) 1 6 (gA G) := by
  refine WMet_of (own := RL) (L := [(0, .ref (adr G 6 0)), (1, .int x1)]) hG (by decide +kernel) rfl (Nat.le_of_ble_eq_true rfl) rfl ?_
  intro p e s m args below meth c hC hX htab hr hlk
  refine V_aload_n hC dL_breakUp_0 rfl 0 rfl ?_
  refine V_iload_n hC dL_breakUp_1 rfl 1 rfl ?_
  obtain ⟨q1, e1, h⟩ := bind_some h
  refine V_xV hC hX [.int x1] (c_X8_breakUp (l := l) (k0 := q1.1) (rv := q1.2.1) (Mf := q1.2.2) hlt hC.2.2.2.2.2.2.2 e1) kd_X8_breakUp kv_X8_breakUp gw_762 (r_s0_0).o rfl ⟨Nat.le_of_ble_eq_true rfl, Nat.le_of_ble_eq_true rfl⟩ rfl (Nat.le_of_ble_eq_true rfl) dL_breakUp_2 ⟨by decide, by decide⟩ rfl (fun z1 => ?_) (fun z1 => ?_)
  · have h := ite_t z1 h
    refine V_istore_n hC ([(2, .int q1.2.1), (0, .ref (adr G 6 0)), (1, .int x1)]) dL_breakUp_5 rfl (by decide) rfl ?_
    refine V_goto hC 17 dL_breakUp_6 (by decide) ?_
    refine V_iload_n hC dL_breakUp_17 rfl 0 rfl ?_
    obtain ⟨rfl, rfl⟩ := Prod.mk.inj (Option.some.inj h)
    exact V_wiret hC hr hlk (by decide) (by decide) dL_breakUp_18
  · have h := ite_f (Nat.ne_of_gt z1) h
    by_cases c2 : q1.1 = 1
    · have h := ite_t c2 h
      refine V_catch hC hX htab (pre := []) (suf := [(0, 6, 13, 17)]) rfl (by decide) (fun z hz => nomatch hz) (by decide) (by rw [c2]; exact gw_238) (by rw [c2]; decide +kernel) (fun w2 => ?_)
      refine V_astore_n hC ([(3, .ref w2), (0, .ref (adr G 6 0)), (1, .int x1)]) dL_breakUp_9 rfl (by decide) rfl ?_
      refine V_bipush hC ((-53) : Int32) dL_breakUp_10 (by decide) ?_
      obtain ⟨rfl, rfl⟩ := Prod.mk.inj (Option.some.inj h)
      exact V_wiret hC hr hlk (by decide) (by decide) dL_breakUp_12
    have h := ite_f c2 h
    by_cases c3 : q1.1 = 3
    · have h := ite_t c3 h
      have hpre1 : ∀ z ∈ [((0, 6, 9, 15) : Nat × Nat × Nat × Nat)], z.2.2.2 ≠ 0 ∧ ∃ nm : String, Cond.classLink RL z.2.2.2 nm ∈ GL ∧ (xcls q1.1, nm) ∈ XN := by
        rw [c3]
        intro z hz
        rcases List.mem_cons.mp hz with rfl | hz
        · exact ⟨by decide, _, gw_238, by decide +kernel⟩
        exact nomatch hz
      refine V_catch hC hX htab (pre := [(0, 6, 9, 15)]) (suf := []) rfl (by decide) (hpre1) (by decide) (by rw [c3]; exact gw_239) (by rw [c3]; decide +kernel) (fun w3 => ?_)
      refine V_astore_n hC ([(3, .ref w3), (0, .ref (adr G 6 0)), (1, .int x1)]) dL_breakUp_13 rfl (by decide) rfl ?_
      refine V_bipush hC ((-52) : Int32) dL_breakUp_14 (by decide) ?_
      obtain ⟨rfl, rfl⟩ := Prod.mk.inj (Option.some.inj h)
      exact V_wiret hC hr hlk (by decide) (by decide) dL_breakUp_16
    have h := ite_f c3 h
    cases h
theorem c_L_discard {l : Launch} {G : Geo} {x1 : Int32} {rv : Int32} {Mf : Mem} {M : Mem} (hlt : l.stackTraces = false) (hG : gD G) (h : f_L_discard x1 M = some (rv, Mf)) : Met l yL_discard (.codeWith yL_discard cL_discard 4 (some .int) [(0, 6, 9, 15)] :: GL) (rmx 10) (gPx G [.ref (adr G 6 0), .int x1] M) (gQ G (some (.int rv)) Mf) 1 6 (gA G) := by
  refine WMet_of (own := RL) (L := [(0, .ref (adr G 6 0)), (1, .int x1)]) hG (by decide +kernel) rfl (Nat.le_of_ble_eq_true rfl) rfl ?_
  intro p e s m args below meth c hC hX htab hr hlk
  refine V_aload_n hC dL_discard_0 rfl 0 rfl ?_
  refine V_iload_n hC dL_discard_1 rfl 1 rfl ?_
  obtain ⟨q1, e1, h⟩ := bind_some h
  refine V_xV hC hX [.int x1] (c_X8_discard (l := l) (k0 := q1.1) (rv := q1.2.1) (Mf := q1.2.2) hlt hC.2.2.2.2.2.2.2 e1) kd_X8_discard kv_X8_discard gw_1072 (r_s0_0).o rfl ⟨Nat.le_of_ble_eq_true rfl, Nat.le_of_ble_eq_true rfl⟩ rfl (Nat.le_of_ble_eq_true rfl) dL_discard_2 ⟨by decide, by decide⟩ rfl (fun z1 => ?_) (fun z1 => ?_)
  · have h := ite_t z1 h
    refine V_istore_n hC ([(2, .int q1.2.1), (0, .ref (adr G 6 0)), (1, .int x1)]) dL_discard_5 rfl (by decide) rfl ?_
    refine V_goto hC 13 dL_discard_6 (by decide) ?_
    refine V_iload_n hC dL_discard_13 rfl 0 rfl ?_
    obtain ⟨rfl, rfl⟩ := Prod.mk.inj (Option.some.inj h)
    exact V_wiret hC hr hlk (by decide) (by decide) dL_discard_14
  · have h := ite_f (Nat.ne_of_gt z1) h
    by_cases c2 : q1.1 = 1
    · have h := ite_t c2 h
      refine V_catch hC hX htab (pre := []) (suf := []) rfl (by decide) (fun z hz => nomatch hz) (by decide) (by rw [c2]; exact gw_238) (by rw [c2]; decide +kernel) (fun w2 => ?_)
      refine V_astore_n hC ([(3, .ref w2), (0, .ref (adr G 6 0)), (1, .int x1)]) dL_discard_9 rfl (by decide) rfl ?_
      refine V_bipush hC ((-53) : Int32) dL_discard_10 (by decide) ?_
      obtain ⟨rfl, rfl⟩ := Prod.mk.inj (Option.some.inj h)
      exact V_wiret hC hr hlk (by decide) (by decide) dL_discard_12
    have h := ite_f c2 h
    cases h
theorem c_L_edit {l : Launch} {G : Geo} {x1 : Int32} {x2 : Int32} {x3 : Int32} {x4 : Int32} {rv : Int32} {Mf : Mem} {M : Mem} (hlt : l.stackTraces = false) (hG : gD G) (h : f_L_edit x1 x2 x3 x4 M = some (rv, Mf)) : Met l yL_edit (.codeWith yL_edit cL_edit 7 (some .int) [(0, 11, 14, 15), (0, 11, 19, 22), (0, 11, 24, 17)] :: GL) (rmx 10) (gPx G [.ref (adr G 6 0), .int x1, .int x2, .int x3, .int x4] M) (gQ G (some (.int rv)) Mf) 1 6 (gA G) := by
  refine WMet_of (own := RL) (L := [(0, .ref (adr G 6 0)), (1, .int x1), (2, .int x2), (3, .int x3), (4, .int x4)]) hG (by decide +kernel) rfl (Nat.le_of_ble_eq_true rfl) rfl ?_
  intro p e s m args below meth c hC hX htab hr hlk
  refine V_aload_n hC dL_edit_0 rfl 0 rfl ?_
  refine V_iload_n hC dL_edit_1 rfl 1 rfl ?_
  refine V_iload_n hC dL_edit_2 rfl 2 rfl ?_
  refine V_iload_n hC dL_edit_3 rfl 3 rfl ?_
  refine V_iload hC dL_edit_4 4 rfl ?_
  obtain ⟨q1, e1, h⟩ := bind_some h
  refine V_xV hC hX [.int x1, .int x2, .int x3, .int x4] (c_X8_edit (l := l) (k0 := q1.1) (rv := q1.2.1) (Mf := q1.2.2) hlt hC.2.2.2.2.2.2.2 e1) kd_X8_edit kv_X8_edit gw_786 (r_s0_0).o rfl ⟨Nat.le_of_ble_eq_true rfl, Nat.le_of_ble_eq_true rfl⟩ rfl (Nat.le_of_ble_eq_true rfl) dL_edit_6 ⟨by decide, by decide⟩ rfl (fun z1 => ?_) (fun z1 => ?_)
  · have h := ite_t z1 h
    refine V_istore hC ([(5, .int q1.2.1), (0, .ref (adr G 6 0)), (1, .int x1), (2, .int x2), (3, .int x3), (4, .int x4)]) dL_edit_9 (by decide) rfl ?_
    refine V_goto hC 29 dL_edit_11 (by decide) ?_
    refine V_iload hC dL_edit_29 0 rfl ?_
    obtain ⟨rfl, rfl⟩ := Prod.mk.inj (Option.some.inj h)
    exact V_wiret hC hr hlk (by decide) (by decide) dL_edit_31
  · have h := ite_f (Nat.ne_of_gt z1) h
    by_cases c2 : q1.1 = 1
    · have h := ite_t c2 h
      refine V_catch hC hX htab (pre := []) (suf := [(0, 11, 19, 22), (0, 11, 24, 17)]) rfl (by decide) (fun z hz => nomatch hz) (by decide) (by rw [c2]; exact gw_238) (by rw [c2]; decide +kernel) (fun w2 => ?_)
      refine V_astore hC ([(6, .ref w2), (0, .ref (adr G 6 0)), (1, .int x1), (2, .int x2), (3, .int x3), (4, .int x4)]) dL_edit_14 (by decide) rfl ?_
      refine V_bipush hC ((-53) : Int32) dL_edit_16 (by decide) ?_
      obtain ⟨rfl, rfl⟩ := Prod.mk.inj (Option.some.inj h)
      exact V_wiret hC hr hlk (by decide) (by decide) dL_edit_18
    have h := ite_f c2 h
    by_cases c3 : q1.1 = 2
    · have h := ite_t c3 h
      have hpre1 : ∀ z ∈ [((0, 11, 14, 15) : Nat × Nat × Nat × Nat)], z.2.2.2 ≠ 0 ∧ ∃ nm : String, Cond.classLink RL z.2.2.2 nm ∈ GL ∧ (xcls q1.1, nm) ∈ XN := by
        rw [c3]
        intro z hz
        rcases List.mem_cons.mp hz with rfl | hz
        · exact ⟨by decide, _, gw_238, by decide +kernel⟩
        exact nomatch hz
      refine V_catch hC hX htab (pre := [(0, 11, 14, 15)]) (suf := [(0, 11, 24, 17)]) rfl (by decide) (hpre1) (by decide) (by rw [c3]; exact gw_465) (by rw [c3]; decide +kernel) (fun w3 => ?_)
      refine V_astore hC ([(6, .ref w3), (0, .ref (adr G 6 0)), (1, .int x1), (2, .int x2), (3, .int x3), (4, .int x4)]) dL_edit_19 (by decide) rfl ?_
      refine V_bipush hC ((-51) : Int32) dL_edit_21 (by decide) ?_
      obtain ⟨rfl, rfl⟩ := Prod.mk.inj (Option.some.inj h)
      exact V_wiret hC hr hlk (by decide) (by decide) dL_edit_23
    have h := ite_f c3 h
    by_cases c4 : q1.1 = 3
    · have h := ite_t c4 h
      have hpre2 : ∀ z ∈ [((0, 11, 14, 15) : Nat × Nat × Nat × Nat), ((0, 11, 19, 22) : Nat × Nat × Nat × Nat)], z.2.2.2 ≠ 0 ∧ ∃ nm : String, Cond.classLink RL z.2.2.2 nm ∈ GL ∧ (xcls q1.1, nm) ∈ XN := by
        rw [c4]
        intro z hz
        rcases List.mem_cons.mp hz with rfl | hz
        · exact ⟨by decide, _, gw_238, by decide +kernel⟩
        rcases List.mem_cons.mp hz with rfl | hz
        · exact ⟨by decide, _, gw_465, by decide +kernel⟩
        exact nomatch hz
      refine V_catch hC hX htab (pre := [(0, 11, 14, 15), (0, 11, 19, 22)]) (suf := []) rfl (by decide) (hpre2) (by decide) (by rw [c4]; exact gw_239) (by rw [c4]; decide +kernel) (fun w4 => ?_)
      refine V_astore hC ([(6, .ref w4), (0, .ref (adr G 6 0)), (1, .int x1), (2, .int x2), (3, .int x3), (4, .int x4)]) dL_edit_24 (by decide) rfl ?_
      refine V_bipush hC ((-52) : Int32) dL_edit_26 (by decide) ?_
      obtain ⟨rfl, rfl⟩ := Prod.mk.inj (Option.some.inj h)
      exact V_wiret hC hr hlk (by decide) (by decide) dL_edit_28
    have h := ite_f c4 h
    cases h
theorem c_L_copied {l : Launch} {G : Geo} {x1 : Int32} {x2 : Int32} {x3 : Int32} {x4 : Int32} {rv : Int32} {Mf : Mem} {M : Mem} (hlt : l.stackTraces = false) (hG : gD G) (h : f_L_copied x1 x2 x3 x4 M = some (rv, Mf)) : Met l yL_copied (.codeWith yL_copied cL_copied 7 (some .int) [(0, 11, 14, 15)] :: GL) (rmx 10) (gPx G [.ref (adr G 6 0), .int x1, .int x2, .int x3, .int x4] M) (gQ G (some (.int rv)) Mf) 1 6 (gA G) := by
  refine WMet_of (own := RL) (L := [(0, .ref (adr G 6 0)), (1, .int x1), (2, .int x2), (3, .int x3), (4, .int x4)]) hG (by decide +kernel) rfl (Nat.le_of_ble_eq_true rfl) rfl ?_
  intro p e s m args below meth c hC hX htab hr hlk
  refine V_aload_n hC dL_copied_0 rfl 0 rfl ?_
  refine V_iload_n hC dL_copied_1 rfl 1 rfl ?_
  refine V_iload_n hC dL_copied_2 rfl 2 rfl ?_
  refine V_iload_n hC dL_copied_3 rfl 3 rfl ?_
  refine V_iload hC dL_copied_4 4 rfl ?_
  obtain ⟨q1, e1, h⟩ := bind_some h
  refine V_xV hC hX [.int x1, .int x2, .int x3, .int x4] (c_X8_copied (l := l) (k0 := q1.1) (rv := q1.2.1) (Mf := q1.2.2) hlt hC.2.2.2.2.2.2.2 e1) kd_X8_copied kv_X8_copied gw_1029 (r_s0_0).o rfl ⟨Nat.le_of_ble_eq_true rfl, Nat.le_of_ble_eq_true rfl⟩ rfl (Nat.le_of_ble_eq_true rfl) dL_copied_6 ⟨by decide, by decide⟩ rfl (fun z1 => ?_) (fun z1 => ?_)
  · have h := ite_t z1 h
    refine V_istore hC ([(5, .int q1.2.1), (0, .ref (adr G 6 0)), (1, .int x1), (2, .int x2), (3, .int x3), (4, .int x4)]) dL_copied_9 (by decide) rfl ?_
    refine V_goto hC 19 dL_copied_11 (by decide) ?_
    refine V_iload hC dL_copied_19 0 rfl ?_
    obtain ⟨rfl, rfl⟩ := Prod.mk.inj (Option.some.inj h)
    exact V_wiret hC hr hlk (by decide) (by decide) dL_copied_21
  · have h := ite_f (Nat.ne_of_gt z1) h
    by_cases c2 : q1.1 = 1
    · have h := ite_t c2 h
      refine V_catch hC hX htab (pre := []) (suf := []) rfl (by decide) (fun z hz => nomatch hz) (by decide) (by rw [c2]; exact gw_238) (by rw [c2]; decide +kernel) (fun w2 => ?_)
      refine V_astore hC ([(6, .ref w2), (0, .ref (adr G 6 0)), (1, .int x1), (2, .int x2), (3, .int x3), (4, .int x4)]) dL_copied_14 (by decide) rfl ?_
      refine V_bipush hC ((-53) : Int32) dL_copied_16 (by decide) ?_
      obtain ⟨rfl, rfl⟩ := Prod.mk.inj (Option.some.inj h)
      exact V_wiret hC hr hlk (by decide) (by decide) dL_copied_18
    have h := ite_f c2 h
    cases h
theorem c_L_conflicts {l : Launch} {G : Geo} {x1 : Int32} {rv : Int32} {Mf : Mem} {M : Mem} (hlt : l.stackTraces = false) (hG : gD G) (h : f_L_conflicts x1 M = some (rv, Mf)) : Met l yL_conflicts (.codeWith yL_conflicts cL_conflicts 4 (some .int) [(0, 6, 9, 15)] :: GL) (rmx 10) (gPx G [.ref (adr G 6 0), .int x1] M) (gQ G (some (.int rv)) Mf) 1 6 (gA G) := by
  refine WMet_of (own := RL) (L := [(0, .ref (adr G 6 0)), (1, .int x1)]) hG (by decide +kernel) rfl (Nat.le_of_ble_eq_true rfl) rfl ?_
  intro p e s m args below meth c hC hX htab hr hlk
  refine V_aload_n hC dL_conflicts_0 rfl 0 rfl ?_
  refine V_iload_n hC dL_conflicts_1 rfl 1 rfl ?_
  obtain ⟨q1, e1, h⟩ := bind_some h
  refine V_xV hC hX [.int x1] (c_X8_conflicts (l := l) (k0 := q1.1) (rv := q1.2.1) (Mf := q1.2.2) hlt hC.2.2.2.2.2.2.2 e1) kd_X8_conflicts kv_X8_conflicts gw_1154 (r_s0_0).o rfl ⟨Nat.le_of_ble_eq_true rfl, Nat.le_of_ble_eq_true rfl⟩ rfl (Nat.le_of_ble_eq_true rfl) dL_conflicts_2 ⟨by decide, by decide⟩ rfl (fun z1 => ?_) (fun z1 => ?_)
  · have h := ite_t z1 h
    refine V_istore_n hC ([(2, .int q1.2.1), (0, .ref (adr G 6 0)), (1, .int x1)]) dL_conflicts_5 rfl (by decide) rfl ?_
    refine V_goto hC 13 dL_conflicts_6 (by decide) ?_
    refine V_iload_n hC dL_conflicts_13 rfl 0 rfl ?_
    obtain ⟨rfl, rfl⟩ := Prod.mk.inj (Option.some.inj h)
    exact V_wiret hC hr hlk (by decide) (by decide) dL_conflicts_14
  · have h := ite_f (Nat.ne_of_gt z1) h
    by_cases c2 : q1.1 = 1
    · have h := ite_t c2 h
      refine V_catch hC hX htab (pre := []) (suf := []) rfl (by decide) (fun z hz => nomatch hz) (by decide) (by rw [c2]; exact gw_238) (by rw [c2]; decide +kernel) (fun w2 => ?_)
      refine V_astore_n hC ([(3, .ref w2), (0, .ref (adr G 6 0)), (1, .int x1)]) dL_conflicts_9 rfl (by decide) rfl ?_
      refine V_bipush hC ((-53) : Int32) dL_conflicts_10 (by decide) ?_
      obtain ⟨rfl, rfl⟩ := Prod.mk.inj (Option.some.inj h)
      exact V_wiret hC hr hlk (by decide) (by decide) dL_conflicts_12
    have h := ite_f c2 h
    cases h
theorem c_L_giveBack {l : Launch} {G : Geo} {x1 : Int32} {x2 : Int32} {rv : Int32} {Mf : Mem} {M : Mem} (hlt : l.stackTraces = false) (hG : gD G) (h : f_L_giveBack x1 x2 M = some (rv, Mf)) : Met l yL_giveBack (.codeWith yL_giveBack cL_giveBack 5 (some .int) [(0, 7, 10, 15), (0, 7, 15, 22), (0, 7, 20, 17)] :: GL) (rmx 10) (gPx G [.ref (adr G 6 0), .int x1, .int x2] M) (gQ G (some (.int rv)) Mf) 1 6 (gA G) := by
  refine WMet_of (own := RL) (L := [(0, .ref (adr G 6 0)), (1, .int x1), (2, .int x2)]) hG (by decide +kernel) rfl (Nat.le_of_ble_eq_true rfl) rfl ?_
  intro p e s m args below meth c hC hX htab hr hlk
  refine V_aload_n hC dL_giveBack_0 rfl 0 rfl ?_
  refine V_iload_n hC dL_giveBack_1 rfl 1 rfl ?_
  refine V_iload_n hC dL_giveBack_2 rfl 2 rfl ?_
  obtain ⟨q1, e1, h⟩ := bind_some h
  refine V_xV hC hX [.int x1, .int x2] (c_X8_giveBack (l := l) (k0 := q1.1) (rv := q1.2.1) (Mf := q1.2.2) hlt hC.2.2.2.2.2.2.2 e1) kd_X8_giveBack kv_X8_giveBack gw_811 (r_s0_0).o rfl ⟨Nat.le_of_ble_eq_true rfl, Nat.le_of_ble_eq_true rfl⟩ rfl (Nat.le_of_ble_eq_true rfl) dL_giveBack_3 ⟨by decide, by decide⟩ rfl (fun z1 => ?_) (fun z1 => ?_)
  · have h := ite_t z1 h
    refine V_istore_n hC ([(3, .int q1.2.1), (0, .ref (adr G 6 0)), (1, .int x1), (2, .int x2)]) dL_giveBack_6 rfl (by decide) rfl ?_
    refine V_goto hC 25 dL_giveBack_7 (by decide) ?_
    refine V_iload_n hC dL_giveBack_25 rfl 0 rfl ?_
    obtain ⟨rfl, rfl⟩ := Prod.mk.inj (Option.some.inj h)
    exact V_wiret hC hr hlk (by decide) (by decide) dL_giveBack_26
  · have h := ite_f (Nat.ne_of_gt z1) h
    by_cases c2 : q1.1 = 1
    · have h := ite_t c2 h
      refine V_catch hC hX htab (pre := []) (suf := [(0, 7, 15, 22), (0, 7, 20, 17)]) rfl (by decide) (fun z hz => nomatch hz) (by decide) (by rw [c2]; exact gw_238) (by rw [c2]; decide +kernel) (fun w2 => ?_)
      refine V_astore hC ([(4, .ref w2), (0, .ref (adr G 6 0)), (1, .int x1), (2, .int x2)]) dL_giveBack_10 (by decide) rfl ?_
      refine V_bipush hC ((-53) : Int32) dL_giveBack_12 (by decide) ?_
      obtain ⟨rfl, rfl⟩ := Prod.mk.inj (Option.some.inj h)
      exact V_wiret hC hr hlk (by decide) (by decide) dL_giveBack_14
    have h := ite_f c2 h
    by_cases c3 : q1.1 = 2
    · have h := ite_t c3 h
      have hpre1 : ∀ z ∈ [((0, 7, 10, 15) : Nat × Nat × Nat × Nat)], z.2.2.2 ≠ 0 ∧ ∃ nm : String, Cond.classLink RL z.2.2.2 nm ∈ GL ∧ (xcls q1.1, nm) ∈ XN := by
        rw [c3]
        intro z hz
        rcases List.mem_cons.mp hz with rfl | hz
        · exact ⟨by decide, _, gw_238, by decide +kernel⟩
        exact nomatch hz
      refine V_catch hC hX htab (pre := [(0, 7, 10, 15)]) (suf := [(0, 7, 20, 17)]) rfl (by decide) (hpre1) (by decide) (by rw [c3]; exact gw_465) (by rw [c3]; decide +kernel) (fun w3 => ?_)
      refine V_astore hC ([(4, .ref w3), (0, .ref (adr G 6 0)), (1, .int x1), (2, .int x2)]) dL_giveBack_15 (by decide) rfl ?_
      refine V_bipush hC ((-51) : Int32) dL_giveBack_17 (by decide) ?_
      obtain ⟨rfl, rfl⟩ := Prod.mk.inj (Option.some.inj h)
      exact V_wiret hC hr hlk (by decide) (by decide) dL_giveBack_19
    have h := ite_f c3 h
    by_cases c4 : q1.1 = 3
    · have h := ite_t c4 h
      have hpre2 : ∀ z ∈ [((0, 7, 10, 15) : Nat × Nat × Nat × Nat), ((0, 7, 15, 22) : Nat × Nat × Nat × Nat)], z.2.2.2 ≠ 0 ∧ ∃ nm : String, Cond.classLink RL z.2.2.2 nm ∈ GL ∧ (xcls q1.1, nm) ∈ XN := by
        rw [c4]
        intro z hz
        rcases List.mem_cons.mp hz with rfl | hz
        · exact ⟨by decide, _, gw_238, by decide +kernel⟩
        rcases List.mem_cons.mp hz with rfl | hz
        · exact ⟨by decide, _, gw_465, by decide +kernel⟩
        exact nomatch hz
      refine V_catch hC hX htab (pre := [(0, 7, 10, 15), (0, 7, 15, 22)]) (suf := []) rfl (by decide) (hpre2) (by decide) (by rw [c4]; exact gw_239) (by rw [c4]; decide +kernel) (fun w4 => ?_)
      refine V_astore hC ([(4, .ref w4), (0, .ref (adr G 6 0)), (1, .int x1), (2, .int x2)]) dL_giveBack_20 (by decide) rfl ?_
      refine V_bipush hC ((-52) : Int32) dL_giveBack_22 (by decide) ?_
      obtain ⟨rfl, rfl⟩ := Prod.mk.inj (Option.some.inj h)
      exact V_wiret hC hr hlk (by decide) (by decide) dL_giveBack_24
    have h := ite_f c4 h
    cases h
theorem c_L_checkOut {l : Launch} {G : Geo} {x1 : Int32} {x2 : Int32} {rv : Int32} {Mf : Mem} {M : Mem} (hlt : l.stackTraces = false) (hG : gD G) (h : f_L_checkOut x1 x2 M = some (rv, Mf)) : Met l yL_checkOut (.codeWith yL_checkOut cL_checkOut 5 (some .int) [(0, 7, 10, 15), (0, 7, 15, 22)] :: GL) (rmx 10) (gPx G [.ref (adr G 6 0), .int x1, .int x2] M) (gQ G (some (.int rv)) Mf) 1 6 (gA G) := by
  refine WMet_of (own := RL) (L := [(0, .ref (adr G 6 0)), (1, .int x1), (2, .int x2)]) hG (by decide +kernel) rfl (Nat.le_of_ble_eq_true rfl) rfl ?_
  intro p e s m args below meth c hC hX htab hr hlk
  refine V_aload_n hC dL_checkOut_0 rfl 0 rfl ?_
  refine V_iload_n hC dL_checkOut_1 rfl 1 rfl ?_
  refine V_iload_n hC dL_checkOut_2 rfl 2 rfl ?_
  obtain ⟨q1, e1, h⟩ := bind_some h
  refine V_xV hC hX [.int x1, .int x2] (c_X8_checkOut (l := l) (k0 := q1.1) (rv := q1.2.1) (Mf := q1.2.2) hlt hC.2.2.2.2.2.2.2 e1) kd_X8_checkOut kv_X8_checkOut gw_1016 (r_s0_0).o rfl ⟨Nat.le_of_ble_eq_true rfl, Nat.le_of_ble_eq_true rfl⟩ rfl (Nat.le_of_ble_eq_true rfl) dL_checkOut_3 ⟨by decide, by decide⟩ rfl (fun z1 => ?_) (fun z1 => ?_)
  · have h := ite_t z1 h
    refine V_istore_n hC ([(3, .int q1.2.1), (0, .ref (adr G 6 0)), (1, .int x1), (2, .int x2)]) dL_checkOut_6 rfl (by decide) rfl ?_
    refine V_goto hC 20 dL_checkOut_7 (by decide) ?_
    refine V_iload_n hC dL_checkOut_20 rfl 0 rfl ?_
    obtain ⟨rfl, rfl⟩ := Prod.mk.inj (Option.some.inj h)
    exact V_wiret hC hr hlk (by decide) (by decide) dL_checkOut_21
  · have h := ite_f (Nat.ne_of_gt z1) h
    by_cases c2 : q1.1 = 1
    · have h := ite_t c2 h
      refine V_catch hC hX htab (pre := []) (suf := [(0, 7, 15, 22)]) rfl (by decide) (fun z hz => nomatch hz) (by decide) (by rw [c2]; exact gw_238) (by rw [c2]; decide +kernel) (fun w2 => ?_)
      refine V_astore hC ([(4, .ref w2), (0, .ref (adr G 6 0)), (1, .int x1), (2, .int x2)]) dL_checkOut_10 (by decide) rfl ?_
      refine V_bipush hC ((-53) : Int32) dL_checkOut_12 (by decide) ?_
      obtain ⟨rfl, rfl⟩ := Prod.mk.inj (Option.some.inj h)
      exact V_wiret hC hr hlk (by decide) (by decide) dL_checkOut_14
    have h := ite_f c2 h
    by_cases c3 : q1.1 = 2
    · have h := ite_t c3 h
      have hpre1 : ∀ z ∈ [((0, 7, 10, 15) : Nat × Nat × Nat × Nat)], z.2.2.2 ≠ 0 ∧ ∃ nm : String, Cond.classLink RL z.2.2.2 nm ∈ GL ∧ (xcls q1.1, nm) ∈ XN := by
        rw [c3]
        intro z hz
        rcases List.mem_cons.mp hz with rfl | hz
        · exact ⟨by decide, _, gw_238, by decide +kernel⟩
        exact nomatch hz
      refine V_catch hC hX htab (pre := [(0, 7, 10, 15)]) (suf := []) rfl (by decide) (hpre1) (by decide) (by rw [c3]; exact gw_465) (by rw [c3]; decide +kernel) (fun w3 => ?_)
      refine V_astore hC ([(4, .ref w3), (0, .ref (adr G 6 0)), (1, .int x1), (2, .int x2)]) dL_checkOut_15 (by decide) rfl ?_
      refine V_bipush hC ((-51) : Int32) dL_checkOut_17 (by decide) ?_
      obtain ⟨rfl, rfl⟩ := Prod.mk.inj (Option.some.inj h)
      exact V_wiret hC hr hlk (by decide) (by decide) dL_checkOut_19
    have h := ite_f c3 h
    cases h
theorem c_L_holders {l : Launch} {G : Geo} {x1 : Int32} {rv : Int32} {Mf : Mem} {M : Mem} (hlt : l.stackTraces = false) (hG : gD G) (h : f_L_holders x1 M = some (rv, Mf)) : Met l yL_holders (.codeWith yL_holders cL_holders 4 (some .int) [(0, 6, 9, 15)] :: GL) (rmx 10) (gPx G [.ref (adr G 6 0), .int x1] M) (gQ G (some (.int rv)) Mf) 1 6 (gA G) := by
  refine WMet_of (own := RL) (L := [(0, .ref (adr G 6 0)), (1, .int x1)]) hG (by decide +kernel) rfl (Nat.le_of_ble_eq_true rfl) rfl ?_
  intro p e s m args below meth c hC hX htab hr hlk
  refine V_aload_n hC dL_holders_0 rfl 0 rfl ?_
  refine V_iload_n hC dL_holders_1 rfl 1 rfl ?_
  obtain ⟨q1, e1, h⟩ := bind_some h
  refine V_xV hC hX [.int x1] (c_X8_holders (l := l) (k0 := q1.1) (rv := q1.2.1) (Mf := q1.2.2) hlt hC.2.2.2.2.2.2.2 e1) kd_X8_holders kv_X8_holders gw_1005 (r_s0_0).o rfl ⟨Nat.le_of_ble_eq_true rfl, Nat.le_of_ble_eq_true rfl⟩ rfl (Nat.le_of_ble_eq_true rfl) dL_holders_2 ⟨by decide, by decide⟩ rfl (fun z1 => ?_) (fun z1 => ?_)
  · have h := ite_t z1 h
    refine V_istore_n hC ([(2, .int q1.2.1), (0, .ref (adr G 6 0)), (1, .int x1)]) dL_holders_5 rfl (by decide) rfl ?_
    refine V_goto hC 13 dL_holders_6 (by decide) ?_
    refine V_iload_n hC dL_holders_13 rfl 0 rfl ?_
    obtain ⟨rfl, rfl⟩ := Prod.mk.inj (Option.some.inj h)
    exact V_wiret hC hr hlk (by decide) (by decide) dL_holders_14
  · have h := ite_f (Nat.ne_of_gt z1) h
    by_cases c2 : q1.1 = 1
    · have h := ite_t c2 h
      refine V_catch hC hX htab (pre := []) (suf := []) rfl (by decide) (fun z hz => nomatch hz) (by decide) (by rw [c2]; exact gw_238) (by rw [c2]; decide +kernel) (fun w2 => ?_)
      refine V_astore_n hC ([(3, .ref w2), (0, .ref (adr G 6 0)), (1, .int x1)]) dL_holders_9 rfl (by decide) rfl ?_
      refine V_bipush hC ((-53) : Int32) dL_holders_10 (by decide) ?_
      obtain ⟨rfl, rfl⟩ := Prod.mk.inj (Option.some.inj h)
      exact V_wiret hC hr hlk (by decide) (by decide) dL_holders_12
    have h := ite_f c2 h
    cases h
theorem c_L_ifBroken {l : Launch} {G : Geo} {x1 : Int32} {rv : Int32} {Mf : Mem} {M : Mem} (hlt : l.stackTraces = false) (hG : gD G) (h : f_L_ifBroken x1 M = some (rv, Mf)) : Met l yL_ifBroken (.codeWith yL_ifBroken cL_ifBroken 4 (some .int) [(0, 6, 9, 15)] :: GL) (rmx 10) (gPx G [.ref (adr G 6 0), .int x1] M) (gQ G (some (.int rv)) Mf) 1 6 (gA G) := by
  refine WMet_of (own := RL) (L := [(0, .ref (adr G 6 0)), (1, .int x1)]) hG (by decide +kernel) rfl (Nat.le_of_ble_eq_true rfl) rfl ?_
  intro p e s m args below meth c hC hX htab hr hlk
  refine V_aload_n hC dL_ifBroken_0 rfl 0 rfl ?_
  refine V_iload_n hC dL_ifBroken_1 rfl 1 rfl ?_
  obtain ⟨q1, e1, h⟩ := bind_some h
  refine V_xV hC hX [.int x1] (c_X8_ifBroken (l := l) (k0 := q1.1) (rv := q1.2.1) (Mf := q1.2.2) hlt hC.2.2.2.2.2.2.2 e1) kd_X8_ifBroken kv_X8_ifBroken gw_1088 (r_s0_0).o rfl ⟨Nat.le_of_ble_eq_true rfl, Nat.le_of_ble_eq_true rfl⟩ rfl (Nat.le_of_ble_eq_true rfl) dL_ifBroken_2 ⟨by decide, by decide⟩ rfl (fun z1 => ?_) (fun z1 => ?_)
  · have h := ite_t z1 h
    refine V_istore_n hC ([(2, .int q1.2.1), (0, .ref (adr G 6 0)), (1, .int x1)]) dL_ifBroken_5 rfl (by decide) rfl ?_
    refine V_goto hC 13 dL_ifBroken_6 (by decide) ?_
    refine V_iload_n hC dL_ifBroken_13 rfl 0 rfl ?_
    obtain ⟨rfl, rfl⟩ := Prod.mk.inj (Option.some.inj h)
    exact V_wiret hC hr hlk (by decide) (by decide) dL_ifBroken_14
  · have h := ite_f (Nat.ne_of_gt z1) h
    by_cases c2 : q1.1 = 1
    · have h := ite_t c2 h
      refine V_catch hC hX htab (pre := []) (suf := []) rfl (by decide) (fun z hz => nomatch hz) (by decide) (by rw [c2]; exact gw_238) (by rw [c2]; decide +kernel) (fun w2 => ?_)
      refine V_astore_n hC ([(3, .ref w2), (0, .ref (adr G 6 0)), (1, .int x1)]) dL_ifBroken_9 rfl (by decide) rfl ?_
      refine V_bipush hC ((-53) : Int32) dL_ifBroken_10 (by decide) ?_
      obtain ⟨rfl, rfl⟩ := Prod.mk.inj (Option.some.inj h)
      exact V_wiret hC hr hlk (by decide) (by decide) dL_ifBroken_12
    have h := ite_f c2 h
    cases h
theorem c_L_grantedAt {l : Launch} {G : Geo} {x1 : Int32} {rv : Int32} {Mf : Mem} {M : Mem} (hlt : l.stackTraces = false) (hG : gD G) (h : f_L_grantedAt x1 M = some (rv, Mf)) : Met l yL_grantedAt (.codeWith yL_grantedAt cL_grantedAt 4 (some .int) [(0, 6, 9, 15), (0, 6, 13, 17)] :: GL) (rmx 10) (gPx G [.ref (adr G 6 0), .int x1] M) (gQ G (some (.int rv)) Mf) 1 6 (gA G) := by
  refine WMet_of (own := RL) (L := [(0, .ref (adr G 6 0)), (1, .int x1)]) hG (by decide +kernel) rfl (Nat.le_of_ble_eq_true rfl) rfl ?_
  intro p e s m args below meth c hC hX htab hr hlk
  refine V_aload_n hC dL_grantedAt_0 rfl 0 rfl ?_
  refine V_iload_n hC dL_grantedAt_1 rfl 1 rfl ?_
  obtain ⟨q1, e1, h⟩ := bind_some h
  refine V_xV hC hX [.int x1] (c_X8_grantedAt (l := l) (k0 := q1.1) (rv := q1.2.1) (Mf := q1.2.2) hlt hC.2.2.2.2.2.2.2 e1) kd_X8_grantedAt kv_X8_grantedAt gw_1099 (r_s0_0).o rfl ⟨Nat.le_of_ble_eq_true rfl, Nat.le_of_ble_eq_true rfl⟩ rfl (Nat.le_of_ble_eq_true rfl) dL_grantedAt_2 ⟨by decide, by decide⟩ rfl (fun z1 => ?_) (fun z1 => ?_)
  · have h := ite_t z1 h
    refine V_istore_n hC ([(2, .int q1.2.1), (0, .ref (adr G 6 0)), (1, .int x1)]) dL_grantedAt_5 rfl (by decide) rfl ?_
    refine V_goto hC 17 dL_grantedAt_6 (by decide) ?_
    refine V_iload_n hC dL_grantedAt_17 rfl 0 rfl ?_
    obtain ⟨rfl, rfl⟩ := Prod.mk.inj (Option.some.inj h)
    exact V_wiret hC hr hlk (by decide) (by decide) dL_grantedAt_18
  · have h := ite_f (Nat.ne_of_gt z1) h
    by_cases c2 : q1.1 = 1
    · have h := ite_t c2 h
      refine V_catch hC hX htab (pre := []) (suf := [(0, 6, 13, 17)]) rfl (by decide) (fun z hz => nomatch hz) (by decide) (by rw [c2]; exact gw_238) (by rw [c2]; decide +kernel) (fun w2 => ?_)
      refine V_astore_n hC ([(3, .ref w2), (0, .ref (adr G 6 0)), (1, .int x1)]) dL_grantedAt_9 rfl (by decide) rfl ?_
      refine V_bipush hC ((-53) : Int32) dL_grantedAt_10 (by decide) ?_
      obtain ⟨rfl, rfl⟩ := Prod.mk.inj (Option.some.inj h)
      exact V_wiret hC hr hlk (by decide) (by decide) dL_grantedAt_12
    have h := ite_f c2 h
    by_cases c3 : q1.1 = 3
    · have h := ite_t c3 h
      have hpre1 : ∀ z ∈ [((0, 6, 9, 15) : Nat × Nat × Nat × Nat)], z.2.2.2 ≠ 0 ∧ ∃ nm : String, Cond.classLink RL z.2.2.2 nm ∈ GL ∧ (xcls q1.1, nm) ∈ XN := by
        rw [c3]
        intro z hz
        rcases List.mem_cons.mp hz with rfl | hz
        · exact ⟨by decide, _, gw_238, by decide +kernel⟩
        exact nomatch hz
      refine V_catch hC hX htab (pre := [(0, 6, 9, 15)]) (suf := []) rfl (by decide) (hpre1) (by decide) (by rw [c3]; exact gw_239) (by rw [c3]; decide +kernel) (fun w3 => ?_)
      refine V_astore_n hC ([(3, .ref w3), (0, .ref (adr G 6 0)), (1, .int x1)]) dL_grantedAt_13 rfl (by decide) rfl ?_
      refine V_bipush hC ((-52) : Int32) dL_grantedAt_14 (by decide) ?_
      obtain ⟨rfl, rfl⟩ := Prod.mk.inj (Option.some.inj h)
      exact V_wiret hC hr hlk (by decide) (by decide) dL_grantedAt_16
    have h := ite_f c3 h
    cases h
theorem c_L_waitsFor {l : Launch} {G : Geo} {x1 : Int32} {rv : Int32} {Mf : Mem} {M : Mem} (hlt : l.stackTraces = false) (hG : gD G) (h : f_L_waitsFor x1 M = some (rv, Mf)) : Met l yL_waitsFor (.codeWith yL_waitsFor cL_waitsFor 4 (some .int) [(0, 6, 9, 15), (0, 6, 13, 17)] :: GL) (rmx 10) (gPx G [.ref (adr G 6 0), .int x1] M) (gQ G (some (.int rv)) Mf) 1 6 (gA G) := by
  refine WMet_of (own := RL) (L := [(0, .ref (adr G 6 0)), (1, .int x1)]) hG (by decide +kernel) rfl (Nat.le_of_ble_eq_true rfl) rfl ?_
  intro p e s m args below meth c hC hX htab hr hlk
  refine V_aload_n hC dL_waitsFor_0 rfl 0 rfl ?_
  refine V_iload_n hC dL_waitsFor_1 rfl 1 rfl ?_
  obtain ⟨q1, e1, h⟩ := bind_some h
  refine V_xV hC hX [.int x1] (c_X8_waitsFor (l := l) (k0 := q1.1) (rv := q1.2.1) (Mf := q1.2.2) hlt hC.2.2.2.2.2.2.2 e1) kd_X8_waitsFor kv_X8_waitsFor gw_848 (r_s0_0).o rfl ⟨Nat.le_of_ble_eq_true rfl, Nat.le_of_ble_eq_true rfl⟩ rfl (Nat.le_of_ble_eq_true rfl) dL_waitsFor_2 ⟨by decide, by decide⟩ rfl (fun z1 => ?_) (fun z1 => ?_)
  · have h := ite_t z1 h
    refine V_istore_n hC ([(2, .int q1.2.1), (0, .ref (adr G 6 0)), (1, .int x1)]) dL_waitsFor_5 rfl (by decide) rfl ?_
    refine V_goto hC 17 dL_waitsFor_6 (by decide) ?_
    refine V_iload_n hC dL_waitsFor_17 rfl 0 rfl ?_
    obtain ⟨rfl, rfl⟩ := Prod.mk.inj (Option.some.inj h)
    exact V_wiret hC hr hlk (by decide) (by decide) dL_waitsFor_18
  · have h := ite_f (Nat.ne_of_gt z1) h
    by_cases c2 : q1.1 = 1
    · have h := ite_t c2 h
      refine V_catch hC hX htab (pre := []) (suf := [(0, 6, 13, 17)]) rfl (by decide) (fun z hz => nomatch hz) (by decide) (by rw [c2]; exact gw_238) (by rw [c2]; decide +kernel) (fun w2 => ?_)
      refine V_astore_n hC ([(3, .ref w2), (0, .ref (adr G 6 0)), (1, .int x1)]) dL_waitsFor_9 rfl (by decide) rfl ?_
      refine V_bipush hC ((-53) : Int32) dL_waitsFor_10 (by decide) ?_
      obtain ⟨rfl, rfl⟩ := Prod.mk.inj (Option.some.inj h)
      exact V_wiret hC hr hlk (by decide) (by decide) dL_waitsFor_12
    have h := ite_f c2 h
    by_cases c3 : q1.1 = 3
    · have h := ite_t c3 h
      have hpre1 : ∀ z ∈ [((0, 6, 9, 15) : Nat × Nat × Nat × Nat)], z.2.2.2 ≠ 0 ∧ ∃ nm : String, Cond.classLink RL z.2.2.2 nm ∈ GL ∧ (xcls q1.1, nm) ∈ XN := by
        rw [c3]
        intro z hz
        rcases List.mem_cons.mp hz with rfl | hz
        · exact ⟨by decide, _, gw_238, by decide +kernel⟩
        exact nomatch hz
      refine V_catch hC hX htab (pre := [(0, 6, 9, 15)]) (suf := []) rfl (by decide) (hpre1) (by decide) (by rw [c3]; exact gw_239) (by rw [c3]; decide +kernel) (fun w3 => ?_)
      refine V_astore_n hC ([(3, .ref w3), (0, .ref (adr G 6 0)), (1, .int x1)]) dL_waitsFor_13 rfl (by decide) rfl ?_
      refine V_bipush hC ((-52) : Int32) dL_waitsFor_14 (by decide) ?_
      obtain ⟨rfl, rfl⟩ := Prod.mk.inj (Option.some.inj h)
      exact V_wiret hC hr hlk (by decide) (by decide) dL_waitsFor_16
    have h := ite_f c3 h
    cases h
theorem c_L_entry {l : Launch} {G : Geo} {x1 : Int32} {x2 : Int32} {rv : Int32} {Mf : Mem} {M : Mem} (hlt : l.stackTraces = false) (hG : gD G) (h : f_L_entry x1 x2 M = some (rv, Mf)) : Met l yL_entry (.codeWith yL_entry cL_entry 5 (some .int) [(0, 7, 10, 15), (0, 7, 15, 22)] :: GL) (rmx 10) (gPx G [.ref (adr G 6 0), .int x1, .int x2] M) (gQ G (some (.int rv)) Mf) 1 6 (gA G) := by
  refine WMet_of (own := RL) (L := [(0, .ref (adr G 6 0)), (1, .int x1), (2, .int x2)]) hG (by decide +kernel) rfl (Nat.le_of_ble_eq_true rfl) rfl ?_
  intro p e s m args below meth c hC hX htab hr hlk
  refine V_aload_n hC dL_entry_0 rfl 0 rfl ?_
  refine V_iload_n hC dL_entry_1 rfl 1 rfl ?_
  refine V_iload_n hC dL_entry_2 rfl 2 rfl ?_
  obtain ⟨q1, e1, h⟩ := bind_some h
  refine V_xV hC hX [.int x1, .int x2] (c_X8_entry (l := l) (k0 := q1.1) (rv := q1.2.1) (Mf := q1.2.2) hlt hC.2.2.2.2.2.2.2 e1) kd_X8_entry kv_X8_entry gw_1106 (r_s0_0).o rfl ⟨Nat.le_of_ble_eq_true rfl, Nat.le_of_ble_eq_true rfl⟩ rfl (Nat.le_of_ble_eq_true rfl) dL_entry_3 ⟨by decide, by decide⟩ rfl (fun z1 => ?_) (fun z1 => ?_)
  · have h := ite_t z1 h
    refine V_istore_n hC ([(3, .int q1.2.1), (0, .ref (adr G 6 0)), (1, .int x1), (2, .int x2)]) dL_entry_6 rfl (by decide) rfl ?_
    refine V_goto hC 20 dL_entry_7 (by decide) ?_
    refine V_iload_n hC dL_entry_20 rfl 0 rfl ?_
    obtain ⟨rfl, rfl⟩ := Prod.mk.inj (Option.some.inj h)
    exact V_wiret hC hr hlk (by decide) (by decide) dL_entry_21
  · have h := ite_f (Nat.ne_of_gt z1) h
    by_cases c2 : q1.1 = 1
    · have h := ite_t c2 h
      refine V_catch hC hX htab (pre := []) (suf := [(0, 7, 15, 22)]) rfl (by decide) (fun z hz => nomatch hz) (by decide) (by rw [c2]; exact gw_238) (by rw [c2]; decide +kernel) (fun w2 => ?_)
      refine V_astore hC ([(4, .ref w2), (0, .ref (adr G 6 0)), (1, .int x1), (2, .int x2)]) dL_entry_10 (by decide) rfl ?_
      refine V_bipush hC ((-53) : Int32) dL_entry_12 (by decide) ?_
      obtain ⟨rfl, rfl⟩ := Prod.mk.inj (Option.some.inj h)
      exact V_wiret hC hr hlk (by decide) (by decide) dL_entry_14
    have h := ite_f c2 h
    by_cases c3 : q1.1 = 2
    · have h := ite_t c3 h
      have hpre1 : ∀ z ∈ [((0, 7, 10, 15) : Nat × Nat × Nat × Nat)], z.2.2.2 ≠ 0 ∧ ∃ nm : String, Cond.classLink RL z.2.2.2 nm ∈ GL ∧ (xcls q1.1, nm) ∈ XN := by
        rw [c3]
        intro z hz
        rcases List.mem_cons.mp hz with rfl | hz
        · exact ⟨by decide, _, gw_238, by decide +kernel⟩
        exact nomatch hz
      refine V_catch hC hX htab (pre := [(0, 7, 10, 15)]) (suf := []) rfl (by decide) (hpre1) (by decide) (by rw [c3]; exact gw_465) (by rw [c3]; decide +kernel) (fun w3 => ?_)
      refine V_astore hC ([(4, .ref w3), (0, .ref (adr G 6 0)), (1, .int x1), (2, .int x2)]) dL_entry_15 (by decide) rfl ?_
      refine V_bipush hC ((-51) : Int32) dL_entry_17 (by decide) ?_
      obtain ⟨rfl, rfl⟩ := Prod.mk.inj (Option.some.inj h)
      exact V_wiret hC hr hlk (by decide) (by decide) dL_entry_19
    have h := ite_f c3 h
    cases h
theorem c_L_blame {l : Launch} {G : Geo} {x1 : Int32} {x2 : Int32} {rv : Int32} {Mf : Mem} {M : Mem} (hlt : l.stackTraces = false) (hG : gD G) (h : f_L_blame x1 x2 M = some (rv, Mf)) : Met l yL_blame (.codeWith yL_blame cL_blame 5 (some .int) [(0, 7, 10, 15)] :: GL) (rmx 10) (gPx G [.ref (adr G 6 0), .int x1, .int x2] M) (gQ G (some (.int rv)) Mf) 1 6 (gA G) := by
  refine WMet_of (own := RL) (L := [(0, .ref (adr G 6 0)), (1, .int x1), (2, .int x2)]) hG (by decide +kernel) rfl (Nat.le_of_ble_eq_true rfl) rfl ?_
  intro p e s m args below meth c hC hX htab hr hlk
  refine V_aload_n hC dL_blame_0 rfl 0 rfl ?_
  refine V_iload_n hC dL_blame_1 rfl 1 rfl ?_
  refine V_iload_n hC dL_blame_2 rfl 2 rfl ?_
  obtain ⟨q1, e1, h⟩ := bind_some h
  refine V_xV hC hX [.int x1, .int x2] (c_X8_blame (l := l) (k0 := q1.1) (rv := q1.2.1) (Mf := q1.2.2) hlt hC.2.2.2.2.2.2.2 e1) kd_X8_blame kv_X8_blame gw_1114 (r_s0_0).o rfl ⟨Nat.le_of_ble_eq_true rfl, Nat.le_of_ble_eq_true rfl⟩ rfl (Nat.le_of_ble_eq_true rfl) dL_blame_3 ⟨by decide, by decide⟩ rfl (fun z1 => ?_) (fun z1 => ?_)
  · have h := ite_t z1 h
    refine V_istore_n hC ([(3, .int q1.2.1), (0, .ref (adr G 6 0)), (1, .int x1), (2, .int x2)]) dL_blame_6 rfl (by decide) rfl ?_
    refine V_goto hC 15 dL_blame_7 (by decide) ?_
    refine V_iload_n hC dL_blame_15 rfl 0 rfl ?_
    obtain ⟨rfl, rfl⟩ := Prod.mk.inj (Option.some.inj h)
    exact V_wiret hC hr hlk (by decide) (by decide) dL_blame_16
  · have h := ite_f (Nat.ne_of_gt z1) h
    by_cases c2 : q1.1 = 1
    · have h := ite_t c2 h
      refine V_catch hC hX htab (pre := []) (suf := []) rfl (by decide) (fun z hz => nomatch hz) (by decide) (by rw [c2]; exact gw_238) (by rw [c2]; decide +kernel) (fun w2 => ?_)
      refine V_astore hC ([(4, .ref w2), (0, .ref (adr G 6 0)), (1, .int x1), (2, .int x2)]) dL_blame_10 (by decide) rfl ?_
      refine V_bipush hC ((-53) : Int32) dL_blame_12 (by decide) ?_
      obtain ⟨rfl, rfl⟩ := Prod.mk.inj (Option.some.inj h)
      exact V_wiret hC hr hlk (by decide) (by decide) dL_blame_14
    have h := ite_f c2 h
    cases h
theorem c_L_lineAt {l : Launch} {G : Geo} {x1 : Int32} {x2 : Int32} {x3 : Int32} {rv : Int32} {Mf : Mem} {M : Mem} (hlt : l.stackTraces = false) (hG : gD G) (h : f_L_lineAt x1 x2 x3 M = some (rv, Mf)) : Met l yL_lineAt (.codeWith yL_lineAt cL_lineAt 6 (some .int) [(0, 9, 12, 15), (0, 9, 17, 22)] :: GL) (rmx 10) (gPx G [.ref (adr G 6 0), .int x1, .int x2, .int x3] M) (gQ G (some (.int rv)) Mf) 1 6 (gA G) := by
  refine WMet_of (own := RL) (L := [(0, .ref (adr G 6 0)), (1, .int x1), (2, .int x2), (3, .int x3)]) hG (by decide +kernel) rfl (Nat.le_of_ble_eq_true rfl) rfl ?_
  intro p e s m args below meth c hC hX htab hr hlk
  refine V_aload_n hC dL_lineAt_0 rfl 0 rfl ?_
  refine V_iload_n hC dL_lineAt_1 rfl 1 rfl ?_
  refine V_iload_n hC dL_lineAt_2 rfl 2 rfl ?_
  refine V_iload_n hC dL_lineAt_3 rfl 3 rfl ?_
  obtain ⟨q1, e1, h⟩ := bind_some h
  refine V_xV hC hX [.int x1, .int x2, .int x3] (c_X8_lineAt (l := l) (k0 := q1.1) (rv := q1.2.1) (Mf := q1.2.2) hlt hC.2.2.2.2.2.2.2 e1) kd_X8_lineAt kv_X8_lineAt gw_1125 (r_s0_0).o rfl ⟨Nat.le_of_ble_eq_true rfl, Nat.le_of_ble_eq_true rfl⟩ rfl (Nat.le_of_ble_eq_true rfl) dL_lineAt_4 ⟨by decide, by decide⟩ rfl (fun z1 => ?_) (fun z1 => ?_)
  · have h := ite_t z1 h
    refine V_istore hC ([(4, .int q1.2.1), (0, .ref (adr G 6 0)), (1, .int x1), (2, .int x2), (3, .int x3)]) dL_lineAt_7 (by decide) rfl ?_
    refine V_goto hC 22 dL_lineAt_9 (by decide) ?_
    refine V_iload hC dL_lineAt_22 0 rfl ?_
    obtain ⟨rfl, rfl⟩ := Prod.mk.inj (Option.some.inj h)
    exact V_wiret hC hr hlk (by decide) (by decide) dL_lineAt_24
  · have h := ite_f (Nat.ne_of_gt z1) h
    by_cases c2 : q1.1 = 1
    · have h := ite_t c2 h
      refine V_catch hC hX htab (pre := []) (suf := [(0, 9, 17, 22)]) rfl (by decide) (fun z hz => nomatch hz) (by decide) (by rw [c2]; exact gw_238) (by rw [c2]; decide +kernel) (fun w2 => ?_)
      refine V_astore hC ([(5, .ref w2), (0, .ref (adr G 6 0)), (1, .int x1), (2, .int x2), (3, .int x3)]) dL_lineAt_12 (by decide) rfl ?_
      refine V_bipush hC ((-53) : Int32) dL_lineAt_14 (by decide) ?_
      obtain ⟨rfl, rfl⟩ := Prod.mk.inj (Option.some.inj h)
      exact V_wiret hC hr hlk (by decide) (by decide) dL_lineAt_16
    have h := ite_f c2 h
    by_cases c3 : q1.1 = 2
    · have h := ite_t c3 h
      have hpre1 : ∀ z ∈ [((0, 9, 12, 15) : Nat × Nat × Nat × Nat)], z.2.2.2 ≠ 0 ∧ ∃ nm : String, Cond.classLink RL z.2.2.2 nm ∈ GL ∧ (xcls q1.1, nm) ∈ XN := by
        rw [c3]
        intro z hz
        rcases List.mem_cons.mp hz with rfl | hz
        · exact ⟨by decide, _, gw_238, by decide +kernel⟩
        exact nomatch hz
      refine V_catch hC hX htab (pre := [(0, 9, 12, 15)]) (suf := []) rfl (by decide) (hpre1) (by decide) (by rw [c3]; exact gw_465) (by rw [c3]; decide +kernel) (fun w3 => ?_)
      refine V_astore hC ([(5, .ref w3), (0, .ref (adr G 6 0)), (1, .int x1), (2, .int x2), (3, .int x3)]) dL_lineAt_17 (by decide) rfl ?_
      refine V_bipush hC ((-51) : Int32) dL_lineAt_19 (by decide) ?_
      obtain ⟨rfl, rfl⟩ := Prod.mk.inj (Option.some.inj h)
      exact V_wiret hC hr hlk (by decide) (by decide) dL_lineAt_21
    have h := ite_f c3 h
    cases h
theorem c_L_revert {l : Launch} {G : Geo} {x1 : Int32} {x2 : Int32} {rv : Int32} {Mf : Mem} {M : Mem} (hlt : l.stackTraces = false) (hG : gD G) (h : f_L_revert x1 x2 M = some (rv, Mf)) : Met l yL_revert (.codeWith yL_revert cL_revert 5 (some .int) [(0, 7, 10, 15), (0, 7, 15, 22), (0, 7, 20, 17)] :: GL) (rmx 10) (gPx G [.ref (adr G 6 0), .int x1, .int x2] M) (gQ G (some (.int rv)) Mf) 1 6 (gA G) := by
  refine WMet_of (own := RL) (L := [(0, .ref (adr G 6 0)), (1, .int x1), (2, .int x2)]) hG (by decide +kernel) rfl (Nat.le_of_ble_eq_true rfl) rfl ?_
  intro p e s m args below meth c hC hX htab hr hlk
  refine V_aload_n hC dL_revert_0 rfl 0 rfl ?_
  refine V_iload_n hC dL_revert_1 rfl 1 rfl ?_
  refine V_iload_n hC dL_revert_2 rfl 2 rfl ?_
  obtain ⟨q1, e1, h⟩ := bind_some h
  refine V_xV hC hX [.int x1, .int x2] (c_X8_revert (l := l) (k0 := q1.1) (rv := q1.2.1) (Mf := q1.2.2) hlt hC.2.2.2.2.2.2.2 e1) kd_X8_revert kv_X8_revert gw_860 (r_s0_0).o rfl ⟨Nat.le_of_ble_eq_true rfl, Nat.le_of_ble_eq_true rfl⟩ rfl (Nat.le_of_ble_eq_true rfl) dL_revert_3 ⟨by decide, by decide⟩ rfl (fun z1 => ?_) (fun z1 => ?_)
  · have h := ite_t z1 h
    refine V_istore_n hC ([(3, .int q1.2.1), (0, .ref (adr G 6 0)), (1, .int x1), (2, .int x2)]) dL_revert_6 rfl (by decide) rfl ?_
    refine V_goto hC 25 dL_revert_7 (by decide) ?_
    refine V_iload_n hC dL_revert_25 rfl 0 rfl ?_
    obtain ⟨rfl, rfl⟩ := Prod.mk.inj (Option.some.inj h)
    exact V_wiret hC hr hlk (by decide) (by decide) dL_revert_26
  · have h := ite_f (Nat.ne_of_gt z1) h
    by_cases c2 : q1.1 = 1
    · have h := ite_t c2 h
      refine V_catch hC hX htab (pre := []) (suf := [(0, 7, 15, 22), (0, 7, 20, 17)]) rfl (by decide) (fun z hz => nomatch hz) (by decide) (by rw [c2]; exact gw_238) (by rw [c2]; decide +kernel) (fun w2 => ?_)
      refine V_astore hC ([(4, .ref w2), (0, .ref (adr G 6 0)), (1, .int x1), (2, .int x2)]) dL_revert_10 (by decide) rfl ?_
      refine V_bipush hC ((-53) : Int32) dL_revert_12 (by decide) ?_
      obtain ⟨rfl, rfl⟩ := Prod.mk.inj (Option.some.inj h)
      exact V_wiret hC hr hlk (by decide) (by decide) dL_revert_14
    have h := ite_f c2 h
    by_cases c3 : q1.1 = 2
    · have h := ite_t c3 h
      have hpre1 : ∀ z ∈ [((0, 7, 10, 15) : Nat × Nat × Nat × Nat)], z.2.2.2 ≠ 0 ∧ ∃ nm : String, Cond.classLink RL z.2.2.2 nm ∈ GL ∧ (xcls q1.1, nm) ∈ XN := by
        rw [c3]
        intro z hz
        rcases List.mem_cons.mp hz with rfl | hz
        · exact ⟨by decide, _, gw_238, by decide +kernel⟩
        exact nomatch hz
      refine V_catch hC hX htab (pre := [(0, 7, 10, 15)]) (suf := [(0, 7, 20, 17)]) rfl (by decide) (hpre1) (by decide) (by rw [c3]; exact gw_465) (by rw [c3]; decide +kernel) (fun w3 => ?_)
      refine V_astore hC ([(4, .ref w3), (0, .ref (adr G 6 0)), (1, .int x1), (2, .int x2)]) dL_revert_15 (by decide) rfl ?_
      refine V_bipush hC ((-51) : Int32) dL_revert_17 (by decide) ?_
      obtain ⟨rfl, rfl⟩ := Prod.mk.inj (Option.some.inj h)
      exact V_wiret hC hr hlk (by decide) (by decide) dL_revert_19
    have h := ite_f c3 h
    by_cases c4 : q1.1 = 3
    · have h := ite_t c4 h
      have hpre2 : ∀ z ∈ [((0, 7, 10, 15) : Nat × Nat × Nat × Nat), ((0, 7, 15, 22) : Nat × Nat × Nat × Nat)], z.2.2.2 ≠ 0 ∧ ∃ nm : String, Cond.classLink RL z.2.2.2 nm ∈ GL ∧ (xcls q1.1, nm) ∈ XN := by
        rw [c4]
        intro z hz
        rcases List.mem_cons.mp hz with rfl | hz
        · exact ⟨by decide, _, gw_238, by decide +kernel⟩
        rcases List.mem_cons.mp hz with rfl | hz
        · exact ⟨by decide, _, gw_465, by decide +kernel⟩
        exact nomatch hz
      refine V_catch hC hX htab (pre := [(0, 7, 10, 15), (0, 7, 15, 22)]) (suf := []) rfl (by decide) (hpre2) (by decide) (by rw [c4]; exact gw_239) (by rw [c4]; decide +kernel) (fun w4 => ?_)
      refine V_astore hC ([(4, .ref w4), (0, .ref (adr G 6 0)), (1, .int x1), (2, .int x2)]) dL_revert_20 (by decide) rfl ?_
      refine V_bipush hC ((-52) : Int32) dL_revert_22 (by decide) ?_
      obtain ⟨rfl, rfl⟩ := Prod.mk.inj (Option.some.inj h)
      exact V_wiret hC hr hlk (by decide) (by decide) dL_revert_24
    have h := ite_f c4 h
    cases h
theorem c_L_waitingAt {l : Launch} {G : Geo} {x1 : Int32} {x2 : Int32} {rv : Int32} {Mf : Mem} {M : Mem} (hlt : l.stackTraces = false) (hG : gD G) (h : f_L_waitingAt x1 x2 M = some (rv, Mf)) : Met l yL_waitingAt (.codeWith yL_waitingAt cL_waitingAt 5 (some .int) [(0, 7, 10, 15), (0, 7, 15, 22)] :: GL) (rmx 10) (gPx G [.ref (adr G 6 0), .int x1, .int x2] M) (gQ G (some (.int rv)) Mf) 1 6 (gA G) := by
  refine WMet_of (own := RL) (L := [(0, .ref (adr G 6 0)), (1, .int x1), (2, .int x2)]) hG (by decide +kernel) rfl (Nat.le_of_ble_eq_true rfl) rfl ?_
  intro p e s m args below meth c hC hX htab hr hlk
  refine V_aload_n hC dL_waitingAt_0 rfl 0 rfl ?_
  refine V_iload_n hC dL_waitingAt_1 rfl 1 rfl ?_
  refine V_iload_n hC dL_waitingAt_2 rfl 2 rfl ?_
  obtain ⟨q1, e1, h⟩ := bind_some h
  refine V_xV hC hX [.int x1, .int x2] (c_X8_waitingAt (l := l) (k0 := q1.1) (rv := q1.2.1) (Mf := q1.2.2) hlt hC.2.2.2.2.2.2.2 e1) kd_X8_waitingAt kv_X8_waitingAt gw_1039 (r_s0_0).o rfl ⟨Nat.le_of_ble_eq_true rfl, Nat.le_of_ble_eq_true rfl⟩ rfl (Nat.le_of_ble_eq_true rfl) dL_waitingAt_3 ⟨by decide, by decide⟩ rfl (fun z1 => ?_) (fun z1 => ?_)
  · have h := ite_t z1 h
    refine V_istore_n hC ([(3, .int q1.2.1), (0, .ref (adr G 6 0)), (1, .int x1), (2, .int x2)]) dL_waitingAt_6 rfl (by decide) rfl ?_
    refine V_goto hC 20 dL_waitingAt_7 (by decide) ?_
    refine V_iload_n hC dL_waitingAt_20 rfl 0 rfl ?_
    obtain ⟨rfl, rfl⟩ := Prod.mk.inj (Option.some.inj h)
    exact V_wiret hC hr hlk (by decide) (by decide) dL_waitingAt_21
  · have h := ite_f (Nat.ne_of_gt z1) h
    by_cases c2 : q1.1 = 1
    · have h := ite_t c2 h
      refine V_catch hC hX htab (pre := []) (suf := [(0, 7, 15, 22)]) rfl (by decide) (fun z hz => nomatch hz) (by decide) (by rw [c2]; exact gw_238) (by rw [c2]; decide +kernel) (fun w2 => ?_)
      refine V_astore hC ([(4, .ref w2), (0, .ref (adr G 6 0)), (1, .int x1), (2, .int x2)]) dL_waitingAt_10 (by decide) rfl ?_
      refine V_bipush hC ((-53) : Int32) dL_waitingAt_12 (by decide) ?_
      obtain ⟨rfl, rfl⟩ := Prod.mk.inj (Option.some.inj h)
      exact V_wiret hC hr hlk (by decide) (by decide) dL_waitingAt_14
    have h := ite_f c2 h
    by_cases c3 : q1.1 = 2
    · have h := ite_t c3 h
      have hpre1 : ∀ z ∈ [((0, 7, 10, 15) : Nat × Nat × Nat × Nat)], z.2.2.2 ≠ 0 ∧ ∃ nm : String, Cond.classLink RL z.2.2.2 nm ∈ GL ∧ (xcls q1.1, nm) ∈ XN := by
        rw [c3]
        intro z hz
        rcases List.mem_cons.mp hz with rfl | hz
        · exact ⟨by decide, _, gw_238, by decide +kernel⟩
        exact nomatch hz
      refine V_catch hC hX htab (pre := [(0, 7, 10, 15)]) (suf := []) rfl (by decide) (hpre1) (by decide) (by rw [c3]; exact gw_465) (by rw [c3]; decide +kernel) (fun w3 => ?_)
      refine V_astore hC ([(4, .ref w3), (0, .ref (adr G 6 0)), (1, .int x1), (2, .int x2)]) dL_waitingAt_15 (by decide) rfl ?_
      refine V_bipush hC ((-51) : Int32) dL_waitingAt_17 (by decide) ?_
      obtain ⟨rfl, rfl⟩ := Prod.mk.inj (Option.some.inj h)
      exact V_wiret hC hr hlk (by decide) (by decide) dL_waitingAt_19
    have h := ite_f c3 h
    cases h
theorem c_L_pass {l : Launch} {G : Geo} {x1 : Int32} {rv : Int32} {Mf : Mem} {M : Mem} (hlt : l.stackTraces = false) (hG : gD G) (h : f_L_pass x1 M = some (rv, Mf)) : Met l yL_pass (.codeWith yL_pass cL_pass 4 (some .int) [(0, 6, 9, 22)] :: GL) (rmx 10) (gPx G [.ref (adr G 6 0), .int x1] M) (gQ G (some (.int rv)) Mf) 1 6 (gA G) := by
  refine WMet_of (own := RL) (L := [(0, .ref (adr G 6 0)), (1, .int x1)]) hG (by decide +kernel) rfl (Nat.le_of_ble_eq_true rfl) rfl ?_
  intro p e s m args below meth c hC hX htab hr hlk
  refine V_aload_n hC dL_pass_0 rfl 0 rfl ?_
  refine V_iload_n hC dL_pass_1 rfl 1 rfl ?_
  obtain ⟨q1, e1, h⟩ := bind_some h
  refine V_xV hC hX [.int x1] (c_X8_pass (l := l) (k0 := q1.1) (rv := q1.2.1) (Mf := q1.2.2) hlt hC.2.2.2.2.2.2.2 e1) kd_X8_pass kv_X8_pass gw_881 (r_s0_0).o rfl ⟨Nat.le_of_ble_eq_true rfl, Nat.le_of_ble_eq_true rfl⟩ rfl (Nat.le_of_ble_eq_true rfl) dL_pass_2 ⟨by decide, by decide⟩ rfl (fun z1 => ?_) (fun z1 => ?_)
  · have h := ite_t z1 h
    refine V_istore_n hC ([(2, .int q1.2.1), (0, .ref (adr G 6 0)), (1, .int x1)]) dL_pass_5 rfl (by decide) rfl ?_
    refine V_goto hC 13 dL_pass_6 (by decide) ?_
    refine V_iload_n hC dL_pass_13 rfl 0 rfl ?_
    obtain ⟨rfl, rfl⟩ := Prod.mk.inj (Option.some.inj h)
    exact V_wiret hC hr hlk (by decide) (by decide) dL_pass_14
  · have h := ite_f (Nat.ne_of_gt z1) h
    by_cases c2 : q1.1 = 2
    · have h := ite_t c2 h
      refine V_catch hC hX htab (pre := []) (suf := []) rfl (by decide) (fun z hz => nomatch hz) (by decide) (by rw [c2]; exact gw_465) (by rw [c2]; decide +kernel) (fun w2 => ?_)
      refine V_astore_n hC ([(3, .ref w2), (0, .ref (adr G 6 0)), (1, .int x1)]) dL_pass_9 rfl (by decide) rfl ?_
      refine V_bipush hC ((-51) : Int32) dL_pass_10 (by decide) ?_
      obtain ⟨rfl, rfl⟩ := Prod.mk.inj (Option.some.inj h)
      exact V_wiret hC hr hlk (by decide) (by decide) dL_pass_12
    have h := ite_f c2 h
    cases h
theorem c_L_useBits {l : Launch} {G : Geo} {x1 : Int32} {rv : Int32} {Mf : Mem} {M : Mem} (hlt : l.stackTraces = false) (hG : gD G) (h : f_L_useBits x1 M = some (rv, Mf)) : Met l yL_useBits (.codeWith yL_useBits cL_useBits 4 (some .int) [(0, 6, 9, 15)] :: GL) (rmx 10) (gPx G [.ref (adr G 6 0), .int x1] M) (gQ G (some (.int rv)) Mf) 1 6 (gA G) := by
  refine WMet_of (own := RL) (L := [(0, .ref (adr G 6 0)), (1, .int x1)]) hG (by decide +kernel) rfl (Nat.le_of_ble_eq_true rfl) rfl ?_
  intro p e s m args below meth c hC hX htab hr hlk
  refine V_aload_n hC dL_useBits_0 rfl 0 rfl ?_
  refine V_iload_n hC dL_useBits_1 rfl 1 rfl ?_
  obtain ⟨q1, e1, h⟩ := bind_some h
  refine V_xV hC hX [.int x1] (c_X8_useBits (l := l) (k0 := q1.1) (rv := q1.2.1) (Mf := q1.2.2) hlt hC.2.2.2.2.2.2.2 e1) kd_X8_useBits kv_X8_useBits gw_1047 (r_s0_0).o rfl ⟨Nat.le_of_ble_eq_true rfl, Nat.le_of_ble_eq_true rfl⟩ rfl (Nat.le_of_ble_eq_true rfl) dL_useBits_2 ⟨by decide, by decide⟩ rfl (fun z1 => ?_) (fun z1 => ?_)
  · have h := ite_t z1 h
    refine V_istore_n hC ([(2, .int q1.2.1), (0, .ref (adr G 6 0)), (1, .int x1)]) dL_useBits_5 rfl (by decide) rfl ?_
    refine V_goto hC 13 dL_useBits_6 (by decide) ?_
    refine V_iload_n hC dL_useBits_13 rfl 0 rfl ?_
    obtain ⟨rfl, rfl⟩ := Prod.mk.inj (Option.some.inj h)
    exact V_wiret hC hr hlk (by decide) (by decide) dL_useBits_14
  · have h := ite_f (Nat.ne_of_gt z1) h
    by_cases c2 : q1.1 = 1
    · have h := ite_t c2 h
      refine V_catch hC hX htab (pre := []) (suf := []) rfl (by decide) (fun z hz => nomatch hz) (by decide) (by rw [c2]; exact gw_238) (by rw [c2]; decide +kernel) (fun w2 => ?_)
      refine V_astore_n hC ([(3, .ref w2), (0, .ref (adr G 6 0)), (1, .int x1)]) dL_useBits_9 rfl (by decide) rfl ?_
      refine V_bipush hC ((-53) : Int32) dL_useBits_10 (by decide) ?_
      obtain ⟨rfl, rfl⟩ := Prod.mk.inj (Option.some.inj h)
      exact V_wiret hC hr hlk (by decide) (by decide) dL_useBits_12
    have h := ite_f c2 h
    cases h
theorem c_L_append {l : Launch} {G : Geo} {x1 : Int32} {rv : Int32} {Mf : Mem} {M : Mem} (hlt : l.stackTraces = false) (hG : gD G) (h : f_L_append x1 M = some (rv, Mf)) : Met l yL_append (.codeWith yL_append cL_append 4 (some .int) [(0, 6, 9, 22), (0, 6, 13, 17)] :: GL) (rmx 10) (gPx G [.ref (adr G 6 0), .int x1] M) (gQ G (some (.int rv)) Mf) 1 6 (gA G) := by
  refine WMet_of (own := RL) (L := [(0, .ref (adr G 6 0)), (1, .int x1)]) hG (by decide +kernel) rfl (Nat.le_of_ble_eq_true rfl) rfl ?_
  intro p e s m args below meth c hC hX htab hr hlk
  refine V_aload_n hC dL_append_0 rfl 0 rfl ?_
  refine V_iload_n hC dL_append_1 rfl 1 rfl ?_
  obtain ⟨q1, e1, h⟩ := bind_some h
  refine V_xV hC hX [.int x1] (c_X8_append (l := l) (k0 := q1.1) (rv := q1.2.1) (Mf := q1.2.2) hlt hC.2.2.2.2.2.2.2 e1) kd_X8_append kv_X8_append gw_1136 (r_s0_0).o rfl ⟨Nat.le_of_ble_eq_true rfl, Nat.le_of_ble_eq_true rfl⟩ rfl (Nat.le_of_ble_eq_true rfl) dL_append_2 ⟨by decide, by decide⟩ rfl (fun z1 => ?_) (fun z1 => ?_)
  · have h := ite_t z1 h
    refine V_istore_n hC ([(2, .int q1.2.1), (0, .ref (adr G 6 0)), (1, .int x1)]) dL_append_5 rfl (by decide) rfl ?_
    refine V_goto hC 17 dL_append_6 (by decide) ?_
    refine V_iload_n hC dL_append_17 rfl 0 rfl ?_
    obtain ⟨rfl, rfl⟩ := Prod.mk.inj (Option.some.inj h)
    exact V_wiret hC hr hlk (by decide) (by decide) dL_append_18
  · have h := ite_f (Nat.ne_of_gt z1) h
    by_cases c2 : q1.1 = 2
    · have h := ite_t c2 h
      refine V_catch hC hX htab (pre := []) (suf := [(0, 6, 13, 17)]) rfl (by decide) (fun z hz => nomatch hz) (by decide) (by rw [c2]; exact gw_465) (by rw [c2]; decide +kernel) (fun w2 => ?_)
      refine V_astore_n hC ([(3, .ref w2), (0, .ref (adr G 6 0)), (1, .int x1)]) dL_append_9 rfl (by decide) rfl ?_
      refine V_bipush hC ((-51) : Int32) dL_append_10 (by decide) ?_
      obtain ⟨rfl, rfl⟩ := Prod.mk.inj (Option.some.inj h)
      exact V_wiret hC hr hlk (by decide) (by decide) dL_append_12
    have h := ite_f c2 h
    by_cases c3 : q1.1 = 3
    · have h := ite_t c3 h
      have hpre1 : ∀ z ∈ [((0, 6, 9, 22) : Nat × Nat × Nat × Nat)], z.2.2.2 ≠ 0 ∧ ∃ nm : String, Cond.classLink RL z.2.2.2 nm ∈ GL ∧ (xcls q1.1, nm) ∈ XN := by
        rw [c3]
        intro z hz
        rcases List.mem_cons.mp hz with rfl | hz
        · exact ⟨by decide, _, gw_465, by decide +kernel⟩
        exact nomatch hz
      refine V_catch hC hX htab (pre := [(0, 6, 9, 22)]) (suf := []) rfl (by decide) (hpre1) (by decide) (by rw [c3]; exact gw_239) (by rw [c3]; decide +kernel) (fun w3 => ?_)
      refine V_astore_n hC ([(3, .ref w3), (0, .ref (adr G 6 0)), (1, .int x1)]) dL_append_13 rfl (by decide) rfl ?_
      refine V_bipush hC ((-52) : Int32) dL_append_14 (by decide) ?_
      obtain ⟨rfl, rfl⟩ := Prod.mk.inj (Option.some.inj h)
      exact V_wiret hC hr hlk (by decide) (by decide) dL_append_16
    have h := ite_f c3 h
    cases h
theorem c_L_outline {l : Launch} {G : Geo} {x1 : Int32} {rv : Int32} {Mf : Mem} {M : Mem} (hlt : l.stackTraces = false) (hG : gD G) (h : f_L_outline x1 M = some (rv, Mf)) : Met l yL_outline (.codeWith yL_outline cL_outline 4 (some .int) [(0, 6, 9, 22)] :: GL) (rmx 29) (gPx G [.ref (adr G 6 0), .int x1] M) (gQ G (some (.int rv)) Mf) 1 6 (gA G) := by
  refine WMet_of (own := RL) (L := [(0, .ref (adr G 6 0)), (1, .int x1)]) hG (by decide +kernel) rfl (Nat.le_of_ble_eq_true rfl) rfl ?_
  intro p e s m args below meth c hC hX htab hr hlk
  refine V_aload_n hC dL_outline_0 rfl 0 rfl ?_
  refine V_iload_n hC dL_outline_1 rfl 1 rfl ?_
  obtain ⟨q1, e1, h⟩ := bind_some h
  refine V_xV hC hX [.int x1] (c_X8_outline (l := l) (k0 := q1.1) (rv := q1.2.1) (Mf := q1.2.2) hlt hC.2.2.2.2.2.2.2 e1) kd_X8_outline kv_X8_outline gw_912 (r_s0_0).o rfl ⟨Nat.le_of_ble_eq_true rfl, Nat.le_of_ble_eq_true rfl⟩ rfl (Nat.le_of_ble_eq_true rfl) dL_outline_2 ⟨by decide, by decide⟩ rfl (fun z1 => ?_) (fun z1 => ?_)
  · have h := ite_t z1 h
    refine V_istore_n hC ([(2, .int q1.2.1), (0, .ref (adr G 6 0)), (1, .int x1)]) dL_outline_5 rfl (by decide) rfl ?_
    refine V_goto hC 13 dL_outline_6 (by decide) ?_
    refine V_iload_n hC dL_outline_13 rfl 0 rfl ?_
    obtain ⟨rfl, rfl⟩ := Prod.mk.inj (Option.some.inj h)
    exact V_wiret hC hr hlk (by decide) (by decide) dL_outline_14
  · have h := ite_f (Nat.ne_of_gt z1) h
    by_cases c2 : q1.1 = 2
    · have h := ite_t c2 h
      refine V_catch hC hX htab (pre := []) (suf := []) rfl (by decide) (fun z hz => nomatch hz) (by decide) (by rw [c2]; exact gw_465) (by rw [c2]; decide +kernel) (fun w2 => ?_)
      refine V_astore_n hC ([(3, .ref w2), (0, .ref (adr G 6 0)), (1, .int x1)]) dL_outline_9 rfl (by decide) rfl ?_
      refine V_bipush hC ((-51) : Int32) dL_outline_10 (by decide) ?_
      obtain ⟨rfl, rfl⟩ := Prod.mk.inj (Option.some.inj h)
      exact V_wiret hC hr hlk (by decide) (by decide) dL_outline_12
    have h := ite_f c2 h
    cases h
theorem c_L_undo {l : Launch} {G : Geo} {rv : Int32} {Mf : Mem} {M : Mem} (hlt : l.stackTraces = false) (hG : gD G) (h : f_L_undo M = some (rv, Mf)) : Met l yL_undo (.codeWith yL_undo cL_undo 3 (some .int) [(0, 5, 8, 17)] :: GL) (rmx 10) (gPx G [.ref (adr G 6 0)] M) (gQ G (some (.int rv)) Mf) 1 6 (gA G) := by
  refine WMet_of (own := RL) (L := [(0, .ref (adr G 6 0))]) hG (by decide +kernel) rfl (Nat.le_of_ble_eq_true rfl) rfl ?_
  intro p e s m args below meth c hC hX htab hr hlk
  refine V_aload_n hC dL_undo_0 rfl 0 rfl ?_
  obtain ⟨q1, e1, h⟩ := bind_some h
  refine V_xV hC hX [] (c_X8_undo (l := l) (k0 := q1.1) (rv := q1.2.1) (Mf := q1.2.2) hlt hC.2.2.2.2.2.2.2 e1) kd_X8_undo kv_X8_undo gw_949 (r_s0_0).o rfl ⟨Nat.le_of_ble_eq_true rfl, Nat.le_of_ble_eq_true rfl⟩ rfl (Nat.le_of_ble_eq_true rfl) dL_undo_1 ⟨by decide, by decide⟩ rfl (fun z1 => ?_) (fun z1 => ?_)
  · have h := ite_t z1 h
    refine V_istore_n hC ([(1, .int q1.2.1), (0, .ref (adr G 6 0))]) dL_undo_4 rfl (by decide) rfl ?_
    refine V_goto hC 12 dL_undo_5 (by decide) ?_
    refine V_iload_n hC dL_undo_12 rfl 0 rfl ?_
    obtain ⟨rfl, rfl⟩ := Prod.mk.inj (Option.some.inj h)
    exact V_wiret hC hr hlk (by decide) (by decide) dL_undo_13
  · have h := ite_f (Nat.ne_of_gt z1) h
    by_cases c2 : q1.1 = 3
    · have h := ite_t c2 h
      refine V_catch hC hX htab (pre := []) (suf := []) rfl (by decide) (fun z hz => nomatch hz) (by decide) (by rw [c2]; exact gw_239) (by rw [c2]; decide +kernel) (fun w2 => ?_)
      refine V_astore_n hC ([(2, .ref w2), (0, .ref (adr G 6 0))]) dL_undo_8 rfl (by decide) rfl ?_
      refine V_bipush hC ((-52) : Int32) dL_undo_9 (by decide) ?_
      obtain ⟨rfl, rfl⟩ := Prod.mk.inj (Option.some.inj h)
      exact V_wiret hC hr hlk (by decide) (by decide) dL_undo_11
    have h := ite_f c2 h
    cases h
end
