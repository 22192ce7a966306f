section
variable {p : Program} {l : Launch} {e : Env} {s : State} {m : MethodId} {args : Array Value} {below : List Frame} {meth : Method} {c : Code} {G : Geo}
theorem c_L_request {l : Launch} {G : Geo} {x1 : Int32} {x2 : Int32} {x3 : Int32} {x4 : Int32} {rv : Int32} {Mf : Mem} {M : Mem} (hlt : l.stackTraces = false) (hG : gD G) (h : f_L_request x1 x2 x3 x4 M = some (rv, Mf)) : Met l yL_request (.codeWith yL_request cL_request 7 (some .int) [(0, 14, 17, 13), (0, 14, 21, 20), (0, 14, 25, 15)] :: GL) (rmx 10) (gPx G [.ref (adr G 6 0), .int x1, .int x2, .int x3, .int x4, .ref (adr G 8 0)] M) (gQ G (some (.int rv)) Mf) 1 6 (gA G) := by
  refine WMet_of (own := RL) (L := [(0, .ref (adr G 6 0)), (1, .int x1), (2, .int x2), (3, .int x3), (4, .int x4), (5, .ref (adr G 8 0))]) hG (by decide +kernel) rfl (Nat.le_of_ble_eq_true rfl) rfl ?_
  intro p e s m args below meth c hC hX htab hr hlk
  refine V_aload hC dL_request_0 5 rfl ?_
  refine V_iconst hC (0 : Int32) dL_request_2 (by decide) ?_
  refine V_aload_n hC dL_request_3 rfl 0 rfl ?_
  refine V_iload_n hC dL_request_4 rfl 1 rfl ?_
  refine V_iload_n hC dL_request_5 rfl 2 rfl ?_
  refine V_iload_n hC dL_request_6 rfl 3 rfl ?_
  refine V_iload hC dL_request_7 4 rfl ?_
  obtain ⟨q1, e1, h⟩ := bind_some h
  refine V_xV hC hX [.int x1, .int x2, .int x3, .int x4] (c_X8_request (l := l) (k0 := q1.1) (rv := q1.2.1) (Mf := q1.2.2) hlt hC.2.2.2.2.2.2.2 e1) kd_X8_request kv_X8_request gw_980 (r_s0_0).o rfl ⟨Nat.le_of_ble_eq_true rfl, Nat.le_of_ble_eq_true rfl⟩ rfl (Nat.le_of_ble_eq_true rfl) dL_request_9 ⟨by decide, by decide⟩ rfl (fun z1 => ?_) (fun z1 => ?_)
  · have h := ite_t z1 h
    refine V_i2l hC dL_request_12 ?_
    refine V_last hC rfl dL_request_13 ?_
    refine V_goto hC 29 dL_request_14 (by decide) ?_
    refine V_iconst hC (0 : Int32) dL_request_29 (by decide) ?_
    obtain ⟨rfl, rfl⟩ := Prod.mk.inj (Option.some.inj h)
    exact V_wiret hC hr hlk (by decide) (by decide) dL_request_30
  · have h := ite_f (Nat.ne_of_gt z1) h
    by_cases c2 : q1.1 = 1
    · have h := ite_t c2 h
      refine V_catch hC hX htab (pre := []) (suf := [(0, 14, 21, 20), (0, 14, 25, 15)]) rfl (by decide) (fun z hz => nomatch hz) (by decide) (by rw [c2]; exact gw_736) (by rw [c2]; decide +kernel) (fun w2 => ?_)
      refine V_astore hC ([(6, .ref w2), (0, .ref (adr G 6 0)), (1, .int x1), (2, .int x2), (3, .int x3), (4, .int x4), (5, .ref (adr G 8 0))]) dL_request_17 (by decide) rfl ?_
      refine V_iconst hC (1 : Int32) dL_request_19 (by decide) ?_
      obtain ⟨rfl, rfl⟩ := Prod.mk.inj (Option.some.inj h)
      exact V_wiret hC hr hlk (by decide) (by decide) dL_request_20
    have h := ite_f c2 h
    by_cases c3 : q1.1 = 2
    · have h := ite_t c3 h
      have hpre1 : ∀ z ∈ [((0, 14, 17, 13) : Nat × Nat × Nat × Nat)], z.2.2.2 ≠ 0 ∧ ∃ nm : String, Cond.classLink RL z.2.2.2 nm ∈ GL ∧ (xcls q1.1, nm) ∈ XN := by
        rw [c3]
        intro z hz
        rcases List.mem_cons.mp hz with rfl | hz
        · exact ⟨by decide, _, gw_736, by decide +kernel⟩
        exact nomatch hz
      refine V_catch hC hX htab (pre := [(0, 14, 17, 13)]) (suf := [(0, 14, 25, 15)]) rfl (by decide) (hpre1) (by decide) (by rw [c3]; exact gw_878) (by rw [c3]; decide +kernel) (fun w3 => ?_)
      refine V_astore hC ([(6, .ref w3), (0, .ref (adr G 6 0)), (1, .int x1), (2, .int x2), (3, .int x3), (4, .int x4), (5, .ref (adr G 8 0))]) dL_request_21 (by decide) rfl ?_
      refine V_iconst hC (2 : Int32) dL_request_23 (by decide) ?_
      obtain ⟨rfl, rfl⟩ := Prod.mk.inj (Option.some.inj h)
      exact V_wiret hC hr hlk (by decide) (by decide) dL_request_24
    have h := ite_f c3 h
    by_cases c4 : q1.1 = 3
    · have h := ite_t c4 h
      have hpre2 : ∀ z ∈ [((0, 14, 17, 13) : Nat × Nat × Nat × Nat), ((0, 14, 21, 20) : Nat × Nat × Nat × Nat)], z.2.2.2 ≠ 0 ∧ ∃ nm : String, Cond.classLink RL z.2.2.2 nm ∈ GL ∧ (xcls q1.1, nm) ∈ XN := by
        rw [c4]
        intro z hz
        rcases List.mem_cons.mp hz with rfl | hz
        · exact ⟨by decide, _, gw_736, by decide +kernel⟩
        rcases List.mem_cons.mp hz with rfl | hz
        · exact ⟨by decide, _, gw_878, by decide +kernel⟩
        exact nomatch hz
      refine V_catch hC hX htab (pre := [(0, 14, 17, 13), (0, 14, 21, 20)]) (suf := []) rfl (by decide) (hpre2) (by decide) (by rw [c4]; exact gw_737) (by rw [c4]; decide +kernel) (fun w4 => ?_)
      refine V_astore hC ([(6, .ref w4), (0, .ref (adr G 6 0)), (1, .int x1), (2, .int x2), (3, .int x3), (4, .int x4), (5, .ref (adr G 8 0))]) dL_request_25 (by decide) rfl ?_
      refine V_iconst hC (3 : Int32) dL_request_27 (by decide) ?_
      obtain ⟨rfl, rfl⟩ := Prod.mk.inj (Option.some.inj h)
      exact V_wiret hC hr hlk (by decide) (by decide) dL_request_28
    have h := ite_f c4 h
    cases h
theorem c_L_cancel {l : Launch} {G : Geo} {x1 : Int32} {rv : Int32} {Mf : Mem} {M : Mem} (hlt : l.stackTraces = false) (hG : gD G) (h : f_L_cancel x1 M = some (rv, Mf)) : Met l yL_cancel (.codeWith yL_cancel cL_cancel 4 (some .int) [(0, 9, 12, 13), (0, 9, 15, 15)] :: GL) (rmx 10) (gPx G [.ref (adr G 6 0), .int x1, .ref (adr G 8 0)] M) (gQ G (some (.int rv)) Mf) 1 6 (gA G) := by
  refine WMet_of (own := RL) (L := [(0, .ref (adr G 6 0)), (1, .int x1), (2, .ref (adr G 8 0))]) hG (by decide +kernel) rfl (Nat.le_of_ble_eq_true rfl) rfl ?_
  intro p e s m args below meth c hC hX htab hr hlk
  refine V_aload_n hC dL_cancel_0 rfl 2 rfl ?_
  refine V_iconst hC (0 : Int32) dL_cancel_1 (by decide) ?_
  refine V_aload_n hC dL_cancel_2 rfl 0 rfl ?_
  refine V_iload_n hC dL_cancel_3 rfl 1 rfl ?_
  obtain ⟨q1, e1, h⟩ := bind_some h
  refine V_xV hC hX [.int x1] (c_X8_cancel (l := l) (k0 := q1.1) (rv := q1.2.1) (Mf := q1.2.2) hlt hC.2.2.2.2.2.2.2 e1) kd_X8_cancel kv_X8_cancel gw_987 (r_s0_0).o rfl ⟨Nat.le_of_ble_eq_true rfl, Nat.le_of_ble_eq_true rfl⟩ rfl (Nat.le_of_ble_eq_true rfl) dL_cancel_4 ⟨by decide, by decide⟩ rfl (fun z1 => ?_) (fun z1 => ?_)
  · have h := ite_t z1 h
    refine V_i2l hC dL_cancel_7 ?_
    refine V_last hC rfl dL_cancel_8 ?_
    refine V_goto hC 18 dL_cancel_9 (by decide) ?_
    refine V_iconst hC (0 : Int32) dL_cancel_18 (by decide) ?_
    obtain ⟨rfl, rfl⟩ := Prod.mk.inj (Option.some.inj h)
    exact V_wiret hC hr hlk (by decide) (by decide) dL_cancel_19
  · have h := ite_f (Nat.ne_of_gt z1) h
    by_cases c2 : q1.1 = 1
    · have h := ite_t c2 h
      refine V_catch hC hX htab (pre := []) (suf := [(0, 9, 15, 15)]) rfl (by decide) (fun z hz => nomatch hz) (by decide) (by rw [c2]; exact gw_736) (by rw [c2]; decide +kernel) (fun w2 => ?_)
      refine V_astore_n hC ([(3, .ref w2), (0, .ref (adr G 6 0)), (1, .int x1), (2, .ref (adr G 8 0))]) dL_cancel_12 rfl (by decide) rfl ?_
      refine V_iconst hC (1 : Int32) dL_cancel_13 (by decide) ?_
      obtain ⟨rfl, rfl⟩ := Prod.mk.inj (Option.some.inj h)
      exact V_wiret hC hr hlk (by decide) (by decide) dL_cancel_14
    have h := ite_f c2 h
    by_cases c3 : q1.1 = 3
    · have h := ite_t c3 h
      have hpre1 : ∀ z ∈ [((0, 9, 12, 13) : Nat × Nat × Nat × Nat)], z.2.2.2 ≠ 0 ∧ ∃ nm : String, Cond.classLink RL z.2.2.2 nm ∈ GL ∧ (xcls q1.1, nm) ∈ XN := by
        rw [c3]
        intro z hz
        rcases List.mem_cons.mp hz with rfl | hz
        · exact ⟨by decide, _, gw_736, by decide +kernel⟩
        exact nomatch hz
      refine V_catch hC hX htab (pre := [(0, 9, 12, 13)]) (suf := []) rfl (by decide) (hpre1) (by decide) (by rw [c3]; exact gw_737) (by rw [c3]; decide +kernel) (fun w3 => ?_)
      refine V_astore_n hC ([(3, .ref w3), (0, .ref (adr G 6 0)), (1, .int x1), (2, .ref (adr G 8 0))]) dL_cancel_15 rfl (by decide) rfl ?_
      refine V_iconst hC (2 : Int32) dL_cancel_16 (by decide) ?_
      obtain ⟨rfl, rfl⟩ := Prod.mk.inj (Option.some.inj h)
      exact V_wiret hC hr hlk (by decide) (by decide) dL_cancel_17
    have h := ite_f c3 h
    cases h
theorem c_L_renew {l : Launch} {G : Geo} {x1 : Int32} {x2 : Int32} {rv : Int32} {Mf : Mem} {M : Mem} (hlt : l.stackTraces = false) (hG : gD G) (h : f_L_renew x1 x2 M = some (rv, Mf)) : Met l yL_renew (.codeWith yL_renew cL_renew 5 (some .int) [(0, 10, 13, 13), (0, 10, 17, 20), (0, 10, 21, 15)] :: GL) (rmx 10) (gPx G [.ref (adr G 6 0), .int x1, .int x2, .ref (adr G 8 0)] M) (gQ G (some (.int rv)) Mf) 1 6 (gA G) := by
  refine WMet_of (own := RL) (L := [(0, .ref (adr G 6 0)), (1, .int x1), (2, .int x2), (3, .ref (adr G 8 0))]) hG (by decide +kernel) rfl (Nat.le_of_ble_eq_true rfl) rfl ?_
  intro p e s m args below meth c hC hX htab hr hlk
  refine V_aload_n hC dL_renew_0 rfl 3 rfl ?_
  refine V_iconst hC (0 : Int32) dL_renew_1 (by decide) ?_
  refine V_aload_n hC dL_renew_2 rfl 0 rfl ?_
  refine V_iload_n hC dL_renew_3 rfl 1 rfl ?_
  refine V_iload_n hC dL_renew_4 rfl 2 rfl ?_
  obtain ⟨q1, e1, h⟩ := bind_some h
  refine V_xV hC hX [.int x1, .int x2] (c_X8_renew (l := l) (k0 := q1.1) (rv := q1.2.1) (Mf := q1.2.2) hlt hC.2.2.2.2.2.2.2 e1) kd_X8_renew kv_X8_renew gw_1002 (r_s0_0).o rfl ⟨Nat.le_of_ble_eq_true rfl, Nat.le_of_ble_eq_true rfl⟩ rfl (Nat.le_of_ble_eq_true rfl) dL_renew_5 ⟨by decide, by decide⟩ rfl (fun z1 => ?_) (fun z1 => ?_)
  · have h := ite_t z1 h
    refine V_i2l hC dL_renew_8 ?_
    refine V_last hC rfl dL_renew_9 ?_
    refine V_goto hC 25 dL_renew_10 (by decide) ?_
    refine V_iconst hC (0 : Int32) dL_renew_25 (by decide) ?_
    obtain ⟨rfl, rfl⟩ := Prod.mk.inj (Option.some.inj h)
    exact V_wiret hC hr hlk (by decide) (by decide) dL_renew_26
  · have h := ite_f (Nat.ne_of_gt z1) h
    by_cases c2 : q1.1 = 1
    · have h := ite_t c2 h
      refine V_catch hC hX htab (pre := []) (suf := [(0, 10, 17, 20), (0, 10, 21, 15)]) rfl (by decide) (fun z hz => nomatch hz) (by decide) (by rw [c2]; exact gw_736) (by rw [c2]; decide +kernel) (fun w2 => ?_)
      refine V_astore hC ([(4, .ref w2), (0, .ref (adr G 6 0)), (1, .int x1), (2, .int x2), (3, .ref (adr G 8 0))]) dL_renew_13 (by decide) rfl ?_
      refine V_iconst hC (1 : Int32) dL_renew_15 (by decide) ?_
      obtain ⟨rfl, rfl⟩ := Prod.mk.inj (Option.some.inj h)
      exact V_wiret hC hr hlk (by decide) (by decide) dL_renew_16
    have h := ite_f c2 h
    by_cases c3 : q1.1 = 2
    · have h := ite_t c3 h
      have hpre1 : ∀ z ∈ [((0, 10, 13, 13) : Nat × Nat × Nat × Nat)], z.2.2.2 ≠ 0 ∧ ∃ nm : String, Cond.classLink RL z.2.2.2 nm ∈ GL ∧ (xcls q1.1, nm) ∈ XN := by
        rw [c3]
        intro z hz
        rcases List.mem_cons.mp hz with rfl | hz
        · exact ⟨by decide, _, gw_736, by decide +kernel⟩
        exact nomatch hz
      refine V_catch hC hX htab (pre := [(0, 10, 13, 13)]) (suf := [(0, 10, 21, 15)]) rfl (by decide) (hpre1) (by decide) (by rw [c3]; exact gw_878) (by rw [c3]; decide +kernel) (fun w3 => ?_)
      refine V_astore hC ([(4, .ref w3), (0, .ref (adr G 6 0)), (1, .int x1), (2, .int x2), (3, .ref (adr G 8 0))]) dL_renew_17 (by decide) rfl ?_
      refine V_iconst hC (2 : Int32) dL_renew_19 (by decide) ?_
      obtain ⟨rfl, rfl⟩ := Prod.mk.inj (Option.some.inj h)
      exact V_wiret hC hr hlk (by decide) (by decide) dL_renew_20
    have h := ite_f c3 h
    by_cases c4 : q1.1 = 3
    · have h := ite_t c4 h
      have hpre2 : ∀ z ∈ [((0, 10, 13, 13) : Nat × Nat × Nat × Nat), ((0, 10, 17, 20) : Nat × Nat × Nat × Nat)], z.2.2.2 ≠ 0 ∧ ∃ nm : String, Cond.classLink RL z.2.2.2 nm ∈ GL ∧ (xcls q1.1, nm) ∈ XN := by
        rw [c4]
        intro z hz
        rcases List.mem_cons.mp hz with rfl | hz
        · exact ⟨by decide, _, gw_736, by decide +kernel⟩
        rcases List.mem_cons.mp hz with rfl | hz
        · exact ⟨by decide, _, gw_878, by decide +kernel⟩
        exact nomatch hz
      refine V_catch hC hX htab (pre := [(0, 10, 13, 13), (0, 10, 17, 20)]) (suf := []) rfl (by decide) (hpre2) (by decide) (by rw [c4]; exact gw_737) (by rw [c4]; decide +kernel) (fun w4 => ?_)
      refine V_astore hC ([(4, .ref w4), (0, .ref (adr G 6 0)), (1, .int x1), (2, .int x2), (3, .ref (adr G 8 0))]) dL_renew_21 (by decide) rfl ?_
      refine V_iconst hC (3 : Int32) dL_renew_23 (by decide) ?_
      obtain ⟨rfl, rfl⟩ := Prod.mk.inj (Option.some.inj h)
      exact V_wiret hC hr hlk (by decide) (by decide) dL_renew_24
    have h := ite_f c4 h
    cases h
theorem c_L_breakUp {l : Launch} {G : Geo} {x1 : Int32} {rv : Int32} {Mf : Mem} {M : Mem} (hlt : l.stackTraces = false) (hG : gD G) (h : f_L_breakUp x1 M = some (rv, Mf)) : Met l yL_breakUp (.codeWith yL_breakUp cL_breakUp 4 (some .int) [(0, 9, 12, 13), (0, 9, 15, 15)] :: GL) (rmx 10) (gPx G [.ref (adr G 6 0), .int x1, .ref (adr G 8 0)] M) (gQ G (some (.int rv)) Mf) 1 6 (gA G) := by
  refine WMet_of (own := RL) (L := [(0, .ref (adr G 6 0)), (1, .int x1), (2, .ref (adr G 8 0))]) hG (by decide +kernel) rfl (Nat.le_of_ble_eq_true rfl) rfl ?_
  intro p e s m args below meth c hC hX htab hr hlk
  refine V_aload_n hC dL_breakUp_0 rfl 2 rfl ?_
  refine V_iconst hC (0 : Int32) dL_breakUp_1 (by decide) ?_
  refine V_aload_n hC dL_breakUp_2 rfl 0 rfl ?_
  refine V_iload_n hC dL_breakUp_3 rfl 1 rfl ?_
  obtain ⟨q1, e1, h⟩ := bind_some h
  refine V_xV hC hX [.int x1] (c_X8_breakUp (l := l) (k0 := q1.1) (rv := q1.2.1) (Mf := q1.2.2) hlt hC.2.2.2.2.2.2.2 e1) kd_X8_breakUp kv_X8_breakUp gw_1021 (r_s0_0).o rfl ⟨Nat.le_of_ble_eq_true rfl, Nat.le_of_ble_eq_true rfl⟩ rfl (Nat.le_of_ble_eq_true rfl) dL_breakUp_4 ⟨by decide, by decide⟩ rfl (fun z1 => ?_) (fun z1 => ?_)
  · have h := ite_t z1 h
    refine V_i2l hC dL_breakUp_7 ?_
    refine V_last hC rfl dL_breakUp_8 ?_
    refine V_goto hC 18 dL_breakUp_9 (by decide) ?_
    refine V_iconst hC (0 : Int32) dL_breakUp_18 (by decide) ?_
    obtain ⟨rfl, rfl⟩ := Prod.mk.inj (Option.some.inj h)
    exact V_wiret hC hr hlk (by decide) (by decide) dL_breakUp_19
  · have h := ite_f (Nat.ne_of_gt z1) h
    by_cases c2 : q1.1 = 1
    · have h := ite_t c2 h
      refine V_catch hC hX htab (pre := []) (suf := [(0, 9, 15, 15)]) rfl (by decide) (fun z hz => nomatch hz) (by decide) (by rw [c2]; exact gw_736) (by rw [c2]; decide +kernel) (fun w2 => ?_)
      refine V_astore_n hC ([(3, .ref w2), (0, .ref (adr G 6 0)), (1, .int x1), (2, .ref (adr G 8 0))]) dL_breakUp_12 rfl (by decide) rfl ?_
      refine V_iconst hC (1 : Int32) dL_breakUp_13 (by decide) ?_
      obtain ⟨rfl, rfl⟩ := Prod.mk.inj (Option.some.inj h)
      exact V_wiret hC hr hlk (by decide) (by decide) dL_breakUp_14
    have h := ite_f c2 h
    by_cases c3 : q1.1 = 3
    · have h := ite_t c3 h
      have hpre1 : ∀ z ∈ [((0, 9, 12, 13) : Nat × Nat × Nat × Nat)], z.2.2.2 ≠ 0 ∧ ∃ nm : String, Cond.classLink RL z.2.2.2 nm ∈ GL ∧ (xcls q1.1, nm) ∈ XN := by
        rw [c3]
        intro z hz
        rcases List.mem_cons.mp hz with rfl | hz
        · exact ⟨by decide, _, gw_736, by decide +kernel⟩
        exact nomatch hz
      refine V_catch hC hX htab (pre := [(0, 9, 12, 13)]) (suf := []) rfl (by decide) (hpre1) (by decide) (by rw [c3]; exact gw_737) (by rw [c3]; decide +kernel) (fun w3 => ?_)
      refine V_astore_n hC ([(3, .ref w3), (0, .ref (adr G 6 0)), (1, .int x1), (2, .ref (adr G 8 0))]) dL_breakUp_15 rfl (by decide) rfl ?_
      refine V_iconst hC (2 : Int32) dL_breakUp_16 (by decide) ?_
      obtain ⟨rfl, rfl⟩ := Prod.mk.inj (Option.some.inj h)
      exact V_wiret hC hr hlk (by decide) (by decide) dL_breakUp_17
    have h := ite_f c3 h
    cases h
theorem c_L_discard {l : Launch} {G : Geo} {x1 : Int32} {rv : Int32} {Mf : Mem} {M : Mem} (hlt : l.stackTraces = false) (hG : gD G) (h : f_L_discard x1 M = some (rv, Mf)) : Met l yL_discard (.codeWith yL_discard cL_discard 4 (some .int) [(0, 9, 12, 13)] :: GL) (rmx 10) (gPx G [.ref (adr G 6 0), .int x1, .ref (adr G 8 0)] M) (gQ G (some (.int rv)) Mf) 1 6 (gA G) := by
  refine WMet_of (own := RL) (L := [(0, .ref (adr G 6 0)), (1, .int x1), (2, .ref (adr G 8 0))]) hG (by decide +kernel) rfl (Nat.le_of_ble_eq_true rfl) rfl ?_
  intro p e s m args below meth c hC hX htab hr hlk
  refine V_aload_n hC dL_discard_0 rfl 2 rfl ?_
  refine V_iconst hC (0 : Int32) dL_discard_1 (by decide) ?_
  refine V_aload_n hC dL_discard_2 rfl 0 rfl ?_
  refine V_iload_n hC dL_discard_3 rfl 1 rfl ?_
  obtain ⟨q1, e1, h⟩ := bind_some h
  refine V_xV hC hX [.int x1] (c_X8_discard (l := l) (k0 := q1.1) (rv := q1.2.1) (Mf := q1.2.2) hlt hC.2.2.2.2.2.2.2 e1) kd_X8_discard kv_X8_discard gw_1028 (r_s0_0).o rfl ⟨Nat.le_of_ble_eq_true rfl, Nat.le_of_ble_eq_true rfl⟩ rfl (Nat.le_of_ble_eq_true rfl) dL_discard_4 ⟨by decide, by decide⟩ rfl (fun z1 => ?_) (fun z1 => ?_)
  · have h := ite_t z1 h
    refine V_i2l hC dL_discard_7 ?_
    refine V_last hC rfl dL_discard_8 ?_
    refine V_goto hC 15 dL_discard_9 (by decide) ?_
    refine V_iconst hC (0 : Int32) dL_discard_15 (by decide) ?_
    obtain ⟨rfl, rfl⟩ := Prod.mk.inj (Option.some.inj h)
    exact V_wiret hC hr hlk (by decide) (by decide) dL_discard_16
  · have h := ite_f (Nat.ne_of_gt z1) h
    by_cases c2 : q1.1 = 1
    · have h := ite_t c2 h
      refine V_catch hC hX htab (pre := []) (suf := []) rfl (by decide) (fun z hz => nomatch hz) (by decide) (by rw [c2]; exact gw_736) (by rw [c2]; decide +kernel) (fun w2 => ?_)
      refine V_astore_n hC ([(3, .ref w2), (0, .ref (adr G 6 0)), (1, .int x1), (2, .ref (adr G 8 0))]) dL_discard_12 rfl (by decide) rfl ?_
      refine V_iconst hC (1 : Int32) dL_discard_13 (by decide) ?_
      obtain ⟨rfl, rfl⟩ := Prod.mk.inj (Option.some.inj h)
      exact V_wiret hC hr hlk (by decide) (by decide) dL_discard_14
    have h := ite_f c2 h
    cases h
theorem c_L_edit {l : Launch} {G : Geo} {x1 : Int32} {x2 : Int32} {x3 : Int32} {x4 : Int32} {rv : Int32} {Mf : Mem} {M : Mem} (hlt : l.stackTraces = false) (hG : gD G) (h : f_L_edit x1 x2 x3 x4 M = some (rv, Mf)) : Met l yL_edit (.codeWith yL_edit cL_edit 7 (some .int) [(0, 14, 17, 13), (0, 14, 21, 20), (0, 14, 25, 15)] :: GL) (rmx 10) (gPx G [.ref (adr G 6 0), .int x1, .int x2, .int x3, .int x4, .ref (adr G 8 0)] M) (gQ G (some (.int rv)) Mf) 1 6 (gA G) := by
  refine WMet_of (own := RL) (L := [(0, .ref (adr G 6 0)), (1, .int x1), (2, .int x2), (3, .int x3), (4, .int x4), (5, .ref (adr G 8 0))]) hG (by decide +kernel) rfl (Nat.le_of_ble_eq_true rfl) rfl ?_
  intro p e s m args below meth c hC hX htab hr hlk
  refine V_aload hC dL_edit_0 5 rfl ?_
  refine V_iconst hC (0 : Int32) dL_edit_2 (by decide) ?_
  refine V_aload_n hC dL_edit_3 rfl 0 rfl ?_
  refine V_iload_n hC dL_edit_4 rfl 1 rfl ?_
  refine V_iload_n hC dL_edit_5 rfl 2 rfl ?_
  refine V_iload_n hC dL_edit_6 rfl 3 rfl ?_
  refine V_iload hC dL_edit_7 4 rfl ?_
  obtain ⟨q1, e1, h⟩ := bind_some h
  refine V_xV hC hX [.int x1, .int x2, .int x3, .int x4] (c_X8_edit (l := l) (k0 := q1.1) (rv := q1.2.1) (Mf := q1.2.2) hlt hC.2.2.2.2.2.2.2 e1) kd_X8_edit kv_X8_edit gw_1035 (r_s0_0).o rfl ⟨Nat.le_of_ble_eq_true rfl, Nat.le_of_ble_eq_true rfl⟩ rfl (Nat.le_of_ble_eq_true rfl) dL_edit_9 ⟨by decide, by decide⟩ rfl (fun z1 => ?_) (fun z1 => ?_)
  · have h := ite_t z1 h
    refine V_i2l hC dL_edit_12 ?_
    refine V_last hC rfl dL_edit_13 ?_
    refine V_goto hC 29 dL_edit_14 (by decide) ?_
    refine V_iconst hC (0 : Int32) dL_edit_29 (by decide) ?_
    obtain ⟨rfl, rfl⟩ := Prod.mk.inj (Option.some.inj h)
    exact V_wiret hC hr hlk (by decide) (by decide) dL_edit_30
  · have h := ite_f (Nat.ne_of_gt z1) h
    by_cases c2 : q1.1 = 1
    · have h := ite_t c2 h
      refine V_catch hC hX htab (pre := []) (suf := [(0, 14, 21, 20), (0, 14, 25, 15)]) rfl (by decide) (fun z hz => nomatch hz) (by decide) (by rw [c2]; exact gw_736) (by rw [c2]; decide +kernel) (fun w2 => ?_)
      refine V_astore hC ([(6, .ref w2), (0, .ref (adr G 6 0)), (1, .int x1), (2, .int x2), (3, .int x3), (4, .int x4), (5, .ref (adr G 8 0))]) dL_edit_17 (by decide) rfl ?_
      refine V_iconst hC (1 : Int32) dL_edit_19 (by decide) ?_
      obtain ⟨rfl, rfl⟩ := Prod.mk.inj (Option.some.inj h)
      exact V_wiret hC hr hlk (by decide) (by decide) dL_edit_20
    have h := ite_f c2 h
    by_cases c3 : q1.1 = 2
    · have h := ite_t c3 h
      have hpre1 : ∀ z ∈ [((0, 14, 17, 13) : Nat × Nat × Nat × Nat)], z.2.2.2 ≠ 0 ∧ ∃ nm : String, Cond.classLink RL z.2.2.2 nm ∈ GL ∧ (xcls q1.1, nm) ∈ XN := by
        rw [c3]
        intro z hz
        rcases List.mem_cons.mp hz with rfl | hz
        · exact ⟨by decide, _, gw_736, by decide +kernel⟩
        exact nomatch hz
      refine V_catch hC hX htab (pre := [(0, 14, 17, 13)]) (suf := [(0, 14, 25, 15)]) rfl (by decide) (hpre1) (by decide) (by rw [c3]; exact gw_878) (by rw [c3]; decide +kernel) (fun w3 => ?_)
      refine V_astore hC ([(6, .ref w3), (0, .ref (adr G 6 0)), (1, .int x1), (2, .int x2), (3, .int x3), (4, .int x4), (5, .ref (adr G 8 0))]) dL_edit_21 (by decide) rfl ?_
      refine V_iconst hC (2 : Int32) dL_edit_23 (by decide) ?_
      obtain ⟨rfl, rfl⟩ := Prod.mk.inj (Option.some.inj h)
      exact V_wiret hC hr hlk (by decide) (by decide) dL_edit_24
    have h := ite_f c3 h
    by_cases c4 : q1.1 = 3
    · have h := ite_t c4 h
      have hpre2 : ∀ z ∈ [((0, 14, 17, 13) : Nat × Nat × Nat × Nat), ((0, 14, 21, 20) : Nat × Nat × Nat × Nat)], z.2.2.2 ≠ 0 ∧ ∃ nm : String, Cond.classLink RL z.2.2.2 nm ∈ GL ∧ (xcls q1.1, nm) ∈ XN := by
        rw [c4]
        intro z hz
        rcases List.mem_cons.mp hz with rfl | hz
        · exact ⟨by decide, _, gw_736, by decide +kernel⟩
        rcases List.mem_cons.mp hz with rfl | hz
        · exact ⟨by decide, _, gw_878, by decide +kernel⟩
        exact nomatch hz
      refine V_catch hC hX htab (pre := [(0, 14, 17, 13), (0, 14, 21, 20)]) (suf := []) rfl (by decide) (hpre2) (by decide) (by rw [c4]; exact gw_737) (by rw [c4]; decide +kernel) (fun w4 => ?_)
      refine V_astore hC ([(6, .ref w4), (0, .ref (adr G 6 0)), (1, .int x1), (2, .int x2), (3, .int x3), (4, .int x4), (5, .ref (adr G 8 0))]) dL_edit_25 (by decide) rfl ?_
      refine V_iconst hC (3 : Int32) dL_edit_27 (by decide) ?_
      obtain ⟨rfl, rfl⟩ := Prod.mk.inj (Option.some.inj h)
      exact V_wiret hC hr hlk (by decide) (by decide) dL_edit_28
    have h := ite_f c4 h
    cases h
theorem c_L_copied {l : Launch} {G : Geo} {x1 : Int32} {x2 : Int32} {x3 : Int32} {x4 : Int32} {rv : Int32} {Mf : Mem} {M : Mem} (hlt : l.stackTraces = false) (hG : gD G) (h : f_L_copied x1 x2 x3 x4 M = some (rv, Mf)) : Met l yL_copied (.codeWith yL_copied cL_copied 7 (some .int) [(0, 14, 17, 13)] :: GL) (rmx 10) (gPx G [.ref (adr G 6 0), .int x1, .int x2, .int x3, .int x4, .ref (adr G 8 0)] M) (gQ G (some (.int rv)) Mf) 1 6 (gA G) := by
  refine WMet_of (own := RL) (L := [(0, .ref (adr G 6 0)), (1, .int x1), (2, .int x2), (3, .int x3), (4, .int x4), (5, .ref (adr G 8 0))]) hG (by decide +kernel) rfl (Nat.le_of_ble_eq_true rfl) rfl ?_
  intro p e s m args below meth c hC hX htab hr hlk
  refine V_aload hC dL_copied_0 5 rfl ?_
  refine V_iconst hC (0 : Int32) dL_copied_2 (by decide) ?_
  refine V_aload_n hC dL_copied_3 rfl 0 rfl ?_
  refine V_iload_n hC dL_copied_4 rfl 1 rfl ?_
  refine V_iload_n hC dL_copied_5 rfl 2 rfl ?_
  refine V_iload_n hC dL_copied_6 rfl 3 rfl ?_
  refine V_iload hC dL_copied_7 4 rfl ?_
  obtain ⟨q1, e1, h⟩ := bind_some h
  refine V_xV hC hX [.int x1, .int x2, .int x3, .int x4] (c_X8_copied (l := l) (k0 := q1.1) (rv := q1.2.1) (Mf := q1.2.2) hlt hC.2.2.2.2.2.2.2 e1) kd_X8_copied kv_X8_copied gw_1042 (r_s0_0).o rfl ⟨Nat.le_of_ble_eq_true rfl, Nat.le_of_ble_eq_true rfl⟩ rfl (Nat.le_of_ble_eq_true rfl) dL_copied_9 ⟨by decide, by decide⟩ rfl (fun z1 => ?_) (fun z1 => ?_)
  · have h := ite_t z1 h
    refine V_i2l hC dL_copied_12 ?_
    refine V_last hC rfl dL_copied_13 ?_
    refine V_goto hC 21 dL_copied_14 (by decide) ?_
    refine V_iconst hC (0 : Int32) dL_copied_21 (by decide) ?_
    obtain ⟨rfl, rfl⟩ := Prod.mk.inj (Option.some.inj h)
    exact V_wiret hC hr hlk (by decide) (by decide) dL_copied_22
  · have h := ite_f (Nat.ne_of_gt z1) h
    by_cases c2 : q1.1 = 1
    · have h := ite_t c2 h
      refine V_catch hC hX htab (pre := []) (suf := []) rfl (by decide) (fun z hz => nomatch hz) (by decide) (by rw [c2]; exact gw_736) (by rw [c2]; decide +kernel) (fun w2 => ?_)
      refine V_astore hC ([(6, .ref w2), (0, .ref (adr G 6 0)), (1, .int x1), (2, .int x2), (3, .int x3), (4, .int x4), (5, .ref (adr G 8 0))]) dL_copied_17 (by decide) rfl ?_
      refine V_iconst hC (1 : Int32) dL_copied_19 (by decide) ?_
      obtain ⟨rfl, rfl⟩ := Prod.mk.inj (Option.some.inj h)
      exact V_wiret hC hr hlk (by decide) (by decide) dL_copied_20
    have h := ite_f c2 h
    cases h
theorem c_L_conflicts {l : Launch} {G : Geo} {x1 : Int32} {rv : Int32} {Mf : Mem} {M : Mem} (hlt : l.stackTraces = false) (hG : gD G) (h : f_L_conflicts x1 M = some (rv, Mf)) : Met l yL_conflicts (.codeWith yL_conflicts cL_conflicts 4 (some .int) [(0, 9, 12, 13)] :: GL) (rmx 10) (gPx G [.ref (adr G 6 0), .int x1, .ref (adr G 8 0)] M) (gQ G (some (.int rv)) Mf) 1 6 (gA G) := by
  refine WMet_of (own := RL) (L := [(0, .ref (adr G 6 0)), (1, .int x1), (2, .ref (adr G 8 0))]) hG (by decide +kernel) rfl (Nat.le_of_ble_eq_true rfl) rfl ?_
  intro p e s m args below meth c hC hX htab hr hlk
  refine V_aload_n hC dL_conflicts_0 rfl 2 rfl ?_
  refine V_iconst hC (0 : Int32) dL_conflicts_1 (by decide) ?_
  refine V_aload_n hC dL_conflicts_2 rfl 0 rfl ?_
  refine V_iload_n hC dL_conflicts_3 rfl 1 rfl ?_
  obtain ⟨q1, e1, h⟩ := bind_some h
  refine V_xV hC hX [.int x1] (c_X8_conflicts (l := l) (k0 := q1.1) (rv := q1.2.1) (Mf := q1.2.2) hlt hC.2.2.2.2.2.2.2 e1) kd_X8_conflicts kv_X8_conflicts gw_1052 (r_s0_0).o rfl ⟨Nat.le_of_ble_eq_true rfl, Nat.le_of_ble_eq_true rfl⟩ rfl (Nat.le_of_ble_eq_true rfl) dL_conflicts_4 ⟨by decide, by decide⟩ rfl (fun z1 => ?_) (fun z1 => ?_)
  · have h := ite_t z1 h
    refine V_i2l hC dL_conflicts_7 ?_
    refine V_last hC rfl dL_conflicts_8 ?_
    refine V_goto hC 15 dL_conflicts_9 (by decide) ?_
    refine V_iconst hC (0 : Int32) dL_conflicts_15 (by decide) ?_
    obtain ⟨rfl, rfl⟩ := Prod.mk.inj (Option.some.inj h)
    exact V_wiret hC hr hlk (by decide) (by decide) dL_conflicts_16
  · have h := ite_f (Nat.ne_of_gt z1) h
    by_cases c2 : q1.1 = 1
    · have h := ite_t c2 h
      refine V_catch hC hX htab (pre := []) (suf := []) rfl (by decide) (fun z hz => nomatch hz) (by decide) (by rw [c2]; exact gw_736) (by rw [c2]; decide +kernel) (fun w2 => ?_)
      refine V_astore_n hC ([(3, .ref w2), (0, .ref (adr G 6 0)), (1, .int x1), (2, .ref (adr G 8 0))]) dL_conflicts_12 rfl (by decide) rfl ?_
      refine V_iconst hC (1 : Int32) dL_conflicts_13 (by decide) ?_
      obtain ⟨rfl, rfl⟩ := Prod.mk.inj (Option.some.inj h)
      exact V_wiret hC hr hlk (by decide) (by decide) dL_conflicts_14
    have h := ite_f c2 h
    cases h
theorem c_L_giveBack {l : Launch} {G : Geo} {x1 : Int32} {x2 : Int32} {rv : Int32} {Mf : Mem} {M : Mem} (hlt : l.stackTraces = false) (hG : gD G) (h : f_L_giveBack x1 x2 M = some (rv, Mf)) : Met l yL_giveBack (.codeWith yL_giveBack cL_giveBack 5 (some .int) [(0, 10, 13, 13), (0, 10, 17, 20), (0, 10, 21, 15)] :: GL) (rmx 10) (gPx G [.ref (adr G 6 0), .int x1, .int x2, .ref (adr G 8 0)] M) (gQ G (some (.int rv)) Mf) 1 6 (gA G) := by
  refine WMet_of (own := RL) (L := [(0, .ref (adr G 6 0)), (1, .int x1), (2, .int x2), (3, .ref (adr G 8 0))]) hG (by decide +kernel) rfl (Nat.le_of_ble_eq_true rfl) rfl ?_
  intro p e s m args below meth c hC hX htab hr hlk
  refine V_aload_n hC dL_giveBack_0 rfl 3 rfl ?_
  refine V_iconst hC (0 : Int32) dL_giveBack_1 (by decide) ?_
  refine V_aload_n hC dL_giveBack_2 rfl 0 rfl ?_
  refine V_iload_n hC dL_giveBack_3 rfl 1 rfl ?_
  refine V_iload_n hC dL_giveBack_4 rfl 2 rfl ?_
  obtain ⟨q1, e1, h⟩ := bind_some h
  refine V_xV hC hX [.int x1, .int x2] (c_X8_giveBack (l := l) (k0 := q1.1) (rv := q1.2.1) (Mf := q1.2.2) hlt hC.2.2.2.2.2.2.2 e1) kd_X8_giveBack kv_X8_giveBack gw_1060 (r_s0_0).o rfl ⟨Nat.le_of_ble_eq_true rfl, Nat.le_of_ble_eq_true rfl⟩ rfl (Nat.le_of_ble_eq_true rfl) dL_giveBack_5 ⟨by decide, by decide⟩ rfl (fun z1 => ?_) (fun z1 => ?_)
  · have h := ite_t z1 h
    refine V_i2l hC dL_giveBack_8 ?_
    refine V_last hC rfl dL_giveBack_9 ?_
    refine V_goto hC 25 dL_giveBack_10 (by decide) ?_
    refine V_iconst hC (0 : Int32) dL_giveBack_25 (by decide) ?_
    obtain ⟨rfl, rfl⟩ := Prod.mk.inj (Option.some.inj h)
    exact V_wiret hC hr hlk (by decide) (by decide) dL_giveBack_26
  · have h := ite_f (Nat.ne_of_gt z1) h
    by_cases c2 : q1.1 = 1
    · have h := ite_t c2 h
      refine V_catch hC hX htab (pre := []) (suf := [(0, 10, 17, 20), (0, 10, 21, 15)]) rfl (by decide) (fun z hz => nomatch hz) (by decide) (by rw [c2]; exact gw_736) (by rw [c2]; decide +kernel) (fun w2 => ?_)
      refine V_astore hC ([(4, .ref w2), (0, .ref (adr G 6 0)), (1, .int x1), (2, .int x2), (3, .ref (adr G 8 0))]) dL_giveBack_13 (by decide) rfl ?_
      refine V_iconst hC (1 : Int32) dL_giveBack_15 (by decide) ?_
      obtain ⟨rfl, rfl⟩ := Prod.mk.inj (Option.some.inj h)
      exact V_wiret hC hr hlk (by decide) (by decide) dL_giveBack_16
    have h := ite_f c2 h
    by_cases c3 : q1.1 = 2
    · have h := ite_t c3 h
      have hpre1 : ∀ z ∈ [((0, 10, 13, 13) : Nat × Nat × Nat × Nat)], z.2.2.2 ≠ 0 ∧ ∃ nm : String, Cond.classLink RL z.2.2.2 nm ∈ GL ∧ (xcls q1.1, nm) ∈ XN := by
        rw [c3]
        intro z hz
        rcases List.mem_cons.mp hz with rfl | hz
        · exact ⟨by decide, _, gw_736, by decide +kernel⟩
        exact nomatch hz
      refine V_catch hC hX htab (pre := [(0, 10, 13, 13)]) (suf := [(0, 10, 21, 15)]) rfl (by decide) (hpre1) (by decide) (by rw [c3]; exact gw_878) (by rw [c3]; decide +kernel) (fun w3 => ?_)
      refine V_astore hC ([(4, .ref w3), (0, .ref (adr G 6 0)), (1, .int x1), (2, .int x2), (3, .ref (adr G 8 0))]) dL_giveBack_17 (by decide) rfl ?_
      refine V_iconst hC (2 : Int32) dL_giveBack_19 (by decide) ?_
      obtain ⟨rfl, rfl⟩ := Prod.mk.inj (Option.some.inj h)
      exact V_wiret hC hr hlk (by decide) (by decide) dL_giveBack_20
    have h := ite_f c3 h
    by_cases c4 : q1.1 = 3
    · have h := ite_t c4 h
      have hpre2 : ∀ z ∈ [((0, 10, 13, 13) : Nat × Nat × Nat × Nat), ((0, 10, 17, 20) : Nat × Nat × Nat × Nat)], z.2.2.2 ≠ 0 ∧ ∃ nm : String, Cond.classLink RL z.2.2.2 nm ∈ GL ∧ (xcls q1.1, nm) ∈ XN := by
        rw [c4]
        intro z hz
        rcases List.mem_cons.mp hz with rfl | hz
        · exact ⟨by decide, _, gw_736, by decide +kernel⟩
        rcases List.mem_cons.mp hz with rfl | hz
        · exact ⟨by decide, _, gw_878, by decide +kernel⟩
        exact nomatch hz
      refine V_catch hC hX htab (pre := [(0, 10, 13, 13), (0, 10, 17, 20)]) (suf := []) rfl (by decide) (hpre2) (by decide) (by rw [c4]; exact gw_737) (by rw [c4]; decide +kernel) (fun w4 => ?_)
      refine V_astore hC ([(4, .ref w4), (0, .ref (adr G 6 0)), (1, .int x1), (2, .int x2), (3, .ref (adr G 8 0))]) dL_giveBack_21 (by decide) rfl ?_
      refine V_iconst hC (3 : Int32) dL_giveBack_23 (by decide) ?_
      obtain ⟨rfl, rfl⟩ := Prod.mk.inj (Option.some.inj h)
      exact V_wiret hC hr hlk (by decide) (by decide) dL_giveBack_24
    have h := ite_f c4 h
    cases h
theorem c_L_checkOut {l : Launch} {G : Geo} {x1 : Int32} {x2 : Int32} {rv : Int32} {Mf : Mem} {M : Mem} (hlt : l.stackTraces = false) (hG : gD G) (h : f_L_checkOut x1 x2 M = some (rv, Mf)) : Met l yL_checkOut (.codeWith yL_checkOut cL_checkOut 5 (some .int) [(0, 10, 13, 13), (0, 10, 17, 20)] :: GL) (rmx 10) (gPx G [.ref (adr G 6 0), .int x1, .int x2, .ref (adr G 8 0)] M) (gQ G (some (.int rv)) Mf) 1 6 (gA G) := by
  refine WMet_of (own := RL) (L := [(0, .ref (adr G 6 0)), (1, .int x1), (2, .int x2), (3, .ref (adr G 8 0))]) hG (by decide +kernel) rfl (Nat.le_of_ble_eq_true rfl) rfl ?_
  intro p e s m args below meth c hC hX htab hr hlk
  refine V_aload_n hC dL_checkOut_0 rfl 3 rfl ?_
  refine V_iconst hC (0 : Int32) dL_checkOut_1 (by decide) ?_
  refine V_aload_n hC dL_checkOut_2 rfl 0 rfl ?_
  refine V_iload_n hC dL_checkOut_3 rfl 1 rfl ?_
  refine V_iload_n hC dL_checkOut_4 rfl 2 rfl ?_
  obtain ⟨q1, e1, h⟩ := bind_some h
  refine V_xV hC hX [.int x1, .int x2] (c_X8_checkOut (l := l) (k0 := q1.1) (rv := q1.2.1) (Mf := q1.2.2) hlt hC.2.2.2.2.2.2.2 e1) kd_X8_checkOut kv_X8_checkOut gw_1067 (r_s0_0).o rfl ⟨Nat.le_of_ble_eq_true rfl, Nat.le_of_ble_eq_true rfl⟩ rfl (Nat.le_of_ble_eq_true rfl) dL_checkOut_5 ⟨by decide, by decide⟩ rfl (fun z1 => ?_) (fun z1 => ?_)
  · have h := ite_t z1 h
    refine V_i2l hC dL_checkOut_8 ?_
    refine V_last hC rfl dL_checkOut_9 ?_
    refine V_goto hC 21 dL_checkOut_10 (by decide) ?_
    refine V_iconst hC (0 : Int32) dL_checkOut_21 (by decide) ?_
    obtain ⟨rfl, rfl⟩ := Prod.mk.inj (Option.some.inj h)
    exact V_wiret hC hr hlk (by decide) (by decide) dL_checkOut_22
  · have h := ite_f (Nat.ne_of_gt z1) h
    by_cases c2 : q1.1 = 1
    · have h := ite_t c2 h
      refine V_catch hC hX htab (pre := []) (suf := [(0, 10, 17, 20)]) rfl (by decide) (fun z hz => nomatch hz) (by decide) (by rw [c2]; exact gw_736) (by rw [c2]; decide +kernel) (fun w2 => ?_)
      refine V_astore hC ([(4, .ref w2), (0, .ref (adr G 6 0)), (1, .int x1), (2, .int x2), (3, .ref (adr G 8 0))]) dL_checkOut_13 (by decide) rfl ?_
      refine V_iconst hC (1 : Int32) dL_checkOut_15 (by decide) ?_
      obtain ⟨rfl, rfl⟩ := Prod.mk.inj (Option.some.inj h)
      exact V_wiret hC hr hlk (by decide) (by decide) dL_checkOut_16
    have h := ite_f c2 h
    by_cases c3 : q1.1 = 2
    · have h := ite_t c3 h
      have hpre1 : ∀ z ∈ [((0, 10, 13, 13) : Nat × Nat × Nat × Nat)], z.2.2.2 ≠ 0 ∧ ∃ nm : String, Cond.classLink RL z.2.2.2 nm ∈ GL ∧ (xcls q1.1, nm) ∈ XN := by
        rw [c3]
        intro z hz
        rcases List.mem_cons.mp hz with rfl | hz
        · exact ⟨by decide, _, gw_736, by decide +kernel⟩
        exact nomatch hz
      refine V_catch hC hX htab (pre := [(0, 10, 13, 13)]) (suf := []) rfl (by decide) (hpre1) (by decide) (by rw [c3]; exact gw_878) (by rw [c3]; decide +kernel) (fun w3 => ?_)
      refine V_astore hC ([(4, .ref w3), (0, .ref (adr G 6 0)), (1, .int x1), (2, .int x2), (3, .ref (adr G 8 0))]) dL_checkOut_17 (by decide) rfl ?_
      refine V_iconst hC (2 : Int32) dL_checkOut_19 (by decide) ?_
      obtain ⟨rfl, rfl⟩ := Prod.mk.inj (Option.some.inj h)
      exact V_wiret hC hr hlk (by decide) (by decide) dL_checkOut_20
    have h := ite_f c3 h
    cases h
theorem c_L_holders {l : Launch} {G : Geo} {x1 : Int32} {rv : Int32} {Mf : Mem} {M : Mem} (hlt : l.stackTraces = false) (hG : gD G) (h : f_L_holders x1 M = some (rv, Mf)) : Met l yL_holders (.codeWith yL_holders cL_holders 4 (some .int) [(0, 9, 12, 13)] :: GL) (rmx 10) (gPx G [.ref (adr G 6 0), .int x1, .ref (adr G 8 0)] M) (gQ G (some (.int rv)) Mf) 1 6 (gA G) := by
  refine WMet_of (own := RL) (L := [(0, .ref (adr G 6 0)), (1, .int x1), (2, .ref (adr G 8 0))]) hG (by decide +kernel) rfl (Nat.le_of_ble_eq_true rfl) rfl ?_
  intro p e s m args below meth c hC hX htab hr hlk
  refine V_aload_n hC dL_holders_0 rfl 2 rfl ?_
  refine V_iconst hC (0 : Int32) dL_holders_1 (by decide) ?_
  refine V_aload_n hC dL_holders_2 rfl 0 rfl ?_
  refine V_iload_n hC dL_holders_3 rfl 1 rfl ?_
  obtain ⟨q1, e1, h⟩ := bind_some h
  refine V_xV hC hX [.int x1] (c_X8_holders (l := l) (k0 := q1.1) (rv := q1.2.1) (Mf := q1.2.2) hlt hC.2.2.2.2.2.2.2 e1) kd_X8_holders kv_X8_holders gw_1077 (r_s0_0).o rfl ⟨Nat.le_of_ble_eq_true rfl, Nat.le_of_ble_eq_true rfl⟩ rfl (Nat.le_of_ble_eq_true rfl) dL_holders_4 ⟨by decide, by decide⟩ rfl (fun z1 => ?_) (fun z1 => ?_)
  · have h := ite_t z1 h
    refine V_i2l hC dL_holders_7 ?_
    refine V_last hC rfl dL_holders_8 ?_
    refine V_goto hC 15 dL_holders_9 (by decide) ?_
    refine V_iconst hC (0 : Int32) dL_holders_15 (by decide) ?_
    obtain ⟨rfl, rfl⟩ := Prod.mk.inj (Option.some.inj h)
    exact V_wiret hC hr hlk (by decide) (by decide) dL_holders_16
  · have h := ite_f (Nat.ne_of_gt z1) h
    by_cases c2 : q1.1 = 1
    · have h := ite_t c2 h
      refine V_catch hC hX htab (pre := []) (suf := []) rfl (by decide) (fun z hz => nomatch hz) (by decide) (by rw [c2]; exact gw_736) (by rw [c2]; decide +kernel) (fun w2 => ?_)
      refine V_astore_n hC ([(3, .ref w2), (0, .ref (adr G 6 0)), (1, .int x1), (2, .ref (adr G 8 0))]) dL_holders_12 rfl (by decide) rfl ?_
      refine V_iconst hC (1 : Int32) dL_holders_13 (by decide) ?_
      obtain ⟨rfl, rfl⟩ := Prod.mk.inj (Option.some.inj h)
      exact V_wiret hC hr hlk (by decide) (by decide) dL_holders_14
    have h := ite_f c2 h
    cases h
theorem c_L_ifBroken {l : Launch} {G : Geo} {x1 : Int32} {rv : Int32} {Mf : Mem} {M : Mem} (hlt : l.stackTraces = false) (hG : gD G) (h : f_L_ifBroken x1 M = some (rv, Mf)) : Met l yL_ifBroken (.codeWith yL_ifBroken cL_ifBroken 4 (some .int) [(0, 9, 12, 13)] :: GL) (rmx 10) (gPx G [.ref (adr G 6 0), .int x1, .ref (adr G 8 0)] M) (gQ G (some (.int rv)) Mf) 1 6 (gA G) := by
  refine WMet_of (own := RL) (L := [(0, .ref (adr G 6 0)), (1, .int x1), (2, .ref (adr G 8 0))]) hG (by decide +kernel) rfl (Nat.le_of_ble_eq_true rfl) rfl ?_
  intro p e s m args below meth c hC hX htab hr hlk
  refine V_aload_n hC dL_ifBroken_0 rfl 2 rfl ?_
  refine V_iconst hC (0 : Int32) dL_ifBroken_1 (by decide) ?_
  refine V_aload_n hC dL_ifBroken_2 rfl 0 rfl ?_
  refine V_iload_n hC dL_ifBroken_3 rfl 1 rfl ?_
  obtain ⟨q1, e1, h⟩ := bind_some h
  refine V_xV hC hX [.int x1] (c_X8_ifBroken (l := l) (k0 := q1.1) (rv := q1.2.1) (Mf := q1.2.2) hlt hC.2.2.2.2.2.2.2 e1) kd_X8_ifBroken kv_X8_ifBroken gw_1088 (r_s0_0).o rfl ⟨Nat.le_of_ble_eq_true rfl, Nat.le_of_ble_eq_true rfl⟩ rfl (Nat.le_of_ble_eq_true rfl) dL_ifBroken_4 ⟨by decide, by decide⟩ rfl (fun z1 => ?_) (fun z1 => ?_)
  · have h := ite_t z1 h
    refine V_i2l hC dL_ifBroken_7 ?_
    refine V_last hC rfl dL_ifBroken_8 ?_
    refine V_goto hC 15 dL_ifBroken_9 (by decide) ?_
    refine V_iconst hC (0 : Int32) dL_ifBroken_15 (by decide) ?_
    obtain ⟨rfl, rfl⟩ := Prod.mk.inj (Option.some.inj h)
    exact V_wiret hC hr hlk (by decide) (by decide) dL_ifBroken_16
  · have h := ite_f (Nat.ne_of_gt z1) h
    by_cases c2 : q1.1 = 1
    · have h := ite_t c2 h
      refine V_catch hC hX htab (pre := []) (suf := []) rfl (by decide) (fun z hz => nomatch hz) (by decide) (by rw [c2]; exact gw_736) (by rw [c2]; decide +kernel) (fun w2 => ?_)
      refine V_astore_n hC ([(3, .ref w2), (0, .ref (adr G 6 0)), (1, .int x1), (2, .ref (adr G 8 0))]) dL_ifBroken_12 rfl (by decide) rfl ?_
      refine V_iconst hC (1 : Int32) dL_ifBroken_13 (by decide) ?_
      obtain ⟨rfl, rfl⟩ := Prod.mk.inj (Option.some.inj h)
      exact V_wiret hC hr hlk (by decide) (by decide) dL_ifBroken_14
    have h := ite_f c2 h
    cases h
theorem c_L_grantedAt {l : Launch} {G : Geo} {x1 : Int32} {rv : Int32} {Mf : Mem} {M : Mem} (hlt : l.stackTraces = false) (hG : gD G) (h : f_L_grantedAt x1 M = some (rv, Mf)) : Met l yL_grantedAt (.codeWith yL_grantedAt cL_grantedAt 4 (some .int) [(0, 9, 12, 13), (0, 9, 15, 15)] :: GL) (rmx 10) (gPx G [.ref (adr G 6 0), .int x1, .ref (adr G 8 0)] M) (gQ G (some (.int rv)) Mf) 1 6 (gA G) := by
  refine WMet_of (own := RL) (L := [(0, .ref (adr G 6 0)), (1, .int x1), (2, .ref (adr G 8 0))]) hG (by decide +kernel) rfl (Nat.le_of_ble_eq_true rfl) rfl ?_
  intro p e s m args below meth c hC hX htab hr hlk
  refine V_aload_n hC dL_grantedAt_0 rfl 2 rfl ?_
  refine V_iconst hC (0 : Int32) dL_grantedAt_1 (by decide) ?_
  refine V_aload_n hC dL_grantedAt_2 rfl 0 rfl ?_
  refine V_iload_n hC dL_grantedAt_3 rfl 1 rfl ?_
  obtain ⟨q1, e1, h⟩ := bind_some h
  refine V_xV hC hX [.int x1] (c_X8_grantedAt (l := l) (k0 := q1.1) (rv := q1.2.1) (Mf := q1.2.2) hlt hC.2.2.2.2.2.2.2 e1) kd_X8_grantedAt kv_X8_grantedAt gw_1098 (r_s0_0).o rfl ⟨Nat.le_of_ble_eq_true rfl, Nat.le_of_ble_eq_true rfl⟩ rfl (Nat.le_of_ble_eq_true rfl) dL_grantedAt_4 ⟨by decide, by decide⟩ rfl (fun z1 => ?_) (fun z1 => ?_)
  · have h := ite_t z1 h
    refine V_i2l hC dL_grantedAt_7 ?_
    refine V_last hC rfl dL_grantedAt_8 ?_
    refine V_goto hC 18 dL_grantedAt_9 (by decide) ?_
    refine V_iconst hC (0 : Int32) dL_grantedAt_18 (by decide) ?_
    obtain ⟨rfl, rfl⟩ := Prod.mk.inj (Option.some.inj h)
    exact V_wiret hC hr hlk (by decide) (by decide) dL_grantedAt_19
  · have h := ite_f (Nat.ne_of_gt z1) h
    by_cases c2 : q1.1 = 1
    · have h := ite_t c2 h
      refine V_catch hC hX htab (pre := []) (suf := [(0, 9, 15, 15)]) rfl (by decide) (fun z hz => nomatch hz) (by decide) (by rw [c2]; exact gw_736) (by rw [c2]; decide +kernel) (fun w2 => ?_)
      refine V_astore_n hC ([(3, .ref w2), (0, .ref (adr G 6 0)), (1, .int x1), (2, .ref (adr G 8 0))]) dL_grantedAt_12 rfl (by decide) rfl ?_
      refine V_iconst hC (1 : Int32) dL_grantedAt_13 (by decide) ?_
      obtain ⟨rfl, rfl⟩ := Prod.mk.inj (Option.some.inj h)
      exact V_wiret hC hr hlk (by decide) (by decide) dL_grantedAt_14
    have h := ite_f c2 h
    by_cases c3 : q1.1 = 3
    · have h := ite_t c3 h
      have hpre1 : ∀ z ∈ [((0, 9, 12, 13) : Nat × Nat × Nat × Nat)], z.2.2.2 ≠ 0 ∧ ∃ nm : String, Cond.classLink RL z.2.2.2 nm ∈ GL ∧ (xcls q1.1, nm) ∈ XN := by
        rw [c3]
        intro z hz
        rcases List.mem_cons.mp hz with rfl | hz
        · exact ⟨by decide, _, gw_736, by decide +kernel⟩
        exact nomatch hz
      refine V_catch hC hX htab (pre := [(0, 9, 12, 13)]) (suf := []) rfl (by decide) (hpre1) (by decide) (by rw [c3]; exact gw_737) (by rw [c3]; decide +kernel) (fun w3 => ?_)
      refine V_astore_n hC ([(3, .ref w3), (0, .ref (adr G 6 0)), (1, .int x1), (2, .ref (adr G 8 0))]) dL_grantedAt_15 rfl (by decide) rfl ?_
      refine V_iconst hC (2 : Int32) dL_grantedAt_16 (by decide) ?_
      obtain ⟨rfl, rfl⟩ := Prod.mk.inj (Option.some.inj h)
      exact V_wiret hC hr hlk (by decide) (by decide) dL_grantedAt_17
    have h := ite_f c3 h
    cases h
theorem c_L_waitsFor {l : Launch} {G : Geo} {x1 : Int32} {rv : Int32} {Mf : Mem} {M : Mem} (hlt : l.stackTraces = false) (hG : gD G) (h : f_L_waitsFor x1 M = some (rv, Mf)) : Met l yL_waitsFor (.codeWith yL_waitsFor cL_waitsFor 4 (some .int) [(0, 9, 12, 13), (0, 9, 15, 15)] :: GL) (rmx 10) (gPx G [.ref (adr G 6 0), .int x1, .ref (adr G 8 0)] M) (gQ G (some (.int rv)) Mf) 1 6 (gA G) := by
  refine WMet_of (own := RL) (L := [(0, .ref (adr G 6 0)), (1, .int x1), (2, .ref (adr G 8 0))]) hG (by decide +kernel) rfl (Nat.le_of_ble_eq_true rfl) rfl ?_
  intro p e s m args below meth c hC hX htab hr hlk
  refine V_aload_n hC dL_waitsFor_0 rfl 2 rfl ?_
  refine V_iconst hC (0 : Int32) dL_waitsFor_1 (by decide) ?_
  refine V_aload_n hC dL_waitsFor_2 rfl 0 rfl ?_
  refine V_iload_n hC dL_waitsFor_3 rfl 1 rfl ?_
  obtain ⟨q1, e1, h⟩ := bind_some h
  refine V_xV hC hX [.int x1] (c_X8_waitsFor (l := l) (k0 := q1.1) (rv := q1.2.1) (Mf := q1.2.2) hlt hC.2.2.2.2.2.2.2 e1) kd_X8_waitsFor kv_X8_waitsFor gw_1106 (r_s0_0).o rfl ⟨Nat.le_of_ble_eq_true rfl, Nat.le_of_ble_eq_true rfl⟩ rfl (Nat.le_of_ble_eq_true rfl) dL_waitsFor_4 ⟨by decide, by decide⟩ rfl (fun z1 => ?_) (fun z1 => ?_)
  · have h := ite_t z1 h
    refine V_i2l hC dL_waitsFor_7 ?_
    refine V_last hC rfl dL_waitsFor_8 ?_
    refine V_goto hC 18 dL_waitsFor_9 (by decide) ?_
    refine V_iconst hC (0 : Int32) dL_waitsFor_18 (by decide) ?_
    obtain ⟨rfl, rfl⟩ := Prod.mk.inj (Option.some.inj h)
    exact V_wiret hC hr hlk (by decide) (by decide) dL_waitsFor_19
  · have h := ite_f (Nat.ne_of_gt z1) h
    by_cases c2 : q1.1 = 1
    · have h := ite_t c2 h
      refine V_catch hC hX htab (pre := []) (suf := [(0, 9, 15, 15)]) rfl (by decide) (fun z hz => nomatch hz) (by decide) (by rw [c2]; exact gw_736) (by rw [c2]; decide +kernel) (fun w2 => ?_)
      refine V_astore_n hC ([(3, .ref w2), (0, .ref (adr G 6 0)), (1, .int x1), (2, .ref (adr G 8 0))]) dL_waitsFor_12 rfl (by decide) rfl ?_
      refine V_iconst hC (1 : Int32) dL_waitsFor_13 (by decide) ?_
      obtain ⟨rfl, rfl⟩ := Prod.mk.inj (Option.some.inj h)
      exact V_wiret hC hr hlk (by decide) (by decide) dL_waitsFor_14
    have h := ite_f c2 h
    by_cases c3 : q1.1 = 3
    · have h := ite_t c3 h
      have hpre1 : ∀ z ∈ [((0, 9, 12, 13) : Nat × Nat × Nat × Nat)], z.2.2.2 ≠ 0 ∧ ∃ nm : String, Cond.classLink RL z.2.2.2 nm ∈ GL ∧ (xcls q1.1, nm) ∈ XN := by
        rw [c3]
        intro z hz
        rcases List.mem_cons.mp hz with rfl | hz
        · exact ⟨by decide, _, gw_736, by decide +kernel⟩
        exact nomatch hz
      refine V_catch hC hX htab (pre := [(0, 9, 12, 13)]) (suf := []) rfl (by decide) (hpre1) (by decide) (by rw [c3]; exact gw_737) (by rw [c3]; decide +kernel) (fun w3 => ?_)
      refine V_astore_n hC ([(3, .ref w3), (0, .ref (adr G 6 0)), (1, .int x1), (2, .ref (adr G 8 0))]) dL_waitsFor_15 rfl (by decide) rfl ?_
      refine V_iconst hC (2 : Int32) dL_waitsFor_16 (by decide) ?_
      obtain ⟨rfl, rfl⟩ := Prod.mk.inj (Option.some.inj h)
      exact V_wiret hC hr hlk (by decide) (by decide) dL_waitsFor_17
    have h := ite_f c3 h
    cases h
theorem c_L_entry {l : Launch} {G : Geo} {x1 : Int32} {x2 : Int32} {rv : Int32} {Mf : Mem} {M : Mem} (hlt : l.stackTraces = false) (hG : gD G) (h : f_L_entry x1 x2 M = some (rv, Mf)) : Met l yL_entry (.codeWith yL_entry cL_entry 5 (some .int) [(0, 10, 13, 13), (0, 10, 17, 20)] :: GL) (rmx 10) (gPx G [.ref (adr G 6 0), .int x1, .int x2, .ref (adr G 8 0)] M) (gQ G (some (.int rv)) Mf) 1 6 (gA G) := by
  refine WMet_of (own := RL) (L := [(0, .ref (adr G 6 0)), (1, .int x1), (2, .int x2), (3, .ref (adr G 8 0))]) hG (by decide +kernel) rfl (Nat.le_of_ble_eq_true rfl) rfl ?_
  intro p e s m args below meth c hC hX htab hr hlk
  refine V_aload_n hC dL_entry_0 rfl 3 rfl ?_
  refine V_iconst hC (0 : Int32) dL_entry_1 (by decide) ?_
  refine V_aload_n hC dL_entry_2 rfl 0 rfl ?_
  refine V_iload_n hC dL_entry_3 rfl 1 rfl ?_
  refine V_iload_n hC dL_entry_4 rfl 2 rfl ?_
  obtain ⟨q1, e1, h⟩ := bind_some h
  refine V_xV hC hX [.int x1, .int x2] (c_X8_entry (l := l) (k0 := q1.1) (rv := q1.2.1) (Mf := q1.2.2) hlt hC.2.2.2.2.2.2.2 e1) kd_X8_entry kv_X8_entry gw_1117 (r_s0_0).o rfl ⟨Nat.le_of_ble_eq_true rfl, Nat.le_of_ble_eq_true rfl⟩ rfl (Nat.le_of_ble_eq_true rfl) dL_entry_5 ⟨by decide, by decide⟩ rfl (fun z1 => ?_) (fun z1 => ?_)
  · have h := ite_t z1 h
    refine V_i2l hC dL_entry_8 ?_
    refine V_last hC rfl dL_entry_9 ?_
    refine V_goto hC 21 dL_entry_10 (by decide) ?_
    refine V_iconst hC (0 : Int32) dL_entry_21 (by decide) ?_
    obtain ⟨rfl, rfl⟩ := Prod.mk.inj (Option.some.inj h)
    exact V_wiret hC hr hlk (by decide) (by decide) dL_entry_22
  · have h := ite_f (Nat.ne_of_gt z1) h
    by_cases c2 : q1.1 = 1
    · have h := ite_t c2 h
      refine V_catch hC hX htab (pre := []) (suf := [(0, 10, 17, 20)]) rfl (by decide) (fun z hz => nomatch hz) (by decide) (by rw [c2]; exact gw_736) (by rw [c2]; decide +kernel) (fun w2 => ?_)
      refine V_astore hC ([(4, .ref w2), (0, .ref (adr G 6 0)), (1, .int x1), (2, .int x2), (3, .ref (adr G 8 0))]) dL_entry_13 (by decide) rfl ?_
      refine V_iconst hC (1 : Int32) dL_entry_15 (by decide) ?_
      obtain ⟨rfl, rfl⟩ := Prod.mk.inj (Option.some.inj h)
      exact V_wiret hC hr hlk (by decide) (by decide) dL_entry_16
    have h := ite_f c2 h
    by_cases c3 : q1.1 = 2
    · have h := ite_t c3 h
      have hpre1 : ∀ z ∈ [((0, 10, 13, 13) : Nat × Nat × Nat × Nat)], z.2.2.2 ≠ 0 ∧ ∃ nm : String, Cond.classLink RL z.2.2.2 nm ∈ GL ∧ (xcls q1.1, nm) ∈ XN := by
        rw [c3]
        intro z hz
        rcases List.mem_cons.mp hz with rfl | hz
        · exact ⟨by decide, _, gw_736, by decide +kernel⟩
        exact nomatch hz
      refine V_catch hC hX htab (pre := [(0, 10, 13, 13)]) (suf := []) rfl (by decide) (hpre1) (by decide) (by rw [c3]; exact gw_878) (by rw [c3]; decide +kernel) (fun w3 => ?_)
      refine V_astore hC ([(4, .ref w3), (0, .ref (adr G 6 0)), (1, .int x1), (2, .int x2), (3, .ref (adr G 8 0))]) dL_entry_17 (by decide) rfl ?_
      refine V_iconst hC (2 : Int32) dL_entry_19 (by decide) ?_
      obtain ⟨rfl, rfl⟩ := Prod.mk.inj (Option.some.inj h)
      exact V_wiret hC hr hlk (by decide) (by decide) dL_entry_20
    have h := ite_f c3 h
    cases h
theorem c_L_blame {l : Launch} {G : Geo} {x1 : Int32} {x2 : Int32} {rv : Int32} {Mf : Mem} {M : Mem} (hlt : l.stackTraces = false) (hG : gD G) (h : f_L_blame x1 x2 M = some (rv, Mf)) : Met l yL_blame (.codeWith yL_blame cL_blame 5 (some .int) [(0, 10, 13, 13)] :: GL) (rmx 10) (gPx G [.ref (adr G 6 0), .int x1, .int x2, .ref (adr G 8 0)] M) (gQ G (some (.int rv)) Mf) 1 6 (gA G) := by
  refine WMet_of (own := RL) (L := [(0, .ref (adr G 6 0)), (1, .int x1), (2, .int x2), (3, .ref (adr G 8 0))]) hG (by decide +kernel) rfl (Nat.le_of_ble_eq_true rfl) rfl ?_
  intro p e s m args below meth c hC hX htab hr hlk
  refine V_aload_n hC dL_blame_0 rfl 3 rfl ?_
  refine V_iconst hC (0 : Int32) dL_blame_1 (by decide) ?_
  refine V_aload_n hC dL_blame_2 rfl 0 rfl ?_
  refine V_iload_n hC dL_blame_3 rfl 1 rfl ?_
  refine V_iload_n hC dL_blame_4 rfl 2 rfl ?_
  obtain ⟨q1, e1, h⟩ := bind_some h
  refine V_xV hC hX [.int x1, .int x2] (c_X8_blame (l := l) (k0 := q1.1) (rv := q1.2.1) (Mf := q1.2.2) hlt hC.2.2.2.2.2.2.2 e1) kd_X8_blame kv_X8_blame gw_1125 (r_s0_0).o rfl ⟨Nat.le_of_ble_eq_true rfl, Nat.le_of_ble_eq_true rfl⟩ rfl (Nat.le_of_ble_eq_true rfl) dL_blame_5 ⟨by decide, by decide⟩ rfl (fun z1 => ?_) (fun z1 => ?_)
  · have h := ite_t z1 h
    refine V_i2l hC dL_blame_8 ?_
    refine V_last hC rfl dL_blame_9 ?_
    refine V_goto hC 17 dL_blame_10 (by decide) ?_
    refine V_iconst hC (0 : Int32) dL_blame_17 (by decide) ?_
    obtain ⟨rfl, rfl⟩ := Prod.mk.inj (Option.some.inj h)
    exact V_wiret hC hr hlk (by decide) (by decide) dL_blame_18
  · have h := ite_f (Nat.ne_of_gt z1) h
    by_cases c2 : q1.1 = 1
    · have h := ite_t c2 h
      refine V_catch hC hX htab (pre := []) (suf := []) rfl (by decide) (fun z hz => nomatch hz) (by decide) (by rw [c2]; exact gw_736) (by rw [c2]; decide +kernel) (fun w2 => ?_)
      refine V_astore hC ([(4, .ref w2), (0, .ref (adr G 6 0)), (1, .int x1), (2, .int x2), (3, .ref (adr G 8 0))]) dL_blame_13 (by decide) rfl ?_
      refine V_iconst hC (1 : Int32) dL_blame_15 (by decide) ?_
      obtain ⟨rfl, rfl⟩ := Prod.mk.inj (Option.some.inj h)
      exact V_wiret hC hr hlk (by decide) (by decide) dL_blame_16
    have h := ite_f c2 h
    cases h
theorem c_L_lineAt {l : Launch} {G : Geo} {x1 : Int32} {x2 : Int32} {x3 : Int32} {rv : Int32} {Mf : Mem} {M : Mem} (hlt : l.stackTraces = false) (hG : gD G) (h : f_L_lineAt x1 x2 x3 M = some (rv, Mf)) : Met l yL_lineAt (.codeWith yL_lineAt cL_lineAt 6 (some .int) [(0, 12, 15, 13), (0, 12, 19, 20)] :: GL) (rmx 10) (gPx G [.ref (adr G 6 0), .int x1, .int x2, .int x3, .ref (adr G 8 0)] M) (gQ G (some (.int rv)) Mf) 1 6 (gA G) := by
  refine WMet_of (own := RL) (L := [(0, .ref (adr G 6 0)), (1, .int x1), (2, .int x2), (3, .int x3), (4, .ref (adr G 8 0))]) hG (by decide +kernel) rfl (Nat.le_of_ble_eq_true rfl) rfl ?_
  intro p e s m args below meth c hC hX htab hr hlk
  refine V_aload hC dL_lineAt_0 4 rfl ?_
  refine V_iconst hC (0 : Int32) dL_lineAt_2 (by decide) ?_
  refine V_aload_n hC dL_lineAt_3 rfl 0 rfl ?_
  refine V_iload_n hC dL_lineAt_4 rfl 1 rfl ?_
  refine V_iload_n hC dL_lineAt_5 rfl 2 rfl ?_
  refine V_iload_n hC dL_lineAt_6 rfl 3 rfl ?_
  obtain ⟨q1, e1, h⟩ := bind_some h
  refine V_xV hC hX [.int x1, .int x2, .int x3] (c_X8_lineAt (l := l) (k0 := q1.1) (rv := q1.2.1) (Mf := q1.2.2) hlt hC.2.2.2.2.2.2.2 e1) kd_X8_lineAt kv_X8_lineAt gw_1136 (r_s0_0).o rfl ⟨Nat.le_of_ble_eq_true rfl, Nat.le_of_ble_eq_true rfl⟩ rfl (Nat.le_of_ble_eq_true rfl) dL_lineAt_7 ⟨by decide, by decide⟩ rfl (fun z1 => ?_) (fun z1 => ?_)
  · have h := ite_t z1 h
    refine V_i2l hC dL_lineAt_10 ?_
    refine V_last hC rfl dL_lineAt_11 ?_
    refine V_goto hC 23 dL_lineAt_12 (by decide) ?_
    refine V_iconst hC (0 : Int32) dL_lineAt_23 (by decide) ?_
    obtain ⟨rfl, rfl⟩ := Prod.mk.inj (Option.some.inj h)
    exact V_wiret hC hr hlk (by decide) (by decide) dL_lineAt_24
  · have h := ite_f (Nat.ne_of_gt z1) h
    by_cases c2 : q1.1 = 1
    · have h := ite_t c2 h
      refine V_catch hC hX htab (pre := []) (suf := [(0, 12, 19, 20)]) rfl (by decide) (fun z hz => nomatch hz) (by decide) (by rw [c2]; exact gw_736) (by rw [c2]; decide +kernel) (fun w2 => ?_)
      refine V_astore hC ([(5, .ref w2), (0, .ref (adr G 6 0)), (1, .int x1), (2, .int x2), (3, .int x3), (4, .ref (adr G 8 0))]) dL_lineAt_15 (by decide) rfl ?_
      refine V_iconst hC (1 : Int32) dL_lineAt_17 (by decide) ?_
      obtain ⟨rfl, rfl⟩ := Prod.mk.inj (Option.some.inj h)
      exact V_wiret hC hr hlk (by decide) (by decide) dL_lineAt_18
    have h := ite_f c2 h
    by_cases c3 : q1.1 = 2
    · have h := ite_t c3 h
      have hpre1 : ∀ z ∈ [((0, 12, 15, 13) : Nat × Nat × Nat × Nat)], z.2.2.2 ≠ 0 ∧ ∃ nm : String, Cond.classLink RL z.2.2.2 nm ∈ GL ∧ (xcls q1.1, nm) ∈ XN := by
        rw [c3]
        intro z hz
        rcases List.mem_cons.mp hz with rfl | hz
        · exact ⟨by decide, _, gw_736, by decide +kernel⟩
        exact nomatch hz
      refine V_catch hC hX htab (pre := [(0, 12, 15, 13)]) (suf := []) rfl (by decide) (hpre1) (by decide) (by rw [c3]; exact gw_878) (by rw [c3]; decide +kernel) (fun w3 => ?_)
      refine V_astore hC ([(5, .ref w3), (0, .ref (adr G 6 0)), (1, .int x1), (2, .int x2), (3, .int x3), (4, .ref (adr G 8 0))]) dL_lineAt_19 (by decide) rfl ?_
      refine V_iconst hC (2 : Int32) dL_lineAt_21 (by decide) ?_
      obtain ⟨rfl, rfl⟩ := Prod.mk.inj (Option.some.inj h)
      exact V_wiret hC hr hlk (by decide) (by decide) dL_lineAt_22
    have h := ite_f c3 h
    cases h
theorem c_L_revert {l : Launch} {G : Geo} {x1 : Int32} {x2 : Int32} {rv : Int32} {Mf : Mem} {M : Mem} (hlt : l.stackTraces = false) (hG : gD G) (h : f_L_revert x1 x2 M = some (rv, Mf)) : Met l yL_revert (.codeWith yL_revert cL_revert 5 (some .int) [(0, 10, 13, 13), (0, 10, 17, 20), (0, 10, 21, 15)] :: GL) (rmx 10) (gPx G [.ref (adr G 6 0), .int x1, .int x2, .ref (adr G 8 0)] M) (gQ G (some (.int rv)) Mf) 1 6 (gA G) := by
  refine WMet_of (own := RL) (L := [(0, .ref (adr G 6 0)), (1, .int x1), (2, .int x2), (3, .ref (adr G 8 0))]) hG (by decide +kernel) rfl (Nat.le_of_ble_eq_true rfl) rfl ?_
  intro p e s m args below meth c hC hX htab hr hlk
  refine V_aload_n hC dL_revert_0 rfl 3 rfl ?_
  refine V_iconst hC (0 : Int32) dL_revert_1 (by decide) ?_
  refine V_aload_n hC dL_revert_2 rfl 0 rfl ?_
  refine V_iload_n hC dL_revert_3 rfl 1 rfl ?_
  refine V_iload_n hC dL_revert_4 rfl 2 rfl ?_
  obtain ⟨q1, e1, h⟩ := bind_some h
  refine V_xV hC hX [.int x1, .int x2] (c_X8_revert (l := l) (k0 := q1.1) (rv := q1.2.1) (Mf := q1.2.2) hlt hC.2.2.2.2.2.2.2 e1) kd_X8_revert kv_X8_revert gw_1153 (r_s0_0).o rfl ⟨Nat.le_of_ble_eq_true rfl, Nat.le_of_ble_eq_true rfl⟩ rfl (Nat.le_of_ble_eq_true rfl) dL_revert_5 ⟨by decide, by decide⟩ rfl (fun z1 => ?_) (fun z1 => ?_)
  · have h := ite_t z1 h
    refine V_i2l hC dL_revert_8 ?_
    refine V_last hC rfl dL_revert_9 ?_
    refine V_goto hC 25 dL_revert_10 (by decide) ?_
    refine V_iconst hC (0 : Int32) dL_revert_25 (by decide) ?_
    obtain ⟨rfl, rfl⟩ := Prod.mk.inj (Option.some.inj h)
    exact V_wiret hC hr hlk (by decide) (by decide) dL_revert_26
  · have h := ite_f (Nat.ne_of_gt z1) h
    by_cases c2 : q1.1 = 1
    · have h := ite_t c2 h
      refine V_catch hC hX htab (pre := []) (suf := [(0, 10, 17, 20), (0, 10, 21, 15)]) rfl (by decide) (fun z hz => nomatch hz) (by decide) (by rw [c2]; exact gw_736) (by rw [c2]; decide +kernel) (fun w2 => ?_)
      refine V_astore hC ([(4, .ref w2), (0, .ref (adr G 6 0)), (1, .int x1), (2, .int x2), (3, .ref (adr G 8 0))]) dL_revert_13 (by decide) rfl ?_
      refine V_iconst hC (1 : Int32) dL_revert_15 (by decide) ?_
      obtain ⟨rfl, rfl⟩ := Prod.mk.inj (Option.some.inj h)
      exact V_wiret hC hr hlk (by decide) (by decide) dL_revert_16
    have h := ite_f c2 h
    by_cases c3 : q1.1 = 2
    · have h := ite_t c3 h
      have hpre1 : ∀ z ∈ [((0, 10, 13, 13) : Nat × Nat × Nat × Nat)], z.2.2.2 ≠ 0 ∧ ∃ nm : String, Cond.classLink RL z.2.2.2 nm ∈ GL ∧ (xcls q1.1, nm) ∈ XN := by
        rw [c3]
        intro z hz
        rcases List.mem_cons.mp hz with rfl | hz
        · exact ⟨by decide, _, gw_736, by decide +kernel⟩
        exact nomatch hz
      refine V_catch hC hX htab (pre := [(0, 10, 13, 13)]) (suf := [(0, 10, 21, 15)]) rfl (by decide) (hpre1) (by decide) (by rw [c3]; exact gw_878) (by rw [c3]; decide +kernel) (fun w3 => ?_)
      refine V_astore hC ([(4, .ref w3), (0, .ref (adr G 6 0)), (1, .int x1), (2, .int x2), (3, .ref (adr G 8 0))]) dL_revert_17 (by decide) rfl ?_
      refine V_iconst hC (2 : Int32) dL_revert_19 (by decide) ?_
      obtain ⟨rfl, rfl⟩ := Prod.mk.inj (Option.some.inj h)
      exact V_wiret hC hr hlk (by decide) (by decide) dL_revert_20
    have h := ite_f c3 h
    by_cases c4 : q1.1 = 3
    · have h := ite_t c4 h
      have hpre2 : ∀ z ∈ [((0, 10, 13, 13) : Nat × Nat × Nat × Nat), ((0, 10, 17, 20) : Nat × Nat × Nat × Nat)], z.2.2.2 ≠ 0 ∧ ∃ nm : String, Cond.classLink RL z.2.2.2 nm ∈ GL ∧ (xcls q1.1, nm) ∈ XN := by
        rw [c4]
        intro z hz
        rcases List.mem_cons.mp hz with rfl | hz
        · exact ⟨by decide, _, gw_736, by decide +kernel⟩
        rcases List.mem_cons.mp hz with rfl | hz
        · exact ⟨by decide, _, gw_878, by decide +kernel⟩
        exact nomatch hz
      refine V_catch hC hX htab (pre := [(0, 10, 13, 13), (0, 10, 17, 20)]) (suf := []) rfl (by decide) (hpre2) (by decide) (by rw [c4]; exact gw_737) (by rw [c4]; decide +kernel) (fun w4 => ?_)
      refine V_astore hC ([(4, .ref w4), (0, .ref (adr G 6 0)), (1, .int x1), (2, .int x2), (3, .ref (adr G 8 0))]) dL_revert_21 (by decide) rfl ?_
      refine V_iconst hC (3 : Int32) dL_revert_23 (by decide) ?_
      obtain ⟨rfl, rfl⟩ := Prod.mk.inj (Option.some.inj h)
      exact V_wiret hC hr hlk (by decide) (by decide) dL_revert_24
    have h := ite_f c4 h
    cases h
theorem c_L_waitingAt {l : Launch} {G : Geo} {x1 : Int32} {x2 : Int32} {rv : Int32} {Mf : Mem} {M : Mem} (hlt : l.stackTraces = false) (hG : gD G) (h : f_L_waitingAt x1 x2 M = some (rv, Mf)) : Met l yL_waitingAt (.codeWith yL_waitingAt cL_waitingAt 5 (some .int) [(0, 10, 13, 13), (0, 10, 17, 20)] :: GL) (rmx 10) (gPx G [.ref (adr G 6 0), .int x1, .int x2, .ref (adr G 8 0)] M) (gQ G (some (.int rv)) Mf) 1 6 (gA G) := by
  refine WMet_of (own := RL) (L := [(0, .ref (adr G 6 0)), (1, .int x1), (2, .int x2), (3, .ref (adr G 8 0))]) hG (by decide +kernel) rfl (Nat.le_of_ble_eq_true rfl) rfl ?_
  intro p e s m args below meth c hC hX htab hr hlk
  refine V_aload_n hC dL_waitingAt_0 rfl 3 rfl ?_
  refine V_iconst hC (0 : Int32) dL_waitingAt_1 (by decide) ?_
  refine V_aload_n hC dL_waitingAt_2 rfl 0 rfl ?_
  refine V_iload_n hC dL_waitingAt_3 rfl 1 rfl ?_
  refine V_iload_n hC dL_waitingAt_4 rfl 2 rfl ?_
  obtain ⟨q1, e1, h⟩ := bind_some h
  refine V_xV hC hX [.int x1, .int x2] (c_X8_waitingAt (l := l) (k0 := q1.1) (rv := q1.2.1) (Mf := q1.2.2) hlt hC.2.2.2.2.2.2.2 e1) kd_X8_waitingAt kv_X8_waitingAt gw_1168 (r_s0_0).o rfl ⟨Nat.le_of_ble_eq_true rfl, Nat.le_of_ble_eq_true rfl⟩ rfl (Nat.le_of_ble_eq_true rfl) dL_waitingAt_5 ⟨by decide, by decide⟩ rfl (fun z1 => ?_) (fun z1 => ?_)
  · have h := ite_t z1 h
    refine V_i2l hC dL_waitingAt_8 ?_
    refine V_last hC rfl dL_waitingAt_9 ?_
    refine V_goto hC 21 dL_waitingAt_10 (by decide) ?_
    refine V_iconst hC (0 : Int32) dL_waitingAt_21 (by decide) ?_
    obtain ⟨rfl, rfl⟩ := Prod.mk.inj (Option.some.inj h)
    exact V_wiret hC hr hlk (by decide) (by decide) dL_waitingAt_22
  · have h := ite_f (Nat.ne_of_gt z1) h
    by_cases c2 : q1.1 = 1
    · have h := ite_t c2 h
      refine V_catch hC hX htab (pre := []) (suf := [(0, 10, 17, 20)]) rfl (by decide) (fun z hz => nomatch hz) (by decide) (by rw [c2]; exact gw_736) (by rw [c2]; decide +kernel) (fun w2 => ?_)
      refine V_astore hC ([(4, .ref w2), (0, .ref (adr G 6 0)), (1, .int x1), (2, .int x2), (3, .ref (adr G 8 0))]) dL_waitingAt_13 (by decide) rfl ?_
      refine V_iconst hC (1 : Int32) dL_waitingAt_15 (by decide) ?_
      obtain ⟨rfl, rfl⟩ := Prod.mk.inj (Option.some.inj h)
      exact V_wiret hC hr hlk (by decide) (by decide) dL_waitingAt_16
    have h := ite_f c2 h
    by_cases c3 : q1.1 = 2
    · have h := ite_t c3 h
      have hpre1 : ∀ z ∈ [((0, 10, 13, 13) : Nat × Nat × Nat × Nat)], z.2.2.2 ≠ 0 ∧ ∃ nm : String, Cond.classLink RL z.2.2.2 nm ∈ GL ∧ (xcls q1.1, nm) ∈ XN := by
        rw [c3]
        intro z hz
        rcases List.mem_cons.mp hz with rfl | hz
        · exact ⟨by decide, _, gw_736, by decide +kernel⟩
        exact nomatch hz
      refine V_catch hC hX htab (pre := [(0, 10, 13, 13)]) (suf := []) rfl (by decide) (hpre1) (by decide) (by rw [c3]; exact gw_878) (by rw [c3]; decide +kernel) (fun w3 => ?_)
      refine V_astore hC ([(4, .ref w3), (0, .ref (adr G 6 0)), (1, .int x1), (2, .int x2), (3, .ref (adr G 8 0))]) dL_waitingAt_17 (by decide) rfl ?_
      refine V_iconst hC (2 : Int32) dL_waitingAt_19 (by decide) ?_
      obtain ⟨rfl, rfl⟩ := Prod.mk.inj (Option.some.inj h)
      exact V_wiret hC hr hlk (by decide) (by decide) dL_waitingAt_20
    have h := ite_f c3 h
    cases h
theorem c_L_pass {l : Launch} {G : Geo} {x1 : Int32} {rv : Int32} {Mf : Mem} {M : Mem} (hlt : l.stackTraces = false) (hG : gD G) (h : f_L_pass x1 M = some (rv, Mf)) : Met l yL_pass (.codeWith yL_pass cL_pass 4 (some .int) [(0, 9, 12, 20)] :: GL) (rmx 10) (gPx G [.ref (adr G 6 0), .int x1, .ref (adr G 8 0)] M) (gQ G (some (.int rv)) Mf) 1 6 (gA G) := by
  refine WMet_of (own := RL) (L := [(0, .ref (adr G 6 0)), (1, .int x1), (2, .ref (adr G 8 0))]) hG (by decide +kernel) rfl (Nat.le_of_ble_eq_true rfl) rfl ?_
  intro p e s m args below meth c hC hX htab hr hlk
  refine V_aload_n hC dL_pass_0 rfl 2 rfl ?_
  refine V_iconst hC (0 : Int32) dL_pass_1 (by decide) ?_
  refine V_aload_n hC dL_pass_2 rfl 0 rfl ?_
  refine V_iload_n hC dL_pass_3 rfl 1 rfl ?_
  obtain ⟨q1, e1, h⟩ := bind_some h
  refine V_xV hC hX [.int x1] (c_X8_pass (l := l) (k0 := q1.1) (rv := q1.2.1) (Mf := q1.2.2) hlt hC.2.2.2.2.2.2.2 e1) kd_X8_pass kv_X8_pass gw_1176 (r_s0_0).o rfl ⟨Nat.le_of_ble_eq_true rfl, Nat.le_of_ble_eq_true rfl⟩ rfl (Nat.le_of_ble_eq_true rfl) dL_pass_4 ⟨by decide, by decide⟩ rfl (fun z1 => ?_) (fun z1 => ?_)
  · have h := ite_t z1 h
    refine V_i2l hC dL_pass_7 ?_
    refine V_last hC rfl dL_pass_8 ?_
    refine V_goto hC 15 dL_pass_9 (by decide) ?_
    refine V_iconst hC (0 : Int32) dL_pass_15 (by decide) ?_
    obtain ⟨rfl, rfl⟩ := Prod.mk.inj (Option.some.inj h)
    exact V_wiret hC hr hlk (by decide) (by decide) dL_pass_16
  · have h := ite_f (Nat.ne_of_gt z1) h
    by_cases c2 : q1.1 = 2
    · have h := ite_t c2 h
      refine V_catch hC hX htab (pre := []) (suf := []) rfl (by decide) (fun z hz => nomatch hz) (by decide) (by rw [c2]; exact gw_878) (by rw [c2]; decide +kernel) (fun w2 => ?_)
      refine V_astore_n hC ([(3, .ref w2), (0, .ref (adr G 6 0)), (1, .int x1), (2, .ref (adr G 8 0))]) dL_pass_12 rfl (by decide) rfl ?_
      refine V_iconst hC (1 : Int32) dL_pass_13 (by decide) ?_
      obtain ⟨rfl, rfl⟩ := Prod.mk.inj (Option.some.inj h)
      exact V_wiret hC hr hlk (by decide) (by decide) dL_pass_14
    have h := ite_f c2 h
    cases h
theorem c_L_useBits {l : Launch} {G : Geo} {x1 : Int32} {rv : Int32} {Mf : Mem} {M : Mem} (hlt : l.stackTraces = false) (hG : gD G) (h : f_L_useBits x1 M = some (rv, Mf)) : Met l yL_useBits (.codeWith yL_useBits cL_useBits 4 (some .int) [(0, 9, 12, 13)] :: GL) (rmx 10) (gPx G [.ref (adr G 6 0), .int x1, .ref (adr G 8 0)] M) (gQ G (some (.int rv)) Mf) 1 6 (gA G) := by
  refine WMet_of (own := RL) (L := [(0, .ref (adr G 6 0)), (1, .int x1), (2, .ref (adr G 8 0))]) hG (by decide +kernel) rfl (Nat.le_of_ble_eq_true rfl) rfl ?_
  intro p e s m args below meth c hC hX htab hr hlk
  refine V_aload_n hC dL_useBits_0 rfl 2 rfl ?_
  refine V_iconst hC (0 : Int32) dL_useBits_1 (by decide) ?_
  refine V_aload_n hC dL_useBits_2 rfl 0 rfl ?_
  refine V_iload_n hC dL_useBits_3 rfl 1 rfl ?_
  obtain ⟨q1, e1, h⟩ := bind_some h
  refine V_xV hC hX [.int x1] (c_X8_useBits (l := l) (k0 := q1.1) (rv := q1.2.1) (Mf := q1.2.2) hlt hC.2.2.2.2.2.2.2 e1) kd_X8_useBits kv_X8_useBits gw_1183 (r_s0_0).o rfl ⟨Nat.le_of_ble_eq_true rfl, Nat.le_of_ble_eq_true rfl⟩ rfl (Nat.le_of_ble_eq_true rfl) dL_useBits_4 ⟨by decide, by decide⟩ rfl (fun z1 => ?_) (fun z1 => ?_)
  · have h := ite_t z1 h
    refine V_i2l hC dL_useBits_7 ?_
    refine V_last hC rfl dL_useBits_8 ?_
    refine V_goto hC 15 dL_useBits_9 (by decide) ?_
    refine V_iconst hC (0 : Int32) dL_useBits_15 (by decide) ?_
    obtain ⟨rfl, rfl⟩ := Prod.mk.inj (Option.some.inj h)
    exact V_wiret hC hr hlk (by decide) (by decide) dL_useBits_16
  · have h := ite_f (Nat.ne_of_gt z1) h
    by_cases c2 : q1.1 = 1
    · have h := ite_t c2 h
      refine V_catch hC hX htab (pre := []) (suf := []) rfl (by decide) (fun z hz => nomatch hz) (by decide) (by rw [c2]; exact gw_736) (by rw [c2]; decide +kernel) (fun w2 => ?_)
      refine V_astore_n hC ([(3, .ref w2), (0, .ref (adr G 6 0)), (1, .int x1), (2, .ref (adr G 8 0))]) dL_useBits_12 rfl (by decide) rfl ?_
      refine V_iconst hC (1 : Int32) dL_useBits_13 (by decide) ?_
      obtain ⟨rfl, rfl⟩ := Prod.mk.inj (Option.some.inj h)
      exact V_wiret hC hr hlk (by decide) (by decide) dL_useBits_14
    have h := ite_f c2 h
    cases h
theorem c_L_append {l : Launch} {G : Geo} {x1 : Int32} {rv : Int32} {Mf : Mem} {M : Mem} (hlt : l.stackTraces = false) (hG : gD G) (h : f_L_append x1 M = some (rv, Mf)) : Met l yL_append (.codeWith yL_append cL_append 4 (some .int) [(0, 9, 12, 20), (0, 9, 15, 15)] :: GL) (rmx 10) (gPx G [.ref (adr G 6 0), .int x1, .ref (adr G 8 0)] M) (gQ G (some (.int rv)) Mf) 1 6 (gA G) := by
  refine WMet_of (own := RL) (L := [(0, .ref (adr G 6 0)), (1, .int x1), (2, .ref (adr G 8 0))]) hG (by decide +kernel) rfl (Nat.le_of_ble_eq_true rfl) rfl ?_
  intro p e s m args below meth c hC hX htab hr hlk
  refine V_aload_n hC dL_append_0 rfl 2 rfl ?_
  refine V_iconst hC (0 : Int32) dL_append_1 (by decide) ?_
  refine V_aload_n hC dL_append_2 rfl 0 rfl ?_
  refine V_iload_n hC dL_append_3 rfl 1 rfl ?_
  obtain ⟨q1, e1, h⟩ := bind_some h
  refine V_xV hC hX [.int x1] (c_X8_append (l := l) (k0 := q1.1) (rv := q1.2.1) (Mf := q1.2.2) hlt hC.2.2.2.2.2.2.2 e1) kd_X8_append kv_X8_append gw_1200 (r_s0_0).o rfl ⟨Nat.le_of_ble_eq_true rfl, Nat.le_of_ble_eq_true rfl⟩ rfl (Nat.le_of_ble_eq_true rfl) dL_append_4 ⟨by decide, by decide⟩ rfl (fun z1 => ?_) (fun z1 => ?_)
  · have h := ite_t z1 h
    refine V_i2l hC dL_append_7 ?_
    refine V_last hC rfl dL_append_8 ?_
    refine V_goto hC 18 dL_append_9 (by decide) ?_
    refine V_iconst hC (0 : Int32) dL_append_18 (by decide) ?_
    obtain ⟨rfl, rfl⟩ := Prod.mk.inj (Option.some.inj h)
    exact V_wiret hC hr hlk (by decide) (by decide) dL_append_19
  · have h := ite_f (Nat.ne_of_gt z1) h
    by_cases c2 : q1.1 = 2
    · have h := ite_t c2 h
      refine V_catch hC hX htab (pre := []) (suf := [(0, 9, 15, 15)]) rfl (by decide) (fun z hz => nomatch hz) (by decide) (by rw [c2]; exact gw_878) (by rw [c2]; decide +kernel) (fun w2 => ?_)
      refine V_astore_n hC ([(3, .ref w2), (0, .ref (adr G 6 0)), (1, .int x1), (2, .ref (adr G 8 0))]) dL_append_12 rfl (by decide) rfl ?_
      refine V_iconst hC (1 : Int32) dL_append_13 (by decide) ?_
      obtain ⟨rfl, rfl⟩ := Prod.mk.inj (Option.some.inj h)
      exact V_wiret hC hr hlk (by decide) (by decide) dL_append_14
    have h := ite_f c2 h
    by_cases c3 : q1.1 = 3
    · have h := ite_t c3 h
      have hpre1 : ∀ z ∈ [((0, 9, 12, 20) : Nat × Nat × Nat × Nat)], z.2.2.2 ≠ 0 ∧ ∃ nm : String, Cond.classLink RL z.2.2.2 nm ∈ GL ∧ (xcls q1.1, nm) ∈ XN := by
        rw [c3]
        intro z hz
        rcases List.mem_cons.mp hz with rfl | hz
        · exact ⟨by decide, _, gw_878, by decide +kernel⟩
        exact nomatch hz
      refine V_catch hC hX htab (pre := [(0, 9, 12, 20)]) (suf := []) rfl (by decide) (hpre1) (by decide) (by rw [c3]; exact gw_737) (by rw [c3]; decide +kernel) (fun w3 => ?_)
      refine V_astore_n hC ([(3, .ref w3), (0, .ref (adr G 6 0)), (1, .int x1), (2, .ref (adr G 8 0))]) dL_append_15 rfl (by decide) rfl ?_
      refine V_iconst hC (2 : Int32) dL_append_16 (by decide) ?_
      obtain ⟨rfl, rfl⟩ := Prod.mk.inj (Option.some.inj h)
      exact V_wiret hC hr hlk (by decide) (by decide) dL_append_17
    have h := ite_f c3 h
    cases h
theorem c_L_outline {l : Launch} {G : Geo} {x1 : Int32} {rv : Int32} {Mf : Mem} {M : Mem} (hlt : l.stackTraces = false) (hG : gD G) (h : f_L_outline x1 M = some (rv, Mf)) : Met l yL_outline (.codeWith yL_outline cL_outline 4 (some .int) [(0, 9, 12, 20)] :: GL) (rmx 29) (gPx G [.ref (adr G 6 0), .int x1, .ref (adr G 8 0)] M) (gQ G (some (.int rv)) Mf) 1 6 (gA G) := by
  refine WMet_of (own := RL) (L := [(0, .ref (adr G 6 0)), (1, .int x1), (2, .ref (adr G 8 0))]) hG (by decide +kernel) rfl (Nat.le_of_ble_eq_true rfl) rfl ?_
  intro p e s m args below meth c hC hX htab hr hlk
  refine V_aload_n hC dL_outline_0 rfl 2 rfl ?_
  refine V_iconst hC (0 : Int32) dL_outline_1 (by decide) ?_
  refine V_aload_n hC dL_outline_2 rfl 0 rfl ?_
  refine V_iload_n hC dL_outline_3 rfl 1 rfl ?_
  obtain ⟨q1, e1, h⟩ := bind_some h
  refine V_xV hC hX [.int x1] (c_X8_outline (l := l) (k0 := q1.1) (rv := q1.2.1) (Mf := q1.2.2) hlt hC.2.2.2.2.2.2.2 e1) kd_X8_outline kv_X8_outline gw_1211 (r_s0_0).o rfl ⟨Nat.le_of_ble_eq_true rfl, Nat.le_of_ble_eq_true rfl⟩ rfl (Nat.le_of_ble_eq_true rfl) dL_outline_4 ⟨by decide, by decide⟩ rfl (fun z1 => ?_) (fun z1 => ?_)
  · have h := ite_t z1 h
    refine V_i2l hC dL_outline_7 ?_
    refine V_last hC rfl dL_outline_8 ?_
    refine V_goto hC 15 dL_outline_9 (by decide) ?_
    refine V_iconst hC (0 : Int32) dL_outline_15 (by decide) ?_
    obtain ⟨rfl, rfl⟩ := Prod.mk.inj (Option.some.inj h)
    exact V_wiret hC hr hlk (by decide) (by decide) dL_outline_16
  · have h := ite_f (Nat.ne_of_gt z1) h
    by_cases c2 : q1.1 = 2
    · have h := ite_t c2 h
      refine V_catch hC hX htab (pre := []) (suf := []) rfl (by decide) (fun z hz => nomatch hz) (by decide) (by rw [c2]; exact gw_878) (by rw [c2]; decide +kernel) (fun w2 => ?_)
      refine V_astore_n hC ([(3, .ref w2), (0, .ref (adr G 6 0)), (1, .int x1), (2, .ref (adr G 8 0))]) dL_outline_12 rfl (by decide) rfl ?_
      refine V_iconst hC (1 : Int32) dL_outline_13 (by decide) ?_
      obtain ⟨rfl, rfl⟩ := Prod.mk.inj (Option.some.inj h)
      exact V_wiret hC hr hlk (by decide) (by decide) dL_outline_14
    have h := ite_f c2 h
    cases h
theorem c_L_undo {l : Launch} {G : Geo} {rv : Int32} {Mf : Mem} {M : Mem} (hlt : l.stackTraces = false) (hG : gD G) (h : f_L_undo M = some (rv, Mf)) : Met l yL_undo (.codeWith yL_undo cL_undo 3 (some .int) [(0, 8, 11, 15)] :: GL) (rmx 10) (gPx G [.ref (adr G 6 0), .ref (adr G 8 0)] M) (gQ G (some (.int rv)) Mf) 1 6 (gA G) := by
  refine WMet_of (own := RL) (L := [(0, .ref (adr G 6 0)), (1, .ref (adr G 8 0))]) hG (by decide +kernel) rfl (Nat.le_of_ble_eq_true rfl) rfl ?_
  intro p e s m args below meth c hC hX htab hr hlk
  refine V_aload_n hC dL_undo_0 rfl 1 rfl ?_
  refine V_iconst hC (0 : Int32) dL_undo_1 (by decide) ?_
  refine V_aload_n hC dL_undo_2 rfl 0 rfl ?_
  obtain ⟨q1, e1, h⟩ := bind_some h
  refine V_xV hC hX [] (c_X8_undo (l := l) (k0 := q1.1) (rv := q1.2.1) (Mf := q1.2.2) hlt hC.2.2.2.2.2.2.2 e1) kd_X8_undo kv_X8_undo gw_1237 (r_s0_0).o rfl ⟨Nat.le_of_ble_eq_true rfl, Nat.le_of_ble_eq_true rfl⟩ rfl (Nat.le_of_ble_eq_true rfl) dL_undo_3 ⟨by decide, by decide⟩ rfl (fun z1 => ?_) (fun z1 => ?_)
  · have h := ite_t z1 h
    refine V_i2l hC dL_undo_6 ?_
    refine V_last hC rfl dL_undo_7 ?_
    refine V_goto hC 14 dL_undo_8 (by decide) ?_
    refine V_iconst hC (0 : Int32) dL_undo_14 (by decide) ?_
    obtain ⟨rfl, rfl⟩ := Prod.mk.inj (Option.some.inj h)
    exact V_wiret hC hr hlk (by decide) (by decide) dL_undo_15
  · have h := ite_f (Nat.ne_of_gt z1) h
    by_cases c2 : q1.1 = 3
    · have h := ite_t c2 h
      refine V_catch hC hX htab (pre := []) (suf := []) rfl (by decide) (fun z hz => nomatch hz) (by decide) (by rw [c2]; exact gw_737) (by rw [c2]; decide +kernel) (fun w2 => ?_)
      refine V_astore_n hC ([(2, .ref w2), (0, .ref (adr G 6 0)), (1, .ref (adr G 8 0))]) dL_undo_11 rfl (by decide) rfl ?_
      refine V_iconst hC (1 : Int32) dL_undo_12 (by decide) ?_
      obtain ⟨rfl, rfl⟩ := Prod.mk.inj (Option.some.inj h)
      exact V_wiret hC hr hlk (by decide) (by decide) dL_undo_13
    have h := ite_f c2 h
    cases h
end
