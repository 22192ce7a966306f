section
variable {p : Program} {l : Launch} {e : Env} {s : State} {m : MethodId} {args : Array Value} {below : List Frame} {meth : Method} {c : Code} {G : Geo}
theorem c0_X8_refuseFor {l : Launch} {G : Geo} {x0 : Int32} {M Mf : Mem} (hG : gD G) (h : f0_X8_refuseFor x0 M = some Mf) : Met l yX8_refuseFor (.code yX8_refuseFor cX8_refuseFor 1 none :: GL) (rmk 0) (gP G [.int x0] M) (gQ G none Mf) 0 0 (gA G) := by
  obtain ⟨c0, h⟩ := ite_some h
  obtain rfl := Option.some.inj h
  have c1 : ¬ x0 = 1 := fun z => by rw [z] at c0; exact absurd c0 (by decide)
  have c2 : ¬ x0 = 2 := fun z => by rw [z] at c0; exact absurd c0 (by decide)
  have c3 : ¬ x0 = 3 := fun z => by rw [z] at c0; exact absurd c0 (by decide)
  refine Met_of (own := RX8) (L := [(0, .int x0)]) hG (by decide +kernel) rfl (Nat.le_of_ble_eq_true rfl) rfl ?_
  intro p e s m args below meth c hC hr hlk
  refine V_iload_n hC dX8_refuseFor_0 rfl 0 rfl ?_
  refine V_tableOut hC 61 dX8_refuseFor_1 (tsw_out (1) 3 x0 (tsw_cons c1 (by decide) (tsw_cons c2 (by decide) (tsw_cons c3 (by decide) (tsw_nil)))) rfl) (by decide) ?_
  exact V_vret hC hr hlk dX8_refuseFor_61
theorem c0_X8_entry {l : Launch} {G : Geo} {x1 : Int32} {x2 : Int32} {rv : Int32} {Mf : Mem} {M : Mem} (hG : gD G) (h : f0_X8_entry x1 x2 M = some (rv, Mf)) : Met l yX8_entry (.code yX8_entry cX8_entry 4 (some .int) :: GL) (rmk 2) (gP G [.ref (adr G 6 0), .int x1, .int x2] M) (gQ G (some (.int rv)) Mf) 0 0 (gA G) := by
  refine Met_of (own := RX8) (L := [(0, .ref (adr G 6 0)), (1, .int x1), (2, .int x2)]) hG (by decide +kernel) rfl (Nat.le_of_ble_eq_true rfl) rfl ?_
  intro p e s m args below meth c hC hr hlk
  refine V_iload_n hC dX8_entry_0 rfl 1 rfl ?_
  refine V_iconst hC (0 : Int32) dX8_entry_1 (by decide) ?_
  refine V_aload_n hC dX8_entry_2 rfl 0 rfl ?_
  refine V_getR hC (r_s0_0) fw_X8_12 dX8_entry_3 ?_
  refine V_getR hC (r_d0_3 (by decide)) fw_X8_234 dX8_entry_6 ?_
  refine V_getI hC (f_d14_2 (by decide)) fw_X8_238 dX8_entry_9 ?_
  refine V_iconst hC (1 : Int32) dX8_entry_12 (by decide) ?_
  refine V_isub hC dX8_entry_13 ?_
  refine V_cSr hC [.int x1, .int (0 : Int32), .int ((M.1 0 14 2) - (1 : Int32))] (c_X8_isWithin (l := l) hC.2.2.2.2.2.2.2 rfl) kd_X8_isWithin gw_444 gw_456 ⟨Nat.le_of_ble_eq_true rfl, Nat.le_of_ble_eq_true rfl⟩ rfl (Nat.le_of_ble_eq_true rfl) dX8_entry_14 ⟨Nat.zero_le _, Nat.zero_le _⟩ rfl ?_
  refine V_istore_n hC ([(3, .int (f_X8_isWithin x1 (0 : Int32) ((M.1 0 14 2) - (1 : Int32)))), (0, .ref (adr G 6 0)), (1, .int x1), (2, .int x2)]) dX8_entry_17 rfl (by decide) rfl ?_
  refine V_iload_n hC dX8_entry_18 rfl 0 rfl ?_
  refine V_iload_n hC dX8_entry_19 rfl 3 rfl ?_
  refine V_iconst hC (0 : Int32) dX8_entry_20 (by decide) ?_
  refine V_iconst hC (5 : Int32) dX8_entry_21 (by decide) ?_
  refine V_cSr hC [.int x2, .int (0 : Int32), .int (5 : Int32)] (c_X8_isWithin (l := l) hC.2.2.2.2.2.2.2 rfl) kd_X8_isWithin gw_444 gw_456 ⟨Nat.le_of_ble_eq_true rfl, Nat.le_of_ble_eq_true rfl⟩ rfl (Nat.le_of_ble_eq_true rfl) dX8_entry_22 ⟨Nat.zero_le _, Nat.zero_le _⟩ rfl ?_
  refine V_iconst hC (1 : Int32) dX8_entry_25 (by decide) ?_
  refine V_cSr hC [.int (f_X8_isWithin x1 (0 : Int32) ((M.1 0 14 2) - (1 : Int32))), .int (f_X8_isWithin x2 (0 : Int32) (5 : Int32)), .int (1 : Int32)] (c_X8_faultOf (l := l) hC.2.2.2.2.2.2.2 rfl) kd_X8_faultOf gw_289 gw_916 ⟨Nat.le_of_ble_eq_true rfl, Nat.le_of_ble_eq_true rfl⟩ rfl (Nat.le_of_ble_eq_true rfl) dX8_entry_26 ⟨Nat.zero_le _, Nat.zero_le _⟩ rfl ?_
  obtain ⟨q4, e4, h⟩ := bind_some h
  refine V_cSv hC [.int (f_X8_faultOf (f_X8_isWithin x1 (0 : Int32) ((M.1 0 14 2) - (1 : Int32))) (f_X8_isWithin x2 (0 : Int32) (5 : Int32)) (1 : Int32))] (c0_X8_refuseFor (l := l) hC.2.2.2.2.2.2.2 e4) kd_X8_refuseFor gw_292 gw_291 ⟨Nat.le_of_ble_eq_true rfl, Nat.le_of_ble_eq_true rfl⟩ rfl (Nat.le_of_ble_eq_true rfl) dX8_entry_29 ⟨Nat.zero_le _, Nat.zero_le _⟩ rfl ?_
  refine V_aload_n hC dX8_entry_32 rfl 1 rfl ?_
  refine V_getR hC (r_s0_0) fw_X8_12 dX8_entry_33 ?_
  refine V_getR hC (r_d0_3 (by decide)) fw_X8_234 dX8_entry_36 ?_
  refine V_iload_n hC dX8_entry_39 rfl 2 rfl ?_
  refine V_iload_n hC dX8_entry_40 rfl 3 rfl ?_
  obtain ⟨q5, e5, h⟩ := bind_some h
  refine V_cVr hC [.int x1, .int x2] (c_X2_fact (l := l) hC.2.2.2.2.2.2.2 (by decide) e5) kd_X2_fact kv_X2_fact gw_1110 (r_d14_0 (by decide)).o rfl ⟨Nat.le_of_ble_eq_true rfl, Nat.le_of_ble_eq_true rfl⟩ rfl (Nat.le_of_ble_eq_true rfl) dX8_entry_41 ⟨Nat.zero_le _, Nat.zero_le _⟩ rfl ?_
  obtain ⟨rfl, rfl⟩ := Prod.mk.inj (Option.some.inj h)
  exact V_iret hC hr hlk dX8_entry_44
theorem c0_X8_line {l : Launch} {G : Geo} {x1 : Int32} {x2 : Int32} {rv : Int32} {Mf : Mem} {M : Mem} (hG : gD G) (h : f0_X8_line x1 x2 M = some (rv, Mf)) : Met l yX8_line (.code yX8_line cX8_line 3 (some .int) :: GL) (rmk 3) (gP G [.ref (adr G 6 0), .int x1, .int x2] M) (gQ G (some (.int rv)) Mf) 0 0 (gA G) := by
  refine Met_of (own := RX8) (L := [(0, .ref (adr G 6 0)), (1, .int x1), (2, .int x2)]) hG (by decide +kernel) rfl (Nat.le_of_ble_eq_true rfl) rfl ?_
  intro p e s m args below meth c hC hr hlk
  refine V_aload_n hC dX8_line_0 rfl 0 rfl ?_
  refine V_getR hC (r_s0_0) fw_X8_12 dX8_line_1 ?_
  refine V_iload_n hC dX8_line_4 rfl 1 rfl ?_
  refine V_iload_n hC dX8_line_5 rfl 2 rfl ?_
  obtain ⟨q1, e1, h⟩ := bind_some h
  refine V_cVr hC [.int x1, .int x2] (c_X1_hasLine (l := l) hC.2.2.2.2.2.2.2 (by decide) e1) kd_X1_hasLine kv_X1_hasLine gw_999 (r_d0_0 (by decide)).o rfl ⟨Nat.le_of_ble_eq_true rfl, Nat.le_of_ble_eq_true rfl⟩ rfl (Nat.le_of_ble_eq_true rfl) dX8_line_6 ⟨Nat.zero_le _, Nat.zero_le _⟩ rfl ?_
  refine V_iconst hC (1 : Int32) dX8_line_9 (by decide) ?_
  refine V_iconst hC (1 : Int32) dX8_line_10 (by decide) ?_
  refine V_cSr hC [.int q1, .int (1 : Int32), .int (1 : Int32)] (c_X8_faultOf (l := l) hC.2.2.2.2.2.2.2 rfl) kd_X8_faultOf gw_289 gw_916 ⟨Nat.le_of_ble_eq_true rfl, Nat.le_of_ble_eq_true rfl⟩ rfl (Nat.le_of_ble_eq_true rfl) dX8_line_11 ⟨Nat.zero_le _, Nat.zero_le _⟩ rfl ?_
  obtain ⟨q3, e3, h⟩ := bind_some h
  refine V_cSv hC [.int (f_X8_faultOf q1 (1 : Int32) (1 : Int32))] (c0_X8_refuseFor (l := l) hC.2.2.2.2.2.2.2 e3) kd_X8_refuseFor gw_292 gw_291 ⟨Nat.le_of_ble_eq_true rfl, Nat.le_of_ble_eq_true rfl⟩ rfl (Nat.le_of_ble_eq_true rfl) dX8_line_14 ⟨Nat.zero_le _, Nat.zero_le _⟩ rfl ?_
  refine V_aload_n hC dX8_line_17 rfl 0 rfl ?_
  refine V_getR hC (r_s0_0) fw_X8_12 dX8_line_18 ?_
  refine V_getR hC (r_d0_0 (by decide)) fw_X8_52 dX8_line_21 ?_
  refine V_iload_n hC dX8_line_24 rfl 1 rfl ?_
  refine V_iload_n hC dX8_line_25 rfl 2 rfl ?_
  refine V_cSr hC [.int x1, .int x2] (c_X8_cellOf (l := l) hC.2.2.2.2.2.2.2 rfl) kd_X8_cellOf gw_447 gw_1000 ⟨Nat.le_of_ble_eq_true rfl, Nat.le_of_ble_eq_true rfl⟩ rfl (Nat.le_of_ble_eq_true rfl) dX8_line_26 ⟨Nat.zero_le _, Nat.zero_le _⟩ rfl ?_
  obtain ⟨q5, e5, h⟩ := bind_some h
  refine V_cVr hC [.int (f_X8_cellOf x1 x2)] (c_X7_valueAt (l := l) hC.2.2.2.2.2.2.2 (by decide) e5) kd_X7_valueAt kv_X7_valueAt gw_1001 (r_d1_0 (by decide)).o rfl ⟨Nat.le_of_ble_eq_true rfl, Nat.le_of_ble_eq_true rfl⟩ rfl (Nat.le_of_ble_eq_true rfl) dX8_line_29 ⟨Nat.zero_le _, Nat.zero_le _⟩ rfl ?_
  obtain ⟨rfl, rfl⟩ := Prod.mk.inj (Option.some.inj h)
  exact V_iret hC hr hlk dX8_line_32
theorem c0_X8_blame {l : Launch} {G : Geo} {x1 : Int32} {x2 : Int32} {rv : Int32} {Mf : Mem} {M : Mem} (hG : gD G) (h : f0_X8_blame x1 x2 M = some (rv, Mf)) : Met l yX8_blame (.code yX8_blame cX8_blame 3 (some .int) :: GL) (rmk 3) (gP G [.ref (adr G 6 0), .int x1, .int x2] M) (gQ G (some (.int rv)) Mf) 0 0 (gA G) := by
  refine Met_of (own := RX8) (L := [(0, .ref (adr G 6 0)), (1, .int x1), (2, .int x2)]) hG (by decide +kernel) rfl (Nat.le_of_ble_eq_true rfl) rfl ?_
  intro p e s m args below meth c hC hr hlk
  refine V_aload_n hC dX8_blame_0 rfl 0 rfl ?_
  refine V_getR hC (r_s0_0) fw_X8_12 dX8_blame_1 ?_
  refine V_iload_n hC dX8_blame_4 rfl 1 rfl ?_
  refine V_iload_n hC dX8_blame_5 rfl 2 rfl ?_
  obtain ⟨q1, e1, h⟩ := bind_some h
  refine V_cVr hC [.int x1, .int x2] (c_X1_hasLine (l := l) hC.2.2.2.2.2.2.2 (by decide) e1) kd_X1_hasLine kv_X1_hasLine gw_999 (r_d0_0 (by decide)).o rfl ⟨Nat.le_of_ble_eq_true rfl, Nat.le_of_ble_eq_true rfl⟩ rfl (Nat.le_of_ble_eq_true rfl) dX8_blame_6 ⟨Nat.zero_le _, Nat.zero_le _⟩ rfl ?_
  refine V_iconst hC (1 : Int32) dX8_blame_9 (by decide) ?_
  refine V_iconst hC (1 : Int32) dX8_blame_10 (by decide) ?_
  refine V_cSr hC [.int q1, .int (1 : Int32), .int (1 : Int32)] (c_X8_faultOf (l := l) hC.2.2.2.2.2.2.2 rfl) kd_X8_faultOf gw_289 gw_916 ⟨Nat.le_of_ble_eq_true rfl, Nat.le_of_ble_eq_true rfl⟩ rfl (Nat.le_of_ble_eq_true rfl) dX8_blame_11 ⟨Nat.zero_le _, Nat.zero_le _⟩ rfl ?_
  obtain ⟨q3, e3, h⟩ := bind_some h
  refine V_cSv hC [.int (f_X8_faultOf q1 (1 : Int32) (1 : Int32))] (c0_X8_refuseFor (l := l) hC.2.2.2.2.2.2.2 e3) kd_X8_refuseFor gw_292 gw_291 ⟨Nat.le_of_ble_eq_true rfl, Nat.le_of_ble_eq_true rfl⟩ rfl (Nat.le_of_ble_eq_true rfl) dX8_blame_14 ⟨Nat.zero_le _, Nat.zero_le _⟩ rfl ?_
  refine V_aload_n hC dX8_blame_17 rfl 0 rfl ?_
  refine V_getR hC (r_s0_0) fw_X8_12 dX8_blame_18 ?_
  refine V_getR hC (r_d0_3 (by decide)) fw_X8_234 dX8_blame_21 ?_
  refine V_iload_n hC dX8_blame_24 rfl 1 rfl ?_
  refine V_iload_n hC dX8_blame_25 rfl 2 rfl ?_
  obtain ⟨q4, e4, h⟩ := bind_some h
  refine V_cVr hC [.int x1, .int x2] (c_X2_latestUserOf (l := l) hC.2.2.2.2.2.2.2 (by decide) e4) kd_X2_latestUserOf kv_X2_latestUserOf gw_1118 (r_d14_0 (by decide)).o rfl ⟨Nat.le_of_ble_eq_true rfl, Nat.le_of_ble_eq_true rfl⟩ rfl (Nat.le_of_ble_eq_true rfl) dX8_blame_26 ⟨Nat.zero_le _, Nat.zero_le _⟩ rfl ?_
  obtain ⟨rfl, rfl⟩ := Prod.mk.inj (Option.some.inj h)
  exact V_iret hC hr hlk dX8_blame_29
theorem c0_L_entry {l : Launch} {G : Geo} {x1 : Int32} {x2 : Int32} {rv : Int32} {Mf : Mem} {M : Mem} (hlt : l.stackTraces = false) (hG : gD G) (h : f0_L_entry x1 x2 M = some (rv, Mf)) : Met l yL_entry (.codeWith yL_entry cL_entry 5 (some .int) [(0, 7, 10, 15), (0, 7, 15, 22)] :: GL) (rmk 3) (gPx G [.ref (adr G 6 0), .int x1, .int x2] M) (gQ G (some (.int rv)) Mf) 0 0 (gA G) := by
  refine W0Met_of (own := RL) (L := [(0, .ref (adr G 6 0)), (1, .int x1), (2, .int x2)]) hG (by decide +kernel) rfl (Nat.le_of_ble_eq_true rfl) rfl ?_
  intro p e s m args below meth c hC hX htab hr hlk
  refine V_aload_n hC dL_entry_0 rfl 0 rfl ?_
  refine V_iload_n hC dL_entry_1 rfl 1 rfl ?_
  refine V_iload_n hC dL_entry_2 rfl 2 rfl ?_
  obtain ⟨q1, e1, h⟩ := bind_some h
  refine V_cVr hC [.int x1, .int x2] (c0_X8_entry (l := l) (rv := q1.1) (Mf := q1.2) hC.2.2.2.2.2.2.2 e1) kd_X8_entry kv_X8_entry gw_1106 (r_s0_0).o rfl ⟨Nat.le_of_ble_eq_true rfl, Nat.le_of_ble_eq_true rfl⟩ rfl (Nat.le_of_ble_eq_true rfl) dL_entry_3 ⟨Nat.zero_le _, Nat.zero_le _⟩ rfl ?_
  refine V_istore_n hC ([(3, .int q1.1), (0, .ref (adr G 6 0)), (1, .int x1), (2, .int x2)]) dL_entry_6 rfl (by decide) rfl ?_
  refine V_goto hC 20 dL_entry_7 (by decide) ?_
  refine V_iload_n hC dL_entry_20 rfl 0 rfl ?_
  obtain ⟨rfl, rfl⟩ := Prod.mk.inj (Option.some.inj h)
  exact V_iret hC hr hlk dL_entry_21
theorem c0_L_line {l : Launch} {G : Geo} {x1 : Int32} {x2 : Int32} {rv : Int32} {Mf : Mem} {M : Mem} (hlt : l.stackTraces = false) (hG : gD G) (h : f0_L_line x1 x2 M = some (rv, Mf)) : Met l yL_line (.codeWith yL_line cL_line 5 (some .int) [(0, 7, 10, 15)] :: GL) (rmk 4) (gPx G [.ref (adr G 6 0), .int x1, .int x2] M) (gQ G (some (.int rv)) Mf) 0 0 (gA G) := by
  refine W0Met_of (own := RL) (L := [(0, .ref (adr G 6 0)), (1, .int x1), (2, .int x2)]) hG (by decide +kernel) rfl (Nat.le_of_ble_eq_true rfl) rfl ?_
  intro p e s m args below meth c hC hX htab hr hlk
  refine V_aload_n hC dL_line_0 rfl 0 rfl ?_
  refine V_iload_n hC dL_line_1 rfl 1 rfl ?_
  refine V_iload_n hC dL_line_2 rfl 2 rfl ?_
  obtain ⟨q1, e1, h⟩ := bind_some h
  refine V_cVr hC [.int x1, .int x2] (c0_X8_line (l := l) (rv := q1.1) (Mf := q1.2) hC.2.2.2.2.2.2.2 e1) kd_X8_line kv_X8_line gw_995 (r_s0_0).o rfl ⟨Nat.le_of_ble_eq_true rfl, Nat.le_of_ble_eq_true rfl⟩ rfl (Nat.le_of_ble_eq_true rfl) dL_line_3 ⟨Nat.zero_le _, Nat.zero_le _⟩ rfl ?_
  refine V_istore_n hC ([(3, .int q1.1), (0, .ref (adr G 6 0)), (1, .int x1), (2, .int x2)]) dL_line_6 rfl (by decide) rfl ?_
  refine V_goto hC 15 dL_line_7 (by decide) ?_
  refine V_iload_n hC dL_line_15 rfl 0 rfl ?_
  obtain ⟨rfl, rfl⟩ := Prod.mk.inj (Option.some.inj h)
  exact V_iret hC hr hlk dL_line_16
theorem c0_L_blame {l : Launch} {G : Geo} {x1 : Int32} {x2 : Int32} {rv : Int32} {Mf : Mem} {M : Mem} (hlt : l.stackTraces = false) (hG : gD G) (h : f0_L_blame x1 x2 M = some (rv, Mf)) : Met l yL_blame (.codeWith yL_blame cL_blame 5 (some .int) [(0, 7, 10, 15)] :: GL) (rmk 4) (gPx G [.ref (adr G 6 0), .int x1, .int x2] M) (gQ G (some (.int rv)) Mf) 0 0 (gA G) := by
  refine W0Met_of (own := RL) (L := [(0, .ref (adr G 6 0)), (1, .int x1), (2, .int x2)]) hG (by decide +kernel) rfl (Nat.le_of_ble_eq_true rfl) rfl ?_
  intro p e s m args below meth c hC hX htab hr hlk
  refine V_aload_n hC dL_blame_0 rfl 0 rfl ?_
  refine V_iload_n hC dL_blame_1 rfl 1 rfl ?_
  refine V_iload_n hC dL_blame_2 rfl 2 rfl ?_
  obtain ⟨q1, e1, h⟩ := bind_some h
  refine V_cVr hC [.int x1, .int x2] (c0_X8_blame (l := l) (rv := q1.1) (Mf := q1.2) hC.2.2.2.2.2.2.2 e1) kd_X8_blame kv_X8_blame gw_1114 (r_s0_0).o rfl ⟨Nat.le_of_ble_eq_true rfl, Nat.le_of_ble_eq_true rfl⟩ rfl (Nat.le_of_ble_eq_true rfl) dL_blame_3 ⟨Nat.zero_le _, Nat.zero_le _⟩ rfl ?_
  refine V_istore_n hC ([(3, .int q1.1), (0, .ref (adr G 6 0)), (1, .int x1), (2, .int x2)]) dL_blame_6 rfl (by decide) rfl ?_
  refine V_goto hC 15 dL_blame_7 (by decide) ?_
  refine V_iload_n hC dL_blame_15 rfl 0 rfl ?_
  obtain ⟨rfl, rfl⟩ := Prod.mk.inj (Option.some.inj h)
  exact V_iret hC hr hlk dL_blame_16
theorem c_L_low {l : Launch} {G : Geo} {x0 : Int32} {x1 : Int32} {rv : Int32} {M : Mem} (hG : gD G) (h : f_L_low x0 x1 = some rv) : Met l yL_low (.code yL_low cL_low 2 (some .int) :: GL) (rmk 0) (gP G [.int x0, .int x1] M) (gQ G (some (.int rv)) M) 0 0 (gA G) := by
  refine Met_of (own := RL) (L := [(0, .int x0), (1, .int x1)]) hG (by decide +kernel) rfl (Nat.le_of_ble_eq_true rfl) rfl ?_
  intro p e s m args below meth c hC hr hlk
  refine V_iload_n hC dL_low_0 rfl 0 rfl ?_
  refine V_ldc hC (2147483647 : Int32) dL_low_1 gw_234 ?_
  refine V_iand hC dL_low_3 ?_
  refine V_iload_n hC dL_low_4 rfl 1 rfl ?_
  obtain ⟨c1, h⟩ := ite_some h
  refine V_irem hC dL_low_5 c1 ?_
  obtain rfl := Option.some.inj h
  exact V_iret hC hr hlk dL_low_6
set_option maxRecDepth 100000 in
set_option maxHeartbeats 8000000 in
theorem l_L_print_281 {rv : Int64} {Mf : Mem} (hC : Cx p s m args c cL_print RL 5 G) (hr : meth.sig.returnType = some .long) (hlk : meth.locks = false) (hX : XF G s) (hlt : l.stackTraces = false) : ∀ (n : Nat) {u : Nat} {x1 : Int64} {x3 : Int32} {M : Mem} (hu : u + (1 * n + (0)) ≤ 451) (h : L_L_print_281 n x1 x3 M = some (rv, Mf)), V p l e (rmc 11 451) s m args below meth c 5 G (u) (6 * (u)) (MQ below (gQ G (some (.long rv)) Mf) args s 451 (6 * 451) (gA G)) 281 [(0, .ref (adr G 6 0)), (1, .long x1), (3, .int x3)] [] M := by
  intro n
  induction n with
  | zero => intro u x1 x3 M hu h; cases h
  | succ n ih =>
    intro u x1 x3 M hu h
    rw [Nat.mul_succ] at hu
    obtain ⟨v281, ev281⟩ : ∃ v, v = 1 * n + (0) := ⟨_, rfl⟩
    have hv281 : 0 ≤ v281 := by rw [ev281]; exact Nat.le_add_left _ _
    have hk281 : ∀ (u : Nat) (x1 : Int64) (x3 : Int32) (M : Mem), u + v281 ≤ 451 → L_L_print_281 n x1 x3 M = some (rv, Mf) → V p l e (rmc 11 451) s m args below meth c 5 G (u) (6 * (u)) (MQ below (gQ G (some (.long rv)) Mf) args s 451 (6 * 451) (gA G)) 281 [(0, .ref (adr G 6 0)), (1, .long x1), (3, .int x3)] [] M := fun _ _ _ _ hw z => ih (by rw [← ev281]; exact hw) z
    have hu : u + 1 + v281 ≤ 451 := bud hu ev281
    clear ih ev281
    refine V_iload_n hC dL_print_281 rfl 2 rfl ?_
    refine V_bipush hC (6 : Int32) dL_print_282 (by decide) ?_
    refine V_icmp_ge hC 306 dL_print_284 (by decide) (fun c7 => ?_) (fun c7 => ?_)
    · have h := ite_t c7 h
      refine V_lload_n hC dL_print_306 rfl 1 rfl ?_
      obtain ⟨rfl, rfl⟩ := Prod.mk.inj (Option.some.inj h)
      exact V_plret hC hr hlk (by omega) (by omega) dL_print_307
    · have h := ite_f c7 h
      refine V_ldc2 hC (31 : Int64) dL_print_287 gw_963 ?_
      refine V_lload_n hC dL_print_290 rfl 1 rfl ?_
      refine V_lmul hC dL_print_291 ?_
      refine V_aload_n hC dL_print_292 rfl 0 rfl ?_
      refine V_iload_n hC dL_print_293 rfl 2 rfl ?_
      obtain ⟨q8, e8, h⟩ := bind_some h
      refine V_cW hC hX [.ref (adr G 6 0), .int x3] (c_L_useBits (l := l) (rv := q8.1) (Mf := q8.2) hlt hC.2.2.2.2.2.2.2 e8) kx_L_useBits gw_1045 gw_1044 ⟨Nat.le_of_ble_eq_true rfl, Nat.le_of_ble_eq_true rfl⟩ rfl (Nat.le_of_ble_eq_true rfl) dL_print_294 ⟨by show _ ≤ 451; omega, by show _ ≤ 6 * 451; omega⟩ rfl ?_
      refine V_i2l hC dL_print_297 ?_
      refine V_ladd hC dL_print_298 ?_
      refine V_lstore_n hC ([(1, .long (((31 : Int64) * x1) + (q8.1).toInt64)), (0, .ref (adr G 6 0)), (3, .int x3)]) dL_print_299 rfl (by decide) rfl ?_
      refine V_iinc hC (x3 + 1) ([(3, .int (x3 + 1)), (1, .long (((31 : Int64) * x1) + (q8.1).toInt64)), (0, .ref (adr G 6 0))]) dL_print_300 2 rfl rfl (by decide) rfl ?_
      refine V_goto hC 281 dL_print_303 (by decide) ?_
      refine V_sub [2, 1, 0] rfl ?_
      refine V_widen (k := u + 1) (n := 6 * (u + 1)) (by omega) (by omega) ?_
      exact hk281 _ _ _ _ (by omega) h
set_option maxRecDepth 100000 in
set_option maxHeartbeats 8000000 in
theorem l_L_print_229 {rv : Int64} {Mf : Mem} (hC : Cx p s m args c cL_print RL 5 G) (hr : meth.sig.returnType = some .long) (hlk : meth.locks = false) (hX : XF G s) (hlt : l.stackTraces = false) : ∀ (n : Nat) {u : Nat} {x1 : Int64} {x3 : Int32} {M : Mem} (hu : u + (3 * n + (7)) ≤ 451) (h : L_L_print_229 n x1 x3 M = some (rv, Mf)), V p l e (rmc 11 451) s m args below meth c 5 G (u) (6 * (u)) (MQ below (gQ G (some (.long rv)) Mf) args s 451 (6 * 451) (gA G)) 229 [(0, .ref (adr G 6 0)), (1, .long x1), (3, .int x3)] [] M := by
  intro n
  induction n with
  | zero => intro u x1 x3 M hu h; cases h
  | succ n ih =>
    intro u x1 x3 M hu h
    rw [Nat.mul_succ] at hu
    obtain ⟨v229, ev229⟩ : ∃ v, v = 3 * n + (7) := ⟨_, rfl⟩
    have hv229 : 7 ≤ v229 := by rw [ev229]; exact Nat.le_add_left _ _
    have hk229 : ∀ (u : Nat) (x1 : Int64) (x3 : Int32) (M : Mem), u + v229 ≤ 451 → L_L_print_229 n x1 x3 M = some (rv, Mf) → V p l e (rmc 11 451) s m args below meth c 5 G (u) (6 * (u)) (MQ below (gQ G (some (.long rv)) Mf) args s 451 (6 * 451) (gA G)) 229 [(0, .ref (adr G 6 0)), (1, .long x1), (3, .int x3)] [] M := fun _ _ _ _ hw z => ih (by rw [← ev229]; exact hw) z
    have hu : u + 3 + v229 ≤ 451 := bud hu ev229
    clear ih ev229
    refine V_iload_n hC dL_print_229 rfl 2 rfl ?_
    refine V_bipush hC (8 : Int32) dL_print_230 (by decide) ?_
    refine V_icmp_ge hC 279 dL_print_232 (by decide) (fun c6 => ?_) (fun c6 => ?_)
    · have h := ite_t c6 h
      refine V_iconst hC (0 : Int32) dL_print_279 (by decide) ?_
      refine V_istore_n hC ([(3, .int (0 : Int32)), (0, .ref (adr G 6 0)), (1, .long x1)]) dL_print_280 rfl (by decide) rfl ?_
      refine V_sub [1, 2, 0] rfl ?_
      refine V_widen (k := u + 0) (n := 6 * (u + 0)) (by omega) (by omega) ?_
      exact l_L_print_281 hC hr hlk hX hlt 7 (by omega) h
    · have h := ite_f c6 h
      refine V_ldc2 hC (31 : Int64) dL_print_235 gw_963 ?_
      refine V_ldc2 hC (31 : Int64) dL_print_238 gw_963 ?_
      refine V_ldc2 hC (31 : Int64) dL_print_241 gw_963 ?_
      refine V_lload_n hC dL_print_244 rfl 1 rfl ?_
      refine V_lmul hC dL_print_245 ?_
      refine V_aload_n hC dL_print_246 rfl 0 rfl ?_
      refine V_iload_n hC dL_print_247 rfl 2 rfl ?_
      refine V_iconst hC (0 : Int32) dL_print_248 (by decide) ?_
      obtain ⟨q9, e9, h⟩ := bind_some h
      refine V_cW hC hX [.ref (adr G 6 0), .int x3, .int (0 : Int32)] (c_L_waitingAt (l := l) (rv := q9.1) (Mf := q9.2) hlt hC.2.2.2.2.2.2.2 e9) kx_L_waitingAt gw_1037 gw_1036 ⟨Nat.le_of_ble_eq_true rfl, Nat.le_of_ble_eq_true rfl⟩ rfl (Nat.le_of_ble_eq_true rfl) dL_print_249 ⟨by show _ ≤ 451; omega, by show _ ≤ 6 * 451; omega⟩ rfl ?_
      refine V_i2l hC dL_print_252 ?_
      refine V_ladd hC dL_print_253 ?_
      refine V_lmul hC dL_print_254 ?_
      refine V_aload_n hC dL_print_255 rfl 0 rfl ?_
      refine V_iload_n hC dL_print_256 rfl 2 rfl ?_
      refine V_iconst hC (1 : Int32) dL_print_257 (by decide) ?_
      obtain ⟨q10, e10, h⟩ := bind_some h
      refine V_cW hC hX [.ref (adr G 6 0), .int x3, .int (1 : Int32)] (c_L_waitingAt (l := l) (rv := q10.1) (Mf := q10.2) hlt hC.2.2.2.2.2.2.2 e10) kx_L_waitingAt gw_1037 gw_1036 ⟨Nat.le_of_ble_eq_true rfl, Nat.le_of_ble_eq_true rfl⟩ rfl (Nat.le_of_ble_eq_true rfl) dL_print_258 ⟨by show _ ≤ 451; omega, by show _ ≤ 6 * 451; omega⟩ rfl ?_
      refine V_i2l hC dL_print_261 ?_
      refine V_ladd hC dL_print_262 ?_
      refine V_lmul hC dL_print_263 ?_
      refine V_aload_n hC dL_print_264 rfl 0 rfl ?_
      refine V_iload_n hC dL_print_265 rfl 2 rfl ?_
      refine V_iconst hC (2 : Int32) dL_print_266 (by decide) ?_
      obtain ⟨q11, e11, h⟩ := bind_some h
      refine V_cW hC hX [.ref (adr G 6 0), .int x3, .int (2 : Int32)] (c_L_waitingAt (l := l) (rv := q11.1) (Mf := q11.2) hlt hC.2.2.2.2.2.2.2 e11) kx_L_waitingAt gw_1037 gw_1036 ⟨Nat.le_of_ble_eq_true rfl, Nat.le_of_ble_eq_true rfl⟩ rfl (Nat.le_of_ble_eq_true rfl) dL_print_267 ⟨by show _ ≤ 451; omega, by show _ ≤ 6 * 451; omega⟩ rfl ?_
      refine V_i2l hC dL_print_270 ?_
      refine V_ladd hC dL_print_271 ?_
      refine V_lstore_n hC ([(1, .long (((31 : Int64) * (((31 : Int64) * (((31 : Int64) * x1) + (q9.1).toInt64)) + (q10.1).toInt64)) + (q11.1).toInt64)), (0, .ref (adr G 6 0)), (3, .int x3)]) dL_print_272 rfl (by decide) rfl ?_
      refine V_iinc hC (x3 + 1) ([(3, .int (x3 + 1)), (1, .long (((31 : Int64) * (((31 : Int64) * (((31 : Int64) * x1) + (q9.1).toInt64)) + (q10.1).toInt64)) + (q11.1).toInt64)), (0, .ref (adr G 6 0))]) dL_print_273 2 rfl rfl (by decide) rfl ?_
      refine V_goto hC 229 dL_print_276 (by decide) ?_
      refine V_sub [2, 1, 0] rfl ?_
      refine V_widen (k := u + 3) (n := 6 * (u + 3)) (by omega) (by omega) ?_
      exact hk229 _ _ _ _ (by omega) h
set_option maxRecDepth 100000 in
set_option maxHeartbeats 8000000 in
theorem l_L_print_153 {v144 : Nat} {k144 : Int64 → Int32 → Mem → Option (Int64 × Mem)} {rv : Int64} {Mf : Mem} {x3 : Int32} (hC : Cx p s m args c cL_print RL 5 G) (hr : meth.sig.returnType = some .long) (hlk : meth.locks = false) (hX : XF G s) (hlt : l.stackTraces = false) (hk144 : ∀ (u : Nat) (x1 : Int64) (x3 : Int32) (M : Mem), u + v144 ≤ 451 → k144 x1 x3 M = some (rv, Mf) → V p l e (rmc 11 451) s m args below meth c 5 G (u) (6 * (u)) (MQ below (gQ G (some (.long rv)) Mf) args s 451 (6 * 451) (gA G)) 144 [(0, .ref (adr G 6 0)), (1, .long x1), (3, .int x3)] [] M) (hv144 : 34 ≤ v144) : ∀ (n : Nat) {u : Nat} {x1 : Int64} {x4 : Int32} {M : Mem} (hu : u + (1 * n + (4 + v144)) ≤ 451) (h : L_L_print_153 k144 x3 n x1 x4 M = some (rv, Mf)), V p l e (rmc 11 451) s m args below meth c 5 G (u) (6 * (u)) (MQ below (gQ G (some (.long rv)) Mf) args s 451 (6 * 451) (gA G)) 153 [(0, .ref (adr G 6 0)), (1, .long x1), (3, .int x3), (4, .int x4)] [] M := by
  intro n
  induction n with
  | zero => intro u x1 x4 M hu h; cases h
  | succ n ih =>
    intro u x1 x4 M hu h
    rw [Nat.mul_succ] at hu
    obtain ⟨v153, ev153⟩ : ∃ v, v = 1 * n + (4 + v144) := ⟨_, rfl⟩
    have hv153 : 4 + v144 ≤ v153 := by rw [ev153]; exact Nat.le_add_left _ _
    have hk153 : ∀ (u : Nat) (x1 : Int64) (x4 : Int32) (M : Mem), u + v153 ≤ 451 → L_L_print_153 k144 x3 n x1 x4 M = some (rv, Mf) → V p l e (rmc 11 451) s m args below meth c 5 G (u) (6 * (u)) (MQ below (gQ G (some (.long rv)) Mf) args s 451 (6 * 451) (gA G)) 153 [(0, .ref (adr G 6 0)), (1, .long x1), (3, .int x3), (4, .int x4)] [] M := fun _ _ _ _ hw z => ih (by rw [← ev153]; exact hw) z
    have hu : u + 1 + v153 ≤ 451 := bud hu ev153
    clear ih ev153
    refine V_iload hC dL_print_153 3 rfl ?_
    refine V_bipush hC (6 : Int32) dL_print_155 (by decide) ?_
    refine V_icmp_ge hC 181 dL_print_157 (by decide) (fun c12 => ?_) (fun c12 => ?_)
    · have h := ite_t c12 h
      refine V_ldc2 hC (31 : Int64) dL_print_181 gw_963 ?_
      refine V_ldc2 hC (31 : Int64) dL_print_184 gw_963 ?_
      refine V_lload_n hC dL_print_187 rfl 1 rfl ?_
      refine V_lmul hC dL_print_188 ?_
      refine V_aload_n hC dL_print_189 rfl 0 rfl ?_
      refine V_iload_n hC dL_print_190 rfl 2 rfl ?_
      refine V_aload_n hC dL_print_191 rfl 0 rfl ?_
      refine V_iload_n hC dL_print_192 rfl 2 rfl ?_
      refine V_iconst hC (1 : Int32) dL_print_193 (by decide) ?_
      obtain ⟨q13, e13, h⟩ := bind_some h
      refine V_cW hC hX [.ref (adr G 6 0), .int x3, .int (1 : Int32)] (c_L_checkOut (l := l) (rv := q13.1) (Mf := q13.2) hlt hC.2.2.2.2.2.2.2 e13) kx_L_checkOut gw_1014 gw_1013 ⟨Nat.le_of_ble_eq_true rfl, Nat.le_of_ble_eq_true rfl⟩ rfl (Nat.le_of_ble_eq_true rfl) dL_print_194 ⟨by show _ ≤ 451; omega, by show _ ≤ 6 * 451; omega⟩ rfl ?_
      refine V_iconst hC (0 : Int32) dL_print_197 (by decide) ?_
      refine V_iconst hC (1 : Int32) dL_print_198 (by decide) ?_
      obtain ⟨q14, e14, h⟩ := bind_some h
      refine V_cW hC hX [.ref (adr G 6 0), .int x3, .int q13.1, .int (0 : Int32), .int (1 : Int32)] (c_L_copied (l := l) (rv := q14.1) (Mf := q14.2) hlt hC.2.2.2.2.2.2.2 e14) kx_L_copied gw_1027 gw_1026 ⟨Nat.le_of_ble_eq_true rfl, Nat.le_of_ble_eq_true rfl⟩ rfl (Nat.le_of_ble_eq_true rfl) dL_print_199 ⟨by show _ ≤ 451; omega, by show _ ≤ 6 * 451; omega⟩ rfl ?_
      refine V_i2l hC dL_print_202 ?_
      refine V_ladd hC dL_print_203 ?_
      refine V_lmul hC dL_print_204 ?_
      refine V_aload_n hC dL_print_205 rfl 0 rfl ?_
      refine V_iload_n hC dL_print_206 rfl 2 rfl ?_
      refine V_aload_n hC dL_print_207 rfl 0 rfl ?_
      refine V_iload_n hC dL_print_208 rfl 2 rfl ?_
      refine V_iconst hC (1 : Int32) dL_print_209 (by decide) ?_
      obtain ⟨q15, e15, h⟩ := bind_some h
      refine V_cW hC hX [.ref (adr G 6 0), .int x3, .int (1 : Int32)] (c_L_checkOut (l := l) (rv := q15.1) (Mf := q15.2) hlt hC.2.2.2.2.2.2.2 e15) kx_L_checkOut gw_1014 gw_1013 ⟨Nat.le_of_ble_eq_true rfl, Nat.le_of_ble_eq_true rfl⟩ rfl (Nat.le_of_ble_eq_true rfl) dL_print_210 ⟨by show _ ≤ 451; omega, by show _ ≤ 6 * 451; omega⟩ rfl ?_
      refine V_iconst hC (0 : Int32) dL_print_213 (by decide) ?_
      refine V_iconst hC (0 : Int32) dL_print_214 (by decide) ?_
      obtain ⟨q16, e16, h⟩ := bind_some h
      refine V_cW hC hX [.ref (adr G 6 0), .int x3, .int q15.1, .int (0 : Int32), .int (0 : Int32)] (c_L_copied (l := l) (rv := q16.1) (Mf := q16.2) hlt hC.2.2.2.2.2.2.2 e16) kx_L_copied gw_1027 gw_1026 ⟨Nat.le_of_ble_eq_true rfl, Nat.le_of_ble_eq_true rfl⟩ rfl (Nat.le_of_ble_eq_true rfl) dL_print_215 ⟨by show _ ≤ 451; omega, by show _ ≤ 6 * 451; omega⟩ rfl ?_
      refine V_i2l hC dL_print_218 ?_
      refine V_ladd hC dL_print_219 ?_
      refine V_lstore_n hC ([(1, .long (((31 : Int64) * (((31 : Int64) * x1) + (q14.1).toInt64)) + (q16.1).toInt64)), (0, .ref (adr G 6 0)), (3, .int x3), (4, .int x4)]) dL_print_220 rfl (by decide) rfl ?_
      refine V_iinc hC (x3 + 1) ([(3, .int (x3 + 1)), (1, .long (((31 : Int64) * (((31 : Int64) * x1) + (q14.1).toInt64)) + (q16.1).toInt64)), (0, .ref (adr G 6 0)), (4, .int x4)]) dL_print_221 2 rfl rfl (by decide) rfl ?_
      refine V_goto hC 144 dL_print_224 (by decide) ?_
      refine V_sub [2, 1, 0] rfl ?_
      refine V_widen (k := u + 4) (n := 6 * (u + 4)) (by omega) (by omega) ?_
      exact hk144 _ _ _ _ (by omega) h
    · have h := ite_f c12 h
      refine V_ldc2 hC (31 : Int64) dL_print_160 gw_963 ?_
      refine V_lload_n hC dL_print_163 rfl 1 rfl ?_
      refine V_lmul hC dL_print_164 ?_
      refine V_aload_n hC dL_print_165 rfl 0 rfl ?_
      refine V_iload_n hC dL_print_166 rfl 2 rfl ?_
      refine V_iload hC dL_print_167 3 rfl ?_
      obtain ⟨q17, e17, h⟩ := bind_some h
      refine V_cW hC hX [.ref (adr G 6 0), .int x3, .int x4] (c_L_checkOut (l := l) (rv := q17.1) (Mf := q17.2) hlt hC.2.2.2.2.2.2.2 e17) kx_L_checkOut gw_1014 gw_1013 ⟨Nat.le_of_ble_eq_true rfl, Nat.le_of_ble_eq_true rfl⟩ rfl (Nat.le_of_ble_eq_true rfl) dL_print_169 ⟨by show _ ≤ 451; omega, by show _ ≤ 6 * 451; omega⟩ rfl ?_
      refine V_i2l hC dL_print_172 ?_
      refine V_ladd hC dL_print_173 ?_
      refine V_lstore_n hC ([(1, .long (((31 : Int64) * x1) + (q17.1).toInt64)), (0, .ref (adr G 6 0)), (3, .int x3), (4, .int x4)]) dL_print_174 rfl (by decide) rfl ?_
      refine V_iinc hC (x4 + 1) ([(4, .int (x4 + 1)), (1, .long (((31 : Int64) * x1) + (q17.1).toInt64)), (0, .ref (adr G 6 0)), (3, .int x3)]) dL_print_175 3 rfl rfl (by decide) rfl ?_
      refine V_goto hC 153 dL_print_178 (by decide) ?_
      refine V_sub [2, 1, 3, 0] rfl ?_
      refine V_widen (k := u + 1) (n := 6 * (u + 1)) (by omega) (by omega) ?_
      exact hk153 _ _ _ _ (by omega) h
set_option maxRecDepth 100000 in
set_option maxHeartbeats 8000000 in
theorem l_L_print_144 {rv : Int64} {Mf : Mem} (hC : Cx p s m args c cL_print RL 5 G) (hr : meth.sig.returnType = some .long) (hlk : meth.locks = false) (hX : XF G s) (hlt : l.stackTraces = false) : ∀ (n : Nat) {u : Nat} {x1 : Int64} {x3 : Int32} {M : Mem} (hu : u + (11 * n + (34)) ≤ 451) (h : L_L_print_144 n x1 x3 M = some (rv, Mf)), V p l e (rmc 11 451) s m args below meth c 5 G (u) (6 * (u)) (MQ below (gQ G (some (.long rv)) Mf) args s 451 (6 * 451) (gA G)) 144 [(0, .ref (adr G 6 0)), (1, .long x1), (3, .int x3)] [] M := by
  intro n
  induction n with
  | zero => intro u x1 x3 M hu h; cases h
  | succ n ih =>
    intro u x1 x3 M hu h
    rw [Nat.mul_succ] at hu
    obtain ⟨v144, ev144⟩ : ∃ v, v = 11 * n + (34) := ⟨_, rfl⟩
    have hv144 : 34 ≤ v144 := by rw [ev144]; exact Nat.le_add_left _ _
    have hk144 : ∀ (u : Nat) (x1 : Int64) (x3 : Int32) (M : Mem), u + v144 ≤ 451 → L_L_print_144 n x1 x3 M = some (rv, Mf) → V p l e (rmc 11 451) s m args below meth c 5 G (u) (6 * (u)) (MQ below (gQ G (some (.long rv)) Mf) args s 451 (6 * 451) (gA G)) 144 [(0, .ref (adr G 6 0)), (1, .long x1), (3, .int x3)] [] M := fun _ _ _ _ hw z => ih (by rw [← ev144]; exact hw) z
    have hu : u + 11 + v144 ≤ 451 := bud hu ev144
    clear ih ev144
    refine V_iload_n hC dL_print_144 rfl 2 rfl ?_
    refine V_bipush hC (10 : Int32) dL_print_145 (by decide) ?_
    refine V_icmp_ge hC 227 dL_print_147 (by decide) (fun c5 => ?_) (fun c5 => ?_)
    · have h := ite_t c5 h
      refine V_iconst hC (0 : Int32) dL_print_227 (by decide) ?_
      refine V_istore_n hC ([(3, .int (0 : Int32)), (0, .ref (adr G 6 0)), (1, .long x1)]) dL_print_228 rfl (by decide) rfl ?_
      refine V_sub [1, 2, 0] rfl ?_
      refine V_widen (k := u + 0) (n := 6 * (u + 0)) (by omega) (by omega) ?_
      exact l_L_print_229 hC hr hlk hX hlt 9 (by omega) h
    · have h := ite_f c5 h
      refine V_iconst hC (0 : Int32) dL_print_150 (by decide) ?_
      refine V_istore hC ([(4, .int (0 : Int32)), (0, .ref (adr G 6 0)), (1, .long x1), (3, .int x3)]) dL_print_151 (by decide) rfl ?_
      refine V_sub [1, 2, 3, 0] rfl ?_
      refine V_widen (k := u + 0) (n := 6 * (u + 0)) (by omega) (by omega) ?_
      exact l_L_print_153 hC hr hlk hX hlt hk144 hv144 7 (by omega) h
set_option maxRecDepth 100000 in
set_option maxHeartbeats 8000000 in
theorem l_L_print_95 {v56 : Nat} {k56 : Int64 → Int32 → Mem → Option (Int64 × Mem)} {rv : Int64} {Mf : Mem} {x3 : Int32} (hC : Cx p s m args c cL_print RL 5 G) (hr : meth.sig.returnType = some .long) (hlk : meth.locks = false) (hX : XF G s) (hlt : l.stackTraces = false) (hk56 : ∀ (u : Nat) (x1 : Int64) (x3 : Int32) (M : Mem), u + v56 ≤ 451 → k56 x1 x3 M = some (rv, Mf) → V p l e (rmc 11 451) s m args below meth c 5 G (u) (6 * (u)) (MQ below (gQ G (some (.long rv)) Mf) args s 451 (6 * 451) (gA G)) 56 [(0, .ref (adr G 6 0)), (1, .long x1), (3, .int x3)] [] M) (hv56 : 155 ≤ v56) : ∀ (n : Nat) {u : Nat} {x1 : Int64} {x4 : Int32} {M : Mem} (hu : u + (1 * n + (1 + v56)) ≤ 451) (h : L_L_print_95 k56 x3 n x1 x4 M = some (rv, Mf)), V p l e (rmc 11 451) s m args below meth c 5 G (u) (6 * (u)) (MQ below (gQ G (some (.long rv)) Mf) args s 451 (6 * 451) (gA G)) 95 [(0, .ref (adr G 6 0)), (1, .long x1), (3, .int x3), (4, .int x4)] [] M := by
  intro n
  induction n with
  | zero => intro u x1 x4 M hu h; cases h
  | succ n ih =>
    intro u x1 x4 M hu h
    rw [Nat.mul_succ] at hu
    obtain ⟨v95, ev95⟩ : ∃ v, v = 1 * n + (1 + v56) := ⟨_, rfl⟩
    have hv95 : 1 + v56 ≤ v95 := by rw [ev95]; exact Nat.le_add_left _ _
    have hk95 : ∀ (u : Nat) (x1 : Int64) (x4 : Int32) (M : Mem), u + v95 ≤ 451 → L_L_print_95 k56 x3 n x1 x4 M = some (rv, Mf) → V p l e (rmc 11 451) s m args below meth c 5 G (u) (6 * (u)) (MQ below (gQ G (some (.long rv)) Mf) args s 451 (6 * 451) (gA G)) 95 [(0, .ref (adr G 6 0)), (1, .long x1), (3, .int x3), (4, .int x4)] [] M := fun _ _ _ _ hw z => ih (by rw [← ev95]; exact hw) z
    have hu : u + 1 + v95 ≤ 451 := bud hu ev95
    clear ih ev95
    refine V_iload hC dL_print_95 3 rfl ?_
    refine V_bipush hC (6 : Int32) dL_print_97 (by decide) ?_
    refine V_icmp_ge hC 123 dL_print_99 (by decide) (fun c19 => ?_) (fun c19 => ?_)
    · have h := ite_t c19 h
      refine V_ldc2 hC (31 : Int64) dL_print_123 gw_963 ?_
      refine V_lload_n hC dL_print_126 rfl 1 rfl ?_
      refine V_lmul hC dL_print_127 ?_
      refine V_aload_n hC dL_print_128 rfl 0 rfl ?_
      refine V_iload_n hC dL_print_129 rfl 2 rfl ?_
      obtain ⟨q20, e20, h⟩ := bind_some h
      refine V_cW hC hX [.ref (adr G 6 0), .int x3] (c_L_holders (l := l) (rv := q20.1) (Mf := q20.2) hlt hC.2.2.2.2.2.2.2 e20) kx_L_holders gw_1003 gw_1002 ⟨Nat.le_of_ble_eq_true rfl, Nat.le_of_ble_eq_true rfl⟩ rfl (Nat.le_of_ble_eq_true rfl) dL_print_130 ⟨by show _ ≤ 451; omega, by show _ ≤ 6 * 451; omega⟩ rfl ?_
      refine V_i2l hC dL_print_133 ?_
      refine V_ladd hC dL_print_134 ?_
      refine V_lstore_n hC ([(1, .long (((31 : Int64) * x1) + (q20.1).toInt64)), (0, .ref (adr G 6 0)), (3, .int x3), (4, .int x4)]) dL_print_135 rfl (by decide) rfl ?_
      refine V_iinc hC (x3 + 1) ([(3, .int (x3 + 1)), (1, .long (((31 : Int64) * x1) + (q20.1).toInt64)), (0, .ref (adr G 6 0)), (4, .int x4)]) dL_print_136 2 rfl rfl (by decide) rfl ?_
      refine V_goto hC 56 dL_print_139 (by decide) ?_
      refine V_sub [2, 1, 0] rfl ?_
      refine V_widen (k := u + 1) (n := 6 * (u + 1)) (by omega) (by omega) ?_
      exact hk56 _ _ _ _ (by omega) h
    · have h := ite_f c19 h
      refine V_ldc2 hC (31 : Int64) dL_print_102 gw_963 ?_
      refine V_lload_n hC dL_print_105 rfl 1 rfl ?_
      refine V_lmul hC dL_print_106 ?_
      refine V_aload_n hC dL_print_107 rfl 0 rfl ?_
      refine V_iload_n hC dL_print_108 rfl 2 rfl ?_
      refine V_iload hC dL_print_109 3 rfl ?_
      obtain ⟨q21, e21, h⟩ := bind_some h
      refine V_cW hC hX [.ref (adr G 6 0), .int x3, .int x4] (c_L_line (l := l) (rv := q21.1) (Mf := q21.2) hlt hC.2.2.2.2.2.2.2 e21) kx_L_line gw_993 gw_992 ⟨Nat.le_of_ble_eq_true rfl, Nat.le_of_ble_eq_true rfl⟩ rfl (Nat.le_of_ble_eq_true rfl) dL_print_111 ⟨by show _ ≤ 451; omega, by show _ ≤ 6 * 451; omega⟩ rfl ?_
      refine V_i2l hC dL_print_114 ?_
      refine V_ladd hC dL_print_115 ?_
      refine V_lstore_n hC ([(1, .long (((31 : Int64) * x1) + (q21.1).toInt64)), (0, .ref (adr G 6 0)), (3, .int x3), (4, .int x4)]) dL_print_116 rfl (by decide) rfl ?_
      refine V_iinc hC (x4 + 1) ([(4, .int (x4 + 1)), (1, .long (((31 : Int64) * x1) + (q21.1).toInt64)), (0, .ref (adr G 6 0)), (3, .int x3)]) dL_print_117 3 rfl rfl (by decide) rfl ?_
      refine V_goto hC 95 dL_print_120 (by decide) ?_
      refine V_sub [2, 1, 3, 0] rfl ?_
      refine V_widen (k := u + 1) (n := 6 * (u + 1)) (by omega) (by omega) ?_
      exact hk95 _ _ _ _ (by omega) h
set_option maxRecDepth 100000 in
set_option maxHeartbeats 8000000 in
theorem l_L_print_65 {v56 : Nat} {k56 : Int64 → Int32 → Mem → Option (Int64 × Mem)} {rv : Int64} {Mf : Mem} {x3 : Int32} (hC : Cx p s m args c cL_print RL 5 G) (hr : meth.sig.returnType = some .long) (hlk : meth.locks = false) (hX : XF G s) (hlt : l.stackTraces = false) (hk56 : ∀ (u : Nat) (x1 : Int64) (x3 : Int32) (M : Mem), u + v56 ≤ 451 → k56 x1 x3 M = some (rv, Mf) → V p l e (rmc 11 451) s m args below meth c 5 G (u) (6 * (u)) (MQ below (gQ G (some (.long rv)) Mf) args s 451 (6 * 451) (gA G)) 56 [(0, .ref (adr G 6 0)), (1, .long x1), (3, .int x3)] [] M) (hv56 : 155 ≤ v56) : ∀ (n : Nat) {u : Nat} {x1 : Int64} {x4 : Int32} {M : Mem} (hu : u + (1 * n + (8 + v56)) ≤ 451) (h : L_L_print_65 k56 x3 n x1 x4 M = some (rv, Mf)), V p l e (rmc 11 451) s m args below meth c 5 G (u) (6 * (u)) (MQ below (gQ G (some (.long rv)) Mf) args s 451 (6 * 451) (gA G)) 65 [(0, .ref (adr G 6 0)), (1, .long x1), (3, .int x3), (4, .int x4)] [] M := by
  intro n
  induction n with
  | zero => intro u x1 x4 M hu h; cases h
  | succ n ih =>
    intro u x1 x4 M hu h
    rw [Nat.mul_succ] at hu
    obtain ⟨v65, ev65⟩ : ∃ v, v = 1 * n + (8 + v56) := ⟨_, rfl⟩
    have hv65 : 8 + v56 ≤ v65 := by rw [ev65]; exact Nat.le_add_left _ _
    have hk65 : ∀ (u : Nat) (x1 : Int64) (x4 : Int32) (M : Mem), u + v65 ≤ 451 → L_L_print_65 k56 x3 n x1 x4 M = some (rv, Mf) → V p l e (rmc 11 451) s m args below meth c 5 G (u) (6 * (u)) (MQ below (gQ G (some (.long rv)) Mf) args s 451 (6 * 451) (gA G)) 65 [(0, .ref (adr G 6 0)), (1, .long x1), (3, .int x3), (4, .int x4)] [] M := fun _ _ _ _ hw z => ih (by rw [← ev65]; exact hw) z
    have hu : u + 1 + v65 ≤ 451 := bud hu ev65
    clear ih ev65
    refine V_iload hC dL_print_65 3 rfl ?_
    refine V_iconst hC (5 : Int32) dL_print_67 (by decide) ?_
    refine V_icmp_ge hC 92 dL_print_68 (by decide) (fun c18 => ?_) (fun c18 => ?_)
    · have h := ite_t c18 h
      refine V_iconst hC (0 : Int32) dL_print_92 (by decide) ?_
      refine V_istore hC ([(4, .int (0 : Int32)), (0, .ref (adr G 6 0)), (1, .long x1), (3, .int x3)]) dL_print_93 (by decide) rfl ?_
      refine V_sub [1, 2, 3, 0] rfl ?_
      refine V_widen (k := u + 0) (n := 6 * (u + 0)) (by omega) (by omega) ?_
      exact l_L_print_95 hC hr hlk hX hlt hk56 hv56 7 (by omega) h
    · have h := ite_f c18 h
      refine V_ldc2 hC (31 : Int64) dL_print_71 gw_963 ?_
      refine V_lload_n hC dL_print_74 rfl 1 rfl ?_
      refine V_lmul hC dL_print_75 ?_
      refine V_aload_n hC dL_print_76 rfl 0 rfl ?_
      refine V_iload_n hC dL_print_77 rfl 2 rfl ?_
      refine V_iload hC dL_print_78 3 rfl ?_
      obtain ⟨q22, e22, h⟩ := bind_some h
      refine V_cW hC hX [.ref (adr G 6 0), .int x3, .int x4] (c_L_section (l := l) (rv := q22.1) (Mf := q22.2) hlt hC.2.2.2.2.2.2.2 e22) kx_L_section gw_977 gw_976 ⟨Nat.le_of_ble_eq_true rfl, Nat.le_of_ble_eq_true rfl⟩ rfl (Nat.le_of_ble_eq_true rfl) dL_print_80 ⟨by show _ ≤ 451; omega, by show _ ≤ 6 * 451; omega⟩ rfl ?_
      refine V_i2l hC dL_print_83 ?_
      refine V_ladd hC dL_print_84 ?_
      refine V_lstore_n hC ([(1, .long (((31 : Int64) * x1) + (q22.1).toInt64)), (0, .ref (adr G 6 0)), (3, .int x3), (4, .int x4)]) dL_print_85 rfl (by decide) rfl ?_
      refine V_iinc hC (x4 + 1) ([(4, .int (x4 + 1)), (1, .long (((31 : Int64) * x1) + (q22.1).toInt64)), (0, .ref (adr G 6 0)), (3, .int x3)]) dL_print_86 3 rfl rfl (by decide) rfl ?_
      refine V_goto hC 65 dL_print_89 (by decide) ?_
      refine V_sub [2, 1, 3, 0] rfl ?_
      refine V_widen (k := u + 1) (n := 6 * (u + 1)) (by omega) (by omega) ?_
      exact hk65 _ _ _ _ (by omega) h
set_option maxRecDepth 100000 in
set_option maxHeartbeats 8000000 in
theorem l_L_print_56 {rv : Int64} {Mf : Mem} (hC : Cx p s m args c cL_print RL 5 G) (hr : meth.sig.returnType = some .long) (hlk : meth.locks = false) (hX : XF G s) (hlt : l.stackTraces = false) : ∀ (n : Nat) {u : Nat} {x1 : Int64} {x3 : Int32} {M : Mem} (hu : u + (14 * n + (155)) ≤ 451) (h : L_L_print_56 n x1 x3 M = some (rv, Mf)), V p l e (rmc 11 451) s m args below meth c 5 G (u) (6 * (u)) (MQ below (gQ G (some (.long rv)) Mf) args s 451 (6 * 451) (gA G)) 56 [(0, .ref (adr G 6 0)), (1, .long x1), (3, .int x3)] [] M := by
  intro n
  induction n with
  | zero => intro u x1 x3 M hu h; cases h
  | succ n ih =>
    intro u x1 x3 M hu h
    rw [Nat.mul_succ] at hu
    obtain ⟨v56, ev56⟩ : ∃ v, v = 14 * n + (155) := ⟨_, rfl⟩
    have hv56 : 155 ≤ v56 := by rw [ev56]; exact Nat.le_add_left _ _
    have hk56 : ∀ (u : Nat) (x1 : Int64) (x3 : Int32) (M : Mem), u + v56 ≤ 451 → L_L_print_56 n x1 x3 M = some (rv, Mf) → V p l e (rmc 11 451) s m args below meth c 5 G (u) (6 * (u)) (MQ below (gQ G (some (.long rv)) Mf) args s 451 (6 * 451) (gA G)) 56 [(0, .ref (adr G 6 0)), (1, .long x1), (3, .int x3)] [] M := fun _ _ _ _ hw z => ih (by rw [← ev56]; exact hw) z
    have hu : u + 14 + v56 ≤ 451 := bud hu ev56
    clear ih ev56
    refine V_iload_n hC dL_print_56 rfl 2 rfl ?_
    refine V_bipush hC (20 : Int32) dL_print_57 (by decide) ?_
    refine V_icmp_ge hC 142 dL_print_59 (by decide) (fun c4 => ?_) (fun c4 => ?_)
    · have h := ite_t c4 h
      refine V_iconst hC (0 : Int32) dL_print_142 (by decide) ?_
      refine V_istore_n hC ([(3, .int (0 : Int32)), (0, .ref (adr G 6 0)), (1, .long x1)]) dL_print_143 rfl (by decide) rfl ?_
      refine V_sub [1, 2, 0] rfl ?_
      refine V_widen (k := u + 0) (n := 6 * (u + 0)) (by omega) (by omega) ?_
      exact l_L_print_144 hC hr hlk hX hlt 11 (by omega) h
    · have h := ite_f c4 h
      refine V_iconst hC (0 : Int32) dL_print_62 (by decide) ?_
      refine V_istore hC ([(4, .int (0 : Int32)), (0, .ref (adr G 6 0)), (1, .long x1), (3, .int x3)]) dL_print_63 (by decide) rfl ?_
      refine V_sub [1, 2, 3, 0] rfl ?_
      refine V_widen (k := u + 0) (n := 6 * (u + 0)) (by omega) (by omega) ?_
      exact l_L_print_65 hC hr hlk hX hlt hk56 hv56 6 (by omega) h
set_option maxRecDepth 100000 in
set_option maxHeartbeats 8000000 in
theorem b_L_print_53 {u : Nat} {rv : Int64} {Mf : Mem} {z0 : Int64} {M : Mem} (hC : Cx p s m args c cL_print RL 5 G) (hr : meth.sig.returnType = some .long) (hlk : meth.locks = false) (hX : XF G s) (hlt : l.stackTraces = false) (hu : u + (449) ≤ 451) (h : B_L_print_53 z0 M = some (rv, Mf)) : V p l e (rmc 11 451) s m args below meth c 5 G (u) (6 * (u)) (MQ below (gQ G (some (.long rv)) Mf) args s 451 (6 * 451) (gA G)) 53 [(0, .ref (adr G 6 0))] [.long z0] M := by
  refine V_lstore_n hC ([(1, .long z0), (0, .ref (adr G 6 0))]) dL_print_53 rfl (by decide) rfl ?_
  refine V_iconst hC (0 : Int32) dL_print_54 (by decide) ?_
  refine V_istore_n hC ([(3, .int (0 : Int32)), (1, .long z0), (0, .ref (adr G 6 0))]) dL_print_55 rfl (by decide) rfl ?_
  refine V_sub [2, 1, 0] rfl ?_
  refine V_widen (k := u + 0) (n := 6 * (u + 0)) (by omega) (by omega) ?_
  exact l_L_print_56 hC hr hlk hX hlt 21 (by omega) h
set_option maxRecDepth 100000 in
set_option maxHeartbeats 8000000 in
theorem c_L_print {l : Launch} {G : Geo} {rv : Int64} {Mf : Mem} {M : Mem} (hlt : l.stackTraces = false) (hG : gD G) (h : f_L_print M = some (rv, Mf)) : Met l yL_print (.code yL_print cL_print 5 (some .long) :: GL) (rmc 11 451) (gPx G [.ref (adr G 6 0)] M) (gQ G (some (.long rv)) Mf) 451 (6 * 451) (gA G) := by
  refine PMet_of (own := RL) (L := [(0, .ref (adr G 6 0))]) hG (by decide +kernel) rfl (Nat.le_of_ble_eq_true rfl) rfl ?_
  intro p e s m args below meth c hC hX hr hlk
  obtain ⟨u, eu⟩ : ∃ u : Nat, u = 0 := ⟨0, rfl⟩
  have hu : u + 451 ≤ 451 := by omega
  refine V_u (u := u) eu ?_
  refine V_ldc2 hC (31 : Int64) dL_print_0 gw_963 ?_
  refine V_ldc2 hC (31 : Int64) dL_print_3 gw_963 ?_
  refine V_ldc2 hC (31 : Int64) dL_print_6 gw_963 ?_
  refine V_aload_n hC dL_print_9 rfl 0 rfl ?_
  refine V_cVr hC [] (c_X8_sections (l := l) hC.2.2.2.2.2.2.2 rfl) kd_X8_sections kv_X8_sections gw_964 (r_s0_0).o rfl ⟨Nat.le_of_ble_eq_true rfl, Nat.le_of_ble_eq_true rfl⟩ rfl (Nat.le_of_ble_eq_true rfl) dL_print_10 ⟨by show _ ≤ 451; omega, by show _ ≤ 6 * 451; omega⟩ rfl ?_
  refine V_i2l hC dL_print_13 ?_
  refine V_lmul hC dL_print_14 ?_
  refine V_aload_n hC dL_print_15 rfl 0 rfl ?_
  refine V_cVr hC [] (c_X8_entries (l := l) hC.2.2.2.2.2.2.2 rfl) kd_X8_entries kv_X8_entries gw_968 (r_s0_0).o rfl ⟨Nat.le_of_ble_eq_true rfl, Nat.le_of_ble_eq_true rfl⟩ rfl (Nat.le_of_ble_eq_true rfl) dL_print_16 ⟨by show _ ≤ 451; omega, by show _ ≤ 6 * 451; omega⟩ rfl ?_
  refine V_i2l hC dL_print_19 ?_
  refine V_ladd hC dL_print_20 ?_
  refine V_lmul hC dL_print_21 ?_
  refine V_aload_n hC dL_print_22 rfl 0 rfl ?_
  refine V_cVr hC [] (c_X8_waiting (l := l) hC.2.2.2.2.2.2.2 rfl) kd_X8_waiting kv_X8_waiting gw_972 (r_s0_0).o rfl ⟨Nat.le_of_ble_eq_true rfl, Nat.le_of_ble_eq_true rfl⟩ rfl (Nat.le_of_ble_eq_true rfl) dL_print_23 ⟨by show _ ≤ 451; omega, by show _ ≤ 6 * 451; omega⟩ rfl ?_
  refine V_i2l hC dL_print_26 ?_
  refine V_ladd hC dL_print_27 ?_
  refine V_lmul hC dL_print_28 ?_
  refine V_aload_n hC dL_print_29 rfl 0 rfl ?_
  refine V_iconst hC (0 : Int32) dL_print_30 (by decide) ?_
  obtain ⟨q1, e1, h⟩ := bind_some h
  refine V_cW hC hX [.ref (adr G 6 0), .int (0 : Int32)] (c_L_pass (l := l) (rv := q1.1) (Mf := q1.2) hlt hC.2.2.2.2.2.2.2 e1) kx_L_pass gw_879 gw_878 ⟨Nat.le_of_ble_eq_true rfl, Nat.le_of_ble_eq_true rfl⟩ rfl (Nat.le_of_ble_eq_true rfl) dL_print_31 ⟨by show _ ≤ 451; omega, by show _ ≤ 6 * 451; omega⟩ rfl ?_
  refine V_i2l hC dL_print_34 ?_
  refine V_ladd hC dL_print_35 ?_
  refine V_lstore_n hC ([(1, .long (((31 : Int64) * (((31 : Int64) * (((31 : Int64) * ((f_X8_sections M)).toInt64) + ((f_X8_entries M)).toInt64)) + ((f_X8_waiting M)).toInt64)) + (q1.1).toInt64)), (0, .ref (adr G 6 0))]) dL_print_36 rfl (by decide) rfl ?_
  refine V_aload_n hC dL_print_37 rfl 1 rfl ?_
  obtain ⟨q2, e2, h⟩ := bind_some h
  refine V_cW hC hX [.ref (adr G 6 0)] (c_L_undo (l := l) (rv := q2.1) (Mf := q2.2) hlt hC.2.2.2.2.2.2.2 e2) kx_L_undo gw_947 gw_946 ⟨Nat.le_of_ble_eq_true rfl, Nat.le_of_ble_eq_true rfl⟩ rfl (Nat.le_of_ble_eq_true rfl) dL_print_38 ⟨by show _ ≤ 451; omega, by show _ ≤ 6 * 451; omega⟩ rfl ?_
  refine V_if_lt hC 52 dL_print_41 (by decide) (fun c3 => ?_) (fun c3 => ?_)
  · have h := ite_t c3 h
    refine V_lconst hC (0 : Int64) dL_print_52 rfl ?_
    refine V_sub [1] rfl ?_
    refine V_widen (k := u + 2) (n := 6 * (u + 2)) (by omega) (by omega) ?_
    exact b_L_print_53 hC hr hlk hX hlt (by omega) h
  · have h := ite_f c3 h
    refine V_ldc2 hC (31 : Int64) dL_print_44 gw_963 ?_
    refine V_lload_n hC dL_print_47 rfl 0 rfl ?_
    refine V_lmul hC dL_print_48 ?_
    refine V_goto hC 53 dL_print_49 (by decide) ?_
    refine V_sub [1] rfl ?_
    refine V_widen (k := u + 2) (n := 6 * (u + 2)) (by omega) (by omega) ?_
    exact b_L_print_53 hC hr hlk hX hlt (by omega) h
set_option maxRecDepth 100000 in
set_option maxHeartbeats 8000000 in
theorem b_L_refused_239 {u : Nat} {rv : Int32} {Mf : Mem} {x1 : Int64} {z0 : Int32} {M : Mem} (hC : Cx p s m args c cL_refused RL 4 G) (hr : meth.sig.returnType = some .boolean) (hlk : meth.locks = false) (hX : XF G s) (hlt : l.stackTraces = false) (hu : u + (459) ≤ 929) (h : B_L_refused_239 x1 z0 M = some (rv, Mf)) : V p l e (rmc 30 929) s m args below meth c 4 G (u) (6 * (u)) (MQ below (gQ G (some (.int rv)) Mf) args s 929 (6 * 929) (gA G)) 239 [(0, .ref (adr G 6 0)), (1, .long x1)] [.int z0] M := by
  refine V_istore_n hC ([(3, .int z0), (0, .ref (adr G 6 0)), (1, .long x1)]) dL_refused_239 rfl (by decide) rfl ?_
  refine V_iload_n hC dL_refused_240 rfl 0 rfl ?_
  refine V_if_eq hC 346 dL_refused_241 (by decide) (fun c5 => ?_) (fun c5 => ?_)
  · have h := ite_t c5 h
    refine V_iconst hC (0 : Int32) dL_refused_346 (by decide) ?_
    obtain ⟨rfl, rfl⟩ := Prod.mk.inj (Option.some.inj h)
    exact V_pzret hC hr hlk (by omega) (by omega) (Or.inl rfl) dL_refused_347
  · have h := ite_f c5 h
    refine V_aload_n hC dL_refused_244 rfl 1 rfl ?_
    refine V_iconst hC (0 : Int32) dL_refused_245 (by decide) ?_
    refine V_iconst hC ((-1) : Int32) dL_refused_246 (by decide) ?_
    obtain ⟨q6, e6, h⟩ := bind_some h
    refine V_cW hC hX [.ref (adr G 6 0), .int (0 : Int32), .int ((-1) : Int32)] (c_L_blame (l := l) (rv := q6.1) (Mf := q6.2) hlt hC.2.2.2.2.2.2.2 e6) kx_L_blame gw_1112 gw_1111 ⟨Nat.le_of_ble_eq_true rfl, Nat.le_of_ble_eq_true rfl⟩ rfl (Nat.le_of_ble_eq_true rfl) dL_refused_247 ⟨by show _ ≤ 929; omega, by show _ ≤ 6 * 929; omega⟩ rfl ?_
    refine V_bipush hC ((-53) : Int32) dL_refused_250 (by decide) ?_
    refine V_icmp_ne hC 346 dL_refused_252 (by decide) (fun c7 => ?_) (fun c7 => ?_)
    · have h := ite_f c7 h
      refine V_iconst hC (0 : Int32) dL_refused_346 (by decide) ?_
      obtain ⟨rfl, rfl⟩ := Prod.mk.inj (Option.some.inj h)
      exact V_pzret hC hr hlk (by omega) (by omega) (Or.inl rfl) dL_refused_347
    · have h := ite_t c7 h
      refine V_aload_n hC dL_refused_255 rfl 1 rfl ?_
      refine V_iconst hC (0 : Int32) dL_refused_256 (by decide) ?_
      refine V_iconst hC (0 : Int32) dL_refused_257 (by decide) ?_
      refine V_iconst hC ((-1) : Int32) dL_refused_258 (by decide) ?_
      obtain ⟨q8, e8, h⟩ := bind_some h
      refine V_cW hC hX [.ref (adr G 6 0), .int (0 : Int32), .int (0 : Int32), .int ((-1) : Int32)] (c_L_lineAt (l := l) (rv := q8.1) (Mf := q8.2) hlt hC.2.2.2.2.2.2.2 e8) kx_L_lineAt gw_1123 gw_1122 ⟨Nat.le_of_ble_eq_true rfl, Nat.le_of_ble_eq_true rfl⟩ rfl (Nat.le_of_ble_eq_true rfl) dL_refused_259 ⟨by show _ ≤ 929; omega, by show _ ≤ 6 * 929; omega⟩ rfl ?_
      refine V_bipush hC ((-51) : Int32) dL_refused_262 (by decide) ?_
      refine V_icmp_ne hC 346 dL_refused_264 (by decide) (fun c9 => ?_) (fun c9 => ?_)
      · have h := ite_f c9 h
        refine V_iconst hC (0 : Int32) dL_refused_346 (by decide) ?_
        obtain ⟨rfl, rfl⟩ := Prod.mk.inj (Option.some.inj h)
        exact V_pzret hC hr hlk (by omega) (by omega) (Or.inl rfl) dL_refused_347
      · have h := ite_t c9 h
        refine V_aload_n hC dL_refused_267 rfl 1 rfl ?_
        refine V_iconst hC (0 : Int32) dL_refused_268 (by decide) ?_
        refine V_iconst hC ((-1) : Int32) dL_refused_269 (by decide) ?_
        obtain ⟨q10, e10, h⟩ := bind_some h
        refine V_cW hC hX [.ref (adr G 6 0), .int (0 : Int32), .int ((-1) : Int32)] (c_L_revert (l := l) (rv := q10.1) (Mf := q10.2) hlt hC.2.2.2.2.2.2.2 e10) kx_L_revert gw_858 gw_857 ⟨Nat.le_of_ble_eq_true rfl, Nat.le_of_ble_eq_true rfl⟩ rfl (Nat.le_of_ble_eq_true rfl) dL_refused_270 ⟨by show _ ≤ 929; omega, by show _ ≤ 6 * 929; omega⟩ rfl ?_
        refine V_bipush hC ((-51) : Int32) dL_refused_273 (by decide) ?_
        refine V_icmp_ne hC 346 dL_refused_275 (by decide) (fun c11 => ?_) (fun c11 => ?_)
        · have h := ite_f c11 h
          refine V_iconst hC (0 : Int32) dL_refused_346 (by decide) ?_
          obtain ⟨rfl, rfl⟩ := Prod.mk.inj (Option.some.inj h)
          exact V_pzret hC hr hlk (by omega) (by omega) (Or.inl rfl) dL_refused_347
        · have h := ite_t c11 h
          refine V_aload_n hC dL_refused_278 rfl 1 rfl ?_
          refine V_bipush hC (8 : Int32) dL_refused_279 (by decide) ?_
          refine V_iconst hC (0 : Int32) dL_refused_281 (by decide) ?_
          obtain ⟨q12, e12, h⟩ := bind_some h
          refine V_cW hC hX [.ref (adr G 6 0), .int (8 : Int32), .int (0 : Int32)] (c_L_waitingAt (l := l) (rv := q12.1) (Mf := q12.2) hlt hC.2.2.2.2.2.2.2 e12) kx_L_waitingAt gw_1037 gw_1036 ⟨Nat.le_of_ble_eq_true rfl, Nat.le_of_ble_eq_true rfl⟩ rfl (Nat.le_of_ble_eq_true rfl) dL_refused_282 ⟨by show _ ≤ 929; omega, by show _ ≤ 6 * 929; omega⟩ rfl ?_
          refine V_bipush hC ((-53) : Int32) dL_refused_285 (by decide) ?_
          refine V_icmp_ne hC 346 dL_refused_287 (by decide) (fun c13 => ?_) (fun c13 => ?_)
          · have h := ite_f c13 h
            refine V_iconst hC (0 : Int32) dL_refused_346 (by decide) ?_
            obtain ⟨rfl, rfl⟩ := Prod.mk.inj (Option.some.inj h)
            exact V_pzret hC hr hlk (by omega) (by omega) (Or.inl rfl) dL_refused_347
          · have h := ite_t c13 h
            refine V_aload_n hC dL_refused_290 rfl 1 rfl ?_
            refine V_sipush hC (1001 : Int32) dL_refused_291 (by decide) ?_
            obtain ⟨q14, e14, h⟩ := bind_some h
            refine V_cW hC hX [.ref (adr G 6 0), .int (1001 : Int32)] (c_L_pass (l := l) (rv := q14.1) (Mf := q14.2) hlt hC.2.2.2.2.2.2.2 e14) kx_L_pass gw_879 gw_878 ⟨Nat.le_of_ble_eq_true rfl, Nat.le_of_ble_eq_true rfl⟩ rfl (Nat.le_of_ble_eq_true rfl) dL_refused_294 ⟨by show _ ≤ 929; omega, by show _ ≤ 6 * 929; omega⟩ rfl ?_
            refine V_bipush hC ((-51) : Int32) dL_refused_297 (by decide) ?_
            refine V_icmp_ne hC 346 dL_refused_299 (by decide) (fun c15 => ?_) (fun c15 => ?_)
            · have h := ite_f c15 h
              refine V_iconst hC (0 : Int32) dL_refused_346 (by decide) ?_
              obtain ⟨rfl, rfl⟩ := Prod.mk.inj (Option.some.inj h)
              exact V_pzret hC hr hlk (by omega) (by omega) (Or.inl rfl) dL_refused_347
            · have h := ite_t c15 h
              refine V_aload_n hC dL_refused_302 rfl 1 rfl ?_
              refine V_bipush hC (6 : Int32) dL_refused_303 (by decide) ?_
              obtain ⟨q16, e16, h⟩ := bind_some h
              refine V_cW hC hX [.ref (adr G 6 0), .int (6 : Int32)] (c_L_useBits (l := l) (rv := q16.1) (Mf := q16.2) hlt hC.2.2.2.2.2.2.2 e16) kx_L_useBits gw_1045 gw_1044 ⟨Nat.le_of_ble_eq_true rfl, Nat.le_of_ble_eq_true rfl⟩ rfl (Nat.le_of_ble_eq_true rfl) dL_refused_305 ⟨by show _ ≤ 929; omega, by show _ ≤ 6 * 929; omega⟩ rfl ?_
              refine V_bipush hC ((-53) : Int32) dL_refused_308 (by decide) ?_
              refine V_icmp_ne hC 346 dL_refused_310 (by decide) (fun c17 => ?_) (fun c17 => ?_)
              · have h := ite_f c17 h
                refine V_iconst hC (0 : Int32) dL_refused_346 (by decide) ?_
                obtain ⟨rfl, rfl⟩ := Prod.mk.inj (Option.some.inj h)
                exact V_pzret hC hr hlk (by omega) (by omega) (Or.inl rfl) dL_refused_347
              · have h := ite_t c17 h
                refine V_aload_n hC dL_refused_313 rfl 1 rfl ?_
                refine V_iconst hC ((-1) : Int32) dL_refused_314 (by decide) ?_
                obtain ⟨q18, e18, h⟩ := bind_some h
                refine V_cW hC hX [.ref (adr G 6 0), .int ((-1) : Int32)] (c_L_append (l := l) (rv := q18.1) (Mf := q18.2) hlt hC.2.2.2.2.2.2.2 e18) kx_L_append gw_1134 gw_1133 ⟨Nat.le_of_ble_eq_true rfl, Nat.le_of_ble_eq_true rfl⟩ rfl (Nat.le_of_ble_eq_true rfl) dL_refused_315 ⟨by show _ ≤ 929; omega, by show _ ≤ 6 * 929; omega⟩ rfl ?_
                refine V_bipush hC ((-51) : Int32) dL_refused_318 (by decide) ?_
                refine V_icmp_ne hC 346 dL_refused_320 (by decide) (fun c19 => ?_) (fun c19 => ?_)
                · have h := ite_f c19 h
                  refine V_iconst hC (0 : Int32) dL_refused_346 (by decide) ?_
                  obtain ⟨rfl, rfl⟩ := Prod.mk.inj (Option.some.inj h)
                  exact V_pzret hC hr hlk (by omega) (by omega) (Or.inl rfl) dL_refused_347
                · have h := ite_t c19 h
                  refine V_aload_n hC dL_refused_323 rfl 1 rfl ?_
                  refine V_iconst hC ((-1) : Int32) dL_refused_324 (by decide) ?_
                  obtain ⟨q20, e20, h⟩ := bind_some h
                  refine V_cW hC hX [.ref (adr G 6 0), .int ((-1) : Int32)] (c_L_outline (l := l) (rv := q20.1) (Mf := q20.2) hlt hC.2.2.2.2.2.2.2 e20) kx_L_outline gw_910 gw_909 ⟨Nat.le_of_ble_eq_true rfl, Nat.le_of_ble_eq_true rfl⟩ rfl (Nat.le_of_ble_eq_true rfl) dL_refused_325 ⟨by show _ ≤ 929; omega, by show _ ≤ 6 * 929; omega⟩ rfl ?_
                  refine V_bipush hC ((-51) : Int32) dL_refused_328 (by decide) ?_
                  refine V_icmp_ne hC 346 dL_refused_330 (by decide) (fun c21 => ?_) (fun c21 => ?_)
                  · have h := ite_f c21 h
                    refine V_iconst hC (0 : Int32) dL_refused_346 (by decide) ?_
                    obtain ⟨rfl, rfl⟩ := Prod.mk.inj (Option.some.inj h)
                    exact V_pzret hC hr hlk (by omega) (by omega) (Or.inl rfl) dL_refused_347
                  · have h := ite_t c21 h
                    refine V_aload_n hC dL_refused_333 rfl 1 rfl ?_
                    obtain ⟨q22, e22, h⟩ := bind_some h
                    refine V_cL (K := 451) hC hX [.ref (adr G 6 0)] (c_L_print (l := l) (rv := q22.1) (Mf := q22.2) hlt hC.2.2.2.2.2.2.2 e22) kd_L_print gw_961 gw_960 ⟨Nat.le_of_ble_eq_true rfl, Nat.le_of_ble_eq_true rfl⟩ rfl (Nat.le_of_ble_eq_true rfl) dL_refused_334 ⟨by show _ ≤ 929; omega, by show _ ≤ 6 * 929; omega⟩ rfl ?_
                    refine V_lload_n hC dL_refused_337 rfl 2 rfl ?_
                    refine V_lcmp hC dL_refused_338 ?_
                    refine V_if_ne hC 346 dL_refused_339 (by decide) (fun c23 => ?_) (fun c23 => ?_)
                    · have h := ite_f c23 h
                      refine V_iconst hC (0 : Int32) dL_refused_346 (by decide) ?_
                      obtain ⟨rfl, rfl⟩ := Prod.mk.inj (Option.some.inj h)
                      exact V_pzret hC hr hlk (by omega) (by omega) (Or.inl rfl) dL_refused_347
                    · have h := ite_t c23 h
                      refine V_iconst hC (1 : Int32) dL_refused_342 (by decide) ?_
                      refine V_goto hC 347 dL_refused_343 (by decide) ?_
                      obtain ⟨rfl, rfl⟩ := Prod.mk.inj (Option.some.inj h)
                      exact V_pzret hC hr hlk (by omega) (by omega) (Or.inr rfl) dL_refused_347
set_option maxRecDepth 100000 in
set_option maxHeartbeats 8000000 in
theorem b_L_refused_238 {u : Nat} {rv : Int32} {Mf : Mem} {x1 : Int64} {M : Mem} (hC : Cx p s m args c cL_refused RL 4 G) (hr : meth.sig.returnType = some .boolean) (hlk : meth.locks = false) (hX : XF G s) (hlt : l.stackTraces = false) (hu : u + (459) ≤ 929) (h : B_L_refused_238 x1 M = some (rv, Mf)) : V p l e (rmc 30 929) s m args below meth c 4 G (u) (6 * (u)) (MQ below (gQ G (some (.int rv)) Mf) args s 929 (6 * 929) (gA G)) 238 [(0, .ref (adr G 6 0)), (1, .long x1)] [] M := by
  refine V_iconst hC (0 : Int32) dL_refused_238 (by decide) ?_
  refine V_widen (k := u + 0) (n := 6 * (u + 0)) (by omega) (by omega) ?_
  exact b_L_refused_239 hC hr hlk hX hlt (by omega) h
set_option maxRecDepth 100000 in
set_option maxHeartbeats 8000000 in
theorem b_L_refused_116 {u : Nat} {rv : Int32} {Mf : Mem} {x1 : Int64} {z0 : Int32} {M : Mem} (hC : Cx p s m args c cL_refused RL 4 G) (hr : meth.sig.returnType = some .boolean) (hlk : meth.locks = false) (hX : XF G s) (hlt : l.stackTraces = false) (hu : u + (469) ≤ 929) (h : B_L_refused_116 x1 z0 M = some (rv, Mf)) : V p l e (rmc 30 929) s m args below meth c 4 G (u) (6 * (u)) (MQ below (gQ G (some (.int rv)) Mf) args s 929 (6 * 929) (gA G)) 116 [(0, .ref (adr G 6 0)), (1, .long x1)] [.int z0] M := by
  refine V_istore_n hC ([(3, .int z0), (0, .ref (adr G 6 0)), (1, .long x1)]) dL_refused_116 rfl (by decide) rfl ?_
  refine V_iload_n hC dL_refused_117 rfl 0 rfl ?_
  refine V_if_eq hC 238 dL_refused_118 (by decide) (fun c4 => ?_) (fun c4 => ?_)
  · have h := ite_t c4 h
    refine V_sub [1, 2] rfl ?_
    refine V_widen (k := u + 0) (n := 6 * (u + 0)) (by omega) (by omega) ?_
    exact b_L_refused_238 hC hr hlk hX hlt (by omega) h
  · have h := ite_f c4 h
    refine V_aload_n hC dL_refused_121 rfl 1 rfl ?_
    refine V_iconst hC ((-1) : Int32) dL_refused_122 (by decide) ?_
    obtain ⟨q24, e24, h⟩ := bind_some h
    refine V_cW hC hX [.ref (adr G 6 0), .int ((-1) : Int32)] (c_L_cancel (l := l) (rv := q24.1) (Mf := q24.2) hlt hC.2.2.2.2.2.2.2 e24) kx_L_cancel gw_721 gw_720 ⟨Nat.le_of_ble_eq_true rfl, Nat.le_of_ble_eq_true rfl⟩ rfl (Nat.le_of_ble_eq_true rfl) dL_refused_123 ⟨by show _ ≤ 929; omega, by show _ ≤ 6 * 929; omega⟩ rfl ?_
    refine V_bipush hC ((-53) : Int32) dL_refused_126 (by decide) ?_
    refine V_icmp_ne hC 238 dL_refused_128 (by decide) (fun c25 => ?_) (fun c25 => ?_)
    · have h := ite_f c25 h
      refine V_sub [1, 2] rfl ?_
      refine V_widen (k := u + 1) (n := 6 * (u + 1)) (by omega) (by omega) ?_
      exact b_L_refused_238 hC hr hlk hX hlt (by omega) h
    · have h := ite_t c25 h
      refine V_aload_n hC dL_refused_131 rfl 1 rfl ?_
      refine V_bipush hC (10 : Int32) dL_refused_132 (by decide) ?_
      refine V_iconst hC (1 : Int32) dL_refused_134 (by decide) ?_
      obtain ⟨q26, e26, h⟩ := bind_some h
      refine V_cW hC hX [.ref (adr G 6 0), .int (10 : Int32), .int (1 : Int32)] (c_L_renew (l := l) (rv := q26.1) (Mf := q26.2) hlt hC.2.2.2.2.2.2.2 e26) kx_L_renew gw_740 gw_739 ⟨Nat.le_of_ble_eq_true rfl, Nat.le_of_ble_eq_true rfl⟩ rfl (Nat.le_of_ble_eq_true rfl) dL_refused_135 ⟨by show _ ≤ 929; omega, by show _ ≤ 6 * 929; omega⟩ rfl ?_
      refine V_bipush hC ((-53) : Int32) dL_refused_138 (by decide) ?_
      refine V_icmp_ne hC 238 dL_refused_140 (by decide) (fun c27 => ?_) (fun c27 => ?_)
      · have h := ite_f c27 h
        refine V_sub [1, 2] rfl ?_
        refine V_widen (k := u + 2) (n := 6 * (u + 2)) (by omega) (by omega) ?_
        exact b_L_refused_238 hC hr hlk hX hlt (by omega) h
      · have h := ite_t c27 h
        refine V_aload_n hC dL_refused_143 rfl 1 rfl ?_
        refine V_iconst hC ((-1) : Int32) dL_refused_144 (by decide) ?_
        obtain ⟨q28, e28, h⟩ := bind_some h
        refine V_cW hC hX [.ref (adr G 6 0), .int ((-1) : Int32)] (c_L_breakUp (l := l) (rv := q28.1) (Mf := q28.2) hlt hC.2.2.2.2.2.2.2 e28) kx_L_breakUp gw_760 gw_759 ⟨Nat.le_of_ble_eq_true rfl, Nat.le_of_ble_eq_true rfl⟩ rfl (Nat.le_of_ble_eq_true rfl) dL_refused_145 ⟨by show _ ≤ 929; omega, by show _ ≤ 6 * 929; omega⟩ rfl ?_
        refine V_bipush hC ((-53) : Int32) dL_refused_148 (by decide) ?_
        refine V_icmp_ne hC 238 dL_refused_150 (by decide) (fun c29 => ?_) (fun c29 => ?_)
        · have h := ite_f c29 h
          refine V_sub [1, 2] rfl ?_
          refine V_widen (k := u + 3) (n := 6 * (u + 3)) (by omega) (by omega) ?_
          exact b_L_refused_238 hC hr hlk hX hlt (by omega) h
        · have h := ite_t c29 h
          refine V_aload_n hC dL_refused_153 rfl 1 rfl ?_
          refine V_bipush hC (10 : Int32) dL_refused_154 (by decide) ?_
          obtain ⟨q30, e30, h⟩ := bind_some h
          refine V_cW hC hX [.ref (adr G 6 0), .int (10 : Int32)] (c_L_discard (l := l) (rv := q30.1) (Mf := q30.2) hlt hC.2.2.2.2.2.2.2 e30) kx_L_discard gw_1070 gw_1069 ⟨Nat.le_of_ble_eq_true rfl, Nat.le_of_ble_eq_true rfl⟩ rfl (Nat.le_of_ble_eq_true rfl) dL_refused_156 ⟨by show _ ≤ 929; omega, by show _ ≤ 6 * 929; omega⟩ rfl ?_
          refine V_bipush hC ((-53) : Int32) dL_refused_159 (by decide) ?_
          refine V_icmp_ne hC 238 dL_refused_161 (by decide) (fun c31 => ?_) (fun c31 => ?_)
          · have h := ite_f c31 h
            refine V_sub [1, 2] rfl ?_
            refine V_widen (k := u + 4) (n := 6 * (u + 4)) (by omega) (by omega) ?_
            exact b_L_refused_238 hC hr hlk hX hlt (by omega) h
          · have h := ite_t c31 h
            refine V_aload_n hC dL_refused_164 rfl 1 rfl ?_
            refine V_iconst hC ((-1) : Int32) dL_refused_165 (by decide) ?_
            refine V_iconst hC (0 : Int32) dL_refused_166 (by decide) ?_
            refine V_iconst hC (0 : Int32) dL_refused_167 (by decide) ?_
            refine V_iconst hC (0 : Int32) dL_refused_168 (by decide) ?_
            obtain ⟨q32, e32, h⟩ := bind_some h
            refine V_cW hC hX [.ref (adr G 6 0), .int ((-1) : Int32), .int (0 : Int32), .int (0 : Int32), .int (0 : Int32)] (c_L_edit (l := l) (rv := q32.1) (Mf := q32.2) hlt hC.2.2.2.2.2.2.2 e32) kx_L_edit gw_784 gw_783 ⟨Nat.le_of_ble_eq_true rfl, Nat.le_of_ble_eq_true rfl⟩ rfl (Nat.le_of_ble_eq_true rfl) dL_refused_169 ⟨by show _ ≤ 929; omega, by show _ ≤ 6 * 929; omega⟩ rfl ?_
            refine V_bipush hC ((-53) : Int32) dL_refused_172 (by decide) ?_
            refine V_icmp_ne hC 238 dL_refused_174 (by decide) (fun c33 => ?_) (fun c33 => ?_)
            · have h := ite_f c33 h
              refine V_sub [1, 2] rfl ?_
              refine V_widen (k := u + 5) (n := 6 * (u + 5)) (by omega) (by omega) ?_
              exact b_L_refused_238 hC hr hlk hX hlt (by omega) h
            · have h := ite_t c33 h
              refine V_aload_n hC dL_refused_177 rfl 1 rfl ?_
              refine V_bipush hC (10 : Int32) dL_refused_178 (by decide) ?_
              refine V_iconst hC (0 : Int32) dL_refused_180 (by decide) ?_
              obtain ⟨q34, e34, h⟩ := bind_some h
              refine V_cW hC hX [.ref (adr G 6 0), .int (10 : Int32), .int (0 : Int32)] (c_L_giveBack (l := l) (rv := q34.1) (Mf := q34.2) hlt hC.2.2.2.2.2.2.2 e34) kx_L_giveBack gw_809 gw_808 ⟨Nat.le_of_ble_eq_true rfl, Nat.le_of_ble_eq_true rfl⟩ rfl (Nat.le_of_ble_eq_true rfl) dL_refused_181 ⟨by show _ ≤ 929; omega, by show _ ≤ 6 * 929; omega⟩ rfl ?_
              refine V_bipush hC ((-53) : Int32) dL_refused_184 (by decide) ?_
              refine V_icmp_ne hC 238 dL_refused_186 (by decide) (fun c35 => ?_) (fun c35 => ?_)
              · have h := ite_f c35 h
                refine V_sub [1, 2] rfl ?_
                refine V_widen (k := u + 6) (n := 6 * (u + 6)) (by omega) (by omega) ?_
                exact b_L_refused_238 hC hr hlk hX hlt (by omega) h
              · have h := ite_t c35 h
                refine V_aload_n hC dL_refused_189 rfl 1 rfl ?_
                refine V_bipush hC (20 : Int32) dL_refused_190 (by decide) ?_
                obtain ⟨q36, e36, h⟩ := bind_some h
                refine V_cW hC hX [.ref (adr G 6 0), .int (20 : Int32)] (c_L_holders (l := l) (rv := q36.1) (Mf := q36.2) hlt hC.2.2.2.2.2.2.2 e36) kx_L_holders gw_1003 gw_1002 ⟨Nat.le_of_ble_eq_true rfl, Nat.le_of_ble_eq_true rfl⟩ rfl (Nat.le_of_ble_eq_true rfl) dL_refused_192 ⟨by show _ ≤ 929; omega, by show _ ≤ 6 * 929; omega⟩ rfl ?_
                refine V_bipush hC ((-53) : Int32) dL_refused_195 (by decide) ?_
                refine V_icmp_ne hC 238 dL_refused_197 (by decide) (fun c37 => ?_) (fun c37 => ?_)
                · have h := ite_f c37 h
                  refine V_sub [1, 2] rfl ?_
                  refine V_widen (k := u + 7) (n := 6 * (u + 7)) (by omega) (by omega) ?_
                  exact b_L_refused_238 hC hr hlk hX hlt (by omega) h
                · have h := ite_t c37 h
                  refine V_aload_n hC dL_refused_200 rfl 1 rfl ?_
                  refine V_iconst hC ((-1) : Int32) dL_refused_201 (by decide) ?_
                  obtain ⟨q38, e38, h⟩ := bind_some h
                  refine V_cW hC hX [.ref (adr G 6 0), .int ((-1) : Int32)] (c_L_ifBroken (l := l) (rv := q38.1) (Mf := q38.2) hlt hC.2.2.2.2.2.2.2 e38) kx_L_ifBroken gw_1086 gw_1085 ⟨Nat.le_of_ble_eq_true rfl, Nat.le_of_ble_eq_true rfl⟩ rfl (Nat.le_of_ble_eq_true rfl) dL_refused_202 ⟨by show _ ≤ 929; omega, by show _ ≤ 6 * 929; omega⟩ rfl ?_
                  refine V_bipush hC ((-53) : Int32) dL_refused_205 (by decide) ?_
                  refine V_icmp_ne hC 238 dL_refused_207 (by decide) (fun c39 => ?_) (fun c39 => ?_)
                  · have h := ite_f c39 h
                    refine V_sub [1, 2] rfl ?_
                    refine V_widen (k := u + 8) (n := 6 * (u + 8)) (by omega) (by omega) ?_
                    exact b_L_refused_238 hC hr hlk hX hlt (by omega) h
                  · have h := ite_t c39 h
                    refine V_aload_n hC dL_refused_210 rfl 1 rfl ?_
                    refine V_bipush hC (6 : Int32) dL_refused_211 (by decide) ?_
                    obtain ⟨q40, e40, h⟩ := bind_some h
                    refine V_cW hC hX [.ref (adr G 6 0), .int (6 : Int32)] (c_L_grantedAt (l := l) (rv := q40.1) (Mf := q40.2) hlt hC.2.2.2.2.2.2.2 e40) kx_L_grantedAt gw_1097 gw_1096 ⟨Nat.le_of_ble_eq_true rfl, Nat.le_of_ble_eq_true rfl⟩ rfl (Nat.le_of_ble_eq_true rfl) dL_refused_213 ⟨by show _ ≤ 929; omega, by show _ ≤ 6 * 929; omega⟩ rfl ?_
                    refine V_bipush hC ((-53) : Int32) dL_refused_216 (by decide) ?_
                    refine V_icmp_ne hC 238 dL_refused_218 (by decide) (fun c41 => ?_) (fun c41 => ?_)
                    · have h := ite_f c41 h
                      refine V_sub [1, 2] rfl ?_
                      refine V_widen (k := u + 9) (n := 6 * (u + 9)) (by omega) (by omega) ?_
                      exact b_L_refused_238 hC hr hlk hX hlt (by omega) h
                    · have h := ite_t c41 h
                      refine V_aload_n hC dL_refused_221 rfl 1 rfl ?_
                      refine V_sipush hC (150 : Int32) dL_refused_222 (by decide) ?_
                      refine V_iconst hC (0 : Int32) dL_refused_225 (by decide) ?_
                      obtain ⟨q42, e42, h⟩ := bind_some h
                      refine V_cW hC hX [.ref (adr G 6 0), .int (150 : Int32), .int (0 : Int32)] (c_L_entry (l := l) (rv := q42.1) (Mf := q42.2) hlt hC.2.2.2.2.2.2.2 e42) kx_L_entry gw_1104 gw_1103 ⟨Nat.le_of_ble_eq_true rfl, Nat.le_of_ble_eq_true rfl⟩ rfl (Nat.le_of_ble_eq_true rfl) dL_refused_226 ⟨by show _ ≤ 929; omega, by show _ ≤ 6 * 929; omega⟩ rfl ?_
                      refine V_bipush hC ((-53) : Int32) dL_refused_229 (by decide) ?_
                      refine V_icmp_ne hC 238 dL_refused_231 (by decide) (fun c43 => ?_) (fun c43 => ?_)
                      · have h := ite_f c43 h
                        refine V_sub [1, 2] rfl ?_
                        refine V_widen (k := u + 10) (n := 6 * (u + 10)) (by omega) (by omega) ?_
                        exact b_L_refused_238 hC hr hlk hX hlt (by omega) h
                      · have h := ite_t c43 h
                        refine V_iconst hC (1 : Int32) dL_refused_234 (by decide) ?_
                        refine V_goto hC 239 dL_refused_235 (by decide) ?_
                        refine V_sub [1, 2] rfl ?_
                        refine V_widen (k := u + 10) (n := 6 * (u + 10)) (by omega) (by omega) ?_
                        exact b_L_refused_239 hC hr hlk hX hlt (by omega) h
set_option maxRecDepth 100000 in
set_option maxHeartbeats 8000000 in
theorem b_L_refused_115 {u : Nat} {rv : Int32} {Mf : Mem} {x1 : Int64} {M : Mem} (hC : Cx p s m args c cL_refused RL 4 G) (hr : meth.sig.returnType = some .boolean) (hlk : meth.locks = false) (hX : XF G s) (hlt : l.stackTraces = false) (hu : u + (469) ≤ 929) (h : B_L_refused_115 x1 M = some (rv, Mf)) : V p l e (rmc 30 929) s m args below meth c 4 G (u) (6 * (u)) (MQ below (gQ G (some (.int rv)) Mf) args s 929 (6 * 929) (gA G)) 115 [(0, .ref (adr G 6 0)), (1, .long x1)] [] M := by
  refine V_iconst hC (0 : Int32) dL_refused_115 (by decide) ?_
  refine V_widen (k := u + 0) (n := 6 * (u + 0)) (by omega) (by omega) ?_
  exact b_L_refused_116 hC hr hlk hX hlt (by omega) h
set_option maxRecDepth 100000 in
set_option maxHeartbeats 8000000 in
theorem c_L_refused {l : Launch} {G : Geo} {rv : Int32} {Mf : Mem} {M : Mem} (hlt : l.stackTraces = false) (hG : gD G) (h : f_L_refused M = some (rv, Mf)) : Met l yL_refused (.code yL_refused cL_refused 4 (some .boolean) :: GL) (rmc 30 929) (gPx G [.ref (adr G 6 0)] M) (gQ G (some (.int rv)) Mf) 929 (6 * 929) (gA G) := by
  refine PMet_of (own := RL) (L := [(0, .ref (adr G 6 0))]) hG (by decide +kernel) rfl (Nat.le_of_ble_eq_true rfl) rfl ?_
  intro p e s m args below meth c hC hX hr hlk
  obtain ⟨u, eu⟩ : ∃ u : Nat, u = 0 := ⟨0, rfl⟩
  have hu : u + 929 ≤ 929 := by omega
  refine V_u (u := u) eu ?_
  refine V_aload_n hC dL_refused_0 rfl 0 rfl ?_
  obtain ⟨q1, e1, h⟩ := bind_some h
  refine V_cL (K := 451) hC hX [.ref (adr G 6 0)] (c_L_print (l := l) (rv := q1.1) (Mf := q1.2) hlt hC.2.2.2.2.2.2.2 e1) kd_L_print gw_961 gw_960 ⟨Nat.le_of_ble_eq_true rfl, Nat.le_of_ble_eq_true rfl⟩ rfl (Nat.le_of_ble_eq_true rfl) dL_refused_1 ⟨by show _ ≤ 929; omega, by show _ ≤ 6 * 929; omega⟩ rfl ?_
  refine V_lstore_n hC ([(1, .long q1.1), (0, .ref (adr G 6 0))]) dL_refused_4 rfl (by decide) rfl ?_
  refine V_aload_n hC dL_refused_5 rfl 1 rfl ?_
  refine V_iconst hC ((-1) : Int32) dL_refused_6 (by decide) ?_
  obtain ⟨q2, e2, h⟩ := bind_some h
  refine V_cW hC hX [.ref (adr G 6 0), .int ((-1) : Int32)] (c_L_addSection (l := l) (rv := q2.1) (Mf := q2.2) hlt hC.2.2.2.2.2.2.2 e2) kx_L_addSection gw_236 gw_235 ⟨Nat.le_of_ble_eq_true rfl, Nat.le_of_ble_eq_true rfl⟩ rfl (Nat.le_of_ble_eq_true rfl) dL_refused_7 ⟨by show _ ≤ 929; omega, by show _ ≤ 6 * 929; omega⟩ rfl ?_
  refine V_bipush hC ((-53) : Int32) dL_refused_10 (by decide) ?_
  refine V_icmp_ne hC 115 dL_refused_12 (by decide) (fun c3 => ?_) (fun c3 => ?_)
  · have h := ite_f c3 h
    refine V_sub [1, 0] rfl ?_
    refine V_widen (k := u + 452) (n := 6 * (u + 452)) (by omega) (by omega) ?_
    exact b_L_refused_115 hC hr hlk hX hlt (by omega) h
  · have h := ite_t c3 h
    refine V_aload_n hC dL_refused_15 rfl 1 rfl ?_
    refine V_iconst hC (0 : Int32) dL_refused_16 (by decide) ?_
    obtain ⟨q44, e44, h⟩ := bind_some h
    refine V_cW hC hX [.ref (adr G 6 0), .int (0 : Int32)] (c_L_removeSection (l := l) (rv := q44.1) (Mf := q44.2) hlt hC.2.2.2.2.2.2.2 e44) kx_L_removeSection gw_463 gw_462 ⟨Nat.le_of_ble_eq_true rfl, Nat.le_of_ble_eq_true rfl⟩ rfl (Nat.le_of_ble_eq_true rfl) dL_refused_17 ⟨by show _ ≤ 929; omega, by show _ ≤ 6 * 929; omega⟩ rfl ?_
    refine V_bipush hC ((-51) : Int32) dL_refused_20 (by decide) ?_
    refine V_icmp_ne hC 115 dL_refused_22 (by decide) (fun c45 => ?_) (fun c45 => ?_)
    · have h := ite_f c45 h
      refine V_sub [1, 0] rfl ?_
      refine V_widen (k := u + 453) (n := 6 * (u + 453)) (by omega) (by omega) ?_
      exact b_L_refused_115 hC hr hlk hX hlt (by omega) h
    · have h := ite_t c45 h
      refine V_aload_n hC dL_refused_25 rfl 1 rfl ?_
      refine V_iconst hC (0 : Int32) dL_refused_26 (by decide) ?_
      refine V_iconst hC (0 : Int32) dL_refused_27 (by decide) ?_
      obtain ⟨q46, e46, h⟩ := bind_some h
      refine V_cW hC hX [.ref (adr G 6 0), .int (0 : Int32), .int (0 : Int32)] (c_L_moveSection (l := l) (rv := q46.1) (Mf := q46.2) hlt hC.2.2.2.2.2.2.2 e46) kx_L_moveSection gw_523 gw_522 ⟨Nat.le_of_ble_eq_true rfl, Nat.le_of_ble_eq_true rfl⟩ rfl (Nat.le_of_ble_eq_true rfl) dL_refused_28 ⟨by show _ ≤ 929; omega, by show _ ≤ 6 * 929; omega⟩ rfl ?_
      refine V_bipush hC ((-51) : Int32) dL_refused_31 (by decide) ?_
      refine V_icmp_ne hC 115 dL_refused_33 (by decide) (fun c47 => ?_) (fun c47 => ?_)
      · have h := ite_f c47 h
        refine V_sub [1, 0] rfl ?_
        refine V_widen (k := u + 454) (n := 6 * (u + 454)) (by omega) (by omega) ?_
        exact b_L_refused_115 hC hr hlk hX hlt (by omega) h
      · have h := ite_t c47 h
        refine V_aload_n hC dL_refused_36 rfl 1 rfl ?_
        refine V_iconst hC (0 : Int32) dL_refused_37 (by decide) ?_
        refine V_iconst hC ((-1) : Int32) dL_refused_38 (by decide) ?_
        obtain ⟨q48, e48, h⟩ := bind_some h
        refine V_cW hC hX [.ref (adr G 6 0), .int (0 : Int32), .int ((-1) : Int32)] (c_L_section (l := l) (rv := q48.1) (Mf := q48.2) hlt hC.2.2.2.2.2.2.2 e48) kx_L_section gw_977 gw_976 ⟨Nat.le_of_ble_eq_true rfl, Nat.le_of_ble_eq_true rfl⟩ rfl (Nat.le_of_ble_eq_true rfl) dL_refused_39 ⟨by show _ ≤ 929; omega, by show _ ≤ 6 * 929; omega⟩ rfl ?_
        refine V_bipush hC ((-51) : Int32) dL_refused_42 (by decide) ?_
        refine V_icmp_ne hC 115 dL_refused_44 (by decide) (fun c49 => ?_) (fun c49 => ?_)
        · have h := ite_f c49 h
          refine V_sub [1, 0] rfl ?_
          refine V_widen (k := u + 455) (n := 6 * (u + 455)) (by omega) (by omega) ?_
          exact b_L_refused_115 hC hr hlk hX hlt (by omega) h
        · have h := ite_t c49 h
          refine V_aload_n hC dL_refused_47 rfl 1 rfl ?_
          refine V_iconst hC (0 : Int32) dL_refused_48 (by decide) ?_
          refine V_bipush hC (20 : Int32) dL_refused_49 (by decide) ?_
          obtain ⟨q50, e50, h⟩ := bind_some h
          refine V_cW hC hX [.ref (adr G 6 0), .int (0 : Int32), .int (20 : Int32)] (c_L_child (l := l) (rv := q50.1) (Mf := q50.2) hlt hC.2.2.2.2.2.2.2 e50) kx_L_child gw_1062 gw_1061 ⟨Nat.le_of_ble_eq_true rfl, Nat.le_of_ble_eq_true rfl⟩ rfl (Nat.le_of_ble_eq_true rfl) dL_refused_51 ⟨by show _ ≤ 929; omega, by show _ ≤ 6 * 929; omega⟩ rfl ?_
          refine V_bipush hC ((-53) : Int32) dL_refused_54 (by decide) ?_
          refine V_icmp_ne hC 115 dL_refused_56 (by decide) (fun c51 => ?_) (fun c51 => ?_)
          · have h := ite_f c51 h
            refine V_sub [1, 0] rfl ?_
            refine V_widen (k := u + 456) (n := 6 * (u + 456)) (by omega) (by omega) ?_
            exact b_L_refused_115 hC hr hlk hX hlt (by omega) h
          · have h := ite_t c51 h
            refine V_aload_n hC dL_refused_59 rfl 1 rfl ?_
            refine V_iconst hC (0 : Int32) dL_refused_60 (by decide) ?_
            refine V_bipush hC (6 : Int32) dL_refused_61 (by decide) ?_
            obtain ⟨q52, e52, h⟩ := bind_some h
            refine V_cW hC hX [.ref (adr G 6 0), .int (0 : Int32), .int (6 : Int32)] (c_L_line (l := l) (rv := q52.1) (Mf := q52.2) hlt hC.2.2.2.2.2.2.2 e52) kx_L_line gw_993 gw_992 ⟨Nat.le_of_ble_eq_true rfl, Nat.le_of_ble_eq_true rfl⟩ rfl (Nat.le_of_ble_eq_true rfl) dL_refused_63 ⟨by show _ ≤ 929; omega, by show _ ≤ 6 * 929; omega⟩ rfl ?_
            refine V_bipush hC ((-53) : Int32) dL_refused_66 (by decide) ?_
            refine V_icmp_ne hC 115 dL_refused_68 (by decide) (fun c53 => ?_) (fun c53 => ?_)
            · have h := ite_f c53 h
              refine V_sub [1, 0] rfl ?_
              refine V_widen (k := u + 457) (n := 6 * (u + 457)) (by omega) (by omega) ?_
              exact b_L_refused_115 hC hr hlk hX hlt (by omega) h
            · have h := ite_t c53 h
              refine V_aload_n hC dL_refused_71 rfl 1 rfl ?_
              refine V_iconst hC (0 : Int32) dL_refused_72 (by decide) ?_
              refine V_iconst hC (0 : Int32) dL_refused_73 (by decide) ?_
              refine V_bipush hC ((-5) : Int32) dL_refused_74 (by decide) ?_
              obtain ⟨q54, e54, h⟩ := bind_some h
              refine V_cW hC hX [.ref (adr G 6 0), .int (0 : Int32), .int (0 : Int32), .int ((-5) : Int32)] (c_L_write (l := l) (rv := q54.1) (Mf := q54.2) hlt hC.2.2.2.2.2.2.2 e54) kx_L_write gw_547 gw_546 ⟨Nat.le_of_ble_eq_true rfl, Nat.le_of_ble_eq_true rfl⟩ rfl (Nat.le_of_ble_eq_true rfl) dL_refused_76 ⟨by show _ ≤ 929; omega, by show _ ≤ 6 * 929; omega⟩ rfl ?_
              refine V_bipush hC ((-51) : Int32) dL_refused_79 (by decide) ?_
              refine V_icmp_ne hC 115 dL_refused_81 (by decide) (fun c55 => ?_) (fun c55 => ?_)
              · have h := ite_f c55 h
                refine V_sub [1, 0] rfl ?_
                refine V_widen (k := u + 458) (n := 6 * (u + 458)) (by omega) (by omega) ?_
                exact b_L_refused_115 hC hr hlk hX hlt (by omega) h
              · have h := ite_t c55 h
                refine V_aload_n hC dL_refused_84 rfl 1 rfl ?_
                refine V_bipush hC (6 : Int32) dL_refused_85 (by decide) ?_
                refine V_iconst hC (0 : Int32) dL_refused_87 (by decide) ?_
                refine V_iconst hC (1 : Int32) dL_refused_88 (by decide) ?_
                refine V_iconst hC (1 : Int32) dL_refused_89 (by decide) ?_
                obtain ⟨q56, e56, h⟩ := bind_some h
                refine V_cW hC hX [.ref (adr G 6 0), .int (6 : Int32), .int (0 : Int32), .int (1 : Int32), .int (1 : Int32)] (c_L_request (l := l) (rv := q56.1) (Mf := q56.2) hlt hC.2.2.2.2.2.2.2 e56) kx_L_request gw_601 gw_600 ⟨Nat.le_of_ble_eq_true rfl, Nat.le_of_ble_eq_true rfl⟩ rfl (Nat.le_of_ble_eq_true rfl) dL_refused_90 ⟨by show _ ≤ 929; omega, by show _ ≤ 6 * 929; omega⟩ rfl ?_
                refine V_bipush hC ((-53) : Int32) dL_refused_93 (by decide) ?_
                refine V_icmp_ne hC 115 dL_refused_95 (by decide) (fun c57 => ?_) (fun c57 => ?_)
                · have h := ite_f c57 h
                  refine V_sub [1, 0] rfl ?_
                  refine V_widen (k := u + 459) (n := 6 * (u + 459)) (by omega) (by omega) ?_
                  exact b_L_refused_115 hC hr hlk hX hlt (by omega) h
                · have h := ite_t c57 h
                  refine V_aload_n hC dL_refused_98 rfl 1 rfl ?_
                  refine V_iconst hC (0 : Int32) dL_refused_99 (by decide) ?_
                  refine V_iconst hC (0 : Int32) dL_refused_100 (by decide) ?_
                  refine V_iconst hC (0 : Int32) dL_refused_101 (by decide) ?_
                  refine V_iconst hC (1 : Int32) dL_refused_102 (by decide) ?_
                  obtain ⟨q58, e58, h⟩ := bind_some h
                  refine V_cW hC hX [.ref (adr G 6 0), .int (0 : Int32), .int (0 : Int32), .int (0 : Int32), .int (1 : Int32)] (c_L_request (l := l) (rv := q58.1) (Mf := q58.2) hlt hC.2.2.2.2.2.2.2 e58) kx_L_request gw_601 gw_600 ⟨Nat.le_of_ble_eq_true rfl, Nat.le_of_ble_eq_true rfl⟩ rfl (Nat.le_of_ble_eq_true rfl) dL_refused_103 ⟨by show _ ≤ 929; omega, by show _ ≤ 6 * 929; omega⟩ rfl ?_
                  refine V_bipush hC ((-51) : Int32) dL_refused_106 (by decide) ?_
                  refine V_icmp_ne hC 115 dL_refused_108 (by decide) (fun c59 => ?_) (fun c59 => ?_)
                  · have h := ite_f c59 h
                    refine V_sub [1, 0] rfl ?_
                    refine V_widen (k := u + 460) (n := 6 * (u + 460)) (by omega) (by omega) ?_
                    exact b_L_refused_115 hC hr hlk hX hlt (by omega) h
                  · have h := ite_t c59 h
                    refine V_iconst hC (1 : Int32) dL_refused_111 (by decide) ?_
                    refine V_goto hC 116 dL_refused_112 (by decide) ?_
                    refine V_sub [1, 0] rfl ?_
                    refine V_widen (k := u + 460) (n := 6 * (u + 460)) (by omega) (by omega) ?_
                    exact b_L_refused_116 hC hr hlk hX hlt (by omega) h
set_option maxRecDepth 100000 in
set_option maxHeartbeats 8000000 in
theorem b_L_isIn_21 {u : Nat} {rv : Int32} {Mf : Mem} {x2 : Int32} {x3 : Int32} {M : Mem} (hC : Cx p s m args c cL_isIn RL 4 G) (hr : meth.sig.returnType = some .boolean) (hlk : meth.locks = false) (hX : XF G s) (hlt : l.stackTraces = false) (hu : u + (0) ≤ 22) (h : B_L_isIn_21 x2 x3 M = some (rv, Mf)) : V p l e (rmc 11 22) s m args below meth c 4 G (u) (6 * (u)) (MQ below (gQ G (some (.int rv)) Mf) args s 22 (6 * 22) (gA G)) 21 [(2, .int x2), (3, .int x3)] [] M := by
  refine V_iload_n hC dL_isIn_21 rfl 1 rfl ?_
  refine V_iload_n hC dL_isIn_22 rfl 0 rfl ?_
  refine V_icmp_ne hC 30 dL_isIn_23 (by decide) (fun c2 => ?_) (fun c2 => ?_)
  · have h := ite_f c2 h
    refine V_iconst hC (0 : Int32) dL_isIn_30 (by decide) ?_
    obtain ⟨rfl, rfl⟩ := Prod.mk.inj (Option.some.inj h)
    exact V_pzret hC hr hlk (by omega) (by omega) (Or.inl rfl) dL_isIn_31
  · have h := ite_t c2 h
    refine V_iconst hC (1 : Int32) dL_isIn_26 (by decide) ?_
    refine V_goto hC 31 dL_isIn_27 (by decide) ?_
    obtain ⟨rfl, rfl⟩ := Prod.mk.inj (Option.some.inj h)
    exact V_pzret hC hr hlk (by omega) (by omega) (Or.inr rfl) dL_isIn_31
set_option maxRecDepth 100000 in
set_option maxHeartbeats 8000000 in
theorem l_L_isIn_2 {rv : Int32} {Mf : Mem} {x2 : Int32} (hC : Cx p s m args c cL_isIn RL 4 G) (hr : meth.sig.returnType = some .boolean) (hlk : meth.locks = false) (hX : XF G s) (hlt : l.stackTraces = false) : ∀ (n : Nat) {u : Nat} {x3 : Int32} {M : Mem} (hu : u + (1 * n + (0)) ≤ 22) (h : L_L_isIn_2 x2 n x3 M = some (rv, Mf)), V p l e (rmc 11 22) s m args below meth c 4 G (u) (6 * (u)) (MQ below (gQ G (some (.int rv)) Mf) args s 22 (6 * 22) (gA G)) 2 [(0, .ref (adr G 6 0)), (2, .int x2), (3, .int x3)] [] M := by
  intro n
  induction n with
  | zero => intro u x3 M hu h; cases h
  | succ n ih =>
    intro u x3 M hu h
    rw [Nat.mul_succ] at hu
    obtain ⟨v2, ev2⟩ : ∃ v, v = 1 * n + (0) := ⟨_, rfl⟩
    have hv2 : 0 ≤ v2 := by rw [ev2]; exact Nat.le_add_left _ _
    have hk2 : ∀ (u : Nat) (x3 : Int32) (M : Mem), u + v2 ≤ 22 → L_L_isIn_2 x2 n x3 M = some (rv, Mf) → V p l e (rmc 11 22) s m args below meth c 4 G (u) (6 * (u)) (MQ below (gQ G (some (.int rv)) Mf) args s 22 (6 * 22) (gA G)) 2 [(0, .ref (adr G 6 0)), (2, .int x2), (3, .int x3)] [] M := fun _ _ _ hw z => ih (by rw [← ev2]; exact hw) z
    have hu : u + 1 + v2 ≤ 22 := bud hu ev2
    clear ih ev2
    refine V_iload_n hC dL_isIn_2 rfl 2 rfl ?_
    refine V_if_lt hC 21 dL_isIn_3 (by decide) (fun c1 => ?_) (fun c1 => ?_)
    · have h := ite_t c1 h
      refine V_sub [1, 2] rfl ?_
      refine V_widen (k := u + 0) (n := 6 * (u + 0)) (by omega) (by omega) ?_
      exact b_L_isIn_21 hC hr hlk hX hlt (by omega) h
    · have h := ite_f c1 h
      refine V_iload_n hC dL_isIn_6 rfl 2 rfl ?_
      refine V_iload_n hC dL_isIn_7 rfl 1 rfl ?_
      refine V_icmp_eq hC 21 dL_isIn_8 (by decide) (fun c3 => ?_) (fun c3 => ?_)
      · have h := ite_t c3 h
        refine V_sub [1, 2] rfl ?_
        refine V_widen (k := u + 0) (n := 6 * (u + 0)) (by omega) (by omega) ?_
        exact b_L_isIn_21 hC hr hlk hX hlt (by omega) h
      · have h := ite_f c3 h
        refine V_aload_n hC dL_isIn_11 rfl 0 rfl ?_
        refine V_iload_n hC dL_isIn_12 rfl 2 rfl ?_
        refine V_iconst hC (0 : Int32) dL_isIn_13 (by decide) ?_
        obtain ⟨q4, e4, h⟩ := bind_some h
        refine V_cW hC hX [.ref (adr G 6 0), .int x3, .int (0 : Int32)] (c_L_section (l := l) (rv := q4.1) (Mf := q4.2) hlt hC.2.2.2.2.2.2.2 e4) kx_L_section gw_977 gw_976 ⟨Nat.le_of_ble_eq_true rfl, Nat.le_of_ble_eq_true rfl⟩ rfl (Nat.le_of_ble_eq_true rfl) dL_isIn_14 ⟨by show _ ≤ 22; omega, by show _ ≤ 6 * 22; omega⟩ rfl ?_
        refine V_istore_n hC ([(3, .int q4.1), (0, .ref (adr G 6 0)), (2, .int x2)]) dL_isIn_17 rfl (by decide) rfl ?_
        refine V_goto hC 2 dL_isIn_18 (by decide) ?_
        refine V_sub [1, 2, 0] rfl ?_
        refine V_widen (k := u + 1) (n := 6 * (u + 1)) (by omega) (by omega) ?_
        exact hk2 _ _ _ (by omega) h
set_option maxRecDepth 100000 in
set_option maxHeartbeats 8000000 in
theorem c_L_isIn {l : Launch} {G : Geo} {x1 : Int32} {x2 : Int32} {rv : Int32} {Mf : Mem} {M : Mem} (hlt : l.stackTraces = false) (hG : gD G) (h : f_L_isIn x1 x2 M = some (rv, Mf)) : Met l yL_isIn (.code yL_isIn cL_isIn 4 (some .boolean) :: GL) (rmc 11 22) (gPx G [.ref (adr G 6 0), .int x1, .int x2] M) (gQ G (some (.int rv)) Mf) 22 (6 * 22) (gA G) := by
  refine PMet_of (own := RL) (L := [(0, .ref (adr G 6 0)), (1, .int x1), (2, .int x2)]) hG (by decide +kernel) rfl (Nat.le_of_ble_eq_true rfl) rfl ?_
  intro p e s m args below meth c hC hX hr hlk
  obtain ⟨u, eu⟩ : ∃ u : Nat, u = 0 := ⟨0, rfl⟩
  have hu : u + 22 ≤ 22 := by omega
  refine V_u (u := u) eu ?_
  refine V_iload_n hC dL_isIn_0 rfl 1 rfl ?_
  refine V_istore_n hC ([(3, .int x1), (0, .ref (adr G 6 0)), (1, .int x1), (2, .int x2)]) dL_isIn_1 rfl (by decide) rfl ?_
  refine V_sub [1, 3, 0] rfl ?_
  refine V_widen (k := u + 0) (n := 6 * (u + 0)) (by omega) (by omega) ?_
  exact l_L_isIn_2 hC hr hlk hX hlt 22 (by omega) h
end
