section
variable {p : Program} {l : Launch} {e : Env} {s : State} {m : MethodId} {args : Array Value} {below : List Frame} {meth : Method} {c : Code} {G : Geo}
theorem b_X9_request_10 {rv : Int32} {Mf : Mem} {x1 : Int32} {x2 : Int32} {x3 : Int32} {z0 : Int32} {M : Mem} (hC : Cx p s m args c cX9_request RX9 6 G) (hr : meth.sig.returnType = some .int) (hlk : meth.locks = false) (h : B_X9_request_10 x1 x2 x3 z0 M = some (rv, Mf)) : V p l e (rmk 8) s m args below meth c 6 G 0 0 (MQ below (gQ G (some (.int rv)) Mf) args s 0 0 (gA G)) 10 [(0, .ref (adr G 7 0)), (1, .int x1), (2, .int x2), (3, .int x3)] [.int z0] M := by
  refine V_istore hC ([(5, .int z0), (0, .ref (adr G 7 0)), (1, .int x1), (2, .int x2), (3, .int x3)]) dX9_request_10 (by decide) rfl ?_
  refine V_aload_n hC dX9_request_12 rfl 1 rfl ?_
  refine V_aload_n hC dX9_request_13 rfl 1 rfl ?_
  refine V_iload_n hC dX9_request_14 rfl 2 rfl ?_
  refine V_iload_n hC dX9_request_15 rfl 3 rfl ?_
  refine V_iload_n hC dX9_request_16 rfl 4 rfl ?_
  refine V_iload hC dX9_request_17 0 rfl ?_
  obtain ⟨q2, e2, h⟩ := bind_some h
  refine V_cVr hC [.int x1, .int x2, .int x3, .int z0] (c_X9_barRequest (l := l) hC.2.2.2.2.2.2.2 e2) kd_X9_barRequest kv_X9_barRequest gw_1459 (r_m0_0).o rfl ⟨Nat.le_of_ble_eq_true rfl, Nat.le_of_ble_eq_true rfl⟩ rfl (Nat.le_of_ble_eq_true rfl) dX9_request_19 ⟨Nat.zero_le _, Nat.zero_le _⟩ rfl ?_
  obtain ⟨q3, e3, h⟩ := bind_some h
  refine V_cVr hC [.int q2] (c_X9_refused (l := l) (rv := q3.1) (Mf := q3.2) hC.2.2.2.2.2.2.2 e3) kd_X9_refused kv_X9_refused gw_1318 (r_m0_0).o rfl ⟨Nat.le_of_ble_eq_true rfl, Nat.le_of_ble_eq_true rfl⟩ rfl (Nat.le_of_ble_eq_true rfl) dX9_request_22 ⟨Nat.zero_le _, Nat.zero_le _⟩ rfl ?_
  refine V_if_eq hC 30 dX9_request_25 (by decide) (fun c4 => ?_) (fun c4 => ?_)
  · have h := ite_t c4 h
    refine V_aload_n hC dX9_request_30 rfl 1 rfl ?_
    obtain ⟨q5, e5, h⟩ := bind_some h
    refine V_cVv hC [] (c_X9_saves (l := l) hC.2.2.2.2.2.2.2 e5) kd_X9_saves kv_X9_saves gw_1363 (r_m0_0).o rfl ⟨Nat.le_of_ble_eq_true rfl, Nat.le_of_ble_eq_true rfl⟩ rfl (Nat.le_of_ble_eq_true rfl) dX9_request_31 ⟨Nat.zero_le _, Nat.zero_le _⟩ rfl ?_
    refine V_aload_n hC dX9_request_34 rfl 1 rfl ?_
    refine V_iload_n hC dX9_request_35 rfl 2 rfl ?_
    refine V_iload_n hC dX9_request_36 rfl 3 rfl ?_
    refine V_iload_n hC dX9_request_37 rfl 4 rfl ?_
    refine V_iload hC dX9_request_38 0 rfl ?_
    obtain ⟨q6, e6, h⟩ := bind_some h
    refine V_cVr hC [.int x1, .int x2, .int x3, .int z0] (c_X9_requests (l := l) (rv := q6.1) (Mf := q6.2) hC.2.2.2.2.2.2.2 e6) kd_X9_requests kv_X9_requests gw_1470 (r_m0_0).o rfl ⟨Nat.le_of_ble_eq_true rfl, Nat.le_of_ble_eq_true rfl⟩ rfl (Nat.le_of_ble_eq_true rfl) dX9_request_40 ⟨Nat.zero_le _, Nat.zero_le _⟩ rfl ?_
    obtain ⟨rfl, rfl⟩ := Prod.mk.inj (Option.some.inj h)
    exact V_iret hC hr hlk dX9_request_43
  · have h := ite_f c4 h
    refine V_iconst hC (0 : Int32) dX9_request_28 (by decide) ?_
    obtain ⟨rfl, rfl⟩ := Prod.mk.inj (Option.some.inj h)
    exact V_iret hC hr hlk dX9_request_29
theorem c_X9_request {l : Launch} {G : Geo} {x1 : Int32} {x2 : Int32} {x3 : Int32} {x4 : Int32} {rv : Int32} {Mf : Mem} {M : Mem} (hG : gD G) (h : f_X9_request x1 x2 x3 x4 M = some (rv, Mf)) : Met l yX9_request (.code yX9_request cX9_request 6 (some .int) :: GL) (rmk 8) (gP G [.ref (adr G 7 0), .int x1, .int x2, .int x3, .int x4] M) (gQ G (some (.int rv)) Mf) 0 0 (gA G) := by
  refine Met_of (own := RX9) (L := [(0, .ref (adr G 7 0)), (1, .int x1), (2, .int x2), (3, .int x3), (4, .int x4)]) hG (by decide +kernel) rfl (Nat.le_of_ble_eq_true rfl) rfl ?_
  intro p e s m args below meth c hC hr hlk
  refine V_iload hC dX9_request_0 4 rfl ?_
  refine V_if_eq hC 9 dX9_request_2 (by decide) (fun c1 => ?_) (fun c1 => ?_)
  · have h := ite_t c1 h
    refine V_iconst hC (0 : Int32) dX9_request_9 (by decide) ?_
    refine V_sub [0, 1, 2, 3] rfl ?_
    exact b_X9_request_10 hC hr hlk h
  · have h := ite_f c1 h
    refine V_iconst hC (1 : Int32) dX9_request_5 (by decide) ?_
    refine V_goto hC 10 dX9_request_6 (by decide) ?_
    refine V_sub [0, 1, 2, 3] rfl ?_
    exact b_X9_request_10 hC hr hlk h
theorem b_X9_cancel_26 {rv : Int32} {Mf : Mem} {x1 : Int32} {z0 : Int32} {M : Mem} (hC : Cx p s m args c cX9_cancel RX9 2 G) (hr : meth.sig.returnType = some .int) (hlk : meth.locks = false) (h : B_X9_cancel_26 x1 z0 M = some (rv, Mf)) : V p l e (rmk 8) s m args below meth c 2 G 0 0 (MQ below (gQ G (some (.int rv)) Mf) args s 0 0 (gA G)) 26 [(0, .ref (adr G 7 0)), (1, .int x1)] [.int z0, .ref (adr G 7 0)] M := by
  obtain ⟨q5, e5, h⟩ := bind_some h
  refine V_cVr hC [.int z0] (c_X9_refused (l := l) (rv := q5.1) (Mf := q5.2) hC.2.2.2.2.2.2.2 e5) kd_X9_refused kv_X9_refused gw_1318 (r_m0_0).o rfl ⟨Nat.le_of_ble_eq_true rfl, Nat.le_of_ble_eq_true rfl⟩ rfl (Nat.le_of_ble_eq_true rfl) dX9_cancel_26 ⟨Nat.zero_le _, Nat.zero_le _⟩ rfl ?_
  refine V_if_eq hC 34 dX9_cancel_29 (by decide) (fun c6 => ?_) (fun c6 => ?_)
  · have h := ite_t c6 h
    refine V_aload_n hC dX9_cancel_34 rfl 0 rfl ?_
    obtain ⟨q7, e7, h⟩ := bind_some h
    refine V_cVv hC [] (c_X9_saves (l := l) hC.2.2.2.2.2.2.2 e7) kd_X9_saves kv_X9_saves gw_1363 (r_m0_0).o rfl ⟨Nat.le_of_ble_eq_true rfl, Nat.le_of_ble_eq_true rfl⟩ rfl (Nat.le_of_ble_eq_true rfl) dX9_cancel_35 ⟨Nat.zero_le _, Nat.zero_le _⟩ rfl ?_
    refine V_aload_n hC dX9_cancel_38 rfl 0 rfl ?_
    refine V_aload_n hC dX9_cancel_39 rfl 0 rfl ?_
    refine V_iload_n hC dX9_cancel_40 rfl 1 rfl ?_
    obtain ⟨q8, e8, h⟩ := bind_some h
    refine V_cVr hC [.int x1] (c_X9_placeOf (l := l) hC.2.2.2.2.2.2.2 e8) kd_X9_placeOf kv_X9_placeOf gw_1466 (r_m0_0).o rfl ⟨Nat.le_of_ble_eq_true rfl, Nat.le_of_ble_eq_true rfl⟩ rfl (Nat.le_of_ble_eq_true rfl) dX9_cancel_41 ⟨Nat.zero_le _, Nat.zero_le _⟩ rfl ?_
    obtain ⟨q9, e9, h⟩ := bind_some h
    refine V_cVv hC [.int q8] (c_X9_leavesLine (l := l) hC.2.2.2.2.2.2.2 e9) kd_X9_leavesLine kv_X9_leavesLine gw_1509 (r_m0_0).o rfl ⟨Nat.le_of_ble_eq_true rfl, Nat.le_of_ble_eq_true rfl⟩ rfl (Nat.le_of_ble_eq_true rfl) dX9_cancel_44 ⟨Nat.zero_le _, Nat.zero_le _⟩ rfl ?_
    refine V_aload_n hC dX9_cancel_47 rfl 0 rfl ?_
    obtain ⟨q10, e10, h⟩ := bind_some h
    refine V_cVv hC [] (c_X9_serves (l := l) hC.2.2.2.2.2.2.2 e10) kd_X9_serves kv_X9_serves gw_1513 (r_m0_0).o rfl ⟨Nat.le_of_ble_eq_true rfl, Nat.le_of_ble_eq_true rfl⟩ rfl (Nat.le_of_ble_eq_true rfl) dX9_cancel_48 ⟨Nat.zero_le _, Nat.zero_le _⟩ rfl ?_
    refine V_aload_n hC dX9_cancel_51 rfl 0 rfl ?_
    obtain ⟨q11, e11, h⟩ := bind_some h
    refine V_cVr hC [] (c_X9_waits (l := l) hC.2.2.2.2.2.2.2 e11) kd_X9_waits kv_X9_waits gw_1356 (r_m0_0).o rfl ⟨Nat.le_of_ble_eq_true rfl, Nat.le_of_ble_eq_true rfl⟩ rfl (Nat.le_of_ble_eq_true rfl) dX9_cancel_52 ⟨Nat.zero_le _, Nat.zero_le _⟩ rfl ?_
    obtain ⟨rfl, rfl⟩ := Prod.mk.inj (Option.some.inj h)
    exact V_iret hC hr hlk dX9_cancel_55
  · have h := ite_f c6 h
    refine V_iconst hC (0 : Int32) dX9_cancel_32 (by decide) ?_
    obtain ⟨rfl, rfl⟩ := Prod.mk.inj (Option.some.inj h)
    exact V_iret hC hr hlk dX9_cancel_33
theorem c_X9_cancel {l : Launch} {G : Geo} {x1 : Int32} {rv : Int32} {Mf : Mem} {M : Mem} (hG : gD G) (h : f_X9_cancel x1 M = some (rv, Mf)) : Met l yX9_cancel (.code yX9_cancel cX9_cancel 2 (some .int) :: GL) (rmk 8) (gP G [.ref (adr G 7 0), .int x1] M) (gQ G (some (.int rv)) Mf) 0 0 (gA G) := by
  refine Met_of (own := RX9) (L := [(0, .ref (adr G 7 0)), (1, .int x1)]) hG (by decide +kernel) rfl (Nat.le_of_ble_eq_true rfl) rfl ?_
  intro p e s m args below meth c hC hr hlk
  refine V_aload_n hC dX9_cancel_0 rfl 0 rfl ?_
  refine V_iload_n hC dX9_cancel_1 rfl 1 rfl ?_
  refine V_cSr hC [.int x1] (c_X9_isUser (l := l) hC.2.2.2.2.2.2.2 rfl) kd_X9_isUser gw_1464 gw_1463 ⟨Nat.le_of_ble_eq_true rfl, Nat.le_of_ble_eq_true rfl⟩ rfl (Nat.le_of_ble_eq_true rfl) dX9_cancel_2 ⟨Nat.zero_le _, Nat.zero_le _⟩ rfl ?_
  refine V_if_ne hC 12 dX9_cancel_5 (by decide) (fun c2 => ?_) (fun c2 => ?_)
  · have h := ite_f c2 h
    refine V_aload_n hC dX9_cancel_12 rfl 0 rfl ?_
    refine V_iload_n hC dX9_cancel_13 rfl 1 rfl ?_
    obtain ⟨q3, e3, h⟩ := bind_some h
    refine V_cVr hC [.int x1] (c_X9_placeOf (l := l) hC.2.2.2.2.2.2.2 e3) kd_X9_placeOf kv_X9_placeOf gw_1466 (r_m0_0).o rfl ⟨Nat.le_of_ble_eq_true rfl, Nat.le_of_ble_eq_true rfl⟩ rfl (Nat.le_of_ble_eq_true rfl) dX9_cancel_14 ⟨Nat.zero_le _, Nat.zero_le _⟩ rfl ?_
    refine V_iconst hC ((-1) : Int32) dX9_cancel_17 (by decide) ?_
    refine V_icmp_ne hC 25 dX9_cancel_18 (by decide) (fun c4 => ?_) (fun c4 => ?_)
    · have h := ite_f c4 h
      refine V_iconst hC (0 : Int32) dX9_cancel_25 (by decide) ?_
      exact b_X9_cancel_26 hC hr hlk h
    · have h := ite_t c4 h
      refine V_iconst hC (2 : Int32) dX9_cancel_21 (by decide) ?_
      refine V_goto hC 26 dX9_cancel_22 (by decide) ?_
      exact b_X9_cancel_26 hC hr hlk h
  · have h := ite_t c2 h
    refine V_iconst hC (1 : Int32) dX9_cancel_8 (by decide) ?_
    refine V_goto hC 26 dX9_cancel_9 (by decide) ?_
    exact b_X9_cancel_26 hC hr hlk h
theorem b_X9_renew_54 {rv : Int32} {Mf : Mem} {x1 : Int32} {x2 : Int32} {z0 : Int32} {M : Mem} (hC : Cx p s m args c cX9_renew RX9 3 G) (hr : meth.sig.returnType = some .int) (hlk : meth.locks = false) (h : B_X9_renew_54 x1 x2 z0 M = some (rv, Mf)) : V p l e (rmk 4) s m args below meth c 3 G 0 0 (MQ below (gQ G (some (.int rv)) Mf) args s 0 0 (gA G)) 54 [(0, .ref (adr G 7 0)), (1, .int x1), (2, .int x2)] [.int z0, .ref (adr G 7 0)] M := by
  obtain ⟨q7, e7, h⟩ := bind_some h
  refine V_cVr hC [.int z0] (c_X9_refused (l := l) (rv := q7.1) (Mf := q7.2) hC.2.2.2.2.2.2.2 e7) kd_X9_refused kv_X9_refused gw_1318 (r_m0_0).o rfl ⟨Nat.le_of_ble_eq_true rfl, Nat.le_of_ble_eq_true rfl⟩ rfl (Nat.le_of_ble_eq_true rfl) dX9_renew_54 ⟨Nat.zero_le _, Nat.zero_le _⟩ rfl ?_
  refine V_if_eq hC 62 dX9_renew_57 (by decide) (fun c8 => ?_) (fun c8 => ?_)
  · have h := ite_t c8 h
    refine V_aload_n hC dX9_renew_62 rfl 0 rfl ?_
    obtain ⟨q9, e9, h⟩ := bind_some h
    refine V_cVv hC [] (c_X9_saves (l := l) hC.2.2.2.2.2.2.2 e9) kd_X9_saves kv_X9_saves gw_1363 (r_m0_0).o rfl ⟨Nat.le_of_ble_eq_true rfl, Nat.le_of_ble_eq_true rfl⟩ rfl (Nat.le_of_ble_eq_true rfl) dX9_renew_63 ⟨Nat.zero_le _, Nat.zero_le _⟩ rfl ?_
    refine V_aload_n hC dX9_renew_66 rfl 0 rfl ?_
    refine V_getR hC (r_m0_0) fw_X9_7 dX9_renew_67 ?_
    refine V_iload_n hC dX9_renew_70 rfl 1 rfl ?_
    refine V_iconst hC (3 : Int32) dX9_renew_71 (by decide) ?_
    refine V_cSr hC [.int x1, .int (3 : Int32)] (c_X9_check (l := l) hC.2.2.2.2.2.2.2 rfl) kd_X9_check gw_1350 gw_1349 ⟨Nat.le_of_ble_eq_true rfl, Nat.le_of_ble_eq_true rfl⟩ rfl (Nat.le_of_ble_eq_true rfl) dX9_renew_72 ⟨Nat.zero_le _, Nat.zero_le _⟩ rfl ?_
    refine V_aload_n hC dX9_renew_75 rfl 0 rfl ?_
    refine V_getR hC (r_m0_0) fw_X9_7 dX9_renew_76 ?_
    refine V_iconst hC (0 : Int32) dX9_renew_79 (by decide) ?_
    refine V_iald hC (a_m1) (by decide) dX9_renew_80 ?_
    refine V_iload_n hC dX9_renew_81 rfl 2 rfl ?_
    refine V_iadd hC dX9_renew_82 ?_
    obtain ⟨c11, h⟩ := ite_some h
    refine V_iast hC (a_m1) c11 dX9_renew_83 ?_
    refine V_aload_n hC dX9_renew_84 rfl 0 rfl ?_
    refine V_iload_n hC dX9_renew_85 rfl 1 rfl ?_
    refine V_iconst hC (3 : Int32) dX9_renew_86 (by decide) ?_
    obtain ⟨q12, e12, h⟩ := bind_some h
    refine V_cVr hC [.int x1, .int (3 : Int32)] (c_X9_get (l := l) hC.2.2.2.2.2.2.2 e12) kd_X9_get kv_X9_get gw_1345 (r_m0_0).o rfl ⟨Nat.le_of_ble_eq_true rfl, Nat.le_of_ble_eq_true rfl⟩ rfl (Nat.le_of_ble_eq_true rfl) dX9_renew_87 ⟨Nat.zero_le _, Nat.zero_le _⟩ rfl ?_
    obtain ⟨rfl, rfl⟩ := Prod.mk.inj (Option.some.inj h)
    exact V_iret hC hr hlk dX9_renew_90
  · have h := ite_f c8 h
    refine V_iconst hC (0 : Int32) dX9_renew_60 (by decide) ?_
    obtain ⟨rfl, rfl⟩ := Prod.mk.inj (Option.some.inj h)
    exact V_iret hC hr hlk dX9_renew_61
theorem b_X9_renew_49 {rv : Int32} {Mf : Mem} {x1 : Int32} {x2 : Int32} {M : Mem} (hC : Cx p s m args c cX9_renew RX9 3 G) (hr : meth.sig.returnType = some .int) (hlk : meth.locks = false) (h : B_X9_renew_49 x1 x2 M = some (rv, Mf)) : V p l e (rmk 4) s m args below meth c 3 G 0 0 (MQ below (gQ G (some (.int rv)) Mf) args s 0 0 (gA G)) 49 [(0, .ref (adr G 7 0)), (1, .int x1), (2, .int x2)] [.ref (adr G 7 0)] M := by
  refine V_iconst hC (3 : Int32) dX9_renew_49 (by decide) ?_
  refine V_goto hC 54 dX9_renew_50 (by decide) ?_
  exact b_X9_renew_54 hC hr hlk h
theorem c_X9_renew {l : Launch} {G : Geo} {x1 : Int32} {x2 : Int32} {rv : Int32} {Mf : Mem} {M : Mem} (hG : gD G) (h : f_X9_renew x1 x2 M = some (rv, Mf)) : Met l yX9_renew (.code yX9_renew cX9_renew 3 (some .int) :: GL) (rmk 4) (gP G [.ref (adr G 7 0), .int x1, .int x2] M) (gQ G (some (.int rv)) Mf) 0 0 (gA G) := by
  refine Met_of (own := RX9) (L := [(0, .ref (adr G 7 0)), (1, .int x1), (2, .int x2)]) hG (by decide +kernel) rfl (Nat.le_of_ble_eq_true rfl) rfl ?_
  intro p e s m args below meth c hC hr hlk
  refine V_aload_n hC dX9_renew_0 rfl 0 rfl ?_
  refine V_aload_n hC dX9_renew_1 rfl 0 rfl ?_
  refine V_iload_n hC dX9_renew_2 rfl 1 rfl ?_
  obtain ⟨q1, e1, h⟩ := bind_some h
  refine V_cVr hC [.int x1] (c_X9_isCheck (l := l) hC.2.2.2.2.2.2.2 e1) kd_X9_isCheck kv_X9_isCheck gw_1341 (r_m0_0).o rfl ⟨Nat.le_of_ble_eq_true rfl, Nat.le_of_ble_eq_true rfl⟩ rfl (Nat.le_of_ble_eq_true rfl) dX9_renew_3 ⟨Nat.zero_le _, Nat.zero_le _⟩ rfl ?_
  refine V_if_ne hC 13 dX9_renew_6 (by decide) (fun c2 => ?_) (fun c2 => ?_)
  · have h := ite_f c2 h
    refine V_iload_n hC dX9_renew_13 rfl 2 rfl ?_
    refine V_iconst hC (1 : Int32) dX9_renew_14 (by decide) ?_
    refine V_sipush hC (1000 : Int32) dX9_renew_15 (by decide) ?_
    refine V_cSr hC [.int x2, .int (1 : Int32), .int (1000 : Int32)] (c_X9_within (l := l) hC.2.2.2.2.2.2.2 rfl) kd_X9_within gw_1331 gw_1330 ⟨Nat.le_of_ble_eq_true rfl, Nat.le_of_ble_eq_true rfl⟩ rfl (Nat.le_of_ble_eq_true rfl) dX9_renew_18 ⟨Nat.zero_le _, Nat.zero_le _⟩ rfl ?_
    refine V_if_ne hC 28 dX9_renew_21 (by decide) (fun c4 => ?_) (fun c4 => ?_)
    · have h := ite_f c4 h
      refine V_aload_n hC dX9_renew_28 rfl 0 rfl ?_
      refine V_iload_n hC dX9_renew_29 rfl 1 rfl ?_
      obtain ⟨q5, e5, h⟩ := bind_some h
      refine V_cVr hC [.int x1] (c_X9_isHeld (l := l) hC.2.2.2.2.2.2.2 e5) kd_X9_isHeld kv_X9_isHeld gw_1439 (r_m0_0).o rfl ⟨Nat.le_of_ble_eq_true rfl, Nat.le_of_ble_eq_true rfl⟩ rfl (Nat.le_of_ble_eq_true rfl) dX9_renew_30 ⟨Nat.zero_le _, Nat.zero_le _⟩ rfl ?_
      refine V_if_eq hC 49 dX9_renew_33 (by decide) (fun c6 => ?_) (fun c6 => ?_)
      · have h := ite_t c6 h
        exact b_X9_renew_49 hC hr hlk h
      · have h := ite_f c6 h
        refine V_aload_n hC dX9_renew_36 rfl 0 rfl ?_
        refine V_aload_n hC dX9_renew_37 rfl 0 rfl ?_
        refine V_iload_n hC dX9_renew_38 rfl 1 rfl ?_
        refine V_iconst hC (2 : Int32) dX9_renew_39 (by decide) ?_
        obtain ⟨q13, e13, h⟩ := bind_some h
        refine V_cVr hC [.int x1, .int (2 : Int32)] (c_X9_get (l := l) hC.2.2.2.2.2.2.2 e13) kd_X9_get kv_X9_get gw_1345 (r_m0_0).o rfl ⟨Nat.le_of_ble_eq_true rfl, Nat.le_of_ble_eq_true rfl⟩ rfl (Nat.le_of_ble_eq_true rfl) dX9_renew_40 ⟨Nat.zero_le _, Nat.zero_le _⟩ rfl ?_
        obtain ⟨q14, e14, h⟩ := bind_some h
        refine V_cVr hC [.int q13] (c_X9_isWaitedFor (l := l) hC.2.2.2.2.2.2.2 e14) kd_X9_isWaitedFor kv_X9_isWaitedFor gw_1375 (r_m0_0).o rfl ⟨Nat.le_of_ble_eq_true rfl, Nat.le_of_ble_eq_true rfl⟩ rfl (Nat.le_of_ble_eq_true rfl) dX9_renew_43 ⟨Nat.zero_le _, Nat.zero_le _⟩ rfl ?_
        refine V_if_eq hC 53 dX9_renew_46 (by decide) (fun c15 => ?_) (fun c15 => ?_)
        · have h := ite_t c15 h
          refine V_iconst hC (0 : Int32) dX9_renew_53 (by decide) ?_
          exact b_X9_renew_54 hC hr hlk h
        · have h := ite_f c15 h
          exact b_X9_renew_49 hC hr hlk h
    · have h := ite_t c4 h
      refine V_iconst hC (2 : Int32) dX9_renew_24 (by decide) ?_
      refine V_goto hC 54 dX9_renew_25 (by decide) ?_
      exact b_X9_renew_54 hC hr hlk h
  · have h := ite_t c2 h
    refine V_iconst hC (1 : Int32) dX9_renew_9 (by decide) ?_
    refine V_goto hC 54 dX9_renew_10 (by decide) ?_
    exact b_X9_renew_54 hC hr hlk h
theorem c_X9_barBreak {l : Launch} {G : Geo} {x1 : Int32} {rv : Int32} {M : Mem} (hG : gD G) (h : f_X9_barBreak x1 M = some rv) : Met l yX9_barBreak (.code yX9_barBreak cX9_barBreak 2 (some .int) :: GL) (rmk 4) (gP G [.ref (adr G 7 0), .int x1] M) (gQ G (some (.int rv)) M) 0 0 (gA G) := by
  refine Met_of (own := RX9) (L := [(0, .ref (adr G 7 0)), (1, .int x1)]) hG (by decide +kernel) rfl (Nat.le_of_ble_eq_true rfl) rfl ?_
  intro p e s m args below meth c hC hr hlk
  refine V_aload_n hC dX9_barBreak_0 rfl 0 rfl ?_
  refine V_iload_n hC dX9_barBreak_1 rfl 1 rfl ?_
  obtain ⟨q1, e1, h⟩ := bind_some h
  refine V_cVr hC [.int x1] (c_X9_isCheck (l := l) hC.2.2.2.2.2.2.2 e1) kd_X9_isCheck kv_X9_isCheck gw_1341 (r_m0_0).o rfl ⟨Nat.le_of_ble_eq_true rfl, Nat.le_of_ble_eq_true rfl⟩ rfl (Nat.le_of_ble_eq_true rfl) dX9_barBreak_2 ⟨Nat.zero_le _, Nat.zero_le _⟩ rfl ?_
  refine V_if_ne hC 12 dX9_barBreak_5 (by decide) (fun c2 => ?_) (fun c2 => ?_)
  · have h := ite_f c2 h
    refine V_aload_n hC dX9_barBreak_12 rfl 0 rfl ?_
    refine V_iload_n hC dX9_barBreak_13 rfl 1 rfl ?_
    obtain ⟨q3, e3, h⟩ := bind_some h
    refine V_cVr hC [.int x1] (c_X9_isHeld (l := l) hC.2.2.2.2.2.2.2 e3) kd_X9_isHeld kv_X9_isHeld gw_1439 (r_m0_0).o rfl ⟨Nat.le_of_ble_eq_true rfl, Nat.le_of_ble_eq_true rfl⟩ rfl (Nat.le_of_ble_eq_true rfl) dX9_barBreak_14 ⟨Nat.zero_le _, Nat.zero_le _⟩ rfl ?_
    refine V_if_eq hC 24 dX9_barBreak_17 (by decide) (fun c4 => ?_) (fun c4 => ?_)
    · have h := ite_t c4 h
      refine V_iconst hC (2 : Int32) dX9_barBreak_24 (by decide) ?_
      obtain rfl := Option.some.inj h
      exact V_iret hC hr hlk dX9_barBreak_25
    · have h := ite_f c4 h
      refine V_iconst hC (0 : Int32) dX9_barBreak_20 (by decide) ?_
      refine V_goto hC 25 dX9_barBreak_21 (by decide) ?_
      obtain rfl := Option.some.inj h
      exact V_iret hC hr hlk dX9_barBreak_25
  · have h := ite_t c2 h
    refine V_iconst hC (1 : Int32) dX9_barBreak_8 (by decide) ?_
    refine V_goto hC 25 dX9_barBreak_9 (by decide) ?_
    obtain rfl := Option.some.inj h
    exact V_iret hC hr hlk dX9_barBreak_25
theorem c_X9_breaks {l : Launch} {G : Geo} {x1 : Int32} {rv : Int32} {Mf : Mem} {M : Mem} (hG : gD G) (h : f_X9_breaks x1 M = some (rv, Mf)) : Met l yX9_breaks (.code yX9_breaks cX9_breaks 2 (some .int) :: GL) (rmk 8) (gP G [.ref (adr G 7 0), .int x1] M) (gQ G (some (.int rv)) Mf) 0 0 (gA G) := by
  refine Met_of (own := RX9) (L := [(0, .ref (adr G 7 0)), (1, .int x1)]) hG (by decide +kernel) rfl (Nat.le_of_ble_eq_true rfl) rfl ?_
  intro p e s m args below meth c hC hr hlk
  refine V_aload_n hC dX9_breaks_0 rfl 0 rfl ?_
  refine V_iload_n hC dX9_breaks_1 rfl 1 rfl ?_
  obtain ⟨q1, e1, h⟩ := bind_some h
  refine V_cVv hC [.int x1] (c_X9_loses (l := l) hC.2.2.2.2.2.2.2 e1) kd_X9_loses kv_X9_loses gw_1533 (r_m0_0).o rfl ⟨Nat.le_of_ble_eq_true rfl, Nat.le_of_ble_eq_true rfl⟩ rfl (Nat.le_of_ble_eq_true rfl) dX9_breaks_2 ⟨Nat.zero_le _, Nat.zero_le _⟩ rfl ?_
  refine V_aload_n hC dX9_breaks_5 rfl 0 rfl ?_
  obtain ⟨q2, e2, h⟩ := bind_some h
  refine V_cVv hC [] (c_X9_serves (l := l) hC.2.2.2.2.2.2.2 e2) kd_X9_serves kv_X9_serves gw_1513 (r_m0_0).o rfl ⟨Nat.le_of_ble_eq_true rfl, Nat.le_of_ble_eq_true rfl⟩ rfl (Nat.le_of_ble_eq_true rfl) dX9_breaks_6 ⟨Nat.zero_le _, Nat.zero_le _⟩ rfl ?_
  refine V_aload_n hC dX9_breaks_9 rfl 0 rfl ?_
  refine V_iload_n hC dX9_breaks_10 rfl 1 rfl ?_
  refine V_iconst hC (1 : Int32) dX9_breaks_11 (by decide) ?_
  obtain ⟨q3, e3, h⟩ := bind_some h
  refine V_cVr hC [.int x1, .int (1 : Int32)] (c_X9_get (l := l) hC.2.2.2.2.2.2.2 e3) kd_X9_get kv_X9_get gw_1345 (r_m0_0).o rfl ⟨Nat.le_of_ble_eq_true rfl, Nat.le_of_ble_eq_true rfl⟩ rfl (Nat.le_of_ble_eq_true rfl) dX9_breaks_12 ⟨Nat.zero_le _, Nat.zero_le _⟩ rfl ?_
  obtain ⟨rfl, rfl⟩ := Prod.mk.inj (Option.some.inj h)
  exact V_iret hC hr hlk dX9_breaks_15
theorem c_X9_breakUp {l : Launch} {G : Geo} {x1 : Int32} {rv : Int32} {Mf : Mem} {M : Mem} (hG : gD G) (h : f_X9_breakUp x1 M = some (rv, Mf)) : Met l yX9_breakUp (.code yX9_breakUp cX9_breakUp 3 (some .int) :: GL) (rmk 9) (gP G [.ref (adr G 7 0), .int x1] M) (gQ G (some (.int rv)) Mf) 0 0 (gA G) := by
  refine Met_of (own := RX9) (L := [(0, .ref (adr G 7 0)), (1, .int x1)]) hG (by decide +kernel) rfl (Nat.le_of_ble_eq_true rfl) rfl ?_
  intro p e s m args below meth c hC hr hlk
  refine V_aload_n hC dX9_breakUp_0 rfl 0 rfl ?_
  refine V_aload_n hC dX9_breakUp_1 rfl 0 rfl ?_
  refine V_iload_n hC dX9_breakUp_2 rfl 1 rfl ?_
  obtain ⟨q1, e1, h⟩ := bind_some h
  refine V_cVr hC [.int x1] (c_X9_barBreak (l := l) hC.2.2.2.2.2.2.2 e1) kd_X9_barBreak kv_X9_barBreak gw_1525 (r_m0_0).o rfl ⟨Nat.le_of_ble_eq_true rfl, Nat.le_of_ble_eq_true rfl⟩ rfl (Nat.le_of_ble_eq_true rfl) dX9_breakUp_3 ⟨Nat.zero_le _, Nat.zero_le _⟩ rfl ?_
  obtain ⟨q2, e2, h⟩ := bind_some h
  refine V_cVr hC [.int q1] (c_X9_refused (l := l) (rv := q2.1) (Mf := q2.2) hC.2.2.2.2.2.2.2 e2) kd_X9_refused kv_X9_refused gw_1318 (r_m0_0).o rfl ⟨Nat.le_of_ble_eq_true rfl, Nat.le_of_ble_eq_true rfl⟩ rfl (Nat.le_of_ble_eq_true rfl) dX9_breakUp_6 ⟨Nat.zero_le _, Nat.zero_le _⟩ rfl ?_
  refine V_if_eq hC 14 dX9_breakUp_9 (by decide) (fun c3 => ?_) (fun c3 => ?_)
  · have h := ite_t c3 h
    refine V_aload_n hC dX9_breakUp_14 rfl 0 rfl ?_
    obtain ⟨q4, e4, h⟩ := bind_some h
    refine V_cVv hC [] (c_X9_saves (l := l) hC.2.2.2.2.2.2.2 e4) kd_X9_saves kv_X9_saves gw_1363 (r_m0_0).o rfl ⟨Nat.le_of_ble_eq_true rfl, Nat.le_of_ble_eq_true rfl⟩ rfl (Nat.le_of_ble_eq_true rfl) dX9_breakUp_15 ⟨Nat.zero_le _, Nat.zero_le _⟩ rfl ?_
    refine V_aload_n hC dX9_breakUp_18 rfl 0 rfl ?_
    refine V_iload_n hC dX9_breakUp_19 rfl 1 rfl ?_
    refine V_iconst hC (1 : Int32) dX9_breakUp_20 (by decide) ?_
    obtain ⟨q5, e5, h⟩ := bind_some h
    refine V_cVr hC [.int x1, .int (1 : Int32)] (c_X9_get (l := l) hC.2.2.2.2.2.2.2 e5) kd_X9_get kv_X9_get gw_1345 (r_m0_0).o rfl ⟨Nat.le_of_ble_eq_true rfl, Nat.le_of_ble_eq_true rfl⟩ rfl (Nat.le_of_ble_eq_true rfl) dX9_breakUp_21 ⟨Nat.zero_le _, Nat.zero_le _⟩ rfl ?_
    refine V_istore_n hC ([(2, .int q5), (0, .ref (adr G 7 0)), (1, .int x1)]) dX9_breakUp_24 rfl (by decide) rfl ?_
    refine V_aload_n hC dX9_breakUp_25 rfl 1 rfl ?_
    refine V_iload_n hC dX9_breakUp_26 rfl 2 rfl ?_
    obtain ⟨q6, e6, h⟩ := bind_some h
    refine V_cVr hC [.int x1] (c_X9_breaks (l := l) (rv := q6.1) (Mf := q6.2) hC.2.2.2.2.2.2.2 e6) kd_X9_breaks kv_X9_breaks gw_1529 (r_m0_0).o rfl ⟨Nat.le_of_ble_eq_true rfl, Nat.le_of_ble_eq_true rfl⟩ rfl (Nat.le_of_ble_eq_true rfl) dX9_breakUp_27 ⟨Nat.zero_le _, Nat.zero_le _⟩ rfl ?_
    refine V_pop hC dX9_breakUp_30 rfl ?_
    refine V_iload_n hC dX9_breakUp_31 rfl 0 rfl ?_
    obtain ⟨rfl, rfl⟩ := Prod.mk.inj (Option.some.inj h)
    exact V_iret hC hr hlk dX9_breakUp_32
  · have h := ite_f c3 h
    refine V_iconst hC (0 : Int32) dX9_breakUp_12 (by decide) ?_
    obtain ⟨rfl, rfl⟩ := Prod.mk.inj (Option.some.inj h)
    exact V_iret hC hr hlk dX9_breakUp_13
theorem b_X9_edited_85 {rv : Int32} {k4 : Int32 → Int32 → Option Int32} {x1 : Int32} {x2 : Int32} {x3 : Int32} {M : Mem} (hC : Cx p s m args c cX9_edited RX9 5 G) (hr : meth.sig.returnType = some .int) (hlk : meth.locks = false) (hk4 : ∀ (x2 : Int32) (x3 : Int32), k4 x2 x3 = some rv → V p l e (rmk 2) s m args below meth c 5 G 0 0 (MQ below (gQ G (some (.int rv)) M) args s 0 0 (gA G)) 4 [(0, .ref (adr G 7 0)), (1, .int x1), (2, .int x2), (3, .int x3)] [] M) (h : B_X9_edited_85 k4 x1 x2 x3 M = some rv) : V p l e (rmk 2) s m args below meth c 5 G 0 0 (MQ below (gQ G (some (.int rv)) M) args s 0 0 (gA G)) 85 [(0, .ref (adr G 7 0)), (1, .int x1), (2, .int x2), (3, .int x3)] [] M := by
  refine V_iinc hC (x3 + 1) ([(3, .int (x3 + 1)), (0, .ref (adr G 7 0)), (1, .int x1), (2, .int x2)]) dX9_edited_85 3 rfl rfl (by decide) rfl ?_
  refine V_goto hC 4 dX9_edited_88 (by decide) ?_
  refine V_sub [1, 2, 3, 0] rfl ?_
  exact hk4 _ _ h
theorem b_X9_edited_77 {rv : Int32} {k4 : Int32 → Int32 → Option Int32} {k13 : Int32 → Int32 → Option Int32} {x1 : Int32} {x3 : Int32} {x4 : Int32} {z0 : Int32} {z1 : Int32} {M : Mem} (hC : Cx p s m args c cX9_edited RX9 5 G) (hr : meth.sig.returnType = some .int) (hlk : meth.locks = false) (hk4 : ∀ (x2 : Int32) (x3 : Int32), k4 x2 x3 = some rv → V p l e (rmk 2) s m args below meth c 5 G 0 0 (MQ below (gQ G (some (.int rv)) M) args s 0 0 (gA G)) 4 [(0, .ref (adr G 7 0)), (1, .int x1), (2, .int x2), (3, .int x3)] [] M) (hk13 : ∀ (x2 : Int32) (x4 : Int32), k13 x2 x4 = some rv → V p l e (rmk 2) s m args below meth c 5 G 0 0 (MQ below (gQ G (some (.int rv)) M) args s 0 0 (gA G)) 13 [(0, .ref (adr G 7 0)), (1, .int x1), (2, .int x2), (3, .int x3), (4, .int x4)] [] M) (h : B_X9_edited_77 k4 k13 x1 x3 x4 z0 z1 M = some rv) : V p l e (rmk 2) s m args below meth c 5 G 0 0 (MQ below (gQ G (some (.int rv)) M) args s 0 0 (gA G)) 77 [(0, .ref (adr G 7 0)), (1, .int x1), (3, .int x3), (4, .int x4)] [.int z0, .int z1] M := by
  refine V_iadd hC dX9_edited_77 ?_
  refine V_istore_n hC ([(2, .int (z1 + z0)), (0, .ref (adr G 7 0)), (1, .int x1), (3, .int x3), (4, .int x4)]) dX9_edited_78 rfl (by decide) rfl ?_
  refine V_iinc hC (x4 + 1) ([(4, .int (x4 + 1)), (2, .int (z1 + z0)), (0, .ref (adr G 7 0)), (1, .int x1), (3, .int x3)]) dX9_edited_79 4 rfl rfl (by decide) rfl ?_
  refine V_goto hC 13 dX9_edited_82 (by decide) ?_
  refine V_sub [2, 3, 1, 4, 0] rfl ?_
  exact hk13 _ _ h
theorem l_X9_edited_13 {k4 : Int32 → Int32 → Option Int32} {rv : Int32} {x1 : Int32} {x3 : Int32} {M : Mem} (hC : Cx p s m args c cX9_edited RX9 5 G) (hr : meth.sig.returnType = some .int) (hlk : meth.locks = false) (hk4 : ∀ (x2 : Int32) (x3 : Int32), k4 x2 x3 = some rv → V p l e (rmk 2) s m args below meth c 5 G 0 0 (MQ below (gQ G (some (.int rv)) M) args s 0 0 (gA G)) 4 [(0, .ref (adr G 7 0)), (1, .int x1), (2, .int x2), (3, .int x3)] [] M) : ∀ (n : Nat) {x2 : Int32} {x4 : Int32} (h : L_X9_edited_13 k4 x1 x3 M n x2 x4 = some rv), V p l e (rmk 2) s m args below meth c 5 G 0 0 (MQ below (gQ G (some (.int rv)) M) args s 0 0 (gA G)) 13 [(0, .ref (adr G 7 0)), (1, .int x1), (2, .int x2), (3, .int x3), (4, .int x4)] [] M := by
  intro n
  induction n with
  | zero => intro x2 x4 h; cases h
  | succ n ih =>
    intro x2 x4 h
    have hk13 : ∀ (x2 : Int32) (x4 : Int32), L_X9_edited_13 k4 x1 x3 M n x2 x4 = some rv → V p l e (rmk 2) s m args below meth c 5 G 0 0 (MQ below (gQ G (some (.int rv)) M) args s 0 0 (gA G)) 13 [(0, .ref (adr G 7 0)), (1, .int x1), (2, .int x2), (3, .int x3), (4, .int x4)] [] M := fun _ _ z => ih z
    refine V_iload hC dX9_edited_13 4 rfl ?_
    refine V_bipush hC (6 : Int32) dX9_edited_15 (by decide) ?_
    refine V_icmp_ge hC 85 dX9_edited_17 (by decide) (fun c2 => ?_) (fun c2 => ?_)
    · have h := ite_t c2 h
      refine V_sub [0, 1, 2, 3] rfl ?_
      exact b_X9_edited_85 hC hr hlk hk4 h
    · have h := ite_f c2 h
      refine V_aload_n hC dX9_edited_20 rfl 0 rfl ?_
      refine V_iload_n hC dX9_edited_21 rfl 3 rfl ?_
      obtain ⟨q3, e3, h⟩ := bind_some h
      refine V_cVr hC [.int x3] (c_X9_isSection (l := l) hC.2.2.2.2.2.2.2 e3) kd_X9_isSection kv_X9_isSection gw_1326 (r_m0_0).o rfl ⟨Nat.le_of_ble_eq_true rfl, Nat.le_of_ble_eq_true rfl⟩ rfl (Nat.le_of_ble_eq_true rfl) dX9_edited_22 ⟨Nat.zero_le _, Nat.zero_le _⟩ rfl ?_
      refine V_if_eq hC 85 dX9_edited_25 (by decide) (fun c4 => ?_) (fun c4 => ?_)
      · have h := ite_t c4 h
        refine V_sub [0, 1, 2, 3] rfl ?_
        exact b_X9_edited_85 hC hr hlk hk4 h
      · have h := ite_f c4 h
        refine V_aload_n hC dX9_edited_28 rfl 0 rfl ?_
        refine V_iload_n hC dX9_edited_29 rfl 3 rfl ?_
        refine V_aload_n hC dX9_edited_30 rfl 0 rfl ?_
        refine V_iload_n hC dX9_edited_31 rfl 1 rfl ?_
        refine V_iconst hC (2 : Int32) dX9_edited_32 (by decide) ?_
        obtain ⟨q5, e5, h⟩ := bind_some h
        refine V_cVr hC [.int x1, .int (2 : Int32)] (c_X9_get (l := l) hC.2.2.2.2.2.2.2 e5) kd_X9_get kv_X9_get gw_1345 (r_m0_0).o rfl ⟨Nat.le_of_ble_eq_true rfl, Nat.le_of_ble_eq_true rfl⟩ rfl (Nat.le_of_ble_eq_true rfl) dX9_edited_33 ⟨Nat.zero_le _, Nat.zero_le _⟩ rfl ?_
        obtain ⟨q6, e6, h⟩ := bind_some h
        refine V_cVr hC [.int x3, .int q5] (c_X9_isIn (l := l) hC.2.2.2.2.2.2.2 e6) kd_X9_isIn kv_X9_isIn gw_1352 (r_m0_0).o rfl ⟨Nat.le_of_ble_eq_true rfl, Nat.le_of_ble_eq_true rfl⟩ rfl (Nat.le_of_ble_eq_true rfl) dX9_edited_36 ⟨Nat.zero_le _, Nat.zero_le _⟩ rfl ?_
        refine V_if_eq hC 85 dX9_edited_39 (by decide) (fun c7 => ?_) (fun c7 => ?_)
        · have h := ite_t c7 h
          refine V_sub [0, 1, 2, 3] rfl ?_
          exact b_X9_edited_85 hC hr hlk hk4 h
        · have h := ite_f c7 h
          refine V_iload_n hC dX9_edited_42 rfl 2 rfl ?_
          refine V_aload_n hC dX9_edited_43 rfl 0 rfl ?_
          refine V_getR hC (r_m0_0) fw_X9_7 dX9_edited_44 ?_
          refine V_iload_n hC dX9_edited_47 rfl 1 rfl ?_
          refine V_iload_n hC dX9_edited_48 rfl 3 rfl ?_
          refine V_iload hC dX9_edited_49 4 rfl ?_
          refine V_cSr hC [.int x1, .int x3, .int x4] (c_X9_copy (l := l) hC.2.2.2.2.2.2.2 rfl) kd_X9_copy gw_1503 gw_1502 ⟨Nat.le_of_ble_eq_true rfl, Nat.le_of_ble_eq_true rfl⟩ rfl (Nat.le_of_ble_eq_true rfl) dX9_edited_51 ⟨Nat.zero_le _, Nat.zero_le _⟩ rfl ?_
          obtain ⟨c9, h⟩ := ite_some h
          refine V_iald hC (a_m1) c9 dX9_edited_54 ?_
          refine V_aload_n hC dX9_edited_55 rfl 0 rfl ?_
          refine V_getR hC (r_m0_0) fw_X9_7 dX9_edited_56 ?_
          refine V_iload_n hC dX9_edited_59 rfl 1 rfl ?_
          refine V_iload_n hC dX9_edited_60 rfl 3 rfl ?_
          refine V_iload hC dX9_edited_61 4 rfl ?_
          refine V_cSr hC [.int x1, .int x3, .int x4] (c_X9_copy (l := l) hC.2.2.2.2.2.2.2 rfl) kd_X9_copy gw_1503 gw_1502 ⟨Nat.le_of_ble_eq_true rfl, Nat.le_of_ble_eq_true rfl⟩ rfl (Nat.le_of_ble_eq_true rfl) dX9_edited_63 ⟨Nat.zero_le _, Nat.zero_le _⟩ rfl ?_
          refine V_iconst hC (1 : Int32) dX9_edited_66 (by decide) ?_
          refine V_iadd hC dX9_edited_67 ?_
          obtain ⟨c11, h⟩ := ite_some h
          refine V_iald hC (a_m1) c11 dX9_edited_68 ?_
          refine V_icmp_eq hC 76 dX9_edited_69 (by decide) (fun c12 => ?_) (fun c12 => ?_)
          · have h := ite_t c12 h
            refine V_iconst hC (0 : Int32) dX9_edited_76 (by decide) ?_
            refine V_sub [0, 1, 3, 4] rfl ?_
            exact b_X9_edited_77 hC hr hlk hk4 hk13 h
          · have h := ite_f c12 h
            refine V_iconst hC (1 : Int32) dX9_edited_72 (by decide) ?_
            refine V_goto hC 77 dX9_edited_73 (by decide) ?_
            refine V_sub [0, 1, 3, 4] rfl ?_
            exact b_X9_edited_77 hC hr hlk hk4 hk13 h
theorem l_X9_edited_4 {rv : Int32} {x1 : Int32} {M : Mem} (hC : Cx p s m args c cX9_edited RX9 5 G) (hr : meth.sig.returnType = some .int) (hlk : meth.locks = false) : ∀ (n : Nat) {x2 : Int32} {x3 : Int32} (h : L_X9_edited_4 x1 M n x2 x3 = some rv), V p l e (rmk 2) s m args below meth c 5 G 0 0 (MQ below (gQ G (some (.int rv)) M) args s 0 0 (gA G)) 4 [(0, .ref (adr G 7 0)), (1, .int x1), (2, .int x2), (3, .int x3)] [] M := by
  intro n
  induction n with
  | zero => intro x2 x3 h; cases h
  | succ n ih =>
    intro x2 x3 h
    have hk4 : ∀ (x2 : Int32) (x3 : Int32), L_X9_edited_4 x1 M n x2 x3 = some rv → V p l e (rmk 2) s m args below meth c 5 G 0 0 (MQ below (gQ G (some (.int rv)) M) args s 0 0 (gA G)) 4 [(0, .ref (adr G 7 0)), (1, .int x1), (2, .int x2), (3, .int x3)] [] M := fun _ _ z => ih z
    refine V_iload_n hC dX9_edited_4 rfl 3 rfl ?_
    refine V_bipush hC (20 : Int32) dX9_edited_5 (by decide) ?_
    refine V_icmp_ge hC 91 dX9_edited_7 (by decide) (fun c1 => ?_) (fun c1 => ?_)
    · have h := ite_t c1 h
      refine V_iload_n hC dX9_edited_91 rfl 2 rfl ?_
      obtain rfl := Option.some.inj h
      exact V_iret hC hr hlk dX9_edited_92
    · have h := ite_f c1 h
      refine V_iconst hC (0 : Int32) dX9_edited_10 (by decide) ?_
      refine V_istore hC ([(4, .int (0 : Int32)), (0, .ref (adr G 7 0)), (1, .int x1), (2, .int x2), (3, .int x3)]) dX9_edited_11 (by decide) rfl ?_
      refine V_sub [1, 2, 3, 4, 0] rfl ?_
      exact l_X9_edited_13 hC hr hlk hk4 FU h
theorem c_X9_edited {l : Launch} {G : Geo} {x1 : Int32} {rv : Int32} {M : Mem} (hG : gD G) (h : f_X9_edited x1 M = some rv) : Met l yX9_edited (.code yX9_edited cX9_edited 5 (some .int) :: GL) (rmk 2) (gP G [.ref (adr G 7 0), .int x1] M) (gQ G (some (.int rv)) M) 0 0 (gA G) := by
  refine Met_of (own := RX9) (L := [(0, .ref (adr G 7 0)), (1, .int x1)]) hG (by decide +kernel) rfl (Nat.le_of_ble_eq_true rfl) rfl ?_
  intro p e s m args below meth c hC hr hlk
  refine V_iconst hC (0 : Int32) dX9_edited_0 (by decide) ?_
  refine V_istore_n hC ([(2, .int (0 : Int32)), (0, .ref (adr G 7 0)), (1, .int x1)]) dX9_edited_1 rfl (by decide) rfl ?_
  refine V_iconst hC (0 : Int32) dX9_edited_2 (by decide) ?_
  refine V_istore_n hC ([(3, .int (0 : Int32)), (2, .int (0 : Int32)), (0, .ref (adr G 7 0)), (1, .int x1)]) dX9_edited_3 rfl (by decide) rfl ?_
  refine V_sub [2, 3, 1, 0] rfl ?_
  exact l_X9_edited_4 hC hr hlk FU h
theorem c_X9_discards {l : Launch} {G : Geo} {x1 : Int32} {rv : Int32} {Mf : Mem} {M : Mem} (hG : gD G) (h : f_X9_discards x1 M = some (rv, Mf)) : Met l yX9_discards (.code yX9_discards cX9_discards 3 (some .int) :: GL) (rmk 8) (gP G [.ref (adr G 7 0), .int x1] M) (gQ G (some (.int rv)) Mf) 0 0 (gA G) := by
  refine Met_of (own := RX9) (L := [(0, .ref (adr G 7 0)), (1, .int x1)]) hG (by decide +kernel) rfl (Nat.le_of_ble_eq_true rfl) rfl ?_
  intro p e s m args below meth c hC hr hlk
  refine V_aload_n hC dX9_discards_0 rfl 0 rfl ?_
  refine V_iload_n hC dX9_discards_1 rfl 1 rfl ?_
  obtain ⟨q1, e1, h⟩ := bind_some h
  refine V_cVr hC [.int x1] (c_X9_edited (l := l) hC.2.2.2.2.2.2.2 e1) kd_X9_edited kv_X9_edited gw_1545 (r_m0_0).o rfl ⟨Nat.le_of_ble_eq_true rfl, Nat.le_of_ble_eq_true rfl⟩ rfl (Nat.le_of_ble_eq_true rfl) dX9_discards_2 ⟨Nat.zero_le _, Nat.zero_le _⟩ rfl ?_
  refine V_istore_n hC ([(2, .int q1), (0, .ref (adr G 7 0)), (1, .int x1)]) dX9_discards_5 rfl (by decide) rfl ?_
  refine V_aload_n hC dX9_discards_6 rfl 1 rfl ?_
  refine V_getR hC (r_m0_0) fw_X9_7 dX9_discards_7 ?_
  refine V_iload_n hC dX9_discards_10 rfl 2 rfl ?_
  refine V_iconst hC (0 : Int32) dX9_discards_11 (by decide) ?_
  refine V_cSr hC [.int x1, .int (0 : Int32)] (c_X9_check (l := l) hC.2.2.2.2.2.2.2 rfl) kd_X9_check gw_1350 gw_1349 ⟨Nat.le_of_ble_eq_true rfl, Nat.le_of_ble_eq_true rfl⟩ rfl (Nat.le_of_ble_eq_true rfl) dX9_discards_12 ⟨Nat.zero_le _, Nat.zero_le _⟩ rfl ?_
  refine V_iconst hC (0 : Int32) dX9_discards_15 (by decide) ?_
  obtain ⟨c3, h⟩ := ite_some h
  refine V_iast hC (a_m1) c3 dX9_discards_16 ?_
  refine V_aload_n hC dX9_discards_17 rfl 1 rfl ?_
  obtain ⟨q4, e4, h⟩ := bind_some h
  refine V_cVv hC [] (c_X9_serves (l := l) hC.2.2.2.2.2.2.2 e4) kd_X9_serves kv_X9_serves gw_1513 (r_m0_0).o rfl ⟨Nat.le_of_ble_eq_true rfl, Nat.le_of_ble_eq_true rfl⟩ rfl (Nat.le_of_ble_eq_true rfl) dX9_discards_18 ⟨Nat.zero_le _, Nat.zero_le _⟩ rfl ?_
  refine V_iload_n hC dX9_discards_21 rfl 0 rfl ?_
  obtain ⟨rfl, rfl⟩ := Prod.mk.inj (Option.some.inj h)
  exact V_iret hC hr hlk dX9_discards_22
theorem b_X9_discard_14 {rv : Int32} {Mf : Mem} {x1 : Int32} {z0 : Int32} {M : Mem} (hC : Cx p s m args c cX9_discard RX9 2 G) (hr : meth.sig.returnType = some .int) (hlk : meth.locks = false) (h : B_X9_discard_14 x1 z0 M = some (rv, Mf)) : V p l e (rmk 9) s m args below meth c 2 G 0 0 (MQ below (gQ G (some (.int rv)) Mf) args s 0 0 (gA G)) 14 [(0, .ref (adr G 7 0)), (1, .int x1)] [.int z0, .ref (adr G 7 0)] M := by
  obtain ⟨q3, e3, h⟩ := bind_some h
  refine V_cVr hC [.int z0] (c_X9_refused (l := l) (rv := q3.1) (Mf := q3.2) hC.2.2.2.2.2.2.2 e3) kd_X9_refused kv_X9_refused gw_1318 (r_m0_0).o rfl ⟨Nat.le_of_ble_eq_true rfl, Nat.le_of_ble_eq_true rfl⟩ rfl (Nat.le_of_ble_eq_true rfl) dX9_discard_14 ⟨Nat.zero_le _, Nat.zero_le _⟩ rfl ?_
  refine V_if_eq hC 22 dX9_discard_17 (by decide) (fun c4 => ?_) (fun c4 => ?_)
  · have h := ite_t c4 h
    refine V_aload_n hC dX9_discard_22 rfl 0 rfl ?_
    obtain ⟨q5, e5, h⟩ := bind_some h
    refine V_cVv hC [] (c_X9_saves (l := l) hC.2.2.2.2.2.2.2 e5) kd_X9_saves kv_X9_saves gw_1363 (r_m0_0).o rfl ⟨Nat.le_of_ble_eq_true rfl, Nat.le_of_ble_eq_true rfl⟩ rfl (Nat.le_of_ble_eq_true rfl) dX9_discard_23 ⟨Nat.zero_le _, Nat.zero_le _⟩ rfl ?_
    refine V_aload_n hC dX9_discard_26 rfl 0 rfl ?_
    refine V_iload_n hC dX9_discard_27 rfl 1 rfl ?_
    obtain ⟨q6, e6, h⟩ := bind_some h
    refine V_cVr hC [.int x1] (c_X9_discards (l := l) (rv := q6.1) (Mf := q6.2) hC.2.2.2.2.2.2.2 e6) kd_X9_discards kv_X9_discards gw_1541 (r_m0_0).o rfl ⟨Nat.le_of_ble_eq_true rfl, Nat.le_of_ble_eq_true rfl⟩ rfl (Nat.le_of_ble_eq_true rfl) dX9_discard_28 ⟨Nat.zero_le _, Nat.zero_le _⟩ rfl ?_
    obtain ⟨rfl, rfl⟩ := Prod.mk.inj (Option.some.inj h)
    exact V_iret hC hr hlk dX9_discard_31
  · have h := ite_f c4 h
    refine V_iconst hC (0 : Int32) dX9_discard_20 (by decide) ?_
    obtain ⟨rfl, rfl⟩ := Prod.mk.inj (Option.some.inj h)
    exact V_iret hC hr hlk dX9_discard_21
theorem c_X9_discard {l : Launch} {G : Geo} {x1 : Int32} {rv : Int32} {Mf : Mem} {M : Mem} (hG : gD G) (h : f_X9_discard x1 M = some (rv, Mf)) : Met l yX9_discard (.code yX9_discard cX9_discard 2 (some .int) :: GL) (rmk 9) (gP G [.ref (adr G 7 0), .int x1] M) (gQ G (some (.int rv)) Mf) 0 0 (gA G) := by
  refine Met_of (own := RX9) (L := [(0, .ref (adr G 7 0)), (1, .int x1)]) hG (by decide +kernel) rfl (Nat.le_of_ble_eq_true rfl) rfl ?_
  intro p e s m args below meth c hC hr hlk
  refine V_aload_n hC dX9_discard_0 rfl 0 rfl ?_
  refine V_aload_n hC dX9_discard_1 rfl 0 rfl ?_
  refine V_iload_n hC dX9_discard_2 rfl 1 rfl ?_
  obtain ⟨q1, e1, h⟩ := bind_some h
  refine V_cVr hC [.int x1] (c_X9_isCheck (l := l) hC.2.2.2.2.2.2.2 e1) kd_X9_isCheck kv_X9_isCheck gw_1341 (r_m0_0).o rfl ⟨Nat.le_of_ble_eq_true rfl, Nat.le_of_ble_eq_true rfl⟩ rfl (Nat.le_of_ble_eq_true rfl) dX9_discard_3 ⟨Nat.zero_le _, Nat.zero_le _⟩ rfl ?_
  refine V_if_eq hC 13 dX9_discard_6 (by decide) (fun c2 => ?_) (fun c2 => ?_)
  · have h := ite_t c2 h
    refine V_iconst hC (1 : Int32) dX9_discard_13 (by decide) ?_
    exact b_X9_discard_14 hC hr hlk h
  · have h := ite_f c2 h
    refine V_iconst hC (0 : Int32) dX9_discard_9 (by decide) ?_
    refine V_goto hC 14 dX9_discard_10 (by decide) ?_
    exact b_X9_discard_14 hC hr hlk h
theorem c_X9_isCopied {l : Launch} {G : Geo} {x1 : Int32} {x2 : Int32} {x3 : Int32} {rv : Int32} {M : Mem} (hG : gD G) (h : f_X9_isCopied x1 x2 x3 M = some rv) : Met l yX9_isCopied (.code yX9_isCopied cX9_isCopied 4 (some .boolean) :: GL) (rmk 3) (gP G [.ref (adr G 7 0), .int x1, .int x2, .int x3] M) (gQ G (some (.int rv)) M) 0 0 (gA G) := by
  refine Met_of (own := RX9) (L := [(0, .ref (adr G 7 0)), (1, .int x1), (2, .int x2), (3, .int x3)]) hG (by decide +kernel) rfl (Nat.le_of_ble_eq_true rfl) rfl ?_
  intro p e s m args below meth c hC hr hlk
  refine V_aload_n hC dX9_isCopied_0 rfl 0 rfl ?_
  refine V_iload_n hC dX9_isCopied_1 rfl 1 rfl ?_
  obtain ⟨q1, e1, h⟩ := bind_some h
  refine V_cVr hC [.int x1] (c_X9_isCheck (l := l) hC.2.2.2.2.2.2.2 e1) kd_X9_isCheck kv_X9_isCheck gw_1341 (r_m0_0).o rfl ⟨Nat.le_of_ble_eq_true rfl, Nat.le_of_ble_eq_true rfl⟩ rfl (Nat.le_of_ble_eq_true rfl) dX9_isCopied_2 ⟨Nat.zero_le _, Nat.zero_le _⟩ rfl ?_
  refine V_if_eq hC 35 dX9_isCopied_5 (by decide) (fun c2 => ?_) (fun c2 => ?_)
  · have h := ite_t c2 h
    refine V_iconst hC (0 : Int32) dX9_isCopied_35 (by decide) ?_
    obtain rfl := Option.some.inj h
    exact V_zret hC hr hlk (Or.inl rfl) dX9_isCopied_36
  · have h := ite_f c2 h
    refine V_aload_n hC dX9_isCopied_8 rfl 0 rfl ?_
    refine V_iload_n hC dX9_isCopied_9 rfl 2 rfl ?_
    refine V_iload_n hC dX9_isCopied_10 rfl 3 rfl ?_
    obtain ⟨q3, e3, h⟩ := bind_some h
    refine V_cVr hC [.int x2, .int x3] (c_X9_isLine (l := l) hC.2.2.2.2.2.2.2 e3) kd_X9_isLine kv_X9_isLine gw_1427 (r_m0_0).o rfl ⟨Nat.le_of_ble_eq_true rfl, Nat.le_of_ble_eq_true rfl⟩ rfl (Nat.le_of_ble_eq_true rfl) dX9_isCopied_11 ⟨Nat.zero_le _, Nat.zero_le _⟩ rfl ?_
    refine V_if_eq hC 35 dX9_isCopied_14 (by decide) (fun c4 => ?_) (fun c4 => ?_)
    · have h := ite_t c4 h
      refine V_iconst hC (0 : Int32) dX9_isCopied_35 (by decide) ?_
      obtain rfl := Option.some.inj h
      exact V_zret hC hr hlk (Or.inl rfl) dX9_isCopied_36
    · have h := ite_f c4 h
      refine V_aload_n hC dX9_isCopied_17 rfl 0 rfl ?_
      refine V_iload_n hC dX9_isCopied_18 rfl 2 rfl ?_
      refine V_aload_n hC dX9_isCopied_19 rfl 0 rfl ?_
      refine V_iload_n hC dX9_isCopied_20 rfl 1 rfl ?_
      refine V_iconst hC (2 : Int32) dX9_isCopied_21 (by decide) ?_
      obtain ⟨q5, e5, h⟩ := bind_some h
      refine V_cVr hC [.int x1, .int (2 : Int32)] (c_X9_get (l := l) hC.2.2.2.2.2.2.2 e5) kd_X9_get kv_X9_get gw_1345 (r_m0_0).o rfl ⟨Nat.le_of_ble_eq_true rfl, Nat.le_of_ble_eq_true rfl⟩ rfl (Nat.le_of_ble_eq_true rfl) dX9_isCopied_22 ⟨Nat.zero_le _, Nat.zero_le _⟩ rfl ?_
      obtain ⟨q6, e6, h⟩ := bind_some h
      refine V_cVr hC [.int x2, .int q5] (c_X9_isIn (l := l) hC.2.2.2.2.2.2.2 e6) kd_X9_isIn kv_X9_isIn gw_1352 (r_m0_0).o rfl ⟨Nat.le_of_ble_eq_true rfl, Nat.le_of_ble_eq_true rfl⟩ rfl (Nat.le_of_ble_eq_true rfl) dX9_isCopied_25 ⟨Nat.zero_le _, Nat.zero_le _⟩ rfl ?_
      refine V_if_eq hC 35 dX9_isCopied_28 (by decide) (fun c7 => ?_) (fun c7 => ?_)
      · have h := ite_t c7 h
        refine V_iconst hC (0 : Int32) dX9_isCopied_35 (by decide) ?_
        obtain rfl := Option.some.inj h
        exact V_zret hC hr hlk (Or.inl rfl) dX9_isCopied_36
      · have h := ite_f c7 h
        refine V_iconst hC (1 : Int32) dX9_isCopied_31 (by decide) ?_
        refine V_goto hC 36 dX9_isCopied_32 (by decide) ?_
        obtain rfl := Option.some.inj h
        exact V_zret hC hr hlk (Or.inr rfl) dX9_isCopied_36
theorem c_X9_barEdit {l : Launch} {G : Geo} {x1 : Int32} {x2 : Int32} {x3 : Int32} {x4 : Int32} {rv : Int32} {M : Mem} (hG : gD G) (h : f_X9_barEdit x1 x2 x3 x4 M = some rv) : Met l yX9_barEdit (.code yX9_barEdit cX9_barEdit 5 (some .int) :: GL) (rmk 4) (gP G [.ref (adr G 7 0), .int x1, .int x2, .int x3, .int x4] M) (gQ G (some (.int rv)) M) 0 0 (gA G) := by
  refine Met_of (own := RX9) (L := [(0, .ref (adr G 7 0)), (1, .int x1), (2, .int x2), (3, .int x3), (4, .int x4)]) hG (by decide +kernel) rfl (Nat.le_of_ble_eq_true rfl) rfl ?_
  intro p e s m args below meth c hC hr hlk
  refine V_aload_n hC dX9_barEdit_0 rfl 0 rfl ?_
  refine V_iload_n hC dX9_barEdit_1 rfl 1 rfl ?_
  refine V_iload_n hC dX9_barEdit_2 rfl 2 rfl ?_
  refine V_iload_n hC dX9_barEdit_3 rfl 3 rfl ?_
  obtain ⟨q1, e1, h⟩ := bind_some h
  refine V_cVr hC [.int x1, .int x2, .int x3] (c_X9_isCopied (l := l) hC.2.2.2.2.2.2.2 e1) kd_X9_isCopied kv_X9_isCopied gw_1557 (r_m0_0).o rfl ⟨Nat.le_of_ble_eq_true rfl, Nat.le_of_ble_eq_true rfl⟩ rfl (Nat.le_of_ble_eq_true rfl) dX9_barEdit_4 ⟨Nat.zero_le _, Nat.zero_le _⟩ rfl ?_
  refine V_if_ne hC 14 dX9_barEdit_7 (by decide) (fun c2 => ?_) (fun c2 => ?_)
  · have h := ite_f c2 h
    refine V_iload hC dX9_barEdit_14 4 rfl ?_
    refine V_iconst hC (0 : Int32) dX9_barEdit_16 (by decide) ?_
    refine V_sipush hC (999 : Int32) dX9_barEdit_17 (by decide) ?_
    refine V_cSr hC [.int x4, .int (0 : Int32), .int (999 : Int32)] (c_X9_within (l := l) hC.2.2.2.2.2.2.2 rfl) kd_X9_within gw_1331 gw_1330 ⟨Nat.le_of_ble_eq_true rfl, Nat.le_of_ble_eq_true rfl⟩ rfl (Nat.le_of_ble_eq_true rfl) dX9_barEdit_20 ⟨Nat.zero_le _, Nat.zero_le _⟩ rfl ?_
    refine V_if_ne hC 30 dX9_barEdit_23 (by decide) (fun c4 => ?_) (fun c4 => ?_)
    · have h := ite_f c4 h
      refine V_aload_n hC dX9_barEdit_30 rfl 0 rfl ?_
      refine V_iload_n hC dX9_barEdit_31 rfl 1 rfl ?_
      refine V_iconst hC (5 : Int32) dX9_barEdit_32 (by decide) ?_
      obtain ⟨q5, e5, h⟩ := bind_some h
      refine V_cVr hC [.int x1, .int (5 : Int32)] (c_X9_get (l := l) hC.2.2.2.2.2.2.2 e5) kd_X9_get kv_X9_get gw_1345 (r_m0_0).o rfl ⟨Nat.le_of_ble_eq_true rfl, Nat.le_of_ble_eq_true rfl⟩ rfl (Nat.le_of_ble_eq_true rfl) dX9_barEdit_33 ⟨Nat.zero_le _, Nat.zero_le _⟩ rfl ?_
      refine V_iconst hC (1 : Int32) dX9_barEdit_36 (by decide) ?_
      refine V_icmp_ne hC 44 dX9_barEdit_37 (by decide) (fun c6 => ?_) (fun c6 => ?_)
      · have h := ite_f c6 h
        refine V_iconst hC (0 : Int32) dX9_barEdit_44 (by decide) ?_
        obtain rfl := Option.some.inj h
        exact V_iret hC hr hlk dX9_barEdit_45
      · have h := ite_t c6 h
        refine V_iconst hC (3 : Int32) dX9_barEdit_40 (by decide) ?_
        refine V_goto hC 45 dX9_barEdit_41 (by decide) ?_
        obtain rfl := Option.some.inj h
        exact V_iret hC hr hlk dX9_barEdit_45
    · have h := ite_t c4 h
      refine V_iconst hC (2 : Int32) dX9_barEdit_26 (by decide) ?_
      refine V_goto hC 45 dX9_barEdit_27 (by decide) ?_
      obtain rfl := Option.some.inj h
      exact V_iret hC hr hlk dX9_barEdit_45
  · have h := ite_t c2 h
    refine V_iconst hC (1 : Int32) dX9_barEdit_10 (by decide) ?_
    refine V_goto hC 45 dX9_barEdit_11 (by decide) ?_
    obtain rfl := Option.some.inj h
    exact V_iret hC hr hlk dX9_barEdit_45
theorem c_X9_edits {l : Launch} {G : Geo} {x1 : Int32} {x2 : Int32} {x3 : Int32} {x4 : Int32} {rv : Int32} {Mf : Mem} {M : Mem} (hG : gD G) (h : f_X9_edits x1 x2 x3 x4 M = some (rv, Mf)) : Met l yX9_edits (.code yX9_edits cX9_edits 6 (some .int) :: GL) (rmk 1) (gP G [.ref (adr G 7 0), .int x1, .int x2, .int x3, .int x4] M) (gQ G (some (.int rv)) Mf) 0 0 (gA G) := by
  refine Met_of (own := RX9) (L := [(0, .ref (adr G 7 0)), (1, .int x1), (2, .int x2), (3, .int x3), (4, .int x4)]) hG (by decide +kernel) rfl (Nat.le_of_ble_eq_true rfl) rfl ?_
  intro p e s m args below meth c hC hr hlk
  refine V_aload_n hC dX9_edits_0 rfl 0 rfl ?_
  refine V_getR hC (r_m0_0) fw_X9_7 dX9_edits_1 ?_
  refine V_iload_n hC dX9_edits_4 rfl 1 rfl ?_
  refine V_iload_n hC dX9_edits_5 rfl 2 rfl ?_
  refine V_iload_n hC dX9_edits_6 rfl 3 rfl ?_
  refine V_cSr hC [.int x1, .int x2, .int x3] (c_X9_copy (l := l) hC.2.2.2.2.2.2.2 rfl) kd_X9_copy gw_1503 gw_1502 ⟨Nat.le_of_ble_eq_true rfl, Nat.le_of_ble_eq_true rfl⟩ rfl (Nat.le_of_ble_eq_true rfl) dX9_edits_7 ⟨Nat.zero_le _, Nat.zero_le _⟩ rfl ?_
  refine V_iconst hC (1 : Int32) dX9_edits_10 (by decide) ?_
  refine V_iadd hC dX9_edits_11 ?_
  obtain ⟨c2, h⟩ := ite_some h
  refine V_iald hC (a_m1) c2 dX9_edits_12 ?_
  refine V_istore hC ([(5, .int (M.1 7 1 (cl ((f_X9_copy x1 x2 x3) + (1 : Int32))))), (0, .ref (adr G 7 0)), (1, .int x1), (2, .int x2), (3, .int x3), (4, .int x4)]) dX9_edits_13 (by decide) rfl ?_
  refine V_aload_n hC dX9_edits_15 rfl 1 rfl ?_
  refine V_getR hC (r_m0_0) fw_X9_7 dX9_edits_16 ?_
  refine V_iload_n hC dX9_edits_19 rfl 2 rfl ?_
  refine V_iload_n hC dX9_edits_20 rfl 3 rfl ?_
  refine V_iload_n hC dX9_edits_21 rfl 4 rfl ?_
  refine V_cSr hC [.int x1, .int x2, .int x3] (c_X9_copy (l := l) hC.2.2.2.2.2.2.2 rfl) kd_X9_copy gw_1503 gw_1502 ⟨Nat.le_of_ble_eq_true rfl, Nat.le_of_ble_eq_true rfl⟩ rfl (Nat.le_of_ble_eq_true rfl) dX9_edits_22 ⟨Nat.zero_le _, Nat.zero_le _⟩ rfl ?_
  refine V_iconst hC (1 : Int32) dX9_edits_25 (by decide) ?_
  refine V_iadd hC dX9_edits_26 ?_
  refine V_iload hC dX9_edits_27 5 rfl ?_
  obtain ⟨c4, h⟩ := ite_some h
  refine V_iast hC (a_m1) c4 dX9_edits_29 ?_
  refine V_iload hC dX9_edits_30 0 rfl ?_
  obtain ⟨rfl, rfl⟩ := Prod.mk.inj (Option.some.inj h)
  exact V_iret hC hr hlk dX9_edits_32
theorem c_X9_edit {l : Launch} {G : Geo} {x1 : Int32} {x2 : Int32} {x3 : Int32} {x4 : Int32} {rv : Int32} {Mf : Mem} {M : Mem} (hG : gD G) (h : f_X9_edit x1 x2 x3 x4 M = some (rv, Mf)) : Met l yX9_edit (.code yX9_edit cX9_edit 5 (some .int) :: GL) (rmk 5) (gP G [.ref (adr G 7 0), .int x1, .int x2, .int x3, .int x4] M) (gQ G (some (.int rv)) Mf) 0 0 (gA G) := by
  refine Met_of (own := RX9) (L := [(0, .ref (adr G 7 0)), (1, .int x1), (2, .int x2), (3, .int x3), (4, .int x4)]) hG (by decide +kernel) rfl (Nat.le_of_ble_eq_true rfl) rfl ?_
  intro p e s m args below meth c hC hr hlk
  refine V_aload_n hC dX9_edit_0 rfl 0 rfl ?_
  refine V_aload_n hC dX9_edit_1 rfl 0 rfl ?_
  refine V_iload_n hC dX9_edit_2 rfl 1 rfl ?_
  refine V_iload_n hC dX9_edit_3 rfl 2 rfl ?_
  refine V_iload_n hC dX9_edit_4 rfl 3 rfl ?_
  refine V_iload hC dX9_edit_5 4 rfl ?_
  obtain ⟨q1, e1, h⟩ := bind_some h
  refine V_cVr hC [.int x1, .int x2, .int x3, .int x4] (c_X9_barEdit (l := l) hC.2.2.2.2.2.2.2 e1) kd_X9_barEdit kv_X9_barEdit gw_1553 (r_m0_0).o rfl ⟨Nat.le_of_ble_eq_true rfl, Nat.le_of_ble_eq_true rfl⟩ rfl (Nat.le_of_ble_eq_true rfl) dX9_edit_7 ⟨Nat.zero_le _, Nat.zero_le _⟩ rfl ?_
  obtain ⟨q2, e2, h⟩ := bind_some h
  refine V_cVr hC [.int q1] (c_X9_refused (l := l) (rv := q2.1) (Mf := q2.2) hC.2.2.2.2.2.2.2 e2) kd_X9_refused kv_X9_refused gw_1318 (r_m0_0).o rfl ⟨Nat.le_of_ble_eq_true rfl, Nat.le_of_ble_eq_true rfl⟩ rfl (Nat.le_of_ble_eq_true rfl) dX9_edit_10 ⟨Nat.zero_le _, Nat.zero_le _⟩ rfl ?_
  refine V_if_eq hC 18 dX9_edit_13 (by decide) (fun c3 => ?_) (fun c3 => ?_)
  · have h := ite_t c3 h
    refine V_aload_n hC dX9_edit_18 rfl 0 rfl ?_
    obtain ⟨q4, e4, h⟩ := bind_some h
    refine V_cVv hC [] (c_X9_saves (l := l) hC.2.2.2.2.2.2.2 e4) kd_X9_saves kv_X9_saves gw_1363 (r_m0_0).o rfl ⟨Nat.le_of_ble_eq_true rfl, Nat.le_of_ble_eq_true rfl⟩ rfl (Nat.le_of_ble_eq_true rfl) dX9_edit_19 ⟨Nat.zero_le _, Nat.zero_le _⟩ rfl ?_
    refine V_aload_n hC dX9_edit_22 rfl 0 rfl ?_
    refine V_iload_n hC dX9_edit_23 rfl 1 rfl ?_
    refine V_iload_n hC dX9_edit_24 rfl 2 rfl ?_
    refine V_iload_n hC dX9_edit_25 rfl 3 rfl ?_
    refine V_iload hC dX9_edit_26 4 rfl ?_
    obtain ⟨q5, e5, h⟩ := bind_some h
    refine V_cVr hC [.int x1, .int x2, .int x3, .int x4] (c_X9_edits (l := l) (rv := q5.1) (Mf := q5.2) hC.2.2.2.2.2.2.2 e5) kd_X9_edits kv_X9_edits gw_1561 (r_m0_0).o rfl ⟨Nat.le_of_ble_eq_true rfl, Nat.le_of_ble_eq_true rfl⟩ rfl (Nat.le_of_ble_eq_true rfl) dX9_edit_28 ⟨Nat.zero_le _, Nat.zero_le _⟩ rfl ?_
    obtain ⟨rfl, rfl⟩ := Prod.mk.inj (Option.some.inj h)
    exact V_iret hC hr hlk dX9_edit_31
  · have h := ite_f c3 h
    refine V_iconst hC (0 : Int32) dX9_edit_16 (by decide) ?_
    obtain ⟨rfl, rfl⟩ := Prod.mk.inj (Option.some.inj h)
    exact V_iret hC hr hlk dX9_edit_17
theorem b_X9_copied_46 {rv : Int32} {Mf : Mem} {z0 : Int32} {z1 : Int32} {M : Mem} (hC : Cx p s m args c cX9_copied RX9 5 G) (hr : meth.sig.returnType = some .int) (hlk : meth.locks = false) (h : B_X9_copied_46 z0 z1 M = some (rv, Mf)) : V p l e (rmk 4) s m args below meth c 5 G 0 0 (MQ below (gQ G (some (.int rv)) Mf) args s 0 0 (gA G)) 46 [] [.int z0, .int z1, .ref (adr G 7 1)] M := by
  refine V_iadd hC dX9_copied_46 ?_
  obtain ⟨c7, h⟩ := ite_some h
  refine V_iald hC (a_m1) c7 dX9_copied_47 ?_
  obtain ⟨rfl, rfl⟩ := Prod.mk.inj (Option.some.inj h)
  exact V_iret hC hr hlk dX9_copied_48
theorem b_X9_copied_16 {rv : Int32} {Mf : Mem} {x1 : Int32} {x2 : Int32} {x3 : Int32} {x4 : Int32} {z0 : Int32} {M : Mem} (hC : Cx p s m args c cX9_copied RX9 5 G) (hr : meth.sig.returnType = some .int) (hlk : meth.locks = false) (h : B_X9_copied_16 x1 x2 x3 x4 z0 M = some (rv, Mf)) : V p l e (rmk 4) s m args below meth c 5 G 0 0 (MQ below (gQ G (some (.int rv)) Mf) args s 0 0 (gA G)) 16 [(0, .ref (adr G 7 0)), (1, .int x1), (2, .int x2), (3, .int x3), (4, .int x4)] [.int z0, .ref (adr G 7 0)] M := by
  obtain ⟨q3, e3, h⟩ := bind_some h
  refine V_cVr hC [.int z0] (c_X9_refused (l := l) (rv := q3.1) (Mf := q3.2) hC.2.2.2.2.2.2.2 e3) kd_X9_refused kv_X9_refused gw_1318 (r_m0_0).o rfl ⟨Nat.le_of_ble_eq_true rfl, Nat.le_of_ble_eq_true rfl⟩ rfl (Nat.le_of_ble_eq_true rfl) dX9_copied_16 ⟨Nat.zero_le _, Nat.zero_le _⟩ rfl ?_
  refine V_if_eq hC 26 dX9_copied_19 (by decide) (fun c4 => ?_) (fun c4 => ?_)
  · have h := ite_t c4 h
    refine V_aload_n hC dX9_copied_26 rfl 0 rfl ?_
    refine V_getR hC (r_m0_0) fw_X9_7 dX9_copied_27 ?_
    refine V_iload_n hC dX9_copied_30 rfl 1 rfl ?_
    refine V_iload_n hC dX9_copied_31 rfl 2 rfl ?_
    refine V_iload_n hC dX9_copied_32 rfl 3 rfl ?_
    refine V_cSr hC [.int x1, .int x2, .int x3] (c_X9_copy (l := l) hC.2.2.2.2.2.2.2 rfl) kd_X9_copy gw_1503 gw_1502 ⟨Nat.le_of_ble_eq_true rfl, Nat.le_of_ble_eq_true rfl⟩ rfl (Nat.le_of_ble_eq_true rfl) dX9_copied_33 ⟨Nat.zero_le _, Nat.zero_le _⟩ rfl ?_
    refine V_iload hC dX9_copied_36 4 rfl ?_
    refine V_if_eq hC 45 dX9_copied_38 (by decide) (fun c6 => ?_) (fun c6 => ?_)
    · have h := ite_t c6 h
      refine V_iconst hC (1 : Int32) dX9_copied_45 (by decide) ?_
      refine V_sub [] rfl ?_
      exact b_X9_copied_46 hC hr hlk h
    · have h := ite_f c6 h
      refine V_iconst hC (0 : Int32) dX9_copied_41 (by decide) ?_
      refine V_goto hC 46 dX9_copied_42 (by decide) ?_
      refine V_sub [] rfl ?_
      exact b_X9_copied_46 hC hr hlk h
  · have h := ite_f c4 h
    refine V_iconst hC (0 : Int32) dX9_copied_22 (by decide) ?_
    refine V_goto hC 48 dX9_copied_23 (by decide) ?_
    obtain ⟨rfl, rfl⟩ := Prod.mk.inj (Option.some.inj h)
    exact V_iret hC hr hlk dX9_copied_48
theorem c_X9_copied {l : Launch} {G : Geo} {x1 : Int32} {x2 : Int32} {x3 : Int32} {x4 : Int32} {rv : Int32} {Mf : Mem} {M : Mem} (hG : gD G) (h : f_X9_copied x1 x2 x3 x4 M = some (rv, Mf)) : Met l yX9_copied (.code yX9_copied cX9_copied 5 (some .int) :: GL) (rmk 4) (gP G [.ref (adr G 7 0), .int x1, .int x2, .int x3, .int x4] M) (gQ G (some (.int rv)) Mf) 0 0 (gA G) := by
  refine Met_of (own := RX9) (L := [(0, .ref (adr G 7 0)), (1, .int x1), (2, .int x2), (3, .int x3), (4, .int x4)]) hG (by decide +kernel) rfl (Nat.le_of_ble_eq_true rfl) rfl ?_
  intro p e s m args below meth c hC hr hlk
  refine V_aload_n hC dX9_copied_0 rfl 0 rfl ?_
  refine V_aload_n hC dX9_copied_1 rfl 0 rfl ?_
  refine V_iload_n hC dX9_copied_2 rfl 1 rfl ?_
  refine V_iload_n hC dX9_copied_3 rfl 2 rfl ?_
  refine V_iload_n hC dX9_copied_4 rfl 3 rfl ?_
  obtain ⟨q1, e1, h⟩ := bind_some h
  refine V_cVr hC [.int x1, .int x2, .int x3] (c_X9_isCopied (l := l) hC.2.2.2.2.2.2.2 e1) kd_X9_isCopied kv_X9_isCopied gw_1557 (r_m0_0).o rfl ⟨Nat.le_of_ble_eq_true rfl, Nat.le_of_ble_eq_true rfl⟩ rfl (Nat.le_of_ble_eq_true rfl) dX9_copied_5 ⟨Nat.zero_le _, Nat.zero_le _⟩ rfl ?_
  refine V_if_eq hC 15 dX9_copied_8 (by decide) (fun c2 => ?_) (fun c2 => ?_)
  · have h := ite_t c2 h
    refine V_iconst hC (1 : Int32) dX9_copied_15 (by decide) ?_
    exact b_X9_copied_16 hC hr hlk h
  · have h := ite_f c2 h
    refine V_iconst hC (0 : Int32) dX9_copied_11 (by decide) ?_
    refine V_goto hC 16 dX9_copied_12 (by decide) ?_
    exact b_X9_copied_16 hC hr hlk h
theorem b_X9_merges_232 {rv : Int32} {Mf : Mem} {k9 : Int32 → Int32 → Mem → Option (Int32 × Mem)} {x1 : Int32} {x2 : Int32} {x3 : Int32} {x4 : Int32} {M : Mem} (hC : Cx p s m args c cX9_merges RX9 11 G) (hr : meth.sig.returnType = some .int) (hlk : meth.locks = false) (hk9 : ∀ (x3 : Int32) (x4 : Int32) (M : Mem), k9 x3 x4 M = some (rv, Mf) → V p l e (rmk 2) s m args below meth c 11 G 0 0 (MQ below (gQ G (some (.int rv)) Mf) args s 0 0 (gA G)) 9 [(0, .ref (adr G 7 0)), (1, .int x1), (2, .int x2), (3, .int x3), (4, .int x4)] [] M) (h : B_X9_merges_232 k9 x1 x2 x3 x4 M = some (rv, Mf)) : V p l e (rmk 2) s m args below meth c 11 G 0 0 (MQ below (gQ G (some (.int rv)) Mf) args s 0 0 (gA G)) 232 [(0, .ref (adr G 7 0)), (1, .int x1), (2, .int x2), (3, .int x3), (4, .int x4)] [] M := by
  refine V_iinc hC (x4 + 1) ([(4, .int (x4 + 1)), (0, .ref (adr G 7 0)), (1, .int x1), (2, .int x2), (3, .int x3)]) dX9_merges_232 4 rfl rfl (by decide) rfl ?_
  refine V_goto hC 9 dX9_merges_235 (by decide) ?_
  refine V_sub [1, 2, 3, 4, 0] rfl ?_
  exact hk9 _ _ _ h
theorem b_X9_merges_225 {rv : Int32} {Mf : Mem} {k9 : Int32 → Int32 → Mem → Option (Int32 × Mem)} {k19 : Int32 → Int32 → Mem → Option (Int32 × Mem)} {x1 : Int32} {x2 : Int32} {x3 : Int32} {x4 : Int32} {x5 : Int32} {z0 : Int32} {z1 : Int32} {M : Mem} (hC : Cx p s m args c cX9_merges RX9 11 G) (hr : meth.sig.returnType = some .int) (hlk : meth.locks = false) (hk9 : ∀ (x3 : Int32) (x4 : Int32) (M : Mem), k9 x3 x4 M = some (rv, Mf) → V p l e (rmk 2) s m args below meth c 11 G 0 0 (MQ below (gQ G (some (.int rv)) Mf) args s 0 0 (gA G)) 9 [(0, .ref (adr G 7 0)), (1, .int x1), (2, .int x2), (3, .int x3), (4, .int x4)] [] M) (hk19 : ∀ (x3 : Int32) (x5 : Int32) (M : Mem), k19 x3 x5 M = some (rv, Mf) → V p l e (rmk 2) s m args below meth c 11 G 0 0 (MQ below (gQ G (some (.int rv)) Mf) args s 0 0 (gA G)) 19 [(0, .ref (adr G 7 0)), (1, .int x1), (2, .int x2), (3, .int x3), (4, .int x4), (5, .int x5)] [] M) (h : B_X9_merges_225 k9 k19 x1 x2 x3 x4 x5 z0 z1 M = some (rv, Mf)) : V p l e (rmk 2) s m args below meth c 11 G 0 0 (MQ below (gQ G (some (.int rv)) Mf) args s 0 0 (gA G)) 225 [(0, .ref (adr G 7 0)), (1, .int x1), (2, .int x2), (3, .int x3), (4, .int x4), (5, .int x5)] [.int z0, .int z1, .ref (adr G 7 6)] M := by
  obtain ⟨c21, h⟩ := ite_some h
  refine V_iast hC (a_m6) c21 dX9_merges_225 ?_
  refine V_iinc hC (x5 + 1) ([(5, .int (x5 + 1)), (0, .ref (adr G 7 0)), (1, .int x1), (2, .int x2), (3, .int x3), (4, .int x4)]) dX9_merges_226 5 rfl rfl (by decide) rfl ?_
  refine V_goto hC 19 dX9_merges_229 (by decide) ?_
  refine V_sub [1, 2, 3, 4, 5, 0] rfl ?_
  exact hk19 _ _ _ h
theorem b_X9_merges_199 {rv : Int32} {Mf : Mem} {k9 : Int32 → Int32 → Mem → Option (Int32 × Mem)} {k19 : Int32 → Int32 → Mem → Option (Int32 × Mem)} {x1 : Int32} {x2 : Int32} {x3 : Int32} {x4 : Int32} {x5 : Int32} {x7 : Int32} {x8 : Int32} {z0 : Int32} {M : Mem} (hC : Cx p s m args c cX9_merges RX9 11 G) (hr : meth.sig.returnType = some .int) (hlk : meth.locks = false) (hk9 : ∀ (x3 : Int32) (x4 : Int32) (M : Mem), k9 x3 x4 M = some (rv, Mf) → V p l e (rmk 2) s m args below meth c 11 G 0 0 (MQ below (gQ G (some (.int rv)) Mf) args s 0 0 (gA G)) 9 [(0, .ref (adr G 7 0)), (1, .int x1), (2, .int x2), (3, .int x3), (4, .int x4)] [] M) (hk19 : ∀ (x3 : Int32) (x5 : Int32) (M : Mem), k19 x3 x5 M = some (rv, Mf) → V p l e (rmk 2) s m args below meth c 11 G 0 0 (MQ below (gQ G (some (.int rv)) Mf) args s 0 0 (gA G)) 19 [(0, .ref (adr G 7 0)), (1, .int x1), (2, .int x2), (3, .int x3), (4, .int x4), (5, .int x5)] [] M) (h : B_X9_merges_199 k9 k19 x1 x2 x3 x4 x5 x7 x8 z0 M = some (rv, Mf)) : V p l e (rmk 2) s m args below meth c 11 G 0 0 (MQ below (gQ G (some (.int rv)) Mf) args s 0 0 (gA G)) 199 [(0, .ref (adr G 7 0)), (1, .int x1), (2, .int x2), (3, .int x3), (4, .int x4), (5, .int x5), (7, .int x7), (8, .int x8)] [.int z0] M := by
  refine V_istore hC ([(10, .int z0), (0, .ref (adr G 7 0)), (1, .int x1), (2, .int x2), (3, .int x3), (4, .int x4), (5, .int x5), (7, .int x7), (8, .int x8)]) dX9_merges_199 (by decide) rfl ?_
  refine V_aload_n hC dX9_merges_201 rfl 1 rfl ?_
  refine V_getR hC (r_m0_8) fw_X9_25 dX9_merges_202 ?_
  refine V_bipush hC (6 : Int32) dX9_merges_205 (by decide) ?_
  refine V_iload hC dX9_merges_207 5 rfl ?_
  refine V_imul hC dX9_merges_209 ?_
  refine V_iload hC dX9_merges_210 6 rfl ?_
  refine V_iadd hC dX9_merges_212 ?_
  refine V_iload hC dX9_merges_213 0 rfl ?_
  refine V_if_eq hC 223 dX9_merges_215 (by decide) (fun c20 => ?_) (fun c20 => ?_)
  · have h := ite_t c20 h
    refine V_iload hC dX9_merges_223 8 rfl ?_
    refine V_sub [1, 2, 3, 4, 5, 6] rfl ?_
    exact b_X9_merges_225 hC hr hlk hk9 hk19 h
  · have h := ite_f c20 h
    refine V_iload hC dX9_merges_218 7 rfl ?_
    refine V_goto hC 225 dX9_merges_220 (by decide) ?_
    refine V_sub [1, 2, 3, 4, 5, 6] rfl ?_
    exact b_X9_merges_225 hC hr hlk hk9 hk19 h
theorem b_X9_merges_198 {rv : Int32} {Mf : Mem} {k9 : Int32 → Int32 → Mem → Option (Int32 × Mem)} {k19 : Int32 → Int32 → Mem → Option (Int32 × Mem)} {x1 : Int32} {x2 : Int32} {x3 : Int32} {x4 : Int32} {x5 : Int32} {x7 : Int32} {x8 : Int32} {M : Mem} (hC : Cx p s m args c cX9_merges RX9 11 G) (hr : meth.sig.returnType = some .int) (hlk : meth.locks = false) (hk9 : ∀ (x3 : Int32) (x4 : Int32) (M : Mem), k9 x3 x4 M = some (rv, Mf) → V p l e (rmk 2) s m args below meth c 11 G 0 0 (MQ below (gQ G (some (.int rv)) Mf) args s 0 0 (gA G)) 9 [(0, .ref (adr G 7 0)), (1, .int x1), (2, .int x2), (3, .int x3), (4, .int x4)] [] M) (hk19 : ∀ (x3 : Int32) (x5 : Int32) (M : Mem), k19 x3 x5 M = some (rv, Mf) → V p l e (rmk 2) s m args below meth c 11 G 0 0 (MQ below (gQ G (some (.int rv)) Mf) args s 0 0 (gA G)) 19 [(0, .ref (adr G 7 0)), (1, .int x1), (2, .int x2), (3, .int x3), (4, .int x4), (5, .int x5)] [] M) (h : B_X9_merges_198 k9 k19 x1 x2 x3 x4 x5 x7 x8 M = some (rv, Mf)) : V p l e (rmk 2) s m args below meth c 11 G 0 0 (MQ below (gQ G (some (.int rv)) Mf) args s 0 0 (gA G)) 198 [(0, .ref (adr G 7 0)), (1, .int x1), (2, .int x2), (3, .int x3), (4, .int x4), (5, .int x5), (7, .int x7), (8, .int x8)] [] M := by
  refine V_iconst hC (0 : Int32) dX9_merges_198 (by decide) ?_
  exact b_X9_merges_199 hC hr hlk hk9 hk19 h
theorem b_X9_merges_194 {rv : Int32} {Mf : Mem} {k9 : Int32 → Int32 → Mem → Option (Int32 × Mem)} {k19 : Int32 → Int32 → Mem → Option (Int32 × Mem)} {x1 : Int32} {x2 : Int32} {x3 : Int32} {x4 : Int32} {x5 : Int32} {x7 : Int32} {x8 : Int32} {M : Mem} (hC : Cx p s m args c cX9_merges RX9 11 G) (hr : meth.sig.returnType = some .int) (hlk : meth.locks = false) (hk9 : ∀ (x3 : Int32) (x4 : Int32) (M : Mem), k9 x3 x4 M = some (rv, Mf) → V p l e (rmk 2) s m args below meth c 11 G 0 0 (MQ below (gQ G (some (.int rv)) Mf) args s 0 0 (gA G)) 9 [(0, .ref (adr G 7 0)), (1, .int x1), (2, .int x2), (3, .int x3), (4, .int x4)] [] M) (hk19 : ∀ (x3 : Int32) (x5 : Int32) (M : Mem), k19 x3 x5 M = some (rv, Mf) → V p l e (rmk 2) s m args below meth c 11 G 0 0 (MQ below (gQ G (some (.int rv)) Mf) args s 0 0 (gA G)) 19 [(0, .ref (adr G 7 0)), (1, .int x1), (2, .int x2), (3, .int x3), (4, .int x4), (5, .int x5)] [] M) (h : B_X9_merges_194 k9 k19 x1 x2 x3 x4 x5 x7 x8 M = some (rv, Mf)) : V p l e (rmk 2) s m args below meth c 11 G 0 0 (MQ below (gQ G (some (.int rv)) Mf) args s 0 0 (gA G)) 194 [(0, .ref (adr G 7 0)), (1, .int x1), (2, .int x2), (3, .int x3), (4, .int x4), (5, .int x5), (7, .int x7), (8, .int x8)] [] M := by
  refine V_iconst hC (1 : Int32) dX9_merges_194 (by decide) ?_
  refine V_goto hC 199 dX9_merges_195 (by decide) ?_
  exact b_X9_merges_199 hC hr hlk hk9 hk19 h
theorem b_X9_merges_148 {rv : Int32} {Mf : Mem} {k9 : Int32 → Int32 → Mem → Option (Int32 × Mem)} {k19 : Int32 → Int32 → Mem → Option (Int32 × Mem)} {x1 : Int32} {x2 : Int32} {x4 : Int32} {x5 : Int32} {x6 : Int32} {x7 : Int32} {x8 : Int32} {x9 : Int32} {z0 : Int32} {z1 : Int32} {M : Mem} (hC : Cx p s m args c cX9_merges RX9 11 G) (hr : meth.sig.returnType = some .int) (hlk : meth.locks = false) (hk9 : ∀ (x3 : Int32) (x4 : Int32) (M : Mem), k9 x3 x4 M = some (rv, Mf) → V p l e (rmk 2) s m args below meth c 11 G 0 0 (MQ below (gQ G (some (.int rv)) Mf) args s 0 0 (gA G)) 9 [(0, .ref (adr G 7 0)), (1, .int x1), (2, .int x2), (3, .int x3), (4, .int x4)] [] M) (hk19 : ∀ (x3 : Int32) (x5 : Int32) (M : Mem), k19 x3 x5 M = some (rv, Mf) → V p l e (rmk 2) s m args below meth c 11 G 0 0 (MQ below (gQ G (some (.int rv)) Mf) args s 0 0 (gA G)) 19 [(0, .ref (adr G 7 0)), (1, .int x1), (2, .int x2), (3, .int x3), (4, .int x4), (5, .int x5)] [] M) (h : B_X9_merges_148 k9 k19 x1 x2 x4 x5 x6 x7 x8 x9 z0 z1 M = some (rv, Mf)) : V p l e (rmk 2) s m args below meth c 11 G 0 0 (MQ below (gQ G (some (.int rv)) Mf) args s 0 0 (gA G)) 148 [(0, .ref (adr G 7 0)), (1, .int x1), (2, .int x2), (4, .int x4), (5, .int x5), (6, .int x6), (7, .int x7), (8, .int x8), (9, .int x9)] [.int z0, .int z1] M := by
  refine V_iadd hC dX9_merges_148 ?_
  refine V_istore_n hC ([(3, .int (z1 + z0)), (0, .ref (adr G 7 0)), (1, .int x1), (2, .int x2), (4, .int x4), (5, .int x5), (6, .int x6), (7, .int x7), (8, .int x8), (9, .int x9)]) dX9_merges_149 rfl (by decide) rfl ?_
  refine V_aload_n hC dX9_merges_150 rfl 1 rfl ?_
  refine V_iload_n hC dX9_merges_151 rfl 2 rfl ?_
  refine V_iconst hC (4 : Int32) dX9_merges_152 (by decide) ?_
  obtain ⟨q17, e17, h⟩ := bind_some h
  refine V_cVr hC [.int x1, .int (4 : Int32)] (c_X9_get (l := l) hC.2.2.2.2.2.2.2 e17) kd_X9_get kv_X9_get gw_1345 (r_m0_0).o rfl ⟨Nat.le_of_ble_eq_true rfl, Nat.le_of_ble_eq_true rfl⟩ rfl (Nat.le_of_ble_eq_true rfl) dX9_merges_153 ⟨Nat.zero_le _, Nat.zero_le _⟩ rfl ?_
  refine V_iconst hC (1 : Int32) dX9_merges_156 (by decide) ?_
  refine V_icmp_ne hC 177 dX9_merges_157 (by decide) (fun c18 => ?_) (fun c18 => ?_)
  · have h := ite_f c18 h
    refine V_iload hC dX9_merges_177 7 rfl ?_
    refine V_iload hC dX9_merges_179 6 rfl ?_
    refine V_icmp_eq hC 198 dX9_merges_181 (by decide) (fun c19 => ?_) (fun c19 => ?_)
    · have h := ite_t c19 h
      refine V_sub [1, 2, 3, 0, 4, 5, 7, 8] rfl ?_
      exact b_X9_merges_198 hC hr hlk hk9 hk19 h
    · have h := ite_f c19 h
      refine V_iload hC dX9_merges_184 9 rfl ?_
      refine V_if_eq hC 194 dX9_merges_186 (by decide) (fun c22 => ?_) (fun c22 => ?_)
      · have h := ite_t c22 h
        refine V_sub [1, 2, 3, 0, 4, 5, 7, 8] rfl ?_
        exact b_X9_merges_194 hC hr hlk hk9 hk19 h
      · have h := ite_f c22 h
        refine V_iload_n hC dX9_merges_189 rfl 3 rfl ?_
        refine V_iconst hC (1 : Int32) dX9_merges_190 (by decide) ?_
        refine V_icmp_ne hC 198 dX9_merges_191 (by decide) (fun c23 => ?_) (fun c23 => ?_)
        · have h := ite_f c23 h
          refine V_sub [1, 2, 3, 0, 4, 5, 7, 8] rfl ?_
          exact b_X9_merges_198 hC hr hlk hk9 hk19 h
        · have h := ite_t c23 h
          refine V_sub [1, 2, 3, 0, 4, 5, 7, 8] rfl ?_
          exact b_X9_merges_194 hC hr hlk hk9 hk19 h
  · have h := ite_t c18 h
    refine V_aload_n hC dX9_merges_160 rfl 1 rfl ?_
    refine V_iload_n hC dX9_merges_161 rfl 2 rfl ?_
    refine V_iconst hC (5 : Int32) dX9_merges_162 (by decide) ?_
    obtain ⟨q24, e24, h⟩ := bind_some h
    refine V_cVr hC [.int x1, .int (5 : Int32)] (c_X9_get (l := l) hC.2.2.2.2.2.2.2 e24) kd_X9_get kv_X9_get gw_1345 (r_m0_0).o rfl ⟨Nat.le_of_ble_eq_true rfl, Nat.le_of_ble_eq_true rfl⟩ rfl (Nat.le_of_ble_eq_true rfl) dX9_merges_163 ⟨Nat.zero_le _, Nat.zero_le _⟩ rfl ?_
    refine V_if_ne hC 173 dX9_merges_166 (by decide) (fun c25 => ?_) (fun c25 => ?_)
    · have h := ite_f c25 h
      refine V_iconst hC (0 : Int32) dX9_merges_173 (by decide) ?_
      refine V_goto hC 199 dX9_merges_174 (by decide) ?_
      refine V_sub [1, 2, 3, 0, 4, 5, 7, 8] rfl ?_
      exact b_X9_merges_199 hC hr hlk hk9 hk19 h
    · have h := ite_t c25 h
      refine V_iconst hC (1 : Int32) dX9_merges_169 (by decide) ?_
      refine V_goto hC 199 dX9_merges_170 (by decide) ?_
      refine V_sub [1, 2, 3, 0, 4, 5, 7, 8] rfl ?_
      exact b_X9_merges_199 hC hr hlk hk9 hk19 h
theorem b_X9_merges_135 {rv : Int32} {Mf : Mem} {k9 : Int32 → Int32 → Mem → Option (Int32 × Mem)} {k19 : Int32 → Int32 → Mem → Option (Int32 × Mem)} {x1 : Int32} {x2 : Int32} {x3 : Int32} {x4 : Int32} {x5 : Int32} {x6 : Int32} {x7 : Int32} {x8 : Int32} {z0 : Int32} {M : Mem} (hC : Cx p s m args c cX9_merges RX9 11 G) (hr : meth.sig.returnType = some .int) (hlk : meth.locks = false) (hk9 : ∀ (x3 : Int32) (x4 : Int32) (M : Mem), k9 x3 x4 M = some (rv, Mf) → V p l e (rmk 2) s m args below meth c 11 G 0 0 (MQ below (gQ G (some (.int rv)) Mf) args s 0 0 (gA G)) 9 [(0, .ref (adr G 7 0)), (1, .int x1), (2, .int x2), (3, .int x3), (4, .int x4)] [] M) (hk19 : ∀ (x3 : Int32) (x5 : Int32) (M : Mem), k19 x3 x5 M = some (rv, Mf) → V p l e (rmk 2) s m args below meth c 11 G 0 0 (MQ below (gQ G (some (.int rv)) Mf) args s 0 0 (gA G)) 19 [(0, .ref (adr G 7 0)), (1, .int x1), (2, .int x2), (3, .int x3), (4, .int x4), (5, .int x5)] [] M) (h : B_X9_merges_135 k9 k19 x1 x2 x3 x4 x5 x6 x7 x8 z0 M = some (rv, Mf)) : V p l e (rmk 2) s m args below meth c 11 G 0 0 (MQ below (gQ G (some (.int rv)) Mf) args s 0 0 (gA G)) 135 [(0, .ref (adr G 7 0)), (1, .int x1), (2, .int x2), (3, .int x3), (4, .int x4), (5, .int x5), (6, .int x6), (7, .int x7), (8, .int x8)] [.int z0] M := by
  refine V_istore hC ([(9, .int z0), (0, .ref (adr G 7 0)), (1, .int x1), (2, .int x2), (3, .int x3), (4, .int x4), (5, .int x5), (6, .int x6), (7, .int x7), (8, .int x8)]) dX9_merges_135 (by decide) rfl ?_
  refine V_iload_n hC dX9_merges_137 rfl 4 rfl ?_
  refine V_iload hC dX9_merges_138 0 rfl ?_
  refine V_if_eq hC 147 dX9_merges_140 (by decide) (fun c16 => ?_) (fun c16 => ?_)
  · have h := ite_t c16 h
    refine V_iconst hC (0 : Int32) dX9_merges_147 (by decide) ?_
    refine V_sub [1, 2, 3, 5, 6, 7, 8, 9, 0] rfl ?_
    exact b_X9_merges_148 hC hr hlk hk9 hk19 h
  · have h := ite_f c16 h
    refine V_iconst hC (1 : Int32) dX9_merges_143 (by decide) ?_
    refine V_goto hC 148 dX9_merges_144 (by decide) ?_
    refine V_sub [1, 2, 3, 5, 6, 7, 8, 9, 0] rfl ?_
    exact b_X9_merges_148 hC hr hlk hk9 hk19 h
theorem b_X9_merges_134 {rv : Int32} {Mf : Mem} {k9 : Int32 → Int32 → Mem → Option (Int32 × Mem)} {k19 : Int32 → Int32 → Mem → Option (Int32 × Mem)} {x1 : Int32} {x2 : Int32} {x3 : Int32} {x4 : Int32} {x5 : Int32} {x6 : Int32} {x7 : Int32} {x8 : Int32} {M : Mem} (hC : Cx p s m args c cX9_merges RX9 11 G) (hr : meth.sig.returnType = some .int) (hlk : meth.locks = false) (hk9 : ∀ (x3 : Int32) (x4 : Int32) (M : Mem), k9 x3 x4 M = some (rv, Mf) → V p l e (rmk 2) s m args below meth c 11 G 0 0 (MQ below (gQ G (some (.int rv)) Mf) args s 0 0 (gA G)) 9 [(0, .ref (adr G 7 0)), (1, .int x1), (2, .int x2), (3, .int x3), (4, .int x4)] [] M) (hk19 : ∀ (x3 : Int32) (x5 : Int32) (M : Mem), k19 x3 x5 M = some (rv, Mf) → V p l e (rmk 2) s m args below meth c 11 G 0 0 (MQ below (gQ G (some (.int rv)) Mf) args s 0 0 (gA G)) 19 [(0, .ref (adr G 7 0)), (1, .int x1), (2, .int x2), (3, .int x3), (4, .int x4), (5, .int x5)] [] M) (h : B_X9_merges_134 k9 k19 x1 x2 x3 x4 x5 x6 x7 x8 M = some (rv, Mf)) : V p l e (rmk 2) s m args below meth c 11 G 0 0 (MQ below (gQ G (some (.int rv)) Mf) args s 0 0 (gA G)) 134 [(0, .ref (adr G 7 0)), (1, .int x1), (2, .int x2), (3, .int x3), (4, .int x4), (5, .int x5), (6, .int x6), (7, .int x7), (8, .int x8)] [] M := by
  refine V_iconst hC (0 : Int32) dX9_merges_134 (by decide) ?_
  exact b_X9_merges_135 hC hr hlk hk9 hk19 h
theorem l_X9_merges_19 {k9 : Int32 → Int32 → Mem → Option (Int32 × Mem)} {rv : Int32} {Mf : Mem} {x1 : Int32} {x2 : Int32} {x4 : Int32} (hC : Cx p s m args c cX9_merges RX9 11 G) (hr : meth.sig.returnType = some .int) (hlk : meth.locks = false) (hk9 : ∀ (x3 : Int32) (x4 : Int32) (M : Mem), k9 x3 x4 M = some (rv, Mf) → V p l e (rmk 2) s m args below meth c 11 G 0 0 (MQ below (gQ G (some (.int rv)) Mf) args s 0 0 (gA G)) 9 [(0, .ref (adr G 7 0)), (1, .int x1), (2, .int x2), (3, .int x3), (4, .int x4)] [] M) : ∀ (n : Nat) {x3 : Int32} {x5 : Int32} {M : Mem} (h : L_X9_merges_19 k9 x1 x2 x4 n x3 x5 M = some (rv, Mf)), V p l e (rmk 2) s m args below meth c 11 G 0 0 (MQ below (gQ G (some (.int rv)) Mf) args s 0 0 (gA G)) 19 [(0, .ref (adr G 7 0)), (1, .int x1), (2, .int x2), (3, .int x3), (4, .int x4), (5, .int x5)] [] M := by
  intro n
  induction n with
  | zero => intro x3 x5 M h; cases h
  | succ n ih =>
    intro x3 x5 M h
    have hk19 : ∀ (x3 : Int32) (x5 : Int32) (M : Mem), L_X9_merges_19 k9 x1 x2 x4 n x3 x5 M = some (rv, Mf) → V p l e (rmk 2) s m args below meth c 11 G 0 0 (MQ below (gQ G (some (.int rv)) Mf) args s 0 0 (gA G)) 19 [(0, .ref (adr G 7 0)), (1, .int x1), (2, .int x2), (3, .int x3), (4, .int x4), (5, .int x5)] [] M := fun _ _ _ z => ih z
    refine V_iload hC dX9_merges_19 5 rfl ?_
    refine V_bipush hC (6 : Int32) dX9_merges_21 (by decide) ?_
    refine V_icmp_ge hC 232 dX9_merges_23 (by decide) (fun c3 => ?_) (fun c3 => ?_)
    · have h := ite_t c3 h
      refine V_sub [0, 1, 2, 3, 4] rfl ?_
      exact b_X9_merges_232 hC hr hlk hk9 h
    · have h := ite_f c3 h
      refine V_aload_n hC dX9_merges_26 rfl 0 rfl ?_
      refine V_iload hC dX9_merges_27 4 rfl ?_
      obtain ⟨q4, e4, h⟩ := bind_some h
      refine V_cVr hC [.int x4] (c_X9_isSection (l := l) hC.2.2.2.2.2.2.2 e4) kd_X9_isSection kv_X9_isSection gw_1326 (r_m0_0).o rfl ⟨Nat.le_of_ble_eq_true rfl, Nat.le_of_ble_eq_true rfl⟩ rfl (Nat.le_of_ble_eq_true rfl) dX9_merges_29 ⟨Nat.zero_le _, Nat.zero_le _⟩ rfl ?_
      refine V_if_eq hC 232 dX9_merges_32 (by decide) (fun c5 => ?_) (fun c5 => ?_)
      · have h := ite_t c5 h
        refine V_sub [0, 1, 2, 3, 4] rfl ?_
        exact b_X9_merges_232 hC hr hlk hk9 h
      · have h := ite_f c5 h
        refine V_aload_n hC dX9_merges_35 rfl 0 rfl ?_
        refine V_iload hC dX9_merges_36 4 rfl ?_
        refine V_aload_n hC dX9_merges_38 rfl 0 rfl ?_
        refine V_iload_n hC dX9_merges_39 rfl 1 rfl ?_
        refine V_iconst hC (2 : Int32) dX9_merges_40 (by decide) ?_
        obtain ⟨q6, e6, h⟩ := bind_some h
        refine V_cVr hC [.int x1, .int (2 : Int32)] (c_X9_get (l := l) hC.2.2.2.2.2.2.2 e6) kd_X9_get kv_X9_get gw_1345 (r_m0_0).o rfl ⟨Nat.le_of_ble_eq_true rfl, Nat.le_of_ble_eq_true rfl⟩ rfl (Nat.le_of_ble_eq_true rfl) dX9_merges_41 ⟨Nat.zero_le _, Nat.zero_le _⟩ rfl ?_
        obtain ⟨q7, e7, h⟩ := bind_some h
        refine V_cVr hC [.int x4, .int q6] (c_X9_isIn (l := l) hC.2.2.2.2.2.2.2 e7) kd_X9_isIn kv_X9_isIn gw_1352 (r_m0_0).o rfl ⟨Nat.le_of_ble_eq_true rfl, Nat.le_of_ble_eq_true rfl⟩ rfl (Nat.le_of_ble_eq_true rfl) dX9_merges_44 ⟨Nat.zero_le _, Nat.zero_le _⟩ rfl ?_
        refine V_if_eq hC 232 dX9_merges_47 (by decide) (fun c8 => ?_) (fun c8 => ?_)
        · have h := ite_t c8 h
          refine V_sub [0, 1, 2, 3, 4] rfl ?_
          exact b_X9_merges_232 hC hr hlk hk9 h
        · have h := ite_f c8 h
          refine V_aload_n hC dX9_merges_50 rfl 0 rfl ?_
          refine V_getR hC (r_m0_0) fw_X9_7 dX9_merges_51 ?_
          refine V_iload_n hC dX9_merges_54 rfl 1 rfl ?_
          refine V_iload hC dX9_merges_55 4 rfl ?_
          refine V_iload hC dX9_merges_57 5 rfl ?_
          refine V_cSr hC [.int x1, .int x4, .int x5] (c_X9_copy (l := l) hC.2.2.2.2.2.2.2 rfl) kd_X9_copy gw_1503 gw_1502 ⟨Nat.le_of_ble_eq_true rfl, Nat.le_of_ble_eq_true rfl⟩ rfl (Nat.le_of_ble_eq_true rfl) dX9_merges_59 ⟨Nat.zero_le _, Nat.zero_le _⟩ rfl ?_
          obtain ⟨c10, h⟩ := ite_some h
          refine V_iald hC (a_m1) c10 dX9_merges_62 ?_
          refine V_istore hC ([(6, .int (M.1 7 1 (cl (f_X9_copy x1 x4 x5)))), (0, .ref (adr G 7 0)), (1, .int x1), (2, .int x2), (3, .int x3), (4, .int x4), (5, .int x5)]) dX9_merges_63 (by decide) rfl ?_
          refine V_aload_n hC dX9_merges_65 rfl 1 rfl ?_
          refine V_getR hC (r_m0_0) fw_X9_7 dX9_merges_66 ?_
          refine V_iload_n hC dX9_merges_69 rfl 2 rfl ?_
          refine V_iload hC dX9_merges_70 5 rfl ?_
          refine V_iload hC dX9_merges_72 6 rfl ?_
          refine V_cSr hC [.int x1, .int x4, .int x5] (c_X9_copy (l := l) hC.2.2.2.2.2.2.2 rfl) kd_X9_copy gw_1503 gw_1502 ⟨Nat.le_of_ble_eq_true rfl, Nat.le_of_ble_eq_true rfl⟩ rfl (Nat.le_of_ble_eq_true rfl) dX9_merges_74 ⟨Nat.zero_le _, Nat.zero_le _⟩ rfl ?_
          refine V_iconst hC (1 : Int32) dX9_merges_77 (by decide) ?_
          refine V_iadd hC dX9_merges_78 ?_
          obtain ⟨c12, h⟩ := ite_some h
          refine V_iald hC (a_m1) c12 dX9_merges_79 ?_
          refine V_istore hC ([(7, .int (M.1 7 1 (cl ((f_X9_copy x1 x4 x5) + (1 : Int32))))), (6, .int (M.1 7 1 (cl (f_X9_copy x1 x4 x5)))), (0, .ref (adr G 7 0)), (1, .int x1), (2, .int x2), (3, .int x3), (4, .int x4), (5, .int x5)]) dX9_merges_80 (by decide) rfl ?_
          refine V_aload_n hC dX9_merges_82 rfl 2 rfl ?_
          refine V_getR hC (r_m0_0) fw_X9_7 dX9_merges_83 ?_
          refine V_bipush hC (82 : Int32) dX9_merges_86 (by decide) ?_
          refine V_bipush hC (6 : Int32) dX9_merges_88 (by decide) ?_
          refine V_iload hC dX9_merges_90 6 rfl ?_
          refine V_imul hC dX9_merges_92 ?_
          refine V_iadd hC dX9_merges_93 ?_
          refine V_iload hC dX9_merges_94 7 rfl ?_
          refine V_iadd hC dX9_merges_96 ?_
          obtain ⟨c13, h⟩ := ite_some h
          refine V_iald hC (a_m1) c13 dX9_merges_97 ?_
          refine V_istore hC ([(8, .int (M.1 7 1 (cl (((82 : Int32) + ((6 : Int32) * x4)) + x5)))), (7, .int (M.1 7 1 (cl ((f_X9_copy x1 x4 x5) + (1 : Int32))))), (6, .int (M.1 7 1 (cl (f_X9_copy x1 x4 x5)))), (0, .ref (adr G 7 0)), (1, .int x1), (2, .int x2), (3, .int x3), (4, .int x4), (5, .int x5)]) dX9_merges_98 (by decide) rfl ?_
          refine V_aload_n hC dX9_merges_100 rfl 3 rfl ?_
          refine V_iload_n hC dX9_merges_101 rfl 4 rfl ?_
          refine V_iconst hC (4 : Int32) dX9_merges_102 (by decide) ?_
          obtain ⟨q14, e14, h⟩ := bind_some h
          refine V_cVr hC [.int x1, .int (4 : Int32)] (c_X9_get (l := l) hC.2.2.2.2.2.2.2 e14) kd_X9_get kv_X9_get gw_1345 (r_m0_0).o rfl ⟨Nat.le_of_ble_eq_true rfl, Nat.le_of_ble_eq_true rfl⟩ rfl (Nat.le_of_ble_eq_true rfl) dX9_merges_103 ⟨Nat.zero_le _, Nat.zero_le _⟩ rfl ?_
          refine V_if_ne hC 134 dX9_merges_106 (by decide) (fun c15 => ?_) (fun c15 => ?_)
          · have h := ite_f c15 h
            refine V_sub [3, 4, 5, 6, 7, 8, 2, 1, 0] rfl ?_
            exact b_X9_merges_134 hC hr hlk hk9 hk19 h
          · have h := ite_t c15 h
            refine V_iload hC dX9_merges_109 1 rfl ?_
            refine V_iload hC dX9_merges_111 2 rfl ?_
            refine V_icmp_eq hC 134 dX9_merges_113 (by decide) (fun c26 => ?_) (fun c26 => ?_)
            · have h := ite_t c26 h
              refine V_sub [3, 4, 5, 6, 7, 8, 2, 1, 0] rfl ?_
              exact b_X9_merges_134 hC hr hlk hk9 hk19 h
            · have h := ite_f c26 h
              refine V_iload hC dX9_merges_116 0 rfl ?_
              refine V_iload hC dX9_merges_118 2 rfl ?_
              refine V_icmp_eq hC 134 dX9_merges_120 (by decide) (fun c27 => ?_) (fun c27 => ?_)
              · have h := ite_t c27 h
                refine V_sub [3, 4, 5, 6, 7, 8, 2, 1, 0] rfl ?_
                exact b_X9_merges_134 hC hr hlk hk9 hk19 h
              · have h := ite_f c27 h
                refine V_iload hC dX9_merges_123 0 rfl ?_
                refine V_iload hC dX9_merges_125 1 rfl ?_
                refine V_icmp_eq hC 134 dX9_merges_127 (by decide) (fun c28 => ?_) (fun c28 => ?_)
                · have h := ite_t c28 h
                  refine V_sub [3, 4, 5, 6, 7, 8, 2, 1, 0] rfl ?_
                  exact b_X9_merges_134 hC hr hlk hk9 hk19 h
                · have h := ite_f c28 h
                  refine V_iconst hC (1 : Int32) dX9_merges_130 (by decide) ?_
                  refine V_goto hC 135 dX9_merges_131 (by decide) ?_
                  refine V_sub [3, 4, 5, 6, 7, 8, 2, 1, 0] rfl ?_
                  exact b_X9_merges_135 hC hr hlk hk9 hk19 h
theorem l_X9_merges_9 {rv : Int32} {Mf : Mem} {x1 : Int32} {x2 : Int32} (hC : Cx p s m args c cX9_merges RX9 11 G) (hr : meth.sig.returnType = some .int) (hlk : meth.locks = false) : ∀ (n : Nat) {x3 : Int32} {x4 : Int32} {M : Mem} (h : L_X9_merges_9 x1 x2 n x3 x4 M = some (rv, Mf)), V p l e (rmk 2) s m args below meth c 11 G 0 0 (MQ below (gQ G (some (.int rv)) Mf) args s 0 0 (gA G)) 9 [(0, .ref (adr G 7 0)), (1, .int x1), (2, .int x2), (3, .int x3), (4, .int x4)] [] M := by
  intro n
  induction n with
  | zero => intro x3 x4 M h; cases h
  | succ n ih =>
    intro x3 x4 M h
    have hk9 : ∀ (x3 : Int32) (x4 : Int32) (M : Mem), L_X9_merges_9 x1 x2 n x3 x4 M = some (rv, Mf) → V p l e (rmk 2) s m args below meth c 11 G 0 0 (MQ below (gQ G (some (.int rv)) Mf) args s 0 0 (gA G)) 9 [(0, .ref (adr G 7 0)), (1, .int x1), (2, .int x2), (3, .int x3), (4, .int x4)] [] M := fun _ _ _ z => ih z
    refine V_iload hC dX9_merges_9 4 rfl ?_
    refine V_bipush hC (20 : Int32) dX9_merges_11 (by decide) ?_
    refine V_icmp_ge hC 238 dX9_merges_13 (by decide) (fun c2 => ?_) (fun c2 => ?_)
    · have h := ite_t c2 h
      refine V_iload_n hC dX9_merges_238 rfl 3 rfl ?_
      obtain ⟨rfl, rfl⟩ := Prod.mk.inj (Option.some.inj h)
      exact V_iret hC hr hlk dX9_merges_239
    · have h := ite_f c2 h
      refine V_iconst hC (0 : Int32) dX9_merges_16 (by decide) ?_
      refine V_istore hC ([(5, .int (0 : Int32)), (0, .ref (adr G 7 0)), (1, .int x1), (2, .int x2), (3, .int x3), (4, .int x4)]) dX9_merges_17 (by decide) rfl ?_
      refine V_sub [1, 2, 3, 4, 5, 0] rfl ?_
      exact l_X9_merges_19 hC hr hlk hk9 FU h
theorem c_X9_merges {l : Launch} {G : Geo} {x1 : Int32} {x2 : Int32} {rv : Int32} {Mf : Mem} {M : Mem} (hG : gD G) (h : f_X9_merges x1 x2 M = some (rv, Mf)) : Met l yX9_merges (.code yX9_merges cX9_merges 11 (some .int) :: GL) (rmk 2) (gP G [.ref (adr G 7 0), .int x1, .int x2] M) (gQ G (some (.int rv)) Mf) 0 0 (gA G) := by
  refine Met_of (own := RX9) (L := [(0, .ref (adr G 7 0)), (1, .int x1), (2, .int x2)]) hG (by decide +kernel) rfl (Nat.le_of_ble_eq_true rfl) rfl ?_
  intro p e s m args below meth c hC hr hlk
  refine V_aload_n hC dX9_merges_0 rfl 0 rfl ?_
  obtain ⟨q1, e1, h⟩ := bind_some h
  refine V_cVv hC [] (c_X9_laysThen (l := l) hC.2.2.2.2.2.2.2 e1) kd_X9_laysThen kv_X9_laysThen gw_1443 (r_m0_0).o rfl ⟨Nat.le_of_ble_eq_true rfl, Nat.le_of_ble_eq_true rfl⟩ rfl (Nat.le_of_ble_eq_true rfl) dX9_merges_1 ⟨Nat.zero_le _, Nat.zero_le _⟩ rfl ?_
  refine V_iconst hC (0 : Int32) dX9_merges_4 (by decide) ?_
  refine V_istore_n hC ([(3, .int (0 : Int32)), (0, .ref (adr G 7 0)), (1, .int x1), (2, .int x2)]) dX9_merges_5 rfl (by decide) rfl ?_
  refine V_iconst hC (0 : Int32) dX9_merges_6 (by decide) ?_
  refine V_istore hC ([(4, .int (0 : Int32)), (3, .int (0 : Int32)), (0, .ref (adr G 7 0)), (1, .int x1), (2, .int x2)]) dX9_merges_7 (by decide) rfl ?_
  refine V_sub [2, 3, 4, 1, 0] rfl ?_
  exact l_X9_merges_9 hC hr hlk FU h
theorem b_X9_conflicts_14 {rv : Int32} {Mf : Mem} {x1 : Int32} {z0 : Int32} {M : Mem} (hC : Cx p s m args c cX9_conflicts RX9 2 G) (hr : meth.sig.returnType = some .int) (hlk : meth.locks = false) (h : B_X9_conflicts_14 x1 z0 M = some (rv, Mf)) : V p l e (rmk 3) s m args below meth c 2 G 0 0 (MQ below (gQ G (some (.int rv)) Mf) args s 0 0 (gA G)) 14 [(0, .ref (adr G 7 0)), (1, .int x1)] [.int z0, .ref (adr G 7 0)] M := by
  obtain ⟨q3, e3, h⟩ := bind_some h
  refine V_cVr hC [.int z0] (c_X9_refused (l := l) (rv := q3.1) (Mf := q3.2) hC.2.2.2.2.2.2.2 e3) kd_X9_refused kv_X9_refused gw_1318 (r_m0_0).o rfl ⟨Nat.le_of_ble_eq_true rfl, Nat.le_of_ble_eq_true rfl⟩ rfl (Nat.le_of_ble_eq_true rfl) dX9_conflicts_14 ⟨Nat.zero_le _, Nat.zero_le _⟩ rfl ?_
  refine V_if_eq hC 24 dX9_conflicts_17 (by decide) (fun c4 => ?_) (fun c4 => ?_)
  · have h := ite_t c4 h
    refine V_aload_n hC dX9_conflicts_24 rfl 0 rfl ?_
    refine V_iload_n hC dX9_conflicts_25 rfl 1 rfl ?_
    refine V_iconst hC (0 : Int32) dX9_conflicts_26 (by decide) ?_
    obtain ⟨q5, e5, h⟩ := bind_some h
    refine V_cVr hC [.int x1, .int (0 : Int32)] (c_X9_merges (l := l) (rv := q5.1) (Mf := q5.2) hC.2.2.2.2.2.2.2 e5) kd_X9_merges kv_X9_merges gw_1573 (r_m0_0).o rfl ⟨Nat.le_of_ble_eq_true rfl, Nat.le_of_ble_eq_true rfl⟩ rfl (Nat.le_of_ble_eq_true rfl) dX9_conflicts_27 ⟨Nat.zero_le _, Nat.zero_le _⟩ rfl ?_
    obtain ⟨rfl, rfl⟩ := Prod.mk.inj (Option.some.inj h)
    exact V_iret hC hr hlk dX9_conflicts_30
  · have h := ite_f c4 h
    refine V_iconst hC (0 : Int32) dX9_conflicts_20 (by decide) ?_
    refine V_goto hC 30 dX9_conflicts_21 (by decide) ?_
    obtain ⟨rfl, rfl⟩ := Prod.mk.inj (Option.some.inj h)
    exact V_iret hC hr hlk dX9_conflicts_30
theorem c_X9_conflicts {l : Launch} {G : Geo} {x1 : Int32} {rv : Int32} {Mf : Mem} {M : Mem} (hG : gD G) (h : f_X9_conflicts x1 M = some (rv, Mf)) : Met l yX9_conflicts (.code yX9_conflicts cX9_conflicts 2 (some .int) :: GL) (rmk 3) (gP G [.ref (adr G 7 0), .int x1] M) (gQ G (some (.int rv)) Mf) 0 0 (gA G) := by
  refine Met_of (own := RX9) (L := [(0, .ref (adr G 7 0)), (1, .int x1)]) hG (by decide +kernel) rfl (Nat.le_of_ble_eq_true rfl) rfl ?_
  intro p e s m args below meth c hC hr hlk
  refine V_aload_n hC dX9_conflicts_0 rfl 0 rfl ?_
  refine V_aload_n hC dX9_conflicts_1 rfl 0 rfl ?_
  refine V_iload_n hC dX9_conflicts_2 rfl 1 rfl ?_
  obtain ⟨q1, e1, h⟩ := bind_some h
  refine V_cVr hC [.int x1] (c_X9_isCheck (l := l) hC.2.2.2.2.2.2.2 e1) kd_X9_isCheck kv_X9_isCheck gw_1341 (r_m0_0).o rfl ⟨Nat.le_of_ble_eq_true rfl, Nat.le_of_ble_eq_true rfl⟩ rfl (Nat.le_of_ble_eq_true rfl) dX9_conflicts_3 ⟨Nat.zero_le _, Nat.zero_le _⟩ rfl ?_
  refine V_if_eq hC 13 dX9_conflicts_6 (by decide) (fun c2 => ?_) (fun c2 => ?_)
  · have h := ite_t c2 h
    refine V_iconst hC (1 : Int32) dX9_conflicts_13 (by decide) ?_
    exact b_X9_conflicts_14 hC hr hlk h
  · have h := ite_f c2 h
    refine V_iconst hC (0 : Int32) dX9_conflicts_9 (by decide) ?_
    refine V_goto hC 14 dX9_conflicts_10 (by decide) ?_
    exact b_X9_conflicts_14 hC hr hlk h
theorem b_X9_barGive_60 {rv : Int32} {Mf : Mem} {z0 : Int32} {M : Mem} (hC : Cx p s m args c cX9_barGive RX9 4 G) (hr : meth.sig.returnType = some .int) (hlk : meth.locks = false) (h : B_X9_barGive_60 z0 M = some (rv, Mf)) : V p l e (rmk 5) s m args below meth c 4 G 0 0 (MQ below (gQ G (some (.int rv)) Mf) args s 0 0 (gA G)) 60 [] [.int z0] M := by
  refine V_istore_n hC ([(3, .int z0)]) dX9_barGive_60 rfl (by decide) rfl ?_
  refine V_iload_n hC dX9_barGive_61 rfl 0 rfl ?_
  refine V_if_eq hC 69 dX9_barGive_62 (by decide) (fun c7 => ?_) (fun c7 => ?_)
  · have h := ite_t c7 h
    refine V_iconst hC (3 : Int32) dX9_barGive_69 (by decide) ?_
    obtain ⟨rfl, rfl⟩ := Prod.mk.inj (Option.some.inj h)
    exact V_iret hC hr hlk dX9_barGive_70
  · have h := ite_f c7 h
    refine V_iconst hC (0 : Int32) dX9_barGive_65 (by decide) ?_
    refine V_goto hC 70 dX9_barGive_66 (by decide) ?_
    obtain ⟨rfl, rfl⟩ := Prod.mk.inj (Option.some.inj h)
    exact V_iret hC hr hlk dX9_barGive_70
theorem b_X9_barGive_55 {rv : Int32} {Mf : Mem} {M : Mem} (hC : Cx p s m args c cX9_barGive RX9 4 G) (hr : meth.sig.returnType = some .int) (hlk : meth.locks = false) (h : B_X9_barGive_55 M = some (rv, Mf)) : V p l e (rmk 5) s m args below meth c 4 G 0 0 (MQ below (gQ G (some (.int rv)) Mf) args s 0 0 (gA G)) 55 [] [] M := by
  refine V_iconst hC (1 : Int32) dX9_barGive_55 (by decide) ?_
  refine V_goto hC 60 dX9_barGive_56 (by decide) ?_
  exact b_X9_barGive_60 hC hr hlk h
theorem b_X9_barGive_59 {rv : Int32} {Mf : Mem} {M : Mem} (hC : Cx p s m args c cX9_barGive RX9 4 G) (hr : meth.sig.returnType = some .int) (hlk : meth.locks = false) (h : B_X9_barGive_59 M = some (rv, Mf)) : V p l e (rmk 5) s m args below meth c 4 G 0 0 (MQ below (gQ G (some (.int rv)) Mf) args s 0 0 (gA G)) 59 [] [] M := by
  refine V_iconst hC (0 : Int32) dX9_barGive_59 (by decide) ?_
  exact b_X9_barGive_60 hC hr hlk h
theorem c_X9_barGive {l : Launch} {G : Geo} {x1 : Int32} {x2 : Int32} {rv : Int32} {Mf : Mem} {M : Mem} (hG : gD G) (h : f_X9_barGive x1 x2 M = some (rv, Mf)) : Met l yX9_barGive (.code yX9_barGive cX9_barGive 4 (some .int) :: GL) (rmk 5) (gP G [.ref (adr G 7 0), .int x1, .int x2] M) (gQ G (some (.int rv)) Mf) 0 0 (gA G) := by
  refine Met_of (own := RX9) (L := [(0, .ref (adr G 7 0)), (1, .int x1), (2, .int x2)]) hG (by decide +kernel) rfl (Nat.le_of_ble_eq_true rfl) rfl ?_
  intro p e s m args below meth c hC hr hlk
  refine V_aload_n hC dX9_barGive_0 rfl 0 rfl ?_
  refine V_iload_n hC dX9_barGive_1 rfl 1 rfl ?_
  obtain ⟨q1, e1, h⟩ := bind_some h
  refine V_cVr hC [.int x1] (c_X9_isCheck (l := l) hC.2.2.2.2.2.2.2 e1) kd_X9_isCheck kv_X9_isCheck gw_1341 (r_m0_0).o rfl ⟨Nat.le_of_ble_eq_true rfl, Nat.le_of_ble_eq_true rfl⟩ rfl (Nat.le_of_ble_eq_true rfl) dX9_barGive_2 ⟨Nat.zero_le _, Nat.zero_le _⟩ rfl ?_
  refine V_if_ne hC 10 dX9_barGive_5 (by decide) (fun c2 => ?_) (fun c2 => ?_)
  · have h := ite_f c2 h
    refine V_iload_n hC dX9_barGive_10 rfl 2 rfl ?_
    refine V_iconst hC (0 : Int32) dX9_barGive_11 (by decide) ?_
    refine V_iconst hC (2 : Int32) dX9_barGive_12 (by decide) ?_
    refine V_cSr hC [.int x2, .int (0 : Int32), .int (2 : Int32)] (c_X9_within (l := l) hC.2.2.2.2.2.2.2 rfl) kd_X9_within gw_1331 gw_1330 ⟨Nat.le_of_ble_eq_true rfl, Nat.le_of_ble_eq_true rfl⟩ rfl (Nat.le_of_ble_eq_true rfl) dX9_barGive_13 ⟨Nat.zero_le _, Nat.zero_le _⟩ rfl ?_
    refine V_if_ne hC 21 dX9_barGive_16 (by decide) (fun c4 => ?_) (fun c4 => ?_)
    · have h := ite_f c4 h
      refine V_aload_n hC dX9_barGive_21 rfl 0 rfl ?_
      refine V_iload_n hC dX9_barGive_22 rfl 1 rfl ?_
      obtain ⟨q5, e5, h⟩ := bind_some h
      refine V_cVr hC [.int x1] (c_X9_isHeld (l := l) hC.2.2.2.2.2.2.2 e5) kd_X9_isHeld kv_X9_isHeld gw_1439 (r_m0_0).o rfl ⟨Nat.le_of_ble_eq_true rfl, Nat.le_of_ble_eq_true rfl⟩ rfl (Nat.le_of_ble_eq_true rfl) dX9_barGive_23 ⟨Nat.zero_le _, Nat.zero_le _⟩ rfl ?_
      refine V_if_ne hC 55 dX9_barGive_26 (by decide) (fun c6 => ?_) (fun c6 => ?_)
      · have h := ite_f c6 h
        refine V_sub [] rfl ?_
        exact b_X9_barGive_55 hC hr hlk h
      · have h := ite_t c6 h
        refine V_aload_n hC dX9_barGive_29 rfl 0 rfl ?_
        refine V_aload_n hC dX9_barGive_30 rfl 0 rfl ?_
        refine V_iload_n hC dX9_barGive_31 rfl 1 rfl ?_
        refine V_iconst hC (2 : Int32) dX9_barGive_32 (by decide) ?_
        obtain ⟨q8, e8, h⟩ := bind_some h
        refine V_cVr hC [.int x1, .int (2 : Int32)] (c_X9_get (l := l) hC.2.2.2.2.2.2.2 e8) kd_X9_get kv_X9_get gw_1345 (r_m0_0).o rfl ⟨Nat.le_of_ble_eq_true rfl, Nat.le_of_ble_eq_true rfl⟩ rfl (Nat.le_of_ble_eq_true rfl) dX9_barGive_33 ⟨Nat.zero_le _, Nat.zero_le _⟩ rfl ?_
        obtain ⟨q9, e9, h⟩ := bind_some h
        refine V_cVr hC [.int q8] (c_X9_isHeldAround (l := l) hC.2.2.2.2.2.2.2 e9) kd_X9_isHeldAround kv_X9_isHeldAround gw_1585 (r_m0_0).o rfl ⟨Nat.le_of_ble_eq_true rfl, Nat.le_of_ble_eq_true rfl⟩ rfl (Nat.le_of_ble_eq_true rfl) dX9_barGive_36 ⟨Nat.zero_le _, Nat.zero_le _⟩ rfl ?_
        refine V_if_ne hC 59 dX9_barGive_39 (by decide) (fun c10 => ?_) (fun c10 => ?_)
        · have h := ite_f c10 h
          refine V_sub [] rfl ?_
          exact b_X9_barGive_59 hC hr hlk h
        · have h := ite_t c10 h
          refine V_iload_n hC dX9_barGive_42 rfl 2 rfl ?_
          refine V_if_gt hC 55 dX9_barGive_43 (by decide) (fun c11 => ?_) (fun c11 => ?_)
          · have h := ite_t c11 h
            refine V_sub [] rfl ?_
            exact b_X9_barGive_55 hC hr hlk h
          · have h := ite_f c11 h
            refine V_aload_n hC dX9_barGive_46 rfl 0 rfl ?_
            refine V_iload_n hC dX9_barGive_47 rfl 1 rfl ?_
            refine V_iconst hC (0 : Int32) dX9_barGive_48 (by decide) ?_
            obtain ⟨q12, e12, h⟩ := bind_some h
            refine V_cVr hC [.int x1, .int (0 : Int32)] (c_X9_merges (l := l) (rv := q12.1) (Mf := q12.2) hC.2.2.2.2.2.2.2 e12) kd_X9_merges kv_X9_merges gw_1573 (r_m0_0).o rfl ⟨Nat.le_of_ble_eq_true rfl, Nat.le_of_ble_eq_true rfl⟩ rfl (Nat.le_of_ble_eq_true rfl) dX9_barGive_49 ⟨Nat.zero_le _, Nat.zero_le _⟩ rfl ?_
            refine V_if_ne hC 59 dX9_barGive_52 (by decide) (fun c13 => ?_) (fun c13 => ?_)
            · have h := ite_f c13 h
              refine V_sub [] rfl ?_
              exact b_X9_barGive_59 hC hr hlk h
            · have h := ite_t c13 h
              refine V_sub [] rfl ?_
              exact b_X9_barGive_55 hC hr hlk h
    · have h := ite_t c4 h
      refine V_iconst hC (2 : Int32) dX9_barGive_19 (by decide) ?_
      obtain ⟨rfl, rfl⟩ := Prod.mk.inj (Option.some.inj h)
      exact V_iret hC hr hlk dX9_barGive_20
  · have h := ite_t c2 h
    refine V_iconst hC (1 : Int32) dX9_barGive_8 (by decide) ?_
    obtain ⟨rfl, rfl⟩ := Prod.mk.inj (Option.some.inj h)
    exact V_iret hC hr hlk dX9_barGive_9
theorem c_X9_gives {l : Launch} {G : Geo} {x1 : Int32} {x2 : Int32} {rv : Int32} {Mf : Mem} {M : Mem} (hG : gD G) (h : f_X9_gives x1 x2 M = some (rv, Mf)) : Met l yX9_gives (.code yX9_gives cX9_gives 4 (some .int) :: GL) (rmk 8) (gP G [.ref (adr G 7 0), .int x1, .int x2] M) (gQ G (some (.int rv)) Mf) 0 0 (gA G) := by
  refine Met_of (own := RX9) (L := [(0, .ref (adr G 7 0)), (1, .int x1), (2, .int x2)]) hG (by decide +kernel) rfl (Nat.le_of_ble_eq_true rfl) rfl ?_
  intro p e s m args below meth c hC hr hlk
  refine V_aload_n hC dX9_gives_0 rfl 0 rfl ?_
  refine V_iload_n hC dX9_gives_1 rfl 1 rfl ?_
  refine V_iload_n hC dX9_gives_2 rfl 2 rfl ?_
  obtain ⟨q1, e1, h⟩ := bind_some h
  refine V_cVr hC [.int x1, .int x2] (c_X9_merges (l := l) (rv := q1.1) (Mf := q1.2) hC.2.2.2.2.2.2.2 e1) kd_X9_merges kv_X9_merges gw_1573 (r_m0_0).o rfl ⟨Nat.le_of_ble_eq_true rfl, Nat.le_of_ble_eq_true rfl⟩ rfl (Nat.le_of_ble_eq_true rfl) dX9_gives_3 ⟨Nat.zero_le _, Nat.zero_le _⟩ rfl ?_
  refine V_pop hC dX9_gives_6 rfl ?_
  refine V_aload_n hC dX9_gives_7 rfl 0 rfl ?_
  refine V_aload_n hC dX9_gives_8 rfl 0 rfl ?_
  refine V_iload_n hC dX9_gives_9 rfl 1 rfl ?_
  refine V_iconst hC (1 : Int32) dX9_gives_10 (by decide) ?_
  obtain ⟨q2, e2, h⟩ := bind_some h
  refine V_cVr hC [.int x1, .int (1 : Int32)] (c_X9_get (l := l) hC.2.2.2.2.2.2.2 e2) kd_X9_get kv_X9_get gw_1345 (r_m0_0).o rfl ⟨Nat.le_of_ble_eq_true rfl, Nat.le_of_ble_eq_true rfl⟩ rfl (Nat.le_of_ble_eq_true rfl) dX9_gives_11 ⟨Nat.zero_le _, Nat.zero_le _⟩ rfl ?_
  obtain ⟨q3, e3, h⟩ := bind_some h
  refine V_cVr hC [.int q2] (c_X9_becomes (l := l) (rv := q3.1) (Mf := q3.2) hC.2.2.2.2.2.2.2 e3) kd_X9_becomes kv_X9_becomes gw_1447 (r_m0_0).o rfl ⟨Nat.le_of_ble_eq_true rfl, Nat.le_of_ble_eq_true rfl⟩ rfl (Nat.le_of_ble_eq_true rfl) dX9_gives_14 ⟨Nat.zero_le _, Nat.zero_le _⟩ rfl ?_
  refine V_istore_n hC ([(3, .int q3.1), (0, .ref (adr G 7 0)), (1, .int x1), (2, .int x2)]) dX9_gives_17 rfl (by decide) rfl ?_
  refine V_aload_n hC dX9_gives_18 rfl 1 rfl ?_
  refine V_getR hC (r_m0_0) fw_X9_7 dX9_gives_19 ?_
  refine V_iload_n hC dX9_gives_22 rfl 2 rfl ?_
  refine V_iconst hC (0 : Int32) dX9_gives_23 (by decide) ?_
  refine V_cSr hC [.int x1, .int (0 : Int32)] (c_X9_check (l := l) hC.2.2.2.2.2.2.2 rfl) kd_X9_check gw_1350 gw_1349 ⟨Nat.le_of_ble_eq_true rfl, Nat.le_of_ble_eq_true rfl⟩ rfl (Nat.le_of_ble_eq_true rfl) dX9_gives_24 ⟨Nat.zero_le _, Nat.zero_le _⟩ rfl ?_
  refine V_iconst hC (0 : Int32) dX9_gives_27 (by decide) ?_
  obtain ⟨c5, h⟩ := ite_some h
  refine V_iast hC (a_m1) c5 dX9_gives_28 ?_
  refine V_aload_n hC dX9_gives_29 rfl 1 rfl ?_
  obtain ⟨q6, e6, h⟩ := bind_some h
  refine V_cVv hC [] (c_X9_serves (l := l) hC.2.2.2.2.2.2.2 e6) kd_X9_serves kv_X9_serves gw_1513 (r_m0_0).o rfl ⟨Nat.le_of_ble_eq_true rfl, Nat.le_of_ble_eq_true rfl⟩ rfl (Nat.le_of_ble_eq_true rfl) dX9_gives_30 ⟨Nat.zero_le _, Nat.zero_le _⟩ rfl ?_
  refine V_iload_n hC dX9_gives_33 rfl 0 rfl ?_
  obtain ⟨rfl, rfl⟩ := Prod.mk.inj (Option.some.inj h)
  exact V_iret hC hr hlk dX9_gives_34
theorem c_X9_giveBack {l : Launch} {G : Geo} {x1 : Int32} {x2 : Int32} {rv : Int32} {Mf : Mem} {M : Mem} (hG : gD G) (h : f_X9_giveBack x1 x2 M = some (rv, Mf)) : Met l yX9_giveBack (.code yX9_giveBack cX9_giveBack 3 (some .int) :: GL) (rmk 9) (gP G [.ref (adr G 7 0), .int x1, .int x2] M) (gQ G (some (.int rv)) Mf) 0 0 (gA G) := by
  refine Met_of (own := RX9) (L := [(0, .ref (adr G 7 0)), (1, .int x1), (2, .int x2)]) hG (by decide +kernel) rfl (Nat.le_of_ble_eq_true rfl) rfl ?_
  intro p e s m args below meth c hC hr hlk
  refine V_aload_n hC dX9_giveBack_0 rfl 0 rfl ?_
  refine V_aload_n hC dX9_giveBack_1 rfl 0 rfl ?_
  refine V_iload_n hC dX9_giveBack_2 rfl 1 rfl ?_
  refine V_iload_n hC dX9_giveBack_3 rfl 2 rfl ?_
  obtain ⟨q1, e1, h⟩ := bind_some h
  refine V_cVr hC [.int x1, .int x2] (c_X9_barGive (l := l) (rv := q1.1) (Mf := q1.2) hC.2.2.2.2.2.2.2 e1) kd_X9_barGive kv_X9_barGive gw_1581 (r_m0_0).o rfl ⟨Nat.le_of_ble_eq_true rfl, Nat.le_of_ble_eq_true rfl⟩ rfl (Nat.le_of_ble_eq_true rfl) dX9_giveBack_4 ⟨Nat.zero_le _, Nat.zero_le _⟩ rfl ?_
  obtain ⟨q2, e2, h⟩ := bind_some h
  refine V_cVr hC [.int q1.1] (c_X9_refused (l := l) (rv := q2.1) (Mf := q2.2) hC.2.2.2.2.2.2.2 e2) kd_X9_refused kv_X9_refused gw_1318 (r_m0_0).o rfl ⟨Nat.le_of_ble_eq_true rfl, Nat.le_of_ble_eq_true rfl⟩ rfl (Nat.le_of_ble_eq_true rfl) dX9_giveBack_7 ⟨Nat.zero_le _, Nat.zero_le _⟩ rfl ?_
  refine V_if_eq hC 15 dX9_giveBack_10 (by decide) (fun c3 => ?_) (fun c3 => ?_)
  · have h := ite_t c3 h
    refine V_aload_n hC dX9_giveBack_15 rfl 0 rfl ?_
    obtain ⟨q4, e4, h⟩ := bind_some h
    refine V_cVv hC [] (c_X9_saves (l := l) hC.2.2.2.2.2.2.2 e4) kd_X9_saves kv_X9_saves gw_1363 (r_m0_0).o rfl ⟨Nat.le_of_ble_eq_true rfl, Nat.le_of_ble_eq_true rfl⟩ rfl (Nat.le_of_ble_eq_true rfl) dX9_giveBack_16 ⟨Nat.zero_le _, Nat.zero_le _⟩ rfl ?_
    refine V_aload_n hC dX9_giveBack_19 rfl 0 rfl ?_
    refine V_iload_n hC dX9_giveBack_20 rfl 1 rfl ?_
    refine V_iload_n hC dX9_giveBack_21 rfl 2 rfl ?_
    obtain ⟨q5, e5, h⟩ := bind_some h
    refine V_cVr hC [.int x1, .int x2] (c_X9_gives (l := l) (rv := q5.1) (Mf := q5.2) hC.2.2.2.2.2.2.2 e5) kd_X9_gives kv_X9_gives gw_1589 (r_m0_0).o rfl ⟨Nat.le_of_ble_eq_true rfl, Nat.le_of_ble_eq_true rfl⟩ rfl (Nat.le_of_ble_eq_true rfl) dX9_giveBack_22 ⟨Nat.zero_le _, Nat.zero_le _⟩ rfl ?_
    obtain ⟨rfl, rfl⟩ := Prod.mk.inj (Option.some.inj h)
    exact V_iret hC hr hlk dX9_giveBack_25
  · have h := ite_f c3 h
    refine V_iconst hC (0 : Int32) dX9_giveBack_13 (by decide) ?_
    obtain ⟨rfl, rfl⟩ := Prod.mk.inj (Option.some.inj h)
    exact V_iret hC hr hlk dX9_giveBack_14
theorem c_X9_tellCheck {l : Launch} {G : Geo} {x1 : Int32} {x2 : Int32} {rv : Int32} {M : Mem} (hG : gD G) (h : f_X9_tellCheck x1 x2 M = some rv) : Met l yX9_tellCheck (.code yX9_tellCheck cX9_tellCheck 3 (some .int) :: GL) (rmk 3) (gP G [.ref (adr G 7 0), .int x1, .int x2] M) (gQ G (some (.int rv)) M) 0 0 (gA G) := by
  refine Met_of (own := RX9) (L := [(0, .ref (adr G 7 0)), (1, .int x1), (2, .int x2)]) hG (by decide +kernel) rfl (Nat.le_of_ble_eq_true rfl) rfl ?_
  intro p e s m args below meth c hC hr hlk
  refine V_iload_n hC dX9_tellCheck_0 rfl 2 rfl ?_
  by_cases c1 : x2 = (0 : Int32)
  · have h := ite_t c1 h
    refine V_tableIn hC 0 36 dX9_tellCheck_1 (by rw [c1]; decide) (by decide) rfl (by decide) ?_
    refine V_aload_n hC dX9_tellCheck_36 rfl 0 rfl ?_
    refine V_iload_n hC dX9_tellCheck_37 rfl 1 rfl ?_
    refine V_iconst hC (1 : Int32) dX9_tellCheck_38 (by decide) ?_
    obtain ⟨q2, e2, h⟩ := bind_some h
    refine V_cVr hC [.int x1, .int (1 : Int32)] (c_X9_get (l := l) hC.2.2.2.2.2.2.2 e2) kd_X9_get kv_X9_get gw_1345 (r_m0_0).o rfl ⟨Nat.le_of_ble_eq_true rfl, Nat.le_of_ble_eq_true rfl⟩ rfl (Nat.le_of_ble_eq_true rfl) dX9_tellCheck_39 ⟨Nat.zero_le _, Nat.zero_le _⟩ rfl ?_
    obtain rfl := Option.some.inj h
    exact V_iret hC hr hlk dX9_tellCheck_42
  have h := ite_f c1 h
  by_cases c3 : x2 = (1 : Int32)
  · have h := ite_t c3 h
    refine V_tableIn hC 1 43 dX9_tellCheck_1 (by rw [c3]; decide) (by decide) rfl (by decide) ?_
    refine V_aload_n hC dX9_tellCheck_43 rfl 0 rfl ?_
    refine V_iload_n hC dX9_tellCheck_44 rfl 1 rfl ?_
    refine V_iconst hC (2 : Int32) dX9_tellCheck_45 (by decide) ?_
    obtain ⟨q4, e4, h⟩ := bind_some h
    refine V_cVr hC [.int x1, .int (2 : Int32)] (c_X9_get (l := l) hC.2.2.2.2.2.2.2 e4) kd_X9_get kv_X9_get gw_1345 (r_m0_0).o rfl ⟨Nat.le_of_ble_eq_true rfl, Nat.le_of_ble_eq_true rfl⟩ rfl (Nat.le_of_ble_eq_true rfl) dX9_tellCheck_46 ⟨Nat.zero_le _, Nat.zero_le _⟩ rfl ?_
    obtain rfl := Option.some.inj h
    exact V_iret hC hr hlk dX9_tellCheck_49
  have h := ite_f c3 h
  by_cases c5 : x2 = (2 : Int32)
  · have h := ite_t c5 h
    refine V_tableIn hC 2 50 dX9_tellCheck_1 (by rw [c5]; decide) (by decide) rfl (by decide) ?_
    refine V_aload_n hC dX9_tellCheck_50 rfl 0 rfl ?_
    refine V_iload_n hC dX9_tellCheck_51 rfl 1 rfl ?_
    refine V_iconst hC (3 : Int32) dX9_tellCheck_52 (by decide) ?_
    obtain ⟨q6, e6, h⟩ := bind_some h
    refine V_cVr hC [.int x1, .int (3 : Int32)] (c_X9_get (l := l) hC.2.2.2.2.2.2.2 e6) kd_X9_get kv_X9_get gw_1345 (r_m0_0).o rfl ⟨Nat.le_of_ble_eq_true rfl, Nat.le_of_ble_eq_true rfl⟩ rfl (Nat.le_of_ble_eq_true rfl) dX9_tellCheck_53 ⟨Nat.zero_le _, Nat.zero_le _⟩ rfl ?_
    obtain rfl := Option.some.inj h
    exact V_iret hC hr hlk dX9_tellCheck_56
  have h := ite_f c5 h
  by_cases c7 : x2 = (3 : Int32)
  · have h := ite_t c7 h
    refine V_tableIn hC 3 57 dX9_tellCheck_1 (by rw [c7]; decide) (by decide) rfl (by decide) ?_
    refine V_aload_n hC dX9_tellCheck_57 rfl 0 rfl ?_
    refine V_iload_n hC dX9_tellCheck_58 rfl 1 rfl ?_
    refine V_iconst hC (4 : Int32) dX9_tellCheck_59 (by decide) ?_
    obtain ⟨q8, e8, h⟩ := bind_some h
    refine V_cVr hC [.int x1, .int (4 : Int32)] (c_X9_get (l := l) hC.2.2.2.2.2.2.2 e8) kd_X9_get kv_X9_get gw_1345 (r_m0_0).o rfl ⟨Nat.le_of_ble_eq_true rfl, Nat.le_of_ble_eq_true rfl⟩ rfl (Nat.le_of_ble_eq_true rfl) dX9_tellCheck_60 ⟨Nat.zero_le _, Nat.zero_le _⟩ rfl ?_
    obtain rfl := Option.some.inj h
    exact V_iret hC hr hlk dX9_tellCheck_63
  have h := ite_f c7 h
  by_cases c9 : x2 = (4 : Int32)
  · have h := ite_t c9 h
    refine V_tableIn hC 4 64 dX9_tellCheck_1 (by rw [c9]; decide) (by decide) rfl (by decide) ?_
    refine V_aload_n hC dX9_tellCheck_64 rfl 0 rfl ?_
    refine V_iload_n hC dX9_tellCheck_65 rfl 1 rfl ?_
    refine V_iconst hC (5 : Int32) dX9_tellCheck_66 (by decide) ?_
    obtain ⟨q10, e10, h⟩ := bind_some h
    refine V_cVr hC [.int x1, .int (5 : Int32)] (c_X9_get (l := l) hC.2.2.2.2.2.2.2 e10) kd_X9_get kv_X9_get gw_1345 (r_m0_0).o rfl ⟨Nat.le_of_ble_eq_true rfl, Nat.le_of_ble_eq_true rfl⟩ rfl (Nat.le_of_ble_eq_true rfl) dX9_tellCheck_67 ⟨Nat.zero_le _, Nat.zero_le _⟩ rfl ?_
    obtain rfl := Option.some.inj h
    exact V_iret hC hr hlk dX9_tellCheck_70
  have h := ite_f c9 h
  refine V_tableOut hC 71 dX9_tellCheck_1 (tsw_out (0) 5 x2 (tsw_cons c1 (by decide) (tsw_cons c3 (by decide) (tsw_cons c5 (by decide) (tsw_cons c7 (by decide) (tsw_cons c9 (by decide) (tsw_nil)))))) rfl) (by decide) ?_
  refine V_aload_n hC dX9_tellCheck_71 rfl 0 rfl ?_
  refine V_iload_n hC dX9_tellCheck_72 rfl 1 rfl ?_
  obtain ⟨q11, e11, h⟩ := bind_some h
  refine V_cVr hC [.int x1] (c_X9_edited (l := l) hC.2.2.2.2.2.2.2 e11) kd_X9_edited kv_X9_edited gw_1545 (r_m0_0).o rfl ⟨Nat.le_of_ble_eq_true rfl, Nat.le_of_ble_eq_true rfl⟩ rfl (Nat.le_of_ble_eq_true rfl) dX9_tellCheck_73 ⟨Nat.zero_le _, Nat.zero_le _⟩ rfl ?_
  obtain rfl := Option.some.inj h
  exact V_iret hC hr hlk dX9_tellCheck_76
theorem b_X9_checkOut_27 {rv : Int32} {Mf : Mem} {x1 : Int32} {x2 : Int32} {z0 : Int32} {M : Mem} (hC : Cx p s m args c cX9_checkOut RX9 3 G) (hr : meth.sig.returnType = some .int) (hlk : meth.locks = false) (h : B_X9_checkOut_27 x1 x2 z0 M = some (rv, Mf)) : V p l e (rmk 4) s m args below meth c 3 G 0 0 (MQ below (gQ G (some (.int rv)) Mf) args s 0 0 (gA G)) 27 [(0, .ref (adr G 7 0)), (1, .int x1), (2, .int x2)] [.int z0, .ref (adr G 7 0)] M := by
  obtain ⟨q5, e5, h⟩ := bind_some h
  refine V_cVr hC [.int z0] (c_X9_refused (l := l) (rv := q5.1) (Mf := q5.2) hC.2.2.2.2.2.2.2 e5) kd_X9_refused kv_X9_refused gw_1318 (r_m0_0).o rfl ⟨Nat.le_of_ble_eq_true rfl, Nat.le_of_ble_eq_true rfl⟩ rfl (Nat.le_of_ble_eq_true rfl) dX9_checkOut_27 ⟨Nat.zero_le _, Nat.zero_le _⟩ rfl ?_
  refine V_if_eq hC 37 dX9_checkOut_30 (by decide) (fun c6 => ?_) (fun c6 => ?_)
  · have h := ite_t c6 h
    refine V_aload_n hC dX9_checkOut_37 rfl 0 rfl ?_
    refine V_iload_n hC dX9_checkOut_38 rfl 1 rfl ?_
    refine V_iload_n hC dX9_checkOut_39 rfl 2 rfl ?_
    obtain ⟨q7, e7, h⟩ := bind_some h
    refine V_cVr hC [.int x1, .int x2] (c_X9_tellCheck (l := l) hC.2.2.2.2.2.2.2 e7) kd_X9_tellCheck kv_X9_tellCheck gw_1597 (r_m0_0).o rfl ⟨Nat.le_of_ble_eq_true rfl, Nat.le_of_ble_eq_true rfl⟩ rfl (Nat.le_of_ble_eq_true rfl) dX9_checkOut_40 ⟨Nat.zero_le _, Nat.zero_le _⟩ rfl ?_
    obtain ⟨rfl, rfl⟩ := Prod.mk.inj (Option.some.inj h)
    exact V_iret hC hr hlk dX9_checkOut_43
  · have h := ite_f c6 h
    refine V_iconst hC (0 : Int32) dX9_checkOut_33 (by decide) ?_
    refine V_goto hC 43 dX9_checkOut_34 (by decide) ?_
    obtain ⟨rfl, rfl⟩ := Prod.mk.inj (Option.some.inj h)
    exact V_iret hC hr hlk dX9_checkOut_43
theorem c_X9_checkOut {l : Launch} {G : Geo} {x1 : Int32} {x2 : Int32} {rv : Int32} {Mf : Mem} {M : Mem} (hG : gD G) (h : f_X9_checkOut x1 x2 M = some (rv, Mf)) : Met l yX9_checkOut (.code yX9_checkOut cX9_checkOut 3 (some .int) :: GL) (rmk 4) (gP G [.ref (adr G 7 0), .int x1, .int x2] M) (gQ G (some (.int rv)) Mf) 0 0 (gA G) := by
  refine Met_of (own := RX9) (L := [(0, .ref (adr G 7 0)), (1, .int x1), (2, .int x2)]) hG (by decide +kernel) rfl (Nat.le_of_ble_eq_true rfl) rfl ?_
  intro p e s m args below meth c hC hr hlk
  refine V_aload_n hC dX9_checkOut_0 rfl 0 rfl ?_
  refine V_aload_n hC dX9_checkOut_1 rfl 0 rfl ?_
  refine V_iload_n hC dX9_checkOut_2 rfl 1 rfl ?_
  obtain ⟨q1, e1, h⟩ := bind_some h
  refine V_cVr hC [.int x1] (c_X9_isCheck (l := l) hC.2.2.2.2.2.2.2 e1) kd_X9_isCheck kv_X9_isCheck gw_1341 (r_m0_0).o rfl ⟨Nat.le_of_ble_eq_true rfl, Nat.le_of_ble_eq_true rfl⟩ rfl (Nat.le_of_ble_eq_true rfl) dX9_checkOut_3 ⟨Nat.zero_le _, Nat.zero_le _⟩ rfl ?_
  refine V_if_ne hC 13 dX9_checkOut_6 (by decide) (fun c2 => ?_) (fun c2 => ?_)
  · have h := ite_f c2 h
    refine V_iload_n hC dX9_checkOut_13 rfl 2 rfl ?_
    refine V_iconst hC (0 : Int32) dX9_checkOut_14 (by decide) ?_
    refine V_iconst hC (5 : Int32) dX9_checkOut_15 (by decide) ?_
    refine V_cSr hC [.int x2, .int (0 : Int32), .int (5 : Int32)] (c_X9_within (l := l) hC.2.2.2.2.2.2.2 rfl) kd_X9_within gw_1331 gw_1330 ⟨Nat.le_of_ble_eq_true rfl, Nat.le_of_ble_eq_true rfl⟩ rfl (Nat.le_of_ble_eq_true rfl) dX9_checkOut_16 ⟨Nat.zero_le _, Nat.zero_le _⟩ rfl ?_
    refine V_if_eq hC 26 dX9_checkOut_19 (by decide) (fun c4 => ?_) (fun c4 => ?_)
    · have h := ite_t c4 h
      refine V_iconst hC (2 : Int32) dX9_checkOut_26 (by decide) ?_
      exact b_X9_checkOut_27 hC hr hlk h
    · have h := ite_f c4 h
      refine V_iconst hC (0 : Int32) dX9_checkOut_22 (by decide) ?_
      refine V_goto hC 27 dX9_checkOut_23 (by decide) ?_
      exact b_X9_checkOut_27 hC hr hlk h
  · have h := ite_t c2 h
    refine V_iconst hC (1 : Int32) dX9_checkOut_9 (by decide) ?_
    refine V_goto hC 27 dX9_checkOut_10 (by decide) ?_
    exact b_X9_checkOut_27 hC hr hlk h
theorem b_X9_holders_14 {rv : Int32} {Mf : Mem} {x1 : Int32} {z0 : Int32} {M : Mem} (hC : Cx p s m args c cX9_holders RX9 2 G) (hr : meth.sig.returnType = some .int) (hlk : meth.locks = false) (h : B_X9_holders_14 x1 z0 M = some (rv, Mf)) : V p l e (rmk 5) s m args below meth c 2 G 0 0 (MQ below (gQ G (some (.int rv)) Mf) args s 0 0 (gA G)) 14 [(0, .ref (adr G 7 0)), (1, .int x1)] [.int z0, .ref (adr G 7 0)] M := by
  obtain ⟨q3, e3, h⟩ := bind_some h
  refine V_cVr hC [.int z0] (c_X9_refused (l := l) (rv := q3.1) (Mf := q3.2) hC.2.2.2.2.2.2.2 e3) kd_X9_refused kv_X9_refused gw_1318 (r_m0_0).o rfl ⟨Nat.le_of_ble_eq_true rfl, Nat.le_of_ble_eq_true rfl⟩ rfl (Nat.le_of_ble_eq_true rfl) dX9_holders_14 ⟨Nat.zero_le _, Nat.zero_le _⟩ rfl ?_
  refine V_if_eq hC 24 dX9_holders_17 (by decide) (fun c4 => ?_) (fun c4 => ?_)
  · have h := ite_t c4 h
    refine V_aload_n hC dX9_holders_24 rfl 0 rfl ?_
    refine V_iload_n hC dX9_holders_25 rfl 1 rfl ?_
    obtain ⟨q5, e5, h⟩ := bind_some h
    refine V_cVr hC [.int x1] (c_X9_holdersOf (l := l) hC.2.2.2.2.2.2.2 e5) kd_X9_holdersOf kv_X9_holdersOf gw_1435 (r_m0_0).o rfl ⟨Nat.le_of_ble_eq_true rfl, Nat.le_of_ble_eq_true rfl⟩ rfl (Nat.le_of_ble_eq_true rfl) dX9_holders_26 ⟨Nat.zero_le _, Nat.zero_le _⟩ rfl ?_
    obtain ⟨rfl, rfl⟩ := Prod.mk.inj (Option.some.inj h)
    exact V_iret hC hr hlk dX9_holders_29
  · have h := ite_f c4 h
    refine V_iconst hC (0 : Int32) dX9_holders_20 (by decide) ?_
    refine V_goto hC 29 dX9_holders_21 (by decide) ?_
    obtain ⟨rfl, rfl⟩ := Prod.mk.inj (Option.some.inj h)
    exact V_iret hC hr hlk dX9_holders_29
theorem c_X9_holders {l : Launch} {G : Geo} {x1 : Int32} {rv : Int32} {Mf : Mem} {M : Mem} (hG : gD G) (h : f_X9_holders x1 M = some (rv, Mf)) : Met l yX9_holders (.code yX9_holders cX9_holders 2 (some .int) :: GL) (rmk 5) (gP G [.ref (adr G 7 0), .int x1] M) (gQ G (some (.int rv)) Mf) 0 0 (gA G) := by
  refine Met_of (own := RX9) (L := [(0, .ref (adr G 7 0)), (1, .int x1)]) hG (by decide +kernel) rfl (Nat.le_of_ble_eq_true rfl) rfl ?_
  intro p e s m args below meth c hC hr hlk
  refine V_aload_n hC dX9_holders_0 rfl 0 rfl ?_
  refine V_aload_n hC dX9_holders_1 rfl 0 rfl ?_
  refine V_iload_n hC dX9_holders_2 rfl 1 rfl ?_
  obtain ⟨q1, e1, h⟩ := bind_some h
  refine V_cVr hC [.int x1] (c_X9_isSection (l := l) hC.2.2.2.2.2.2.2 e1) kd_X9_isSection kv_X9_isSection gw_1326 (r_m0_0).o rfl ⟨Nat.le_of_ble_eq_true rfl, Nat.le_of_ble_eq_true rfl⟩ rfl (Nat.le_of_ble_eq_true rfl) dX9_holders_3 ⟨Nat.zero_le _, Nat.zero_le _⟩ rfl ?_
  refine V_if_eq hC 13 dX9_holders_6 (by decide) (fun c2 => ?_) (fun c2 => ?_)
  · have h := ite_t c2 h
    refine V_iconst hC (1 : Int32) dX9_holders_13 (by decide) ?_
    exact b_X9_holders_14 hC hr hlk h
  · have h := ite_f c2 h
    refine V_iconst hC (0 : Int32) dX9_holders_9 (by decide) ?_
    refine V_goto hC 14 dX9_holders_10 (by decide) ?_
    exact b_X9_holders_14 hC hr hlk h
theorem b_X9_ifBroken_14 {rv : Int32} {Mf : Mem} {x1 : Int32} {z0 : Int32} {M : Mem} (hC : Cx p s m args c cX9_ifBroken RX9 4 G) (hr : meth.sig.returnType = some .int) (hlk : meth.locks = false) (h : B_X9_ifBroken_14 x1 z0 M = some (rv, Mf)) : V p l e (rmk 9) s m args below meth c 4 G 0 0 (MQ below (gQ G (some (.int rv)) Mf) args s 0 0 (gA G)) 14 [(0, .ref (adr G 7 0)), (1, .int x1)] [.int z0, .ref (adr G 7 0)] M := by
  obtain ⟨q3, e3, h⟩ := bind_some h
  refine V_cVr hC [.int z0] (c_X9_refused (l := l) (rv := q3.1) (Mf := q3.2) hC.2.2.2.2.2.2.2 e3) kd_X9_refused kv_X9_refused gw_1318 (r_m0_0).o rfl ⟨Nat.le_of_ble_eq_true rfl, Nat.le_of_ble_eq_true rfl⟩ rfl (Nat.le_of_ble_eq_true rfl) dX9_ifBroken_14 ⟨Nat.zero_le _, Nat.zero_le _⟩ rfl ?_
  refine V_if_ne hC 28 dX9_ifBroken_17 (by decide) (fun c4 => ?_) (fun c4 => ?_)
  · have h := ite_f c4 h
    refine V_iconst hC (0 : Int32) dX9_ifBroken_28 (by decide) ?_
    obtain ⟨rfl, rfl⟩ := Prod.mk.inj (Option.some.inj h)
    exact V_iret hC hr hlk dX9_ifBroken_29
  · have h := ite_t c4 h
    refine V_aload_n hC dX9_ifBroken_20 rfl 0 rfl ?_
    refine V_iload_n hC dX9_ifBroken_21 rfl 1 rfl ?_
    obtain ⟨q5, e5, h⟩ := bind_some h
    refine V_cVr hC [.int x1] (c_X9_isHeld (l := l) hC.2.2.2.2.2.2.2 e5) kd_X9_isHeld kv_X9_isHeld gw_1439 (r_m0_0).o rfl ⟨Nat.le_of_ble_eq_true rfl, Nat.le_of_ble_eq_true rfl⟩ rfl (Nat.le_of_ble_eq_true rfl) dX9_ifBroken_22 ⟨Nat.zero_le _, Nat.zero_le _⟩ rfl ?_
    refine V_if_ne hC 30 dX9_ifBroken_25 (by decide) (fun c6 => ?_) (fun c6 => ?_)
    · have h := ite_f c6 h
      refine V_aload_n hC dX9_ifBroken_30 rfl 0 rfl ?_
      obtain ⟨q7, e7, h⟩ := bind_some h
      refine V_cVv hC [] (c_X9_laysAside (l := l) hC.2.2.2.2.2.2.2 e7) kd_X9_laysAside kv_X9_laysAside gw_1609 (r_m0_0).o rfl ⟨Nat.le_of_ble_eq_true rfl, Nat.le_of_ble_eq_true rfl⟩ rfl (Nat.le_of_ble_eq_true rfl) dX9_ifBroken_31 ⟨Nat.zero_le _, Nat.zero_le _⟩ rfl ?_
      refine V_aload_n hC dX9_ifBroken_34 rfl 0 rfl ?_
      obtain ⟨q8, e8, h⟩ := bind_some h
      refine V_cVr hC [] (c_X9_waits (l := l) hC.2.2.2.2.2.2.2 e8) kd_X9_waits kv_X9_waits gw_1356 (r_m0_0).o rfl ⟨Nat.le_of_ble_eq_true rfl, Nat.le_of_ble_eq_true rfl⟩ rfl (Nat.le_of_ble_eq_true rfl) dX9_ifBroken_35 ⟨Nat.zero_le _, Nat.zero_le _⟩ rfl ?_
      refine V_istore_n hC ([(2, .int q8), (0, .ref (adr G 7 0)), (1, .int x1)]) dX9_ifBroken_38 rfl (by decide) rfl ?_
      refine V_aload_n hC dX9_ifBroken_39 rfl 1 rfl ?_
      refine V_iload_n hC dX9_ifBroken_40 rfl 2 rfl ?_
      obtain ⟨q9, e9, h⟩ := bind_some h
      refine V_cVr hC [.int x1] (c_X9_breaks (l := l) (rv := q9.1) (Mf := q9.2) hC.2.2.2.2.2.2.2 e9) kd_X9_breaks kv_X9_breaks gw_1529 (r_m0_0).o rfl ⟨Nat.le_of_ble_eq_true rfl, Nat.le_of_ble_eq_true rfl⟩ rfl (Nat.le_of_ble_eq_true rfl) dX9_ifBroken_41 ⟨Nat.zero_le _, Nat.zero_le _⟩ rfl ?_
      refine V_pop hC dX9_ifBroken_44 rfl ?_
      refine V_iload_n hC dX9_ifBroken_45 rfl 0 rfl ?_
      refine V_aload_n hC dX9_ifBroken_46 rfl 1 rfl ?_
      obtain ⟨q10, e10, h⟩ := bind_some h
      refine V_cVr hC [] (c_X9_waits (l := l) hC.2.2.2.2.2.2.2 e10) kd_X9_waits kv_X9_waits gw_1356 (r_m0_0).o rfl ⟨Nat.le_of_ble_eq_true rfl, Nat.le_of_ble_eq_true rfl⟩ rfl (Nat.le_of_ble_eq_true rfl) dX9_ifBroken_47 ⟨Nat.zero_le _, Nat.zero_le _⟩ rfl ?_
      refine V_isub hC dX9_ifBroken_50 ?_
      refine V_istore_n hC ([(3, .int (q8 - q10)), (2, .int q8), (0, .ref (adr G 7 0)), (1, .int x1)]) dX9_ifBroken_51 rfl (by decide) rfl ?_
      refine V_aload_n hC dX9_ifBroken_52 rfl 2 rfl ?_
      obtain ⟨q11, e11, h⟩ := bind_some h
      refine V_cVv hC [] (c_X9_takesBack (l := l) hC.2.2.2.2.2.2.2 e11) kd_X9_takesBack kv_X9_takesBack gw_1613 (r_m0_0).o rfl ⟨Nat.le_of_ble_eq_true rfl, Nat.le_of_ble_eq_true rfl⟩ rfl (Nat.le_of_ble_eq_true rfl) dX9_ifBroken_53 ⟨Nat.zero_le _, Nat.zero_le _⟩ rfl ?_
      refine V_iload_n hC dX9_ifBroken_56 rfl 0 rfl ?_
      obtain ⟨rfl, rfl⟩ := Prod.mk.inj (Option.some.inj h)
      exact V_iret hC hr hlk dX9_ifBroken_57
    · have h := ite_t c6 h
      refine V_iconst hC (0 : Int32) dX9_ifBroken_28 (by decide) ?_
      obtain ⟨rfl, rfl⟩ := Prod.mk.inj (Option.some.inj h)
      exact V_iret hC hr hlk dX9_ifBroken_29
theorem c_X9_ifBroken {l : Launch} {G : Geo} {x1 : Int32} {rv : Int32} {Mf : Mem} {M : Mem} (hG : gD G) (h : f_X9_ifBroken x1 M = some (rv, Mf)) : Met l yX9_ifBroken (.code yX9_ifBroken cX9_ifBroken 4 (some .int) :: GL) (rmk 9) (gP G [.ref (adr G 7 0), .int x1] M) (gQ G (some (.int rv)) Mf) 0 0 (gA G) := by
  refine Met_of (own := RX9) (L := [(0, .ref (adr G 7 0)), (1, .int x1)]) hG (by decide +kernel) rfl (Nat.le_of_ble_eq_true rfl) rfl ?_
  intro p e s m args below meth c hC hr hlk
  refine V_aload_n hC dX9_ifBroken_0 rfl 0 rfl ?_
  refine V_aload_n hC dX9_ifBroken_1 rfl 0 rfl ?_
  refine V_iload_n hC dX9_ifBroken_2 rfl 1 rfl ?_
  obtain ⟨q1, e1, h⟩ := bind_some h
  refine V_cVr hC [.int x1] (c_X9_isCheck (l := l) hC.2.2.2.2.2.2.2 e1) kd_X9_isCheck kv_X9_isCheck gw_1341 (r_m0_0).o rfl ⟨Nat.le_of_ble_eq_true rfl, Nat.le_of_ble_eq_true rfl⟩ rfl (Nat.le_of_ble_eq_true rfl) dX9_ifBroken_3 ⟨Nat.zero_le _, Nat.zero_le _⟩ rfl ?_
  refine V_if_eq hC 13 dX9_ifBroken_6 (by decide) (fun c2 => ?_) (fun c2 => ?_)
  · have h := ite_t c2 h
    refine V_iconst hC (1 : Int32) dX9_ifBroken_13 (by decide) ?_
    exact b_X9_ifBroken_14 hC hr hlk h
  · have h := ite_f c2 h
    refine V_iconst hC (0 : Int32) dX9_ifBroken_9 (by decide) ?_
    refine V_goto hC 14 dX9_ifBroken_10 (by decide) ?_
    exact b_X9_ifBroken_14 hC hr hlk h
theorem b_X9_grantedAt_84 {rv : Int32} {Mf : Mem} {z0 : Int32} {M : Mem} (hC : Cx p s m args c cX9_grantedAt RX9 4 G) (hr : meth.sig.returnType = some .int) (hlk : meth.locks = false) (h : B_X9_grantedAt_84 z0 M = some (rv, Mf)) : V p l e (rmk 9) s m args below meth c 4 G 0 0 (MQ below (gQ G (some (.int rv)) Mf) args s 0 0 (gA G)) 84 [(0, .ref (adr G 7 0))] [.int z0] M := by
  refine V_istore_n hC ([(3, .int z0), (0, .ref (adr G 7 0))]) dX9_grantedAt_84 rfl (by decide) rfl ?_
  refine V_aload_n hC dX9_grantedAt_85 rfl 1 rfl ?_
  obtain ⟨q11, e11, h⟩ := bind_some h
  refine V_cVv hC [] (c_X9_takesBack (l := l) hC.2.2.2.2.2.2.2 e11) kd_X9_takesBack kv_X9_takesBack gw_1613 (r_m0_0).o rfl ⟨Nat.le_of_ble_eq_true rfl, Nat.le_of_ble_eq_true rfl⟩ rfl (Nat.le_of_ble_eq_true rfl) dX9_grantedAt_86 ⟨Nat.zero_le _, Nat.zero_le _⟩ rfl ?_
  refine V_iload_n hC dX9_grantedAt_89 rfl 0 rfl ?_
  obtain ⟨rfl, rfl⟩ := Prod.mk.inj (Option.some.inj h)
  exact V_iret hC hr hlk dX9_grantedAt_90
theorem b_X9_grantedAt_65 {rv : Int32} {Mf : Mem} {x1 : Int32} {M : Mem} (hC : Cx p s m args c cX9_grantedAt RX9 4 G) (hr : meth.sig.returnType = some .int) (hlk : meth.locks = false) (h : B_X9_grantedAt_65 x1 M = some (rv, Mf)) : V p l e (rmk 9) s m args below meth c 4 G 0 0 (MQ below (gQ G (some (.int rv)) Mf) args s 0 0 (gA G)) 65 [(0, .ref (adr G 7 0)), (1, .int x1)] [] M := by
  refine V_aload_n hC dX9_grantedAt_65 rfl 0 rfl ?_
  refine V_iload_n hC dX9_grantedAt_66 rfl 1 rfl ?_
  obtain ⟨q9, e9, h⟩ := bind_some h
  refine V_cVr hC [.int x1] (c_X9_placeOf (l := l) hC.2.2.2.2.2.2.2 e9) kd_X9_placeOf kv_X9_placeOf gw_1466 (r_m0_0).o rfl ⟨Nat.le_of_ble_eq_true rfl, Nat.le_of_ble_eq_true rfl⟩ rfl (Nat.le_of_ble_eq_true rfl) dX9_grantedAt_67 ⟨Nat.zero_le _, Nat.zero_le _⟩ rfl ?_
  refine V_iconst hC ((-1) : Int32) dX9_grantedAt_70 (by decide) ?_
  refine V_icmp_ne hC 83 dX9_grantedAt_71 (by decide) (fun c10 => ?_) (fun c10 => ?_)
  · have h := ite_f c10 h
    refine V_iconst hC ((-1) : Int32) dX9_grantedAt_83 (by decide) ?_
    refine V_sub [0] rfl ?_
    exact b_X9_grantedAt_84 hC hr hlk h
  · have h := ite_t c10 h
    refine V_aload_n hC dX9_grantedAt_74 rfl 0 rfl ?_
    refine V_getR hC (r_m0_0) fw_X9_7 dX9_grantedAt_75 ?_
    refine V_iconst hC (0 : Int32) dX9_grantedAt_78 (by decide) ?_
    refine V_iald hC (a_m1) (by decide) dX9_grantedAt_79 ?_
    refine V_goto hC 84 dX9_grantedAt_80 (by decide) ?_
    refine V_sub [0] rfl ?_
    exact b_X9_grantedAt_84 hC hr hlk h
theorem l_X9_grantedAt_42 {rv : Int32} {Mf : Mem} {x1 : Int32} (hC : Cx p s m args c cX9_grantedAt RX9 4 G) (hr : meth.sig.returnType = some .int) (hlk : meth.locks = false) : ∀ (n : Nat) {x2 : Int32} {M : Mem} (h : L_X9_grantedAt_42 x1 n x2 M = some (rv, Mf)), V p l e (rmk 9) s m args below meth c 4 G 0 0 (MQ below (gQ G (some (.int rv)) Mf) args s 0 0 (gA G)) 42 [(0, .ref (adr G 7 0)), (1, .int x1), (2, .int x2)] [] M := by
  intro n
  induction n with
  | zero => intro x2 M h; cases h
  | succ n ih =>
    intro x2 M h
    have hk42 : ∀ (x2 : Int32) (M : Mem), L_X9_grantedAt_42 x1 n x2 M = some (rv, Mf) → V p l e (rmk 9) s m args below meth c 4 G 0 0 (MQ below (gQ G (some (.int rv)) Mf) args s 0 0 (gA G)) 42 [(0, .ref (adr G 7 0)), (1, .int x1), (2, .int x2)] [] M := fun _ _ z => ih z
    refine V_iload_n hC dX9_grantedAt_42 rfl 2 rfl ?_
    refine V_if_le hC 65 dX9_grantedAt_43 (by decide) (fun c8 => ?_) (fun c8 => ?_)
    · have h := ite_t c8 h
      refine V_sub [0, 1] rfl ?_
      exact b_X9_grantedAt_65 hC hr hlk h
    · have h := ite_f c8 h
      refine V_aload_n hC dX9_grantedAt_46 rfl 0 rfl ?_
      refine V_iload_n hC dX9_grantedAt_47 rfl 1 rfl ?_
      obtain ⟨q12, e12, h⟩ := bind_some h
      refine V_cVr hC [.int x1] (c_X9_placeOf (l := l) hC.2.2.2.2.2.2.2 e12) kd_X9_placeOf kv_X9_placeOf gw_1466 (r_m0_0).o rfl ⟨Nat.le_of_ble_eq_true rfl, Nat.le_of_ble_eq_true rfl⟩ rfl (Nat.le_of_ble_eq_true rfl) dX9_grantedAt_48 ⟨Nat.zero_le _, Nat.zero_le _⟩ rfl ?_
      refine V_iconst hC ((-1) : Int32) dX9_grantedAt_51 (by decide) ?_
      refine V_icmp_eq hC 65 dX9_grantedAt_52 (by decide) (fun c13 => ?_) (fun c13 => ?_)
      · have h := ite_t c13 h
        refine V_sub [0, 1] rfl ?_
        exact b_X9_grantedAt_65 hC hr hlk h
      · have h := ite_f c13 h
        refine V_aload_n hC dX9_grantedAt_55 rfl 0 rfl ?_
        obtain ⟨q14, e14, h⟩ := bind_some h
        refine V_cVv hC [] (c_X9_tickOn (l := l) hC.2.2.2.2.2.2.2 e14) kd_X9_tickOn kv_X9_tickOn gw_1621 (r_m0_0).o rfl ⟨Nat.le_of_ble_eq_true rfl, Nat.le_of_ble_eq_true rfl⟩ rfl (Nat.le_of_ble_eq_true rfl) dX9_grantedAt_56 ⟨Nat.zero_le _, Nat.zero_le _⟩ rfl ?_
        refine V_iinc hC (x2 + ((-1) : Int32)) ([(2, .int (x2 + ((-1) : Int32))), (0, .ref (adr G 7 0)), (1, .int x1)]) dX9_grantedAt_59 2 rfl rfl (by decide) rfl ?_
        refine V_goto hC 42 dX9_grantedAt_62 (by decide) ?_
        refine V_sub [1, 2, 0] rfl ?_
        exact hk42 _ _ h
theorem b_X9_grantedAt_26 {rv : Int32} {Mf : Mem} {x1 : Int32} {z0 : Int32} {M : Mem} (hC : Cx p s m args c cX9_grantedAt RX9 4 G) (hr : meth.sig.returnType = some .int) (hlk : meth.locks = false) (h : B_X9_grantedAt_26 x1 z0 M = some (rv, Mf)) : V p l e (rmk 9) s m args below meth c 4 G 0 0 (MQ below (gQ G (some (.int rv)) Mf) args s 0 0 (gA G)) 26 [(0, .ref (adr G 7 0)), (1, .int x1)] [.int z0, .ref (adr G 7 0)] M := by
  obtain ⟨q5, e5, h⟩ := bind_some h
  refine V_cVr hC [.int z0] (c_X9_refused (l := l) (rv := q5.1) (Mf := q5.2) hC.2.2.2.2.2.2.2 e5) kd_X9_refused kv_X9_refused gw_1318 (r_m0_0).o rfl ⟨Nat.le_of_ble_eq_true rfl, Nat.le_of_ble_eq_true rfl⟩ rfl (Nat.le_of_ble_eq_true rfl) dX9_grantedAt_26 ⟨Nat.zero_le _, Nat.zero_le _⟩ rfl ?_
  refine V_if_eq hC 34 dX9_grantedAt_29 (by decide) (fun c6 => ?_) (fun c6 => ?_)
  · have h := ite_t c6 h
    refine V_aload_n hC dX9_grantedAt_34 rfl 0 rfl ?_
    obtain ⟨q7, e7, h⟩ := bind_some h
    refine V_cVv hC [] (c_X9_laysAside (l := l) hC.2.2.2.2.2.2.2 e7) kd_X9_laysAside kv_X9_laysAside gw_1609 (r_m0_0).o rfl ⟨Nat.le_of_ble_eq_true rfl, Nat.le_of_ble_eq_true rfl⟩ rfl (Nat.le_of_ble_eq_true rfl) dX9_grantedAt_35 ⟨Nat.zero_le _, Nat.zero_le _⟩ rfl ?_
    refine V_sipush hC (2000 : Int32) dX9_grantedAt_38 (by decide) ?_
    refine V_istore_n hC ([(2, .int (2000 : Int32)), (0, .ref (adr G 7 0)), (1, .int x1)]) dX9_grantedAt_41 rfl (by decide) rfl ?_
    refine V_sub [1, 2, 0] rfl ?_
    exact l_X9_grantedAt_42 hC hr hlk FU h
  · have h := ite_f c6 h
    refine V_iconst hC (0 : Int32) dX9_grantedAt_32 (by decide) ?_
    obtain ⟨rfl, rfl⟩ := Prod.mk.inj (Option.some.inj h)
    exact V_iret hC hr hlk dX9_grantedAt_33
theorem c_X9_grantedAt {l : Launch} {G : Geo} {x1 : Int32} {rv : Int32} {Mf : Mem} {M : Mem} (hG : gD G) (h : f_X9_grantedAt x1 M = some (rv, Mf)) : Met l yX9_grantedAt (.code yX9_grantedAt cX9_grantedAt 4 (some .int) :: GL) (rmk 9) (gP G [.ref (adr G 7 0), .int x1] M) (gQ G (some (.int rv)) Mf) 0 0 (gA G) := by
  refine Met_of (own := RX9) (L := [(0, .ref (adr G 7 0)), (1, .int x1)]) hG (by decide +kernel) rfl (Nat.le_of_ble_eq_true rfl) rfl ?_
  intro p e s m args below meth c hC hr hlk
  refine V_aload_n hC dX9_grantedAt_0 rfl 0 rfl ?_
  refine V_iload_n hC dX9_grantedAt_1 rfl 1 rfl ?_
  refine V_cSr hC [.int x1] (c_X9_isUser (l := l) hC.2.2.2.2.2.2.2 rfl) kd_X9_isUser gw_1464 gw_1463 ⟨Nat.le_of_ble_eq_true rfl, Nat.le_of_ble_eq_true rfl⟩ rfl (Nat.le_of_ble_eq_true rfl) dX9_grantedAt_2 ⟨Nat.zero_le _, Nat.zero_le _⟩ rfl ?_
  refine V_if_ne hC 12 dX9_grantedAt_5 (by decide) (fun c2 => ?_) (fun c2 => ?_)
  · have h := ite_f c2 h
    refine V_aload_n hC dX9_grantedAt_12 rfl 0 rfl ?_
    refine V_iload_n hC dX9_grantedAt_13 rfl 1 rfl ?_
    obtain ⟨q3, e3, h⟩ := bind_some h
    refine V_cVr hC [.int x1] (c_X9_placeOf (l := l) hC.2.2.2.2.2.2.2 e3) kd_X9_placeOf kv_X9_placeOf gw_1466 (r_m0_0).o rfl ⟨Nat.le_of_ble_eq_true rfl, Nat.le_of_ble_eq_true rfl⟩ rfl (Nat.le_of_ble_eq_true rfl) dX9_grantedAt_14 ⟨Nat.zero_le _, Nat.zero_le _⟩ rfl ?_
    refine V_iconst hC ((-1) : Int32) dX9_grantedAt_17 (by decide) ?_
    refine V_icmp_ne hC 25 dX9_grantedAt_18 (by decide) (fun c4 => ?_) (fun c4 => ?_)
    · have h := ite_f c4 h
      refine V_iconst hC (0 : Int32) dX9_grantedAt_25 (by decide) ?_
      exact b_X9_grantedAt_26 hC hr hlk h
    · have h := ite_t c4 h
      refine V_iconst hC (2 : Int32) dX9_grantedAt_21 (by decide) ?_
      refine V_goto hC 26 dX9_grantedAt_22 (by decide) ?_
      exact b_X9_grantedAt_26 hC hr hlk h
  · have h := ite_t c2 h
    refine V_iconst hC (1 : Int32) dX9_grantedAt_8 (by decide) ?_
    refine V_goto hC 26 dX9_grantedAt_9 (by decide) ?_
    exact b_X9_grantedAt_26 hC hr hlk h
theorem b_X9_waitsFor_153 {rv : Int32} {Mf : Mem} {k116 : Int32 → Int32 → Option (Int32 × Mem)} {x2 : Int32} {x3 : Int32} {x4 : Int32} {x6 : Int32} {z0 : Int32} {z1 : Int32} {M : Mem} (hC : Cx p s m args c cX9_waitsFor RX9 7 G) (hr : meth.sig.returnType = some .int) (hlk : meth.locks = false) (hk116 : ∀ (x5 : Int32) (x6 : Int32), k116 x5 x6 = some (rv, Mf) → V p l e (rmk 6) s m args below meth c 7 G 0 0 (MQ below (gQ G (some (.int rv)) Mf) args s 0 0 (gA G)) 116 [(0, .ref (adr G 7 0)), (2, .int x2), (3, .int x3), (4, .int x4), (5, .int x5), (6, .int x6)] [] M) (h : B_X9_waitsFor_153 k116 x2 x3 x4 x6 z0 z1 M = some (rv, Mf)) : V p l e (rmk 6) s m args below meth c 7 G 0 0 (MQ below (gQ G (some (.int rv)) Mf) args s 0 0 (gA G)) 153 [(0, .ref (adr G 7 0)), (2, .int x2), (3, .int x3), (4, .int x4), (6, .int x6)] [.int z0, .int z1] M := by
  refine V_ior hC dX9_waitsFor_153 ?_
  refine V_istore hC ([(5, .int (z1 ||| z0)), (0, .ref (adr G 7 0)), (2, .int x2), (3, .int x3), (4, .int x4), (6, .int x6)]) dX9_waitsFor_154 (by decide) rfl ?_
  refine V_iinc hC (x6 + 1) ([(6, .int (x6 + 1)), (5, .int (z1 ||| z0)), (0, .ref (adr G 7 0)), (2, .int x2), (3, .int x3), (4, .int x4)]) dX9_waitsFor_156 5 rfl rfl (by decide) rfl ?_
  refine V_goto hC 116 dX9_waitsFor_159 (by decide) ?_
  refine V_sub [2, 3, 4, 5, 1, 0] rfl ?_
  exact hk116 _ _ h
theorem l_X9_waitsFor_116 {rv : Int32} {Mf : Mem} {x2 : Int32} {x3 : Int32} {x4 : Int32} {M : Mem} (hC : Cx p s m args c cX9_waitsFor RX9 7 G) (hr : meth.sig.returnType = some .int) (hlk : meth.locks = false) : ∀ (n : Nat) {x5 : Int32} {x6 : Int32} (h : L_X9_waitsFor_116 x2 x3 x4 M n x5 x6 = some (rv, Mf)), V p l e (rmk 6) s m args below meth c 7 G 0 0 (MQ below (gQ G (some (.int rv)) Mf) args s 0 0 (gA G)) 116 [(0, .ref (adr G 7 0)), (2, .int x2), (3, .int x3), (4, .int x4), (5, .int x5), (6, .int x6)] [] M := by
  intro n
  induction n with
  | zero => intro x5 x6 h; cases h
  | succ n ih =>
    intro x5 x6 h
    have hk116 : ∀ (x5 : Int32) (x6 : Int32), L_X9_waitsFor_116 x2 x3 x4 M n x5 x6 = some (rv, Mf) → V p l e (rmk 6) s m args below meth c 7 G 0 0 (MQ below (gQ G (some (.int rv)) Mf) args s 0 0 (gA G)) 116 [(0, .ref (adr G 7 0)), (2, .int x2), (3, .int x3), (4, .int x4), (5, .int x5), (6, .int x6)] [] M := fun _ _ z => ih z
    refine V_iload hC dX9_waitsFor_116 5 rfl ?_
    refine V_iload_n hC dX9_waitsFor_118 rfl 1 rfl ?_
    refine V_icmp_ge hC 162 dX9_waitsFor_119 (by decide) (fun c13 => ?_) (fun c13 => ?_)
    · have h := ite_t c13 h
      refine V_iload hC dX9_waitsFor_162 4 rfl ?_
      obtain ⟨rfl, rfl⟩ := Prod.mk.inj (Option.some.inj h)
      exact V_iret hC hr hlk dX9_waitsFor_164
    · have h := ite_f c13 h
      refine V_iload hC dX9_waitsFor_122 4 rfl ?_
      refine V_aload_n hC dX9_waitsFor_124 rfl 0 rfl ?_
      refine V_iload hC dX9_waitsFor_125 5 rfl ?_
      refine V_iload_n hC dX9_waitsFor_127 rfl 2 rfl ?_
      refine V_iload hC dX9_waitsFor_128 3 rfl ?_
      obtain ⟨q14, e14, h⟩ := bind_some h
      refine V_cVr hC [.int x6, .int x3, .int x4] (c_X9_isBlocked (l := l) hC.2.2.2.2.2.2.2 e14) kd_X9_isBlocked kv_X9_isBlocked gw_1490 (r_m0_0).o rfl ⟨Nat.le_of_ble_eq_true rfl, Nat.le_of_ble_eq_true rfl⟩ rfl (Nat.le_of_ble_eq_true rfl) dX9_waitsFor_130 ⟨Nat.zero_le _, Nat.zero_le _⟩ rfl ?_
      refine V_if_eq hC 152 dX9_waitsFor_133 (by decide) (fun c15 => ?_) (fun c15 => ?_)
      · have h := ite_t c15 h
        refine V_iconst hC (0 : Int32) dX9_waitsFor_152 (by decide) ?_
        refine V_sub [0, 1, 2, 3, 5] rfl ?_
        exact b_X9_waitsFor_153 hC hr hlk hk116 h
      · have h := ite_f c15 h
        refine V_iconst hC (1 : Int32) dX9_waitsFor_136 (by decide) ?_
        refine V_aload_n hC dX9_waitsFor_137 rfl 0 rfl ?_
        refine V_getR hC (r_m0_0) fw_X9_7 dX9_waitsFor_138 ?_
        refine V_iload hC dX9_waitsFor_141 5 rfl ?_
        refine V_iconst hC (0 : Int32) dX9_waitsFor_143 (by decide) ?_
        refine V_cSr hC [.int x6, .int (0 : Int32)] (c_X9_wait (l := l) hC.2.2.2.2.2.2.2 rfl) kd_X9_wait gw_1361 gw_1360 ⟨Nat.le_of_ble_eq_true rfl, Nat.le_of_ble_eq_true rfl⟩ rfl (Nat.le_of_ble_eq_true rfl) dX9_waitsFor_144 ⟨Nat.zero_le _, Nat.zero_le _⟩ rfl ?_
        obtain ⟨c17, h⟩ := ite_some h
        refine V_iald hC (a_m1) c17 dX9_waitsFor_147 ?_
        refine V_ishl hC dX9_waitsFor_148 ?_
        refine V_goto hC 153 dX9_waitsFor_149 (by decide) ?_
        refine V_sub [0, 1, 2, 3, 5] rfl ?_
        exact b_X9_waitsFor_153 hC hr hlk hk116 h
theorem b_X9_waitsFor_104 {rv : Int32} {Mf : Mem} {k69 : Int32 → Int32 → Option (Int32 × Mem)} {x1 : Int32} {x2 : Int32} {x3 : Int32} {x4 : Int32} {x6 : Int32} {z0 : Int32} {z1 : Int32} {M : Mem} (hC : Cx p s m args c cX9_waitsFor RX9 7 G) (hr : meth.sig.returnType = some .int) (hlk : meth.locks = false) (hk69 : ∀ (x5 : Int32) (x6 : Int32), k69 x5 x6 = some (rv, Mf) → V p l e (rmk 6) s m args below meth c 7 G 0 0 (MQ below (gQ G (some (.int rv)) Mf) args s 0 0 (gA G)) 69 [(0, .ref (adr G 7 0)), (1, .int x1), (2, .int x2), (3, .int x3), (4, .int x4), (5, .int x5), (6, .int x6)] [] M) (h : B_X9_waitsFor_104 k69 x1 x2 x3 x4 x6 z0 z1 M = some (rv, Mf)) : V p l e (rmk 6) s m args below meth c 7 G 0 0 (MQ below (gQ G (some (.int rv)) Mf) args s 0 0 (gA G)) 104 [(0, .ref (adr G 7 0)), (1, .int x1), (2, .int x2), (3, .int x3), (4, .int x4), (6, .int x6)] [.int z0, .int z1] M := by
  refine V_ior hC dX9_waitsFor_104 ?_
  refine V_istore hC ([(5, .int (z1 ||| z0)), (0, .ref (adr G 7 0)), (1, .int x1), (2, .int x2), (3, .int x3), (4, .int x4), (6, .int x6)]) dX9_waitsFor_105 (by decide) rfl ?_
  refine V_iinc hC (x6 + 1) ([(6, .int (x6 + 1)), (5, .int (z1 ||| z0)), (0, .ref (adr G 7 0)), (1, .int x1), (2, .int x2), (3, .int x3), (4, .int x4)]) dX9_waitsFor_107 6 rfl rfl (by decide) rfl ?_
  refine V_goto hC 69 dX9_waitsFor_110 (by decide) ?_
  refine V_sub [2, 3, 4, 5, 6, 1, 0] rfl ?_
  exact hk69 _ _ h
theorem l_X9_waitsFor_69 {rv : Int32} {Mf : Mem} {x1 : Int32} {x2 : Int32} {x3 : Int32} {x4 : Int32} {M : Mem} (hC : Cx p s m args c cX9_waitsFor RX9 7 G) (hr : meth.sig.returnType = some .int) (hlk : meth.locks = false) : ∀ (n : Nat) {x5 : Int32} {x6 : Int32} (h : L_X9_waitsFor_69 x1 x2 x3 x4 M n x5 x6 = some (rv, Mf)), V p l e (rmk 6) s m args below meth c 7 G 0 0 (MQ below (gQ G (some (.int rv)) Mf) args s 0 0 (gA G)) 69 [(0, .ref (adr G 7 0)), (1, .int x1), (2, .int x2), (3, .int x3), (4, .int x4), (5, .int x5), (6, .int x6)] [] M := by
  intro n
  induction n with
  | zero => intro x5 x6 h; cases h
  | succ n ih =>
    intro x5 x6 h
    have hk69 : ∀ (x5 : Int32) (x6 : Int32), L_X9_waitsFor_69 x1 x2 x3 x4 M n x5 x6 = some (rv, Mf) → V p l e (rmk 6) s m args below meth c 7 G 0 0 (MQ below (gQ G (some (.int rv)) Mf) args s 0 0 (gA G)) 69 [(0, .ref (adr G 7 0)), (1, .int x1), (2, .int x2), (3, .int x3), (4, .int x4), (5, .int x5), (6, .int x6)] [] M := fun _ _ z => ih z
    refine V_iload hC dX9_waitsFor_69 6 rfl ?_
    refine V_bipush hC (10 : Int32) dX9_waitsFor_71 (by decide) ?_
    refine V_icmp_ge hC 113 dX9_waitsFor_73 (by decide) (fun c12 => ?_) (fun c12 => ?_)
    · have h := ite_t c12 h
      refine V_iconst hC (0 : Int32) dX9_waitsFor_113 (by decide) ?_
      refine V_istore hC ([(6, .int (0 : Int32)), (0, .ref (adr G 7 0)), (1, .int x1), (2, .int x2), (3, .int x3), (4, .int x4), (5, .int x5)]) dX9_waitsFor_114 (by decide) rfl ?_
      refine V_sub [1, 3, 4, 5, 6, 0] rfl ?_
      exact l_X9_waitsFor_116 hC hr hlk FU h
    · have h := ite_f c12 h
      refine V_iload hC dX9_waitsFor_76 5 rfl ?_
      refine V_aload_n hC dX9_waitsFor_78 rfl 0 rfl ?_
      refine V_iload_n hC dX9_waitsFor_79 rfl 1 rfl ?_
      refine V_iload_n hC dX9_waitsFor_80 rfl 3 rfl ?_
      refine V_iload hC dX9_waitsFor_81 4 rfl ?_
      refine V_iload hC dX9_waitsFor_83 6 rfl ?_
      obtain ⟨q18, e18, h⟩ := bind_some h
      refine V_cVr hC [.int x1, .int x3, .int x4, .int x6] (c_X9_bars (l := l) hC.2.2.2.2.2.2.2 e18) kd_X9_bars kv_X9_bars gw_1478 (r_m0_0).o rfl ⟨Nat.le_of_ble_eq_true rfl, Nat.le_of_ble_eq_true rfl⟩ rfl (Nat.le_of_ble_eq_true rfl) dX9_waitsFor_85 ⟨Nat.zero_le _, Nat.zero_le _⟩ rfl ?_
      refine V_if_eq hC 103 dX9_waitsFor_88 (by decide) (fun c19 => ?_) (fun c19 => ?_)
      · have h := ite_t c19 h
        refine V_iconst hC (0 : Int32) dX9_waitsFor_103 (by decide) ?_
        refine V_sub [0, 1, 2, 3, 4, 6] rfl ?_
        exact b_X9_waitsFor_104 hC hr hlk hk69 h
      · have h := ite_f c19 h
        refine V_iconst hC (1 : Int32) dX9_waitsFor_91 (by decide) ?_
        refine V_aload_n hC dX9_waitsFor_92 rfl 0 rfl ?_
        refine V_iload hC dX9_waitsFor_93 6 rfl ?_
        refine V_iconst hC (1 : Int32) dX9_waitsFor_95 (by decide) ?_
        obtain ⟨q20, e20, h⟩ := bind_some h
        refine V_cVr hC [.int x6, .int (1 : Int32)] (c_X9_get (l := l) hC.2.2.2.2.2.2.2 e20) kd_X9_get kv_X9_get gw_1345 (r_m0_0).o rfl ⟨Nat.le_of_ble_eq_true rfl, Nat.le_of_ble_eq_true rfl⟩ rfl (Nat.le_of_ble_eq_true rfl) dX9_waitsFor_96 ⟨Nat.zero_le _, Nat.zero_le _⟩ rfl ?_
        refine V_ishl hC dX9_waitsFor_99 ?_
        refine V_goto hC 104 dX9_waitsFor_100 (by decide) ?_
        refine V_sub [0, 1, 2, 3, 4, 6] rfl ?_
        exact b_X9_waitsFor_104 hC hr hlk hk69 h
theorem b_X9_waitsFor_26 {rv : Int32} {Mf : Mem} {x1 : Int32} {z0 : Int32} {M : Mem} (hC : Cx p s m args c cX9_waitsFor RX9 7 G) (hr : meth.sig.returnType = some .int) (hlk : meth.locks = false) (h : B_X9_waitsFor_26 x1 z0 M = some (rv, Mf)) : V p l e (rmk 6) s m args below meth c 7 G 0 0 (MQ below (gQ G (some (.int rv)) Mf) args s 0 0 (gA G)) 26 [(0, .ref (adr G 7 0)), (1, .int x1)] [.int z0, .ref (adr G 7 0)] M := by
  obtain ⟨q5, e5, h⟩ := bind_some h
  refine V_cVr hC [.int z0] (c_X9_refused (l := l) (rv := q5.1) (Mf := q5.2) hC.2.2.2.2.2.2.2 e5) kd_X9_refused kv_X9_refused gw_1318 (r_m0_0).o rfl ⟨Nat.le_of_ble_eq_true rfl, Nat.le_of_ble_eq_true rfl⟩ rfl (Nat.le_of_ble_eq_true rfl) dX9_waitsFor_26 ⟨Nat.zero_le _, Nat.zero_le _⟩ rfl ?_
  refine V_if_eq hC 34 dX9_waitsFor_29 (by decide) (fun c6 => ?_) (fun c6 => ?_)
  · have h := ite_t c6 h
    refine V_aload_n hC dX9_waitsFor_34 rfl 0 rfl ?_
    refine V_iload_n hC dX9_waitsFor_35 rfl 1 rfl ?_
    obtain ⟨q7, e7, h⟩ := bind_some h
    refine V_cVr hC [.int x1] (c_X9_placeOf (l := l) hC.2.2.2.2.2.2.2 e7) kd_X9_placeOf kv_X9_placeOf gw_1466 (r_m0_0).o rfl ⟨Nat.le_of_ble_eq_true rfl, Nat.le_of_ble_eq_true rfl⟩ rfl (Nat.le_of_ble_eq_true rfl) dX9_waitsFor_36 ⟨Nat.zero_le _, Nat.zero_le _⟩ rfl ?_
    refine V_istore_n hC ([(2, .int q7), (0, .ref (adr G 7 0)), (1, .int x1)]) dX9_waitsFor_39 rfl (by decide) rfl ?_
    refine V_aload_n hC dX9_waitsFor_40 rfl 1 rfl ?_
    refine V_getR hC (r_m0_0) fw_X9_7 dX9_waitsFor_41 ?_
    refine V_iload_n hC dX9_waitsFor_44 rfl 0 rfl ?_
    refine V_iconst hC (1 : Int32) dX9_waitsFor_45 (by decide) ?_
    refine V_cSr hC [.int q7, .int (1 : Int32)] (c_X9_wait (l := l) hC.2.2.2.2.2.2.2 rfl) kd_X9_wait gw_1361 gw_1360 ⟨Nat.le_of_ble_eq_true rfl, Nat.le_of_ble_eq_true rfl⟩ rfl (Nat.le_of_ble_eq_true rfl) dX9_waitsFor_46 ⟨Nat.zero_le _, Nat.zero_le _⟩ rfl ?_
    obtain ⟨c9, h⟩ := ite_some h
    refine V_iald hC (a_m1) c9 dX9_waitsFor_49 ?_
    refine V_istore_n hC ([(3, .int (q5.2.1 7 1 (cl (f_X9_wait q7 (1 : Int32))))), (2, .int q7), (0, .ref (adr G 7 0)), (1, .int x1)]) dX9_waitsFor_50 rfl (by decide) rfl ?_
    refine V_aload_n hC dX9_waitsFor_51 rfl 2 rfl ?_
    refine V_getR hC (r_m0_0) fw_X9_7 dX9_waitsFor_52 ?_
    refine V_iload_n hC dX9_waitsFor_55 rfl 1 rfl ?_
    refine V_iconst hC (3 : Int32) dX9_waitsFor_56 (by decide) ?_
    refine V_cSr hC [.int q7, .int (3 : Int32)] (c_X9_wait (l := l) hC.2.2.2.2.2.2.2 rfl) kd_X9_wait gw_1361 gw_1360 ⟨Nat.le_of_ble_eq_true rfl, Nat.le_of_ble_eq_true rfl⟩ rfl (Nat.le_of_ble_eq_true rfl) dX9_waitsFor_57 ⟨Nat.zero_le _, Nat.zero_le _⟩ rfl ?_
    obtain ⟨c11, h⟩ := ite_some h
    refine V_iald hC (a_m1) c11 dX9_waitsFor_60 ?_
    refine V_istore hC ([(4, .int (q5.2.1 7 1 (cl (f_X9_wait q7 (3 : Int32))))), (3, .int (q5.2.1 7 1 (cl (f_X9_wait q7 (1 : Int32))))), (2, .int q7), (0, .ref (adr G 7 0)), (1, .int x1)]) dX9_waitsFor_61 (by decide) rfl ?_
    refine V_iconst hC (0 : Int32) dX9_waitsFor_63 (by decide) ?_
    refine V_istore hC ([(5, .int (0 : Int32)), (4, .int (q5.2.1 7 1 (cl (f_X9_wait q7 (3 : Int32))))), (3, .int (q5.2.1 7 1 (cl (f_X9_wait q7 (1 : Int32))))), (2, .int q7), (0, .ref (adr G 7 0)), (1, .int x1)]) dX9_waitsFor_64 (by decide) rfl ?_
    refine V_iconst hC (0 : Int32) dX9_waitsFor_66 (by decide) ?_
    refine V_istore hC ([(6, .int (0 : Int32)), (5, .int (0 : Int32)), (4, .int (q5.2.1 7 1 (cl (f_X9_wait q7 (3 : Int32))))), (3, .int (q5.2.1 7 1 (cl (f_X9_wait q7 (1 : Int32))))), (2, .int q7), (0, .ref (adr G 7 0)), (1, .int x1)]) dX9_waitsFor_67 (by decide) rfl ?_
    refine V_sub [5, 6, 4, 3, 2, 1, 0] rfl ?_
    exact l_X9_waitsFor_69 hC hr hlk FU h
  · have h := ite_f c6 h
    refine V_iconst hC (0 : Int32) dX9_waitsFor_32 (by decide) ?_
    obtain ⟨rfl, rfl⟩ := Prod.mk.inj (Option.some.inj h)
    exact V_iret hC hr hlk dX9_waitsFor_33
theorem c_X9_waitsFor {l : Launch} {G : Geo} {x1 : Int32} {rv : Int32} {Mf : Mem} {M : Mem} (hG : gD G) (h : f_X9_waitsFor x1 M = some (rv, Mf)) : Met l yX9_waitsFor (.code yX9_waitsFor cX9_waitsFor 7 (some .int) :: GL) (rmk 6) (gP G [.ref (adr G 7 0), .int x1] M) (gQ G (some (.int rv)) Mf) 0 0 (gA G) := by
  refine Met_of (own := RX9) (L := [(0, .ref (adr G 7 0)), (1, .int x1)]) hG (by decide +kernel) rfl (Nat.le_of_ble_eq_true rfl) rfl ?_
  intro p e s m args below meth c hC hr hlk
  refine V_aload_n hC dX9_waitsFor_0 rfl 0 rfl ?_
  refine V_iload_n hC dX9_waitsFor_1 rfl 1 rfl ?_
  refine V_cSr hC [.int x1] (c_X9_isUser (l := l) hC.2.2.2.2.2.2.2 rfl) kd_X9_isUser gw_1464 gw_1463 ⟨Nat.le_of_ble_eq_true rfl, Nat.le_of_ble_eq_true rfl⟩ rfl (Nat.le_of_ble_eq_true rfl) dX9_waitsFor_2 ⟨Nat.zero_le _, Nat.zero_le _⟩ rfl ?_
  refine V_if_ne hC 12 dX9_waitsFor_5 (by decide) (fun c2 => ?_) (fun c2 => ?_)
  · have h := ite_f c2 h
    refine V_aload_n hC dX9_waitsFor_12 rfl 0 rfl ?_
    refine V_iload_n hC dX9_waitsFor_13 rfl 1 rfl ?_
    obtain ⟨q3, e3, h⟩ := bind_some h
    refine V_cVr hC [.int x1] (c_X9_placeOf (l := l) hC.2.2.2.2.2.2.2 e3) kd_X9_placeOf kv_X9_placeOf gw_1466 (r_m0_0).o rfl ⟨Nat.le_of_ble_eq_true rfl, Nat.le_of_ble_eq_true rfl⟩ rfl (Nat.le_of_ble_eq_true rfl) dX9_waitsFor_14 ⟨Nat.zero_le _, Nat.zero_le _⟩ rfl ?_
    refine V_iconst hC ((-1) : Int32) dX9_waitsFor_17 (by decide) ?_
    refine V_icmp_ne hC 25 dX9_waitsFor_18 (by decide) (fun c4 => ?_) (fun c4 => ?_)
    · have h := ite_f c4 h
      refine V_iconst hC (0 : Int32) dX9_waitsFor_25 (by decide) ?_
      exact b_X9_waitsFor_26 hC hr hlk h
    · have h := ite_t c4 h
      refine V_iconst hC (2 : Int32) dX9_waitsFor_21 (by decide) ?_
      refine V_goto hC 26 dX9_waitsFor_22 (by decide) ?_
      exact b_X9_waitsFor_26 hC hr hlk h
  · have h := ite_t c2 h
    refine V_iconst hC (1 : Int32) dX9_waitsFor_8 (by decide) ?_
    refine V_goto hC 26 dX9_waitsFor_9 (by decide) ?_
    exact b_X9_waitsFor_26 hC hr hlk h
theorem c_X9_entries {l : Launch} {G : Geo} {rv : Int32} {Mf : Mem} {M : Mem} (hG : gD G) (h : f_X9_entries M = some (rv, Mf)) : Met l yX9_entries (.code yX9_entries cX9_entries 1 (some .int) :: GL) (rmk 0) (gP G [.ref (adr G 7 0)] M) (gQ G (some (.int rv)) Mf) 0 0 (gA G) := by
  refine Met_of (own := RX9) (L := [(0, .ref (adr G 7 0))]) hG (by decide +kernel) rfl (Nat.le_of_ble_eq_true rfl) rfl ?_
  intro p e s m args below meth c hC hr hlk
  refine V_aload_n hC dX9_entries_0 rfl 0 rfl ?_
  refine V_iconst hC (0 : Int32) dX9_entries_1 (by decide) ?_
  refine V_putI hC (f_m0_4) fw_X9_47 flp_9_4 dX9_entries_2 ?_
  refine V_aload_n hC dX9_entries_5 rfl 0 rfl ?_
  refine V_getR hC (r_m0_0) fw_X9_7 dX9_entries_6 ?_
  refine V_sipush hC (2701 : Int32) dX9_entries_9 (by decide) ?_
  refine V_iald hC (a_m1) (by decide) dX9_entries_12 ?_
  obtain ⟨rfl, rfl⟩ := Prod.mk.inj (Option.some.inj h)
  exact V_iret hC hr hlk dX9_entries_13
theorem b_X9_entry_37 {rv : Int32} {Mf : Mem} {x1 : Int32} {x2 : Int32} {z0 : Int32} {M : Mem} (hC : Cx p s m args c cX9_entry RX9 3 G) (hr : meth.sig.returnType = some .int) (hlk : meth.locks = false) (h : B_X9_entry_37 x1 x2 z0 M = some (rv, Mf)) : V p l e (rmk 1) s m args below meth c 3 G 0 0 (MQ below (gQ G (some (.int rv)) Mf) args s 0 0 (gA G)) 37 [(0, .ref (adr G 7 0)), (1, .int x1), (2, .int x2)] [.int z0, .ref (adr G 7 0)] M := by
  obtain ⟨q5, e5, h⟩ := bind_some h
  refine V_cVr hC [.int z0] (c_X9_refused (l := l) (rv := q5.1) (Mf := q5.2) hC.2.2.2.2.2.2.2 e5) kd_X9_refused kv_X9_refused gw_1318 (r_m0_0).o rfl ⟨Nat.le_of_ble_eq_true rfl, Nat.le_of_ble_eq_true rfl⟩ rfl (Nat.le_of_ble_eq_true rfl) dX9_entry_37 ⟨Nat.zero_le _, Nat.zero_le _⟩ rfl ?_
  refine V_if_eq hC 47 dX9_entry_40 (by decide) (fun c6 => ?_) (fun c6 => ?_)
  · have h := ite_t c6 h
    refine V_aload_n hC dX9_entry_47 rfl 0 rfl ?_
    refine V_getR hC (r_m0_0) fw_X9_7 dX9_entry_48 ?_
    refine V_sipush hC (2702 : Int32) dX9_entry_51 (by decide) ?_
    refine V_bipush hC (6 : Int32) dX9_entry_54 (by decide) ?_
    refine V_iload_n hC dX9_entry_56 rfl 1 rfl ?_
    refine V_imul hC dX9_entry_57 ?_
    refine V_iadd hC dX9_entry_58 ?_
    refine V_iload_n hC dX9_entry_59 rfl 2 rfl ?_
    refine V_iadd hC dX9_entry_60 ?_
    obtain ⟨c7, h⟩ := ite_some h
    refine V_iald hC (a_m1) c7 dX9_entry_61 ?_
    obtain ⟨rfl, rfl⟩ := Prod.mk.inj (Option.some.inj h)
    exact V_iret hC hr hlk dX9_entry_62
  · have h := ite_f c6 h
    refine V_iconst hC (0 : Int32) dX9_entry_43 (by decide) ?_
    refine V_goto hC 62 dX9_entry_44 (by decide) ?_
    obtain ⟨rfl, rfl⟩ := Prod.mk.inj (Option.some.inj h)
    exact V_iret hC hr hlk dX9_entry_62
theorem c_X9_entry {l : Launch} {G : Geo} {x1 : Int32} {x2 : Int32} {rv : Int32} {Mf : Mem} {M : Mem} (hG : gD G) (h : f_X9_entry x1 x2 M = some (rv, Mf)) : Met l yX9_entry (.code yX9_entry cX9_entry 3 (some .int) :: GL) (rmk 1) (gP G [.ref (adr G 7 0), .int x1, .int x2] M) (gQ G (some (.int rv)) Mf) 0 0 (gA G) := by
  refine Met_of (own := RX9) (L := [(0, .ref (adr G 7 0)), (1, .int x1), (2, .int x2)]) hG (by decide +kernel) rfl (Nat.le_of_ble_eq_true rfl) rfl ?_
  intro p e s m args below meth c hC hr hlk
  refine V_aload_n hC dX9_entry_0 rfl 0 rfl ?_
  refine V_iload_n hC dX9_entry_1 rfl 1 rfl ?_
  refine V_iconst hC (0 : Int32) dX9_entry_2 (by decide) ?_
  refine V_aload_n hC dX9_entry_3 rfl 0 rfl ?_
  refine V_getR hC (r_m0_0) fw_X9_7 dX9_entry_4 ?_
  refine V_sipush hC (2701 : Int32) dX9_entry_7 (by decide) ?_
  refine V_iald hC (a_m1) (by decide) dX9_entry_10 ?_
  refine V_iconst hC (1 : Int32) dX9_entry_11 (by decide) ?_
  refine V_isub hC dX9_entry_12 ?_
  refine V_cSr hC [.int x1, .int (0 : Int32), .int ((M.1 7 1 (cl (2701 : Int32))) - (1 : Int32))] (c_X9_within (l := l) hC.2.2.2.2.2.2.2 rfl) kd_X9_within gw_1331 gw_1330 ⟨Nat.le_of_ble_eq_true rfl, Nat.le_of_ble_eq_true rfl⟩ rfl (Nat.le_of_ble_eq_true rfl) dX9_entry_13 ⟨Nat.zero_le _, Nat.zero_le _⟩ rfl ?_
  refine V_if_ne hC 23 dX9_entry_16 (by decide) (fun c2 => ?_) (fun c2 => ?_)
  · have h := ite_f c2 h
    refine V_iload_n hC dX9_entry_23 rfl 2 rfl ?_
    refine V_iconst hC (0 : Int32) dX9_entry_24 (by decide) ?_
    refine V_iconst hC (5 : Int32) dX9_entry_25 (by decide) ?_
    refine V_cSr hC [.int x2, .int (0 : Int32), .int (5 : Int32)] (c_X9_within (l := l) hC.2.2.2.2.2.2.2 rfl) kd_X9_within gw_1331 gw_1330 ⟨Nat.le_of_ble_eq_true rfl, Nat.le_of_ble_eq_true rfl⟩ rfl (Nat.le_of_ble_eq_true rfl) dX9_entry_26 ⟨Nat.zero_le _, Nat.zero_le _⟩ rfl ?_
    refine V_if_eq hC 36 dX9_entry_29 (by decide) (fun c4 => ?_) (fun c4 => ?_)
    · have h := ite_t c4 h
      refine V_iconst hC (2 : Int32) dX9_entry_36 (by decide) ?_
      exact b_X9_entry_37 hC hr hlk h
    · have h := ite_f c4 h
      refine V_iconst hC (0 : Int32) dX9_entry_32 (by decide) ?_
      refine V_goto hC 37 dX9_entry_33 (by decide) ?_
      exact b_X9_entry_37 hC hr hlk h
  · have h := ite_t c2 h
    refine V_iconst hC (1 : Int32) dX9_entry_19 (by decide) ?_
    refine V_goto hC 37 dX9_entry_20 (by decide) ?_
    exact b_X9_entry_37 hC hr hlk h
end
