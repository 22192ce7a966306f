section
variable {p : Program} {l : Launch} {e : Env} {s : State} {m : MethodId} {args : Array Value} {below : List Frame} {meth : Method} {c : Code} {G : Geo}
theorem c_X1_heldTicksOf {l : Launch} {G : Geo} {g : Nat} {x1 : Int32} {rv : Int32} {M : Mem} (hG : gD G) (hg : g < 6) (h : f_X1_heldTicksOf g x1 M = some rv) : Met l yX1_heldTicksOf (.code yX1_heldTicksOf cX1_heldTicksOf 2 (some .int) :: GL) (rmk 2) (gP G [.ref (adr G g 0), .int x1] M) (gQ G (some (.int rv)) M) 0 0 (gA G) := by
  refine Met_of (own := RX1) (L := [(0, .ref (adr G g 0)), (1, .int x1)]) hG (by decide +kernel) rfl (Nat.le_of_ble_eq_true rfl) rfl ?_
  intro p e s m args below meth c hC hr hlk
  refine V_iload_n hC dX1_heldTicksOf_0 rfl 1 rfl ?_
  refine V_cSNr hC [.int x1] (c_X8_isUser (l := l) hC.2.2.2.2.2.2.2 rfl) kd_X8_isUser gw_627 nw_38 ⟨Nat.le_of_ble_eq_true rfl, Nat.le_of_ble_eq_true rfl⟩ rfl (Nat.le_of_ble_eq_true rfl) dX1_heldTicksOf_1 ⟨Nat.zero_le _, Nat.zero_le _⟩ rfl ?_
  refine V_if_eq hC 16 dX1_heldTicksOf_4 (by decide) (fun c2 => ?_) (fun c2 => ?_)
  · have h := ite_t c2 h
    refine V_iconst hC (0 : Int32) dX1_heldTicksOf_16 (by decide) ?_
    obtain rfl := Option.some.inj h
    exact V_iret hC hr hlk dX1_heldTicksOf_17
  · have h := ite_f c2 h
    refine V_aload_n hC dX1_heldTicksOf_7 rfl 0 rfl ?_
    refine V_getR hC (r_d0_4 hg) fw_X1_39 dX1_heldTicksOf_8 ?_
    refine V_iload_n hC dX1_heldTicksOf_11 rfl 1 rfl ?_
    obtain ⟨c3, h⟩ := ite_some h
    refine V_iald hC (a_d16 hg) c3 dX1_heldTicksOf_12 ?_
    refine V_goto hC 17 dX1_heldTicksOf_13 (by decide) ?_
    obtain rfl := Option.some.inj h
    exact V_iret hC hr hlk dX1_heldTicksOf_17
theorem b_X2_latestUserOf_38 {g : Nat} {rv : Int32} {k7 : Int32 → Option Int32} {x1 : Int32} {x2 : Int32} {x3 : Int32} {M : Mem} (hC : Cx p s m args c cX2_latestUserOf RX2 4 G) (hr : meth.sig.returnType = some .int) (hlk : meth.locks = false) (hg : g < 6) (hk7 : ∀ (x3 : Int32), k7 x3 = some rv → V p l e (rmk 2) s m args below meth c 4 G 0 0 (MQ below (gQ G (some (.int rv)) M) args s 0 0 (gA G)) 7 [(0, .ref (adr G g 14)), (1, .int x1), (2, .int x2), (3, .int x3)] [] M) (h : B_X2_latestUserOf_38 g k7 x1 x2 x3 M = some rv) : V p l e (rmk 2) s m args below meth c 4 G 0 0 (MQ below (gQ G (some (.int rv)) M) args s 0 0 (gA G)) 38 [(0, .ref (adr G g 14)), (1, .int x1), (2, .int x2), (3, .int x3)] [] M := by
  refine V_iinc hC (x3 + ((-1) : Int32)) ([(3, .int (x3 + ((-1) : Int32))), (0, .ref (adr G g 14)), (1, .int x1), (2, .int x2)]) dX2_latestUserOf_38 3 rfl rfl (by decide) rfl ?_
  refine V_goto hC 7 dX2_latestUserOf_41 (by decide) ?_
  refine V_sub [1, 2, 3, 0] rfl ?_
  exact hk7 _ h
theorem l_X2_latestUserOf_7 {g : Nat} {rv : Int32} {x1 : Int32} {x2 : Int32} {M : Mem} (hC : Cx p s m args c cX2_latestUserOf RX2 4 G) (hr : meth.sig.returnType = some .int) (hlk : meth.locks = false) (hg : g < 6) : ∀ (n : Nat) {x3 : Int32} (h : L_X2_latestUserOf_7 g x1 x2 M n x3 = some rv), V p l e (rmk 2) s m args below meth c 4 G 0 0 (MQ below (gQ G (some (.int rv)) M) args s 0 0 (gA G)) 7 [(0, .ref (adr G g 14)), (1, .int x1), (2, .int x2), (3, .int x3)] [] M := by
  intro n
  induction n with
  | zero => intro x3 h; cases h
  | succ n ih =>
    intro x3 h
    have hk7 : ∀ (x3 : Int32), L_X2_latestUserOf_7 g x1 x2 M n x3 = some rv → V p l e (rmk 2) s m args below meth c 4 G 0 0 (MQ below (gQ G (some (.int rv)) M) args s 0 0 (gA G)) 7 [(0, .ref (adr G g 14)), (1, .int x1), (2, .int x2), (3, .int x3)] [] M := fun _ z => ih z
    refine V_iload_n hC dX2_latestUserOf_7 rfl 3 rfl ?_
    refine V_if_lt hC 44 dX2_latestUserOf_8 (by decide) (fun c1 => ?_) (fun c1 => ?_)
    · have h := ite_t c1 h
      refine V_iconst hC ((-1) : Int32) dX2_latestUserOf_44 (by decide) ?_
      obtain rfl := Option.some.inj h
      exact V_iret hC hr hlk dX2_latestUserOf_45
    · have h := ite_f c1 h
      refine V_aload_n hC dX2_latestUserOf_11 rfl 0 rfl ?_
      refine V_iload_n hC dX2_latestUserOf_12 rfl 3 rfl ?_
      refine V_iconst hC (1 : Int32) dX2_latestUserOf_13 (by decide) ?_
      obtain ⟨q2, e2, h⟩ := bind_some h
      refine V_cVr hC [.int x3, .int (1 : Int32)] (c_X2_fact (l := l) hC.2.2.2.2.2.2.2 hg e2) kd_X2_fact kv_X2_fact gw_496 (r_d14_0 hg).o rfl ⟨Nat.le_of_ble_eq_true rfl, Nat.le_of_ble_eq_true rfl⟩ rfl (Nat.le_of_ble_eq_true rfl) dX2_latestUserOf_14 ⟨Nat.zero_le _, Nat.zero_le _⟩ rfl ?_
      refine V_iload_n hC dX2_latestUserOf_17 rfl 1 rfl ?_
      refine V_icmp_ne hC 38 dX2_latestUserOf_18 (by decide) (fun c3 => ?_) (fun c3 => ?_)
      · have h := ite_f c3 h
        exact b_X2_latestUserOf_38 hC hr hlk hg hk7 h
      · have h := ite_t c3 h
        refine V_aload_n hC dX2_latestUserOf_21 rfl 0 rfl ?_
        refine V_iload_n hC dX2_latestUserOf_22 rfl 3 rfl ?_
        refine V_iconst hC (2 : Int32) dX2_latestUserOf_23 (by decide) ?_
        obtain ⟨q4, e4, h⟩ := bind_some h
        refine V_cVr hC [.int x3, .int (2 : Int32)] (c_X2_fact (l := l) hC.2.2.2.2.2.2.2 hg e4) kd_X2_fact kv_X2_fact gw_496 (r_d14_0 hg).o rfl ⟨Nat.le_of_ble_eq_true rfl, Nat.le_of_ble_eq_true rfl⟩ rfl (Nat.le_of_ble_eq_true rfl) dX2_latestUserOf_24 ⟨Nat.zero_le _, Nat.zero_le _⟩ rfl ?_
        refine V_iload_n hC dX2_latestUserOf_27 rfl 2 rfl ?_
        refine V_icmp_ne hC 38 dX2_latestUserOf_28 (by decide) (fun c5 => ?_) (fun c5 => ?_)
        · have h := ite_f c5 h
          exact b_X2_latestUserOf_38 hC hr hlk hg hk7 h
        · have h := ite_t c5 h
          refine V_aload_n hC dX2_latestUserOf_31 rfl 0 rfl ?_
          refine V_iload_n hC dX2_latestUserOf_32 rfl 3 rfl ?_
          refine V_iconst hC (5 : Int32) dX2_latestUserOf_33 (by decide) ?_
          obtain ⟨q6, e6, h⟩ := bind_some h
          refine V_cVr hC [.int x3, .int (5 : Int32)] (c_X2_fact (l := l) hC.2.2.2.2.2.2.2 hg e6) kd_X2_fact kv_X2_fact gw_496 (r_d14_0 hg).o rfl ⟨Nat.le_of_ble_eq_true rfl, Nat.le_of_ble_eq_true rfl⟩ rfl (Nat.le_of_ble_eq_true rfl) dX2_latestUserOf_34 ⟨Nat.zero_le _, Nat.zero_le _⟩ rfl ?_
          obtain rfl := Option.some.inj h
          exact V_iret hC hr hlk dX2_latestUserOf_37
theorem c_X2_latestUserOf {l : Launch} {G : Geo} {g : Nat} {x1 : Int32} {x2 : Int32} {rv : Int32} {M : Mem} (hG : gD G) (hg : g < 6) (h : f_X2_latestUserOf g x1 x2 M = some rv) : Met l yX2_latestUserOf (.code yX2_latestUserOf cX2_latestUserOf 4 (some .int) :: GL) (rmk 2) (gP G [.ref (adr G g 14), .int x1, .int x2] M) (gQ G (some (.int rv)) M) 0 0 (gA G) := by
  refine Met_of (own := RX2) (L := [(0, .ref (adr G g 14)), (1, .int x1), (2, .int x2)]) hG (by decide +kernel) rfl (Nat.le_of_ble_eq_true rfl) rfl ?_
  intro p e s m args below meth c hC hr hlk
  refine V_aload_n hC dX2_latestUserOf_0 rfl 0 rfl ?_
  refine V_getI hC (f_d14_2 hg) fw_X2_23 dX2_latestUserOf_1 ?_
  refine V_iconst hC (1 : Int32) dX2_latestUserOf_4 (by decide) ?_
  refine V_isub hC dX2_latestUserOf_5 ?_
  refine V_istore_n hC ([(3, .int ((M.1 g 14 2) - (1 : Int32))), (0, .ref (adr G g 14)), (1, .int x1), (2, .int x2)]) dX2_latestUserOf_6 rfl (by decide) rfl ?_
  refine V_sub [1, 2, 3, 0] rfl ?_
  exact l_X2_latestUserOf_7 hC hr hlk hg FU h
theorem b_X3_put_33 {rv : Int32} {Mf : Mem} {M : Mem} (hC : Cx p s m args c cX3_put RX3 2 G) (hr : meth.sig.returnType = some .int) (hlk : meth.locks = false) (h : B_X3_put_33 M = some (rv, Mf)) : V p l e (rmk 1) s m args below meth c 2 G 0 0 (MQ below (gQ G (some (.int rv)) Mf) args s 0 0 (gA G)) 33 [(0, .ref (adr G 6 3))] [] M := by
  refine V_aload_n hC dX3_put_33 rfl 0 rfl ?_
  refine V_getI hC (f_s3_1) fw_X3_21 dX3_put_34 ?_
  obtain ⟨rfl, rfl⟩ := Prod.mk.inj (Option.some.inj h)
  exact V_iret hC hr hlk dX3_put_37
theorem c_X3_put {l : Launch} {G : Geo} {x1 : Int32} {rv : Int32} {Mf : Mem} {M : Mem} (hG : gD G) (h : f_X3_put x1 M = some (rv, Mf)) : Met l yX3_put (.code yX3_put cX3_put 2 (some .int) :: GL) (rmk 1) (gP G [.ref (adr G 6 3), .int x1] M) (gQ G (some (.int rv)) Mf) 0 0 (gA G) := by
  refine Met_of (own := RX3) (L := [(0, .ref (adr G 6 3)), (1, .int x1)]) hG (by decide +kernel) rfl (Nat.le_of_ble_eq_true rfl) rfl ?_
  intro p e s m args below meth c hC hr hlk
  refine V_aload_n hC dX3_put_0 rfl 0 rfl ?_
  refine V_getI hC (f_s3_1) fw_X3_21 dX3_put_1 ?_
  refine V_iconst hC (0 : Int32) dX3_put_4 (by decide) ?_
  refine V_bipush hC (119 : Int32) dX3_put_5 (by decide) ?_
  refine V_cSNr hC [.int (M.1 6 3 1), .int (0 : Int32), .int (119 : Int32)] (c_X8_isWithin (l := l) hC.2.2.2.2.2.2.2 rfl) kd_X8_isWithin gw_444 nw_46 ⟨Nat.le_of_ble_eq_true rfl, Nat.le_of_ble_eq_true rfl⟩ rfl (Nat.le_of_ble_eq_true rfl) dX3_put_7 ⟨Nat.zero_le _, Nat.zero_le _⟩ rfl ?_
  refine V_if_eq hC 33 dX3_put_10 (by decide) (fun c2 => ?_) (fun c2 => ?_)
  · have h := ite_t c2 h
    refine V_sub [0] rfl ?_
    exact b_X3_put_33 hC hr hlk h
  · have h := ite_f c2 h
    refine V_aload_n hC dX3_put_13 rfl 0 rfl ?_
    refine V_getR hC (r_s3_0) fw_X3_9 dX3_put_14 ?_
    refine V_aload_n hC dX3_put_17 rfl 0 rfl ?_
    refine V_getI hC (f_s3_1) fw_X3_21 dX3_put_18 ?_
    refine V_iload_n hC dX3_put_21 rfl 1 rfl ?_
    obtain ⟨c3, h⟩ := ite_some h
    refine V_iast hC (a_s4) c3 dX3_put_22 ?_
    refine V_aload_n hC dX3_put_23 rfl 0 rfl ?_
    refine V_dup hC dX3_put_24 rfl ?_
    refine V_getI hC (f_s3_1) fw_X3_21 dX3_put_25 ?_
    refine V_iconst hC (1 : Int32) dX3_put_28 (by decide) ?_
    refine V_iadd hC dX3_put_29 ?_
    refine V_putI hC (f_s3_1) fw_X3_21 flp_3_1 dX3_put_30 ?_
    refine V_sub [0] rfl ?_
    exact b_X3_put_33 hC hr hlk h
theorem c_X3_numbersAfter {l : Launch} {G : Geo} {x0 : Int32} {rv : Int32} {M : Mem} (hG : gD G) (h : f_X3_numbersAfter x0 = rv) : Met l yX3_numbersAfter (.code yX3_numbersAfter cX3_numbersAfter 1 (some .int) :: GL) (rmk 0) (gP G [.int x0] M) (gQ G (some (.int rv)) M) 0 0 (gA G) := by
  refine Met_of (own := RX3) (L := [(0, .int x0)]) hG (by decide +kernel) rfl (Nat.le_of_ble_eq_true rfl) rfl ?_
  intro p e s m args below meth c hC hr hlk
  refine V_iload_n hC dX3_numbersAfter_0 rfl 0 rfl ?_
  by_cases c1 : x0 = (98 : Int32)
  · have h := ite_t c1 h
    refine V_tableIn hC 0 88 dX3_numbersAfter_1 (by rw [c1]; decide) (by decide) rfl (by decide) ?_
    refine V_iconst hC (1 : Int32) dX3_numbersAfter_88 (by decide) ?_
    obtain rfl := id h
    exact V_iret hC hr hlk dX3_numbersAfter_89
  have h := ite_f c1 h
  by_cases c2 : x0 = (99 : Int32)
  · have h := ite_t c2 h
    refine V_tableIn hC 1 92 dX3_numbersAfter_1 (by rw [c2]; decide) (by decide) rfl (by decide) ?_
    refine V_iconst hC (0 : Int32) dX3_numbersAfter_92 (by decide) ?_
    obtain rfl := id h
    exact V_iret hC hr hlk dX3_numbersAfter_93
  have h := ite_f c2 h
  by_cases c3 : x0 = (100 : Int32)
  · have h := ite_t c3 h
    refine V_tableIn hC 2 86 dX3_numbersAfter_1 (by rw [c3]; decide) (by decide) rfl (by decide) ?_
    refine V_iconst hC (1 : Int32) dX3_numbersAfter_86 (by decide) ?_
    obtain rfl := id h
    exact V_iret hC hr hlk dX3_numbersAfter_87
  have h := ite_f c3 h
  by_cases c4 : x0 = (101 : Int32)
  · have h := ite_t c4 h
    refine V_tableIn hC 3 82 dX3_numbersAfter_1 (by rw [c4]; decide) (by decide) rfl (by decide) ?_
    refine V_iconst hC (4 : Int32) dX3_numbersAfter_82 (by decide) ?_
    obtain rfl := id h
    exact V_iret hC hr hlk dX3_numbersAfter_83
  have h := ite_f c4 h
  by_cases c5 : x0 = (102 : Int32)
  · have h := ite_t c5 h
    refine V_tableIn hC 4 92 dX3_numbersAfter_1 (by rw [c5]; decide) (by decide) rfl (by decide) ?_
    refine V_iconst hC (0 : Int32) dX3_numbersAfter_92 (by decide) ?_
    obtain rfl := id h
    exact V_iret hC hr hlk dX3_numbersAfter_93
  have h := ite_f c5 h
  by_cases c6 : x0 = (103 : Int32)
  · have h := ite_t c6 h
    refine V_tableIn hC 5 84 dX3_numbersAfter_1 (by rw [c6]; decide) (by decide) rfl (by decide) ?_
    refine V_iconst hC (2 : Int32) dX3_numbersAfter_84 (by decide) ?_
    obtain rfl := id h
    exact V_iret hC hr hlk dX3_numbersAfter_85
  have h := ite_f c6 h
  by_cases c7 : x0 = (104 : Int32)
  · have h := ite_t c7 h
    refine V_tableIn hC 6 92 dX3_numbersAfter_1 (by rw [c7]; decide) (by decide) rfl (by decide) ?_
    refine V_iconst hC (0 : Int32) dX3_numbersAfter_92 (by decide) ?_
    obtain rfl := id h
    exact V_iret hC hr hlk dX3_numbersAfter_93
  have h := ite_f c7 h
  by_cases c8 : x0 = (105 : Int32)
  · have h := ite_t c8 h
    refine V_tableIn hC 7 92 dX3_numbersAfter_1 (by rw [c8]; decide) (by decide) rfl (by decide) ?_
    refine V_iconst hC (0 : Int32) dX3_numbersAfter_92 (by decide) ?_
    obtain rfl := id h
    exact V_iret hC hr hlk dX3_numbersAfter_93
  have h := ite_f c8 h
  by_cases c9 : x0 = (106 : Int32)
  · have h := ite_t c9 h
    refine V_tableIn hC 8 92 dX3_numbersAfter_1 (by rw [c9]; decide) (by decide) rfl (by decide) ?_
    refine V_iconst hC (0 : Int32) dX3_numbersAfter_92 (by decide) ?_
    obtain rfl := id h
    exact V_iret hC hr hlk dX3_numbersAfter_93
  have h := ite_f c9 h
  by_cases c10 : x0 = (107 : Int32)
  · have h := ite_t c10 h
    refine V_tableIn hC 9 92 dX3_numbersAfter_1 (by rw [c10]; decide) (by decide) rfl (by decide) ?_
    refine V_iconst hC (0 : Int32) dX3_numbersAfter_92 (by decide) ?_
    obtain rfl := id h
    exact V_iret hC hr hlk dX3_numbersAfter_93
  have h := ite_f c10 h
  by_cases c11 : x0 = (108 : Int32)
  · have h := ite_t c11 h
    refine V_tableIn hC 10 92 dX3_numbersAfter_1 (by rw [c11]; decide) (by decide) rfl (by decide) ?_
    refine V_iconst hC (0 : Int32) dX3_numbersAfter_92 (by decide) ?_
    obtain rfl := id h
    exact V_iret hC hr hlk dX3_numbersAfter_93
  have h := ite_f c11 h
  by_cases c12 : x0 = (109 : Int32)
  · have h := ite_t c12 h
    refine V_tableIn hC 11 92 dX3_numbersAfter_1 (by rw [c12]; decide) (by decide) rfl (by decide) ?_
    refine V_iconst hC (0 : Int32) dX3_numbersAfter_92 (by decide) ?_
    obtain rfl := id h
    exact V_iret hC hr hlk dX3_numbersAfter_93
  have h := ite_f c12 h
  by_cases c13 : x0 = (110 : Int32)
  · have h := ite_t c13 h
    refine V_tableIn hC 12 92 dX3_numbersAfter_1 (by rw [c13]; decide) (by decide) rfl (by decide) ?_
    refine V_iconst hC (0 : Int32) dX3_numbersAfter_92 (by decide) ?_
    obtain rfl := id h
    exact V_iret hC hr hlk dX3_numbersAfter_93
  have h := ite_f c13 h
  by_cases c14 : x0 = (111 : Int32)
  · have h := ite_t c14 h
    refine V_tableIn hC 13 92 dX3_numbersAfter_1 (by rw [c14]; decide) (by decide) rfl (by decide) ?_
    refine V_iconst hC (0 : Int32) dX3_numbersAfter_92 (by decide) ?_
    obtain rfl := id h
    exact V_iret hC hr hlk dX3_numbersAfter_93
  have h := ite_f c14 h
  by_cases c15 : x0 = (112 : Int32)
  · have h := ite_t c15 h
    refine V_tableIn hC 14 90 dX3_numbersAfter_1 (by rw [c15]; decide) (by decide) rfl (by decide) ?_
    refine V_iconst hC (1 : Int32) dX3_numbersAfter_90 (by decide) ?_
    obtain rfl := id h
    exact V_iret hC hr hlk dX3_numbersAfter_91
  have h := ite_f c15 h
  by_cases c16 : x0 = (113 : Int32)
  · have h := ite_t c16 h
    refine V_tableIn hC 15 80 dX3_numbersAfter_1 (by rw [c16]; decide) (by decide) rfl (by decide) ?_
    refine V_iconst hC (4 : Int32) dX3_numbersAfter_80 (by decide) ?_
    obtain rfl := id h
    exact V_iret hC hr hlk dX3_numbersAfter_81
  have h := ite_f c16 h
  refine V_tableOut hC 92 dX3_numbersAfter_1 (tsw_out (98) 16 x0 (tsw_cons c1 (by decide) (tsw_cons c2 (by decide) (tsw_cons c3 (by decide) (tsw_cons c4 (by decide) (tsw_cons c5 (by decide) (tsw_cons c6 (by decide) (tsw_cons c7 (by decide) (tsw_cons c8 (by decide) (tsw_cons c9 (by decide) (tsw_cons c10 (by decide) (tsw_cons c11 (by decide) (tsw_cons c12 (by decide) (tsw_cons c13 (by decide) (tsw_cons c14 (by decide) (tsw_cons c15 (by decide) (tsw_cons c16 (by decide) (tsw_nil))))))))))))))))) rfl) (by decide) ?_
  refine V_iconst hC (0 : Int32) dX3_numbersAfter_92 (by decide) ?_
  obtain rfl := id h
  exact V_iret hC hr hlk dX3_numbersAfter_93
theorem c_X3_takesLetter {l : Launch} {G : Geo} {x1 : Int32} {rv : Int32} {Mf : Mem} {M : Mem} (hG : gD G) (h : f_X3_takesLetter x1 M = some (rv, Mf)) : Met l yX3_takesLetter (.code yX3_takesLetter cX3_takesLetter 2 (some .boolean) :: GL) (rmk 1) (gP G [.ref (adr G 6 3), .int x1] M) (gQ G (some (.int rv)) Mf) 0 0 (gA G) := by
  refine Met_of (own := RX3) (L := [(0, .ref (adr G 6 3)), (1, .int x1)]) hG (by decide +kernel) rfl (Nat.le_of_ble_eq_true rfl) rfl ?_
  intro p e s m args below meth c hC hr hlk
  refine V_iload_n hC dX3_takesLetter_0 rfl 1 rfl ?_
  refine V_cSr hC [.int x1] (c_X3_numbersAfter (l := l) hC.2.2.2.2.2.2.2 rfl) kd_X3_numbersAfter gw_1201 gw_1200 ⟨Nat.le_of_ble_eq_true rfl, Nat.le_of_ble_eq_true rfl⟩ rfl (Nat.le_of_ble_eq_true rfl) dX3_takesLetter_1 ⟨Nat.zero_le _, Nat.zero_le _⟩ rfl ?_
  refine V_if_eq hC 20 dX3_takesLetter_4 (by decide) (fun c2 => ?_) (fun c2 => ?_)
  · have h := ite_t c2 h
    refine V_iconst hC (0 : Int32) dX3_takesLetter_20 (by decide) ?_
    obtain ⟨rfl, rfl⟩ := Prod.mk.inj (Option.some.inj h)
    exact V_zret hC hr hlk (Or.inl rfl) dX3_takesLetter_21
  · have h := ite_f c2 h
    refine V_aload_n hC dX3_takesLetter_7 rfl 0 rfl ?_
    refine V_getI hC (f_s3_4) fw_X3_29 dX3_takesLetter_8 ?_
    refine V_iconst hC (0 : Int32) dX3_takesLetter_11 (by decide) ?_
    refine V_bipush hC (29 : Int32) dX3_takesLetter_12 (by decide) ?_
    refine V_cSNr hC [.int (M.1 6 3 4), .int (0 : Int32), .int (29 : Int32)] (c_X8_isWithin (l := l) hC.2.2.2.2.2.2.2 rfl) kd_X8_isWithin gw_444 nw_46 ⟨Nat.le_of_ble_eq_true rfl, Nat.le_of_ble_eq_true rfl⟩ rfl (Nat.le_of_ble_eq_true rfl) dX3_takesLetter_14 ⟨Nat.zero_le _, Nat.zero_le _⟩ rfl ?_
    refine V_if_ne hC 22 dX3_takesLetter_17 (by decide) (fun c4 => ?_) (fun c4 => ?_)
    · have h := ite_f c4 h
      refine V_aload_n hC dX3_takesLetter_22 rfl 0 rfl ?_
      refine V_getR hC (r_s3_2) fw_X3_15 dX3_takesLetter_23 ?_
      refine V_aload_n hC dX3_takesLetter_26 rfl 0 rfl ?_
      refine V_getI hC (f_s3_4) fw_X3_29 dX3_takesLetter_27 ?_
      refine V_iload_n hC dX3_takesLetter_30 rfl 1 rfl ?_
      obtain ⟨c5, h⟩ := ite_some h
      refine V_iast hC (a_s5) c5 dX3_takesLetter_31 ?_
      refine V_aload_n hC dX3_takesLetter_32 rfl 0 rfl ?_
      refine V_iconst hC (0 : Int32) dX3_takesLetter_33 (by decide) ?_
      refine V_putI hC (f_s3_6) fw_X3_55 flp_3_6 dX3_takesLetter_34 ?_
      refine V_aload_n hC dX3_takesLetter_37 rfl 0 rfl ?_
      refine V_iconst hC (1 : Int32) dX3_takesLetter_38 (by decide) ?_
      refine V_putI hC (f_s3_5) fw_X3_32 flp_3_5 dX3_takesLetter_39 ?_
      refine V_iconst hC (1 : Int32) dX3_takesLetter_42 (by decide) ?_
      obtain ⟨rfl, rfl⟩ := Prod.mk.inj (Option.some.inj h)
      exact V_zret hC hr hlk (Or.inr rfl) dX3_takesLetter_43
    · have h := ite_t c4 h
      refine V_iconst hC (0 : Int32) dX3_takesLetter_20 (by decide) ?_
      obtain ⟨rfl, rfl⟩ := Prod.mk.inj (Option.some.inj h)
      exact V_zret hC hr hlk (Or.inl rfl) dX3_takesLetter_21
theorem c_X3_setNumber {l : Launch} {G : Geo} {x1 : Int32} {x2 : Int32} {x3 : Int32} {Mf : Mem} {M : Mem} (hG : gD G) (h : f_X3_setNumber x1 x2 x3 M = some Mf) : Met l yX3_setNumber (.code yX3_setNumber cX3_setNumber 4 none :: GL) (rmk 1) (gP G [.ref (adr G 6 3), .int x1, .int x2, .int x3] M) (gQ G none Mf) 0 0 (gA G) := by
  refine Met_of (own := RX3) (L := [(0, .ref (adr G 6 3)), (1, .int x1), (2, .int x2), (3, .int x3)]) hG (by decide +kernel) rfl (Nat.le_of_ble_eq_true rfl) rfl ?_
  intro p e s m args below meth c hC hr hlk
  refine V_iload_n hC dX3_setNumber_0 rfl 1 rfl ?_
  refine V_iconst hC (0 : Int32) dX3_setNumber_1 (by decide) ?_
  refine V_bipush hC (29 : Int32) dX3_setNumber_2 (by decide) ?_
  refine V_cSNr hC [.int x1, .int (0 : Int32), .int (29 : Int32)] (c_X8_isWithin (l := l) hC.2.2.2.2.2.2.2 rfl) kd_X8_isWithin gw_444 nw_46 ⟨Nat.le_of_ble_eq_true rfl, Nat.le_of_ble_eq_true rfl⟩ rfl (Nat.le_of_ble_eq_true rfl) dX3_setNumber_4 ⟨Nat.zero_le _, Nat.zero_le _⟩ rfl ?_
  refine V_if_eq hC 30 dX3_setNumber_7 (by decide) (fun c2 => ?_) (fun c2 => ?_)
  · have h := ite_t c2 h
    obtain rfl := Option.some.inj h
    exact V_vret hC hr hlk dX3_setNumber_30
  · have h := ite_f c2 h
    refine V_iload_n hC dX3_setNumber_10 rfl 2 rfl ?_
    refine V_iconst hC (0 : Int32) dX3_setNumber_11 (by decide) ?_
    refine V_iconst hC (3 : Int32) dX3_setNumber_12 (by decide) ?_
    refine V_cSNr hC [.int x2, .int (0 : Int32), .int (3 : Int32)] (c_X8_isWithin (l := l) hC.2.2.2.2.2.2.2 rfl) kd_X8_isWithin gw_444 nw_46 ⟨Nat.le_of_ble_eq_true rfl, Nat.le_of_ble_eq_true rfl⟩ rfl (Nat.le_of_ble_eq_true rfl) dX3_setNumber_13 ⟨Nat.zero_le _, Nat.zero_le _⟩ rfl ?_
    refine V_if_eq hC 30 dX3_setNumber_16 (by decide) (fun c4 => ?_) (fun c4 => ?_)
    · have h := ite_t c4 h
      obtain rfl := Option.some.inj h
      exact V_vret hC hr hlk dX3_setNumber_30
    · have h := ite_f c4 h
      refine V_aload_n hC dX3_setNumber_19 rfl 0 rfl ?_
      refine V_getR hC (r_s3_3) fw_X3_18 dX3_setNumber_20 ?_
      refine V_iload_n hC dX3_setNumber_23 rfl 1 rfl ?_
      refine V_iconst hC (4 : Int32) dX3_setNumber_24 (by decide) ?_
      refine V_imul hC dX3_setNumber_25 ?_
      refine V_iload_n hC dX3_setNumber_26 rfl 2 rfl ?_
      refine V_iadd hC dX3_setNumber_27 ?_
      refine V_iload_n hC dX3_setNumber_28 rfl 3 rfl ?_
      obtain ⟨c5, h⟩ := ite_some h
      refine V_iast hC (a_s6) c5 dX3_setNumber_29 ?_
      obtain rfl := Option.some.inj h
      exact V_vret hC hr hlk dX3_setNumber_30
theorem c_X3_takesSpace {l : Launch} {G : Geo} {x1 : Int32} {rv : Int32} {Mf : Mem} {M : Mem} (hG : gD G) (h : f_X3_takesSpace x1 M = some (rv, Mf)) : Met l yX3_takesSpace (.code yX3_takesSpace cX3_takesSpace 2 (some .boolean) :: GL) (rmk 2) (gP G [.ref (adr G 6 3), .int x1] M) (gQ G (some (.int rv)) Mf) 0 0 (gA G) := by
  refine Met_of (own := RX3) (L := [(0, .ref (adr G 6 3)), (1, .int x1)]) hG (by decide +kernel) rfl (Nat.le_of_ble_eq_true rfl) rfl ?_
  intro p e s m args below meth c hC hr hlk
  refine V_iload_n hC dX3_takesSpace_0 rfl 1 rfl ?_
  refine V_bipush hC (32 : Int32) dX3_takesSpace_1 (by decide) ?_
  refine V_icmp_eq hC 8 dX3_takesSpace_3 (by decide) (fun c1 => ?_) (fun c1 => ?_)
  · have h := ite_t c1 h
    refine V_aload_n hC dX3_takesSpace_8 rfl 0 rfl ?_
    refine V_aload_n hC dX3_takesSpace_9 rfl 0 rfl ?_
    refine V_getI hC (f_s3_4) fw_X3_29 dX3_takesSpace_10 ?_
    refine V_aload_n hC dX3_takesSpace_13 rfl 0 rfl ?_
    refine V_getI hC (f_s3_6) fw_X3_55 dX3_takesSpace_14 ?_
    refine V_iconst hC (0 : Int32) dX3_takesSpace_17 (by decide) ?_
    obtain ⟨q2, e2, h⟩ := bind_some h
    refine V_cVv hC [.int (M.1 6 3 4), .int (M.1 6 3 6), .int (0 : Int32)] (c_X3_setNumber (l := l) hC.2.2.2.2.2.2.2 e2) kd_X3_setNumber kv_X3_setNumber gw_1207 (r_s3_0).o rfl ⟨Nat.le_of_ble_eq_true rfl, Nat.le_of_ble_eq_true rfl⟩ rfl (Nat.le_of_ble_eq_true rfl) dX3_takesSpace_18 ⟨Nat.zero_le _, Nat.zero_le _⟩ rfl ?_
    refine V_aload_n hC dX3_takesSpace_21 rfl 0 rfl ?_
    refine V_dup hC dX3_takesSpace_22 rfl ?_
    refine V_getI hC (f_s3_6) fw_X3_55 dX3_takesSpace_23 ?_
    refine V_iconst hC (1 : Int32) dX3_takesSpace_26 (by decide) ?_
    refine V_iadd hC dX3_takesSpace_27 ?_
    refine V_putI hC (f_s3_6) fw_X3_55 flp_3_6 dX3_takesSpace_28 ?_
    refine V_aload_n hC dX3_takesSpace_31 rfl 0 rfl ?_
    refine V_iconst hC (0 : Int32) dX3_takesSpace_32 (by decide) ?_
    refine V_putI hC (f_s3_7) fw_X3_62 flp_3_7 dX3_takesSpace_33 ?_
    refine V_aload_n hC dX3_takesSpace_36 rfl 0 rfl ?_
    refine V_iconst hC (2 : Int32) dX3_takesSpace_37 (by decide) ?_
    refine V_putI hC (f_s3_5) fw_X3_32 flp_3_5 dX3_takesSpace_38 ?_
    refine V_iconst hC (1 : Int32) dX3_takesSpace_41 (by decide) ?_
    obtain ⟨rfl, rfl⟩ := Prod.mk.inj (Option.some.inj h)
    exact V_zret hC hr hlk (Or.inr rfl) dX3_takesSpace_42
  · have h := ite_f c1 h
    refine V_iconst hC (0 : Int32) dX3_takesSpace_6 (by decide) ?_
    obtain ⟨rfl, rfl⟩ := Prod.mk.inj (Option.some.inj h)
    exact V_zret hC hr hlk (Or.inl rfl) dX3_takesSpace_7
theorem b_X3_numberOf_24 {rv : Int32} {x1 : Int32} {x2 : Int32} {z0 : Int32} {M : Mem} (hC : Cx p s m args c cX3_numberOf RX3 4 G) (hr : meth.sig.returnType = some .int) (hlk : meth.locks = false) (h : B_X3_numberOf_24 x1 x2 z0 M = some rv) : V p l e (rmk 1) s m args below meth c 4 G 0 0 (MQ below (gQ G (some (.int rv)) M) args s 0 0 (gA G)) 24 [(0, .ref (adr G 6 3)), (1, .int x1), (2, .int x2)] [.int z0] M := by
  refine V_istore_n hC ([(3, .int z0), (0, .ref (adr G 6 3)), (1, .int x1), (2, .int x2)]) dX3_numberOf_24 rfl (by decide) rfl ?_
  refine V_iload_n hC dX3_numberOf_25 rfl 0 rfl ?_
  refine V_if_eq hC 42 dX3_numberOf_26 (by decide) (fun c3 => ?_) (fun c3 => ?_)
  · have h := ite_t c3 h
    refine V_iconst hC (0 : Int32) dX3_numberOf_42 (by decide) ?_
    obtain rfl := Option.some.inj h
    exact V_iret hC hr hlk dX3_numberOf_43
  · have h := ite_f c3 h
    refine V_aload_n hC dX3_numberOf_29 rfl 1 rfl ?_
    refine V_getR hC (r_s3_3) fw_X3_18 dX3_numberOf_30 ?_
    refine V_iload_n hC dX3_numberOf_33 rfl 2 rfl ?_
    refine V_iconst hC (4 : Int32) dX3_numberOf_34 (by decide) ?_
    refine V_imul hC dX3_numberOf_35 ?_
    refine V_iload_n hC dX3_numberOf_36 rfl 3 rfl ?_
    refine V_iadd hC dX3_numberOf_37 ?_
    obtain ⟨c4, h⟩ := ite_some h
    refine V_iald hC (a_s6) c4 dX3_numberOf_38 ?_
    refine V_goto hC 43 dX3_numberOf_39 (by decide) ?_
    obtain rfl := Option.some.inj h
    exact V_iret hC hr hlk dX3_numberOf_43
theorem b_X3_numberOf_23 {rv : Int32} {x1 : Int32} {x2 : Int32} {M : Mem} (hC : Cx p s m args c cX3_numberOf RX3 4 G) (hr : meth.sig.returnType = some .int) (hlk : meth.locks = false) (h : B_X3_numberOf_23 x1 x2 M = some rv) : V p l e (rmk 1) s m args below meth c 4 G 0 0 (MQ below (gQ G (some (.int rv)) M) args s 0 0 (gA G)) 23 [(0, .ref (adr G 6 3)), (1, .int x1), (2, .int x2)] [] M := by
  refine V_iconst hC (0 : Int32) dX3_numberOf_23 (by decide) ?_
  exact b_X3_numberOf_24 hC hr hlk h
theorem c_X3_numberOf {l : Launch} {G : Geo} {x1 : Int32} {x2 : Int32} {rv : Int32} {M : Mem} (hG : gD G) (h : f_X3_numberOf x1 x2 M = some rv) : Met l yX3_numberOf (.code yX3_numberOf cX3_numberOf 4 (some .int) :: GL) (rmk 1) (gP G [.ref (adr G 6 3), .int x1, .int x2] M) (gQ G (some (.int rv)) M) 0 0 (gA G) := by
  refine Met_of (own := RX3) (L := [(0, .ref (adr G 6 3)), (1, .int x1), (2, .int x2)]) hG (by decide +kernel) rfl (Nat.le_of_ble_eq_true rfl) rfl ?_
  intro p e s m args below meth c hC hr hlk
  refine V_iload_n hC dX3_numberOf_0 rfl 1 rfl ?_
  refine V_iconst hC (0 : Int32) dX3_numberOf_1 (by decide) ?_
  refine V_bipush hC (29 : Int32) dX3_numberOf_2 (by decide) ?_
  refine V_cSNr hC [.int x1, .int (0 : Int32), .int (29 : Int32)] (c_X8_isWithin (l := l) hC.2.2.2.2.2.2.2 rfl) kd_X8_isWithin gw_444 nw_46 ⟨Nat.le_of_ble_eq_true rfl, Nat.le_of_ble_eq_true rfl⟩ rfl (Nat.le_of_ble_eq_true rfl) dX3_numberOf_4 ⟨Nat.zero_le _, Nat.zero_le _⟩ rfl ?_
  refine V_if_eq hC 23 dX3_numberOf_7 (by decide) (fun c2 => ?_) (fun c2 => ?_)
  · have h := ite_t c2 h
    exact b_X3_numberOf_23 hC hr hlk h
  · have h := ite_f c2 h
    refine V_iload_n hC dX3_numberOf_10 rfl 2 rfl ?_
    refine V_iconst hC (0 : Int32) dX3_numberOf_11 (by decide) ?_
    refine V_iconst hC (3 : Int32) dX3_numberOf_12 (by decide) ?_
    refine V_cSNr hC [.int x2, .int (0 : Int32), .int (3 : Int32)] (c_X8_isWithin (l := l) hC.2.2.2.2.2.2.2 rfl) kd_X8_isWithin gw_444 nw_46 ⟨Nat.le_of_ble_eq_true rfl, Nat.le_of_ble_eq_true rfl⟩ rfl (Nat.le_of_ble_eq_true rfl) dX3_numberOf_13 ⟨Nat.zero_le _, Nat.zero_le _⟩ rfl ?_
    refine V_if_eq hC 23 dX3_numberOf_16 (by decide) (fun c6 => ?_) (fun c6 => ?_)
    · have h := ite_t c6 h
      exact b_X3_numberOf_23 hC hr hlk h
    · have h := ite_f c6 h
      refine V_iconst hC (1 : Int32) dX3_numberOf_19 (by decide) ?_
      refine V_goto hC 24 dX3_numberOf_20 (by decide) ?_
      exact b_X3_numberOf_24 hC hr hlk h
theorem c_X3_takesDigit {l : Launch} {G : Geo} {x1 : Int32} {rv : Int32} {Mf : Mem} {M : Mem} (hG : gD G) (h : f_X3_takesDigit x1 M = some (rv, Mf)) : Met l yX3_takesDigit (.code yX3_takesDigit cX3_takesDigit 2 (some .boolean) :: GL) (rmk 2) (gP G [.ref (adr G 6 3), .int x1] M) (gQ G (some (.int rv)) Mf) 0 0 (gA G) := by
  refine Met_of (own := RX3) (L := [(0, .ref (adr G 6 3)), (1, .int x1)]) hG (by decide +kernel) rfl (Nat.le_of_ble_eq_true rfl) rfl ?_
  intro p e s m args below meth c hC hr hlk
  refine V_aload_n hC dX3_takesDigit_0 rfl 0 rfl ?_
  refine V_getI hC (f_s3_7) fw_X3_62 dX3_takesDigit_1 ?_
  refine V_iconst hC (4 : Int32) dX3_takesDigit_4 (by decide) ?_
  refine V_icmp_lt hC 10 dX3_takesDigit_5 (by decide) (fun c1 => ?_) (fun c1 => ?_)
  · have h := ite_t c1 h
    refine V_aload_n hC dX3_takesDigit_10 rfl 0 rfl ?_
    refine V_aload_n hC dX3_takesDigit_11 rfl 0 rfl ?_
    refine V_getI hC (f_s3_4) fw_X3_29 dX3_takesDigit_12 ?_
    refine V_aload_n hC dX3_takesDigit_15 rfl 0 rfl ?_
    refine V_getI hC (f_s3_6) fw_X3_55 dX3_takesDigit_16 ?_
    refine V_iconst hC (1 : Int32) dX3_takesDigit_19 (by decide) ?_
    refine V_isub hC dX3_takesDigit_20 ?_
    refine V_aload_n hC dX3_takesDigit_21 rfl 0 rfl ?_
    refine V_aload_n hC dX3_takesDigit_22 rfl 0 rfl ?_
    refine V_getI hC (f_s3_4) fw_X3_29 dX3_takesDigit_23 ?_
    refine V_aload_n hC dX3_takesDigit_26 rfl 0 rfl ?_
    refine V_getI hC (f_s3_6) fw_X3_55 dX3_takesDigit_27 ?_
    refine V_iconst hC (1 : Int32) dX3_takesDigit_30 (by decide) ?_
    refine V_isub hC dX3_takesDigit_31 ?_
    obtain ⟨q2, e2, h⟩ := bind_some h
    refine V_cVr hC [.int (M.1 6 3 4), .int ((M.1 6 3 6) - (1 : Int32))] (c_X3_numberOf (l := l) hC.2.2.2.2.2.2.2 e2) kd_X3_numberOf kv_X3_numberOf gw_1215 (r_s3_0).o rfl ⟨Nat.le_of_ble_eq_true rfl, Nat.le_of_ble_eq_true rfl⟩ rfl (Nat.le_of_ble_eq_true rfl) dX3_takesDigit_32 ⟨Nat.zero_le _, Nat.zero_le _⟩ rfl ?_
    refine V_bipush hC (10 : Int32) dX3_takesDigit_35 (by decide) ?_
    refine V_imul hC dX3_takesDigit_37 ?_
    refine V_iload_n hC dX3_takesDigit_38 rfl 1 rfl ?_
    refine V_iadd hC dX3_takesDigit_39 ?_
    refine V_bipush hC (48 : Int32) dX3_takesDigit_40 (by decide) ?_
    refine V_isub hC dX3_takesDigit_42 ?_
    obtain ⟨q3, e3, h⟩ := bind_some h
    refine V_cVv hC [.int (M.1 6 3 4), .int ((M.1 6 3 6) - (1 : Int32)), .int (((q2 * (10 : Int32)) + x1) - (48 : Int32))] (c_X3_setNumber (l := l) hC.2.2.2.2.2.2.2 e3) kd_X3_setNumber kv_X3_setNumber gw_1207 (r_s3_0).o rfl ⟨Nat.le_of_ble_eq_true rfl, Nat.le_of_ble_eq_true rfl⟩ rfl (Nat.le_of_ble_eq_true rfl) dX3_takesDigit_43 ⟨Nat.zero_le _, Nat.zero_le _⟩ rfl ?_
    refine V_aload_n hC dX3_takesDigit_46 rfl 0 rfl ?_
    refine V_dup hC dX3_takesDigit_47 rfl ?_
    refine V_getI hC (f_s3_7) fw_X3_62 dX3_takesDigit_48 ?_
    refine V_iconst hC (1 : Int32) dX3_takesDigit_51 (by decide) ?_
    refine V_iadd hC dX3_takesDigit_52 ?_
    refine V_putI hC (f_s3_7) fw_X3_62 flp_3_7 dX3_takesDigit_53 ?_
    refine V_aload_n hC dX3_takesDigit_56 rfl 0 rfl ?_
    refine V_iconst hC (3 : Int32) dX3_takesDigit_57 (by decide) ?_
    refine V_putI hC (f_s3_5) fw_X3_32 flp_3_5 dX3_takesDigit_58 ?_
    refine V_iconst hC (1 : Int32) dX3_takesDigit_61 (by decide) ?_
    obtain ⟨rfl, rfl⟩ := Prod.mk.inj (Option.some.inj h)
    exact V_zret hC hr hlk (Or.inr rfl) dX3_takesDigit_62
  · have h := ite_f c1 h
    refine V_iconst hC (0 : Int32) dX3_takesDigit_8 (by decide) ?_
    obtain ⟨rfl, rfl⟩ := Prod.mk.inj (Option.some.inj h)
    exact V_zret hC hr hlk (Or.inl rfl) dX3_takesDigit_9
theorem c_X3_letterOf {l : Launch} {G : Geo} {x1 : Int32} {rv : Int32} {M : Mem} (hG : gD G) (h : f_X3_letterOf x1 M = some rv) : Met l yX3_letterOf (.code yX3_letterOf cX3_letterOf 2 (some .int) :: GL) (rmk 1) (gP G [.ref (adr G 6 3), .int x1] M) (gQ G (some (.int rv)) M) 0 0 (gA G) := by
  refine Met_of (own := RX3) (L := [(0, .ref (adr G 6 3)), (1, .int x1)]) hG (by decide +kernel) rfl (Nat.le_of_ble_eq_true rfl) rfl ?_
  intro p e s m args below meth c hC hr hlk
  refine V_iload_n hC dX3_letterOf_0 rfl 1 rfl ?_
  refine V_iconst hC (0 : Int32) dX3_letterOf_1 (by decide) ?_
  refine V_bipush hC (29 : Int32) dX3_letterOf_2 (by decide) ?_
  refine V_cSNr hC [.int x1, .int (0 : Int32), .int (29 : Int32)] (c_X8_isWithin (l := l) hC.2.2.2.2.2.2.2 rfl) kd_X8_isWithin gw_444 nw_46 ⟨Nat.le_of_ble_eq_true rfl, Nat.le_of_ble_eq_true rfl⟩ rfl (Nat.le_of_ble_eq_true rfl) dX3_letterOf_4 ⟨Nat.zero_le _, Nat.zero_le _⟩ rfl ?_
  refine V_if_eq hC 19 dX3_letterOf_7 (by decide) (fun c2 => ?_) (fun c2 => ?_)
  · have h := ite_t c2 h
    refine V_iconst hC (0 : Int32) dX3_letterOf_19 (by decide) ?_
    obtain rfl := Option.some.inj h
    exact V_iret hC hr hlk dX3_letterOf_20
  · have h := ite_f c2 h
    refine V_aload_n hC dX3_letterOf_10 rfl 0 rfl ?_
    refine V_getR hC (r_s3_2) fw_X3_15 dX3_letterOf_11 ?_
    refine V_iload_n hC dX3_letterOf_14 rfl 1 rfl ?_
    obtain ⟨c3, h⟩ := ite_some h
    refine V_iald hC (a_s5) c3 dX3_letterOf_15 ?_
    refine V_goto hC 20 dX3_letterOf_16 (by decide) ?_
    obtain rfl := Option.some.inj h
    exact V_iret hC hr hlk dX3_letterOf_20
theorem b_X3_takesInNumber_40 {rv : Int32} {Mf : Mem} {x1 : Int32} {z0 : Int32} {M : Mem} (hC : Cx p s m args c cX3_takesInNumber RX3 3 G) (hr : meth.sig.returnType = some .boolean) (hlk : meth.locks = false) (h : B_X3_takesInNumber_40 x1 z0 M = some (rv, Mf)) : V p l e (rmk 3) s m args below meth c 3 G 0 0 (MQ below (gQ G (some (.int rv)) Mf) args s 0 0 (gA G)) 40 [(0, .ref (adr G 6 3)), (1, .int x1)] [.int z0] M := by
  refine V_istore_n hC ([(2, .int z0), (0, .ref (adr G 6 3)), (1, .int x1)]) dX3_takesInNumber_40 rfl (by decide) rfl ?_
  refine V_iload_n hC dX3_takesInNumber_41 rfl 2 rfl ?_
  refine V_bipush hC (59 : Int32) dX3_takesInNumber_42 (by decide) ?_
  refine V_icmp_eq hC 65 dX3_takesInNumber_44 (by decide) (fun c6 => ?_) (fun c6 => ?_)
  · have h := ite_t c6 h
    refine V_iload_n hC dX3_takesInNumber_65 rfl 0 rfl ?_
    refine V_if_eq hC 84 dX3_takesInNumber_66 (by decide) (fun c7 => ?_) (fun c7 => ?_)
    · have h := ite_t c7 h
      refine V_iload_n hC dX3_takesInNumber_84 rfl 0 rfl ?_
      obtain ⟨c8, h⟩ := ite_some h
      obtain ⟨rfl, rfl⟩ := Prod.mk.inj (Option.some.inj h)
      exact V_zret hC hr hlk (of_isb c8) dX3_takesInNumber_85
    · have h := ite_f c7 h
      refine V_aload_n hC dX3_takesInNumber_69 rfl 1 rfl ?_
      refine V_dup hC dX3_takesInNumber_70 rfl ?_
      refine V_getI hC (f_s3_4) fw_X3_29 dX3_takesInNumber_71 ?_
      refine V_iconst hC (1 : Int32) dX3_takesInNumber_74 (by decide) ?_
      refine V_iadd hC dX3_takesInNumber_75 ?_
      refine V_putI hC (f_s3_4) fw_X3_29 flp_3_4 dX3_takesInNumber_76 ?_
      refine V_aload_n hC dX3_takesInNumber_79 rfl 1 rfl ?_
      refine V_iconst hC (0 : Int32) dX3_takesInNumber_80 (by decide) ?_
      refine V_putI hC (f_s3_5) fw_X3_32 flp_3_5 dX3_takesInNumber_81 ?_
      refine V_iload_n hC dX3_takesInNumber_84 rfl 0 rfl ?_
      obtain ⟨c9, h⟩ := ite_some h
      obtain ⟨rfl, rfl⟩ := Prod.mk.inj (Option.some.inj h)
      exact V_zret hC hr hlk (of_isb c9) dX3_takesInNumber_85
  · have h := ite_f c6 h
    refine V_iload_n hC dX3_takesInNumber_47 rfl 0 rfl ?_
    refine V_if_ne hC 63 dX3_takesInNumber_48 (by decide) (fun c10 => ?_) (fun c10 => ?_)
    · have h := ite_f c10 h
      refine V_iconst hC (0 : Int32) dX3_takesInNumber_63 (by decide) ?_
      obtain ⟨rfl, rfl⟩ := Prod.mk.inj (Option.some.inj h)
      exact V_zret hC hr hlk (Or.inl rfl) dX3_takesInNumber_64
    · have h := ite_t c10 h
      refine V_aload_n hC dX3_takesInNumber_51 rfl 1 rfl ?_
      refine V_iload_n hC dX3_takesInNumber_52 rfl 2 rfl ?_
      obtain ⟨q11, e11, h⟩ := bind_some h
      refine V_cVr hC [.int x1] (c_X3_takesSpace (l := l) (rv := q11.1) (Mf := q11.2) hC.2.2.2.2.2.2.2 e11) kd_X3_takesSpace kv_X3_takesSpace gw_1203 (r_s3_0).o rfl ⟨Nat.le_of_ble_eq_true rfl, Nat.le_of_ble_eq_true rfl⟩ rfl (Nat.le_of_ble_eq_true rfl) dX3_takesInNumber_53 ⟨Nat.zero_le _, Nat.zero_le _⟩ rfl ?_
      refine V_if_eq hC 63 dX3_takesInNumber_56 (by decide) (fun c12 => ?_) (fun c12 => ?_)
      · have h := ite_t c12 h
        refine V_iconst hC (0 : Int32) dX3_takesInNumber_63 (by decide) ?_
        obtain ⟨rfl, rfl⟩ := Prod.mk.inj (Option.some.inj h)
        exact V_zret hC hr hlk (Or.inl rfl) dX3_takesInNumber_64
      · have h := ite_f c12 h
        refine V_iconst hC (1 : Int32) dX3_takesInNumber_59 (by decide) ?_
        refine V_goto hC 64 dX3_takesInNumber_60 (by decide) ?_
        obtain ⟨rfl, rfl⟩ := Prod.mk.inj (Option.some.inj h)
        exact V_zret hC hr hlk (Or.inr rfl) dX3_takesInNumber_64
theorem c_X3_takesInNumber {l : Launch} {G : Geo} {x1 : Int32} {rv : Int32} {Mf : Mem} {M : Mem} (hG : gD G) (h : f_X3_takesInNumber x1 M = some (rv, Mf)) : Met l yX3_takesInNumber (.code yX3_takesInNumber cX3_takesInNumber 3 (some .boolean) :: GL) (rmk 3) (gP G [.ref (adr G 6 3), .int x1] M) (gQ G (some (.int rv)) Mf) 0 0 (gA G) := by
  refine Met_of (own := RX3) (L := [(0, .ref (adr G 6 3)), (1, .int x1)]) hG (by decide +kernel) rfl (Nat.le_of_ble_eq_true rfl) rfl ?_
  intro p e s m args below meth c hC hr hlk
  refine V_iload_n hC dX3_takesInNumber_0 rfl 1 rfl ?_
  refine V_bipush hC (48 : Int32) dX3_takesInNumber_1 (by decide) ?_
  refine V_bipush hC (57 : Int32) dX3_takesInNumber_3 (by decide) ?_
  refine V_cSNr hC [.int x1, .int (48 : Int32), .int (57 : Int32)] (c_X8_isWithin (l := l) hC.2.2.2.2.2.2.2 rfl) kd_X8_isWithin gw_444 nw_46 ⟨Nat.le_of_ble_eq_true rfl, Nat.le_of_ble_eq_true rfl⟩ rfl (Nat.le_of_ble_eq_true rfl) dX3_takesInNumber_5 ⟨Nat.zero_le _, Nat.zero_le _⟩ rfl ?_
  refine V_if_eq hC 17 dX3_takesInNumber_8 (by decide) (fun c2 => ?_) (fun c2 => ?_)
  · have h := ite_t c2 h
    refine V_aload_n hC dX3_takesInNumber_17 rfl 0 rfl ?_
    refine V_getI hC (f_s3_6) fw_X3_55 dX3_takesInNumber_18 ?_
    refine V_aload_n hC dX3_takesInNumber_21 rfl 0 rfl ?_
    refine V_aload_n hC dX3_takesInNumber_22 rfl 0 rfl ?_
    refine V_getI hC (f_s3_4) fw_X3_29 dX3_takesInNumber_23 ?_
    obtain ⟨q3, e3, h⟩ := bind_some h
    refine V_cVr hC [.int (M.1 6 3 4)] (c_X3_letterOf (l := l) hC.2.2.2.2.2.2.2 e3) kd_X3_letterOf kv_X3_letterOf gw_1223 (r_s3_0).o rfl ⟨Nat.le_of_ble_eq_true rfl, Nat.le_of_ble_eq_true rfl⟩ rfl (Nat.le_of_ble_eq_true rfl) dX3_takesInNumber_26 ⟨Nat.zero_le _, Nat.zero_le _⟩ rfl ?_
    refine V_cSr hC [.int q3] (c_X3_numbersAfter (l := l) hC.2.2.2.2.2.2.2 rfl) kd_X3_numbersAfter gw_1201 gw_1200 ⟨Nat.le_of_ble_eq_true rfl, Nat.le_of_ble_eq_true rfl⟩ rfl (Nat.le_of_ble_eq_true rfl) dX3_takesInNumber_29 ⟨Nat.zero_le _, Nat.zero_le _⟩ rfl ?_
    refine V_icmp_ne hC 39 dX3_takesInNumber_32 (by decide) (fun c5 => ?_) (fun c5 => ?_)
    · have h := ite_f c5 h
      refine V_iconst hC (0 : Int32) dX3_takesInNumber_39 (by decide) ?_
      exact b_X3_takesInNumber_40 hC hr hlk h
    · have h := ite_t c5 h
      refine V_iconst hC (1 : Int32) dX3_takesInNumber_35 (by decide) ?_
      refine V_goto hC 40 dX3_takesInNumber_36 (by decide) ?_
      exact b_X3_takesInNumber_40 hC hr hlk h
  · have h := ite_f c2 h
    refine V_aload_n hC dX3_takesInNumber_11 rfl 0 rfl ?_
    refine V_iload_n hC dX3_takesInNumber_12 rfl 1 rfl ?_
    obtain ⟨q13, e13, h⟩ := bind_some h
    refine V_cVr hC [.int x1] (c_X3_takesDigit (l := l) (rv := q13.1) (Mf := q13.2) hC.2.2.2.2.2.2.2 e13) kd_X3_takesDigit kv_X3_takesDigit gw_1211 (r_s3_0).o rfl ⟨Nat.le_of_ble_eq_true rfl, Nat.le_of_ble_eq_true rfl⟩ rfl (Nat.le_of_ble_eq_true rfl) dX3_takesInNumber_13 ⟨Nat.zero_le _, Nat.zero_le _⟩ rfl ?_
    obtain ⟨c14, h⟩ := ite_some h
    obtain ⟨rfl, rfl⟩ := Prod.mk.inj (Option.some.inj h)
    exact V_zret hC hr hlk (of_isb c14) dX3_takesInNumber_16
theorem c_X3_takes {l : Launch} {G : Geo} {x1 : Int32} {rv : Int32} {Mf : Mem} {M : Mem} (hG : gD G) (h : f_X3_takes x1 M = some (rv, Mf)) : Met l yX3_takes (.code yX3_takes cX3_takes 2 (some .boolean) :: GL) (rmk 4) (gP G [.ref (adr G 6 3), .int x1] M) (gQ G (some (.int rv)) Mf) 0 0 (gA G) := by
  refine Met_of (own := RX3) (L := [(0, .ref (adr G 6 3)), (1, .int x1)]) hG (by decide +kernel) rfl (Nat.le_of_ble_eq_true rfl) rfl ?_
  intro p e s m args below meth c hC hr hlk
  refine V_aload_n hC dX3_takes_0 rfl 0 rfl ?_
  refine V_getI hC (f_s3_5) fw_X3_32 dX3_takes_1 ?_
  by_cases c1 : (M.1 6 3 5) = (0 : Int32)
  · have h := ite_t c1 h
    refine V_tableIn hC 0 32 dX3_takes_4 (by rw [c1]; decide) (by decide) rfl (by decide) ?_
    refine V_aload_n hC dX3_takes_32 rfl 0 rfl ?_
    refine V_iload_n hC dX3_takes_33 rfl 1 rfl ?_
    obtain ⟨q2, e2, h⟩ := bind_some h
    refine V_cVr hC [.int x1] (c_X3_takesLetter (l := l) (rv := q2.1) (Mf := q2.2) hC.2.2.2.2.2.2.2 e2) kd_X3_takesLetter kv_X3_takesLetter gw_1196 (r_s3_0).o rfl ⟨Nat.le_of_ble_eq_true rfl, Nat.le_of_ble_eq_true rfl⟩ rfl (Nat.le_of_ble_eq_true rfl) dX3_takes_34 ⟨Nat.zero_le _, Nat.zero_le _⟩ rfl ?_
    obtain ⟨c3, h⟩ := ite_some h
    obtain ⟨rfl, rfl⟩ := Prod.mk.inj (Option.some.inj h)
    exact V_zret hC hr hlk (of_isb c3) dX3_takes_37
  have h := ite_f c1 h
  by_cases c4 : (M.1 6 3 5) = (1 : Int32)
  · have h := ite_t c4 h
    refine V_tableIn hC 1 38 dX3_takes_4 (by rw [c4]; decide) (by decide) rfl (by decide) ?_
    refine V_aload_n hC dX3_takes_38 rfl 0 rfl ?_
    refine V_iload_n hC dX3_takes_39 rfl 1 rfl ?_
    obtain ⟨q5, e5, h⟩ := bind_some h
    refine V_cVr hC [.int x1] (c_X3_takesSpace (l := l) (rv := q5.1) (Mf := q5.2) hC.2.2.2.2.2.2.2 e5) kd_X3_takesSpace kv_X3_takesSpace gw_1203 (r_s3_0).o rfl ⟨Nat.le_of_ble_eq_true rfl, Nat.le_of_ble_eq_true rfl⟩ rfl (Nat.le_of_ble_eq_true rfl) dX3_takes_40 ⟨Nat.zero_le _, Nat.zero_le _⟩ rfl ?_
    obtain ⟨c6, h⟩ := ite_some h
    obtain ⟨rfl, rfl⟩ := Prod.mk.inj (Option.some.inj h)
    exact V_zret hC hr hlk (of_isb c6) dX3_takes_43
  have h := ite_f c4 h
  by_cases c7 : (M.1 6 3 5) = (2 : Int32)
  · have h := ite_t c7 h
    refine V_tableIn hC 2 44 dX3_takes_4 (by rw [c7]; decide) (by decide) rfl (by decide) ?_
    refine V_iload_n hC dX3_takes_44 rfl 1 rfl ?_
    refine V_bipush hC (48 : Int32) dX3_takes_45 (by decide) ?_
    refine V_bipush hC (57 : Int32) dX3_takes_47 (by decide) ?_
    refine V_cSNr hC [.int x1, .int (48 : Int32), .int (57 : Int32)] (c_X8_isWithin (l := l) hC.2.2.2.2.2.2.2 rfl) kd_X8_isWithin gw_444 nw_46 ⟨Nat.le_of_ble_eq_true rfl, Nat.le_of_ble_eq_true rfl⟩ rfl (Nat.le_of_ble_eq_true rfl) dX3_takes_49 ⟨Nat.zero_le _, Nat.zero_le _⟩ rfl ?_
    refine V_if_eq hC 67 dX3_takes_52 (by decide) (fun c9 => ?_) (fun c9 => ?_)
    · have h := ite_t c9 h
      refine V_iconst hC (0 : Int32) dX3_takes_67 (by decide) ?_
      obtain ⟨rfl, rfl⟩ := Prod.mk.inj (Option.some.inj h)
      exact V_zret hC hr hlk (Or.inl rfl) dX3_takes_68
    · have h := ite_f c9 h
      refine V_aload_n hC dX3_takes_55 rfl 0 rfl ?_
      refine V_iload_n hC dX3_takes_56 rfl 1 rfl ?_
      obtain ⟨q10, e10, h⟩ := bind_some h
      refine V_cVr hC [.int x1] (c_X3_takesDigit (l := l) (rv := q10.1) (Mf := q10.2) hC.2.2.2.2.2.2.2 e10) kd_X3_takesDigit kv_X3_takesDigit gw_1211 (r_s3_0).o rfl ⟨Nat.le_of_ble_eq_true rfl, Nat.le_of_ble_eq_true rfl⟩ rfl (Nat.le_of_ble_eq_true rfl) dX3_takes_57 ⟨Nat.zero_le _, Nat.zero_le _⟩ rfl ?_
      refine V_if_eq hC 67 dX3_takes_60 (by decide) (fun c11 => ?_) (fun c11 => ?_)
      · have h := ite_t c11 h
        refine V_iconst hC (0 : Int32) dX3_takes_67 (by decide) ?_
        obtain ⟨rfl, rfl⟩ := Prod.mk.inj (Option.some.inj h)
        exact V_zret hC hr hlk (Or.inl rfl) dX3_takes_68
      · have h := ite_f c11 h
        refine V_iconst hC (1 : Int32) dX3_takes_63 (by decide) ?_
        refine V_goto hC 68 dX3_takes_64 (by decide) ?_
        obtain ⟨rfl, rfl⟩ := Prod.mk.inj (Option.some.inj h)
        exact V_zret hC hr hlk (Or.inr rfl) dX3_takes_68
  have h := ite_f c7 h
  refine V_tableOut hC 69 dX3_takes_4 (tsw_out (0) 3 (M.1 6 3 5) (tsw_cons c1 (by decide) (tsw_cons c4 (by decide) (tsw_cons c7 (by decide) (tsw_nil)))) rfl) (by decide) ?_
  refine V_aload_n hC dX3_takes_69 rfl 0 rfl ?_
  refine V_iload_n hC dX3_takes_70 rfl 1 rfl ?_
  obtain ⟨q12, e12, h⟩ := bind_some h
  refine V_cVr hC [.int x1] (c_X3_takesInNumber (l := l) (rv := q12.1) (Mf := q12.2) hC.2.2.2.2.2.2.2 e12) kd_X3_takesInNumber kv_X3_takesInNumber gw_1219 (r_s3_0).o rfl ⟨Nat.le_of_ble_eq_true rfl, Nat.le_of_ble_eq_true rfl⟩ rfl (Nat.le_of_ble_eq_true rfl) dX3_takes_71 ⟨Nat.zero_le _, Nat.zero_le _⟩ rfl ?_
  obtain ⟨c13, h⟩ := ite_some h
  obtain ⟨rfl, rfl⟩ := Prod.mk.inj (Option.some.inj h)
  exact V_zret hC hr hlk (of_isb c13) dX3_takes_74
theorem b_X3_parse_47 {rv : Int32} {Mf : Mem} {M : Mem} (hC : Cx p s m args c cX3_parse RX3 2 G) (hr : meth.sig.returnType = some .int) (hlk : meth.locks = false) (h : B_X3_parse_47 M = some (rv, Mf)) : V p l e (rmk 5) s m args below meth c 2 G 0 0 (MQ below (gQ G (some (.int rv)) Mf) args s 0 0 (gA G)) 47 [(0, .ref (adr G 6 3))] [] M := by
  refine V_aload_n hC dX3_parse_47 rfl 0 rfl ?_
  refine V_getI hC (f_s3_5) fw_X3_32 dX3_parse_48 ?_
  refine V_if_ne hC 58 dX3_parse_51 (by decide) (fun c2 => ?_) (fun c2 => ?_)
  · have h := ite_f c2 h
    refine V_aload_n hC dX3_parse_58 rfl 0 rfl ?_
    refine V_getI hC (f_s3_1) fw_X3_21 dX3_parse_59 ?_
    obtain ⟨rfl, rfl⟩ := Prod.mk.inj (Option.some.inj h)
    exact V_iret hC hr hlk dX3_parse_62
  · have h := ite_t c2 h
    refine V_iconst hC ((-1) : Int32) dX3_parse_54 (by decide) ?_
    refine V_goto hC 62 dX3_parse_55 (by decide) ?_
    obtain ⟨rfl, rfl⟩ := Prod.mk.inj (Option.some.inj h)
    exact V_iret hC hr hlk dX3_parse_62
theorem l_X3_parse_12 {rv : Int32} {Mf : Mem} (hC : Cx p s m args c cX3_parse RX3 2 G) (hr : meth.sig.returnType = some .int) (hlk : meth.locks = false) : ∀ (n : Nat) {x1 : Int32} {M : Mem} (h : L_X3_parse_12 n x1 M = some (rv, Mf)), V p l e (rmk 5) s m args below meth c 2 G 0 0 (MQ below (gQ G (some (.int rv)) Mf) args s 0 0 (gA G)) 12 [(0, .ref (adr G 6 3)), (1, .int x1)] [] M := by
  intro n
  induction n with
  | zero => intro x1 M h; cases h
  | succ n ih =>
    intro x1 M h
    have hk12 : ∀ (x1 : Int32) (M : Mem), L_X3_parse_12 n x1 M = some (rv, Mf) → V p l e (rmk 5) s m args below meth c 2 G 0 0 (MQ below (gQ G (some (.int rv)) Mf) args s 0 0 (gA G)) 12 [(0, .ref (adr G 6 3)), (1, .int x1)] [] M := fun _ _ z => ih z
    refine V_iload_n hC dX3_parse_12 rfl 1 rfl ?_
    refine V_aload_n hC dX3_parse_13 rfl 0 rfl ?_
    refine V_getI hC (f_s3_1) fw_X3_21 dX3_parse_14 ?_
    refine V_icmp_ge hC 47 dX3_parse_17 (by decide) (fun c1 => ?_) (fun c1 => ?_)
    · have h := ite_t c1 h
      refine V_sub [0] rfl ?_
      exact b_X3_parse_47 hC hr hlk h
    · have h := ite_f c1 h
      refine V_iload_n hC dX3_parse_20 rfl 1 rfl ?_
      refine V_bipush hC (120 : Int32) dX3_parse_21 (by decide) ?_
      refine V_icmp_ge hC 47 dX3_parse_23 (by decide) (fun c3 => ?_) (fun c3 => ?_)
      · have h := ite_t c3 h
        refine V_sub [0] rfl ?_
        exact b_X3_parse_47 hC hr hlk h
      · have h := ite_f c3 h
        refine V_aload_n hC dX3_parse_26 rfl 0 rfl ?_
        refine V_aload_n hC dX3_parse_27 rfl 0 rfl ?_
        refine V_getR hC (r_s3_0) fw_X3_9 dX3_parse_28 ?_
        refine V_iload_n hC dX3_parse_31 rfl 1 rfl ?_
        obtain ⟨c4, h⟩ := ite_some h
        refine V_iald hC (a_s4) c4 dX3_parse_32 ?_
        obtain ⟨q5, e5, h⟩ := bind_some h
        refine V_cVr hC [.int (M.1 6 4 (cl x1))] (c_X3_takes (l := l) (rv := q5.1) (Mf := q5.2) hC.2.2.2.2.2.2.2 e5) kd_X3_takes kv_X3_takes gw_1192 (r_s3_0).o rfl ⟨Nat.le_of_ble_eq_true rfl, Nat.le_of_ble_eq_true rfl⟩ rfl (Nat.le_of_ble_eq_true rfl) dX3_parse_33 ⟨Nat.zero_le _, Nat.zero_le _⟩ rfl ?_
        refine V_if_ne hC 41 dX3_parse_36 (by decide) (fun c6 => ?_) (fun c6 => ?_)
        · have h := ite_f c6 h
          refine V_iinc hC (x1 + 1) ([(1, .int (x1 + 1)), (0, .ref (adr G 6 3))]) dX3_parse_41 1 rfl rfl (by decide) rfl ?_
          refine V_goto hC 12 dX3_parse_44 (by decide) ?_
          refine V_sub [1, 0] rfl ?_
          exact hk12 _ _ h
        · have h := ite_t c6 h
          refine V_iload_n hC dX3_parse_39 rfl 1 rfl ?_
          obtain ⟨rfl, rfl⟩ := Prod.mk.inj (Option.some.inj h)
          exact V_iret hC hr hlk dX3_parse_40
theorem c_X3_parse {l : Launch} {G : Geo} {rv : Int32} {Mf : Mem} {M : Mem} (hG : gD G) (h : f_X3_parse M = some (rv, Mf)) : Met l yX3_parse (.code yX3_parse cX3_parse 2 (some .int) :: GL) (rmk 5) (gP G [.ref (adr G 6 3)] M) (gQ G (some (.int rv)) Mf) 0 0 (gA G) := by
  refine Met_of (own := RX3) (L := [(0, .ref (adr G 6 3))]) hG (by decide +kernel) rfl (Nat.le_of_ble_eq_true rfl) rfl ?_
  intro p e s m args below meth c hC hr hlk
  refine V_aload_n hC dX3_parse_0 rfl 0 rfl ?_
  refine V_iconst hC (0 : Int32) dX3_parse_1 (by decide) ?_
  refine V_putI hC (f_s3_4) fw_X3_29 flp_3_4 dX3_parse_2 ?_
  refine V_aload_n hC dX3_parse_5 rfl 0 rfl ?_
  refine V_iconst hC (0 : Int32) dX3_parse_6 (by decide) ?_
  refine V_putI hC (f_s3_5) fw_X3_32 flp_3_5 dX3_parse_7 ?_
  refine V_iconst hC (0 : Int32) dX3_parse_10 (by decide) ?_
  refine V_istore_n hC ([(1, .int (0 : Int32)), (0, .ref (adr G 6 3))]) dX3_parse_11 rfl (by decide) rfl ?_
  refine V_sub [1, 0] rfl ?_
  exact l_X3_parse_12 hC hr hlk FU h
theorem b_X4_byteAt_26 {rv : Int32} {x1 : Int32} {z0 : Int32} {M : Mem} (hC : Cx p s m args c cX4_byteAt RX4 3 G) (hr : meth.sig.returnType = some .int) (hlk : meth.locks = false) (h : B_X4_byteAt_26 x1 z0 M = some rv) : V p l e (rmk 1) s m args below meth c 3 G 0 0 (MQ below (gQ G (some (.int rv)) M) args s 0 0 (gA G)) 26 [(0, .ref (adr G 6 7)), (1, .int x1)] [.int z0] M := by
  refine V_istore_n hC ([(2, .int z0), (0, .ref (adr G 6 7)), (1, .int x1)]) dX4_byteAt_26 rfl (by decide) rfl ?_
  refine V_iload_n hC dX4_byteAt_27 rfl 0 rfl ?_
  refine V_if_eq hC 40 dX4_byteAt_28 (by decide) (fun c3 => ?_) (fun c3 => ?_)
  · have h := ite_t c3 h
    refine V_iconst hC ((-1) : Int32) dX4_byteAt_40 (by decide) ?_
    obtain rfl := Option.some.inj h
    exact V_iret hC hr hlk dX4_byteAt_41
  · have h := ite_f c3 h
    refine V_aload_n hC dX4_byteAt_31 rfl 1 rfl ?_
    refine V_getR hC (r_s7_0) fw_X4_9 dX4_byteAt_32 ?_
    refine V_iload_n hC dX4_byteAt_35 rfl 2 rfl ?_
    obtain ⟨c4, h⟩ := ite_some h
    refine V_iald hC (a_s8) c4 dX4_byteAt_36 ?_
    refine V_goto hC 41 dX4_byteAt_37 (by decide) ?_
    obtain rfl := Option.some.inj h
    exact V_iret hC hr hlk dX4_byteAt_41
theorem b_X4_byteAt_25 {rv : Int32} {x1 : Int32} {M : Mem} (hC : Cx p s m args c cX4_byteAt RX4 3 G) (hr : meth.sig.returnType = some .int) (hlk : meth.locks = false) (h : B_X4_byteAt_25 x1 M = some rv) : V p l e (rmk 1) s m args below meth c 3 G 0 0 (MQ below (gQ G (some (.int rv)) M) args s 0 0 (gA G)) 25 [(0, .ref (adr G 6 7)), (1, .int x1)] [] M := by
  refine V_iconst hC (0 : Int32) dX4_byteAt_25 (by decide) ?_
  exact b_X4_byteAt_26 hC hr hlk h
theorem c_X4_byteAt {l : Launch} {G : Geo} {x1 : Int32} {rv : Int32} {M : Mem} (hG : gD G) (h : f_X4_byteAt x1 M = some rv) : Met l yX4_byteAt (.code yX4_byteAt cX4_byteAt 3 (some .int) :: GL) (rmk 1) (gP G [.ref (adr G 6 7), .int x1] M) (gQ G (some (.int rv)) M) 0 0 (gA G) := by
  refine Met_of (own := RX4) (L := [(0, .ref (adr G 6 7)), (1, .int x1)]) hG (by decide +kernel) rfl (Nat.le_of_ble_eq_true rfl) rfl ?_
  intro p e s m args below meth c hC hr hlk
  refine V_iload_n hC dX4_byteAt_0 rfl 1 rfl ?_
  refine V_iconst hC (0 : Int32) dX4_byteAt_1 (by decide) ?_
  refine V_aload_n hC dX4_byteAt_2 rfl 0 rfl ?_
  refine V_getI hC (f_s7_1) fw_X4_15 dX4_byteAt_3 ?_
  refine V_iconst hC (1 : Int32) dX4_byteAt_6 (by decide) ?_
  refine V_isub hC dX4_byteAt_7 ?_
  refine V_cSNr hC [.int x1, .int (0 : Int32), .int ((M.1 6 7 1) - (1 : Int32))] (c_X8_isWithin (l := l) hC.2.2.2.2.2.2.2 rfl) kd_X8_isWithin gw_444 nw_45 ⟨Nat.le_of_ble_eq_true rfl, Nat.le_of_ble_eq_true rfl⟩ rfl (Nat.le_of_ble_eq_true rfl) dX4_byteAt_8 ⟨Nat.zero_le _, Nat.zero_le _⟩ rfl ?_
  refine V_if_eq hC 25 dX4_byteAt_11 (by decide) (fun c2 => ?_) (fun c2 => ?_)
  · have h := ite_t c2 h
    exact b_X4_byteAt_25 hC hr hlk h
  · have h := ite_f c2 h
    refine V_iload_n hC dX4_byteAt_14 rfl 1 rfl ?_
    refine V_sipush hC (128 : Int32) dX4_byteAt_15 (by decide) ?_
    refine V_icmp_ge hC 25 dX4_byteAt_18 (by decide) (fun c5 => ?_) (fun c5 => ?_)
    · have h := ite_t c5 h
      exact b_X4_byteAt_25 hC hr hlk h
    · have h := ite_f c5 h
      refine V_iconst hC (1 : Int32) dX4_byteAt_21 (by decide) ?_
      refine V_goto hC 26 dX4_byteAt_22 (by decide) ?_
      exact b_X4_byteAt_26 hC hr hlk h
theorem c_X4_put {l : Launch} {G : Geo} {x1 : Int32} {Mf : Mem} {M : Mem} (hG : gD G) (h : f_X4_put x1 M = some Mf) : Met l yX4_put (.code yX4_put cX4_put 2 none :: GL) (rmk 1) (gP G [.ref (adr G 6 7), .int x1] M) (gQ G none Mf) 0 0 (gA G) := by
  refine Met_of (own := RX4) (L := [(0, .ref (adr G 6 7)), (1, .int x1)]) hG (by decide +kernel) rfl (Nat.le_of_ble_eq_true rfl) rfl ?_
  intro p e s m args below meth c hC hr hlk
  refine V_aload_n hC dX4_put_0 rfl 0 rfl ?_
  refine V_getI hC (f_s7_1) fw_X4_15 dX4_put_1 ?_
  refine V_iconst hC (0 : Int32) dX4_put_4 (by decide) ?_
  refine V_bipush hC (127 : Int32) dX4_put_5 (by decide) ?_
  refine V_cSNr hC [.int (M.1 6 7 1), .int (0 : Int32), .int (127 : Int32)] (c_X8_isWithin (l := l) hC.2.2.2.2.2.2.2 rfl) kd_X8_isWithin gw_444 nw_45 ⟨Nat.le_of_ble_eq_true rfl, Nat.le_of_ble_eq_true rfl⟩ rfl (Nat.le_of_ble_eq_true rfl) dX4_put_7 ⟨Nat.zero_le _, Nat.zero_le _⟩ rfl ?_
  refine V_if_eq hC 33 dX4_put_10 (by decide) (fun c2 => ?_) (fun c2 => ?_)
  · have h := ite_t c2 h
    obtain rfl := Option.some.inj h
    exact V_vret hC hr hlk dX4_put_33
  · have h := ite_f c2 h
    refine V_aload_n hC dX4_put_13 rfl 0 rfl ?_
    refine V_getR hC (r_s7_0) fw_X4_9 dX4_put_14 ?_
    refine V_aload_n hC dX4_put_17 rfl 0 rfl ?_
    refine V_getI hC (f_s7_1) fw_X4_15 dX4_put_18 ?_
    refine V_iload_n hC dX4_put_21 rfl 1 rfl ?_
    obtain ⟨c3, h⟩ := ite_some h
    refine V_iast hC (a_s8) c3 dX4_put_22 ?_
    refine V_aload_n hC dX4_put_23 rfl 0 rfl ?_
    refine V_dup hC dX4_put_24 rfl ?_
    refine V_getI hC (f_s7_1) fw_X4_15 dX4_put_25 ?_
    refine V_iconst hC (1 : Int32) dX4_put_28 (by decide) ?_
    refine V_iadd hC dX4_put_29 ?_
    refine V_putI hC (f_s7_1) fw_X4_15 flp_4_1 dX4_put_30 ?_
    obtain rfl := Option.some.inj h
    exact V_vret hC hr hlk dX4_put_33
theorem b_X4_putNumber_17 {Mf : Mem} {x1 : Int32} {M : Mem} (hC : Cx p s m args c cX4_putNumber RX4 2 G) (hr : meth.sig.returnType = none) (hlk : meth.locks = false) (h : B_X4_putNumber_17 x1 M = some Mf) : V p l e (rmk 2) s m args below meth c 2 G 0 0 (MQ below (gQ G none Mf) args s 0 0 (gA G)) 17 [(0, .ref (adr G 6 7)), (1, .int x1)] [] M := by
  refine V_aload_n hC dX4_putNumber_17 rfl 0 rfl ?_
  refine V_bipush hC (48 : Int32) dX4_putNumber_18 (by decide) ?_
  refine V_iload_n hC dX4_putNumber_20 rfl 1 rfl ?_
  refine V_bipush hC (10 : Int32) dX4_putNumber_21 (by decide) ?_
  refine V_irem hC dX4_putNumber_23 (by decide) ?_
  refine V_iadd hC dX4_putNumber_24 ?_
  obtain ⟨q2, e2, h⟩ := bind_some h
  refine V_cVv hC [.int ((48 : Int32) + (ireM x1 (10 : Int32)))] (c_X4_put (l := l) hC.2.2.2.2.2.2.2 e2) kd_X4_put kv_X4_put gw_924 (r_s7_0).o rfl ⟨Nat.le_of_ble_eq_true rfl, Nat.le_of_ble_eq_true rfl⟩ rfl (Nat.le_of_ble_eq_true rfl) dX4_putNumber_25 ⟨Nat.zero_le _, Nat.zero_le _⟩ rfl ?_
  obtain rfl := Option.some.inj h
  exact V_vret hC hr hlk dX4_putNumber_28
theorem c_X4_putNumber {l : Launch} {G : Geo} {x1 : Int32} {Mf : Mem} {M : Mem} (hG : gD G) (h : f_X4_putNumber x1 M = some Mf) : Met l yX4_putNumber (.code yX4_putNumber cX4_putNumber 2 none :: GL) (rmk 2) (gP G [.ref (adr G 6 7), .int x1] M) (gQ G none Mf) 0 0 (gA G) := by
  refine Met_of (own := RX4) (L := [(0, .ref (adr G 6 7)), (1, .int x1)]) hG (by decide +kernel) rfl (Nat.le_of_ble_eq_true rfl) rfl ?_
  intro p e s m args below meth c hC hr hlk
  refine V_iload_n hC dX4_putNumber_0 rfl 1 rfl ?_
  refine V_bipush hC (10 : Int32) dX4_putNumber_1 (by decide) ?_
  refine V_icmp_lt hC 17 dX4_putNumber_3 (by decide) (fun c1 => ?_) (fun c1 => ?_)
  · have h := ite_t c1 h
    exact b_X4_putNumber_17 hC hr hlk h
  · have h := ite_f c1 h
    refine V_aload_n hC dX4_putNumber_6 rfl 0 rfl ?_
    refine V_bipush hC (48 : Int32) dX4_putNumber_7 (by decide) ?_
    refine V_iload_n hC dX4_putNumber_9 rfl 1 rfl ?_
    refine V_bipush hC (10 : Int32) dX4_putNumber_10 (by decide) ?_
    refine V_idiv hC dX4_putNumber_12 (by decide) ?_
    refine V_iadd hC dX4_putNumber_13 ?_
    obtain ⟨q3, e3, h⟩ := bind_some h
    refine V_cVv hC [.int ((48 : Int32) + (x1 / (10 : Int32)))] (c_X4_put (l := l) hC.2.2.2.2.2.2.2 e3) kd_X4_put kv_X4_put gw_924 (r_s7_0).o rfl ⟨Nat.le_of_ble_eq_true rfl, Nat.le_of_ble_eq_true rfl⟩ rfl (Nat.le_of_ble_eq_true rfl) dX4_putNumber_14 ⟨Nat.zero_le _, Nat.zero_le _⟩ rfl ?_
    exact b_X4_putNumber_17 hC hr hlk h
theorem l_X6_dropOldest_9 {Mf : Mem} {y1 : Nat} (hC : Cx p s m args c cX6_dropOldest RX6 3 G) (hr : meth.sig.returnType = none) (hlk : meth.locks = false) (hy1 : y1 < 6) : ∀ (n : Nat) {x2 : Int32} {M : Mem} (h : L_X6_dropOldest_9 y1 n x2 M = some Mf), V p l e (rmk 0) s m args below meth c 3 G 0 0 (MQ below (gQ G none Mf) args s 0 0 (gA G)) 9 [(0, .ref (adr G 6 1)), (1, .ref (adr G y1 0)), (2, .int x2)] [] M := by
  intro n
  induction n with
  | zero => intro x2 M h; cases h
  | succ n ih =>
    intro x2 M h
    have hk9 : ∀ (x2 : Int32) (M : Mem), L_X6_dropOldest_9 y1 n x2 M = some Mf → V p l e (rmk 0) s m args below meth c 3 G 0 0 (MQ below (gQ G none Mf) args s 0 0 (gA G)) 9 [(0, .ref (adr G 6 1)), (1, .ref (adr G y1 0)), (2, .int x2)] [] M := fun _ _ z => ih z
    refine V_iload_n hC dX6_dropOldest_9 rfl 2 rfl ?_
    refine V_iconst hC (4 : Int32) dX6_dropOldest_10 (by decide) ?_
    refine V_icmp_ge hC 34 dX6_dropOldest_11 (by decide) (fun c3 => ?_) (fun c3 => ?_)
    · have h := ite_t c3 h
      refine V_aload_n hC dX6_dropOldest_34 rfl 0 rfl ?_
      refine V_getR hC (r_s1_0) fw_X6_11 dX6_dropOldest_35 ?_
      refine V_iconst hC (3 : Int32) dX6_dropOldest_38 (by decide) ?_
      refine V_aload_n hC dX6_dropOldest_39 rfl 1 rfl ?_
      obtain ⟨c4, h⟩ := ite_some h
      refine V_dast hC hy1 c4 dX6_dropOldest_40 ?_
      refine V_aload_n hC dX6_dropOldest_41 rfl 0 rfl ?_
      refine V_iconst hC (3 : Int32) dX6_dropOldest_42 (by decide) ?_
      refine V_putI hC (f_s1_1) fw_X6_18 flp_6_1 dX6_dropOldest_43 ?_
      obtain rfl := Option.some.inj h
      exact V_vret hC hr hlk dX6_dropOldest_46
    · have h := ite_f c3 h
      refine V_aload_n hC dX6_dropOldest_14 rfl 0 rfl ?_
      refine V_getR hC (r_s1_0) fw_X6_11 dX6_dropOldest_15 ?_
      refine V_iload_n hC dX6_dropOldest_18 rfl 2 rfl ?_
      refine V_iconst hC (1 : Int32) dX6_dropOldest_19 (by decide) ?_
      refine V_isub hC dX6_dropOldest_20 ?_
      refine V_aload_n hC dX6_dropOldest_21 rfl 0 rfl ?_
      refine V_getR hC (r_s1_0) fw_X6_11 dX6_dropOldest_22 ?_
      refine V_iload_n hC dX6_dropOldest_25 rfl 2 rfl ?_
      obtain ⟨c5, h⟩ := ite_some h
      refine V_dald hC c5 dX6_dropOldest_26 ?_
      obtain ⟨c6, h⟩ := ite_some h
      obtain ⟨c7, h⟩ := ite_some h
      refine V_dast hC (of_gok c6) c7 dX6_dropOldest_27 ?_
      refine V_iinc hC (x2 + 1) ([(2, .int (x2 + 1)), (0, .ref (adr G 6 1)), (1, .ref (adr G y1 0))]) dX6_dropOldest_28 2 rfl rfl (by decide) rfl ?_
      refine V_goto hC 9 dX6_dropOldest_31 (by decide) ?_
      refine V_sub [1, 2, 0] rfl ?_
      exact hk9 _ _ h
theorem c_X6_dropOldest {l : Launch} {G : Geo} {Mf : Mem} {M : Mem} (hG : gD G) (h : f_X6_dropOldest M = some Mf) : Met l yX6_dropOldest (.code yX6_dropOldest cX6_dropOldest 3 none :: GL) (rmk 0) (gP G [.ref (adr G 6 1)] M) (gQ G none Mf) 0 0 (gA G) := by
  refine Met_of (own := RX6) (L := [(0, .ref (adr G 6 1))]) hG (by decide +kernel) rfl (Nat.le_of_ble_eq_true rfl) rfl ?_
  intro p e s m args below meth c hC hr hlk
  refine V_aload_n hC dX6_dropOldest_0 rfl 0 rfl ?_
  refine V_getR hC (r_s1_0) fw_X6_11 dX6_dropOldest_1 ?_
  refine V_iconst hC (0 : Int32) dX6_dropOldest_4 (by decide) ?_
  obtain ⟨c1, h⟩ := ite_some h
  refine V_dald hC c1 dX6_dropOldest_5 ?_
  obtain ⟨c2, h⟩ := ite_some h
  refine V_astore_n hC ([(1, .ref (adr G (cl (M.1 6 2 (cl (0 : Int32)))) 0)), (0, .ref (adr G 6 1))]) dX6_dropOldest_6 rfl (by decide) rfl ?_
  refine V_iconst hC (1 : Int32) dX6_dropOldest_7 (by decide) ?_
  refine V_istore_n hC ([(2, .int (1 : Int32)), (1, .ref (adr G (cl (M.1 6 2 (cl (0 : Int32)))) 0)), (0, .ref (adr G 6 1))]) dX6_dropOldest_8 rfl (by decide) rfl ?_
  refine V_sub [2, 1, 0] rfl ?_
  exact l_X6_dropOldest_9 hC hr hlk (of_gok c2) FU h
theorem b_X6_push_12 {g2 : Nat} {Mf : Mem} {M : Mem} (hC : Cx p s m args c cX6_push RX6 2 G) (hr : meth.sig.returnType = none) (hlk : meth.locks = false) (hg2 : g2 < 6) (h : B_X6_push_12 g2 M = some Mf) : V p l e (rmk 5) s m args below meth c 2 G 0 0 (MQ below (gQ G none Mf) args s 0 0 (gA G)) 12 [(0, .ref (adr G 6 1)), (1, .ref (adr G g2 0))] [] M := by
  refine V_aload_n hC dX6_push_12 rfl 0 rfl ?_
  refine V_getI hC (f_s1_1) fw_X6_18 dX6_push_13 ?_
  refine V_if_lt hC 39 dX6_push_16 (by decide) (fun c2 => ?_) (fun c2 => ?_)
  · have h := ite_t c2 h
    obtain rfl := Option.some.inj h
    exact V_vret hC hr hlk dX6_push_39
  · have h := ite_f c2 h
    refine V_aload_n hC dX6_push_19 rfl 0 rfl ?_
    refine V_getI hC (f_s1_1) fw_X6_18 dX6_push_20 ?_
    refine V_iconst hC (4 : Int32) dX6_push_23 (by decide) ?_
    refine V_icmp_ge hC 39 dX6_push_24 (by decide) (fun c3 => ?_) (fun c3 => ?_)
    · have h := ite_t c3 h
      obtain rfl := Option.some.inj h
      exact V_vret hC hr hlk dX6_push_39
    · have h := ite_f c3 h
      refine V_aload_n hC dX6_push_27 rfl 0 rfl ?_
      refine V_getR hC (r_s1_0) fw_X6_11 dX6_push_28 ?_
      refine V_aload_n hC dX6_push_31 rfl 0 rfl ?_
      refine V_getI hC (f_s1_1) fw_X6_18 dX6_push_32 ?_
      obtain ⟨c4, h⟩ := ite_some h
      refine V_dald hC c4 dX6_push_35 ?_
      obtain ⟨c5, h⟩ := ite_some h
      refine V_ifnonnull hC 40 dX6_push_36 (by decide) ?_
      refine V_aload_n hC dX6_push_40 rfl 0 rfl ?_
      refine V_getR hC (r_s1_0) fw_X6_11 dX6_push_41 ?_
      refine V_aload_n hC dX6_push_44 rfl 0 rfl ?_
      refine V_getI hC (f_s1_1) fw_X6_18 dX6_push_45 ?_
      obtain ⟨c6, h⟩ := ite_some h
      refine V_dald hC c6 dX6_push_48 ?_
      obtain ⟨c7, h⟩ := ite_some h
      refine V_aload_n hC dX6_push_49 rfl 1 rfl ?_
      obtain ⟨q8, e8, h⟩ := bind_some h
      refine V_cVv hC [.ref (adr G g2 0)] (c_X1_copyFrom (l := l) hC.2.2.2.2.2.2.2 (of_gok c7) hg2 e8) kd_X1_copyFrom kv_X1_copyFrom gw_402 (r_d0_0 (of_gok c7)).o rfl ⟨Nat.le_of_ble_eq_true rfl, Nat.le_of_ble_eq_true rfl⟩ rfl (Nat.le_of_ble_eq_true rfl) dX6_push_50 ⟨Nat.zero_le _, Nat.zero_le _⟩ rfl ?_
      refine V_aload_n hC dX6_push_53 rfl 0 rfl ?_
      refine V_dup hC dX6_push_54 rfl ?_
      refine V_getI hC (f_s1_1) fw_X6_18 dX6_push_55 ?_
      refine V_iconst hC (1 : Int32) dX6_push_58 (by decide) ?_
      refine V_iadd hC dX6_push_59 ?_
      refine V_putI hC (f_s1_1) fw_X6_18 flp_6_1 dX6_push_60 ?_
      obtain rfl := Option.some.inj h
      exact V_vret hC hr hlk dX6_push_63
theorem c_X6_push {l : Launch} {G : Geo} {g2 : Nat} {Mf : Mem} {M : Mem} (hG : gD G) (hg2 : g2 < 6) (h : f_X6_push g2 M = some Mf) : Met l yX6_push (.code yX6_push cX6_push 2 none :: GL) (rmk 5) (gP G [.ref (adr G 6 1), .ref (adr G g2 0)] M) (gQ G none Mf) 0 0 (gA G) := by
  refine Met_of (own := RX6) (L := [(0, .ref (adr G 6 1)), (1, .ref (adr G g2 0))]) hG (by decide +kernel) rfl (Nat.le_of_ble_eq_true rfl) rfl ?_
  intro p e s m args below meth c hC hr hlk
  refine V_aload_n hC dX6_push_0 rfl 0 rfl ?_
  refine V_getI hC (f_s1_1) fw_X6_18 dX6_push_1 ?_
  refine V_iconst hC (4 : Int32) dX6_push_4 (by decide) ?_
  refine V_icmp_lt hC 12 dX6_push_5 (by decide) (fun c1 => ?_) (fun c1 => ?_)
  · have h := ite_t c1 h
    exact b_X6_push_12 hC hr hlk hg2 h
  · have h := ite_f c1 h
    refine V_aload_n hC dX6_push_8 rfl 0 rfl ?_
    obtain ⟨q9, e9, h⟩ := bind_some h
    refine V_cVv hC [] (c_X6_dropOldest (l := l) hC.2.2.2.2.2.2.2 e9) kd_X6_dropOldest kv_X6_dropOldest gw_398 (r_s1_0).o rfl ⟨Nat.le_of_ble_eq_true rfl, Nat.le_of_ble_eq_true rfl⟩ rfl (Nat.le_of_ble_eq_true rfl) dX6_push_9 ⟨Nat.zero_le _, Nat.zero_le _⟩ rfl ?_
    exact b_X6_push_12 hC hr hlk hg2 h
theorem c_X6_pop {l : Launch} {G : Geo} {g2 : Nat} {Mf : Mem} {M : Mem} (hG : gD G) (hg2 : g2 < 6) (h : f_X6_pop g2 M = some Mf) : Met l yX6_pop (.code yX6_pop cX6_pop 2 none :: GL) (rmk 5) (gP G [.ref (adr G 6 1), .ref (adr G g2 0)] M) (gQ G none Mf) 0 0 (gA G) := by
  refine Met_of (own := RX6) (L := [(0, .ref (adr G 6 1)), (1, .ref (adr G g2 0))]) hG (by decide +kernel) rfl (Nat.le_of_ble_eq_true rfl) rfl ?_
  intro p e s m args below meth c hC hr hlk
  refine V_aload_n hC dX6_pop_0 rfl 0 rfl ?_
  refine V_getI hC (f_s1_1) fw_X6_18 dX6_pop_1 ?_
  refine V_if_le hC 29 dX6_pop_4 (by decide) (fun c1 => ?_) (fun c1 => ?_)
  · have h := ite_t c1 h
    obtain rfl := Option.some.inj h
    exact V_vret hC hr hlk dX6_pop_29
  · have h := ite_f c1 h
    refine V_aload_n hC dX6_pop_7 rfl 0 rfl ?_
    refine V_getI hC (f_s1_1) fw_X6_18 dX6_pop_8 ?_
    refine V_iconst hC (4 : Int32) dX6_pop_11 (by decide) ?_
    refine V_icmp_gt hC 29 dX6_pop_12 (by decide) (fun c2 => ?_) (fun c2 => ?_)
    · have h := ite_t c2 h
      obtain rfl := Option.some.inj h
      exact V_vret hC hr hlk dX6_pop_29
    · have h := ite_f c2 h
      refine V_aload_n hC dX6_pop_15 rfl 0 rfl ?_
      refine V_getR hC (r_s1_0) fw_X6_11 dX6_pop_16 ?_
      refine V_aload_n hC dX6_pop_19 rfl 0 rfl ?_
      refine V_getI hC (f_s1_1) fw_X6_18 dX6_pop_20 ?_
      refine V_iconst hC (1 : Int32) dX6_pop_23 (by decide) ?_
      refine V_isub hC dX6_pop_24 ?_
      obtain ⟨c3, h⟩ := ite_some h
      refine V_dald hC c3 dX6_pop_25 ?_
      obtain ⟨c4, h⟩ := ite_some h
      refine V_ifnonnull hC 30 dX6_pop_26 (by decide) ?_
      refine V_aload_n hC dX6_pop_30 rfl 0 rfl ?_
      refine V_dup hC dX6_pop_31 rfl ?_
      refine V_getI hC (f_s1_1) fw_X6_18 dX6_pop_32 ?_
      refine V_iconst hC (1 : Int32) dX6_pop_35 (by decide) ?_
      refine V_isub hC dX6_pop_36 ?_
      refine V_putI hC (f_s1_1) fw_X6_18 flp_6_1 dX6_pop_37 ?_
      refine V_aload_n hC dX6_pop_40 rfl 1 rfl ?_
      refine V_aload_n hC dX6_pop_41 rfl 0 rfl ?_
      refine V_getR hC (r_s1_0) fw_X6_11 dX6_pop_42 ?_
      refine V_aload_n hC dX6_pop_45 rfl 0 rfl ?_
      refine V_getI hC (f_s1_1) fw_X6_18 dX6_pop_46 ?_
      obtain ⟨c5, h⟩ := ite_some h
      refine V_dald hC c5 dX6_pop_49 ?_
      obtain ⟨c6, h⟩ := ite_some h
      obtain ⟨q7, e7, h⟩ := bind_some h
      refine V_cVv hC [.ref (adr G (cl ((wr M 6 1 1 ((M.1 6 1 1) - (1 : Int32))).1 6 2 (cl ((wr M 6 1 1 ((M.1 6 1 1) - (1 : Int32))).1 6 1 1)))) 0)] (c_X1_copyFrom (l := l) hC.2.2.2.2.2.2.2 hg2 (of_gok c6) e7) kd_X1_copyFrom kv_X1_copyFrom gw_402 (r_d0_0 hg2).o rfl ⟨Nat.le_of_ble_eq_true rfl, Nat.le_of_ble_eq_true rfl⟩ rfl (Nat.le_of_ble_eq_true rfl) dX6_pop_50 ⟨Nat.zero_le _, Nat.zero_le _⟩ rfl ?_
      obtain rfl := Option.some.inj h
      exact V_vret hC hr hlk dX6_pop_53
theorem c_X7_parentOf {l : Launch} {G : Geo} {g : Nat} {x1 : Int32} {rv : Int32} {M : Mem} (hG : gD G) (hg : g < 6) (h : f_X7_parentOf g x1 M = some rv) : Met l yX7_parentOf (.code yX7_parentOf cX7_parentOf 2 (some .int) :: GL) (rmk 1) (gP G [.ref (adr G g 1), .int x1] M) (gQ G (some (.int rv)) M) 0 0 (gA G) := by
  refine Met_of (own := RX7) (L := [(0, .ref (adr G g 1)), (1, .int x1)]) hG (by decide +kernel) rfl (Nat.le_of_ble_eq_true rfl) rfl ?_
  intro p e s m args below meth c hC hr hlk
  refine V_aload_n hC dX7_parentOf_0 rfl 0 rfl ?_
  refine V_iload_n hC dX7_parentOf_1 rfl 1 rfl ?_
  obtain ⟨q1, e1, h⟩ := bind_some h
  refine V_cVr hC [.int x1] (c_X7_has (l := l) hC.2.2.2.2.2.2.2 hg e1) kd_X7_has kv_X7_has gw_461 (r_d1_0 hg).o rfl ⟨Nat.le_of_ble_eq_true rfl, Nat.le_of_ble_eq_true rfl⟩ rfl (Nat.le_of_ble_eq_true rfl) dX7_parentOf_2 ⟨Nat.zero_le _, Nat.zero_le _⟩ rfl ?_
  refine V_if_eq hC 17 dX7_parentOf_5 (by decide) (fun c2 => ?_) (fun c2 => ?_)
  · have h := ite_t c2 h
    refine V_iconst hC ((-1) : Int32) dX7_parentOf_17 (by decide) ?_
    obtain rfl := Option.some.inj h
    exact V_iret hC hr hlk dX7_parentOf_18
  · have h := ite_f c2 h
    refine V_aload_n hC dX7_parentOf_8 rfl 0 rfl ?_
    refine V_getR hC (r_d1_0 hg) fw_X7_9 dX7_parentOf_9 ?_
    refine V_iload_n hC dX7_parentOf_12 rfl 1 rfl ?_
    obtain ⟨c3, h⟩ := ite_some h
    refine V_iald hC (a_d2 hg) c3 dX7_parentOf_13 ?_
    refine V_goto hC 18 dX7_parentOf_14 (by decide) ?_
    obtain rfl := Option.some.inj h
    exact V_iret hC hr hlk dX7_parentOf_18
theorem c_X7_versionOf {l : Launch} {G : Geo} {g : Nat} {x1 : Int32} {rv : Int32} {M : Mem} (hG : gD G) (hg : g < 6) (h : f_X7_versionOf g x1 M = some rv) : Met l yX7_versionOf (.code yX7_versionOf cX7_versionOf 2 (some .int) :: GL) (rmk 1) (gP G [.ref (adr G g 1), .int x1] M) (gQ G (some (.int rv)) M) 0 0 (gA G) := by
  refine Met_of (own := RX7) (L := [(0, .ref (adr G g 1)), (1, .int x1)]) hG (by decide +kernel) rfl (Nat.le_of_ble_eq_true rfl) rfl ?_
  intro p e s m args below meth c hC hr hlk
  refine V_aload_n hC dX7_versionOf_0 rfl 0 rfl ?_
  refine V_iload_n hC dX7_versionOf_1 rfl 1 rfl ?_
  obtain ⟨q1, e1, h⟩ := bind_some h
  refine V_cVr hC [.int x1] (c_X7_has (l := l) hC.2.2.2.2.2.2.2 hg e1) kd_X7_has kv_X7_has gw_461 (r_d1_0 hg).o rfl ⟨Nat.le_of_ble_eq_true rfl, Nat.le_of_ble_eq_true rfl⟩ rfl (Nat.le_of_ble_eq_true rfl) dX7_versionOf_2 ⟨Nat.zero_le _, Nat.zero_le _⟩ rfl ?_
  refine V_if_eq hC 17 dX7_versionOf_5 (by decide) (fun c2 => ?_) (fun c2 => ?_)
  · have h := ite_t c2 h
    refine V_iconst hC (0 : Int32) dX7_versionOf_17 (by decide) ?_
    obtain rfl := Option.some.inj h
    exact V_iret hC hr hlk dX7_versionOf_18
  · have h := ite_f c2 h
    refine V_aload_n hC dX7_versionOf_8 rfl 0 rfl ?_
    refine V_getR hC (r_d1_2 hg) fw_X7_18 dX7_versionOf_9 ?_
    refine V_iload_n hC dX7_versionOf_12 rfl 1 rfl ?_
    obtain ⟨c3, h⟩ := ite_some h
    refine V_iald hC (a_d4 hg) c3 dX7_versionOf_13 ?_
    refine V_goto hC 18 dX7_versionOf_14 (by decide) ?_
    obtain rfl := Option.some.inj h
    exact V_iret hC hr hlk dX7_versionOf_18
theorem c_X7_depthOf {l : Launch} {G : Geo} {g : Nat} {x1 : Int32} {rv : Int32} {M : Mem} (hG : gD G) (hg : g < 6) (h : f_X7_depthOf g x1 M = some rv) : Met l yX7_depthOf (.code yX7_depthOf cX7_depthOf 2 (some .int) :: GL) (rmk 1) (gP G [.ref (adr G g 1), .int x1] M) (gQ G (some (.int rv)) M) 0 0 (gA G) := by
  refine Met_of (own := RX7) (L := [(0, .ref (adr G g 1)), (1, .int x1)]) hG (by decide +kernel) rfl (Nat.le_of_ble_eq_true rfl) rfl ?_
  intro p e s m args below meth c hC hr hlk
  refine V_aload_n hC dX7_depthOf_0 rfl 0 rfl ?_
  refine V_iload_n hC dX7_depthOf_1 rfl 1 rfl ?_
  obtain ⟨q1, e1, h⟩ := bind_some h
  refine V_cVr hC [.int x1] (c_X7_lineageOf (l := l) hC.2.2.2.2.2.2.2 hg e1) kd_X7_lineageOf kv_X7_lineageOf gw_486 (r_d1_0 hg).o rfl ⟨Nat.le_of_ble_eq_true rfl, Nat.le_of_ble_eq_true rfl⟩ rfl (Nat.le_of_ble_eq_true rfl) dX7_depthOf_2 ⟨Nat.zero_le _, Nat.zero_le _⟩ rfl ?_
  refine V_cSr hC [.int q1] (c_J6_bitCount_0f7a4 (l := l) hC.2.2.2.2.2.2.2 rfl) kd_J6_bitCount_0f7a4 gw_517 gw_545 ⟨Nat.le_of_ble_eq_true rfl, Nat.le_of_ble_eq_true rfl⟩ rfl (Nat.le_of_ble_eq_true rfl) dX7_depthOf_5 ⟨Nat.zero_le _, Nat.zero_le _⟩ rfl ?_
  refine V_iconst hC (1 : Int32) dX7_depthOf_8 (by decide) ?_
  refine V_isub hC dX7_depthOf_9 ?_
  obtain rfl := Option.some.inj h
  exact V_iret hC hr hlk dX7_depthOf_10
theorem b_X7_childrenOf_43 {g : Nat} {rv : Int32} {k4 : Int32 → Int32 → Option Int32} {x1 : Int32} {x2 : Int32} {x3 : Int32} {M : Mem} (hC : Cx p s m args c cX7_childrenOf RX7 4 G) (hr : meth.sig.returnType = some .int) (hlk : meth.locks = false) (hg : g < 6) (hk4 : ∀ (x2 : Int32) (x3 : Int32), k4 x2 x3 = some rv → V p l e (rmk 2) s m args below meth c 4 G 0 0 (MQ below (gQ G (some (.int rv)) M) args s 0 0 (gA G)) 4 [(0, .ref (adr G g 1)), (1, .int x1), (2, .int x2), (3, .int x3)] [] M) (h : B_X7_childrenOf_43 g k4 x1 x2 x3 M = some rv) : V p l e (rmk 2) s m args below meth c 4 G 0 0 (MQ below (gQ G (some (.int rv)) M) args s 0 0 (gA G)) 43 [(0, .ref (adr G g 1)), (1, .int x1), (2, .int x2), (3, .int x3)] [] M := by
  refine V_iinc hC (x3 + 1) ([(3, .int (x3 + 1)), (0, .ref (adr G g 1)), (1, .int x1), (2, .int x2)]) dX7_childrenOf_43 3 rfl rfl (by decide) rfl ?_
  refine V_goto hC 4 dX7_childrenOf_46 (by decide) ?_
  refine V_sub [1, 2, 3, 0] rfl ?_
  exact hk4 _ _ h
theorem l_X7_childrenOf_4 {g : Nat} {rv : Int32} {x1 : Int32} {M : Mem} (hC : Cx p s m args c cX7_childrenOf RX7 4 G) (hr : meth.sig.returnType = some .int) (hlk : meth.locks = false) (hg : g < 6) : ∀ (n : Nat) {x2 : Int32} {x3 : Int32} (h : L_X7_childrenOf_4 g x1 M n x2 x3 = some rv), V p l e (rmk 2) s m args below meth c 4 G 0 0 (MQ below (gQ G (some (.int rv)) M) args s 0 0 (gA G)) 4 [(0, .ref (adr G g 1)), (1, .int x1), (2, .int x2), (3, .int x3)] [] M := by
  intro n
  induction n with
  | zero => intro x2 x3 h; cases h
  | succ n ih =>
    intro x2 x3 h
    have hk4 : ∀ (x2 : Int32) (x3 : Int32), L_X7_childrenOf_4 g x1 M n x2 x3 = some rv → V p l e (rmk 2) s m args below meth c 4 G 0 0 (MQ below (gQ G (some (.int rv)) M) args s 0 0 (gA G)) 4 [(0, .ref (adr G g 1)), (1, .int x1), (2, .int x2), (3, .int x3)] [] M := fun _ _ z => ih z
    refine V_iload_n hC dX7_childrenOf_4 rfl 3 rfl ?_
    refine V_aload_n hC dX7_childrenOf_5 rfl 0 rfl ?_
    refine V_getI hC (f_d1_6 hg) fw_X7_36 dX7_childrenOf_6 ?_
    refine V_icmp_ge hC 49 dX7_childrenOf_9 (by decide) (fun c1 => ?_) (fun c1 => ?_)
    · have h := ite_t c1 h
      refine V_iload_n hC dX7_childrenOf_49 rfl 2 rfl ?_
      obtain rfl := Option.some.inj h
      exact V_iret hC hr hlk dX7_childrenOf_50
    · have h := ite_f c1 h
      refine V_iload_n hC dX7_childrenOf_12 rfl 3 rfl ?_
      refine V_bipush hC (20 : Int32) dX7_childrenOf_13 (by decide) ?_
      refine V_icmp_ge hC 49 dX7_childrenOf_15 (by decide) (fun c2 => ?_) (fun c2 => ?_)
      · have h := ite_t c2 h
        refine V_iload_n hC dX7_childrenOf_49 rfl 2 rfl ?_
        obtain rfl := Option.some.inj h
        exact V_iret hC hr hlk dX7_childrenOf_50
      · have h := ite_f c2 h
        refine V_aload_n hC dX7_childrenOf_18 rfl 0 rfl ?_
        refine V_iload_n hC dX7_childrenOf_19 rfl 1 rfl ?_
        obtain ⟨q3, e3, h⟩ := bind_some h
        refine V_cVr hC [.int x1] (c_X7_has (l := l) hC.2.2.2.2.2.2.2 hg e3) kd_X7_has kv_X7_has gw_461 (r_d1_0 hg).o rfl ⟨Nat.le_of_ble_eq_true rfl, Nat.le_of_ble_eq_true rfl⟩ rfl (Nat.le_of_ble_eq_true rfl) dX7_childrenOf_20 ⟨Nat.zero_le _, Nat.zero_le _⟩ rfl ?_
        refine V_if_eq hC 43 dX7_childrenOf_23 (by decide) (fun c4 => ?_) (fun c4 => ?_)
        · have h := ite_t c4 h
          exact b_X7_childrenOf_43 hC hr hlk hg hk4 h
        · have h := ite_f c4 h
          refine V_aload_n hC dX7_childrenOf_26 rfl 0 rfl ?_
          refine V_aload_n hC dX7_childrenOf_27 rfl 0 rfl ?_
          refine V_getR hC (r_d1_1 hg) fw_X7_15 dX7_childrenOf_28 ?_
          refine V_iload_n hC dX7_childrenOf_31 rfl 3 rfl ?_
          obtain ⟨c5, h⟩ := ite_some h
          refine V_iald hC (a_d3 hg) c5 dX7_childrenOf_32 ?_
          obtain ⟨q6, e6, h⟩ := bind_some h
          refine V_cVr hC [.int (M.1 g 3 (cl x3))] (c_X7_parentOf (l := l) hC.2.2.2.2.2.2.2 hg e6) kd_X7_parentOf kv_X7_parentOf gw_933 (r_d1_0 hg).o rfl ⟨Nat.le_of_ble_eq_true rfl, Nat.le_of_ble_eq_true rfl⟩ rfl (Nat.le_of_ble_eq_true rfl) dX7_childrenOf_33 ⟨Nat.zero_le _, Nat.zero_le _⟩ rfl ?_
          refine V_iload_n hC dX7_childrenOf_36 rfl 1 rfl ?_
          refine V_icmp_ne hC 43 dX7_childrenOf_37 (by decide) (fun c7 => ?_) (fun c7 => ?_)
          · have h := ite_f c7 h
            exact b_X7_childrenOf_43 hC hr hlk hg hk4 h
          · have h := ite_t c7 h
            refine V_iinc hC (x2 + 1) ([(2, .int (x2 + 1)), (0, .ref (adr G g 1)), (1, .int x1), (3, .int x3)]) dX7_childrenOf_40 2 rfl rfl (by decide) rfl ?_
            refine V_sub [1, 2, 0, 3] rfl ?_
            exact b_X7_childrenOf_43 hC hr hlk hg hk4 h
theorem c_X7_childrenOf {l : Launch} {G : Geo} {g : Nat} {x1 : Int32} {rv : Int32} {M : Mem} (hG : gD G) (hg : g < 6) (h : f_X7_childrenOf g x1 M = some rv) : Met l yX7_childrenOf (.code yX7_childrenOf cX7_childrenOf 4 (some .int) :: GL) (rmk 2) (gP G [.ref (adr G g 1), .int x1] M) (gQ G (some (.int rv)) M) 0 0 (gA G) := by
  refine Met_of (own := RX7) (L := [(0, .ref (adr G g 1)), (1, .int x1)]) hG (by decide +kernel) rfl (Nat.le_of_ble_eq_true rfl) rfl ?_
  intro p e s m args below meth c hC hr hlk
  refine V_iconst hC (0 : Int32) dX7_childrenOf_0 (by decide) ?_
  refine V_istore_n hC ([(2, .int (0 : Int32)), (0, .ref (adr G g 1)), (1, .int x1)]) dX7_childrenOf_1 rfl (by decide) rfl ?_
  refine V_iconst hC (0 : Int32) dX7_childrenOf_2 (by decide) ?_
  refine V_istore_n hC ([(3, .int (0 : Int32)), (2, .int (0 : Int32)), (0, .ref (adr G g 1)), (1, .int x1)]) dX7_childrenOf_3 rfl (by decide) rfl ?_
  refine V_sub [2, 3, 1, 0] rfl ?_
  exact l_X7_childrenOf_4 hC hr hlk hg FU h
theorem b_X7_childAt_60 {g : Nat} {rv : Int32} {k5 : Int32 → Int32 → Option Int32} {x1 : Int32} {x2 : Int32} {x3 : Int32} {x4 : Int32} {M : Mem} (hC : Cx p s m args c cX7_childAt RX7 5 G) (hr : meth.sig.returnType = some .int) (hlk : meth.locks = false) (hg : g < 6) (hk5 : ∀ (x3 : Int32) (x4 : Int32), k5 x3 x4 = some rv → V p l e (rmk 2) s m args below meth c 5 G 0 0 (MQ below (gQ G (some (.int rv)) M) args s 0 0 (gA G)) 5 [(0, .ref (adr G g 1)), (1, .int x1), (2, .int x2), (3, .int x3), (4, .int x4)] [] M) (h : B_X7_childAt_60 g k5 x1 x2 x3 x4 M = some rv) : V p l e (rmk 2) s m args below meth c 5 G 0 0 (MQ below (gQ G (some (.int rv)) M) args s 0 0 (gA G)) 60 [(0, .ref (adr G g 1)), (1, .int x1), (2, .int x2), (3, .int x3), (4, .int x4)] [] M := by
  refine V_iinc hC (x4 + 1) ([(4, .int (x4 + 1)), (0, .ref (adr G g 1)), (1, .int x1), (2, .int x2), (3, .int x3)]) dX7_childAt_60 4 rfl rfl (by decide) rfl ?_
  refine V_goto hC 5 dX7_childAt_63 (by decide) ?_
  refine V_sub [1, 2, 3, 4, 0] rfl ?_
  exact hk5 _ _ h
theorem l_X7_childAt_5 {g : Nat} {rv : Int32} {x1 : Int32} {x2 : Int32} {M : Mem} (hC : Cx p s m args c cX7_childAt RX7 5 G) (hr : meth.sig.returnType = some .int) (hlk : meth.locks = false) (hg : g < 6) : ∀ (n : Nat) {x3 : Int32} {x4 : Int32} (h : L_X7_childAt_5 g x1 x2 M n x3 x4 = some rv), V p l e (rmk 2) s m args below meth c 5 G 0 0 (MQ below (gQ G (some (.int rv)) M) args s 0 0 (gA G)) 5 [(0, .ref (adr G g 1)), (1, .int x1), (2, .int x2), (3, .int x3), (4, .int x4)] [] M := by
  intro n
  induction n with
  | zero => intro x3 x4 h; cases h
  | succ n ih =>
    intro x3 x4 h
    have hk5 : ∀ (x3 : Int32) (x4 : Int32), L_X7_childAt_5 g x1 x2 M n x3 x4 = some rv → V p l e (rmk 2) s m args below meth c 5 G 0 0 (MQ below (gQ G (some (.int rv)) M) args s 0 0 (gA G)) 5 [(0, .ref (adr G g 1)), (1, .int x1), (2, .int x2), (3, .int x3), (4, .int x4)] [] M := fun _ _ z => ih z
    refine V_iload hC dX7_childAt_5 4 rfl ?_
    refine V_aload_n hC dX7_childAt_7 rfl 0 rfl ?_
    refine V_getI hC (f_d1_6 hg) fw_X7_36 dX7_childAt_8 ?_
    refine V_icmp_ge hC 66 dX7_childAt_11 (by decide) (fun c1 => ?_) (fun c1 => ?_)
    · have h := ite_t c1 h
      refine V_iconst hC ((-1) : Int32) dX7_childAt_66 (by decide) ?_
      obtain rfl := Option.some.inj h
      exact V_iret hC hr hlk dX7_childAt_67
    · have h := ite_f c1 h
      refine V_iload hC dX7_childAt_14 4 rfl ?_
      refine V_bipush hC (20 : Int32) dX7_childAt_16 (by decide) ?_
      refine V_icmp_ge hC 66 dX7_childAt_18 (by decide) (fun c2 => ?_) (fun c2 => ?_)
      · have h := ite_t c2 h
        refine V_iconst hC ((-1) : Int32) dX7_childAt_66 (by decide) ?_
        obtain rfl := Option.some.inj h
        exact V_iret hC hr hlk dX7_childAt_67
      · have h := ite_f c2 h
        refine V_aload_n hC dX7_childAt_21 rfl 0 rfl ?_
        refine V_iload_n hC dX7_childAt_22 rfl 1 rfl ?_
        obtain ⟨q3, e3, h⟩ := bind_some h
        refine V_cVr hC [.int x1] (c_X7_has (l := l) hC.2.2.2.2.2.2.2 hg e3) kd_X7_has kv_X7_has gw_461 (r_d1_0 hg).o rfl ⟨Nat.le_of_ble_eq_true rfl, Nat.le_of_ble_eq_true rfl⟩ rfl (Nat.le_of_ble_eq_true rfl) dX7_childAt_23 ⟨Nat.zero_le _, Nat.zero_le _⟩ rfl ?_
        refine V_if_eq hC 60 dX7_childAt_26 (by decide) (fun c4 => ?_) (fun c4 => ?_)
        · have h := ite_t c4 h
          exact b_X7_childAt_60 hC hr hlk hg hk5 h
        · have h := ite_f c4 h
          refine V_aload_n hC dX7_childAt_29 rfl 0 rfl ?_
          refine V_aload_n hC dX7_childAt_30 rfl 0 rfl ?_
          refine V_getR hC (r_d1_1 hg) fw_X7_15 dX7_childAt_31 ?_
          refine V_iload hC dX7_childAt_34 4 rfl ?_
          obtain ⟨c5, h⟩ := ite_some h
          refine V_iald hC (a_d3 hg) c5 dX7_childAt_36 ?_
          obtain ⟨q6, e6, h⟩ := bind_some h
          refine V_cVr hC [.int (M.1 g 3 (cl x4))] (c_X7_parentOf (l := l) hC.2.2.2.2.2.2.2 hg e6) kd_X7_parentOf kv_X7_parentOf gw_933 (r_d1_0 hg).o rfl ⟨Nat.le_of_ble_eq_true rfl, Nat.le_of_ble_eq_true rfl⟩ rfl (Nat.le_of_ble_eq_true rfl) dX7_childAt_37 ⟨Nat.zero_le _, Nat.zero_le _⟩ rfl ?_
          refine V_iload_n hC dX7_childAt_40 rfl 1 rfl ?_
          refine V_icmp_ne hC 60 dX7_childAt_41 (by decide) (fun c7 => ?_) (fun c7 => ?_)
          · have h := ite_f c7 h
            exact b_X7_childAt_60 hC hr hlk hg hk5 h
          · have h := ite_t c7 h
            refine V_iload_n hC dX7_childAt_44 rfl 3 rfl ?_
            refine V_iload_n hC dX7_childAt_45 rfl 2 rfl ?_
            refine V_icmp_ne hC 57 dX7_childAt_46 (by decide) (fun c8 => ?_) (fun c8 => ?_)
            · have h := ite_f c8 h
              refine V_iinc hC (x3 + 1) ([(3, .int (x3 + 1)), (0, .ref (adr G g 1)), (1, .int x1), (2, .int x2), (4, .int x4)]) dX7_childAt_57 3 rfl rfl (by decide) rfl ?_
              refine V_sub [1, 2, 3, 0, 4] rfl ?_
              exact b_X7_childAt_60 hC hr hlk hg hk5 h
            · have h := ite_t c8 h
              refine V_aload_n hC dX7_childAt_49 rfl 0 rfl ?_
              refine V_getR hC (r_d1_1 hg) fw_X7_15 dX7_childAt_50 ?_
              refine V_iload hC dX7_childAt_53 4 rfl ?_
              obtain ⟨c9, h⟩ := ite_some h
              refine V_iald hC (a_d3 hg) c9 dX7_childAt_55 ?_
              obtain rfl := Option.some.inj h
              exact V_iret hC hr hlk dX7_childAt_56
theorem c_X7_childAt {l : Launch} {G : Geo} {g : Nat} {x1 : Int32} {x2 : Int32} {rv : Int32} {M : Mem} (hG : gD G) (hg : g < 6) (h : f_X7_childAt g x1 x2 M = some rv) : Met l yX7_childAt (.code yX7_childAt cX7_childAt 5 (some .int) :: GL) (rmk 2) (gP G [.ref (adr G g 1), .int x1, .int x2] M) (gQ G (some (.int rv)) M) 0 0 (gA G) := by
  refine Met_of (own := RX7) (L := [(0, .ref (adr G g 1)), (1, .int x1), (2, .int x2)]) hG (by decide +kernel) rfl (Nat.le_of_ble_eq_true rfl) rfl ?_
  intro p e s m args below meth c hC hr hlk
  refine V_iconst hC (0 : Int32) dX7_childAt_0 (by decide) ?_
  refine V_istore_n hC ([(3, .int (0 : Int32)), (0, .ref (adr G g 1)), (1, .int x1), (2, .int x2)]) dX7_childAt_1 rfl (by decide) rfl ?_
  refine V_iconst hC (0 : Int32) dX7_childAt_2 (by decide) ?_
  refine V_istore hC ([(4, .int (0 : Int32)), (3, .int (0 : Int32)), (0, .ref (adr G g 1)), (1, .int x1), (2, .int x2)]) dX7_childAt_3 (by decide) rfl ?_
  refine V_sub [2, 3, 4, 1, 0] rfl ?_
  exact l_X7_childAt_5 hC hr hlk hg FU h
theorem l_X7_lowestFree_2 {g : Nat} {rv : Int32} {M : Mem} (hC : Cx p s m args c cX7_lowestFree RX7 2 G) (hr : meth.sig.returnType = some .int) (hlk : meth.locks = false) (hg : g < 6) : ∀ (n : Nat) {x1 : Int32} (h : L_X7_lowestFree_2 g M n x1 = some rv), V p l e (rmk 0) s m args below meth c 2 G 0 0 (MQ below (gQ G (some (.int rv)) M) args s 0 0 (gA G)) 2 [(0, .ref (adr G g 1)), (1, .int x1)] [] M := by
  intro n
  induction n with
  | zero => intro x1 h; cases h
  | succ n ih =>
    intro x1 h
    have hk2 : ∀ (x1 : Int32), L_X7_lowestFree_2 g M n x1 = some rv → V p l e (rmk 0) s m args below meth c 2 G 0 0 (MQ below (gQ G (some (.int rv)) M) args s 0 0 (gA G)) 2 [(0, .ref (adr G g 1)), (1, .int x1)] [] M := fun _ z => ih z
    refine V_iload_n hC dX7_lowestFree_2 rfl 1 rfl ?_
    refine V_bipush hC (20 : Int32) dX7_lowestFree_3 (by decide) ?_
    refine V_icmp_ge hC 27 dX7_lowestFree_5 (by decide) (fun c1 => ?_) (fun c1 => ?_)
    · have h := ite_t c1 h
      refine V_iconst hC ((-1) : Int32) dX7_lowestFree_27 (by decide) ?_
      obtain rfl := Option.some.inj h
      exact V_iret hC hr hlk dX7_lowestFree_28
    · have h := ite_f c1 h
      refine V_aload_n hC dX7_lowestFree_8 rfl 0 rfl ?_
      refine V_getR hC (r_d1_0 hg) fw_X7_9 dX7_lowestFree_9 ?_
      refine V_iload_n hC dX7_lowestFree_12 rfl 1 rfl ?_
      obtain ⟨c2, h⟩ := ite_some h
      refine V_iald hC (a_d2 hg) c2 dX7_lowestFree_13 ?_
      refine V_bipush hC ((-2) : Int32) dX7_lowestFree_14 (by decide) ?_
      refine V_icmp_ne hC 21 dX7_lowestFree_16 (by decide) (fun c3 => ?_) (fun c3 => ?_)
      · have h := ite_f c3 h
        refine V_iinc hC (x1 + 1) ([(1, .int (x1 + 1)), (0, .ref (adr G g 1))]) dX7_lowestFree_21 1 rfl rfl (by decide) rfl ?_
        refine V_goto hC 2 dX7_lowestFree_24 (by decide) ?_
        refine V_sub [1, 0] rfl ?_
        exact hk2 _ h
      · have h := ite_t c3 h
        refine V_iload_n hC dX7_lowestFree_19 rfl 1 rfl ?_
        obtain rfl := Option.some.inj h
        exact V_iret hC hr hlk dX7_lowestFree_20
theorem c_X7_lowestFree {l : Launch} {G : Geo} {g : Nat} {rv : Int32} {M : Mem} (hG : gD G) (hg : g < 6) (h : f_X7_lowestFree g M = some rv) : Met l yX7_lowestFree (.code yX7_lowestFree cX7_lowestFree 2 (some .int) :: GL) (rmk 0) (gP G [.ref (adr G g 1)] M) (gQ G (some (.int rv)) M) 0 0 (gA G) := by
  refine Met_of (own := RX7) (L := [(0, .ref (adr G g 1))]) hG (by decide +kernel) rfl (Nat.le_of_ble_eq_true rfl) rfl ?_
  intro p e s m args below meth c hC hr hlk
  refine V_iconst hC (0 : Int32) dX7_lowestFree_0 (by decide) ?_
  refine V_istore_n hC ([(1, .int (0 : Int32)), (0, .ref (adr G g 1))]) dX7_lowestFree_1 rfl (by decide) rfl ?_
  refine V_sub [1, 0] rfl ?_
  exact l_X7_lowestFree_2 hC hr hlk hg FU h
theorem l_X7_add_46 {g : Nat} {rv : Int32} {Mf : Mem} {x2 : Int32} (hC : Cx p s m args c cX7_add RX7 4 G) (hr : meth.sig.returnType = some .int) (hlk : meth.locks = false) (hg : g < 6) : ∀ (n : Nat) {x3 : Int32} {M : Mem} (h : L_X7_add_46 g x2 n x3 M = some (rv, Mf)), V p l e (rmk 3) s m args below meth c 4 G 0 0 (MQ below (gQ G (some (.int rv)) Mf) args s 0 0 (gA G)) 46 [(0, .ref (adr G g 1)), (2, .int x2), (3, .int x3)] [] M := by
  intro n
  induction n with
  | zero => intro x3 M h; cases h
  | succ n ih =>
    intro x3 M h
    have hk46 : ∀ (x3 : Int32) (M : Mem), L_X7_add_46 g x2 n x3 M = some (rv, Mf) → V p l e (rmk 3) s m args below meth c 4 G 0 0 (MQ below (gQ G (some (.int rv)) Mf) args s 0 0 (gA G)) 46 [(0, .ref (adr G g 1)), (2, .int x2), (3, .int x3)] [] M := fun _ _ z => ih z
    refine V_iload_n hC dX7_add_46 rfl 2 rfl ?_
    refine V_bipush hC (6 : Int32) dX7_add_47 (by decide) ?_
    refine V_icmp_ge hC 68 dX7_add_49 (by decide) (fun c8 => ?_) (fun c8 => ?_)
    · have h := ite_t c8 h
      refine V_aload_n hC dX7_add_68 rfl 0 rfl ?_
      refine V_getR hC (r_d1_1 hg) fw_X7_15 dX7_add_69 ?_
      refine V_aload_n hC dX7_add_72 rfl 0 rfl ?_
      refine V_getI hC (f_d1_6 hg) fw_X7_36 dX7_add_73 ?_
      refine V_iload_n hC dX7_add_76 rfl 1 rfl ?_
      obtain ⟨c9, h⟩ := ite_some h
      refine V_iast hC (a_d3 hg) c9 dX7_add_77 ?_
      refine V_aload_n hC dX7_add_78 rfl 0 rfl ?_
      refine V_dup hC dX7_add_79 rfl ?_
      refine V_getI hC (f_d1_6 hg) fw_X7_36 dX7_add_80 ?_
      refine V_iconst hC (1 : Int32) dX7_add_83 (by decide) ?_
      refine V_iadd hC dX7_add_84 ?_
      refine V_putI hC (f_d1_6 hg) fw_X7_36 flp_7_6 dX7_add_85 ?_
      refine V_aload_n hC dX7_add_88 rfl 0 rfl ?_
      obtain ⟨q10, e10, h⟩ := bind_some h
      refine V_cVv hC [] (c_X7_findOverlaps (l := l) hC.2.2.2.2.2.2.2 hg e10) kd_X7_findOverlaps kv_X7_findOverlaps gw_457 (r_d1_0 hg).o rfl ⟨Nat.le_of_ble_eq_true rfl, Nat.le_of_ble_eq_true rfl⟩ rfl (Nat.le_of_ble_eq_true rfl) dX7_add_89 ⟨Nat.zero_le _, Nat.zero_le _⟩ rfl ?_
      refine V_iload_n hC dX7_add_92 rfl 1 rfl ?_
      obtain ⟨rfl, rfl⟩ := Prod.mk.inj (Option.some.inj h)
      exact V_iret hC hr hlk dX7_add_93
    · have h := ite_f c8 h
      refine V_aload_n hC dX7_add_52 rfl 0 rfl ?_
      refine V_iload_n hC dX7_add_53 rfl 1 rfl ?_
      refine V_iload_n hC dX7_add_54 rfl 2 rfl ?_
      refine V_cSNr hC [.int x2, .int x3] (c_X8_cellOf (l := l) hC.2.2.2.2.2.2.2 rfl) kd_X8_cellOf gw_447 nw_29 ⟨Nat.le_of_ble_eq_true rfl, Nat.le_of_ble_eq_true rfl⟩ rfl (Nat.le_of_ble_eq_true rfl) dX7_add_55 ⟨Nat.zero_le _, Nat.zero_le _⟩ rfl ?_
      refine V_iconst hC (0 : Int32) dX7_add_58 (by decide) ?_
      obtain ⟨q12, e12, h⟩ := bind_some h
      refine V_cVv hC [.int (f_X8_cellOf x2 x3), .int (0 : Int32)] (c_X7_setValue (l := l) hC.2.2.2.2.2.2.2 hg e12) kd_X7_setValue kv_X7_setValue gw_449 (r_d1_0 hg).o rfl ⟨Nat.le_of_ble_eq_true rfl, Nat.le_of_ble_eq_true rfl⟩ rfl (Nat.le_of_ble_eq_true rfl) dX7_add_59 ⟨Nat.zero_le _, Nat.zero_le _⟩ rfl ?_
      refine V_iinc hC (x3 + 1) ([(3, .int (x3 + 1)), (0, .ref (adr G g 1)), (2, .int x2)]) dX7_add_62 2 rfl rfl (by decide) rfl ?_
      refine V_goto hC 46 dX7_add_65 (by decide) ?_
      refine V_sub [1, 2, 0] rfl ?_
      exact hk46 _ _ h
theorem c_X7_add {l : Launch} {G : Geo} {g : Nat} {x1 : Int32} {rv : Int32} {Mf : Mem} {M : Mem} (hG : gD G) (hg : g < 6) (h : f_X7_add g x1 M = some (rv, Mf)) : Met l yX7_add (.code yX7_add cX7_add 4 (some .int) :: GL) (rmk 3) (gP G [.ref (adr G g 1), .int x1] M) (gQ G (some (.int rv)) Mf) 0 0 (gA G) := by
  refine Met_of (own := RX7) (L := [(0, .ref (adr G g 1)), (1, .int x1)]) hG (by decide +kernel) rfl (Nat.le_of_ble_eq_true rfl) rfl ?_
  intro p e s m args below meth c hC hr hlk
  refine V_aload_n hC dX7_add_0 rfl 0 rfl ?_
  obtain ⟨q1, e1, h⟩ := bind_some h
  refine V_cVr hC [] (c_X7_lowestFree (l := l) hC.2.2.2.2.2.2.2 hg e1) kd_X7_lowestFree kv_X7_lowestFree gw_439 (r_d1_0 hg).o rfl ⟨Nat.le_of_ble_eq_true rfl, Nat.le_of_ble_eq_true rfl⟩ rfl (Nat.le_of_ble_eq_true rfl) dX7_add_1 ⟨Nat.zero_le _, Nat.zero_le _⟩ rfl ?_
  refine V_istore_n hC ([(2, .int q1), (0, .ref (adr G g 1)), (1, .int x1)]) dX7_add_4 rfl (by decide) rfl ?_
  refine V_iload_n hC dX7_add_5 rfl 0 rfl ?_
  refine V_iconst hC (0 : Int32) dX7_add_6 (by decide) ?_
  refine V_bipush hC (19 : Int32) dX7_add_7 (by decide) ?_
  refine V_cSNr hC [.int q1, .int (0 : Int32), .int (19 : Int32)] (c_X8_isWithin (l := l) hC.2.2.2.2.2.2.2 rfl) kd_X8_isWithin gw_444 nw_28 ⟨Nat.le_of_ble_eq_true rfl, Nat.le_of_ble_eq_true rfl⟩ rfl (Nat.le_of_ble_eq_true rfl) dX7_add_9 ⟨Nat.zero_le _, Nat.zero_le _⟩ rfl ?_
  refine V_if_eq hC 28 dX7_add_12 (by decide) (fun c3 => ?_) (fun c3 => ?_)
  · have h := ite_t c3 h
    refine V_iconst hC ((-1) : Int32) dX7_add_28 (by decide) ?_
    obtain ⟨rfl, rfl⟩ := Prod.mk.inj (Option.some.inj h)
    exact V_iret hC hr hlk dX7_add_29
  · have h := ite_f c3 h
    refine V_aload_n hC dX7_add_15 rfl 1 rfl ?_
    refine V_getI hC (f_d1_6 hg) fw_X7_36 dX7_add_16 ?_
    refine V_iconst hC (0 : Int32) dX7_add_19 (by decide) ?_
    refine V_bipush hC (19 : Int32) dX7_add_20 (by decide) ?_
    refine V_cSNr hC [.int (M.1 g 1 6), .int (0 : Int32), .int (19 : Int32)] (c_X8_isWithin (l := l) hC.2.2.2.2.2.2.2 rfl) kd_X8_isWithin gw_444 nw_28 ⟨Nat.le_of_ble_eq_true rfl, Nat.le_of_ble_eq_true rfl⟩ rfl (Nat.le_of_ble_eq_true rfl) dX7_add_22 ⟨Nat.zero_le _, Nat.zero_le _⟩ rfl ?_
    refine V_if_ne hC 30 dX7_add_25 (by decide) (fun c5 => ?_) (fun c5 => ?_)
    · have h := ite_f c5 h
      refine V_aload_n hC dX7_add_30 rfl 1 rfl ?_
      refine V_getR hC (r_d1_0 hg) fw_X7_9 dX7_add_31 ?_
      refine V_iload_n hC dX7_add_34 rfl 0 rfl ?_
      refine V_iload_n hC dX7_add_35 rfl 2 rfl ?_
      obtain ⟨c6, h⟩ := ite_some h
      refine V_iast hC (a_d2 hg) c6 dX7_add_36 ?_
      refine V_aload_n hC dX7_add_37 rfl 1 rfl ?_
      refine V_getR hC (r_d1_2 hg) fw_X7_18 dX7_add_38 ?_
      refine V_iload_n hC dX7_add_41 rfl 0 rfl ?_
      refine V_iconst hC (0 : Int32) dX7_add_42 (by decide) ?_
      obtain ⟨c7, h⟩ := ite_some h
      refine V_iast hC (a_d4 hg) c7 dX7_add_43 ?_
      refine V_iconst hC (0 : Int32) dX7_add_44 (by decide) ?_
      refine V_istore_n hC ([(3, .int (0 : Int32)), (2, .int q1), (0, .ref (adr G g 1)), (1, .int x1)]) dX7_add_45 rfl (by decide) rfl ?_
      refine V_sub [2, 1, 0] rfl ?_
      exact l_X7_add_46 hC hr hlk hg FU h
    · have h := ite_t c5 h
      refine V_iconst hC ((-1) : Int32) dX7_add_28 (by decide) ?_
      obtain ⟨rfl, rfl⟩ := Prod.mk.inj (Option.some.inj h)
      exact V_iret hC hr hlk dX7_add_29
theorem b_X7_move_82 {g : Nat} {Mf : Mem} {x1 : Int32} {x2 : Int32} {M : Mem} (hC : Cx p s m args c cX7_move RX7 5 G) (hr : meth.sig.returnType = none) (hlk : meth.locks = false) (hg : g < 6) (h : B_X7_move_82 g x1 x2 M = some Mf) : V p l e (rmk 2) s m args below meth c 5 G 0 0 (MQ below (gQ G none Mf) args s 0 0 (gA G)) 82 [(0, .ref (adr G g 1)), (1, .int x1), (2, .int x2)] [] M := by
  refine V_aload_n hC dX7_move_82 rfl 0 rfl ?_
  refine V_getR hC (r_d1_0 hg) fw_X7_9 dX7_move_83 ?_
  refine V_iload_n hC dX7_move_86 rfl 1 rfl ?_
  refine V_iload_n hC dX7_move_87 rfl 2 rfl ?_
  obtain ⟨c5, h⟩ := ite_some h
  refine V_iast hC (a_d2 hg) c5 dX7_move_88 ?_
  refine V_aload_n hC dX7_move_89 rfl 0 rfl ?_
  obtain ⟨q6, e6, h⟩ := bind_some h
  refine V_cVv hC [] (c_X7_findOverlaps (l := l) hC.2.2.2.2.2.2.2 hg e6) kd_X7_findOverlaps kv_X7_findOverlaps gw_457 (r_d1_0 hg).o rfl ⟨Nat.le_of_ble_eq_true rfl, Nat.le_of_ble_eq_true rfl⟩ rfl (Nat.le_of_ble_eq_true rfl) dX7_move_90 ⟨Nat.zero_le _, Nat.zero_le _⟩ rfl ?_
  obtain rfl := Option.some.inj h
  exact V_vret hC hr hlk dX7_move_93
theorem b_X7_move_69 {g : Nat} {Mf : Mem} {x1 : Int32} {x2 : Int32} {x3 : Int32} {M : Mem} (hC : Cx p s m args c cX7_move RX7 5 G) (hr : meth.sig.returnType = none) (hlk : meth.locks = false) (hg : g < 6) (h : B_X7_move_69 g x1 x2 x3 M = some Mf) : V p l e (rmk 2) s m args below meth c 5 G 0 0 (MQ below (gQ G none Mf) args s 0 0 (gA G)) 69 [(0, .ref (adr G g 1)), (1, .int x1), (2, .int x2), (3, .int x3)] [] M := by
  refine V_iload_n hC dX7_move_69 rfl 3 rfl ?_
  refine V_bipush hC (20 : Int32) dX7_move_70 (by decide) ?_
  refine V_icmp_ge hC 82 dX7_move_72 (by decide) (fun c4 => ?_) (fun c4 => ?_)
  · have h := ite_t c4 h
    refine V_sub [0, 1, 2] rfl ?_
    exact b_X7_move_82 hC hr hlk hg h
  · have h := ite_f c4 h
    refine V_aload_n hC dX7_move_75 rfl 0 rfl ?_
    refine V_getR hC (r_d1_1 hg) fw_X7_15 dX7_move_76 ?_
    refine V_iload_n hC dX7_move_79 rfl 3 rfl ?_
    refine V_iload_n hC dX7_move_80 rfl 1 rfl ?_
    obtain ⟨c7, h⟩ := ite_some h
    refine V_iast hC (a_d3 hg) c7 dX7_move_81 ?_
    refine V_sub [0, 1, 2] rfl ?_
    exact b_X7_move_82 hC hr hlk hg h
theorem b_X7_move_63 {g : Nat} {Mf : Mem} {k14 : Int32 → Int32 → Mem → Option Mem} {x1 : Int32} {x2 : Int32} {x3 : Int32} {x4 : Int32} {M : Mem} (hC : Cx p s m args c cX7_move RX7 5 G) (hr : meth.sig.returnType = none) (hlk : meth.locks = false) (hg : g < 6) (hk14 : ∀ (x3 : Int32) (x4 : Int32) (M : Mem), k14 x3 x4 M = some Mf → V p l e (rmk 2) s m args below meth c 5 G 0 0 (MQ below (gQ G none Mf) args s 0 0 (gA G)) 14 [(0, .ref (adr G g 1)), (1, .int x1), (2, .int x2), (3, .int x3), (4, .int x4)] [] M) (h : B_X7_move_63 g k14 x1 x2 x3 x4 M = some Mf) : V p l e (rmk 2) s m args below meth c 5 G 0 0 (MQ below (gQ G none Mf) args s 0 0 (gA G)) 63 [(0, .ref (adr G g 1)), (1, .int x1), (2, .int x2), (3, .int x3), (4, .int x4)] [] M := by
  refine V_iinc hC (x4 + 1) ([(4, .int (x4 + 1)), (0, .ref (adr G g 1)), (1, .int x1), (2, .int x2), (3, .int x3)]) dX7_move_63 4 rfl rfl (by decide) rfl ?_
  refine V_goto hC 14 dX7_move_66 (by decide) ?_
  refine V_sub [1, 2, 3, 4, 0] rfl ?_
  exact hk14 _ _ _ h
theorem l_X7_move_14 {g : Nat} {Mf : Mem} {x1 : Int32} {x2 : Int32} (hC : Cx p s m args c cX7_move RX7 5 G) (hr : meth.sig.returnType = none) (hlk : meth.locks = false) (hg : g < 6) : ∀ (n : Nat) {x3 : Int32} {x4 : Int32} {M : Mem} (h : L_X7_move_14 g x1 x2 n x3 x4 M = some Mf), V p l e (rmk 2) s m args below meth c 5 G 0 0 (MQ below (gQ G none Mf) args s 0 0 (gA G)) 14 [(0, .ref (adr G g 1)), (1, .int x1), (2, .int x2), (3, .int x3), (4, .int x4)] [] M := by
  intro n
  induction n with
  | zero => intro x3 x4 M h; cases h
  | succ n ih =>
    intro x3 x4 M h
    have hk14 : ∀ (x3 : Int32) (x4 : Int32) (M : Mem), L_X7_move_14 g x1 x2 n x3 x4 M = some Mf → V p l e (rmk 2) s m args below meth c 5 G 0 0 (MQ below (gQ G none Mf) args s 0 0 (gA G)) 14 [(0, .ref (adr G g 1)), (1, .int x1), (2, .int x2), (3, .int x3), (4, .int x4)] [] M := fun _ _ _ z => ih z
    refine V_iload hC dX7_move_14 4 rfl ?_
    refine V_aload_n hC dX7_move_16 rfl 0 rfl ?_
    refine V_getI hC (f_d1_6 hg) fw_X7_36 dX7_move_17 ?_
    refine V_icmp_ge hC 69 dX7_move_20 (by decide) (fun c3 => ?_) (fun c3 => ?_)
    · have h := ite_t c3 h
      refine V_sub [0, 1, 2, 3] rfl ?_
      exact b_X7_move_69 hC hr hlk hg h
    · have h := ite_f c3 h
      refine V_iload hC dX7_move_23 4 rfl ?_
      refine V_bipush hC (20 : Int32) dX7_move_25 (by decide) ?_
      refine V_icmp_ge hC 69 dX7_move_27 (by decide) (fun c8 => ?_) (fun c8 => ?_)
      · have h := ite_t c8 h
        refine V_sub [0, 1, 2, 3] rfl ?_
        exact b_X7_move_69 hC hr hlk hg h
      · have h := ite_f c8 h
        refine V_iload_n hC dX7_move_30 rfl 3 rfl ?_
        refine V_bipush hC (20 : Int32) dX7_move_31 (by decide) ?_
        refine V_icmp_ge hC 69 dX7_move_33 (by decide) (fun c9 => ?_) (fun c9 => ?_)
        · have h := ite_t c9 h
          refine V_sub [0, 1, 2, 3] rfl ?_
          exact b_X7_move_69 hC hr hlk hg h
        · have h := ite_f c9 h
          refine V_aload_n hC dX7_move_36 rfl 0 rfl ?_
          refine V_getR hC (r_d1_1 hg) fw_X7_15 dX7_move_37 ?_
          refine V_iload hC dX7_move_40 4 rfl ?_
          obtain ⟨c10, h⟩ := ite_some h
          refine V_iald hC (a_d3 hg) c10 dX7_move_42 ?_
          refine V_iload_n hC dX7_move_43 rfl 1 rfl ?_
          refine V_icmp_eq hC 63 dX7_move_44 (by decide) (fun c11 => ?_) (fun c11 => ?_)
          · have h := ite_t c11 h
            exact b_X7_move_63 hC hr hlk hg hk14 h
          · have h := ite_f c11 h
            refine V_aload_n hC dX7_move_47 rfl 0 rfl ?_
            refine V_getR hC (r_d1_1 hg) fw_X7_15 dX7_move_48 ?_
            refine V_iload_n hC dX7_move_51 rfl 3 rfl ?_
            refine V_aload_n hC dX7_move_52 rfl 0 rfl ?_
            refine V_getR hC (r_d1_1 hg) fw_X7_15 dX7_move_53 ?_
            refine V_iload hC dX7_move_56 4 rfl ?_
            obtain ⟨c12, h⟩ := ite_some h
            refine V_iald hC (a_d3 hg) c12 dX7_move_58 ?_
            obtain ⟨c13, h⟩ := ite_some h
            refine V_iast hC (a_d3 hg) c13 dX7_move_59 ?_
            refine V_iinc hC (x3 + 1) ([(3, .int (x3 + 1)), (0, .ref (adr G g 1)), (1, .int x1), (2, .int x2), (4, .int x4)]) dX7_move_60 3 rfl rfl (by decide) rfl ?_
            refine V_sub [1, 2, 3, 0, 4] rfl ?_
            exact b_X7_move_63 hC hr hlk hg hk14 h
theorem c_X7_move {l : Launch} {G : Geo} {g : Nat} {x1 : Int32} {x2 : Int32} {Mf : Mem} {M : Mem} (hG : gD G) (hg : g < 6) (h : f_X7_move g x1 x2 M = some Mf) : Met l yX7_move (.code yX7_move cX7_move 5 none :: GL) (rmk 2) (gP G [.ref (adr G g 1), .int x1, .int x2] M) (gQ G none Mf) 0 0 (gA G) := by
  refine Met_of (own := RX7) (L := [(0, .ref (adr G g 1)), (1, .int x1), (2, .int x2)]) hG (by decide +kernel) rfl (Nat.le_of_ble_eq_true rfl) rfl ?_
  intro p e s m args below meth c hC hr hlk
  refine V_aload_n hC dX7_move_0 rfl 0 rfl ?_
  refine V_iload_n hC dX7_move_1 rfl 1 rfl ?_
  obtain ⟨q1, e1, h⟩ := bind_some h
  refine V_cVr hC [.int x1] (c_X7_has (l := l) hC.2.2.2.2.2.2.2 hg e1) kd_X7_has kv_X7_has gw_461 (r_d1_0 hg).o rfl ⟨Nat.le_of_ble_eq_true rfl, Nat.le_of_ble_eq_true rfl⟩ rfl (Nat.le_of_ble_eq_true rfl) dX7_move_2 ⟨Nat.zero_le _, Nat.zero_le _⟩ rfl ?_
  refine V_if_ne hC 9 dX7_move_5 (by decide) (fun c2 => ?_) (fun c2 => ?_)
  · have h := ite_f c2 h
    refine V_iconst hC (0 : Int32) dX7_move_9 (by decide) ?_
    refine V_istore_n hC ([(3, .int (0 : Int32)), (0, .ref (adr G g 1)), (1, .int x1), (2, .int x2)]) dX7_move_10 rfl (by decide) rfl ?_
    refine V_iconst hC (0 : Int32) dX7_move_11 (by decide) ?_
    refine V_istore hC ([(4, .int (0 : Int32)), (3, .int (0 : Int32)), (0, .ref (adr G g 1)), (1, .int x1), (2, .int x2)]) dX7_move_12 (by decide) rfl ?_
    refine V_sub [2, 3, 4, 1, 0] rfl ?_
    exact l_X7_move_14 hC hr hlk hg FU h
  · have h := ite_t c2 h
    obtain rfl := Option.some.inj h
    exact V_vret hC hr hlk dX7_move_8
theorem c_X8_sections {l : Launch} {G : Geo} {rv : Int32} {M : Mem} (hG : gD G) (h : f_X8_sections M = rv) : Met l yX8_sections (.code yX8_sections cX8_sections 1 (some .int) :: GL) (rmk 0) (gP G [.ref (adr G 6 0)] M) (gQ G (some (.int rv)) M) 0 0 (gA G) := by
  refine Met_of (own := RX8) (L := [(0, .ref (adr G 6 0))]) hG (by decide +kernel) rfl (Nat.le_of_ble_eq_true rfl) rfl ?_
  intro p e s m args below meth c hC hr hlk
  refine V_aload_n hC dX8_sections_0 rfl 0 rfl ?_
  refine V_getR hC (r_s0_0) fw_X8_12 dX8_sections_1 ?_
  refine V_getR hC (r_d0_0 (by decide)) fw_X8_52 dX8_sections_4 ?_
  refine V_getI hC (f_d1_6 (by decide)) fw_X8_78 dX8_sections_7 ?_
  obtain rfl := id h
  exact V_iret hC hr hlk dX8_sections_10
theorem c_X8_entries {l : Launch} {G : Geo} {rv : Int32} {M : Mem} (hG : gD G) (h : f_X8_entries M = rv) : Met l yX8_entries (.code yX8_entries cX8_entries 1 (some .int) :: GL) (rmk 0) (gP G [.ref (adr G 6 0)] M) (gQ G (some (.int rv)) M) 0 0 (gA G) := by
  refine Met_of (own := RX8) (L := [(0, .ref (adr G 6 0))]) hG (by decide +kernel) rfl (Nat.le_of_ble_eq_true rfl) rfl ?_
  intro p e s m args below meth c hC hr hlk
  refine V_aload_n hC dX8_entries_0 rfl 0 rfl ?_
  refine V_getR hC (r_s0_0) fw_X8_12 dX8_entries_1 ?_
  refine V_getR hC (r_d0_3 (by decide)) fw_X8_234 dX8_entries_4 ?_
  refine V_getI hC (f_d14_2 (by decide)) fw_X8_238 dX8_entries_7 ?_
  obtain rfl := id h
  exact V_iret hC hr hlk dX8_entries_10
theorem c_X8_waiting {l : Launch} {G : Geo} {rv : Int32} {M : Mem} (hG : gD G) (h : f_X8_waiting M = rv) : Met l yX8_waiting (.code yX8_waiting cX8_waiting 1 (some .int) :: GL) (rmk 0) (gP G [.ref (adr G 6 0)] M) (gQ G (some (.int rv)) M) 0 0 (gA G) := by
  refine Met_of (own := RX8) (L := [(0, .ref (adr G 6 0))]) hG (by decide +kernel) rfl (Nat.le_of_ble_eq_true rfl) rfl ?_
  intro p e s m args below meth c hC hr hlk
  refine V_aload_n hC dX8_waiting_0 rfl 0 rfl ?_
  refine V_getR hC (r_s0_0) fw_X8_12 dX8_waiting_1 ?_
  refine V_getR hC (r_d0_2 (by decide)) fw_X8_219 dX8_waiting_4 ?_
  refine V_getI hC (f_d12_1 (by decide)) fw_X8_256 dX8_waiting_7 ?_
  obtain rfl := id h
  exact V_iret hC hr hlk dX8_waiting_10
theorem c_X8_clearText {l : Launch} {G : Geo} {rv : Int32} {Mf : Mem} {M : Mem} (hG : gD G) (h : f_X8_clearText M = some (rv, Mf)) : Met l yX8_clearText (.code yX8_clearText cX8_clearText 2 (some .int) :: GL) (rmk 0) (gP G [.ref (adr G 6 0)] M) (gQ G (some (.int rv)) Mf) 0 0 (gA G) := by
  refine Met_of (own := RX8) (L := [(0, .ref (adr G 6 0))]) hG (by decide +kernel) rfl (Nat.le_of_ble_eq_true rfl) rfl ?_
  intro p e s m args below meth c hC hr hlk
  refine V_aload_n hC dX8_clearText_0 rfl 0 rfl ?_
  refine V_getR hC (r_s0_3) fw_X8_29 dX8_clearText_1 ?_
  refine V_getI hC (f_s3_1) fw_X8_271 dX8_clearText_4 ?_
  refine V_istore_n hC ([(1, .int (M.1 6 3 1)), (0, .ref (adr G 6 0))]) dX8_clearText_7 rfl (by decide) rfl ?_
  refine V_aload_n hC dX8_clearText_8 rfl 1 rfl ?_
  refine V_getR hC (r_s0_3) fw_X8_29 dX8_clearText_9 ?_
  refine V_iconst hC (0 : Int32) dX8_clearText_12 (by decide) ?_
  refine V_putI hC (f_s3_1) fw_X8_271 flp_3_1 dX8_clearText_13 ?_
  refine V_iload_n hC dX8_clearText_16 rfl 0 rfl ?_
  obtain ⟨rfl, rfl⟩ := Prod.mk.inj (Option.some.inj h)
  exact V_iret hC hr hlk dX8_clearText_17
theorem b_X8_orderFault_81 {rv : Int32} {z0 : Int32} {z1 : Int32} {z2 : Int32} {z3 : Int32} {M : Mem} (hC : Cx p s m args c cX8_orderFault RX8 6 G) (hr : meth.sig.returnType = some .int) (hlk : meth.locks = false) (h : B_X8_orderFault_81 z0 z1 z2 z3 M = some rv) : V p l e (rmk 5) s m args below meth c 6 G 0 0 (MQ below (gQ G (some (.int rv)) M) args s 0 0 (gA G)) 81 [] [.int z0, .int z1, .int z2, .int z3, .ref (adr G 1 0)] M := by
  obtain ⟨q13, e13, h⟩ := bind_some h
  refine V_cVr hC [.int z3, .int z2, .int z1, .int z0] (c_X1_requestFault (l := l) hC.2.2.2.2.2.2.2 (by decide) e13) kd_X1_requestFault kv_X1_requestFault gw_607 (r_d0_0 (by decide)).o rfl ⟨Nat.le_of_ble_eq_true rfl, Nat.le_of_ble_eq_true rfl⟩ rfl (Nat.le_of_ble_eq_true rfl) dX8_orderFault_81 ⟨Nat.zero_le _, Nat.zero_le _⟩ rfl ?_
  refine V_goto hC 88 dX8_orderFault_84 (by decide) ?_
  obtain rfl := Option.some.inj h
  exact V_iret hC hr hlk dX8_orderFault_88
theorem c_X8_orderFault {l : Launch} {G : Geo} {x1 : Int32} {x2 : Int32} {x3 : Int32} {x4 : Int32} {x5 : Int32} {rv : Int32} {M : Mem} (hG : gD G) (h : f_X8_orderFault x1 x2 x3 x4 x5 M = some rv) : Met l yX8_orderFault (.code yX8_orderFault cX8_orderFault 6 (some .int) :: GL) (rmk 5) (gP G [.ref (adr G 6 0), .int x1, .int x2, .int x3, .int x4, .int x5] M) (gQ G (some (.int rv)) M) 0 0 (gA G) := by
  refine Met_of (own := RX8) (L := [(0, .ref (adr G 6 0)), (1, .int x1), (2, .int x2), (3, .int x3), (4, .int x4), (5, .int x5)]) hG (by decide +kernel) rfl (Nat.le_of_ble_eq_true rfl) rfl ?_
  intro p e s m args below meth c hC hr hlk
  refine V_iload_n hC dX8_orderFault_0 rfl 1 rfl ?_
  by_cases c1 : x1 = (98 : Int32)
  · have h := ite_t c1 h
    refine V_lookup hC 122 dX8_orderFault_1 (by decide) (by rw [c1]) (by decide) ?_
    refine V_aload_n hC dX8_orderFault_122 rfl 0 rfl ?_
    refine V_getR hC (r_s0_1) fw_X8_16 dX8_orderFault_123 ?_
    refine V_iload_n hC dX8_orderFault_126 rfl 2 rfl ?_
    obtain ⟨q2, e2, h⟩ := bind_some h
    refine V_cVr hC [.int x2] (c_X1_breakFault (l := l) hC.2.2.2.2.2.2.2 (by decide) e2) kd_X1_breakFault kv_X1_breakFault gw_766 (r_d0_0 (by decide)).o rfl ⟨Nat.le_of_ble_eq_true rfl, Nat.le_of_ble_eq_true rfl⟩ rfl (Nat.le_of_ble_eq_true rfl) dX8_orderFault_127 ⟨Nat.zero_le _, Nat.zero_le _⟩ rfl ?_
    obtain rfl := Option.some.inj h
    exact V_iret hC hr hlk dX8_orderFault_130
  have h := ite_f c1 h
  by_cases c3 : x1 = (100 : Int32)
  · have h := ite_t c3 h
    refine V_lookup hC 113 dX8_orderFault_1 (by decide) (by rw [c3]) (by decide) ?_
    refine V_aload_n hC dX8_orderFault_113 rfl 0 rfl ?_
    refine V_getR hC (r_s0_1) fw_X8_16 dX8_orderFault_114 ?_
    refine V_iload_n hC dX8_orderFault_117 rfl 2 rfl ?_
    refine V_cVr hC [.int x2] (c_X1_checkOutFault (l := l) hC.2.2.2.2.2.2.2 (by decide) rfl) kd_X1_checkOutFault kv_X1_checkOutFault gw_1076 (r_d0_0 (by decide)).o rfl ⟨Nat.le_of_ble_eq_true rfl, Nat.le_of_ble_eq_true rfl⟩ rfl (Nat.le_of_ble_eq_true rfl) dX8_orderFault_118 ⟨Nat.zero_le _, Nat.zero_le _⟩ rfl ?_
    obtain rfl := Option.some.inj h
    exact V_iret hC hr hlk dX8_orderFault_121
  have h := ite_f c3 h
  by_cases c5 : x1 = (101 : Int32)
  · have h := ite_t c5 h
    refine V_lookup hC 89 dX8_orderFault_1 (by decide) (by rw [c5]) (by decide) ?_
    refine V_aload_n hC dX8_orderFault_89 rfl 0 rfl ?_
    refine V_getR hC (r_s0_1) fw_X8_16 dX8_orderFault_90 ?_
    refine V_iload_n hC dX8_orderFault_93 rfl 2 rfl ?_
    refine V_iload_n hC dX8_orderFault_94 rfl 3 rfl ?_
    refine V_iload hC dX8_orderFault_95 4 rfl ?_
    refine V_iload hC dX8_orderFault_97 5 rfl ?_
    obtain ⟨q6, e6, h⟩ := bind_some h
    refine V_cVr hC [.int x2, .int x3, .int x4, .int x5] (c_X1_editFault (l := l) hC.2.2.2.2.2.2.2 (by decide) e6) kd_X1_editFault kv_X1_editFault gw_790 (r_d0_0 (by decide)).o rfl ⟨Nat.le_of_ble_eq_true rfl, Nat.le_of_ble_eq_true rfl⟩ rfl (Nat.le_of_ble_eq_true rfl) dX8_orderFault_99 ⟨Nat.zero_le _, Nat.zero_le _⟩ rfl ?_
    obtain rfl := Option.some.inj h
    exact V_iret hC hr hlk dX8_orderFault_102
  have h := ite_f c5 h
  by_cases c7 : x1 = (103 : Int32)
  · have h := ite_t c7 h
    refine V_lookup hC 103 dX8_orderFault_1 (by decide) (by rw [c7]) (by decide) ?_
    refine V_aload_n hC dX8_orderFault_103 rfl 0 rfl ?_
    refine V_getR hC (r_s0_1) fw_X8_16 dX8_orderFault_104 ?_
    refine V_iload_n hC dX8_orderFault_107 rfl 2 rfl ?_
    refine V_iload_n hC dX8_orderFault_108 rfl 3 rfl ?_
    obtain ⟨q8, e8, h⟩ := bind_some h
    refine V_cVr hC [.int x2, .int x3] (c_X1_giveBackFault (l := l) hC.2.2.2.2.2.2.2 (by decide) e8) kd_X1_giveBackFault kv_X1_giveBackFault gw_815 (r_d0_0 (by decide)).o rfl ⟨Nat.le_of_ble_eq_true rfl, Nat.le_of_ble_eq_true rfl⟩ rfl (Nat.le_of_ble_eq_true rfl) dX8_orderFault_109 ⟨Nat.zero_le _, Nat.zero_le _⟩ rfl ?_
    obtain rfl := Option.some.inj h
    exact V_iret hC hr hlk dX8_orderFault_112
  have h := ite_f c7 h
  by_cases c9 : x1 = (113 : Int32)
  · have h := ite_t c9 h
    refine V_lookup hC 52 dX8_orderFault_1 (by decide) (by rw [c9]) (by decide) ?_
    refine V_iload hC dX8_orderFault_52 5 rfl ?_
    refine V_iconst hC (0 : Int32) dX8_orderFault_54 (by decide) ?_
    refine V_iconst hC (1 : Int32) dX8_orderFault_55 (by decide) ?_
    refine V_cSr hC [.int x5, .int (0 : Int32), .int (1 : Int32)] (c_X8_isWithin (l := l) hC.2.2.2.2.2.2.2 rfl) kd_X8_isWithin gw_444 gw_456 ⟨Nat.le_of_ble_eq_true rfl, Nat.le_of_ble_eq_true rfl⟩ rfl (Nat.le_of_ble_eq_true rfl) dX8_orderFault_56 ⟨Nat.zero_le _, Nat.zero_le _⟩ rfl ?_
    refine V_if_eq hC 87 dX8_orderFault_59 (by decide) (fun c11 => ?_) (fun c11 => ?_)
    · have h := ite_t c11 h
      refine V_iconst hC (2 : Int32) dX8_orderFault_87 (by decide) ?_
      obtain rfl := Option.some.inj h
      exact V_iret hC hr hlk dX8_orderFault_88
    · have h := ite_f c11 h
      refine V_aload_n hC dX8_orderFault_62 rfl 0 rfl ?_
      refine V_getR hC (r_s0_1) fw_X8_16 dX8_orderFault_63 ?_
      refine V_iload_n hC dX8_orderFault_66 rfl 2 rfl ?_
      refine V_iload_n hC dX8_orderFault_67 rfl 3 rfl ?_
      refine V_iload hC dX8_orderFault_68 4 rfl ?_
      refine V_iload hC dX8_orderFault_70 5 rfl ?_
      refine V_iconst hC (1 : Int32) dX8_orderFault_72 (by decide) ?_
      refine V_icmp_ne hC 80 dX8_orderFault_73 (by decide) (fun c12 => ?_) (fun c12 => ?_)
      · have h := ite_f c12 h
        refine V_iconst hC (0 : Int32) dX8_orderFault_80 (by decide) ?_
        refine V_sub [] rfl ?_
        exact b_X8_orderFault_81 hC hr hlk h
      · have h := ite_t c12 h
        refine V_iconst hC (1 : Int32) dX8_orderFault_76 (by decide) ?_
        refine V_goto hC 81 dX8_orderFault_77 (by decide) ?_
        refine V_sub [] rfl ?_
        exact b_X8_orderFault_81 hC hr hlk h
  have h := ite_f c9 h
  refine V_lookup hC (off := 130) 131 dX8_orderFault_1 (by decide) (by rw [lv_osw c1 (by decide), lv_osw c3 (by decide), lv_osw c5 (by decide), lv_osw c7 (by decide), lv_osw c9 (by decide)] <;> rfl) (by decide) ?_
  refine V_aload_n hC dX8_orderFault_131 rfl 0 rfl ?_
  refine V_getR hC (r_s0_1) fw_X8_16 dX8_orderFault_132 ?_
  refine V_iload_n hC dX8_orderFault_135 rfl 2 rfl ?_
  refine V_cVr hC [.int x2] (c_X1_passFault (l := l) hC.2.2.2.2.2.2.2 (by decide) rfl) kd_X1_passFault kv_X1_passFault gw_885 (r_d0_0 (by decide)).o rfl ⟨Nat.le_of_ble_eq_true rfl, Nat.le_of_ble_eq_true rfl⟩ rfl (Nat.le_of_ble_eq_true rfl) dX8_orderFault_136 ⟨Nat.zero_le _, Nat.zero_le _⟩ rfl ?_
  obtain rfl := Option.some.inj h
  exact V_iret hC hr hlk dX8_orderFault_139
theorem b_X8_runOrder_147 {rv : Int32} {Mf : Mem} {z0 : Int32} {z1 : Int32} {z2 : Int32} {z3 : Int32} {M : Mem} (hC : Cx p s m args c cX8_runOrder RX8 7 G) (hr : meth.sig.returnType = some .boolean) (hlk : meth.locks = false) (h : B_X8_runOrder_147 z0 z1 z2 z3 M = some (rv, Mf)) : V p l e (rmk 6) s m args below meth c 7 G 0 0 (MQ below (gQ G (some (.int rv)) Mf) args s 0 0 (gA G)) 147 [] [.int z0, .int z1, .int z2, .int z3, .ref (adr G 1 0)] M := by
  obtain ⟨q19, e19, h⟩ := bind_some h
  refine V_cVr hC [.int z3, .int z2, .int z1, .int z0] (c_X1_requestNow (l := l) (rv := q19.1) (Mf := q19.2) hC.2.2.2.2.2.2.2 (by decide) e19) kd_X1_requestNow kv_X1_requestNow gw_629 (r_d0_0 (by decide)).o rfl ⟨Nat.le_of_ble_eq_true rfl, Nat.le_of_ble_eq_true rfl⟩ rfl (Nat.le_of_ble_eq_true rfl) dX8_runOrder_147 ⟨Nat.zero_le _, Nat.zero_le _⟩ rfl ?_
  refine V_pop hC dX8_runOrder_150 rfl ?_
  refine V_goto hC 217 dX8_runOrder_151 (by decide) ?_
  refine V_iconst hC (1 : Int32) dX8_runOrder_217 (by decide) ?_
  obtain ⟨rfl, rfl⟩ := Prod.mk.inj (Option.some.inj h)
  exact V_zret hC hr hlk (Or.inr rfl) dX8_runOrder_218
theorem c_X8_runOrder {l : Launch} {G : Geo} {x1 : Int32} {rv : Int32} {Mf : Mem} {M : Mem} (hG : gD G) (h : f_X8_runOrder x1 M = some (rv, Mf)) : Met l yX8_runOrder (.code yX8_runOrder cX8_runOrder 7 (some .boolean) :: GL) (rmk 6) (gP G [.ref (adr G 6 0), .int x1] M) (gQ G (some (.int rv)) Mf) 0 0 (gA G) := by
  refine Met_of (own := RX8) (L := [(0, .ref (adr G 6 0)), (1, .int x1)]) hG (by decide +kernel) rfl (Nat.le_of_ble_eq_true rfl) rfl ?_
  intro p e s m args below meth c hC hr hlk
  refine V_aload_n hC dX8_runOrder_0 rfl 0 rfl ?_
  refine V_getR hC (r_s0_3) fw_X8_29 dX8_runOrder_1 ?_
  refine V_iload_n hC dX8_runOrder_4 rfl 1 rfl ?_
  refine V_iconst hC (0 : Int32) dX8_runOrder_5 (by decide) ?_
  obtain ⟨q1, e1, h⟩ := bind_some h
  refine V_cVr hC [.int x1, .int (0 : Int32)] (c_X3_numberOf (l := l) hC.2.2.2.2.2.2.2 e1) kd_X3_numberOf kv_X3_numberOf gw_1231 (r_s3_0).o rfl ⟨Nat.le_of_ble_eq_true rfl, Nat.le_of_ble_eq_true rfl⟩ rfl (Nat.le_of_ble_eq_true rfl) dX8_runOrder_6 ⟨Nat.zero_le _, Nat.zero_le _⟩ rfl ?_
  refine V_istore_n hC ([(2, .int q1), (0, .ref (adr G 6 0)), (1, .int x1)]) dX8_runOrder_9 rfl (by decide) rfl ?_
  refine V_aload_n hC dX8_runOrder_10 rfl 1 rfl ?_
  refine V_getR hC (r_s0_3) fw_X8_29 dX8_runOrder_11 ?_
  refine V_iload_n hC dX8_runOrder_14 rfl 2 rfl ?_
  refine V_iconst hC (1 : Int32) dX8_runOrder_15 (by decide) ?_
  obtain ⟨q2, e2, h⟩ := bind_some h
  refine V_cVr hC [.int x1, .int (1 : Int32)] (c_X3_numberOf (l := l) hC.2.2.2.2.2.2.2 e2) kd_X3_numberOf kv_X3_numberOf gw_1231 (r_s3_0).o rfl ⟨Nat.le_of_ble_eq_true rfl, Nat.le_of_ble_eq_true rfl⟩ rfl (Nat.le_of_ble_eq_true rfl) dX8_runOrder_16 ⟨Nat.zero_le _, Nat.zero_le _⟩ rfl ?_
  refine V_istore_n hC ([(3, .int q2), (2, .int q1), (0, .ref (adr G 6 0)), (1, .int x1)]) dX8_runOrder_19 rfl (by decide) rfl ?_
  refine V_aload_n hC dX8_runOrder_20 rfl 2 rfl ?_
  refine V_getR hC (r_s0_3) fw_X8_29 dX8_runOrder_21 ?_
  refine V_iload_n hC dX8_runOrder_24 rfl 3 rfl ?_
  refine V_iconst hC (2 : Int32) dX8_runOrder_25 (by decide) ?_
  obtain ⟨q3, e3, h⟩ := bind_some h
  refine V_cVr hC [.int x1, .int (2 : Int32)] (c_X3_numberOf (l := l) hC.2.2.2.2.2.2.2 e3) kd_X3_numberOf kv_X3_numberOf gw_1231 (r_s3_0).o rfl ⟨Nat.le_of_ble_eq_true rfl, Nat.le_of_ble_eq_true rfl⟩ rfl (Nat.le_of_ble_eq_true rfl) dX8_runOrder_26 ⟨Nat.zero_le _, Nat.zero_le _⟩ rfl ?_
  refine V_istore hC ([(4, .int q3), (3, .int q2), (2, .int q1), (0, .ref (adr G 6 0)), (1, .int x1)]) dX8_runOrder_29 (by decide) rfl ?_
  refine V_aload_n hC dX8_runOrder_31 rfl 3 rfl ?_
  refine V_getR hC (r_s0_3) fw_X8_29 dX8_runOrder_32 ?_
  refine V_iload_n hC dX8_runOrder_35 rfl 4 rfl ?_
  refine V_iconst hC (3 : Int32) dX8_runOrder_36 (by decide) ?_
  obtain ⟨q4, e4, h⟩ := bind_some h
  refine V_cVr hC [.int x1, .int (3 : Int32)] (c_X3_numberOf (l := l) hC.2.2.2.2.2.2.2 e4) kd_X3_numberOf kv_X3_numberOf gw_1231 (r_s3_0).o rfl ⟨Nat.le_of_ble_eq_true rfl, Nat.le_of_ble_eq_true rfl⟩ rfl (Nat.le_of_ble_eq_true rfl) dX8_runOrder_37 ⟨Nat.zero_le _, Nat.zero_le _⟩ rfl ?_
  refine V_istore hC ([(5, .int q4), (4, .int q3), (3, .int q2), (2, .int q1), (0, .ref (adr G 6 0)), (1, .int x1)]) dX8_runOrder_40 (by decide) rfl ?_
  refine V_aload_n hC dX8_runOrder_42 rfl 4 rfl ?_
  refine V_aload_n hC dX8_runOrder_43 rfl 4 rfl ?_
  refine V_getR hC (r_s0_3) fw_X8_29 dX8_runOrder_44 ?_
  refine V_iload_n hC dX8_runOrder_47 rfl 5 rfl ?_
  obtain ⟨q5, e5, h⟩ := bind_some h
  refine V_cVr hC [.int x1] (c_X3_letterOf (l := l) hC.2.2.2.2.2.2.2 e5) kd_X3_letterOf kv_X3_letterOf gw_1232 (r_s3_0).o rfl ⟨Nat.le_of_ble_eq_true rfl, Nat.le_of_ble_eq_true rfl⟩ rfl (Nat.le_of_ble_eq_true rfl) dX8_runOrder_48 ⟨Nat.zero_le _, Nat.zero_le _⟩ rfl ?_
  refine V_iload_n hC dX8_runOrder_51 rfl 3 rfl ?_
  refine V_iload_n hC dX8_runOrder_52 rfl 2 rfl ?_
  refine V_iload hC dX8_runOrder_53 1 rfl ?_
  refine V_iload hC dX8_runOrder_55 0 rfl ?_
  obtain ⟨q6, e6, h⟩ := bind_some h
  refine V_cVr hC [.int q5, .int q1, .int q2, .int q3, .int q4] (c_X8_orderFault (l := l) hC.2.2.2.2.2.2.2 e6) kd_X8_orderFault kv_X8_orderFault gw_1233 (r_s0_0).o rfl ⟨Nat.le_of_ble_eq_true rfl, Nat.le_of_ble_eq_true rfl⟩ rfl (Nat.le_of_ble_eq_true rfl) dX8_runOrder_57 ⟨Nat.zero_le _, Nat.zero_le _⟩ rfl ?_
  refine V_istore hC ([(6, .int q6), (5, .int q4), (4, .int q3), (3, .int q2), (2, .int q1), (0, .ref (adr G 6 0)), (1, .int x1)]) dX8_runOrder_60 (by decide) rfl ?_
  refine V_iload hC dX8_runOrder_62 0 rfl ?_
  refine V_if_eq hC 69 dX8_runOrder_64 (by decide) (fun c7 => ?_) (fun c7 => ?_)
  · have h := ite_t c7 h
    refine V_aload_n hC dX8_runOrder_69 rfl 5 rfl ?_
    refine V_getR hC (r_s0_3) fw_X8_29 dX8_runOrder_70 ?_
    refine V_iload_n hC dX8_runOrder_73 rfl 6 rfl ?_
    obtain ⟨q8, e8, h⟩ := bind_some h
    refine V_cVr hC [.int x1] (c_X3_letterOf (l := l) hC.2.2.2.2.2.2.2 e8) kd_X3_letterOf kv_X3_letterOf gw_1232 (r_s3_0).o rfl ⟨Nat.le_of_ble_eq_true rfl, Nat.le_of_ble_eq_true rfl⟩ rfl (Nat.le_of_ble_eq_true rfl) dX8_runOrder_74 ⟨Nat.zero_le _, Nat.zero_le _⟩ rfl ?_
    by_cases c9 : q8 = (98 : Int32)
    · have h := ite_t c9 h
      refine V_lookup hC 196 dX8_runOrder_77 (by decide) (by rw [c9]) (by decide) ?_
      refine V_aload_n hC dX8_runOrder_196 rfl 5 rfl ?_
      refine V_getR hC (r_s0_1) fw_X8_16 dX8_runOrder_197 ?_
      refine V_iload_n hC dX8_runOrder_200 rfl 4 rfl ?_
      obtain ⟨q10, e10, h⟩ := bind_some h
      refine V_cVr hC [.int q1] (c_X1_breakNow (l := l) (rv := q10.1) (Mf := q10.2) hC.2.2.2.2.2.2.2 (by decide) e10) kd_X1_breakNow kv_X1_breakNow gw_770 (r_d0_0 (by decide)).o rfl ⟨Nat.le_of_ble_eq_true rfl, Nat.le_of_ble_eq_true rfl⟩ rfl (Nat.le_of_ble_eq_true rfl) dX8_runOrder_201 ⟨Nat.zero_le _, Nat.zero_le _⟩ rfl ?_
      refine V_pop hC dX8_runOrder_204 rfl ?_
      refine V_goto hC 217 dX8_runOrder_205 (by decide) ?_
      refine V_iconst hC (1 : Int32) dX8_runOrder_217 (by decide) ?_
      obtain ⟨rfl, rfl⟩ := Prod.mk.inj (Option.some.inj h)
      exact V_zret hC hr hlk (Or.inr rfl) dX8_runOrder_218
    have h := ite_f c9 h
    by_cases c11 : q8 = (100 : Int32)
    · have h := ite_t c11 h
      refine V_lookup hC 184 dX8_runOrder_77 (by decide) (by rw [c11]) (by decide) ?_
      refine V_aload_n hC dX8_runOrder_184 rfl 5 rfl ?_
      refine V_getR hC (r_s0_1) fw_X8_16 dX8_runOrder_185 ?_
      refine V_iload_n hC dX8_runOrder_188 rfl 4 rfl ?_
      obtain ⟨q12, e12, h⟩ := bind_some h
      refine V_cVr hC [.int q1] (c_X1_discardNow (l := l) (rv := q12.1) (Mf := q12.2) hC.2.2.2.2.2.2.2 (by decide) e12) kd_X1_discardNow kv_X1_discardNow gw_1080 (r_d0_0 (by decide)).o rfl ⟨Nat.le_of_ble_eq_true rfl, Nat.le_of_ble_eq_true rfl⟩ rfl (Nat.le_of_ble_eq_true rfl) dX8_runOrder_189 ⟨Nat.zero_le _, Nat.zero_le _⟩ rfl ?_
      refine V_pop hC dX8_runOrder_192 rfl ?_
      refine V_goto hC 217 dX8_runOrder_193 (by decide) ?_
      refine V_iconst hC (1 : Int32) dX8_runOrder_217 (by decide) ?_
      obtain ⟨rfl, rfl⟩ := Prod.mk.inj (Option.some.inj h)
      exact V_zret hC hr hlk (Or.inr rfl) dX8_runOrder_218
    have h := ite_f c11 h
    by_cases c13 : q8 = (101 : Int32)
    · have h := ite_t c13 h
      refine V_lookup hC 154 dX8_runOrder_77 (by decide) (by rw [c13]) (by decide) ?_
      refine V_aload_n hC dX8_runOrder_154 rfl 5 rfl ?_
      refine V_getR hC (r_s0_1) fw_X8_16 dX8_runOrder_155 ?_
      refine V_iload_n hC dX8_runOrder_158 rfl 4 rfl ?_
      refine V_iload_n hC dX8_runOrder_159 rfl 3 rfl ?_
      refine V_iload hC dX8_runOrder_160 2 rfl ?_
      refine V_iload hC dX8_runOrder_162 1 rfl ?_
      obtain ⟨q14, e14, h⟩ := bind_some h
      refine V_cVr hC [.int q1, .int q2, .int q3, .int q4] (c_X1_editNow (l := l) (rv := q14.1) (Mf := q14.2) hC.2.2.2.2.2.2.2 (by decide) e14) kd_X1_editNow kv_X1_editNow gw_802 (r_d0_0 (by decide)).o rfl ⟨Nat.le_of_ble_eq_true rfl, Nat.le_of_ble_eq_true rfl⟩ rfl (Nat.le_of_ble_eq_true rfl) dX8_runOrder_164 ⟨Nat.zero_le _, Nat.zero_le _⟩ rfl ?_
      refine V_pop hC dX8_runOrder_167 rfl ?_
      refine V_goto hC 217 dX8_runOrder_168 (by decide) ?_
      refine V_iconst hC (1 : Int32) dX8_runOrder_217 (by decide) ?_
      obtain ⟨rfl, rfl⟩ := Prod.mk.inj (Option.some.inj h)
      exact V_zret hC hr hlk (Or.inr rfl) dX8_runOrder_218
    have h := ite_f c13 h
    by_cases c15 : q8 = (103 : Int32)
    · have h := ite_t c15 h
      refine V_lookup hC 171 dX8_runOrder_77 (by decide) (by rw [c15]) (by decide) ?_
      refine V_aload_n hC dX8_runOrder_171 rfl 5 rfl ?_
      refine V_getR hC (r_s0_1) fw_X8_16 dX8_runOrder_172 ?_
      refine V_iload_n hC dX8_runOrder_175 rfl 4 rfl ?_
      refine V_iload_n hC dX8_runOrder_176 rfl 3 rfl ?_
      obtain ⟨q16, e16, h⟩ := bind_some h
      refine V_cVr hC [.int q1, .int q2] (c_X1_giveBackNow (l := l) (rv := q16.1) (Mf := q16.2) hC.2.2.2.2.2.2.2 (by decide) e16) kd_X1_giveBackNow kv_X1_giveBackNow gw_832 (r_d0_0 (by decide)).o rfl ⟨Nat.le_of_ble_eq_true rfl, Nat.le_of_ble_eq_true rfl⟩ rfl (Nat.le_of_ble_eq_true rfl) dX8_runOrder_177 ⟨Nat.zero_le _, Nat.zero_le _⟩ rfl ?_
      refine V_pop hC dX8_runOrder_180 rfl ?_
      refine V_goto hC 217 dX8_runOrder_181 (by decide) ?_
      refine V_iconst hC (1 : Int32) dX8_runOrder_217 (by decide) ?_
      obtain ⟨rfl, rfl⟩ := Prod.mk.inj (Option.some.inj h)
      exact V_zret hC hr hlk (Or.inr rfl) dX8_runOrder_218
    have h := ite_f c15 h
    by_cases c17 : q8 = (113 : Int32)
    · have h := ite_t c17 h
      refine V_lookup hC 128 dX8_runOrder_77 (by decide) (by rw [c17]) (by decide) ?_
      refine V_aload_n hC dX8_runOrder_128 rfl 5 rfl ?_
      refine V_getR hC (r_s0_1) fw_X8_16 dX8_runOrder_129 ?_
      refine V_iload_n hC dX8_runOrder_132 rfl 4 rfl ?_
      refine V_iload_n hC dX8_runOrder_133 rfl 3 rfl ?_
      refine V_iload hC dX8_runOrder_134 2 rfl ?_
      refine V_iload hC dX8_runOrder_136 1 rfl ?_
      refine V_iconst hC (1 : Int32) dX8_runOrder_138 (by decide) ?_
      refine V_icmp_ne hC 146 dX8_runOrder_139 (by decide) (fun c18 => ?_) (fun c18 => ?_)
      · have h := ite_f c18 h
        refine V_iconst hC (0 : Int32) dX8_runOrder_146 (by decide) ?_
        refine V_sub [] rfl ?_
        exact b_X8_runOrder_147 hC hr hlk h
      · have h := ite_t c18 h
        refine V_iconst hC (1 : Int32) dX8_runOrder_142 (by decide) ?_
        refine V_goto hC 147 dX8_runOrder_143 (by decide) ?_
        refine V_sub [] rfl ?_
        exact b_X8_runOrder_147 hC hr hlk h
    have h := ite_f c17 h
    refine V_lookup hC (off := 131) 208 dX8_runOrder_77 (by decide) (by rw [lv_osw c9 (by decide), lv_osw c11 (by decide), lv_osw c13 (by decide), lv_osw c15 (by decide), lv_osw c17 (by decide)] <;> rfl) (by decide) ?_
    refine V_aload_n hC dX8_runOrder_208 rfl 5 rfl ?_
    refine V_getR hC (r_s0_1) fw_X8_16 dX8_runOrder_209 ?_
    refine V_iload_n hC dX8_runOrder_212 rfl 4 rfl ?_
    refine V_iconst hC ((-1) : Int32) dX8_runOrder_213 (by decide) ?_
    obtain ⟨q20, e20, h⟩ := bind_some h
    refine V_cVv hC [.int q1, .int ((-1) : Int32)] (c_X1_passTicks (l := l) hC.2.2.2.2.2.2.2 (by decide) e20) kd_X1_passTicks kv_X1_passTicks gw_889 (r_d0_0 (by decide)).o rfl ⟨Nat.le_of_ble_eq_true rfl, Nat.le_of_ble_eq_true rfl⟩ rfl (Nat.le_of_ble_eq_true rfl) dX8_runOrder_214 ⟨Nat.zero_le _, Nat.zero_le _⟩ rfl ?_
    refine V_iconst hC (1 : Int32) dX8_runOrder_217 (by decide) ?_
    obtain ⟨rfl, rfl⟩ := Prod.mk.inj (Option.some.inj h)
    exact V_zret hC hr hlk (Or.inr rfl) dX8_runOrder_218
  · have h := ite_f c7 h
    refine V_iconst hC (0 : Int32) dX8_runOrder_67 (by decide) ?_
    obtain ⟨rfl, rfl⟩ := Prod.mk.inj (Option.some.inj h)
    exact V_zret hC hr hlk (Or.inl rfl) dX8_runOrder_68
end
