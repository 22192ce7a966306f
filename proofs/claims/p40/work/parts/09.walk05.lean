section
variable {p : Program} {l : Launch} {e : Env} {s : State} {m : MethodId} {args : Array Value} {below : List Frame} {meth : Method} {c : Code} {G : Geo}
theorem l_X8_carryOut_31 {rv : Int32} {Mf : Mem} (hC : Cx p s m args c cX8_carryOut RX8 3 G) (hr : meth.sig.returnType = some .int) (hlk : meth.locks = false) : ∀ (n : Nat) {x2 : Int32} {M : Mem} (h : L_X8_carryOut_31 n x2 M = some (rv, Mf)), V p l e (rmk 7) s m args below meth c 3 G 0 0 (MQ below (gQ G (some (.int rv)) Mf) args s 0 0 (gA G)) 31 [(0, .ref (adr G 6 0)), (2, .int x2)] [] M := by
  intro n
  induction n with
  | zero => intro x2 M h; cases h
  | succ n ih =>
    intro x2 M h
    have hk31 : ∀ (x2 : Int32) (M : Mem), L_X8_carryOut_31 n x2 M = some (rv, Mf) → V p l e (rmk 7) s m args below meth c 3 G 0 0 (MQ below (gQ G (some (.int rv)) Mf) args s 0 0 (gA G)) 31 [(0, .ref (adr G 6 0)), (2, .int x2)] [] M := fun _ _ z => ih z
    refine V_iload_n hC dX8_carryOut_31 rfl 1 rfl ?_
    refine V_aload_n hC dX8_carryOut_32 rfl 0 rfl ?_
    refine V_getR hC (r_s0_3) fw_X8_29 dX8_carryOut_33 ?_
    refine V_getI hC (f_s3_4) fw_X8_280 dX8_carryOut_36 ?_
    refine V_icmp_ge hC 62 dX8_carryOut_39 (by decide) (fun c4 => ?_) (fun c4 => ?_)
    · have h := ite_t c4 h
      refine V_aload_n hC dX8_carryOut_62 rfl 0 rfl ?_
      refine V_getR hC (r_s0_2) fw_X8_22 dX8_carryOut_63 ?_
      refine V_aload_n hC dX8_carryOut_66 rfl 0 rfl ?_
      refine V_getR hC (r_s0_0) fw_X8_12 dX8_carryOut_67 ?_
      obtain ⟨q5, e5, h⟩ := bind_some h
      refine V_cVv hC [.ref (adr G 0 0)] (c_X6_push (l := l) hC.2.2.2.2.2.2.2 (by decide) e5) kd_X6_push kv_X6_push gw_394 (r_s1_0).o rfl ⟨Nat.le_of_ble_eq_true rfl, Nat.le_of_ble_eq_true rfl⟩ rfl (Nat.le_of_ble_eq_true rfl) dX8_carryOut_70 ⟨Nat.zero_le _, Nat.zero_le _⟩ rfl ?_
      refine V_aload_n hC dX8_carryOut_73 rfl 0 rfl ?_
      refine V_getR hC (r_s0_0) fw_X8_12 dX8_carryOut_74 ?_
      refine V_aload_n hC dX8_carryOut_77 rfl 0 rfl ?_
      refine V_getR hC (r_s0_1) fw_X8_16 dX8_carryOut_78 ?_
      obtain ⟨q6, e6, h⟩ := bind_some h
      refine V_cVv hC [.ref (adr G 1 0)] (c_X1_copyFrom (l := l) hC.2.2.2.2.2.2.2 (by decide) (by decide) e6) kd_X1_copyFrom kv_X1_copyFrom gw_1093 (r_d0_0 (by decide)).o rfl ⟨Nat.le_of_ble_eq_true rfl, Nat.le_of_ble_eq_true rfl⟩ rfl (Nat.le_of_ble_eq_true rfl) dX8_carryOut_81 ⟨Nat.zero_le _, Nat.zero_le _⟩ rfl ?_
      refine V_aload_n hC dX8_carryOut_84 rfl 0 rfl ?_
      refine V_getR hC (r_s0_3) fw_X8_29 dX8_carryOut_85 ?_
      refine V_getI hC (f_s3_4) fw_X8_280 dX8_carryOut_88 ?_
      obtain ⟨rfl, rfl⟩ := Prod.mk.inj (Option.some.inj h)
      exact V_iret hC hr hlk dX8_carryOut_91
    · have h := ite_f c4 h
      refine V_aload_n hC dX8_carryOut_42 rfl 0 rfl ?_
      refine V_iload_n hC dX8_carryOut_43 rfl 1 rfl ?_
      obtain ⟨q7, e7, h⟩ := bind_some h
      refine V_cVr hC [.int x2] (c_X8_runOrder (l := l) (rv := q7.1) (Mf := q7.2) hC.2.2.2.2.2.2.2 e7) kd_X8_runOrder kv_X8_runOrder gw_1227 (r_s0_0).o rfl ⟨Nat.le_of_ble_eq_true rfl, Nat.le_of_ble_eq_true rfl⟩ rfl (Nat.le_of_ble_eq_true rfl) dX8_carryOut_44 ⟨Nat.zero_le _, Nat.zero_le _⟩ rfl ?_
      refine V_if_ne hC 56 dX8_carryOut_47 (by decide) (fun c8 => ?_) (fun c8 => ?_)
      · have h := ite_f c8 h
        refine V_iinc hC (x2 + 1) ([(2, .int (x2 + 1)), (0, .ref (adr G 6 0))]) dX8_carryOut_56 1 rfl rfl (by decide) rfl ?_
        refine V_goto hC 31 dX8_carryOut_59 (by decide) ?_
        refine V_sub [1, 0] rfl ?_
        exact hk31 _ _ h
      · have h := ite_t c8 h
        refine V_sipush hC ((-1000) : Int32) dX8_carryOut_50 (by decide) ?_
        refine V_iload_n hC dX8_carryOut_53 rfl 1 rfl ?_
        refine V_isub hC dX8_carryOut_54 ?_
        obtain ⟨rfl, rfl⟩ := Prod.mk.inj (Option.some.inj h)
        exact V_iret hC hr hlk dX8_carryOut_55
theorem c_X8_carryOut {l : Launch} {G : Geo} {rv : Int32} {Mf : Mem} {M : Mem} (hG : gD G) (h : f_X8_carryOut M = some (rv, Mf)) : Met l yX8_carryOut (.code yX8_carryOut cX8_carryOut 3 (some .int) :: GL) (rmk 7) (gP G [.ref (adr G 6 0)] M) (gQ G (some (.int rv)) Mf) 0 0 (gA G) := by
  refine Met_of (own := RX8) (L := [(0, .ref (adr G 6 0))]) hG (by decide +kernel) rfl (Nat.le_of_ble_eq_true rfl) rfl ?_
  intro p e s m args below meth c hC hr hlk
  refine V_aload_n hC dX8_carryOut_0 rfl 0 rfl ?_
  refine V_getR hC (r_s0_3) fw_X8_29 dX8_carryOut_1 ?_
  obtain ⟨q1, e1, h⟩ := bind_some h
  refine V_cVr hC [] (c_X3_parse (l := l) (rv := q1.1) (Mf := q1.2) hC.2.2.2.2.2.2.2 e1) kd_X3_parse kv_X3_parse gw_1188 (r_s3_0).o rfl ⟨Nat.le_of_ble_eq_true rfl, Nat.le_of_ble_eq_true rfl⟩ rfl (Nat.le_of_ble_eq_true rfl) dX8_carryOut_4 ⟨Nat.zero_le _, Nat.zero_le _⟩ rfl ?_
  refine V_istore_n hC ([(1, .int q1.1), (0, .ref (adr G 6 0))]) dX8_carryOut_7 rfl (by decide) rfl ?_
  refine V_iload_n hC dX8_carryOut_8 rfl 0 rfl ?_
  refine V_iconst hC ((-1) : Int32) dX8_carryOut_9 (by decide) ?_
  refine V_icmp_eq hC 18 dX8_carryOut_10 (by decide) (fun c2 => ?_) (fun c2 => ?_)
  · have h := ite_t c2 h
    refine V_aload_n hC dX8_carryOut_18 rfl 1 rfl ?_
    refine V_getR hC (r_s0_1) fw_X8_16 dX8_carryOut_19 ?_
    refine V_aload_n hC dX8_carryOut_22 rfl 1 rfl ?_
    refine V_getR hC (r_s0_0) fw_X8_12 dX8_carryOut_23 ?_
    obtain ⟨q3, e3, h⟩ := bind_some h
    refine V_cVv hC [.ref (adr G 0 0)] (c_X1_copyFrom (l := l) hC.2.2.2.2.2.2.2 (by decide) (by decide) e3) kd_X1_copyFrom kv_X1_copyFrom gw_1093 (r_d0_0 (by decide)).o rfl ⟨Nat.le_of_ble_eq_true rfl, Nat.le_of_ble_eq_true rfl⟩ rfl (Nat.le_of_ble_eq_true rfl) dX8_carryOut_26 ⟨Nat.zero_le _, Nat.zero_le _⟩ rfl ?_
    refine V_iconst hC (0 : Int32) dX8_carryOut_29 (by decide) ?_
    refine V_istore_n hC ([(2, .int (0 : Int32)), (1, .int q1.1), (0, .ref (adr G 6 0))]) dX8_carryOut_30 rfl (by decide) rfl ?_
    refine V_sub [2, 0] rfl ?_
    exact l_X8_carryOut_31 hC hr hlk FU h
  · have h := ite_f c2 h
    refine V_bipush hC ((-10) : Int32) dX8_carryOut_13 (by decide) ?_
    refine V_iload_n hC dX8_carryOut_15 rfl 0 rfl ?_
    refine V_isub hC dX8_carryOut_16 ?_
    obtain ⟨rfl, rfl⟩ := Prod.mk.inj (Option.some.inj h)
    exact V_iret hC hr hlk dX8_carryOut_17
theorem b_X8_floatBits_69 {rv : Int32} {x1 : UInt32} {x2 : Int32} {M : Mem} (hC : Cx p s m args c cX8_floatBits RX8 4 G) (hr : meth.sig.returnType = some .int) (hlk : meth.locks = false) (h : B_X8_floatBits_69 x1 x2 = some rv) : V p l e (rmk 0) s m args below meth c 4 G 0 0 (MQ below (gQ G (some (.int rv)) M) args s 0 0 (gA G)) 69 [(1, .float x1), (2, .int x2)] [] M := by
  refine V_fload_n hC dX8_floatBits_69 rfl 0 rfl ?_
  refine V_fconst1 hC dX8_floatBits_70 ?_
  obtain ⟨c4, h⟩ := ite_some h
  refine V_fsub hC dX8_floatBits_71 (of_nn c4) ?_
  refine V_ldcwf hC (1258291200 : UInt32) dX8_floatBits_72 gw_1060 ?_
  obtain ⟨c5, h⟩ := ite_some h
  refine V_fmul hC dX8_floatBits_75 (of_nn c5) ?_
  refine V_f2i hC dX8_floatBits_76 ?_
  refine V_istore_n hC ([(3, .int (FP.f2i (FP.fmul (FP.fsub x1 FP.fconst1) (1258291200 : UInt32)))), (1, .float x1), (2, .int x2)]) dX8_floatBits_77 rfl (by decide) rfl ?_
  refine V_iload_n hC dX8_floatBits_78 rfl 2 rfl ?_
  refine V_bipush hC (23 : Int32) dX8_floatBits_79 (by decide) ?_
  refine V_ishl hC dX8_floatBits_81 ?_
  refine V_iload_n hC dX8_floatBits_82 rfl 0 rfl ?_
  refine V_ior hC dX8_floatBits_83 ?_
  obtain rfl := Option.some.inj h
  exact V_iret hC hr hlk dX8_floatBits_84
theorem l_X8_floatBits_44 {rv : Int32} {M : Mem} (hC : Cx p s m args c cX8_floatBits RX8 4 G) (hr : meth.sig.returnType = some .int) (hlk : meth.locks = false) : ∀ (n : Nat) {x1 : UInt32} {x2 : Int32} {x3 : Int32} (h : L_X8_floatBits_44 n x1 x2 x3 = some rv), V p l e (rmk 0) s m args below meth c 4 G 0 0 (MQ below (gQ G (some (.int rv)) M) args s 0 0 (gA G)) 44 [(1, .float x1), (2, .int x2), (3, .int x3)] [] M := by
  intro n
  induction n with
  | zero => intro x1 x2 x3 h; cases h
  | succ n ih =>
    intro x1 x2 x3 h
    have hk44 : ∀ (x1 : UInt32) (x2 : Int32) (x3 : Int32), L_X8_floatBits_44 n x1 x2 x3 = some rv → V p l e (rmk 0) s m args below meth c 4 G 0 0 (MQ below (gQ G (some (.int rv)) M) args s 0 0 (gA G)) 44 [(1, .float x1), (2, .int x2), (3, .int x3)] [] M := fun _ _ _ z => ih z
    refine V_iload_n hC dX8_floatBits_44 rfl 2 rfl ?_
    refine V_bipush hC (64 : Int32) dX8_floatBits_45 (by decide) ?_
    refine V_icmp_ge hC 69 dX8_floatBits_47 (by decide) (fun c3 => ?_) (fun c3 => ?_)
    · have h := ite_t c3 h
      refine V_sub [0, 1] rfl ?_
      exact b_X8_floatBits_69 hC hr hlk h
    · have h := ite_f c3 h
      refine V_fload_n hC dX8_floatBits_50 rfl 0 rfl ?_
      refine V_fconst1 hC dX8_floatBits_51 ?_
      refine V_fcmp hC dX8_floatBits_52 ?_
      refine V_if_ge hC 69 dX8_floatBits_53 (by decide) (fun c6 => ?_) (fun c6 => ?_)
      · have h := ite_t c6 h
        refine V_sub [0, 1] rfl ?_
        exact b_X8_floatBits_69 hC hr hlk h
      · have h := ite_f c6 h
        refine V_fload_n hC dX8_floatBits_56 rfl 0 rfl ?_
        refine V_fconst2 hC dX8_floatBits_57 ?_
        obtain ⟨c7, h⟩ := ite_some h
        refine V_fmul hC dX8_floatBits_58 (of_nn c7) ?_
        refine V_fstore_n hC ([(1, .float (FP.fmul x1 FP.fconst2)), (2, .int x2), (3, .int x3)]) dX8_floatBits_59 rfl (by decide) rfl ?_
        refine V_iinc hC (x2 + ((-1) : Int32)) ([(2, .int (x2 + ((-1) : Int32))), (1, .float (FP.fmul x1 FP.fconst2)), (3, .int x3)]) dX8_floatBits_60 1 rfl rfl (by decide) rfl ?_
        refine V_iinc hC (x3 + 1) ([(3, .int (x3 + 1)), (2, .int (x2 + ((-1) : Int32))), (1, .float (FP.fmul x1 FP.fconst2))]) dX8_floatBits_63 2 rfl rfl (by decide) rfl ?_
        refine V_goto hC 44 dX8_floatBits_66 (by decide) ?_
        refine V_sub [2, 1, 0] rfl ?_
        exact hk44 _ _ _ h
theorem b_X8_floatBits_42 {rv : Int32} {x1 : UInt32} {x2 : Int32} {M : Mem} (hC : Cx p s m args c cX8_floatBits RX8 4 G) (hr : meth.sig.returnType = some .int) (hlk : meth.locks = false) (h : B_X8_floatBits_42 x1 x2 = some rv) : V p l e (rmk 0) s m args below meth c 4 G 0 0 (MQ below (gQ G (some (.int rv)) M) args s 0 0 (gA G)) 42 [(1, .float x1), (2, .int x2)] [] M := by
  refine V_iconst hC (0 : Int32) dX8_floatBits_42 (by decide) ?_
  refine V_istore_n hC ([(3, .int (0 : Int32)), (1, .float x1), (2, .int x2)]) dX8_floatBits_43 rfl (by decide) rfl ?_
  refine V_sub [1, 2, 0] rfl ?_
  exact l_X8_floatBits_44 hC hr hlk FU h
theorem l_X8_floatBits_15 {rv : Int32} {M : Mem} (hC : Cx p s m args c cX8_floatBits RX8 4 G) (hr : meth.sig.returnType = some .int) (hlk : meth.locks = false) : ∀ (n : Nat) {x1 : UInt32} {x2 : Int32} {x3 : Int32} (h : L_X8_floatBits_15 n x1 x2 x3 = some rv), V p l e (rmk 0) s m args below meth c 4 G 0 0 (MQ below (gQ G (some (.int rv)) M) args s 0 0 (gA G)) 15 [(1, .float x1), (2, .int x2), (3, .int x3)] [] M := by
  intro n
  induction n with
  | zero => intro x1 x2 x3 h; cases h
  | succ n ih =>
    intro x1 x2 x3 h
    have hk15 : ∀ (x1 : UInt32) (x2 : Int32) (x3 : Int32), L_X8_floatBits_15 n x1 x2 x3 = some rv → V p l e (rmk 0) s m args below meth c 4 G 0 0 (MQ below (gQ G (some (.int rv)) M) args s 0 0 (gA G)) 15 [(1, .float x1), (2, .int x2), (3, .int x3)] [] M := fun _ _ _ z => ih z
    refine V_iload_n hC dX8_floatBits_15 rfl 2 rfl ?_
    refine V_bipush hC (64 : Int32) dX8_floatBits_16 (by decide) ?_
    refine V_icmp_ge hC 42 dX8_floatBits_18 (by decide) (fun c2 => ?_) (fun c2 => ?_)
    · have h := ite_t c2 h
      refine V_sub [0, 1] rfl ?_
      exact b_X8_floatBits_42 hC hr hlk h
    · have h := ite_f c2 h
      refine V_fload_n hC dX8_floatBits_21 rfl 0 rfl ?_
      refine V_fconst2 hC dX8_floatBits_22 ?_
      refine V_fcmp hC dX8_floatBits_23 ?_
      refine V_if_lt hC 42 dX8_floatBits_24 (by decide) (fun c8 => ?_) (fun c8 => ?_)
      · have h := ite_t c8 h
        refine V_sub [0, 1] rfl ?_
        exact b_X8_floatBits_42 hC hr hlk h
      · have h := ite_f c8 h
        refine V_fload_n hC dX8_floatBits_27 rfl 0 rfl ?_
        refine V_ldcwf hC (1056964608 : UInt32) dX8_floatBits_28 gw_1059 ?_
        obtain ⟨c9, h⟩ := ite_some h
        refine V_fmul hC dX8_floatBits_31 (of_nn c9) ?_
        refine V_fstore_n hC ([(1, .float (FP.fmul x1 (1056964608 : UInt32))), (2, .int x2), (3, .int x3)]) dX8_floatBits_32 rfl (by decide) rfl ?_
        refine V_iinc hC (x2 + 1) ([(2, .int (x2 + 1)), (1, .float (FP.fmul x1 (1056964608 : UInt32))), (3, .int x3)]) dX8_floatBits_33 1 rfl rfl (by decide) rfl ?_
        refine V_iinc hC (x3 + 1) ([(3, .int (x3 + 1)), (2, .int (x2 + 1)), (1, .float (FP.fmul x1 (1056964608 : UInt32)))]) dX8_floatBits_36 2 rfl rfl (by decide) rfl ?_
        refine V_goto hC 15 dX8_floatBits_39 (by decide) ?_
        refine V_sub [2, 1, 0] rfl ?_
        exact hk15 _ _ _ h
theorem c_X8_floatBits {l : Launch} {G : Geo} {x0 : UInt32} {rv : Int32} {M : Mem} (hG : gD G) (h : f_X8_floatBits x0 = some rv) : Met l yX8_floatBits (.code yX8_floatBits cX8_floatBits 4 (some .int) :: GL) (rmk 0) (gP G [.float x0] M) (gQ G (some (.int rv)) M) 0 0 (gA G) := by
  refine Met_of (own := RX8) (L := [(0, .float x0)]) hG (by decide +kernel) rfl (Nat.le_of_ble_eq_true rfl) rfl ?_
  intro p e s m args below meth c hC hr hlk
  refine V_fload_n hC dX8_floatBits_0 rfl 0 rfl ?_
  refine V_fconst0 hC dX8_floatBits_1 ?_
  refine V_fcmp hC dX8_floatBits_2 ?_
  refine V_if_gt hC 8 dX8_floatBits_3 (by decide) (fun c1 => ?_) (fun c1 => ?_)
  · have h := ite_t c1 h
    refine V_fload_n hC dX8_floatBits_8 rfl 0 rfl ?_
    refine V_fstore_n hC ([(1, .float x0), (0, .float x0)]) dX8_floatBits_9 rfl (by decide) rfl ?_
    refine V_bipush hC (127 : Int32) dX8_floatBits_10 (by decide) ?_
    refine V_istore_n hC ([(2, .int (127 : Int32)), (1, .float x0), (0, .float x0)]) dX8_floatBits_12 rfl (by decide) rfl ?_
    refine V_iconst hC (0 : Int32) dX8_floatBits_13 (by decide) ?_
    refine V_istore_n hC ([(3, .int (0 : Int32)), (2, .int (127 : Int32)), (1, .float x0), (0, .float x0)]) dX8_floatBits_14 rfl (by decide) rfl ?_
    refine V_sub [2, 1, 0] rfl ?_
    exact l_X8_floatBits_15 hC hr hlk FU h
  · have h := ite_f c1 h
    refine V_iconst hC (0 : Int32) dX8_floatBits_6 (by decide) ?_
    obtain rfl := Option.some.inj h
    exact V_iret hC hr hlk dX8_floatBits_7
end
