section
variable {p : Program} {l : Launch} {e : Env} {s : State} {m : MethodId} {args : Array Value} {below : List Frame} {meth : Method} {c : Code} {G : Geo}
theorem b_X1_blockersOf_100 {g : Nat} {rv : Int32} {k42 : Int32 → Int32 → Option Int32} {x1 : Int32} {x2 : Int32} {x3 : Int32} {x4 : Int32} {x5 : Int32} {M : Mem} (hC : Cx p s m args c cX1_blockersOf RX1 6 G) (hr : meth.sig.returnType = some .int) (hlk : meth.locks = false) (hg : g < 6) (hk42 : ∀ (x4 : Int32) (x5 : Int32), k42 x4 x5 = some rv → V p l e (rmk 2) s m args below meth c 6 G 0 0 (MQ below (gQ G (some (.int rv)) M) args s 0 0 (gA G)) 42 [(0, .ref (adr G g 0)), (1, .int x1), (2, .int x2), (3, .int x3), (4, .int x4), (5, .int x5)] [] M) (h : B_X1_blockersOf_100 g k42 x1 x2 x3 x4 x5 M = some rv) : V p l e (rmk 2) s m args below meth c 6 G 0 0 (MQ below (gQ G (some (.int rv)) M) args s 0 0 (gA G)) 100 [(0, .ref (adr G g 0)), (1, .int x1), (2, .int x2), (3, .int x3), (4, .int x4), (5, .int x5)] [] M := by
  refine V_iinc hC (x5 + 1) ([(5, .int (x5 + 1)), (0, .ref (adr G g 0)), (1, .int x1), (2, .int x2), (3, .int x3), (4, .int x4)]) dX1_blockersOf_100 5 rfl rfl (by decide) rfl ?_
  refine V_goto hC 42 dX1_blockersOf_103 (by decide) ?_
  refine V_sub [1, 2, 3, 4, 5, 0] rfl ?_
  exact hk42 _ _ h
theorem b_X1_blockersOf_66 {g : Nat} {rv : Int32} {k42 : Int32 → Int32 → Option Int32} {x1 : Int32} {x2 : Int32} {x3 : Int32} {x4 : Int32} {x5 : Int32} {M : Mem} (hC : Cx p s m args c cX1_blockersOf RX1 6 G) (hr : meth.sig.returnType = some .int) (hlk : meth.locks = false) (hg : g < 6) (hk42 : ∀ (x4 : Int32) (x5 : Int32), k42 x4 x5 = some rv → V p l e (rmk 2) s m args below meth c 6 G 0 0 (MQ below (gQ G (some (.int rv)) M) args s 0 0 (gA G)) 42 [(0, .ref (adr G g 0)), (1, .int x1), (2, .int x2), (3, .int x3), (4, .int x4), (5, .int x5)] [] M) (h : B_X1_blockersOf_66 g k42 x1 x2 x3 x4 x5 M = some rv) : V p l e (rmk 2) s m args below meth c 6 G 0 0 (MQ below (gQ G (some (.int rv)) M) args s 0 0 (gA G)) 66 [(0, .ref (adr G g 0)), (1, .int x1), (2, .int x2), (3, .int x3), (4, .int x4), (5, .int x5)] [] M := by
  refine V_iload_n hC dX1_blockersOf_66 rfl 2 rfl ?_
  refine V_aload_n hC dX1_blockersOf_67 rfl 0 rfl ?_
  refine V_getR hC (r_d0_2 hg) fw_X1_28 dX1_blockersOf_68 ?_
  refine V_iload hC dX1_blockersOf_71 5 rfl ?_
  refine V_iconst hC (1 : Int32) dX1_blockersOf_73 (by decide) ?_
  obtain ⟨q7, e7, h⟩ := bind_some h
  refine V_cVr hC [.int x5, .int (1 : Int32)] (c_X5_fact (l := l) hC.2.2.2.2.2.2.2 hg e7) kd_X5_fact kv_X5_fact gw_650 (r_d12_0 hg).o rfl ⟨Nat.le_of_ble_eq_true rfl, Nat.le_of_ble_eq_true rfl⟩ rfl (Nat.le_of_ble_eq_true rfl) dX1_blockersOf_74 ⟨Nat.zero_le _, Nat.zero_le _⟩ rfl ?_
  refine V_cSNr hC [.int x2, .int q7] (c_X8_hasBit (l := l) hC.2.2.2.2.2.2.2 rfl) kd_X8_hasBit gw_505 nw_37 ⟨Nat.le_of_ble_eq_true rfl, Nat.le_of_ble_eq_true rfl⟩ rfl (Nat.le_of_ble_eq_true rfl) dX1_blockersOf_77 ⟨Nat.zero_le _, Nat.zero_le _⟩ rfl ?_
  refine V_if_eq hC 100 dX1_blockersOf_80 (by decide) (fun c9 => ?_) (fun c9 => ?_)
  · have h := ite_t c9 h
    exact b_X1_blockersOf_100 hC hr hlk hg hk42 h
  · have h := ite_f c9 h
    refine V_iload hC dX1_blockersOf_83 4 rfl ?_
    refine V_iconst hC (1 : Int32) dX1_blockersOf_85 (by decide) ?_
    refine V_aload_n hC dX1_blockersOf_86 rfl 0 rfl ?_
    refine V_getR hC (r_d0_2 hg) fw_X1_28 dX1_blockersOf_87 ?_
    refine V_iload hC dX1_blockersOf_90 5 rfl ?_
    refine V_iconst hC (0 : Int32) dX1_blockersOf_92 (by decide) ?_
    obtain ⟨q10, e10, h⟩ := bind_some h
    refine V_cVr hC [.int x5, .int (0 : Int32)] (c_X5_fact (l := l) hC.2.2.2.2.2.2.2 hg e10) kd_X5_fact kv_X5_fact gw_650 (r_d12_0 hg).o rfl ⟨Nat.le_of_ble_eq_true rfl, Nat.le_of_ble_eq_true rfl⟩ rfl (Nat.le_of_ble_eq_true rfl) dX1_blockersOf_93 ⟨Nat.zero_le _, Nat.zero_le _⟩ rfl ?_
    refine V_ishl hC dX1_blockersOf_96 ?_
    refine V_ior hC dX1_blockersOf_97 ?_
    refine V_istore hC ([(4, .int (x4 ||| ((1 : Int32) <<< (q10 &&& 31)))), (0, .ref (adr G g 0)), (1, .int x1), (2, .int x2), (3, .int x3), (5, .int x5)]) dX1_blockersOf_98 (by decide) rfl ?_
    refine V_sub [1, 2, 3, 4, 0, 5] rfl ?_
    exact b_X1_blockersOf_100 hC hr hlk hg hk42 h
theorem l_X1_blockersOf_42 {g : Nat} {rv : Int32} {x1 : Int32} {x2 : Int32} {x3 : Int32} {M : Mem} (hC : Cx p s m args c cX1_blockersOf RX1 6 G) (hr : meth.sig.returnType = some .int) (hlk : meth.locks = false) (hg : g < 6) : ∀ (n : Nat) {x4 : Int32} {x5 : Int32} (h : L_X1_blockersOf_42 g x1 x2 x3 M n x4 x5 = some rv), V p l e (rmk 2) s m args below meth c 6 G 0 0 (MQ below (gQ G (some (.int rv)) M) args s 0 0 (gA G)) 42 [(0, .ref (adr G g 0)), (1, .int x1), (2, .int x2), (3, .int x3), (4, .int x4), (5, .int x5)] [] M := by
  intro n
  induction n with
  | zero => intro x4 x5 h; cases h
  | succ n ih =>
    intro x4 x5 h
    have hk42 : ∀ (x4 : Int32) (x5 : Int32), L_X1_blockersOf_42 g x1 x2 x3 M n x4 x5 = some rv → V p l e (rmk 2) s m args below meth c 6 G 0 0 (MQ below (gQ G (some (.int rv)) M) args s 0 0 (gA G)) 42 [(0, .ref (adr G g 0)), (1, .int x1), (2, .int x2), (3, .int x3), (4, .int x4), (5, .int x5)] [] M := fun _ _ z => ih z
    refine V_iload hC dX1_blockersOf_42 5 rfl ?_
    refine V_iload_n hC dX1_blockersOf_44 rfl 1 rfl ?_
    refine V_icmp_ge hC 106 dX1_blockersOf_45 (by decide) (fun c5 => ?_) (fun c5 => ?_)
    · have h := ite_t c5 h
      refine V_iload hC dX1_blockersOf_106 4 rfl ?_
      obtain rfl := Option.some.inj h
      exact V_iret hC hr hlk dX1_blockersOf_108
    · have h := ite_f c5 h
      refine V_iload_n hC dX1_blockersOf_48 rfl 3 rfl ?_
      refine V_if_eq hC 66 dX1_blockersOf_49 (by decide) (fun c6 => ?_) (fun c6 => ?_)
      · have h := ite_t c6 h
        exact b_X1_blockersOf_66 hC hr hlk hg hk42 h
      · have h := ite_f c6 h
        refine V_aload_n hC dX1_blockersOf_52 rfl 0 rfl ?_
        refine V_getR hC (r_d0_2 hg) fw_X1_28 dX1_blockersOf_53 ?_
        refine V_iload hC dX1_blockersOf_56 5 rfl ?_
        refine V_iconst hC (3 : Int32) dX1_blockersOf_58 (by decide) ?_
        obtain ⟨q11, e11, h⟩ := bind_some h
        refine V_cVr hC [.int x5, .int (3 : Int32)] (c_X5_fact (l := l) hC.2.2.2.2.2.2.2 hg e11) kd_X5_fact kv_X5_fact gw_650 (r_d12_0 hg).o rfl ⟨Nat.le_of_ble_eq_true rfl, Nat.le_of_ble_eq_true rfl⟩ rfl (Nat.le_of_ble_eq_true rfl) dX1_blockersOf_59 ⟨Nat.zero_le _, Nat.zero_le _⟩ rfl ?_
        refine V_iconst hC (1 : Int32) dX1_blockersOf_62 (by decide) ?_
        refine V_icmp_eq hC 100 dX1_blockersOf_63 (by decide) (fun c12 => ?_) (fun c12 => ?_)
        · have h := ite_t c12 h
          exact b_X1_blockersOf_100 hC hr hlk hg hk42 h
        · have h := ite_f c12 h
          exact b_X1_blockersOf_66 hC hr hlk hg hk42 h
theorem b_X1_blockersOf_35 {g : Nat} {rv : Int32} {x1 : Int32} {x2 : Int32} {z0 : Int32} {M : Mem} (hC : Cx p s m args c cX1_blockersOf RX1 6 G) (hr : meth.sig.returnType = some .int) (hlk : meth.locks = false) (hg : g < 6) (h : B_X1_blockersOf_35 g x1 x2 z0 M = some rv) : V p l e (rmk 2) s m args below meth c 6 G 0 0 (MQ below (gQ G (some (.int rv)) M) args s 0 0 (gA G)) 35 [(0, .ref (adr G g 0)), (1, .int x1), (2, .int x2)] [.int z0] M := by
  refine V_istore_n hC ([(3, .int z0), (0, .ref (adr G g 0)), (1, .int x1), (2, .int x2)]) dX1_blockersOf_35 rfl (by decide) rfl ?_
  refine V_iconst hC (0 : Int32) dX1_blockersOf_36 (by decide) ?_
  refine V_istore hC ([(4, .int (0 : Int32)), (3, .int z0), (0, .ref (adr G g 0)), (1, .int x1), (2, .int x2)]) dX1_blockersOf_37 (by decide) rfl ?_
  refine V_iconst hC (0 : Int32) dX1_blockersOf_39 (by decide) ?_
  refine V_istore hC ([(5, .int (0 : Int32)), (4, .int (0 : Int32)), (3, .int z0), (0, .ref (adr G g 0)), (1, .int x1), (2, .int x2)]) dX1_blockersOf_40 (by decide) rfl ?_
  refine V_sub [3, 4, 5, 2, 1, 0] rfl ?_
  exact l_X1_blockersOf_42 hC hr hlk hg FU h
theorem c_X1_blockersOf {l : Launch} {G : Geo} {g : Nat} {x1 : Int32} {rv : Int32} {M : Mem} (hG : gD G) (hg : g < 6) (h : f_X1_blockersOf g x1 M = some rv) : Met l yX1_blockersOf (.code yX1_blockersOf cX1_blockersOf 6 (some .int) :: GL) (rmk 2) (gP G [.ref (adr G g 0), .int x1] M) (gQ G (some (.int rv)) M) 0 0 (gA G) := by
  refine Met_of (own := RX1) (L := [(0, .ref (adr G g 0)), (1, .int x1)]) hG (by decide +kernel) rfl (Nat.le_of_ble_eq_true rfl) rfl ?_
  intro p e s m args below meth c hC hr hlk
  refine V_aload_n hC dX1_blockersOf_0 rfl 0 rfl ?_
  refine V_getR hC (r_d0_0 hg) fw_X1_12 dX1_blockersOf_1 ?_
  refine V_aload_n hC dX1_blockersOf_4 rfl 0 rfl ?_
  refine V_getR hC (r_d0_2 hg) fw_X1_28 dX1_blockersOf_5 ?_
  refine V_iload_n hC dX1_blockersOf_8 rfl 1 rfl ?_
  refine V_iconst hC (1 : Int32) dX1_blockersOf_9 (by decide) ?_
  obtain ⟨q1, e1, h⟩ := bind_some h
  refine V_cVr hC [.int x1, .int (1 : Int32)] (c_X5_fact (l := l) hC.2.2.2.2.2.2.2 hg e1) kd_X5_fact kv_X5_fact gw_650 (r_d12_0 hg).o rfl ⟨Nat.le_of_ble_eq_true rfl, Nat.le_of_ble_eq_true rfl⟩ rfl (Nat.le_of_ble_eq_true rfl) dX1_blockersOf_10 ⟨Nat.zero_le _, Nat.zero_le _⟩ rfl ?_
  obtain ⟨q2, e2, h⟩ := bind_some h
  refine V_cVr hC [.int q1] (c_X7_overlapOf (l := l) hC.2.2.2.2.2.2.2 hg e2) kd_X7_overlapOf kv_X7_overlapOf gw_478 (r_d1_0 hg).o rfl ⟨Nat.le_of_ble_eq_true rfl, Nat.le_of_ble_eq_true rfl⟩ rfl (Nat.le_of_ble_eq_true rfl) dX1_blockersOf_13 ⟨Nat.zero_le _, Nat.zero_le _⟩ rfl ?_
  refine V_istore_n hC ([(2, .int q2), (0, .ref (adr G g 0)), (1, .int x1)]) dX1_blockersOf_16 rfl (by decide) rfl ?_
  refine V_aload_n hC dX1_blockersOf_17 rfl 1 rfl ?_
  refine V_getR hC (r_d0_2 hg) fw_X1_28 dX1_blockersOf_18 ?_
  refine V_iload_n hC dX1_blockersOf_21 rfl 2 rfl ?_
  refine V_iconst hC (3 : Int32) dX1_blockersOf_22 (by decide) ?_
  obtain ⟨q3, e3, h⟩ := bind_some h
  refine V_cVr hC [.int x1, .int (3 : Int32)] (c_X5_fact (l := l) hC.2.2.2.2.2.2.2 hg e3) kd_X5_fact kv_X5_fact gw_650 (r_d12_0 hg).o rfl ⟨Nat.le_of_ble_eq_true rfl, Nat.le_of_ble_eq_true rfl⟩ rfl (Nat.le_of_ble_eq_true rfl) dX1_blockersOf_23 ⟨Nat.zero_le _, Nat.zero_le _⟩ rfl ?_
  refine V_iconst hC (1 : Int32) dX1_blockersOf_26 (by decide) ?_
  refine V_icmp_ne hC 34 dX1_blockersOf_27 (by decide) (fun c4 => ?_) (fun c4 => ?_)
  · have h := ite_f c4 h
    refine V_iconst hC (0 : Int32) dX1_blockersOf_34 (by decide) ?_
    refine V_sub [1, 2, 0] rfl ?_
    exact b_X1_blockersOf_35 hC hr hlk hg h
  · have h := ite_t c4 h
    refine V_iconst hC (1 : Int32) dX1_blockersOf_30 (by decide) ?_
    refine V_goto hC 35 dX1_blockersOf_31 (by decide) ?_
    refine V_sub [1, 2, 0] rfl ?_
    exact b_X1_blockersOf_35 hC hr hlk hg h
theorem b_X1_startCopy_81 {g : Nat} {Mf : Mem} {k13 : Int32 → Int32 → Mem → Option Mem} {x1 : Int32} {x3 : Int32} {x4 : Int32} {x5 : Int32} {M : Mem} (hC : Cx p s m args c cX1_startCopy RX1 7 G) (hr : meth.sig.returnType = none) (hlk : meth.locks = false) (hg : g < 6) (hk13 : ∀ (x4 : Int32) (x5 : Int32) (M : Mem), k13 x4 x5 M = some Mf → V p l e (rmk 2) s m args below meth c 7 G 0 0 (MQ below (gQ G none Mf) args s 0 0 (gA G)) 13 [(0, .ref (adr G g 0)), (1, .int x1), (3, .int x3), (4, .int x4), (5, .int x5)] [] M) (h : B_X1_startCopy_81 g k13 x1 x3 x4 x5 M = some Mf) : V p l e (rmk 2) s m args below meth c 7 G 0 0 (MQ below (gQ G none Mf) args s 0 0 (gA G)) 81 [(0, .ref (adr G g 0)), (1, .int x1), (3, .int x3), (4, .int x4), (5, .int x5)] [] M := by
  refine V_iinc hC (x5 + 1) ([(5, .int (x5 + 1)), (0, .ref (adr G g 0)), (1, .int x1), (3, .int x3), (4, .int x4)]) dX1_startCopy_81 4 rfl rfl (by decide) rfl ?_
  refine V_goto hC 13 dX1_startCopy_84 (by decide) ?_
  refine V_sub [1, 2, 3, 4, 0] rfl ?_
  exact hk13 _ _ _ h
theorem l_X1_startCopy_13 {g : Nat} {Mf : Mem} {x1 : Int32} {x3 : Int32} (hC : Cx p s m args c cX1_startCopy RX1 7 G) (hr : meth.sig.returnType = none) (hlk : meth.locks = false) (hg : g < 6) : ∀ (n : Nat) {x4 : Int32} {x5 : Int32} {M : Mem} (h : L_X1_startCopy_13 g x1 x3 n x4 x5 M = some Mf), V p l e (rmk 2) s m args below meth c 7 G 0 0 (MQ below (gQ G none Mf) args s 0 0 (gA G)) 13 [(0, .ref (adr G g 0)), (1, .int x1), (3, .int x3), (4, .int x4), (5, .int x5)] [] M := by
  intro n
  induction n with
  | zero => intro x4 x5 M h; cases h
  | succ n ih =>
    intro x4 x5 M h
    have hk13 : ∀ (x4 : Int32) (x5 : Int32) (M : Mem), L_X1_startCopy_13 g x1 x3 n x4 x5 M = some Mf → V p l e (rmk 2) s m args below meth c 7 G 0 0 (MQ below (gQ G none Mf) args s 0 0 (gA G)) 13 [(0, .ref (adr G g 0)), (1, .int x1), (3, .int x3), (4, .int x4), (5, .int x5)] [] M := fun _ _ _ z => ih z
    refine V_iload hC dX1_startCopy_13 4 rfl ?_
    refine V_bipush hC (10 : Int32) dX1_startCopy_15 (by decide) ?_
    refine V_icmp_ge hC 87 dX1_startCopy_17 (by decide) (fun c2 => ?_) (fun c2 => ?_)
    · have h := ite_t c2 h
      refine V_aload_n hC dX1_startCopy_87 rfl 0 rfl ?_
      refine V_getR hC (r_d0_1 hg) fw_X1_21 dX1_startCopy_88 ?_
      refine V_iload_n hC dX1_startCopy_91 rfl 1 rfl ?_
      refine V_iload hC dX1_startCopy_92 3 rfl ?_
      refine V_aload_n hC dX1_startCopy_94 rfl 0 rfl ?_
      refine V_getR hC (r_d0_0 hg) fw_X1_12 dX1_startCopy_95 ?_
      obtain ⟨q3, e3, h⟩ := bind_some h
      refine V_cVv hC [.int x1, .int x4, .ref (adr G g 1)] (c_X0_copyDocument (l := l) hC.2.2.2.2.2.2.2 hg e3) kd_X0_copyDocument kv_X0_copyDocument gw_697 (r_d8_0 hg).o rfl ⟨Nat.le_of_ble_eq_true rfl, Nat.le_of_ble_eq_true rfl⟩ rfl (Nat.le_of_ble_eq_true rfl) dX1_startCopy_98 ⟨Nat.zero_le _, Nat.zero_le _⟩ rfl ?_
      obtain rfl := Option.some.inj h
      exact V_vret hC hr hlk dX1_startCopy_101
    · have h := ite_f c2 h
      refine V_iload_n hC dX1_startCopy_20 rfl 2 rfl ?_
      refine V_iload hC dX1_startCopy_21 4 rfl ?_
      refine V_cSNr hC [.int x3, .int x5] (c_X8_hasBit (l := l) hC.2.2.2.2.2.2.2 rfl) kd_X8_hasBit gw_505 nw_37 ⟨Nat.le_of_ble_eq_true rfl, Nat.le_of_ble_eq_true rfl⟩ rfl (Nat.le_of_ble_eq_true rfl) dX1_startCopy_23 ⟨Nat.zero_le _, Nat.zero_le _⟩ rfl ?_
      refine V_if_eq hC 81 dX1_startCopy_26 (by decide) (fun c5 => ?_) (fun c5 => ?_)
      · have h := ite_t c5 h
        exact b_X1_startCopy_81 hC hr hlk hg hk13 h
      · have h := ite_f c5 h
        refine V_aload_n hC dX1_startCopy_29 rfl 0 rfl ?_
        refine V_getR hC (r_d0_1 hg) fw_X1_21 dX1_startCopy_30 ?_
        refine V_iload hC dX1_startCopy_33 4 rfl ?_
        obtain ⟨q6, e6, h⟩ := bind_some h
        refine V_cVr hC [.int x5] (c_X0_isShared (l := l) hC.2.2.2.2.2.2.2 hg e6) kd_X0_isShared kv_X0_isShared gw_660 (r_d8_0 hg).o rfl ⟨Nat.le_of_ble_eq_true rfl, Nat.le_of_ble_eq_true rfl⟩ rfl (Nat.le_of_ble_eq_true rfl) dX1_startCopy_35 ⟨Nat.zero_le _, Nat.zero_le _⟩ rfl ?_
        refine V_if_ne hC 81 dX1_startCopy_38 (by decide) (fun c7 => ?_) (fun c7 => ?_)
        · have h := ite_f c7 h
          exact b_X1_startCopy_81 hC hr hlk hg hk13 h
        · have h := ite_t c7 h
          refine V_aload_n hC dX1_startCopy_41 rfl 0 rfl ?_
          refine V_getR hC (r_d0_0 hg) fw_X1_12 dX1_startCopy_42 ?_
          refine V_aload_n hC dX1_startCopy_45 rfl 0 rfl ?_
          refine V_getR hC (r_d0_1 hg) fw_X1_21 dX1_startCopy_46 ?_
          refine V_iload hC dX1_startCopy_49 4 rfl ?_
          refine V_iconst hC (1 : Int32) dX1_startCopy_51 (by decide) ?_
          obtain ⟨q8, e8, h⟩ := bind_some h
          refine V_cVr hC [.int x5, .int (1 : Int32)] (c_X0_fact (l := l) hC.2.2.2.2.2.2.2 hg e8) kd_X0_fact kv_X0_fact gw_616 (r_d8_0 hg).o rfl ⟨Nat.le_of_ble_eq_true rfl, Nat.le_of_ble_eq_true rfl⟩ rfl (Nat.le_of_ble_eq_true rfl) dX1_startCopy_52 ⟨Nat.zero_le _, Nat.zero_le _⟩ rfl ?_
          obtain ⟨q9, e9, h⟩ := bind_some h
          refine V_cVr hC [.int q8] (c_X7_subtreeOf (l := l) hC.2.2.2.2.2.2.2 hg e9) kd_X7_subtreeOf kv_X7_subtreeOf gw_491 (r_d1_0 hg).o rfl ⟨Nat.le_of_ble_eq_true rfl, Nat.le_of_ble_eq_true rfl⟩ rfl (Nat.le_of_ble_eq_true rfl) dX1_startCopy_55 ⟨Nat.zero_le _, Nat.zero_le _⟩ rfl ?_
          refine V_istore hC ([(6, .int q9), (0, .ref (adr G g 0)), (1, .int x1), (3, .int x3), (4, .int x4), (5, .int x5)]) dX1_startCopy_58 (by decide) rfl ?_
          refine V_aload_n hC dX1_startCopy_60 rfl 1 rfl ?_
          refine V_getR hC (r_d0_1 hg) fw_X1_21 dX1_startCopy_61 ?_
          refine V_iload_n hC dX1_startCopy_64 rfl 2 rfl ?_
          refine V_iload hC dX1_startCopy_65 0 rfl ?_
          refine V_iload hC dX1_startCopy_67 5 rfl ?_
          obtain ⟨q10, e10, h⟩ := bind_some h
          refine V_cVv hC [.int x1, .int q9, .int x5] (c_X0_copyOther (l := l) hC.2.2.2.2.2.2.2 hg e10) kd_X0_copyOther kv_X0_copyOther gw_677 (r_d8_0 hg).o rfl ⟨Nat.le_of_ble_eq_true rfl, Nat.le_of_ble_eq_true rfl⟩ rfl (Nat.le_of_ble_eq_true rfl) dX1_startCopy_69 ⟨Nat.zero_le _, Nat.zero_le _⟩ rfl ?_
          refine V_iload hC dX1_startCopy_72 4 rfl ?_
          refine V_iload hC dX1_startCopy_74 0 rfl ?_
          refine V_iconst hC ((-1) : Int32) dX1_startCopy_76 (by decide) ?_
          refine V_ixor hC dX1_startCopy_77 ?_
          refine V_iand hC dX1_startCopy_78 ?_
          refine V_istore hC ([(4, .int (x4 &&& (q9 ^^^ ((-1) : Int32)))), (6, .int q9), (0, .ref (adr G g 0)), (1, .int x1), (3, .int x3), (5, .int x5)]) dX1_startCopy_79 (by decide) rfl ?_
          refine V_sub [2, 3, 4, 0, 5] rfl ?_
          exact b_X1_startCopy_81 hC hr hlk hg hk13 h
theorem c_X1_startCopy {l : Launch} {G : Geo} {g : Nat} {x1 : Int32} {x2 : Int32} {x3 : Int32} {Mf : Mem} {M : Mem} (hG : gD G) (hg : g < 6) (h : f_X1_startCopy g x1 x2 x3 M = some Mf) : Met l yX1_startCopy (.code yX1_startCopy cX1_startCopy 7 none :: GL) (rmk 2) (gP G [.ref (adr G g 0), .int x1, .int x2, .int x3] M) (gQ G none Mf) 0 0 (gA G) := by
  refine Met_of (own := RX1) (L := [(0, .ref (adr G g 0)), (1, .int x1), (2, .int x2), (3, .int x3)]) hG (by decide +kernel) rfl (Nat.le_of_ble_eq_true rfl) rfl ?_
  intro p e s m args below meth c hC hr hlk
  refine V_aload_n hC dX1_startCopy_0 rfl 0 rfl ?_
  refine V_getR hC (r_d0_0 hg) fw_X1_12 dX1_startCopy_1 ?_
  refine V_iload_n hC dX1_startCopy_4 rfl 2 rfl ?_
  obtain ⟨q1, e1, h⟩ := bind_some h
  refine V_cVr hC [.int x2] (c_X7_subtreeOf (l := l) hC.2.2.2.2.2.2.2 hg e1) kd_X7_subtreeOf kv_X7_subtreeOf gw_491 (r_d1_0 hg).o rfl ⟨Nat.le_of_ble_eq_true rfl, Nat.le_of_ble_eq_true rfl⟩ rfl (Nat.le_of_ble_eq_true rfl) dX1_startCopy_5 ⟨Nat.zero_le _, Nat.zero_le _⟩ rfl ?_
  refine V_istore hC ([(4, .int q1), (0, .ref (adr G g 0)), (1, .int x1), (2, .int x2), (3, .int x3)]) dX1_startCopy_8 (by decide) rfl ?_
  refine V_iconst hC (0 : Int32) dX1_startCopy_10 (by decide) ?_
  refine V_istore hC ([(5, .int (0 : Int32)), (4, .int q1), (0, .ref (adr G g 0)), (1, .int x1), (2, .int x2), (3, .int x3)]) dX1_startCopy_11 (by decide) rfl ?_
  refine V_sub [2, 3, 5, 1, 0] rfl ?_
  exact l_X1_startCopy_13 hC hr hlk hg FU h
theorem l_X5_leave_29 {g : Nat} {k19 : Int32 → Mem → Option Mem} {Mf : Mem} {x2 : Int32} (hC : Cx p s m args c cX5_leave RX5 4 G) (hr : meth.sig.returnType = none) (hlk : meth.locks = false) (hg : g < 6) (hk19 : ∀ (x2 : Int32) (M : Mem), k19 x2 M = some Mf → V p l e (rmk 1) s m args below meth c 4 G 0 0 (MQ below (gQ G none Mf) args s 0 0 (gA G)) 19 [(0, .ref (adr G g 12)), (2, .int x2)] [] M) : ∀ (n : Nat) {x3 : Int32} {M : Mem} (h : L_X5_leave_29 g k19 x2 n x3 M = some Mf), V p l e (rmk 1) s m args below meth c 4 G 0 0 (MQ below (gQ G none Mf) args s 0 0 (gA G)) 29 [(0, .ref (adr G g 12)), (2, .int x2), (3, .int x3)] [] M := by
  intro n
  induction n with
  | zero => intro x3 M h; cases h
  | succ n ih =>
    intro x3 M h
    have hk29 : ∀ (x3 : Int32) (M : Mem), L_X5_leave_29 g k19 x2 n x3 M = some Mf → V p l e (rmk 1) s m args below meth c 4 G 0 0 (MQ below (gQ G none Mf) args s 0 0 (gA G)) 29 [(0, .ref (adr G g 12)), (2, .int x2), (3, .int x3)] [] M := fun _ _ z => ih z
    refine V_iload_n hC dX5_leave_29 rfl 2 rfl ?_
    refine V_iconst hC (4 : Int32) dX5_leave_30 (by decide) ?_
    refine V_icmp_ge hC 54 dX5_leave_31 (by decide) (fun c4 => ?_) (fun c4 => ?_)
    · have h := ite_t c4 h
      refine V_iinc hC (x2 + 1) ([(2, .int (x2 + 1)), (0, .ref (adr G g 12)), (3, .int x3)]) dX5_leave_54 1 rfl rfl (by decide) rfl ?_
      refine V_goto hC 19 dX5_leave_57 (by decide) ?_
      refine V_sub [1, 0] rfl ?_
      exact hk19 _ _ h
    · have h := ite_f c4 h
      refine V_aload_n hC dX5_leave_34 rfl 0 rfl ?_
      refine V_iload_n hC dX5_leave_35 rfl 1 rfl ?_
      refine V_iconst hC (1 : Int32) dX5_leave_36 (by decide) ?_
      refine V_isub hC dX5_leave_37 ?_
      refine V_iload_n hC dX5_leave_38 rfl 2 rfl ?_
      refine V_aload_n hC dX5_leave_39 rfl 0 rfl ?_
      refine V_iload_n hC dX5_leave_40 rfl 1 rfl ?_
      refine V_iload_n hC dX5_leave_41 rfl 2 rfl ?_
      obtain ⟨q5, e5, h⟩ := bind_some h
      refine V_cVr hC [.int x2, .int x3] (c_X5_fact (l := l) hC.2.2.2.2.2.2.2 hg e5) kd_X5_fact kv_X5_fact gw_280 (r_d12_0 hg).o rfl ⟨Nat.le_of_ble_eq_true rfl, Nat.le_of_ble_eq_true rfl⟩ rfl (Nat.le_of_ble_eq_true rfl) dX5_leave_42 ⟨Nat.zero_le _, Nat.zero_le _⟩ rfl ?_
      obtain ⟨q6, e6, h⟩ := bind_some h
      refine V_cVv hC [.int (x2 - (1 : Int32)), .int x3, .int q5] (c_X5_setFact (l := l) hC.2.2.2.2.2.2.2 hg e6) kd_X5_setFact kv_X5_setFact gw_638 (r_d12_0 hg).o rfl ⟨Nat.le_of_ble_eq_true rfl, Nat.le_of_ble_eq_true rfl⟩ rfl (Nat.le_of_ble_eq_true rfl) dX5_leave_45 ⟨Nat.zero_le _, Nat.zero_le _⟩ rfl ?_
      refine V_iinc hC (x3 + 1) ([(3, .int (x3 + 1)), (0, .ref (adr G g 12)), (2, .int x2)]) dX5_leave_48 2 rfl rfl (by decide) rfl ?_
      refine V_goto hC 29 dX5_leave_51 (by decide) ?_
      refine V_sub [1, 2, 0] rfl ?_
      exact hk29 _ _ h
theorem l_X5_leave_19 {g : Nat} {Mf : Mem} (hC : Cx p s m args c cX5_leave RX5 4 G) (hr : meth.sig.returnType = none) (hlk : meth.locks = false) (hg : g < 6) : ∀ (n : Nat) {x2 : Int32} {M : Mem} (h : L_X5_leave_19 g n x2 M = some Mf), V p l e (rmk 1) s m args below meth c 4 G 0 0 (MQ below (gQ G none Mf) args s 0 0 (gA G)) 19 [(0, .ref (adr G g 12)), (2, .int x2)] [] M := by
  intro n
  induction n with
  | zero => intro x2 M h; cases h
  | succ n ih =>
    intro x2 M h
    have hk19 : ∀ (x2 : Int32) (M : Mem), L_X5_leave_19 g n x2 M = some Mf → V p l e (rmk 1) s m args below meth c 4 G 0 0 (MQ below (gQ G none Mf) args s 0 0 (gA G)) 19 [(0, .ref (adr G g 12)), (2, .int x2)] [] M := fun _ _ z => ih z
    refine V_iload_n hC dX5_leave_19 rfl 1 rfl ?_
    refine V_aload_n hC dX5_leave_20 rfl 0 rfl ?_
    refine V_getI hC (f_d12_1 hg) fw_X5_19 dX5_leave_21 ?_
    refine V_icmp_ge hC 60 dX5_leave_24 (by decide) (fun c3 => ?_) (fun c3 => ?_)
    · have h := ite_t c3 h
      refine V_aload_n hC dX5_leave_60 rfl 0 rfl ?_
      refine V_dup hC dX5_leave_61 rfl ?_
      refine V_getI hC (f_d12_1 hg) fw_X5_19 dX5_leave_62 ?_
      refine V_iconst hC (1 : Int32) dX5_leave_65 (by decide) ?_
      refine V_isub hC dX5_leave_66 ?_
      refine V_putI hC (f_d12_1 hg) fw_X5_19 flp_5_1 dX5_leave_67 ?_
      obtain rfl := Option.some.inj h
      exact V_vret hC hr hlk dX5_leave_70
    · have h := ite_f c3 h
      refine V_iconst hC (0 : Int32) dX5_leave_27 (by decide) ?_
      refine V_istore_n hC ([(3, .int (0 : Int32)), (0, .ref (adr G g 12)), (2, .int x2)]) dX5_leave_28 rfl (by decide) rfl ?_
      refine V_sub [1, 2, 0] rfl ?_
      exact l_X5_leave_29 hC hr hlk hg hk19 FU h
theorem c_X5_leave {l : Launch} {G : Geo} {g : Nat} {x1 : Int32} {Mf : Mem} {M : Mem} (hG : gD G) (hg : g < 6) (h : f_X5_leave g x1 M = some Mf) : Met l yX5_leave (.code yX5_leave cX5_leave 4 none :: GL) (rmk 1) (gP G [.ref (adr G g 12), .int x1] M) (gQ G none Mf) 0 0 (gA G) := by
  refine Met_of (own := RX5) (L := [(0, .ref (adr G g 12)), (1, .int x1)]) hG (by decide +kernel) rfl (Nat.le_of_ble_eq_true rfl) rfl ?_
  intro p e s m args below meth c hC hr hlk
  refine V_iload_n hC dX5_leave_0 rfl 1 rfl ?_
  refine V_iconst hC (0 : Int32) dX5_leave_1 (by decide) ?_
  refine V_aload_n hC dX5_leave_2 rfl 0 rfl ?_
  refine V_getI hC (f_d12_1 hg) fw_X5_19 dX5_leave_3 ?_
  refine V_iconst hC (1 : Int32) dX5_leave_6 (by decide) ?_
  refine V_isub hC dX5_leave_7 ?_
  refine V_cSNr hC [.int x1, .int (0 : Int32), .int ((M.1 g 12 1) - (1 : Int32))] (c_X8_isWithin (l := l) hC.2.2.2.2.2.2.2 rfl) kd_X8_isWithin gw_444 nw_41 ⟨Nat.le_of_ble_eq_true rfl, Nat.le_of_ble_eq_true rfl⟩ rfl (Nat.le_of_ble_eq_true rfl) dX5_leave_8 ⟨Nat.zero_le _, Nat.zero_le _⟩ rfl ?_
  refine V_if_ne hC 15 dX5_leave_11 (by decide) (fun c2 => ?_) (fun c2 => ?_)
  · have h := ite_f c2 h
    refine V_iload_n hC dX5_leave_15 rfl 1 rfl ?_
    refine V_iconst hC (1 : Int32) dX5_leave_16 (by decide) ?_
    refine V_iadd hC dX5_leave_17 ?_
    refine V_istore_n hC ([(2, .int (x1 + (1 : Int32))), (0, .ref (adr G g 12)), (1, .int x1)]) dX5_leave_18 rfl (by decide) rfl ?_
    refine V_sub [1, 0] rfl ?_
    exact l_X5_leave_19 hC hr hlk hg FU h
  · have h := ite_t c2 h
    obtain rfl := Option.some.inj h
    exact V_vret hC hr hlk dX5_leave_14
theorem b_X1_lookAt_24 {g : Nat} {rv : Int32} {Mf : Mem} {x1 : Int32} {x2 : Int32} {z0 : Int32} {M : Mem} (hC : Cx p s m args c cX1_lookAt RX1 7 G) (hr : meth.sig.returnType = some .int) (hlk : meth.locks = false) (hg : g < 6) (h : B_X1_lookAt_24 g x1 x2 z0 M = some (rv, Mf)) : V p l e (rmk 3) s m args below meth c 7 G 0 0 (MQ below (gQ G (some (.int rv)) Mf) args s 0 0 (gA G)) 24 [(0, .ref (adr G g 0)), (1, .int x1), (2, .int x2)] [.int z0] M := by
  refine V_istore_n hC ([(3, .int z0), (0, .ref (adr G g 0)), (1, .int x1), (2, .int x2)]) dX1_lookAt_24 rfl (by decide) rfl ?_
  refine V_iload_n hC dX1_lookAt_25 rfl 0 rfl ?_
  refine V_if_eq hC 46 dX1_lookAt_26 (by decide) (fun c4 => ?_) (fun c4 => ?_)
  · have h := ite_t c4 h
    refine V_iconst hC ((-1) : Int32) dX1_lookAt_46 (by decide) ?_
    obtain ⟨rfl, rfl⟩ := Prod.mk.inj (Option.some.inj h)
    exact V_iret hC hr hlk dX1_lookAt_47
  · have h := ite_f c4 h
    refine V_aload_n hC dX1_lookAt_29 rfl 1 rfl ?_
    refine V_iload_n hC dX1_lookAt_30 rfl 2 rfl ?_
    refine V_iload_n hC dX1_lookAt_31 rfl 3 rfl ?_
    obtain ⟨q5, e5, h⟩ := bind_some h
    refine V_cVr hC [.int x1, .int x2] (c_X1_hinderersOf (l := l) hC.2.2.2.2.2.2.2 hg e5) kd_X1_hinderersOf kv_X1_hinderersOf gw_656 (r_d0_0 hg).o rfl ⟨Nat.le_of_ble_eq_true rfl, Nat.le_of_ble_eq_true rfl⟩ rfl (Nat.le_of_ble_eq_true rfl) dX1_lookAt_32 ⟨Nat.zero_le _, Nat.zero_le _⟩ rfl ?_
    refine V_if_ne hC 46 dX1_lookAt_35 (by decide) (fun c6 => ?_) (fun c6 => ?_)
    · have h := ite_f c6 h
      refine V_iconst hC ((-1) : Int32) dX1_lookAt_46 (by decide) ?_
      obtain ⟨rfl, rfl⟩ := Prod.mk.inj (Option.some.inj h)
      exact V_iret hC hr hlk dX1_lookAt_47
    · have h := ite_t c6 h
      refine V_aload_n hC dX1_lookAt_38 rfl 1 rfl ?_
      refine V_iload_n hC dX1_lookAt_39 rfl 2 rfl ?_
      obtain ⟨q7, e7, h⟩ := bind_some h
      refine V_cVr hC [.int x1] (c_X1_blockersOf (l := l) hC.2.2.2.2.2.2.2 hg e7) kd_X1_blockersOf kv_X1_blockersOf gw_664 (r_d0_0 hg).o rfl ⟨Nat.le_of_ble_eq_true rfl, Nat.le_of_ble_eq_true rfl⟩ rfl (Nat.le_of_ble_eq_true rfl) dX1_lookAt_40 ⟨Nat.zero_le _, Nat.zero_le _⟩ rfl ?_
      refine V_if_eq hC 48 dX1_lookAt_43 (by decide) (fun c8 => ?_) (fun c8 => ?_)
      · have h := ite_t c8 h
        refine V_aload_n hC dX1_lookAt_48 rfl 1 rfl ?_
        refine V_getR hC (r_d0_1 hg) fw_X1_21 dX1_lookAt_49 ?_
        refine V_iload_n hC dX1_lookAt_52 rfl 3 rfl ?_
        obtain ⟨q9, e9, h⟩ := bind_some h
        refine V_cVr hC [.int x2] (c_X0_lowestFree (l := l) hC.2.2.2.2.2.2.2 hg e9) kd_X0_lowestFree kv_X0_lowestFree gw_668 (r_d8_0 hg).o rfl ⟨Nat.le_of_ble_eq_true rfl, Nat.le_of_ble_eq_true rfl⟩ rfl (Nat.le_of_ble_eq_true rfl) dX1_lookAt_53 ⟨Nat.zero_le _, Nat.zero_le _⟩ rfl ?_
        refine V_istore hC ([(4, .int q9), (3, .int z0), (0, .ref (adr G g 0)), (1, .int x1), (2, .int x2)]) dX1_lookAt_56 (by decide) rfl ?_
        refine V_aload_n hC dX1_lookAt_58 rfl 2 rfl ?_
        refine V_getR hC (r_d0_2 hg) fw_X1_28 dX1_lookAt_59 ?_
        refine V_iload_n hC dX1_lookAt_62 rfl 3 rfl ?_
        refine V_iconst hC (1 : Int32) dX1_lookAt_63 (by decide) ?_
        obtain ⟨q10, e10, h⟩ := bind_some h
        refine V_cVr hC [.int x1, .int (1 : Int32)] (c_X5_fact (l := l) hC.2.2.2.2.2.2.2 hg e10) kd_X5_fact kv_X5_fact gw_650 (r_d12_0 hg).o rfl ⟨Nat.le_of_ble_eq_true rfl, Nat.le_of_ble_eq_true rfl⟩ rfl (Nat.le_of_ble_eq_true rfl) dX1_lookAt_64 ⟨Nat.zero_le _, Nat.zero_le _⟩ rfl ?_
        refine V_istore hC ([(5, .int q10), (4, .int q9), (3, .int z0), (0, .ref (adr G g 0)), (1, .int x1), (2, .int x2)]) dX1_lookAt_67 (by decide) rfl ?_
        refine V_aload_n hC dX1_lookAt_69 rfl 3 rfl ?_
        refine V_getI hC (f_d0_6 hg) fw_X1_63 dX1_lookAt_70 ?_
        refine V_aload_n hC dX1_lookAt_73 rfl 3 rfl ?_
        refine V_getR hC (r_d0_2 hg) fw_X1_28 dX1_lookAt_74 ?_
        refine V_iload_n hC dX1_lookAt_77 rfl 4 rfl ?_
        refine V_iconst hC (2 : Int32) dX1_lookAt_78 (by decide) ?_
        obtain ⟨q11, e11, h⟩ := bind_some h
        refine V_cVr hC [.int x1, .int (2 : Int32)] (c_X5_fact (l := l) hC.2.2.2.2.2.2.2 hg e11) kd_X5_fact kv_X5_fact gw_650 (r_d12_0 hg).o rfl ⟨Nat.le_of_ble_eq_true rfl, Nat.le_of_ble_eq_true rfl⟩ rfl (Nat.le_of_ble_eq_true rfl) dX1_lookAt_79 ⟨Nat.zero_le _, Nat.zero_le _⟩ rfl ?_
        refine V_iadd hC dX1_lookAt_82 ?_
        refine V_istore hC ([(6, .int ((M.1 g 0 6) + q11)), (5, .int q10), (4, .int q9), (3, .int z0), (0, .ref (adr G g 0)), (1, .int x1), (2, .int x2)]) dX1_lookAt_83 (by decide) rfl ?_
        refine V_aload_n hC dX1_lookAt_85 rfl 4 rfl ?_
        refine V_iload hC dX1_lookAt_86 2 rfl ?_
        refine V_iload hC dX1_lookAt_88 1 rfl ?_
        refine V_iload_n hC dX1_lookAt_90 rfl 6 rfl ?_
        obtain ⟨q12, e12, h⟩ := bind_some h
        refine V_cVv hC [.int q9, .int q10, .int x2] (c_X1_startCopy (l := l) hC.2.2.2.2.2.2.2 hg e12) kd_X1_startCopy kv_X1_startCopy gw_673 (r_d0_0 hg).o rfl ⟨Nat.le_of_ble_eq_true rfl, Nat.le_of_ble_eq_true rfl⟩ rfl (Nat.le_of_ble_eq_true rfl) dX1_lookAt_91 ⟨Nat.zero_le _, Nat.zero_le _⟩ rfl ?_
        refine V_aload_n hC dX1_lookAt_94 rfl 4 rfl ?_
        refine V_getR hC (r_d0_1 hg) fw_X1_21 dX1_lookAt_95 ?_
        refine V_iload_n hC dX1_lookAt_98 rfl 6 rfl ?_
        obtain ⟨q13, e13, h⟩ := bind_some h
        refine V_cVv hC [.int x2] (c_X0_closeAll (l := l) hC.2.2.2.2.2.2.2 hg e13) kd_X0_closeAll kv_X0_closeAll gw_702 (r_d8_0 hg).o rfl ⟨Nat.le_of_ble_eq_true rfl, Nat.le_of_ble_eq_true rfl⟩ rfl (Nat.le_of_ble_eq_true rfl) dX1_lookAt_99 ⟨Nat.zero_le _, Nat.zero_le _⟩ rfl ?_
        refine V_aload_n hC dX1_lookAt_102 rfl 4 rfl ?_
        refine V_getR hC (r_d0_1 hg) fw_X1_21 dX1_lookAt_103 ?_
        refine V_iload hC dX1_lookAt_106 2 rfl ?_
        refine V_aload_n hC dX1_lookAt_108 rfl 4 rfl ?_
        refine V_getR hC (r_d0_2 hg) fw_X1_28 dX1_lookAt_109 ?_
        refine V_iload_n hC dX1_lookAt_112 rfl 5 rfl ?_
        refine V_iconst hC (0 : Int32) dX1_lookAt_113 (by decide) ?_
        obtain ⟨q14, e14, h⟩ := bind_some h
        refine V_cVr hC [.int x1, .int (0 : Int32)] (c_X5_fact (l := l) hC.2.2.2.2.2.2.2 hg e14) kd_X5_fact kv_X5_fact gw_650 (r_d12_0 hg).o rfl ⟨Nat.le_of_ble_eq_true rfl, Nat.le_of_ble_eq_true rfl⟩ rfl (Nat.le_of_ble_eq_true rfl) dX1_lookAt_114 ⟨Nat.zero_le _, Nat.zero_le _⟩ rfl ?_
        refine V_iload hC dX1_lookAt_117 1 rfl ?_
        refine V_iload hC dX1_lookAt_119 0 rfl ?_
        refine V_aload_n hC dX1_lookAt_121 rfl 4 rfl ?_
        refine V_getR hC (r_d0_2 hg) fw_X1_28 dX1_lookAt_122 ?_
        refine V_iload_n hC dX1_lookAt_125 rfl 5 rfl ?_
        refine V_iconst hC (3 : Int32) dX1_lookAt_126 (by decide) ?_
        obtain ⟨q15, e15, h⟩ := bind_some h
        refine V_cVr hC [.int x1, .int (3 : Int32)] (c_X5_fact (l := l) hC.2.2.2.2.2.2.2 hg e15) kd_X5_fact kv_X5_fact gw_650 (r_d12_0 hg).o rfl ⟨Nat.le_of_ble_eq_true rfl, Nat.le_of_ble_eq_true rfl⟩ rfl (Nat.le_of_ble_eq_true rfl) dX1_lookAt_127 ⟨Nat.zero_le _, Nat.zero_le _⟩ rfl ?_
        obtain ⟨q16, e16, h⟩ := bind_some h
        refine V_cVv hC [.int q9, .int q14, .int q10, .int ((M.1 g 0 6) + q11), .int q15] (c_X0_open (l := l) hC.2.2.2.2.2.2.2 hg e16) kd_X0_open kv_X0_open gw_706 (r_d8_0 hg).o rfl ⟨Nat.le_of_ble_eq_true rfl, Nat.le_of_ble_eq_true rfl⟩ rfl (Nat.le_of_ble_eq_true rfl) dX1_lookAt_130 ⟨Nat.zero_le _, Nat.zero_le _⟩ rfl ?_
        refine V_aload_n hC dX1_lookAt_133 rfl 4 rfl ?_
        refine V_getR hC (r_d0_2 hg) fw_X1_28 dX1_lookAt_134 ?_
        refine V_iload_n hC dX1_lookAt_137 rfl 5 rfl ?_
        obtain ⟨q17, e17, h⟩ := bind_some h
        refine V_cVv hC [.int x1] (c_X5_leave (l := l) hC.2.2.2.2.2.2.2 hg e17) kd_X5_leave kv_X5_leave gw_715 (r_d12_0 hg).o rfl ⟨Nat.le_of_ble_eq_true rfl, Nat.le_of_ble_eq_true rfl⟩ rfl (Nat.le_of_ble_eq_true rfl) dX1_lookAt_138 ⟨Nat.zero_le _, Nat.zero_le _⟩ rfl ?_
        refine V_iload hC dX1_lookAt_141 2 rfl ?_
        obtain ⟨rfl, rfl⟩ := Prod.mk.inj (Option.some.inj h)
        exact V_iret hC hr hlk dX1_lookAt_143
      · have h := ite_f c8 h
        refine V_iconst hC ((-1) : Int32) dX1_lookAt_46 (by decide) ?_
        obtain ⟨rfl, rfl⟩ := Prod.mk.inj (Option.some.inj h)
        exact V_iret hC hr hlk dX1_lookAt_47
theorem c_X1_lookAt {l : Launch} {G : Geo} {g : Nat} {x1 : Int32} {rv : Int32} {Mf : Mem} {M : Mem} (hG : gD G) (hg : g < 6) (h : f_X1_lookAt g x1 M = some (rv, Mf)) : Met l yX1_lookAt (.code yX1_lookAt cX1_lookAt 7 (some .int) :: GL) (rmk 3) (gP G [.ref (adr G g 0), .int x1] M) (gQ G (some (.int rv)) Mf) 0 0 (gA G) := by
  refine Met_of (own := RX1) (L := [(0, .ref (adr G g 0)), (1, .int x1)]) hG (by decide +kernel) rfl (Nat.le_of_ble_eq_true rfl) rfl ?_
  intro p e s m args below meth c hC hr hlk
  refine V_aload_n hC dX1_lookAt_0 rfl 0 rfl ?_
  refine V_iload_n hC dX1_lookAt_1 rfl 1 rfl ?_
  obtain ⟨q1, e1, h⟩ := bind_some h
  refine V_cVr hC [.int x1] (c_X1_absorbedBy (l := l) hC.2.2.2.2.2.2.2 hg e1) kd_X1_absorbedBy kv_X1_absorbedBy gw_646 (r_d0_0 hg).o rfl ⟨Nat.le_of_ble_eq_true rfl, Nat.le_of_ble_eq_true rfl⟩ rfl (Nat.le_of_ble_eq_true rfl) dX1_lookAt_2 ⟨Nat.zero_le _, Nat.zero_le _⟩ rfl ?_
  refine V_istore_n hC ([(2, .int q1), (0, .ref (adr G g 0)), (1, .int x1)]) dX1_lookAt_5 rfl (by decide) rfl ?_
  refine V_aload_n hC dX1_lookAt_6 rfl 1 rfl ?_
  refine V_getR hC (r_d0_1 hg) fw_X1_21 dX1_lookAt_7 ?_
  refine V_iload_n hC dX1_lookAt_10 rfl 0 rfl ?_
  refine V_cVr hC [.int q1] (c_X0_countWithout (l := l) hC.2.2.2.2.2.2.2 hg rfl) kd_X0_countWithout kv_X0_countWithout gw_651 (r_d8_0 hg).o rfl ⟨Nat.le_of_ble_eq_true rfl, Nat.le_of_ble_eq_true rfl⟩ rfl (Nat.le_of_ble_eq_true rfl) dX1_lookAt_11 ⟨Nat.zero_le _, Nat.zero_le _⟩ rfl ?_
  refine V_bipush hC (10 : Int32) dX1_lookAt_14 (by decide) ?_
  refine V_icmp_ge hC 23 dX1_lookAt_16 (by decide) (fun c3 => ?_) (fun c3 => ?_)
  · have h := ite_t c3 h
    refine V_iconst hC (0 : Int32) dX1_lookAt_23 (by decide) ?_
    refine V_sub [1, 2, 0] rfl ?_
    exact b_X1_lookAt_24 hC hr hlk hg h
  · have h := ite_f c3 h
    refine V_iconst hC (1 : Int32) dX1_lookAt_19 (by decide) ?_
    refine V_goto hC 24 dX1_lookAt_20 (by decide) ?_
    refine V_sub [1, 2, 0] rfl ?_
    exact b_X1_lookAt_24 hC hr hlk hg h
theorem c_X1_requestNow {l : Launch} {G : Geo} {g : Nat} {x1 : Int32} {x2 : Int32} {x3 : Int32} {x4 : Int32} {rv : Int32} {Mf : Mem} {M : Mem} (hG : gD G) (hg : g < 6) (h : f_X1_requestNow g x1 x2 x3 x4 M = some (rv, Mf)) : Met l yX1_requestNow (.code yX1_requestNow cX1_requestNow 5 (some .int) :: GL) (rmk 4) (gP G [.ref (adr G g 0), .int x1, .int x2, .int x3, .int x4] M) (gQ G (some (.int rv)) Mf) 0 0 (gA G) := by
  refine Met_of (own := RX1) (L := [(0, .ref (adr G g 0)), (1, .int x1), (2, .int x2), (3, .int x3), (4, .int x4)]) hG (by decide +kernel) rfl (Nat.le_of_ble_eq_true rfl) rfl ?_
  intro p e s m args below meth c hC hr hlk
  refine V_aload_n hC dX1_requestNow_0 rfl 0 rfl ?_
  refine V_aload_n hC dX1_requestNow_1 rfl 0 rfl ?_
  refine V_getR hC (r_d0_2 hg) fw_X1_28 dX1_requestNow_2 ?_
  refine V_iload_n hC dX1_requestNow_5 rfl 1 rfl ?_
  refine V_iload_n hC dX1_requestNow_6 rfl 2 rfl ?_
  refine V_iload_n hC dX1_requestNow_7 rfl 3 rfl ?_
  refine V_iload hC dX1_requestNow_8 4 rfl ?_
  obtain ⟨q1, e1, h⟩ := bind_some h
  refine V_cVr hC [.int x1, .int x2, .int x3, .int x4] (c_X5_join (l := l) (rv := q1.1) (Mf := q1.2) hC.2.2.2.2.2.2.2 hg e1) kd_X5_join kv_X5_join gw_633 (r_d12_0 hg).o rfl ⟨Nat.le_of_ble_eq_true rfl, Nat.le_of_ble_eq_true rfl⟩ rfl (Nat.le_of_ble_eq_true rfl) dX1_requestNow_10 ⟨Nat.zero_le _, Nat.zero_le _⟩ rfl ?_
  obtain ⟨q2, e2, h⟩ := bind_some h
  refine V_cVr hC [.int q1.1] (c_X1_lookAt (l := l) (rv := q2.1) (Mf := q2.2) hC.2.2.2.2.2.2.2 hg e2) kd_X1_lookAt kv_X1_lookAt gw_642 (r_d0_0 hg).o rfl ⟨Nat.le_of_ble_eq_true rfl, Nat.le_of_ble_eq_true rfl⟩ rfl (Nat.le_of_ble_eq_true rfl) dX1_requestNow_13 ⟨Nat.zero_le _, Nat.zero_le _⟩ rfl ?_
  obtain ⟨rfl, rfl⟩ := Prod.mk.inj (Option.some.inj h)
  exact V_iret hC hr hlk dX1_requestNow_16
theorem b_X1_serve_39 {g : Nat} {rv : Int32} {Mf : Mem} {k15 : Int32 → Int32 → Int32 → Mem → Option (Int32 × Mem)} {x1 : Int32} {x2 : Int32} {x3 : Int32} {x4 : Int32} {M : Mem} (hC : Cx p s m args c cX1_serve RX1 5 G) (hr : meth.sig.returnType = some .int) (hlk : meth.locks = false) (hg : g < 6) (hk15 : ∀ (x1 : Int32) (x2 : Int32) (x4 : Int32) (M : Mem), k15 x1 x2 x4 M = some (rv, Mf) → V p l e (rmk 4) s m args below meth c 5 G 0 0 (MQ below (gQ G (some (.int rv)) Mf) args s 0 0 (gA G)) 15 [(0, .ref (adr G g 0)), (1, .int x1), (2, .int x2), (3, .int x3), (4, .int x4)] [] M) (h : B_X1_serve_39 g k15 x1 x2 x3 x4 M = some (rv, Mf)) : V p l e (rmk 4) s m args below meth c 5 G 0 0 (MQ below (gQ G (some (.int rv)) Mf) args s 0 0 (gA G)) 39 [(0, .ref (adr G g 0)), (1, .int x1), (2, .int x2), (3, .int x3), (4, .int x4)] [] M := by
  refine V_iinc hC (x4 + 1) ([(4, .int (x4 + 1)), (0, .ref (adr G g 0)), (1, .int x1), (2, .int x2), (3, .int x3)]) dX1_serve_39 4 rfl rfl (by decide) rfl ?_
  refine V_goto hC 15 dX1_serve_42 (by decide) ?_
  refine V_sub [1, 2, 3, 4, 0] rfl ?_
  exact hk15 _ _ _ _ h
theorem l_X1_serve_15 {g : Nat} {rv : Int32} {Mf : Mem} {x3 : Int32} (hC : Cx p s m args c cX1_serve RX1 5 G) (hr : meth.sig.returnType = some .int) (hlk : meth.locks = false) (hg : g < 6) : ∀ (n : Nat) {x1 : Int32} {x2 : Int32} {x4 : Int32} {M : Mem} (h : L_X1_serve_15 g x3 n x1 x2 x4 M = some (rv, Mf)), V p l e (rmk 4) s m args below meth c 5 G 0 0 (MQ below (gQ G (some (.int rv)) Mf) args s 0 0 (gA G)) 15 [(0, .ref (adr G g 0)), (1, .int x1), (2, .int x2), (3, .int x3), (4, .int x4)] [] M := by
  intro n
  induction n with
  | zero => intro x1 x2 x4 M h; cases h
  | succ n ih =>
    intro x1 x2 x4 M h
    have hk15 : ∀ (x1 : Int32) (x2 : Int32) (x4 : Int32) (M : Mem), L_X1_serve_15 g x3 n x1 x2 x4 M = some (rv, Mf) → V p l e (rmk 4) s m args below meth c 5 G 0 0 (MQ below (gQ G (some (.int rv)) Mf) args s 0 0 (gA G)) 15 [(0, .ref (adr G g 0)), (1, .int x1), (2, .int x2), (3, .int x3), (4, .int x4)] [] M := fun _ _ _ _ z => ih z
    refine V_iload hC dX1_serve_15 4 rfl ?_
    refine V_iload_n hC dX1_serve_17 rfl 3 rfl ?_
    refine V_icmp_ge hC 45 dX1_serve_18 (by decide) (fun c1 => ?_) (fun c1 => ?_)
    · have h := ite_t c1 h
      refine V_iload_n hC dX1_serve_45 rfl 2 rfl ?_
      obtain ⟨rfl, rfl⟩ := Prod.mk.inj (Option.some.inj h)
      exact V_iret hC hr hlk dX1_serve_46
    · have h := ite_f c1 h
      refine V_aload_n hC dX1_serve_21 rfl 0 rfl ?_
      refine V_iload_n hC dX1_serve_22 rfl 1 rfl ?_
      obtain ⟨q2, e2, h⟩ := bind_some h
      refine V_cVr hC [.int x1] (c_X1_lookAt (l := l) (rv := q2.1) (Mf := q2.2) hC.2.2.2.2.2.2.2 hg e2) kd_X1_lookAt kv_X1_lookAt gw_642 (r_d0_0 hg).o rfl ⟨Nat.le_of_ble_eq_true rfl, Nat.le_of_ble_eq_true rfl⟩ rfl (Nat.le_of_ble_eq_true rfl) dX1_serve_23 ⟨Nat.zero_le _, Nat.zero_le _⟩ rfl ?_
      refine V_iconst hC ((-1) : Int32) dX1_serve_26 (by decide) ?_
      refine V_icmp_ne hC 36 dX1_serve_27 (by decide) (fun c3 => ?_) (fun c3 => ?_)
      · have h := ite_f c3 h
        refine V_iinc hC (x2 + 1) ([(2, .int (x2 + 1)), (0, .ref (adr G g 0)), (1, .int x1), (3, .int x3), (4, .int x4)]) dX1_serve_36 2 rfl rfl (by decide) rfl ?_
        refine V_sub [1, 2, 0, 3, 4] rfl ?_
        exact b_X1_serve_39 hC hr hlk hg hk15 h
      · have h := ite_t c3 h
        refine V_iinc hC (x1 + 1) ([(1, .int (x1 + 1)), (0, .ref (adr G g 0)), (2, .int x2), (3, .int x3), (4, .int x4)]) dX1_serve_30 1 rfl rfl (by decide) rfl ?_
        refine V_goto hC 39 dX1_serve_33 (by decide) ?_
        refine V_sub [1, 0, 2, 3, 4] rfl ?_
        exact b_X1_serve_39 hC hr hlk hg hk15 h
theorem c_X1_serve {l : Launch} {G : Geo} {g : Nat} {rv : Int32} {Mf : Mem} {M : Mem} (hG : gD G) (hg : g < 6) (h : f_X1_serve g M = some (rv, Mf)) : Met l yX1_serve (.code yX1_serve cX1_serve 5 (some .int) :: GL) (rmk 4) (gP G [.ref (adr G g 0)] M) (gQ G (some (.int rv)) Mf) 0 0 (gA G) := by
  refine Met_of (own := RX1) (L := [(0, .ref (adr G g 0))]) hG (by decide +kernel) rfl (Nat.le_of_ble_eq_true rfl) rfl ?_
  intro p e s m args below meth c hC hr hlk
  refine V_iconst hC (0 : Int32) dX1_serve_0 (by decide) ?_
  refine V_istore_n hC ([(1, .int (0 : Int32)), (0, .ref (adr G g 0))]) dX1_serve_1 rfl (by decide) rfl ?_
  refine V_iconst hC (0 : Int32) dX1_serve_2 (by decide) ?_
  refine V_istore_n hC ([(2, .int (0 : Int32)), (1, .int (0 : Int32)), (0, .ref (adr G g 0))]) dX1_serve_3 rfl (by decide) rfl ?_
  refine V_aload_n hC dX1_serve_4 rfl 2 rfl ?_
  refine V_getR hC (r_d0_2 hg) fw_X1_28 dX1_serve_5 ?_
  refine V_getI hC (f_d12_1 hg) fw_X1_203 dX1_serve_8 ?_
  refine V_istore_n hC ([(3, .int (M.1 g 12 1)), (2, .int (0 : Int32)), (1, .int (0 : Int32)), (0, .ref (adr G g 0))]) dX1_serve_11 rfl (by decide) rfl ?_
  refine V_iconst hC (0 : Int32) dX1_serve_12 (by decide) ?_
  refine V_istore hC ([(4, .int (0 : Int32)), (3, .int (M.1 g 12 1)), (2, .int (0 : Int32)), (1, .int (0 : Int32)), (0, .ref (adr G g 0))]) dX1_serve_13 (by decide) rfl ?_
  refine V_sub [4, 3, 2, 1, 0] rfl ?_
  exact l_X1_serve_15 hC hr hlk hg FU h
theorem c_X1_usersBefore {l : Launch} {G : Geo} {g : Nat} {x1 : Int32} {rv : Int32} {M : Mem} (hG : gD G) (hg : g < 6) (h : f_X1_usersBefore g x1 M = some rv) : Met l yX1_usersBefore (.code yX1_usersBefore cX1_usersBefore 2 (some .int) :: GL) (rmk 3) (gP G [.ref (adr G g 0), .int x1] M) (gQ G (some (.int rv)) M) 0 0 (gA G) := by
  refine Met_of (own := RX1) (L := [(0, .ref (adr G g 0)), (1, .int x1)]) hG (by decide +kernel) rfl (Nat.le_of_ble_eq_true rfl) rfl ?_
  intro p e s m args below meth c hC hr hlk
  refine V_aload_n hC dX1_usersBefore_0 rfl 0 rfl ?_
  refine V_iload_n hC dX1_usersBefore_1 rfl 1 rfl ?_
  refine V_aload_n hC dX1_usersBefore_2 rfl 0 rfl ?_
  refine V_iload_n hC dX1_usersBefore_3 rfl 1 rfl ?_
  obtain ⟨q1, e1, h⟩ := bind_some h
  refine V_cVr hC [.int x1] (c_X1_absorbedBy (l := l) hC.2.2.2.2.2.2.2 hg e1) kd_X1_absorbedBy kv_X1_absorbedBy gw_646 (r_d0_0 hg).o rfl ⟨Nat.le_of_ble_eq_true rfl, Nat.le_of_ble_eq_true rfl⟩ rfl (Nat.le_of_ble_eq_true rfl) dX1_usersBefore_4 ⟨Nat.zero_le _, Nat.zero_le _⟩ rfl ?_
  obtain ⟨q2, e2, h⟩ := bind_some h
  refine V_cVr hC [.int x1, .int q1] (c_X1_hinderersOf (l := l) hC.2.2.2.2.2.2.2 hg e2) kd_X1_hinderersOf kv_X1_hinderersOf gw_656 (r_d0_0 hg).o rfl ⟨Nat.le_of_ble_eq_true rfl, Nat.le_of_ble_eq_true rfl⟩ rfl (Nat.le_of_ble_eq_true rfl) dX1_usersBefore_7 ⟨Nat.zero_le _, Nat.zero_le _⟩ rfl ?_
  refine V_aload_n hC dX1_usersBefore_10 rfl 0 rfl ?_
  refine V_iload_n hC dX1_usersBefore_11 rfl 1 rfl ?_
  obtain ⟨q3, e3, h⟩ := bind_some h
  refine V_cVr hC [.int x1] (c_X1_blockersOf (l := l) hC.2.2.2.2.2.2.2 hg e3) kd_X1_blockersOf kv_X1_blockersOf gw_664 (r_d0_0 hg).o rfl ⟨Nat.le_of_ble_eq_true rfl, Nat.le_of_ble_eq_true rfl⟩ rfl (Nat.le_of_ble_eq_true rfl) dX1_usersBefore_12 ⟨Nat.zero_le _, Nat.zero_le _⟩ rfl ?_
  refine V_ior hC dX1_usersBefore_15 ?_
  obtain rfl := Option.some.inj h
  exact V_iret hC hr hlk dX1_usersBefore_16
theorem b_X1_waitingFault_22 {g : Nat} {rv : Int32} {z0 : Int32} {z1 : Int32} {z2 : Int32} {M : Mem} (hC : Cx p s m args c cX1_waitingFault RX1 2 G) (hr : meth.sig.returnType = some .int) (hlk : meth.locks = false) (hg : g < 6) (h : B_X1_waitingFault_22 g z0 z1 z2 M = some rv) : V p l e (rmk 2) s m args below meth c 2 G 0 0 (MQ below (gQ G (some (.int rv)) M) args s 0 0 (gA G)) 22 [] [.int z0, .int z1, .int z2] M := by
  refine V_cSNr hC [.int z2, .int z1, .int z0] (c_X8_faultOf (l := l) hC.2.2.2.2.2.2.2 rfl) kd_X8_faultOf gw_289 nw_22 ⟨Nat.le_of_ble_eq_true rfl, Nat.le_of_ble_eq_true rfl⟩ rfl (Nat.le_of_ble_eq_true rfl) dX1_waitingFault_22 ⟨Nat.zero_le _, Nat.zero_le _⟩ rfl ?_
  obtain rfl := Option.some.inj h
  exact V_iret hC hr hlk dX1_waitingFault_25
theorem c_X1_waitingFault {l : Launch} {G : Geo} {g : Nat} {x1 : Int32} {rv : Int32} {M : Mem} (hG : gD G) (hg : g < 6) (h : f_X1_waitingFault g x1 M = some rv) : Met l yX1_waitingFault (.code yX1_waitingFault cX1_waitingFault 2 (some .int) :: GL) (rmk 2) (gP G [.ref (adr G g 0), .int x1] M) (gQ G (some (.int rv)) M) 0 0 (gA G) := by
  refine Met_of (own := RX1) (L := [(0, .ref (adr G g 0)), (1, .int x1)]) hG (by decide +kernel) rfl (Nat.le_of_ble_eq_true rfl) rfl ?_
  intro p e s m args below meth c hC hr hlk
  refine V_iload_n hC dX1_waitingFault_0 rfl 1 rfl ?_
  refine V_cSNr hC [.int x1] (c_X8_isUser (l := l) hC.2.2.2.2.2.2.2 rfl) kd_X8_isUser gw_627 nw_38 ⟨Nat.le_of_ble_eq_true rfl, Nat.le_of_ble_eq_true rfl⟩ rfl (Nat.le_of_ble_eq_true rfl) dX1_waitingFault_1 ⟨Nat.zero_le _, Nat.zero_le _⟩ rfl ?_
  refine V_iconst hC (1 : Int32) dX1_waitingFault_4 (by decide) ?_
  refine V_aload_n hC dX1_waitingFault_5 rfl 0 rfl ?_
  refine V_getR hC (r_d0_2 hg) fw_X1_28 dX1_waitingFault_6 ?_
  refine V_iload_n hC dX1_waitingFault_9 rfl 1 rfl ?_
  obtain ⟨q2, e2, h⟩ := bind_some h
  refine V_cVr hC [.int x1] (c_X5_placeOf (l := l) hC.2.2.2.2.2.2.2 hg e2) kd_X5_placeOf kv_X5_placeOf gw_618 (r_d12_0 hg).o rfl ⟨Nat.le_of_ble_eq_true rfl, Nat.le_of_ble_eq_true rfl⟩ rfl (Nat.le_of_ble_eq_true rfl) dX1_waitingFault_10 ⟨Nat.zero_le _, Nat.zero_le _⟩ rfl ?_
  refine V_iconst hC ((-1) : Int32) dX1_waitingFault_13 (by decide) ?_
  refine V_icmp_eq hC 21 dX1_waitingFault_14 (by decide) (fun c3 => ?_) (fun c3 => ?_)
  · have h := ite_t c3 h
    refine V_iconst hC (0 : Int32) dX1_waitingFault_21 (by decide) ?_
    refine V_sub [] rfl ?_
    exact b_X1_waitingFault_22 hC hr hlk hg h
  · have h := ite_f c3 h
    refine V_iconst hC (1 : Int32) dX1_waitingFault_17 (by decide) ?_
    refine V_goto hC 22 dX1_waitingFault_18 (by decide) ?_
    refine V_sub [] rfl ?_
    exact b_X1_waitingFault_22 hC hr hlk hg h
theorem c_X1_cancelNow {l : Launch} {G : Geo} {g : Nat} {x1 : Int32} {rv : Int32} {Mf : Mem} {M : Mem} (hG : gD G) (hg : g < 6) (h : f_X1_cancelNow g x1 M = some (rv, Mf)) : Met l yX1_cancelNow (.code yX1_cancelNow cX1_cancelNow 2 (some .int) :: GL) (rmk 5) (gP G [.ref (adr G g 0), .int x1] M) (gQ G (some (.int rv)) Mf) 0 0 (gA G) := by
  refine Met_of (own := RX1) (L := [(0, .ref (adr G g 0)), (1, .int x1)]) hG (by decide +kernel) rfl (Nat.le_of_ble_eq_true rfl) rfl ?_
  intro p e s m args below meth c hC hr hlk
  refine V_aload_n hC dX1_cancelNow_0 rfl 0 rfl ?_
  refine V_getR hC (r_d0_2 hg) fw_X1_28 dX1_cancelNow_1 ?_
  refine V_aload_n hC dX1_cancelNow_4 rfl 0 rfl ?_
  refine V_getR hC (r_d0_2 hg) fw_X1_28 dX1_cancelNow_5 ?_
  refine V_iload_n hC dX1_cancelNow_8 rfl 1 rfl ?_
  obtain ⟨q1, e1, h⟩ := bind_some h
  refine V_cVr hC [.int x1] (c_X5_placeOf (l := l) hC.2.2.2.2.2.2.2 hg e1) kd_X5_placeOf kv_X5_placeOf gw_618 (r_d12_0 hg).o rfl ⟨Nat.le_of_ble_eq_true rfl, Nat.le_of_ble_eq_true rfl⟩ rfl (Nat.le_of_ble_eq_true rfl) dX1_cancelNow_9 ⟨Nat.zero_le _, Nat.zero_le _⟩ rfl ?_
  obtain ⟨q2, e2, h⟩ := bind_some h
  refine V_cVv hC [.int q1] (c_X5_leave (l := l) hC.2.2.2.2.2.2.2 hg e2) kd_X5_leave kv_X5_leave gw_715 (r_d12_0 hg).o rfl ⟨Nat.le_of_ble_eq_true rfl, Nat.le_of_ble_eq_true rfl⟩ rfl (Nat.le_of_ble_eq_true rfl) dX1_cancelNow_12 ⟨Nat.zero_le _, Nat.zero_le _⟩ rfl ?_
  refine V_aload_n hC dX1_cancelNow_15 rfl 0 rfl ?_
  obtain ⟨q3, e3, h⟩ := bind_some h
  refine V_cVr hC [] (c_X1_serve (l := l) (rv := q3.1) (Mf := q3.2) hC.2.2.2.2.2.2.2 hg e3) kd_X1_serve kv_X1_serve gw_735 (r_d0_0 hg).o rfl ⟨Nat.le_of_ble_eq_true rfl, Nat.le_of_ble_eq_true rfl⟩ rfl (Nat.le_of_ble_eq_true rfl) dX1_cancelNow_16 ⟨Nat.zero_le _, Nat.zero_le _⟩ rfl ?_
  refine V_pop hC dX1_cancelNow_19 rfl ?_
  refine V_aload_n hC dX1_cancelNow_20 rfl 0 rfl ?_
  refine V_getR hC (r_d0_2 hg) fw_X1_28 dX1_cancelNow_21 ?_
  refine V_getI hC (f_d12_1 hg) fw_X1_203 dX1_cancelNow_24 ?_
  obtain ⟨rfl, rfl⟩ := Prod.mk.inj (Option.some.inj h)
  exact V_iret hC hr hlk dX1_cancelNow_27
theorem c_X1_checkOutFault {l : Launch} {G : Geo} {g : Nat} {x1 : Int32} {rv : Int32} {M : Mem} (hG : gD G) (hg : g < 6) (h : f_X1_checkOutFault g x1 M = rv) : Met l yX1_checkOutFault (.code yX1_checkOutFault cX1_checkOutFault 2 (some .int) :: GL) (rmk 1) (gP G [.ref (adr G g 0), .int x1] M) (gQ G (some (.int rv)) M) 0 0 (gA G) := by
  refine Met_of (own := RX1) (L := [(0, .ref (adr G g 0)), (1, .int x1)]) hG (by decide +kernel) rfl (Nat.le_of_ble_eq_true rfl) rfl ?_
  intro p e s m args below meth c hC hr hlk
  refine V_aload_n hC dX1_checkOutFault_0 rfl 0 rfl ?_
  refine V_getR hC (r_d0_1 hg) fw_X1_21 dX1_checkOutFault_1 ?_
  refine V_iload_n hC dX1_checkOutFault_4 rfl 1 rfl ?_
  refine V_cVr hC [.int x1] (c_X0_has (l := l) hC.2.2.2.2.2.2.2 hg rfl) kd_X0_has kv_X0_has gw_750 (r_d8_0 hg).o rfl ⟨Nat.le_of_ble_eq_true rfl, Nat.le_of_ble_eq_true rfl⟩ rfl (Nat.le_of_ble_eq_true rfl) dX1_checkOutFault_5 ⟨Nat.zero_le _, Nat.zero_le _⟩ rfl ?_
  refine V_iconst hC (1 : Int32) dX1_checkOutFault_8 (by decide) ?_
  refine V_iconst hC (1 : Int32) dX1_checkOutFault_9 (by decide) ?_
  refine V_cSNr hC [.int (f_X0_has g x1 M), .int (1 : Int32), .int (1 : Int32)] (c_X8_faultOf (l := l) hC.2.2.2.2.2.2.2 rfl) kd_X8_faultOf gw_289 nw_22 ⟨Nat.le_of_ble_eq_true rfl, Nat.le_of_ble_eq_true rfl⟩ rfl (Nat.le_of_ble_eq_true rfl) dX1_checkOutFault_10 ⟨Nat.zero_le _, Nat.zero_le _⟩ rfl ?_
  obtain rfl := id h
  exact V_iret hC hr hlk dX1_checkOutFault_13
theorem c_X1_sectionsOf {l : Launch} {G : Geo} {g : Nat} {x1 : Int32} {rv : Int32} {M : Mem} (hG : gD G) (hg : g < 6) (h : f_X1_sectionsOf g x1 M = some rv) : Met l yX1_sectionsOf (.code yX1_sectionsOf cX1_sectionsOf 2 (some .int) :: GL) (rmk 1) (gP G [.ref (adr G g 0), .int x1] M) (gQ G (some (.int rv)) M) 0 0 (gA G) := by
  refine Met_of (own := RX1) (L := [(0, .ref (adr G g 0)), (1, .int x1)]) hG (by decide +kernel) rfl (Nat.le_of_ble_eq_true rfl) rfl ?_
  intro p e s m args below meth c hC hr hlk
  refine V_aload_n hC dX1_sectionsOf_0 rfl 0 rfl ?_
  refine V_getR hC (r_d0_0 hg) fw_X1_12 dX1_sectionsOf_1 ?_
  refine V_aload_n hC dX1_sectionsOf_4 rfl 0 rfl ?_
  refine V_getR hC (r_d0_1 hg) fw_X1_21 dX1_sectionsOf_5 ?_
  refine V_iload_n hC dX1_sectionsOf_8 rfl 1 rfl ?_
  refine V_iconst hC (1 : Int32) dX1_sectionsOf_9 (by decide) ?_
  obtain ⟨q1, e1, h⟩ := bind_some h
  refine V_cVr hC [.int x1, .int (1 : Int32)] (c_X0_fact (l := l) hC.2.2.2.2.2.2.2 hg e1) kd_X0_fact kv_X0_fact gw_616 (r_d8_0 hg).o rfl ⟨Nat.le_of_ble_eq_true rfl, Nat.le_of_ble_eq_true rfl⟩ rfl (Nat.le_of_ble_eq_true rfl) dX1_sectionsOf_10 ⟨Nat.zero_le _, Nat.zero_le _⟩ rfl ?_
  obtain ⟨q2, e2, h⟩ := bind_some h
  refine V_cVr hC [.int q1] (c_X7_subtreeOf (l := l) hC.2.2.2.2.2.2.2 hg e2) kd_X7_subtreeOf kv_X7_subtreeOf gw_491 (r_d1_0 hg).o rfl ⟨Nat.le_of_ble_eq_true rfl, Nat.le_of_ble_eq_true rfl⟩ rfl (Nat.le_of_ble_eq_true rfl) dX1_sectionsOf_13 ⟨Nat.zero_le _, Nat.zero_le _⟩ rfl ?_
  obtain rfl := Option.some.inj h
  exact V_iret hC hr hlk dX1_sectionsOf_16
theorem c_X1_hasCopy {l : Launch} {G : Geo} {g : Nat} {x1 : Int32} {x2 : Int32} {x3 : Int32} {rv : Int32} {M : Mem} (hG : gD G) (hg : g < 6) (h : f_X1_hasCopy g x1 x2 x3 M = some rv) : Met l yX1_hasCopy (.code yX1_hasCopy cX1_hasCopy 4 (some .boolean) :: GL) (rmk 3) (gP G [.ref (adr G g 0), .int x1, .int x2, .int x3] M) (gQ G (some (.int rv)) M) 0 0 (gA G) := by
  refine Met_of (own := RX1) (L := [(0, .ref (adr G g 0)), (1, .int x1), (2, .int x2), (3, .int x3)]) hG (by decide +kernel) rfl (Nat.le_of_ble_eq_true rfl) rfl ?_
  intro p e s m args below meth c hC hr hlk
  refine V_aload_n hC dX1_hasCopy_0 rfl 0 rfl ?_
  refine V_getR hC (r_d0_1 hg) fw_X1_21 dX1_hasCopy_1 ?_
  refine V_iload_n hC dX1_hasCopy_4 rfl 1 rfl ?_
  refine V_cVr hC [.int x1] (c_X0_has (l := l) hC.2.2.2.2.2.2.2 hg rfl) kd_X0_has kv_X0_has gw_750 (r_d8_0 hg).o rfl ⟨Nat.le_of_ble_eq_true rfl, Nat.le_of_ble_eq_true rfl⟩ rfl (Nat.le_of_ble_eq_true rfl) dX1_hasCopy_5 ⟨Nat.zero_le _, Nat.zero_le _⟩ rfl ?_
  refine V_if_eq hC 36 dX1_hasCopy_8 (by decide) (fun c2 => ?_) (fun c2 => ?_)
  · have h := ite_t c2 h
    refine V_iconst hC (0 : Int32) dX1_hasCopy_36 (by decide) ?_
    obtain rfl := Option.some.inj h
    exact V_zret hC hr hlk (Or.inl rfl) dX1_hasCopy_37
  · have h := ite_f c2 h
    refine V_aload_n hC dX1_hasCopy_11 rfl 0 rfl ?_
    refine V_iload_n hC dX1_hasCopy_12 rfl 2 rfl ?_
    refine V_iload_n hC dX1_hasCopy_13 rfl 3 rfl ?_
    obtain ⟨q3, e3, h⟩ := bind_some h
    refine V_cVr hC [.int x2, .int x3] (c_X1_hasLine (l := l) hC.2.2.2.2.2.2.2 hg e3) kd_X1_hasLine kv_X1_hasLine gw_557 (r_d0_0 hg).o rfl ⟨Nat.le_of_ble_eq_true rfl, Nat.le_of_ble_eq_true rfl⟩ rfl (Nat.le_of_ble_eq_true rfl) dX1_hasCopy_14 ⟨Nat.zero_le _, Nat.zero_le _⟩ rfl ?_
    refine V_if_eq hC 36 dX1_hasCopy_17 (by decide) (fun c4 => ?_) (fun c4 => ?_)
    · have h := ite_t c4 h
      refine V_iconst hC (0 : Int32) dX1_hasCopy_36 (by decide) ?_
      obtain rfl := Option.some.inj h
      exact V_zret hC hr hlk (Or.inl rfl) dX1_hasCopy_37
    · have h := ite_f c4 h
      refine V_aload_n hC dX1_hasCopy_20 rfl 0 rfl ?_
      refine V_iload_n hC dX1_hasCopy_21 rfl 1 rfl ?_
      obtain ⟨q5, e5, h⟩ := bind_some h
      refine V_cVr hC [.int x1] (c_X1_sectionsOf (l := l) hC.2.2.2.2.2.2.2 hg e5) kd_X1_sectionsOf kv_X1_sectionsOf gw_798 (r_d0_0 hg).o rfl ⟨Nat.le_of_ble_eq_true rfl, Nat.le_of_ble_eq_true rfl⟩ rfl (Nat.le_of_ble_eq_true rfl) dX1_hasCopy_22 ⟨Nat.zero_le _, Nat.zero_le _⟩ rfl ?_
      refine V_iload_n hC dX1_hasCopy_25 rfl 2 rfl ?_
      refine V_cSNr hC [.int q5, .int x2] (c_X8_hasBit (l := l) hC.2.2.2.2.2.2.2 rfl) kd_X8_hasBit gw_505 nw_37 ⟨Nat.le_of_ble_eq_true rfl, Nat.le_of_ble_eq_true rfl⟩ rfl (Nat.le_of_ble_eq_true rfl) dX1_hasCopy_26 ⟨Nat.zero_le _, Nat.zero_le _⟩ rfl ?_
      refine V_if_eq hC 36 dX1_hasCopy_29 (by decide) (fun c7 => ?_) (fun c7 => ?_)
      · have h := ite_t c7 h
        refine V_iconst hC (0 : Int32) dX1_hasCopy_36 (by decide) ?_
        obtain rfl := Option.some.inj h
        exact V_zret hC hr hlk (Or.inl rfl) dX1_hasCopy_37
      · have h := ite_f c7 h
        refine V_iconst hC (1 : Int32) dX1_hasCopy_32 (by decide) ?_
        refine V_goto hC 37 dX1_hasCopy_33 (by decide) ?_
        obtain rfl := Option.some.inj h
        exact V_zret hC hr hlk (Or.inr rfl) dX1_hasCopy_37
theorem b_X1_renewFault_45 {g : Nat} {rv : Int32} {x1 : Int32} {x2 : Int32} {z0 : Int32} {M : Mem} (hC : Cx p s m args c cX1_renewFault RX1 5 G) (hr : meth.sig.returnType = some .int) (hlk : meth.locks = false) (hg : g < 6) (h : B_X1_renewFault_45 g x1 x2 z0 M = some rv) : V p l e (rmk 2) s m args below meth c 5 G 0 0 (MQ below (gQ G (some (.int rv)) M) args s 0 0 (gA G)) 45 [(0, .ref (adr G g 0)), (1, .int x1), (2, .int x2)] [.int z0] M := by
  refine V_istore hC ([(4, .int z0), (0, .ref (adr G g 0)), (1, .int x1), (2, .int x2)]) dX1_renewFault_45 (by decide) rfl ?_
  refine V_aload_n hC dX1_renewFault_47 rfl 1 rfl ?_
  refine V_getR hC (r_d0_1 hg) fw_X1_21 dX1_renewFault_48 ?_
  refine V_iload_n hC dX1_renewFault_51 rfl 2 rfl ?_
  refine V_cVr hC [.int x1] (c_X0_has (l := l) hC.2.2.2.2.2.2.2 hg rfl) kd_X0_has kv_X0_has gw_750 (r_d8_0 hg).o rfl ⟨Nat.le_of_ble_eq_true rfl, Nat.le_of_ble_eq_true rfl⟩ rfl (Nat.le_of_ble_eq_true rfl) dX1_renewFault_52 ⟨Nat.zero_le _, Nat.zero_le _⟩ rfl ?_
  refine V_iload_n hC dX1_renewFault_55 rfl 3 rfl ?_
  refine V_iconst hC (1 : Int32) dX1_renewFault_56 (by decide) ?_
  refine V_sipush hC (1000 : Int32) dX1_renewFault_57 (by decide) ?_
  refine V_cSNr hC [.int x2, .int (1 : Int32), .int (1000 : Int32)] (c_X8_isWithin (l := l) hC.2.2.2.2.2.2.2 rfl) kd_X8_isWithin gw_444 nw_34 ⟨Nat.le_of_ble_eq_true rfl, Nat.le_of_ble_eq_true rfl⟩ rfl (Nat.le_of_ble_eq_true rfl) dX1_renewFault_60 ⟨Nat.zero_le _, Nat.zero_le _⟩ rfl ?_
  refine V_iload hC dX1_renewFault_63 0 rfl ?_
  refine V_cSNr hC [.int (f_X0_has g x1 M), .int (f_X8_isWithin x2 (1 : Int32) (1000 : Int32)), .int z0] (c_X8_faultOf (l := l) hC.2.2.2.2.2.2.2 rfl) kd_X8_faultOf gw_289 nw_22 ⟨Nat.le_of_ble_eq_true rfl, Nat.le_of_ble_eq_true rfl⟩ rfl (Nat.le_of_ble_eq_true rfl) dX1_renewFault_65 ⟨Nat.zero_le _, Nat.zero_le _⟩ rfl ?_
  obtain rfl := Option.some.inj h
  exact V_iret hC hr hlk dX1_renewFault_68
theorem b_X1_renewFault_44 {g : Nat} {rv : Int32} {x1 : Int32} {x2 : Int32} {M : Mem} (hC : Cx p s m args c cX1_renewFault RX1 5 G) (hr : meth.sig.returnType = some .int) (hlk : meth.locks = false) (hg : g < 6) (h : B_X1_renewFault_44 g x1 x2 M = some rv) : V p l e (rmk 2) s m args below meth c 5 G 0 0 (MQ below (gQ G (some (.int rv)) M) args s 0 0 (gA G)) 44 [(0, .ref (adr G g 0)), (1, .int x1), (2, .int x2)] [] M := by
  refine V_iconst hC (0 : Int32) dX1_renewFault_44 (by decide) ?_
  exact b_X1_renewFault_45 hC hr hlk hg h
theorem c_X1_renewFault {l : Launch} {G : Geo} {g : Nat} {x1 : Int32} {x2 : Int32} {rv : Int32} {M : Mem} (hG : gD G) (hg : g < 6) (h : f_X1_renewFault g x1 x2 M = some rv) : Met l yX1_renewFault (.code yX1_renewFault cX1_renewFault 5 (some .int) :: GL) (rmk 2) (gP G [.ref (adr G g 0), .int x1, .int x2] M) (gQ G (some (.int rv)) M) 0 0 (gA G) := by
  refine Met_of (own := RX1) (L := [(0, .ref (adr G g 0)), (1, .int x1), (2, .int x2)]) hG (by decide +kernel) rfl (Nat.le_of_ble_eq_true rfl) rfl ?_
  intro p e s m args below meth c hC hr hlk
  refine V_aload_n hC dX1_renewFault_0 rfl 0 rfl ?_
  refine V_getR hC (r_d0_0 hg) fw_X1_12 dX1_renewFault_1 ?_
  refine V_aload_n hC dX1_renewFault_4 rfl 0 rfl ?_
  refine V_getR hC (r_d0_1 hg) fw_X1_21 dX1_renewFault_5 ?_
  refine V_iload_n hC dX1_renewFault_8 rfl 1 rfl ?_
  refine V_iconst hC (1 : Int32) dX1_renewFault_9 (by decide) ?_
  obtain ⟨q1, e1, h⟩ := bind_some h
  refine V_cVr hC [.int x1, .int (1 : Int32)] (c_X0_fact (l := l) hC.2.2.2.2.2.2.2 hg e1) kd_X0_fact kv_X0_fact gw_616 (r_d8_0 hg).o rfl ⟨Nat.le_of_ble_eq_true rfl, Nat.le_of_ble_eq_true rfl⟩ rfl (Nat.le_of_ble_eq_true rfl) dX1_renewFault_10 ⟨Nat.zero_le _, Nat.zero_le _⟩ rfl ?_
  obtain ⟨q2, e2, h⟩ := bind_some h
  refine V_cVr hC [.int q1] (c_X7_overlapOf (l := l) hC.2.2.2.2.2.2.2 hg e2) kd_X7_overlapOf kv_X7_overlapOf gw_478 (r_d1_0 hg).o rfl ⟨Nat.le_of_ble_eq_true rfl, Nat.le_of_ble_eq_true rfl⟩ rfl (Nat.le_of_ble_eq_true rfl) dX1_renewFault_13 ⟨Nat.zero_le _, Nat.zero_le _⟩ rfl ?_
  refine V_istore_n hC ([(3, .int q2), (0, .ref (adr G g 0)), (1, .int x1), (2, .int x2)]) dX1_renewFault_16 rfl (by decide) rfl ?_
  refine V_aload_n hC dX1_renewFault_17 rfl 1 rfl ?_
  refine V_getR hC (r_d0_1 hg) fw_X1_21 dX1_renewFault_18 ?_
  refine V_iload_n hC dX1_renewFault_21 rfl 2 rfl ?_
  obtain ⟨q3, e3, h⟩ := bind_some h
  refine V_cVr hC [.int x1] (c_X0_isHeld (l := l) hC.2.2.2.2.2.2.2 hg e3) kd_X0_isHeld kv_X0_isHeld gw_615 (r_d8_0 hg).o rfl ⟨Nat.le_of_ble_eq_true rfl, Nat.le_of_ble_eq_true rfl⟩ rfl (Nat.le_of_ble_eq_true rfl) dX1_renewFault_22 ⟨Nat.zero_le _, Nat.zero_le _⟩ rfl ?_
  refine V_if_eq hC 44 dX1_renewFault_25 (by decide) (fun c4 => ?_) (fun c4 => ?_)
  · have h := ite_t c4 h
    refine V_sub [1, 2, 3] rfl ?_
    exact b_X1_renewFault_44 hC hr hlk hg h
  · have h := ite_f c4 h
    refine V_aload_n hC dX1_renewFault_28 rfl 1 rfl ?_
    refine V_getR hC (r_d0_2 hg) fw_X1_28 dX1_renewFault_29 ?_
    obtain ⟨q8, e8, h⟩ := bind_some h
    refine V_cVr hC [] (c_X5_tops (l := l) hC.2.2.2.2.2.2.2 hg e8) kd_X5_tops kv_X5_tops gw_276 (r_d12_0 hg).o rfl ⟨Nat.le_of_ble_eq_true rfl, Nat.le_of_ble_eq_true rfl⟩ rfl (Nat.le_of_ble_eq_true rfl) dX1_renewFault_32 ⟨Nat.zero_le _, Nat.zero_le _⟩ rfl ?_
    refine V_iload_n hC dX1_renewFault_35 rfl 0 rfl ?_
    refine V_iand hC dX1_renewFault_36 ?_
    refine V_if_ne hC 44 dX1_renewFault_37 (by decide) (fun c9 => ?_) (fun c9 => ?_)
    · have h := ite_f c9 h
      refine V_sub [1, 2, 3] rfl ?_
      exact b_X1_renewFault_44 hC hr hlk hg h
    · have h := ite_t c9 h
      refine V_iconst hC (1 : Int32) dX1_renewFault_40 (by decide) ?_
      refine V_goto hC 45 dX1_renewFault_41 (by decide) ?_
      refine V_sub [1, 2, 3] rfl ?_
      exact b_X1_renewFault_45 hC hr hlk hg h
theorem c_X1_renewNow {l : Launch} {G : Geo} {g : Nat} {x1 : Int32} {x2 : Int32} {rv : Int32} {Mf : Mem} {M : Mem} (hG : gD G) (hg : g < 6) (h : f_X1_renewNow g x1 x2 M = some (rv, Mf)) : Met l yX1_renewNow (.code yX1_renewNow cX1_renewNow 3 (some .int) :: GL) (rmk 2) (gP G [.ref (adr G g 0), .int x1, .int x2] M) (gQ G (some (.int rv)) Mf) 0 0 (gA G) := by
  refine Met_of (own := RX1) (L := [(0, .ref (adr G g 0)), (1, .int x1), (2, .int x2)]) hG (by decide +kernel) rfl (Nat.le_of_ble_eq_true rfl) rfl ?_
  intro p e s m args below meth c hC hr hlk
  refine V_aload_n hC dX1_renewNow_0 rfl 0 rfl ?_
  refine V_getR hC (r_d0_1 hg) fw_X1_21 dX1_renewNow_1 ?_
  refine V_iload_n hC dX1_renewNow_4 rfl 1 rfl ?_
  refine V_aload_n hC dX1_renewNow_5 rfl 0 rfl ?_
  refine V_getI hC (f_d0_6 hg) fw_X1_63 dX1_renewNow_6 ?_
  refine V_iload_n hC dX1_renewNow_9 rfl 2 rfl ?_
  refine V_iadd hC dX1_renewNow_10 ?_
  obtain ⟨q1, e1, h⟩ := bind_some h
  refine V_cVv hC [.int x1, .int ((M.1 g 0 6) + x2)] (c_X0_setExpiry (l := l) hC.2.2.2.2.2.2.2 hg e1) kd_X0_setExpiry kv_X0_setExpiry gw_755 (r_d8_0 hg).o rfl ⟨Nat.le_of_ble_eq_true rfl, Nat.le_of_ble_eq_true rfl⟩ rfl (Nat.le_of_ble_eq_true rfl) dX1_renewNow_11 ⟨Nat.zero_le _, Nat.zero_le _⟩ rfl ?_
  refine V_aload_n hC dX1_renewNow_14 rfl 0 rfl ?_
  refine V_getR hC (r_d0_1 hg) fw_X1_21 dX1_renewNow_15 ?_
  refine V_iload_n hC dX1_renewNow_18 rfl 1 rfl ?_
  refine V_iconst hC (2 : Int32) dX1_renewNow_19 (by decide) ?_
  obtain ⟨q2, e2, h⟩ := bind_some h
  refine V_cVr hC [.int x1, .int (2 : Int32)] (c_X0_fact (l := l) hC.2.2.2.2.2.2.2 hg e2) kd_X0_fact kv_X0_fact gw_616 (r_d8_0 hg).o rfl ⟨Nat.le_of_ble_eq_true rfl, Nat.le_of_ble_eq_true rfl⟩ rfl (Nat.le_of_ble_eq_true rfl) dX1_renewNow_20 ⟨Nat.zero_le _, Nat.zero_le _⟩ rfl ?_
  obtain ⟨rfl, rfl⟩ := Prod.mk.inj (Option.some.inj h)
  exact V_iret hC hr hlk dX1_renewNow_23
theorem c_X1_breakFault {l : Launch} {G : Geo} {g : Nat} {x1 : Int32} {rv : Int32} {M : Mem} (hG : gD G) (hg : g < 6) (h : f_X1_breakFault g x1 M = some rv) : Met l yX1_breakFault (.code yX1_breakFault cX1_breakFault 2 (some .int) :: GL) (rmk 2) (gP G [.ref (adr G g 0), .int x1] M) (gQ G (some (.int rv)) M) 0 0 (gA G) := by
  refine Met_of (own := RX1) (L := [(0, .ref (adr G g 0)), (1, .int x1)]) hG (by decide +kernel) rfl (Nat.le_of_ble_eq_true rfl) rfl ?_
  intro p e s m args below meth c hC hr hlk
  refine V_aload_n hC dX1_breakFault_0 rfl 0 rfl ?_
  refine V_getR hC (r_d0_1 hg) fw_X1_21 dX1_breakFault_1 ?_
  refine V_iload_n hC dX1_breakFault_4 rfl 1 rfl ?_
  refine V_cVr hC [.int x1] (c_X0_has (l := l) hC.2.2.2.2.2.2.2 hg rfl) kd_X0_has kv_X0_has gw_750 (r_d8_0 hg).o rfl ⟨Nat.le_of_ble_eq_true rfl, Nat.le_of_ble_eq_true rfl⟩ rfl (Nat.le_of_ble_eq_true rfl) dX1_breakFault_5 ⟨Nat.zero_le _, Nat.zero_le _⟩ rfl ?_
  refine V_iconst hC (1 : Int32) dX1_breakFault_8 (by decide) ?_
  refine V_aload_n hC dX1_breakFault_9 rfl 0 rfl ?_
  refine V_getR hC (r_d0_1 hg) fw_X1_21 dX1_breakFault_10 ?_
  refine V_iload_n hC dX1_breakFault_13 rfl 1 rfl ?_
  obtain ⟨q2, e2, h⟩ := bind_some h
  refine V_cVr hC [.int x1] (c_X0_isHeld (l := l) hC.2.2.2.2.2.2.2 hg e2) kd_X0_isHeld kv_X0_isHeld gw_615 (r_d8_0 hg).o rfl ⟨Nat.le_of_ble_eq_true rfl, Nat.le_of_ble_eq_true rfl⟩ rfl (Nat.le_of_ble_eq_true rfl) dX1_breakFault_14 ⟨Nat.zero_le _, Nat.zero_le _⟩ rfl ?_
  refine V_cSNr hC [.int (f_X0_has g x1 M), .int (1 : Int32), .int q2] (c_X8_faultOf (l := l) hC.2.2.2.2.2.2.2 rfl) kd_X8_faultOf gw_289 nw_22 ⟨Nat.le_of_ble_eq_true rfl, Nat.le_of_ble_eq_true rfl⟩ rfl (Nat.le_of_ble_eq_true rfl) dX1_breakFault_17 ⟨Nat.zero_le _, Nat.zero_le _⟩ rfl ?_
  obtain rfl := Option.some.inj h
  exact V_iret hC hr hlk dX1_breakFault_20
theorem c_X1_breakNow {l : Launch} {G : Geo} {g : Nat} {x1 : Int32} {rv : Int32} {Mf : Mem} {M : Mem} (hG : gD G) (hg : g < 6) (h : f_X1_breakNow g x1 M = some (rv, Mf)) : Met l yX1_breakNow (.code yX1_breakNow cX1_breakNow 3 (some .int) :: GL) (rmk 5) (gP G [.ref (adr G g 0), .int x1] M) (gQ G (some (.int rv)) Mf) 0 0 (gA G) := by
  refine Met_of (own := RX1) (L := [(0, .ref (adr G g 0)), (1, .int x1)]) hG (by decide +kernel) rfl (Nat.le_of_ble_eq_true rfl) rfl ?_
  intro p e s m args below meth c hC hr hlk
  refine V_aload_n hC dX1_breakNow_0 rfl 0 rfl ?_
  refine V_getR hC (r_d0_1 hg) fw_X1_21 dX1_breakNow_1 ?_
  refine V_iload_n hC dX1_breakNow_4 rfl 1 rfl ?_
  refine V_iconst hC (0 : Int32) dX1_breakNow_5 (by decide) ?_
  obtain ⟨q1, e1, h⟩ := bind_some h
  refine V_cVr hC [.int x1, .int (0 : Int32)] (c_X0_fact (l := l) hC.2.2.2.2.2.2.2 hg e1) kd_X0_fact kv_X0_fact gw_616 (r_d8_0 hg).o rfl ⟨Nat.le_of_ble_eq_true rfl, Nat.le_of_ble_eq_true rfl⟩ rfl (Nat.le_of_ble_eq_true rfl) dX1_breakNow_6 ⟨Nat.zero_le _, Nat.zero_le _⟩ rfl ?_
  refine V_istore_n hC ([(2, .int q1), (0, .ref (adr G g 0)), (1, .int x1)]) dX1_breakNow_9 rfl (by decide) rfl ?_
  refine V_aload_n hC dX1_breakNow_10 rfl 1 rfl ?_
  refine V_getR hC (r_d0_1 hg) fw_X1_21 dX1_breakNow_11 ?_
  refine V_iload_n hC dX1_breakNow_14 rfl 2 rfl ?_
  obtain ⟨q2, e2, h⟩ := bind_some h
  refine V_cVv hC [.int x1] (c_X0_lose (l := l) hC.2.2.2.2.2.2.2 hg e2) kd_X0_lose kv_X0_lose gw_774 (r_d8_0 hg).o rfl ⟨Nat.le_of_ble_eq_true rfl, Nat.le_of_ble_eq_true rfl⟩ rfl (Nat.le_of_ble_eq_true rfl) dX1_breakNow_15 ⟨Nat.zero_le _, Nat.zero_le _⟩ rfl ?_
  refine V_aload_n hC dX1_breakNow_18 rfl 1 rfl ?_
  obtain ⟨q3, e3, h⟩ := bind_some h
  refine V_cVr hC [] (c_X1_serve (l := l) (rv := q3.1) (Mf := q3.2) hC.2.2.2.2.2.2.2 hg e3) kd_X1_serve kv_X1_serve gw_735 (r_d0_0 hg).o rfl ⟨Nat.le_of_ble_eq_true rfl, Nat.le_of_ble_eq_true rfl⟩ rfl (Nat.le_of_ble_eq_true rfl) dX1_breakNow_19 ⟨Nat.zero_le _, Nat.zero_le _⟩ rfl ?_
  refine V_pop hC dX1_breakNow_22 rfl ?_
  refine V_iload_n hC dX1_breakNow_23 rfl 0 rfl ?_
  obtain ⟨rfl, rfl⟩ := Prod.mk.inj (Option.some.inj h)
  exact V_iret hC hr hlk dX1_breakNow_24
theorem b_X1_countEdited_56 {g : Nat} {rv : Int32} {k11 : Int32 → Int32 → Option Int32} {x1 : Int32} {x2 : Int32} {x3 : Int32} {x4 : Int32} {M : Mem} (hC : Cx p s m args c cX1_countEdited RX1 5 G) (hr : meth.sig.returnType = some .int) (hlk : meth.locks = false) (hg : g < 6) (hk11 : ∀ (x3 : Int32) (x4 : Int32), k11 x3 x4 = some rv → V p l e (rmk 2) s m args below meth c 5 G 0 0 (MQ below (gQ G (some (.int rv)) M) args s 0 0 (gA G)) 11 [(0, .ref (adr G g 0)), (1, .int x1), (2, .int x2), (3, .int x3), (4, .int x4)] [] M) (h : B_X1_countEdited_56 g k11 x1 x2 x3 x4 M = some rv) : V p l e (rmk 2) s m args below meth c 5 G 0 0 (MQ below (gQ G (some (.int rv)) M) args s 0 0 (gA G)) 56 [(0, .ref (adr G g 0)), (1, .int x1), (2, .int x2), (3, .int x3), (4, .int x4)] [] M := by
  refine V_iinc hC (x4 + 1) ([(4, .int (x4 + 1)), (0, .ref (adr G g 0)), (1, .int x1), (2, .int x2), (3, .int x3)]) dX1_countEdited_56 4 rfl rfl (by decide) rfl ?_
  refine V_goto hC 11 dX1_countEdited_59 (by decide) ?_
  refine V_sub [1, 2, 3, 4, 0] rfl ?_
  exact hk11 _ _ h
theorem l_X1_countEdited_11 {g : Nat} {rv : Int32} {x1 : Int32} {x2 : Int32} {M : Mem} (hC : Cx p s m args c cX1_countEdited RX1 5 G) (hr : meth.sig.returnType = some .int) (hlk : meth.locks = false) (hg : g < 6) : ∀ (n : Nat) {x3 : Int32} {x4 : Int32} (h : L_X1_countEdited_11 g x1 x2 M n x3 x4 = some rv), V p l e (rmk 2) s m args below meth c 5 G 0 0 (MQ below (gQ G (some (.int rv)) M) args s 0 0 (gA G)) 11 [(0, .ref (adr G g 0)), (1, .int x1), (2, .int x2), (3, .int x3), (4, .int x4)] [] M := by
  intro n
  induction n with
  | zero => intro x3 x4 h; cases h
  | succ n ih =>
    intro x3 x4 h
    have hk11 : ∀ (x3 : Int32) (x4 : Int32), L_X1_countEdited_11 g x1 x2 M n x3 x4 = some rv → V p l e (rmk 2) s m args below meth c 5 G 0 0 (MQ below (gQ G (some (.int rv)) M) args s 0 0 (gA G)) 11 [(0, .ref (adr G g 0)), (1, .int x1), (2, .int x2), (3, .int x3), (4, .int x4)] [] M := fun _ _ z => ih z
    refine V_iload hC dX1_countEdited_11 4 rfl ?_
    refine V_bipush hC (120 : Int32) dX1_countEdited_13 (by decide) ?_
    refine V_icmp_ge hC 62 dX1_countEdited_15 (by decide) (fun c2 => ?_) (fun c2 => ?_)
    · have h := ite_t c2 h
      refine V_iload_n hC dX1_countEdited_62 rfl 3 rfl ?_
      obtain rfl := Option.some.inj h
      exact V_iret hC hr hlk dX1_countEdited_63
    · have h := ite_f c2 h
      refine V_iload_n hC dX1_countEdited_18 rfl 2 rfl ?_
      refine V_iload hC dX1_countEdited_19 4 rfl ?_
      refine V_bipush hC (6 : Int32) dX1_countEdited_21 (by decide) ?_
      refine V_idiv hC dX1_countEdited_23 (by decide) ?_
      refine V_cSNr hC [.int x2, .int (x4 / (6 : Int32))] (c_X8_hasBit (l := l) hC.2.2.2.2.2.2.2 rfl) kd_X8_hasBit gw_505 nw_37 ⟨Nat.le_of_ble_eq_true rfl, Nat.le_of_ble_eq_true rfl⟩ rfl (Nat.le_of_ble_eq_true rfl) dX1_countEdited_24 ⟨Nat.zero_le _, Nat.zero_le _⟩ rfl ?_
      refine V_if_eq hC 56 dX1_countEdited_27 (by decide) (fun c4 => ?_) (fun c4 => ?_)
      · have h := ite_t c4 h
        exact b_X1_countEdited_56 hC hr hlk hg hk11 h
      · have h := ite_f c4 h
        refine V_aload_n hC dX1_countEdited_30 rfl 0 rfl ?_
        refine V_getR hC (r_d0_1 hg) fw_X1_21 dX1_countEdited_31 ?_
        refine V_iload_n hC dX1_countEdited_34 rfl 1 rfl ?_
        refine V_iload hC dX1_countEdited_35 4 rfl ?_
        obtain ⟨q5, e5, h⟩ := bind_some h
        refine V_cVr hC [.int x1, .int x4] (c_X0_ownAt (l := l) hC.2.2.2.2.2.2.2 hg e5) kd_X0_ownAt kv_X0_ownAt gw_806 (r_d8_0 hg).o rfl ⟨Nat.le_of_ble_eq_true rfl, Nat.le_of_ble_eq_true rfl⟩ rfl (Nat.le_of_ble_eq_true rfl) dX1_countEdited_37 ⟨Nat.zero_le _, Nat.zero_le _⟩ rfl ?_
        refine V_aload_n hC dX1_countEdited_40 rfl 0 rfl ?_
        refine V_getR hC (r_d0_1 hg) fw_X1_21 dX1_countEdited_41 ?_
        refine V_iload_n hC dX1_countEdited_44 rfl 1 rfl ?_
        refine V_iload hC dX1_countEdited_45 4 rfl ?_
        obtain ⟨q6, e6, h⟩ := bind_some h
        refine V_cVr hC [.int x1, .int x4] (c_X0_baseAt (l := l) hC.2.2.2.2.2.2.2 hg e6) kd_X0_baseAt kv_X0_baseAt gw_831 (r_d8_0 hg).o rfl ⟨Nat.le_of_ble_eq_true rfl, Nat.le_of_ble_eq_true rfl⟩ rfl (Nat.le_of_ble_eq_true rfl) dX1_countEdited_47 ⟨Nat.zero_le _, Nat.zero_le _⟩ rfl ?_
        refine V_icmp_eq hC 56 dX1_countEdited_50 (by decide) (fun c7 => ?_) (fun c7 => ?_)
        · have h := ite_t c7 h
          exact b_X1_countEdited_56 hC hr hlk hg hk11 h
        · have h := ite_f c7 h
          refine V_iinc hC (x3 + 1) ([(3, .int (x3 + 1)), (0, .ref (adr G g 0)), (1, .int x1), (2, .int x2), (4, .int x4)]) dX1_countEdited_53 3 rfl rfl (by decide) rfl ?_
          refine V_sub [1, 2, 3, 0, 4] rfl ?_
          exact b_X1_countEdited_56 hC hr hlk hg hk11 h
theorem c_X1_countEdited {l : Launch} {G : Geo} {g : Nat} {x1 : Int32} {rv : Int32} {M : Mem} (hG : gD G) (hg : g < 6) (h : f_X1_countEdited g x1 M = some rv) : Met l yX1_countEdited (.code yX1_countEdited cX1_countEdited 5 (some .int) :: GL) (rmk 2) (gP G [.ref (adr G g 0), .int x1] M) (gQ G (some (.int rv)) M) 0 0 (gA G) := by
  refine Met_of (own := RX1) (L := [(0, .ref (adr G g 0)), (1, .int x1)]) hG (by decide +kernel) rfl (Nat.le_of_ble_eq_true rfl) rfl ?_
  intro p e s m args below meth c hC hr hlk
  refine V_aload_n hC dX1_countEdited_0 rfl 0 rfl ?_
  refine V_iload_n hC dX1_countEdited_1 rfl 1 rfl ?_
  obtain ⟨q1, e1, h⟩ := bind_some h
  refine V_cVr hC [.int x1] (c_X1_sectionsOf (l := l) hC.2.2.2.2.2.2.2 hg e1) kd_X1_sectionsOf kv_X1_sectionsOf gw_798 (r_d0_0 hg).o rfl ⟨Nat.le_of_ble_eq_true rfl, Nat.le_of_ble_eq_true rfl⟩ rfl (Nat.le_of_ble_eq_true rfl) dX1_countEdited_2 ⟨Nat.zero_le _, Nat.zero_le _⟩ rfl ?_
  refine V_istore_n hC ([(2, .int q1), (0, .ref (adr G g 0)), (1, .int x1)]) dX1_countEdited_5 rfl (by decide) rfl ?_
  refine V_iconst hC (0 : Int32) dX1_countEdited_6 (by decide) ?_
  refine V_istore_n hC ([(3, .int (0 : Int32)), (2, .int q1), (0, .ref (adr G g 0)), (1, .int x1)]) dX1_countEdited_7 rfl (by decide) rfl ?_
  refine V_iconst hC (0 : Int32) dX1_countEdited_8 (by decide) ?_
  refine V_istore hC ([(4, .int (0 : Int32)), (3, .int (0 : Int32)), (2, .int q1), (0, .ref (adr G g 0)), (1, .int x1)]) dX1_countEdited_9 (by decide) rfl ?_
  refine V_sub [3, 4, 2, 1, 0] rfl ?_
  exact l_X1_countEdited_11 hC hr hlk hg FU h
theorem c_X1_discardNow {l : Launch} {G : Geo} {g : Nat} {x1 : Int32} {rv : Int32} {Mf : Mem} {M : Mem} (hG : gD G) (hg : g < 6) (h : f_X1_discardNow g x1 M = some (rv, Mf)) : Met l yX1_discardNow (.code yX1_discardNow cX1_discardNow 3 (some .int) :: GL) (rmk 5) (gP G [.ref (adr G g 0), .int x1] M) (gQ G (some (.int rv)) Mf) 0 0 (gA G) := by
  refine Met_of (own := RX1) (L := [(0, .ref (adr G g 0)), (1, .int x1)]) hG (by decide +kernel) rfl (Nat.le_of_ble_eq_true rfl) rfl ?_
  intro p e s m args below meth c hC hr hlk
  refine V_aload_n hC dX1_discardNow_0 rfl 0 rfl ?_
  refine V_iload_n hC dX1_discardNow_1 rfl 1 rfl ?_
  obtain ⟨q1, e1, h⟩ := bind_some h
  refine V_cVr hC [.int x1] (c_X1_countEdited (l := l) hC.2.2.2.2.2.2.2 hg e1) kd_X1_countEdited kv_X1_countEdited gw_1084 (r_d0_0 hg).o rfl ⟨Nat.le_of_ble_eq_true rfl, Nat.le_of_ble_eq_true rfl⟩ rfl (Nat.le_of_ble_eq_true rfl) dX1_discardNow_2 ⟨Nat.zero_le _, Nat.zero_le _⟩ rfl ?_
  refine V_istore_n hC ([(2, .int q1), (0, .ref (adr G g 0)), (1, .int x1)]) dX1_discardNow_5 rfl (by decide) rfl ?_
  refine V_aload_n hC dX1_discardNow_6 rfl 1 rfl ?_
  refine V_getR hC (r_d0_1 hg) fw_X1_21 dX1_discardNow_7 ?_
  refine V_iload_n hC dX1_discardNow_10 rfl 2 rfl ?_
  obtain ⟨q2, e2, h⟩ := bind_some h
  refine V_cVv hC [.int x1] (c_X0_close (l := l) hC.2.2.2.2.2.2.2 hg e2) kd_X0_close kv_X0_close gw_844 (r_d8_0 hg).o rfl ⟨Nat.le_of_ble_eq_true rfl, Nat.le_of_ble_eq_true rfl⟩ rfl (Nat.le_of_ble_eq_true rfl) dX1_discardNow_11 ⟨Nat.zero_le _, Nat.zero_le _⟩ rfl ?_
  refine V_aload_n hC dX1_discardNow_14 rfl 1 rfl ?_
  obtain ⟨q3, e3, h⟩ := bind_some h
  refine V_cVr hC [] (c_X1_serve (l := l) (rv := q3.1) (Mf := q3.2) hC.2.2.2.2.2.2.2 hg e3) kd_X1_serve kv_X1_serve gw_735 (r_d0_0 hg).o rfl ⟨Nat.le_of_ble_eq_true rfl, Nat.le_of_ble_eq_true rfl⟩ rfl (Nat.le_of_ble_eq_true rfl) dX1_discardNow_15 ⟨Nat.zero_le _, Nat.zero_le _⟩ rfl ?_
  refine V_pop hC dX1_discardNow_18 rfl ?_
  refine V_iload_n hC dX1_discardNow_19 rfl 0 rfl ?_
  obtain ⟨rfl, rfl⟩ := Prod.mk.inj (Option.some.inj h)
  exact V_iret hC hr hlk dX1_discardNow_20
theorem b_X1_editFault_32 {g : Nat} {rv : Int32} {z0 : Int32} {z1 : Int32} {z2 : Int32} {M : Mem} (hC : Cx p s m args c cX1_editFault RX1 5 G) (hr : meth.sig.returnType = some .int) (hlk : meth.locks = false) (hg : g < 6) (h : B_X1_editFault_32 g z0 z1 z2 M = some rv) : V p l e (rmk 4) s m args below meth c 5 G 0 0 (MQ below (gQ G (some (.int rv)) M) args s 0 0 (gA G)) 32 [] [.int z0, .int z1, .int z2] M := by
  refine V_cSNr hC [.int z2, .int z1, .int z0] (c_X8_faultOf (l := l) hC.2.2.2.2.2.2.2 rfl) kd_X8_faultOf gw_289 nw_22 ⟨Nat.le_of_ble_eq_true rfl, Nat.le_of_ble_eq_true rfl⟩ rfl (Nat.le_of_ble_eq_true rfl) dX1_editFault_32 ⟨Nat.zero_le _, Nat.zero_le _⟩ rfl ?_
  obtain rfl := Option.some.inj h
  exact V_iret hC hr hlk dX1_editFault_35
theorem c_X1_editFault {l : Launch} {G : Geo} {g : Nat} {x1 : Int32} {x2 : Int32} {x3 : Int32} {x4 : Int32} {rv : Int32} {M : Mem} (hG : gD G) (hg : g < 6) (h : f_X1_editFault g x1 x2 x3 x4 M = some rv) : Met l yX1_editFault (.code yX1_editFault cX1_editFault 5 (some .int) :: GL) (rmk 4) (gP G [.ref (adr G g 0), .int x1, .int x2, .int x3, .int x4] M) (gQ G (some (.int rv)) M) 0 0 (gA G) := by
  refine Met_of (own := RX1) (L := [(0, .ref (adr G g 0)), (1, .int x1), (2, .int x2), (3, .int x3), (4, .int x4)]) hG (by decide +kernel) rfl (Nat.le_of_ble_eq_true rfl) rfl ?_
  intro p e s m args below meth c hC hr hlk
  refine V_aload_n hC dX1_editFault_0 rfl 0 rfl ?_
  refine V_iload_n hC dX1_editFault_1 rfl 1 rfl ?_
  refine V_iload_n hC dX1_editFault_2 rfl 2 rfl ?_
  refine V_iload_n hC dX1_editFault_3 rfl 3 rfl ?_
  obtain ⟨q1, e1, h⟩ := bind_some h
  refine V_cVr hC [.int x1, .int x2, .int x3] (c_X1_hasCopy (l := l) hC.2.2.2.2.2.2.2 hg e1) kd_X1_hasCopy kv_X1_hasCopy gw_794 (r_d0_0 hg).o rfl ⟨Nat.le_of_ble_eq_true rfl, Nat.le_of_ble_eq_true rfl⟩ rfl (Nat.le_of_ble_eq_true rfl) dX1_editFault_4 ⟨Nat.zero_le _, Nat.zero_le _⟩ rfl ?_
  refine V_iload hC dX1_editFault_7 4 rfl ?_
  refine V_iconst hC (0 : Int32) dX1_editFault_9 (by decide) ?_
  refine V_sipush hC (999 : Int32) dX1_editFault_10 (by decide) ?_
  refine V_cSNr hC [.int x4, .int (0 : Int32), .int (999 : Int32)] (c_X8_isWithin (l := l) hC.2.2.2.2.2.2.2 rfl) kd_X8_isWithin gw_444 nw_34 ⟨Nat.le_of_ble_eq_true rfl, Nat.le_of_ble_eq_true rfl⟩ rfl (Nat.le_of_ble_eq_true rfl) dX1_editFault_13 ⟨Nat.zero_le _, Nat.zero_le _⟩ rfl ?_
  refine V_aload_n hC dX1_editFault_16 rfl 0 rfl ?_
  refine V_getR hC (r_d0_1 hg) fw_X1_21 dX1_editFault_17 ?_
  refine V_iload_n hC dX1_editFault_20 rfl 1 rfl ?_
  obtain ⟨q3, e3, h⟩ := bind_some h
  refine V_cVr hC [.int x1] (c_X0_isShared (l := l) hC.2.2.2.2.2.2.2 hg e3) kd_X0_isShared kv_X0_isShared gw_660 (r_d8_0 hg).o rfl ⟨Nat.le_of_ble_eq_true rfl, Nat.le_of_ble_eq_true rfl⟩ rfl (Nat.le_of_ble_eq_true rfl) dX1_editFault_21 ⟨Nat.zero_le _, Nat.zero_le _⟩ rfl ?_
  refine V_if_ne hC 31 dX1_editFault_24 (by decide) (fun c4 => ?_) (fun c4 => ?_)
  · have h := ite_f c4 h
    refine V_iconst hC (0 : Int32) dX1_editFault_31 (by decide) ?_
    refine V_sub [] rfl ?_
    exact b_X1_editFault_32 hC hr hlk hg h
  · have h := ite_t c4 h
    refine V_iconst hC (1 : Int32) dX1_editFault_27 (by decide) ?_
    refine V_goto hC 32 dX1_editFault_28 (by decide) ?_
    refine V_sub [] rfl ?_
    exact b_X1_editFault_32 hC hr hlk hg h
theorem c_X1_editNow {l : Launch} {G : Geo} {g : Nat} {x1 : Int32} {x2 : Int32} {x3 : Int32} {x4 : Int32} {rv : Int32} {Mf : Mem} {M : Mem} (hG : gD G) (hg : g < 6) (h : f_X1_editNow g x1 x2 x3 x4 M = some (rv, Mf)) : Met l yX1_editNow (.code yX1_editNow cX1_editNow 7 (some .int) :: GL) (rmk 1) (gP G [.ref (adr G g 0), .int x1, .int x2, .int x3, .int x4] M) (gQ G (some (.int rv)) Mf) 0 0 (gA G) := by
  refine Met_of (own := RX1) (L := [(0, .ref (adr G g 0)), (1, .int x1), (2, .int x2), (3, .int x3), (4, .int x4)]) hG (by decide +kernel) rfl (Nat.le_of_ble_eq_true rfl) rfl ?_
  intro p e s m args below meth c hC hr hlk
  refine V_iload_n hC dX1_editNow_0 rfl 2 rfl ?_
  refine V_iload_n hC dX1_editNow_1 rfl 3 rfl ?_
  refine V_cSNr hC [.int x2, .int x3] (c_X8_cellOf (l := l) hC.2.2.2.2.2.2.2 rfl) kd_X8_cellOf gw_447 nw_35 ⟨Nat.le_of_ble_eq_true rfl, Nat.le_of_ble_eq_true rfl⟩ rfl (Nat.le_of_ble_eq_true rfl) dX1_editNow_2 ⟨Nat.zero_le _, Nat.zero_le _⟩ rfl ?_
  refine V_istore hC ([(5, .int (f_X8_cellOf x2 x3)), (0, .ref (adr G g 0)), (1, .int x1), (2, .int x2), (3, .int x3), (4, .int x4)]) dX1_editNow_5 (by decide) rfl ?_
  refine V_aload_n hC dX1_editNow_7 rfl 1 rfl ?_
  refine V_getR hC (r_d0_1 hg) fw_X1_21 dX1_editNow_8 ?_
  refine V_iload_n hC dX1_editNow_11 rfl 2 rfl ?_
  refine V_iload hC dX1_editNow_12 0 rfl ?_
  obtain ⟨q2, e2, h⟩ := bind_some h
  refine V_cVr hC [.int x1, .int (f_X8_cellOf x2 x3)] (c_X0_ownAt (l := l) hC.2.2.2.2.2.2.2 hg e2) kd_X0_ownAt kv_X0_ownAt gw_806 (r_d8_0 hg).o rfl ⟨Nat.le_of_ble_eq_true rfl, Nat.le_of_ble_eq_true rfl⟩ rfl (Nat.le_of_ble_eq_true rfl) dX1_editNow_14 ⟨Nat.zero_le _, Nat.zero_le _⟩ rfl ?_
  refine V_istore hC ([(6, .int q2), (5, .int (f_X8_cellOf x2 x3)), (0, .ref (adr G g 0)), (1, .int x1), (2, .int x2), (3, .int x3), (4, .int x4)]) dX1_editNow_17 (by decide) rfl ?_
  refine V_aload_n hC dX1_editNow_19 rfl 2 rfl ?_
  refine V_getR hC (r_d0_1 hg) fw_X1_21 dX1_editNow_20 ?_
  refine V_iload_n hC dX1_editNow_23 rfl 3 rfl ?_
  refine V_iload hC dX1_editNow_24 1 rfl ?_
  refine V_iload hC dX1_editNow_26 6 rfl ?_
  obtain ⟨q3, e3, h⟩ := bind_some h
  refine V_cVv hC [.int x1, .int (f_X8_cellOf x2 x3), .int x4] (c_X0_setOwn (l := l) hC.2.2.2.2.2.2.2 hg e3) kd_X0_setOwn kv_X0_setOwn gw_807 (r_d8_0 hg).o rfl ⟨Nat.le_of_ble_eq_true rfl, Nat.le_of_ble_eq_true rfl⟩ rfl (Nat.le_of_ble_eq_true rfl) dX1_editNow_28 ⟨Nat.zero_le _, Nat.zero_le _⟩ rfl ?_
  refine V_iload hC dX1_editNow_31 0 rfl ?_
  obtain ⟨rfl, rfl⟩ := Prod.mk.inj (Option.some.inj h)
  exact V_iret hC hr hlk dX1_editNow_33
theorem b_X1_holdersOf_39 {g : Nat} {rv : Int32} {k4 : Int32 → Int32 → Option Int32} {x1 : Int32} {x2 : Int32} {x3 : Int32} {M : Mem} (hC : Cx p s m args c cX1_holdersOf RX1 4 G) (hr : meth.sig.returnType = some .int) (hlk : meth.locks = false) (hg : g < 6) (hk4 : ∀ (x2 : Int32) (x3 : Int32), k4 x2 x3 = some rv → V p l e (rmk 2) s m args below meth c 4 G 0 0 (MQ below (gQ G (some (.int rv)) M) args s 0 0 (gA G)) 4 [(0, .ref (adr G g 0)), (1, .int x1), (2, .int x2), (3, .int x3)] [] M) (h : B_X1_holdersOf_39 g k4 x1 x2 x3 M = some rv) : V p l e (rmk 2) s m args below meth c 4 G 0 0 (MQ below (gQ G (some (.int rv)) M) args s 0 0 (gA G)) 39 [(0, .ref (adr G g 0)), (1, .int x1), (2, .int x2), (3, .int x3)] [] M := by
  refine V_iinc hC (x3 + 1) ([(3, .int (x3 + 1)), (0, .ref (adr G g 0)), (1, .int x1), (2, .int x2)]) dX1_holdersOf_39 3 rfl rfl (by decide) rfl ?_
  refine V_goto hC 4 dX1_holdersOf_42 (by decide) ?_
  refine V_sub [1, 2, 3, 0] rfl ?_
  exact hk4 _ _ h
theorem l_X1_holdersOf_4 {g : Nat} {rv : Int32} {x1 : Int32} {M : Mem} (hC : Cx p s m args c cX1_holdersOf RX1 4 G) (hr : meth.sig.returnType = some .int) (hlk : meth.locks = false) (hg : g < 6) : ∀ (n : Nat) {x2 : Int32} {x3 : Int32} (h : L_X1_holdersOf_4 g x1 M n x2 x3 = some rv), V p l e (rmk 2) s m args below meth c 4 G 0 0 (MQ below (gQ G (some (.int rv)) M) args s 0 0 (gA G)) 4 [(0, .ref (adr G g 0)), (1, .int x1), (2, .int x2), (3, .int x3)] [] M := by
  intro n
  induction n with
  | zero => intro x2 x3 h; cases h
  | succ n ih =>
    intro x2 x3 h
    have hk4 : ∀ (x2 : Int32) (x3 : Int32), L_X1_holdersOf_4 g x1 M n x2 x3 = some rv → V p l e (rmk 2) s m args below meth c 4 G 0 0 (MQ below (gQ G (some (.int rv)) M) args s 0 0 (gA G)) 4 [(0, .ref (adr G g 0)), (1, .int x1), (2, .int x2), (3, .int x3)] [] M := fun _ _ z => ih z
    refine V_iload_n hC dX1_holdersOf_4 rfl 3 rfl ?_
    refine V_bipush hC (10 : Int32) dX1_holdersOf_5 (by decide) ?_
    refine V_icmp_ge hC 45 dX1_holdersOf_7 (by decide) (fun c1 => ?_) (fun c1 => ?_)
    · have h := ite_t c1 h
      refine V_iload_n hC dX1_holdersOf_45 rfl 2 rfl ?_
      obtain rfl := Option.some.inj h
      exact V_iret hC hr hlk dX1_holdersOf_46
    · have h := ite_f c1 h
      refine V_aload_n hC dX1_holdersOf_10 rfl 0 rfl ?_
      refine V_getR hC (r_d0_1 hg) fw_X1_21 dX1_holdersOf_11 ?_
      refine V_iload_n hC dX1_holdersOf_14 rfl 3 rfl ?_
      obtain ⟨q2, e2, h⟩ := bind_some h
      refine V_cVr hC [.int x3] (c_X0_isHeld (l := l) hC.2.2.2.2.2.2.2 hg e2) kd_X0_isHeld kv_X0_isHeld gw_615 (r_d8_0 hg).o rfl ⟨Nat.le_of_ble_eq_true rfl, Nat.le_of_ble_eq_true rfl⟩ rfl (Nat.le_of_ble_eq_true rfl) dX1_holdersOf_15 ⟨Nat.zero_le _, Nat.zero_le _⟩ rfl ?_
      refine V_if_eq hC 39 dX1_holdersOf_18 (by decide) (fun c3 => ?_) (fun c3 => ?_)
      · have h := ite_t c3 h
        exact b_X1_holdersOf_39 hC hr hlk hg hk4 h
      · have h := ite_f c3 h
        refine V_aload_n hC dX1_holdersOf_21 rfl 0 rfl ?_
        refine V_iload_n hC dX1_holdersOf_22 rfl 3 rfl ?_
        obtain ⟨q4, e4, h⟩ := bind_some h
        refine V_cVr hC [.int x3] (c_X1_sectionsOf (l := l) hC.2.2.2.2.2.2.2 hg e4) kd_X1_sectionsOf kv_X1_sectionsOf gw_798 (r_d0_0 hg).o rfl ⟨Nat.le_of_ble_eq_true rfl, Nat.le_of_ble_eq_true rfl⟩ rfl (Nat.le_of_ble_eq_true rfl) dX1_holdersOf_23 ⟨Nat.zero_le _, Nat.zero_le _⟩ rfl ?_
        refine V_iload_n hC dX1_holdersOf_26 rfl 1 rfl ?_
        refine V_cSNr hC [.int q4, .int x1] (c_X8_hasBit (l := l) hC.2.2.2.2.2.2.2 rfl) kd_X8_hasBit gw_505 nw_37 ⟨Nat.le_of_ble_eq_true rfl, Nat.le_of_ble_eq_true rfl⟩ rfl (Nat.le_of_ble_eq_true rfl) dX1_holdersOf_27 ⟨Nat.zero_le _, Nat.zero_le _⟩ rfl ?_
        refine V_if_eq hC 39 dX1_holdersOf_30 (by decide) (fun c6 => ?_) (fun c6 => ?_)
        · have h := ite_t c6 h
          exact b_X1_holdersOf_39 hC hr hlk hg hk4 h
        · have h := ite_f c6 h
          refine V_iload_n hC dX1_holdersOf_33 rfl 2 rfl ?_
          refine V_iconst hC (1 : Int32) dX1_holdersOf_34 (by decide) ?_
          refine V_iload_n hC dX1_holdersOf_35 rfl 3 rfl ?_
          refine V_ishl hC dX1_holdersOf_36 ?_
          refine V_ior hC dX1_holdersOf_37 ?_
          refine V_istore_n hC ([(2, .int (x2 ||| ((1 : Int32) <<< (x3 &&& 31)))), (0, .ref (adr G g 0)), (1, .int x1), (3, .int x3)]) dX1_holdersOf_38 rfl (by decide) rfl ?_
          refine V_sub [1, 2, 0, 3] rfl ?_
          exact b_X1_holdersOf_39 hC hr hlk hg hk4 h
theorem c_X1_holdersOf {l : Launch} {G : Geo} {g : Nat} {x1 : Int32} {rv : Int32} {M : Mem} (hG : gD G) (hg : g < 6) (h : f_X1_holdersOf g x1 M = some rv) : Met l yX1_holdersOf (.code yX1_holdersOf cX1_holdersOf 4 (some .int) :: GL) (rmk 2) (gP G [.ref (adr G g 0), .int x1] M) (gQ G (some (.int rv)) M) 0 0 (gA G) := by
  refine Met_of (own := RX1) (L := [(0, .ref (adr G g 0)), (1, .int x1)]) hG (by decide +kernel) rfl (Nat.le_of_ble_eq_true rfl) rfl ?_
  intro p e s m args below meth c hC hr hlk
  refine V_iconst hC (0 : Int32) dX1_holdersOf_0 (by decide) ?_
  refine V_istore_n hC ([(2, .int (0 : Int32)), (0, .ref (adr G g 0)), (1, .int x1)]) dX1_holdersOf_1 rfl (by decide) rfl ?_
  refine V_iconst hC (0 : Int32) dX1_holdersOf_2 (by decide) ?_
  refine V_istore_n hC ([(3, .int (0 : Int32)), (2, .int (0 : Int32)), (0, .ref (adr G g 0)), (1, .int x1)]) dX1_holdersOf_3 rfl (by decide) rfl ?_
  refine V_sub [2, 3, 1, 0] rfl ?_
  exact l_X1_holdersOf_4 hC hr hlk hg FU h
theorem c_X1_isConflict {l : Launch} {G : Geo} {g : Nat} {x1 : Int32} {x2 : Int32} {rv : Int32} {M : Mem} (hG : gD G) (hg : g < 6) (h : f_X1_isConflict g x1 x2 M = some rv) : Met l yX1_isConflict (.code yX1_isConflict cX1_isConflict 6 (some .boolean) :: GL) (rmk 1) (gP G [.ref (adr G g 0), .int x1, .int x2] M) (gQ G (some (.int rv)) M) 0 0 (gA G) := by
  refine Met_of (own := RX1) (L := [(0, .ref (adr G g 0)), (1, .int x1), (2, .int x2)]) hG (by decide +kernel) rfl (Nat.le_of_ble_eq_true rfl) rfl ?_
  intro p e s m args below meth c hC hr hlk
  refine V_aload_n hC dX1_isConflict_0 rfl 0 rfl ?_
  refine V_getR hC (r_d0_1 hg) fw_X1_21 dX1_isConflict_1 ?_
  refine V_iload_n hC dX1_isConflict_4 rfl 1 rfl ?_
  refine V_iload_n hC dX1_isConflict_5 rfl 2 rfl ?_
  obtain ⟨q1, e1, h⟩ := bind_some h
  refine V_cVr hC [.int x1, .int x2] (c_X0_baseAt (l := l) hC.2.2.2.2.2.2.2 hg e1) kd_X0_baseAt kv_X0_baseAt gw_831 (r_d8_0 hg).o rfl ⟨Nat.le_of_ble_eq_true rfl, Nat.le_of_ble_eq_true rfl⟩ rfl (Nat.le_of_ble_eq_true rfl) dX1_isConflict_6 ⟨Nat.zero_le _, Nat.zero_le _⟩ rfl ?_
  refine V_istore_n hC ([(3, .int q1), (0, .ref (adr G g 0)), (1, .int x1), (2, .int x2)]) dX1_isConflict_9 rfl (by decide) rfl ?_
  refine V_aload_n hC dX1_isConflict_10 rfl 1 rfl ?_
  refine V_getR hC (r_d0_1 hg) fw_X1_21 dX1_isConflict_11 ?_
  refine V_iload_n hC dX1_isConflict_14 rfl 2 rfl ?_
  refine V_iload_n hC dX1_isConflict_15 rfl 3 rfl ?_
  obtain ⟨q2, e2, h⟩ := bind_some h
  refine V_cVr hC [.int x1, .int x2] (c_X0_ownAt (l := l) hC.2.2.2.2.2.2.2 hg e2) kd_X0_ownAt kv_X0_ownAt gw_806 (r_d8_0 hg).o rfl ⟨Nat.le_of_ble_eq_true rfl, Nat.le_of_ble_eq_true rfl⟩ rfl (Nat.le_of_ble_eq_true rfl) dX1_isConflict_16 ⟨Nat.zero_le _, Nat.zero_le _⟩ rfl ?_
  refine V_istore hC ([(4, .int q2), (3, .int q1), (0, .ref (adr G g 0)), (1, .int x1), (2, .int x2)]) dX1_isConflict_19 (by decide) rfl ?_
  refine V_aload_n hC dX1_isConflict_21 rfl 2 rfl ?_
  refine V_getR hC (r_d0_0 hg) fw_X1_12 dX1_isConflict_22 ?_
  refine V_iload_n hC dX1_isConflict_25 rfl 4 rfl ?_
  obtain ⟨q3, e3, h⟩ := bind_some h
  refine V_cVr hC [.int x2] (c_X7_valueAt (l := l) hC.2.2.2.2.2.2.2 hg e3) kd_X7_valueAt kv_X7_valueAt gw_570 (r_d1_0 hg).o rfl ⟨Nat.le_of_ble_eq_true rfl, Nat.le_of_ble_eq_true rfl⟩ rfl (Nat.le_of_ble_eq_true rfl) dX1_isConflict_26 ⟨Nat.zero_le _, Nat.zero_le _⟩ rfl ?_
  refine V_istore hC ([(5, .int q3), (4, .int q2), (3, .int q1), (0, .ref (adr G g 0)), (1, .int x1), (2, .int x2)]) dX1_isConflict_29 (by decide) rfl ?_
  refine V_iload hC dX1_isConflict_31 1 rfl ?_
  refine V_iload_n hC dX1_isConflict_33 rfl 2 rfl ?_
  refine V_icmp_eq hC 54 dX1_isConflict_34 (by decide) (fun c4 => ?_) (fun c4 => ?_)
  · have h := ite_t c4 h
    refine V_iconst hC (0 : Int32) dX1_isConflict_54 (by decide) ?_
    obtain rfl := Option.some.inj h
    exact V_zret hC hr hlk (Or.inl rfl) dX1_isConflict_55
  · have h := ite_f c4 h
    refine V_iload hC dX1_isConflict_37 0 rfl ?_
    refine V_iload_n hC dX1_isConflict_39 rfl 2 rfl ?_
    refine V_icmp_eq hC 54 dX1_isConflict_40 (by decide) (fun c5 => ?_) (fun c5 => ?_)
    · have h := ite_t c5 h
      refine V_iconst hC (0 : Int32) dX1_isConflict_54 (by decide) ?_
      obtain rfl := Option.some.inj h
      exact V_zret hC hr hlk (Or.inl rfl) dX1_isConflict_55
    · have h := ite_f c5 h
      refine V_iload hC dX1_isConflict_43 0 rfl ?_
      refine V_iload hC dX1_isConflict_45 1 rfl ?_
      refine V_icmp_eq hC 54 dX1_isConflict_47 (by decide) (fun c6 => ?_) (fun c6 => ?_)
      · have h := ite_t c6 h
        refine V_iconst hC (0 : Int32) dX1_isConflict_54 (by decide) ?_
        obtain rfl := Option.some.inj h
        exact V_zret hC hr hlk (Or.inl rfl) dX1_isConflict_55
      · have h := ite_f c6 h
        refine V_iconst hC (1 : Int32) dX1_isConflict_50 (by decide) ?_
        refine V_goto hC 55 dX1_isConflict_51 (by decide) ?_
        obtain rfl := Option.some.inj h
        exact V_zret hC hr hlk (Or.inr rfl) dX1_isConflict_55
theorem b_X1_countConflicts_56 {g : Nat} {rv : Int32} {k24 : Int32 → Int32 → Option Int32} {x1 : Int32} {x2 : Int32} {x3 : Int32} {x4 : Int32} {M : Mem} (hC : Cx p s m args c cX1_countConflicts RX1 5 G) (hr : meth.sig.returnType = some .int) (hlk : meth.locks = false) (hg : g < 6) (hk24 : ∀ (x3 : Int32) (x4 : Int32), k24 x3 x4 = some rv → V p l e (rmk 2) s m args below meth c 5 G 0 0 (MQ below (gQ G (some (.int rv)) M) args s 0 0 (gA G)) 24 [(0, .ref (adr G g 0)), (1, .int x1), (2, .int x2), (3, .int x3), (4, .int x4)] [] M) (h : B_X1_countConflicts_56 g k24 x1 x2 x3 x4 M = some rv) : V p l e (rmk 2) s m args below meth c 5 G 0 0 (MQ below (gQ G (some (.int rv)) M) args s 0 0 (gA G)) 56 [(0, .ref (adr G g 0)), (1, .int x1), (2, .int x2), (3, .int x3), (4, .int x4)] [] M := by
  refine V_iinc hC (x4 + 1) ([(4, .int (x4 + 1)), (0, .ref (adr G g 0)), (1, .int x1), (2, .int x2), (3, .int x3)]) dX1_countConflicts_56 4 rfl rfl (by decide) rfl ?_
  refine V_goto hC 24 dX1_countConflicts_59 (by decide) ?_
  refine V_sub [1, 2, 3, 4, 0] rfl ?_
  exact hk24 _ _ h
theorem l_X1_countConflicts_24 {g : Nat} {rv : Int32} {x1 : Int32} {x2 : Int32} {M : Mem} (hC : Cx p s m args c cX1_countConflicts RX1 5 G) (hr : meth.sig.returnType = some .int) (hlk : meth.locks = false) (hg : g < 6) : ∀ (n : Nat) {x3 : Int32} {x4 : Int32} (h : L_X1_countConflicts_24 g x1 x2 M n x3 x4 = some rv), V p l e (rmk 2) s m args below meth c 5 G 0 0 (MQ below (gQ G (some (.int rv)) M) args s 0 0 (gA G)) 24 [(0, .ref (adr G g 0)), (1, .int x1), (2, .int x2), (3, .int x3), (4, .int x4)] [] M := by
  intro n
  induction n with
  | zero => intro x3 x4 h; cases h
  | succ n ih =>
    intro x3 x4 h
    have hk24 : ∀ (x3 : Int32) (x4 : Int32), L_X1_countConflicts_24 g x1 x2 M n x3 x4 = some rv → V p l e (rmk 2) s m args below meth c 5 G 0 0 (MQ below (gQ G (some (.int rv)) M) args s 0 0 (gA G)) 24 [(0, .ref (adr G g 0)), (1, .int x1), (2, .int x2), (3, .int x3), (4, .int x4)] [] M := fun _ _ z => ih z
    refine V_iload hC dX1_countConflicts_24 4 rfl ?_
    refine V_bipush hC (120 : Int32) dX1_countConflicts_26 (by decide) ?_
    refine V_icmp_ge hC 62 dX1_countConflicts_28 (by decide) (fun c4 => ?_) (fun c4 => ?_)
    · have h := ite_t c4 h
      refine V_iload_n hC dX1_countConflicts_62 rfl 3 rfl ?_
      obtain rfl := Option.some.inj h
      exact V_iret hC hr hlk dX1_countConflicts_63
    · have h := ite_f c4 h
      refine V_iload_n hC dX1_countConflicts_31 rfl 2 rfl ?_
      refine V_iload hC dX1_countConflicts_32 4 rfl ?_
      refine V_bipush hC (6 : Int32) dX1_countConflicts_34 (by decide) ?_
      refine V_idiv hC dX1_countConflicts_36 (by decide) ?_
      refine V_cSNr hC [.int x2, .int (x4 / (6 : Int32))] (c_X8_hasBit (l := l) hC.2.2.2.2.2.2.2 rfl) kd_X8_hasBit gw_505 nw_37 ⟨Nat.le_of_ble_eq_true rfl, Nat.le_of_ble_eq_true rfl⟩ rfl (Nat.le_of_ble_eq_true rfl) dX1_countConflicts_37 ⟨Nat.zero_le _, Nat.zero_le _⟩ rfl ?_
      refine V_if_eq hC 56 dX1_countConflicts_40 (by decide) (fun c6 => ?_) (fun c6 => ?_)
      · have h := ite_t c6 h
        exact b_X1_countConflicts_56 hC hr hlk hg hk24 h
      · have h := ite_f c6 h
        refine V_aload_n hC dX1_countConflicts_43 rfl 0 rfl ?_
        refine V_iload_n hC dX1_countConflicts_44 rfl 1 rfl ?_
        refine V_iload hC dX1_countConflicts_45 4 rfl ?_
        obtain ⟨q7, e7, h⟩ := bind_some h
        refine V_cVr hC [.int x1, .int x4] (c_X1_isConflict (l := l) hC.2.2.2.2.2.2.2 hg e7) kd_X1_isConflict kv_X1_isConflict gw_827 (r_d0_0 hg).o rfl ⟨Nat.le_of_ble_eq_true rfl, Nat.le_of_ble_eq_true rfl⟩ rfl (Nat.le_of_ble_eq_true rfl) dX1_countConflicts_47 ⟨Nat.zero_le _, Nat.zero_le _⟩ rfl ?_
        refine V_if_eq hC 56 dX1_countConflicts_50 (by decide) (fun c8 => ?_) (fun c8 => ?_)
        · have h := ite_t c8 h
          exact b_X1_countConflicts_56 hC hr hlk hg hk24 h
        · have h := ite_f c8 h
          refine V_iinc hC (x3 + 1) ([(3, .int (x3 + 1)), (0, .ref (adr G g 0)), (1, .int x1), (2, .int x2), (4, .int x4)]) dX1_countConflicts_53 3 rfl rfl (by decide) rfl ?_
          refine V_sub [1, 2, 3, 0, 4] rfl ?_
          exact b_X1_countConflicts_56 hC hr hlk hg hk24 h
theorem c_X1_countConflicts {l : Launch} {G : Geo} {g : Nat} {x1 : Int32} {rv : Int32} {M : Mem} (hG : gD G) (hg : g < 6) (h : f_X1_countConflicts g x1 M = some rv) : Met l yX1_countConflicts (.code yX1_countConflicts cX1_countConflicts 5 (some .int) :: GL) (rmk 2) (gP G [.ref (adr G g 0), .int x1] M) (gQ G (some (.int rv)) M) 0 0 (gA G) := by
  refine Met_of (own := RX1) (L := [(0, .ref (adr G g 0)), (1, .int x1)]) hG (by decide +kernel) rfl (Nat.le_of_ble_eq_true rfl) rfl ?_
  intro p e s m args below meth c hC hr hlk
  refine V_aload_n hC dX1_countConflicts_0 rfl 0 rfl ?_
  refine V_getR hC (r_d0_1 hg) fw_X1_21 dX1_countConflicts_1 ?_
  refine V_iload_n hC dX1_countConflicts_4 rfl 1 rfl ?_
  obtain ⟨q1, e1, h⟩ := bind_some h
  refine V_cVr hC [.int x1] (c_X0_isHeld (l := l) hC.2.2.2.2.2.2.2 hg e1) kd_X0_isHeld kv_X0_isHeld gw_615 (r_d8_0 hg).o rfl ⟨Nat.le_of_ble_eq_true rfl, Nat.le_of_ble_eq_true rfl⟩ rfl (Nat.le_of_ble_eq_true rfl) dX1_countConflicts_5 ⟨Nat.zero_le _, Nat.zero_le _⟩ rfl ?_
  refine V_if_eq hC 13 dX1_countConflicts_8 (by decide) (fun c2 => ?_) (fun c2 => ?_)
  · have h := ite_t c2 h
    refine V_aload_n hC dX1_countConflicts_13 rfl 0 rfl ?_
    refine V_iload_n hC dX1_countConflicts_14 rfl 1 rfl ?_
    obtain ⟨q3, e3, h⟩ := bind_some h
    refine V_cVr hC [.int x1] (c_X1_sectionsOf (l := l) hC.2.2.2.2.2.2.2 hg e3) kd_X1_sectionsOf kv_X1_sectionsOf gw_798 (r_d0_0 hg).o rfl ⟨Nat.le_of_ble_eq_true rfl, Nat.le_of_ble_eq_true rfl⟩ rfl (Nat.le_of_ble_eq_true rfl) dX1_countConflicts_15 ⟨Nat.zero_le _, Nat.zero_le _⟩ rfl ?_
    refine V_istore_n hC ([(2, .int q3), (0, .ref (adr G g 0)), (1, .int x1)]) dX1_countConflicts_18 rfl (by decide) rfl ?_
    refine V_iconst hC (0 : Int32) dX1_countConflicts_19 (by decide) ?_
    refine V_istore_n hC ([(3, .int (0 : Int32)), (2, .int q3), (0, .ref (adr G g 0)), (1, .int x1)]) dX1_countConflicts_20 rfl (by decide) rfl ?_
    refine V_iconst hC (0 : Int32) dX1_countConflicts_21 (by decide) ?_
    refine V_istore hC ([(4, .int (0 : Int32)), (3, .int (0 : Int32)), (2, .int q3), (0, .ref (adr G g 0)), (1, .int x1)]) dX1_countConflicts_22 (by decide) rfl ?_
    refine V_sub [3, 4, 2, 1, 0] rfl ?_
    exact l_X1_countConflicts_24 hC hr hlk hg FU h
  · have h := ite_f c2 h
    refine V_iconst hC (0 : Int32) dX1_countConflicts_11 (by decide) ?_
    obtain rfl := Option.some.inj h
    exact V_iret hC hr hlk dX1_countConflicts_12
theorem b_X1_giveBackFault_44 {g : Nat} {rv : Int32} {x1 : Int32} {x2 : Int32} {z0 : Int32} {M : Mem} (hC : Cx p s m args c cX1_giveBackFault RX1 4 G) (hr : meth.sig.returnType = some .int) (hlk : meth.locks = false) (hg : g < 6) (h : B_X1_giveBackFault_44 g x1 x2 z0 M = some rv) : V p l e (rmk 4) s m args below meth c 4 G 0 0 (MQ below (gQ G (some (.int rv)) M) args s 0 0 (gA G)) 44 [(0, .ref (adr G g 0)), (1, .int x1), (2, .int x2)] [.int z0] M := by
  refine V_istore_n hC ([(3, .int z0), (0, .ref (adr G g 0)), (1, .int x1), (2, .int x2)]) dX1_giveBackFault_44 rfl (by decide) rfl ?_
  refine V_aload_n hC dX1_giveBackFault_45 rfl 1 rfl ?_
  refine V_getR hC (r_d0_1 hg) fw_X1_21 dX1_giveBackFault_46 ?_
  refine V_iload_n hC dX1_giveBackFault_49 rfl 2 rfl ?_
  refine V_cVr hC [.int x1] (c_X0_has (l := l) hC.2.2.2.2.2.2.2 hg rfl) kd_X0_has kv_X0_has gw_750 (r_d8_0 hg).o rfl ⟨Nat.le_of_ble_eq_true rfl, Nat.le_of_ble_eq_true rfl⟩ rfl (Nat.le_of_ble_eq_true rfl) dX1_giveBackFault_50 ⟨Nat.zero_le _, Nat.zero_le _⟩ rfl ?_
  refine V_iload_n hC dX1_giveBackFault_53 rfl 3 rfl ?_
  refine V_iconst hC (0 : Int32) dX1_giveBackFault_54 (by decide) ?_
  refine V_iconst hC (2 : Int32) dX1_giveBackFault_55 (by decide) ?_
  refine V_cSNr hC [.int x2, .int (0 : Int32), .int (2 : Int32)] (c_X8_isWithin (l := l) hC.2.2.2.2.2.2.2 rfl) kd_X8_isWithin gw_444 nw_34 ⟨Nat.le_of_ble_eq_true rfl, Nat.le_of_ble_eq_true rfl⟩ rfl (Nat.le_of_ble_eq_true rfl) dX1_giveBackFault_56 ⟨Nat.zero_le _, Nat.zero_le _⟩ rfl ?_
  refine V_iload_n hC dX1_giveBackFault_59 rfl 0 rfl ?_
  refine V_cSNr hC [.int (f_X0_has g x1 M), .int (f_X8_isWithin x2 (0 : Int32) (2 : Int32)), .int z0] (c_X8_faultOf (l := l) hC.2.2.2.2.2.2.2 rfl) kd_X8_faultOf gw_289 nw_22 ⟨Nat.le_of_ble_eq_true rfl, Nat.le_of_ble_eq_true rfl⟩ rfl (Nat.le_of_ble_eq_true rfl) dX1_giveBackFault_60 ⟨Nat.zero_le _, Nat.zero_le _⟩ rfl ?_
  obtain rfl := Option.some.inj h
  exact V_iret hC hr hlk dX1_giveBackFault_63
theorem b_X1_giveBackFault_39 {g : Nat} {rv : Int32} {x1 : Int32} {x2 : Int32} {M : Mem} (hC : Cx p s m args c cX1_giveBackFault RX1 4 G) (hr : meth.sig.returnType = some .int) (hlk : meth.locks = false) (hg : g < 6) (h : B_X1_giveBackFault_39 g x1 x2 M = some rv) : V p l e (rmk 4) s m args below meth c 4 G 0 0 (MQ below (gQ G (some (.int rv)) M) args s 0 0 (gA G)) 39 [(0, .ref (adr G g 0)), (1, .int x1), (2, .int x2)] [] M := by
  refine V_iconst hC (1 : Int32) dX1_giveBackFault_39 (by decide) ?_
  refine V_goto hC 44 dX1_giveBackFault_40 (by decide) ?_
  exact b_X1_giveBackFault_44 hC hr hlk hg h
theorem b_X1_giveBackFault_43 {g : Nat} {rv : Int32} {x1 : Int32} {x2 : Int32} {M : Mem} (hC : Cx p s m args c cX1_giveBackFault RX1 4 G) (hr : meth.sig.returnType = some .int) (hlk : meth.locks = false) (hg : g < 6) (h : B_X1_giveBackFault_43 g x1 x2 M = some rv) : V p l e (rmk 4) s m args below meth c 4 G 0 0 (MQ below (gQ G (some (.int rv)) M) args s 0 0 (gA G)) 43 [(0, .ref (adr G g 0)), (1, .int x1), (2, .int x2)] [] M := by
  refine V_iconst hC (0 : Int32) dX1_giveBackFault_43 (by decide) ?_
  exact b_X1_giveBackFault_44 hC hr hlk hg h
theorem c_X1_giveBackFault {l : Launch} {G : Geo} {g : Nat} {x1 : Int32} {x2 : Int32} {rv : Int32} {M : Mem} (hG : gD G) (hg : g < 6) (h : f_X1_giveBackFault g x1 x2 M = some rv) : Met l yX1_giveBackFault (.code yX1_giveBackFault cX1_giveBackFault 4 (some .int) :: GL) (rmk 4) (gP G [.ref (adr G g 0), .int x1, .int x2] M) (gQ G (some (.int rv)) M) 0 0 (gA G) := by
  refine Met_of (own := RX1) (L := [(0, .ref (adr G g 0)), (1, .int x1), (2, .int x2)]) hG (by decide +kernel) rfl (Nat.le_of_ble_eq_true rfl) rfl ?_
  intro p e s m args below meth c hC hr hlk
  refine V_aload_n hC dX1_giveBackFault_0 rfl 0 rfl ?_
  refine V_getR hC (r_d0_1 hg) fw_X1_21 dX1_giveBackFault_1 ?_
  refine V_iload_n hC dX1_giveBackFault_4 rfl 1 rfl ?_
  obtain ⟨q1, e1, h⟩ := bind_some h
  refine V_cVr hC [.int x1] (c_X0_isHeld (l := l) hC.2.2.2.2.2.2.2 hg e1) kd_X0_isHeld kv_X0_isHeld gw_615 (r_d8_0 hg).o rfl ⟨Nat.le_of_ble_eq_true rfl, Nat.le_of_ble_eq_true rfl⟩ rfl (Nat.le_of_ble_eq_true rfl) dX1_giveBackFault_5 ⟨Nat.zero_le _, Nat.zero_le _⟩ rfl ?_
  refine V_if_ne hC 39 dX1_giveBackFault_8 (by decide) (fun c2 => ?_) (fun c2 => ?_)
  · have h := ite_f c2 h
    exact b_X1_giveBackFault_39 hC hr hlk hg h
  · have h := ite_t c2 h
    refine V_aload_n hC dX1_giveBackFault_11 rfl 0 rfl ?_
    refine V_aload_n hC dX1_giveBackFault_12 rfl 0 rfl ?_
    refine V_getR hC (r_d0_1 hg) fw_X1_21 dX1_giveBackFault_13 ?_
    refine V_iload_n hC dX1_giveBackFault_16 rfl 1 rfl ?_
    refine V_iconst hC (1 : Int32) dX1_giveBackFault_17 (by decide) ?_
    obtain ⟨q6, e6, h⟩ := bind_some h
    refine V_cVr hC [.int x1, .int (1 : Int32)] (c_X0_fact (l := l) hC.2.2.2.2.2.2.2 hg e6) kd_X0_fact kv_X0_fact gw_616 (r_d8_0 hg).o rfl ⟨Nat.le_of_ble_eq_true rfl, Nat.le_of_ble_eq_true rfl⟩ rfl (Nat.le_of_ble_eq_true rfl) dX1_giveBackFault_18 ⟨Nat.zero_le _, Nat.zero_le _⟩ rfl ?_
    obtain ⟨q7, e7, h⟩ := bind_some h
    refine V_cVr hC [.int q6] (c_X1_isHeldAround (l := l) hC.2.2.2.2.2.2.2 hg e7) kd_X1_isHeldAround kv_X1_isHeldAround gw_819 (r_d0_0 hg).o rfl ⟨Nat.le_of_ble_eq_true rfl, Nat.le_of_ble_eq_true rfl⟩ rfl (Nat.le_of_ble_eq_true rfl) dX1_giveBackFault_21 ⟨Nat.zero_le _, Nat.zero_le _⟩ rfl ?_
    refine V_if_ne hC 43 dX1_giveBackFault_24 (by decide) (fun c8 => ?_) (fun c8 => ?_)
    · have h := ite_f c8 h
      exact b_X1_giveBackFault_43 hC hr hlk hg h
    · have h := ite_t c8 h
      refine V_iload_n hC dX1_giveBackFault_27 rfl 2 rfl ?_
      refine V_if_ne hC 39 dX1_giveBackFault_28 (by decide) (fun c9 => ?_) (fun c9 => ?_)
      · have h := ite_f c9 h
        exact b_X1_giveBackFault_39 hC hr hlk hg h
      · have h := ite_t c9 h
        refine V_aload_n hC dX1_giveBackFault_31 rfl 0 rfl ?_
        refine V_iload_n hC dX1_giveBackFault_32 rfl 1 rfl ?_
        obtain ⟨q10, e10, h⟩ := bind_some h
        refine V_cVr hC [.int x1] (c_X1_countConflicts (l := l) hC.2.2.2.2.2.2.2 hg e10) kd_X1_countConflicts kv_X1_countConflicts gw_823 (r_d0_0 hg).o rfl ⟨Nat.le_of_ble_eq_true rfl, Nat.le_of_ble_eq_true rfl⟩ rfl (Nat.le_of_ble_eq_true rfl) dX1_giveBackFault_33 ⟨Nat.zero_le _, Nat.zero_le _⟩ rfl ?_
        refine V_if_gt hC 43 dX1_giveBackFault_36 (by decide) (fun c11 => ?_) (fun c11 => ?_)
        · have h := ite_t c11 h
          exact b_X1_giveBackFault_43 hC hr hlk hg h
        · have h := ite_f c11 h
          exact b_X1_giveBackFault_39 hC hr hlk hg h
theorem b_X1_returnedValue_58 {g : Nat} {rv : Int32} {x2 : Int32} {x4 : Int32} {z0 : Int32} {M : Mem} (hC : Cx p s m args c cX1_returnedValue RX1 6 G) (hr : meth.sig.returnType = some .int) (hlk : meth.locks = false) (hg : g < 6) (h : B_X1_returnedValue_58 g x2 x4 z0 M = some rv) : V p l e (rmk 2) s m args below meth c 6 G 0 0 (MQ below (gQ G (some (.int rv)) M) args s 0 0 (gA G)) 58 [(0, .ref (adr G g 0)), (2, .int x2), (4, .int x4)] [.int z0] M := by
  refine V_istore hC ([(5, .int z0), (0, .ref (adr G g 0)), (2, .int x2), (4, .int x4)]) dX1_returnedValue_58 (by decide) rfl ?_
  refine V_iload hC dX1_returnedValue_60 0 rfl ?_
  refine V_if_eq hC 76 dX1_returnedValue_62 (by decide) (fun c6 => ?_) (fun c6 => ?_)
  · have h := ite_t c6 h
    refine V_iload hC dX1_returnedValue_76 3 rfl ?_
    obtain rfl := Option.some.inj h
    exact V_iret hC hr hlk dX1_returnedValue_78
  · have h := ite_f c6 h
    refine V_aload_n hC dX1_returnedValue_65 rfl 1 rfl ?_
    refine V_getR hC (r_d0_0 hg) fw_X1_12 dX1_returnedValue_66 ?_
    refine V_iload_n hC dX1_returnedValue_69 rfl 2 rfl ?_
    obtain ⟨q7, e7, h⟩ := bind_some h
    refine V_cVr hC [.int x2] (c_X7_valueAt (l := l) hC.2.2.2.2.2.2.2 hg e7) kd_X7_valueAt kv_X7_valueAt gw_570 (r_d1_0 hg).o rfl ⟨Nat.le_of_ble_eq_true rfl, Nat.le_of_ble_eq_true rfl⟩ rfl (Nat.le_of_ble_eq_true rfl) dX1_returnedValue_70 ⟨Nat.zero_le _, Nat.zero_le _⟩ rfl ?_
    refine V_goto hC 78 dX1_returnedValue_73 (by decide) ?_
    obtain rfl := Option.some.inj h
    exact V_iret hC hr hlk dX1_returnedValue_78
theorem b_X1_returnedValue_53 {g : Nat} {rv : Int32} {x2 : Int32} {x4 : Int32} {M : Mem} (hC : Cx p s m args c cX1_returnedValue RX1 6 G) (hr : meth.sig.returnType = some .int) (hlk : meth.locks = false) (hg : g < 6) (h : B_X1_returnedValue_53 g x2 x4 M = some rv) : V p l e (rmk 2) s m args below meth c 6 G 0 0 (MQ below (gQ G (some (.int rv)) M) args s 0 0 (gA G)) 53 [(0, .ref (adr G g 0)), (2, .int x2), (4, .int x4)] [] M := by
  refine V_iconst hC (1 : Int32) dX1_returnedValue_53 (by decide) ?_
  refine V_goto hC 58 dX1_returnedValue_54 (by decide) ?_
  exact b_X1_returnedValue_58 hC hr hlk hg h
theorem b_X1_returnedValue_57 {g : Nat} {rv : Int32} {x2 : Int32} {x4 : Int32} {M : Mem} (hC : Cx p s m args c cX1_returnedValue RX1 6 G) (hr : meth.sig.returnType = some .int) (hlk : meth.locks = false) (hg : g < 6) (h : B_X1_returnedValue_57 g x2 x4 M = some rv) : V p l e (rmk 2) s m args below meth c 6 G 0 0 (MQ below (gQ G (some (.int rv)) M) args s 0 0 (gA G)) 57 [(0, .ref (adr G g 0)), (2, .int x2), (4, .int x4)] [] M := by
  refine V_iconst hC (0 : Int32) dX1_returnedValue_57 (by decide) ?_
  exact b_X1_returnedValue_58 hC hr hlk hg h
theorem c_X1_returnedValue {l : Launch} {G : Geo} {g : Nat} {x1 : Int32} {x2 : Int32} {x3 : Int32} {rv : Int32} {M : Mem} (hG : gD G) (hg : g < 6) (h : f_X1_returnedValue g x1 x2 x3 M = some rv) : Met l yX1_returnedValue (.code yX1_returnedValue cX1_returnedValue 6 (some .int) :: GL) (rmk 2) (gP G [.ref (adr G g 0), .int x1, .int x2, .int x3] M) (gQ G (some (.int rv)) M) 0 0 (gA G) := by
  refine Met_of (own := RX1) (L := [(0, .ref (adr G g 0)), (1, .int x1), (2, .int x2), (3, .int x3)]) hG (by decide +kernel) rfl (Nat.le_of_ble_eq_true rfl) rfl ?_
  intro p e s m args below meth c hC hr hlk
  refine V_aload_n hC dX1_returnedValue_0 rfl 0 rfl ?_
  refine V_getR hC (r_d0_1 hg) fw_X1_21 dX1_returnedValue_1 ?_
  refine V_iload_n hC dX1_returnedValue_4 rfl 1 rfl ?_
  refine V_iload_n hC dX1_returnedValue_5 rfl 2 rfl ?_
  obtain ⟨q1, e1, h⟩ := bind_some h
  refine V_cVr hC [.int x1, .int x2] (c_X0_ownAt (l := l) hC.2.2.2.2.2.2.2 hg e1) kd_X0_ownAt kv_X0_ownAt gw_806 (r_d8_0 hg).o rfl ⟨Nat.le_of_ble_eq_true rfl, Nat.le_of_ble_eq_true rfl⟩ rfl (Nat.le_of_ble_eq_true rfl) dX1_returnedValue_6 ⟨Nat.zero_le _, Nat.zero_le _⟩ rfl ?_
  refine V_istore hC ([(4, .int q1), (0, .ref (adr G g 0)), (1, .int x1), (2, .int x2), (3, .int x3)]) dX1_returnedValue_9 (by decide) rfl ?_
  refine V_aload_n hC dX1_returnedValue_11 rfl 1 rfl ?_
  refine V_getR hC (r_d0_1 hg) fw_X1_21 dX1_returnedValue_12 ?_
  refine V_iload_n hC dX1_returnedValue_15 rfl 2 rfl ?_
  obtain ⟨q2, e2, h⟩ := bind_some h
  refine V_cVr hC [.int x1] (c_X0_isHeld (l := l) hC.2.2.2.2.2.2.2 hg e2) kd_X0_isHeld kv_X0_isHeld gw_615 (r_d8_0 hg).o rfl ⟨Nat.le_of_ble_eq_true rfl, Nat.le_of_ble_eq_true rfl⟩ rfl (Nat.le_of_ble_eq_true rfl) dX1_returnedValue_16 ⟨Nat.zero_le _, Nat.zero_le _⟩ rfl ?_
  refine V_if_eq hC 25 dX1_returnedValue_19 (by decide) (fun c3 => ?_) (fun c3 => ?_)
  · have h := ite_t c3 h
    refine V_iload hC dX1_returnedValue_25 0 rfl ?_
    refine V_aload_n hC dX1_returnedValue_27 rfl 1 rfl ?_
    refine V_getR hC (r_d0_1 hg) fw_X1_21 dX1_returnedValue_28 ?_
    refine V_iload_n hC dX1_returnedValue_31 rfl 2 rfl ?_
    refine V_iload_n hC dX1_returnedValue_32 rfl 3 rfl ?_
    obtain ⟨q4, e4, h⟩ := bind_some h
    refine V_cVr hC [.int x1, .int x2] (c_X0_baseAt (l := l) hC.2.2.2.2.2.2.2 hg e4) kd_X0_baseAt kv_X0_baseAt gw_831 (r_d8_0 hg).o rfl ⟨Nat.le_of_ble_eq_true rfl, Nat.le_of_ble_eq_true rfl⟩ rfl (Nat.le_of_ble_eq_true rfl) dX1_returnedValue_33 ⟨Nat.zero_le _, Nat.zero_le _⟩ rfl ?_
    refine V_icmp_eq hC 53 dX1_returnedValue_36 (by decide) (fun c5 => ?_) (fun c5 => ?_)
    · have h := ite_t c5 h
      refine V_sub [1, 3, 0] rfl ?_
      exact b_X1_returnedValue_53 hC hr hlk hg h
    · have h := ite_f c5 h
      refine V_aload_n hC dX1_returnedValue_39 rfl 1 rfl ?_
      refine V_iload_n hC dX1_returnedValue_40 rfl 2 rfl ?_
      refine V_iload_n hC dX1_returnedValue_41 rfl 3 rfl ?_
      obtain ⟨q8, e8, h⟩ := bind_some h
      refine V_cVr hC [.int x1, .int x2] (c_X1_isConflict (l := l) hC.2.2.2.2.2.2.2 hg e8) kd_X1_isConflict kv_X1_isConflict gw_827 (r_d0_0 hg).o rfl ⟨Nat.le_of_ble_eq_true rfl, Nat.le_of_ble_eq_true rfl⟩ rfl (Nat.le_of_ble_eq_true rfl) dX1_returnedValue_42 ⟨Nat.zero_le _, Nat.zero_le _⟩ rfl ?_
      refine V_if_eq hC 57 dX1_returnedValue_45 (by decide) (fun c9 => ?_) (fun c9 => ?_)
      · have h := ite_t c9 h
        refine V_sub [1, 3, 0] rfl ?_
        exact b_X1_returnedValue_57 hC hr hlk hg h
      · have h := ite_f c9 h
        refine V_iload_n hC dX1_returnedValue_48 rfl 4 rfl ?_
        refine V_iconst hC (1 : Int32) dX1_returnedValue_49 (by decide) ?_
        refine V_icmp_eq hC 57 dX1_returnedValue_50 (by decide) (fun c10 => ?_) (fun c10 => ?_)
        · have h := ite_t c10 h
          refine V_sub [1, 3, 0] rfl ?_
          exact b_X1_returnedValue_57 hC hr hlk hg h
        · have h := ite_f c10 h
          refine V_sub [1, 3, 0] rfl ?_
          exact b_X1_returnedValue_53 hC hr hlk hg h
  · have h := ite_f c3 h
    refine V_iload hC dX1_returnedValue_22 0 rfl ?_
    obtain rfl := Option.some.inj h
    exact V_iret hC hr hlk dX1_returnedValue_24
theorem b_X1_wantReturned_42 {g : Nat} {Mf : Mem} {k9 : Int32 → Mem → Option Mem} {x1 : Int32} {x2 : Int32} {x3 : Int32} {x4 : Int32} {M : Mem} (hC : Cx p s m args c cX1_wantReturned RX1 5 G) (hr : meth.sig.returnType = none) (hlk : meth.locks = false) (hg : g < 6) (hk9 : ∀ (x4 : Int32) (M : Mem), k9 x4 M = some Mf → V p l e (rmk 3) s m args below meth c 5 G 0 0 (MQ below (gQ G none Mf) args s 0 0 (gA G)) 9 [(0, .ref (adr G g 0)), (1, .int x1), (2, .int x2), (3, .int x3), (4, .int x4)] [] M) (h : B_X1_wantReturned_42 g k9 x1 x2 x3 x4 M = some Mf) : V p l e (rmk 3) s m args below meth c 5 G 0 0 (MQ below (gQ G none Mf) args s 0 0 (gA G)) 42 [(0, .ref (adr G g 0)), (1, .int x1), (2, .int x2), (3, .int x3), (4, .int x4)] [] M := by
  refine V_iinc hC (x4 + 1) ([(4, .int (x4 + 1)), (0, .ref (adr G g 0)), (1, .int x1), (2, .int x2), (3, .int x3)]) dX1_wantReturned_42 4 rfl rfl (by decide) rfl ?_
  refine V_goto hC 9 dX1_wantReturned_45 (by decide) ?_
  refine V_sub [1, 2, 3, 4, 0] rfl ?_
  exact hk9 _ _ h
theorem l_X1_wantReturned_9 {g : Nat} {Mf : Mem} {x1 : Int32} {x2 : Int32} {x3 : Int32} (hC : Cx p s m args c cX1_wantReturned RX1 5 G) (hr : meth.sig.returnType = none) (hlk : meth.locks = false) (hg : g < 6) : ∀ (n : Nat) {x4 : Int32} {M : Mem} (h : L_X1_wantReturned_9 g x1 x2 x3 n x4 M = some Mf), V p l e (rmk 3) s m args below meth c 5 G 0 0 (MQ below (gQ G none Mf) args s 0 0 (gA G)) 9 [(0, .ref (adr G g 0)), (1, .int x1), (2, .int x2), (3, .int x3), (4, .int x4)] [] M := by
  intro n
  induction n with
  | zero => intro x4 M h; cases h
  | succ n ih =>
    intro x4 M h
    have hk9 : ∀ (x4 : Int32) (M : Mem), L_X1_wantReturned_9 g x1 x2 x3 n x4 M = some Mf → V p l e (rmk 3) s m args below meth c 5 G 0 0 (MQ below (gQ G none Mf) args s 0 0 (gA G)) 9 [(0, .ref (adr G g 0)), (1, .int x1), (2, .int x2), (3, .int x3), (4, .int x4)] [] M := fun _ _ z => ih z
    refine V_iload hC dX1_wantReturned_9 4 rfl ?_
    refine V_bipush hC (120 : Int32) dX1_wantReturned_11 (by decide) ?_
    refine V_icmp_ge hC 48 dX1_wantReturned_13 (by decide) (fun c2 => ?_) (fun c2 => ?_)
    · have h := ite_t c2 h
      obtain rfl := Option.some.inj h
      exact V_vret hC hr hlk dX1_wantReturned_48
    · have h := ite_f c2 h
      refine V_iload_n hC dX1_wantReturned_16 rfl 3 rfl ?_
      refine V_iload hC dX1_wantReturned_17 4 rfl ?_
      refine V_bipush hC (6 : Int32) dX1_wantReturned_19 (by decide) ?_
      refine V_idiv hC dX1_wantReturned_21 (by decide) ?_
      refine V_cSNr hC [.int x3, .int (x4 / (6 : Int32))] (c_X8_hasBit (l := l) hC.2.2.2.2.2.2.2 rfl) kd_X8_hasBit gw_505 nw_37 ⟨Nat.le_of_ble_eq_true rfl, Nat.le_of_ble_eq_true rfl⟩ rfl (Nat.le_of_ble_eq_true rfl) dX1_wantReturned_22 ⟨Nat.zero_le _, Nat.zero_le _⟩ rfl ?_
      refine V_if_eq hC 42 dX1_wantReturned_25 (by decide) (fun c4 => ?_) (fun c4 => ?_)
      · have h := ite_t c4 h
        exact b_X1_wantReturned_42 hC hr hlk hg hk9 h
      · have h := ite_f c4 h
        refine V_aload_n hC dX1_wantReturned_28 rfl 0 rfl ?_
        refine V_iload hC dX1_wantReturned_29 4 rfl ?_
        refine V_aload_n hC dX1_wantReturned_31 rfl 0 rfl ?_
        refine V_iload_n hC dX1_wantReturned_32 rfl 1 rfl ?_
        refine V_iload hC dX1_wantReturned_33 4 rfl ?_
        refine V_iload_n hC dX1_wantReturned_35 rfl 2 rfl ?_
        obtain ⟨q5, e5, h⟩ := bind_some h
        refine V_cVr hC [.int x1, .int x4, .int x2] (c_X1_returnedValue (l := l) hC.2.2.2.2.2.2.2 hg e5) kd_X1_returnedValue kv_X1_returnedValue gw_840 (r_d0_0 hg).o rfl ⟨Nat.le_of_ble_eq_true rfl, Nat.le_of_ble_eq_true rfl⟩ rfl (Nat.le_of_ble_eq_true rfl) dX1_wantReturned_36 ⟨Nat.zero_le _, Nat.zero_le _⟩ rfl ?_
        obtain ⟨q6, e6, h⟩ := bind_some h
        refine V_cVv hC [.int x4, .int q5] (c_X1_want (l := l) hC.2.2.2.2.2.2.2 hg e6) kd_X1_want kv_X1_want gw_578 (r_d0_0 hg).o rfl ⟨Nat.le_of_ble_eq_true rfl, Nat.le_of_ble_eq_true rfl⟩ rfl (Nat.le_of_ble_eq_true rfl) dX1_wantReturned_39 ⟨Nat.zero_le _, Nat.zero_le _⟩ rfl ?_
        exact b_X1_wantReturned_42 hC hr hlk hg hk9 h
theorem c_X1_wantReturned {l : Launch} {G : Geo} {g : Nat} {x1 : Int32} {x2 : Int32} {Mf : Mem} {M : Mem} (hG : gD G) (hg : g < 6) (h : f_X1_wantReturned g x1 x2 M = some Mf) : Met l yX1_wantReturned (.code yX1_wantReturned cX1_wantReturned 5 none :: GL) (rmk 3) (gP G [.ref (adr G g 0), .int x1, .int x2] M) (gQ G none Mf) 0 0 (gA G) := by
  refine Met_of (own := RX1) (L := [(0, .ref (adr G g 0)), (1, .int x1), (2, .int x2)]) hG (by decide +kernel) rfl (Nat.le_of_ble_eq_true rfl) rfl ?_
  intro p e s m args below meth c hC hr hlk
  refine V_aload_n hC dX1_wantReturned_0 rfl 0 rfl ?_
  refine V_iload_n hC dX1_wantReturned_1 rfl 1 rfl ?_
  obtain ⟨q1, e1, h⟩ := bind_some h
  refine V_cVr hC [.int x1] (c_X1_sectionsOf (l := l) hC.2.2.2.2.2.2.2 hg e1) kd_X1_sectionsOf kv_X1_sectionsOf gw_798 (r_d0_0 hg).o rfl ⟨Nat.le_of_ble_eq_true rfl, Nat.le_of_ble_eq_true rfl⟩ rfl (Nat.le_of_ble_eq_true rfl) dX1_wantReturned_2 ⟨Nat.zero_le _, Nat.zero_le _⟩ rfl ?_
  refine V_istore_n hC ([(3, .int q1), (0, .ref (adr G g 0)), (1, .int x1), (2, .int x2)]) dX1_wantReturned_5 rfl (by decide) rfl ?_
  refine V_iconst hC (0 : Int32) dX1_wantReturned_6 (by decide) ?_
  refine V_istore hC ([(4, .int (0 : Int32)), (3, .int q1), (0, .ref (adr G g 0)), (1, .int x1), (2, .int x2)]) dX1_wantReturned_7 (by decide) rfl ?_
  refine V_sub [2, 3, 4, 1, 0] rfl ?_
  exact l_X1_wantReturned_9 hC hr hlk hg FU h
theorem b_X1_giveBackNow_21 {g : Nat} {rv : Int32} {Mf : Mem} {x1 : Int32} {M : Mem} (hC : Cx p s m args c cX1_giveBackNow RX1 4 G) (hr : meth.sig.returnType = some .int) (hlk : meth.locks = false) (hg : g < 6) (h : B_X1_giveBackNow_21 g x1 M = some (rv, Mf)) : V p l e (rmk 5) s m args below meth c 4 G 0 0 (MQ below (gQ G (some (.int rv)) Mf) args s 0 0 (gA G)) 21 [(0, .ref (adr G g 0)), (1, .int x1)] [] M := by
  refine V_aload_n hC dX1_giveBackNow_21 rfl 0 rfl ?_
  refine V_aload_n hC dX1_giveBackNow_22 rfl 0 rfl ?_
  refine V_getR hC (r_d0_1 hg) fw_X1_21 dX1_giveBackNow_23 ?_
  refine V_iload_n hC dX1_giveBackNow_26 rfl 1 rfl ?_
  refine V_iconst hC (0 : Int32) dX1_giveBackNow_27 (by decide) ?_
  obtain ⟨q4, e4, h⟩ := bind_some h
  refine V_cVr hC [.int x1, .int (0 : Int32)] (c_X0_fact (l := l) hC.2.2.2.2.2.2.2 hg e4) kd_X0_fact kv_X0_fact gw_616 (r_d8_0 hg).o rfl ⟨Nat.le_of_ble_eq_true rfl, Nat.le_of_ble_eq_true rfl⟩ rfl (Nat.le_of_ble_eq_true rfl) dX1_giveBackNow_28 ⟨Nat.zero_le _, Nat.zero_le _⟩ rfl ?_
  obtain ⟨q5, e5, h⟩ := bind_some h
  refine V_cVr hC [.int q4] (c_X1_changeToWanted (l := l) (rv := q5.1) (Mf := q5.2) hC.2.2.2.2.2.2.2 hg e5) kd_X1_changeToWanted kv_X1_changeToWanted gw_583 (r_d0_0 hg).o rfl ⟨Nat.le_of_ble_eq_true rfl, Nat.le_of_ble_eq_true rfl⟩ rfl (Nat.le_of_ble_eq_true rfl) dX1_giveBackNow_31 ⟨Nat.zero_le _, Nat.zero_le _⟩ rfl ?_
  refine V_istore_n hC ([(3, .int q5.1), (0, .ref (adr G g 0)), (1, .int x1)]) dX1_giveBackNow_34 rfl (by decide) rfl ?_
  refine V_aload_n hC dX1_giveBackNow_35 rfl 1 rfl ?_
  refine V_getR hC (r_d0_1 hg) fw_X1_21 dX1_giveBackNow_36 ?_
  refine V_iload_n hC dX1_giveBackNow_39 rfl 2 rfl ?_
  obtain ⟨q6, e6, h⟩ := bind_some h
  refine V_cVv hC [.int x1] (c_X0_close (l := l) hC.2.2.2.2.2.2.2 hg e6) kd_X0_close kv_X0_close gw_844 (r_d8_0 hg).o rfl ⟨Nat.le_of_ble_eq_true rfl, Nat.le_of_ble_eq_true rfl⟩ rfl (Nat.le_of_ble_eq_true rfl) dX1_giveBackNow_40 ⟨Nat.zero_le _, Nat.zero_le _⟩ rfl ?_
  refine V_aload_n hC dX1_giveBackNow_43 rfl 1 rfl ?_
  obtain ⟨q7, e7, h⟩ := bind_some h
  refine V_cVr hC [] (c_X1_serve (l := l) (rv := q7.1) (Mf := q7.2) hC.2.2.2.2.2.2.2 hg e7) kd_X1_serve kv_X1_serve gw_735 (r_d0_0 hg).o rfl ⟨Nat.le_of_ble_eq_true rfl, Nat.le_of_ble_eq_true rfl⟩ rfl (Nat.le_of_ble_eq_true rfl) dX1_giveBackNow_44 ⟨Nat.zero_le _, Nat.zero_le _⟩ rfl ?_
  refine V_pop hC dX1_giveBackNow_47 rfl ?_
  refine V_iload_n hC dX1_giveBackNow_48 rfl 0 rfl ?_
  obtain ⟨rfl, rfl⟩ := Prod.mk.inj (Option.some.inj h)
  exact V_iret hC hr hlk dX1_giveBackNow_49
theorem c_X1_giveBackNow {l : Launch} {G : Geo} {g : Nat} {x1 : Int32} {x2 : Int32} {rv : Int32} {Mf : Mem} {M : Mem} (hG : gD G) (hg : g < 6) (h : f_X1_giveBackNow g x1 x2 M = some (rv, Mf)) : Met l yX1_giveBackNow (.code yX1_giveBackNow cX1_giveBackNow 4 (some .int) :: GL) (rmk 5) (gP G [.ref (adr G g 0), .int x1, .int x2] M) (gQ G (some (.int rv)) Mf) 0 0 (gA G) := by
  refine Met_of (own := RX1) (L := [(0, .ref (adr G g 0)), (1, .int x1), (2, .int x2)]) hG (by decide +kernel) rfl (Nat.le_of_ble_eq_true rfl) rfl ?_
  intro p e s m args below meth c hC hr hlk
  refine V_aload_n hC dX1_giveBackNow_0 rfl 0 rfl ?_
  obtain ⟨q1, e1, h⟩ := bind_some h
  refine V_cVv hC [] (c_X1_wantPresent (l := l) hC.2.2.2.2.2.2.2 hg e1) kd_X1_wantPresent kv_X1_wantPresent gw_574 (r_d0_0 hg).o rfl ⟨Nat.le_of_ble_eq_true rfl, Nat.le_of_ble_eq_true rfl⟩ rfl (Nat.le_of_ble_eq_true rfl) dX1_giveBackNow_1 ⟨Nat.zero_le _, Nat.zero_le _⟩ rfl ?_
  refine V_aload_n hC dX1_giveBackNow_4 rfl 0 rfl ?_
  refine V_getR hC (r_d0_1 hg) fw_X1_21 dX1_giveBackNow_5 ?_
  refine V_iload_n hC dX1_giveBackNow_8 rfl 1 rfl ?_
  obtain ⟨q2, e2, h⟩ := bind_some h
  refine V_cVr hC [.int x1] (c_X0_isShared (l := l) hC.2.2.2.2.2.2.2 hg e2) kd_X0_isShared kv_X0_isShared gw_660 (r_d8_0 hg).o rfl ⟨Nat.le_of_ble_eq_true rfl, Nat.le_of_ble_eq_true rfl⟩ rfl (Nat.le_of_ble_eq_true rfl) dX1_giveBackNow_9 ⟨Nat.zero_le _, Nat.zero_le _⟩ rfl ?_
  refine V_if_ne hC 21 dX1_giveBackNow_12 (by decide) (fun c3 => ?_) (fun c3 => ?_)
  · have h := ite_f c3 h
    refine V_sub [0, 1] rfl ?_
    exact b_X1_giveBackNow_21 hC hr hlk hg h
  · have h := ite_t c3 h
    refine V_aload_n hC dX1_giveBackNow_15 rfl 0 rfl ?_
    refine V_iload_n hC dX1_giveBackNow_16 rfl 1 rfl ?_
    refine V_iload_n hC dX1_giveBackNow_17 rfl 2 rfl ?_
    obtain ⟨q8, e8, h⟩ := bind_some h
    refine V_cVv hC [.int x1, .int x2] (c_X1_wantReturned (l := l) hC.2.2.2.2.2.2.2 hg e8) kd_X1_wantReturned kv_X1_wantReturned gw_836 (r_d0_0 hg).o rfl ⟨Nat.le_of_ble_eq_true rfl, Nat.le_of_ble_eq_true rfl⟩ rfl (Nat.le_of_ble_eq_true rfl) dX1_giveBackNow_18 ⟨Nat.zero_le _, Nat.zero_le _⟩ rfl ?_
    refine V_sub [0, 1] rfl ?_
    exact b_X1_giveBackNow_21 hC hr hlk hg h
theorem c_X1_passFault {l : Launch} {G : Geo} {g : Nat} {x1 : Int32} {rv : Int32} {M : Mem} (hG : gD G) (hg : g < 6) (h : f_X1_passFault g x1 = rv) : Met l yX1_passFault (.code yX1_passFault cX1_passFault 2 (some .int) :: GL) (rmk 1) (gP G [.ref (adr G g 0), .int x1] M) (gQ G (some (.int rv)) M) 0 0 (gA G) := by
  refine Met_of (own := RX1) (L := [(0, .ref (adr G g 0)), (1, .int x1)]) hG (by decide +kernel) rfl (Nat.le_of_ble_eq_true rfl) rfl ?_
  intro p e s m args below meth c hC hr hlk
  refine V_iconst hC (1 : Int32) dX1_passFault_0 (by decide) ?_
  refine V_iload_n hC dX1_passFault_1 rfl 1 rfl ?_
  refine V_iconst hC (0 : Int32) dX1_passFault_2 (by decide) ?_
  refine V_sipush hC (1000 : Int32) dX1_passFault_3 (by decide) ?_
  refine V_cSNr hC [.int x1, .int (0 : Int32), .int (1000 : Int32)] (c_X8_isWithin (l := l) hC.2.2.2.2.2.2.2 rfl) kd_X8_isWithin gw_444 nw_34 ⟨Nat.le_of_ble_eq_true rfl, Nat.le_of_ble_eq_true rfl⟩ rfl (Nat.le_of_ble_eq_true rfl) dX1_passFault_6 ⟨Nat.zero_le _, Nat.zero_le _⟩ rfl ?_
  refine V_iconst hC (1 : Int32) dX1_passFault_9 (by decide) ?_
  refine V_cSNr hC [.int (1 : Int32), .int (f_X8_isWithin x1 (0 : Int32) (1000 : Int32)), .int (1 : Int32)] (c_X8_faultOf (l := l) hC.2.2.2.2.2.2.2 rfl) kd_X8_faultOf gw_289 nw_22 ⟨Nat.le_of_ble_eq_true rfl, Nat.le_of_ble_eq_true rfl⟩ rfl (Nat.le_of_ble_eq_true rfl) dX1_passFault_10 ⟨Nat.zero_le _, Nat.zero_le _⟩ rfl ?_
  obtain rfl := id h
  exact V_iret hC hr hlk dX1_passFault_13
theorem b_X1_ticksToExpiry_40 {g : Nat} {rv : Int32} {k4 : Int32 → Int32 → Option Int32} {x2 : Int32} {x3 : Int32} {M : Mem} (hC : Cx p s m args c cX1_ticksToExpiry RX1 4 G) (hr : meth.sig.returnType = some .int) (hlk : meth.locks = false) (hg : g < 6) (hk4 : ∀ (x2 : Int32) (x3 : Int32), k4 x2 x3 = some rv → V p l e (rmk 2) s m args below meth c 4 G 0 0 (MQ below (gQ G (some (.int rv)) M) args s 0 0 (gA G)) 4 [(0, .ref (adr G g 0)), (2, .int x2), (3, .int x3)] [] M) (h : B_X1_ticksToExpiry_40 g k4 x2 x3 M = some rv) : V p l e (rmk 2) s m args below meth c 4 G 0 0 (MQ below (gQ G (some (.int rv)) M) args s 0 0 (gA G)) 40 [(0, .ref (adr G g 0)), (2, .int x2), (3, .int x3)] [] M := by
  refine V_iinc hC (x3 + 1) ([(3, .int (x3 + 1)), (0, .ref (adr G g 0)), (2, .int x2)]) dX1_ticksToExpiry_40 2 rfl rfl (by decide) rfl ?_
  refine V_goto hC 4 dX1_ticksToExpiry_43 (by decide) ?_
  refine V_sub [1, 2, 0] rfl ?_
  exact hk4 _ _ h
theorem l_X1_ticksToExpiry_4 {g : Nat} {rv : Int32} {M : Mem} (hC : Cx p s m args c cX1_ticksToExpiry RX1 4 G) (hr : meth.sig.returnType = some .int) (hlk : meth.locks = false) (hg : g < 6) : ∀ (n : Nat) {x2 : Int32} {x3 : Int32} (h : L_X1_ticksToExpiry_4 g M n x2 x3 = some rv), V p l e (rmk 2) s m args below meth c 4 G 0 0 (MQ below (gQ G (some (.int rv)) M) args s 0 0 (gA G)) 4 [(0, .ref (adr G g 0)), (2, .int x2), (3, .int x3)] [] M := by
  intro n
  induction n with
  | zero => intro x2 x3 h; cases h
  | succ n ih =>
    intro x2 x3 h
    have hk4 : ∀ (x2 : Int32) (x3 : Int32), L_X1_ticksToExpiry_4 g M n x2 x3 = some rv → V p l e (rmk 2) s m args below meth c 4 G 0 0 (MQ below (gQ G (some (.int rv)) M) args s 0 0 (gA G)) 4 [(0, .ref (adr G g 0)), (2, .int x2), (3, .int x3)] [] M := fun _ _ z => ih z
    refine V_iload_n hC dX1_ticksToExpiry_4 rfl 2 rfl ?_
    refine V_bipush hC (10 : Int32) dX1_ticksToExpiry_5 (by decide) ?_
    refine V_icmp_ge hC 46 dX1_ticksToExpiry_7 (by decide) (fun c1 => ?_) (fun c1 => ?_)
    · have h := ite_t c1 h
      refine V_iconst hC (1 : Int32) dX1_ticksToExpiry_46 (by decide) ?_
      refine V_iload_n hC dX1_ticksToExpiry_47 rfl 1 rfl ?_
      refine V_mmax hC gw_898 gw_899 gw_17 gw_900 (Nat.le_of_ble_eq_true rfl) (Nat.le_of_ble_eq_true rfl) (Nat.le_of_ble_eq_true rfl) ⟨Nat.zero_le _, Nat.zero_le _⟩ dX1_ticksToExpiry_48 ?_
      obtain rfl := Option.some.inj h
      exact V_iret hC hr hlk dX1_ticksToExpiry_51
    · have h := ite_f c1 h
      refine V_aload_n hC dX1_ticksToExpiry_10 rfl 0 rfl ?_
      refine V_getR hC (r_d0_1 hg) fw_X1_21 dX1_ticksToExpiry_11 ?_
      refine V_iload_n hC dX1_ticksToExpiry_14 rfl 2 rfl ?_
      obtain ⟨q2, e2, h⟩ := bind_some h
      refine V_cVr hC [.int x3] (c_X0_isHeld (l := l) hC.2.2.2.2.2.2.2 hg e2) kd_X0_isHeld kv_X0_isHeld gw_615 (r_d8_0 hg).o rfl ⟨Nat.le_of_ble_eq_true rfl, Nat.le_of_ble_eq_true rfl⟩ rfl (Nat.le_of_ble_eq_true rfl) dX1_ticksToExpiry_15 ⟨Nat.zero_le _, Nat.zero_le _⟩ rfl ?_
      refine V_if_eq hC 40 dX1_ticksToExpiry_18 (by decide) (fun c3 => ?_) (fun c3 => ?_)
      · have h := ite_t c3 h
        exact b_X1_ticksToExpiry_40 hC hr hlk hg hk4 h
      · have h := ite_f c3 h
        refine V_iload_n hC dX1_ticksToExpiry_21 rfl 1 rfl ?_
        refine V_aload_n hC dX1_ticksToExpiry_22 rfl 0 rfl ?_
        refine V_getR hC (r_d0_1 hg) fw_X1_21 dX1_ticksToExpiry_23 ?_
        refine V_iload_n hC dX1_ticksToExpiry_26 rfl 2 rfl ?_
        refine V_iconst hC (2 : Int32) dX1_ticksToExpiry_27 (by decide) ?_
        obtain ⟨q4, e4, h⟩ := bind_some h
        refine V_cVr hC [.int x3, .int (2 : Int32)] (c_X0_fact (l := l) hC.2.2.2.2.2.2.2 hg e4) kd_X0_fact kv_X0_fact gw_616 (r_d8_0 hg).o rfl ⟨Nat.le_of_ble_eq_true rfl, Nat.le_of_ble_eq_true rfl⟩ rfl (Nat.le_of_ble_eq_true rfl) dX1_ticksToExpiry_28 ⟨Nat.zero_le _, Nat.zero_le _⟩ rfl ?_
        refine V_aload_n hC dX1_ticksToExpiry_31 rfl 0 rfl ?_
        refine V_getI hC (f_d0_6 hg) fw_X1_63 dX1_ticksToExpiry_32 ?_
        refine V_isub hC dX1_ticksToExpiry_35 ?_
        refine V_mmin hC gw_897 gw_414 gw_17 gw_415 (Nat.le_of_ble_eq_true rfl) (Nat.le_of_ble_eq_true rfl) (Nat.le_of_ble_eq_true rfl) ⟨Nat.zero_le _, Nat.zero_le _⟩ dX1_ticksToExpiry_36 ?_
        refine V_istore_n hC ([(2, .int (imin x2 (q4 - (M.1 g 0 6)))), (0, .ref (adr G g 0)), (3, .int x3)]) dX1_ticksToExpiry_39 rfl (by decide) rfl ?_
        refine V_sub [1, 0, 2] rfl ?_
        exact b_X1_ticksToExpiry_40 hC hr hlk hg hk4 h
theorem c_X1_ticksToExpiry {l : Launch} {G : Geo} {g : Nat} {x1 : Int32} {rv : Int32} {M : Mem} (hG : gD G) (hg : g < 6) (h : f_X1_ticksToExpiry g x1 M = some rv) : Met l yX1_ticksToExpiry (.code yX1_ticksToExpiry cX1_ticksToExpiry 4 (some .int) :: GL) (rmk 2) (gP G [.ref (adr G g 0), .int x1] M) (gQ G (some (.int rv)) M) 0 0 (gA G) := by
  refine Met_of (own := RX1) (L := [(0, .ref (adr G g 0)), (1, .int x1)]) hG (by decide +kernel) rfl (Nat.le_of_ble_eq_true rfl) rfl ?_
  intro p e s m args below meth c hC hr hlk
  refine V_iload_n hC dX1_ticksToExpiry_0 rfl 1 rfl ?_
  refine V_istore_n hC ([(2, .int x1), (0, .ref (adr G g 0)), (1, .int x1)]) dX1_ticksToExpiry_1 rfl (by decide) rfl ?_
  refine V_iconst hC (0 : Int32) dX1_ticksToExpiry_2 (by decide) ?_
  refine V_istore_n hC ([(3, .int (0 : Int32)), (2, .int x1), (0, .ref (adr G g 0)), (1, .int x1)]) dX1_ticksToExpiry_3 rfl (by decide) rfl ?_
  refine V_sub [2, 1, 0] rfl ?_
  exact l_X1_ticksToExpiry_4 hC hr hlk hg FU h
theorem b_X1_countUse_46 {g : Nat} {Mf : Mem} {k2 : Int32 → Mem → Option Mem} {x1 : Int32} {x2 : Int32} {M : Mem} (hC : Cx p s m args c cX1_countUse RX1 4 G) (hr : meth.sig.returnType = none) (hlk : meth.locks = false) (hg : g < 6) (hk2 : ∀ (x2 : Int32) (M : Mem), k2 x2 M = some Mf → V p l e (rmk 2) s m args below meth c 4 G 0 0 (MQ below (gQ G none Mf) args s 0 0 (gA G)) 2 [(0, .ref (adr G g 0)), (1, .int x1), (2, .int x2)] [] M) (h : B_X1_countUse_46 g k2 x1 x2 M = some Mf) : V p l e (rmk 2) s m args below meth c 4 G 0 0 (MQ below (gQ G none Mf) args s 0 0 (gA G)) 46 [(0, .ref (adr G g 0)), (1, .int x1), (2, .int x2)] [] M := by
  refine V_iinc hC (x2 + 1) ([(2, .int (x2 + 1)), (0, .ref (adr G g 0)), (1, .int x1)]) dX1_countUse_46 2 rfl rfl (by decide) rfl ?_
  refine V_goto hC 2 dX1_countUse_49 (by decide) ?_
  refine V_sub [1, 2, 0] rfl ?_
  exact hk2 _ _ h
theorem l_X1_countUse_2 {g : Nat} {Mf : Mem} {x1 : Int32} (hC : Cx p s m args c cX1_countUse RX1 4 G) (hr : meth.sig.returnType = none) (hlk : meth.locks = false) (hg : g < 6) : ∀ (n : Nat) {x2 : Int32} {M : Mem} (h : L_X1_countUse_2 g x1 n x2 M = some Mf), V p l e (rmk 2) s m args below meth c 4 G 0 0 (MQ below (gQ G none Mf) args s 0 0 (gA G)) 2 [(0, .ref (adr G g 0)), (1, .int x1), (2, .int x2)] [] M := by
  intro n
  induction n with
  | zero => intro x2 M h; cases h
  | succ n ih =>
    intro x2 M h
    have hk2 : ∀ (x2 : Int32) (M : Mem), L_X1_countUse_2 g x1 n x2 M = some Mf → V p l e (rmk 2) s m args below meth c 4 G 0 0 (MQ below (gQ G none Mf) args s 0 0 (gA G)) 2 [(0, .ref (adr G g 0)), (1, .int x1), (2, .int x2)] [] M := fun _ _ z => ih z
    refine V_iload_n hC dX1_countUse_2 rfl 2 rfl ?_
    refine V_bipush hC (10 : Int32) dX1_countUse_3 (by decide) ?_
    refine V_icmp_ge hC 52 dX1_countUse_5 (by decide) (fun c1 => ?_) (fun c1 => ?_)
    · have h := ite_t c1 h
      obtain rfl := Option.some.inj h
      exact V_vret hC hr hlk dX1_countUse_52
    · have h := ite_f c1 h
      refine V_aload_n hC dX1_countUse_8 rfl 0 rfl ?_
      refine V_getR hC (r_d0_1 hg) fw_X1_21 dX1_countUse_9 ?_
      refine V_iload_n hC dX1_countUse_12 rfl 2 rfl ?_
      refine V_iconst hC (0 : Int32) dX1_countUse_13 (by decide) ?_
      obtain ⟨q2, e2, h⟩ := bind_some h
      refine V_cVr hC [.int x2, .int (0 : Int32)] (c_X0_fact (l := l) hC.2.2.2.2.2.2.2 hg e2) kd_X0_fact kv_X0_fact gw_616 (r_d8_0 hg).o rfl ⟨Nat.le_of_ble_eq_true rfl, Nat.le_of_ble_eq_true rfl⟩ rfl (Nat.le_of_ble_eq_true rfl) dX1_countUse_14 ⟨Nat.zero_le _, Nat.zero_le _⟩ rfl ?_
      refine V_istore_n hC ([(3, .int q2), (0, .ref (adr G g 0)), (1, .int x1), (2, .int x2)]) dX1_countUse_17 rfl (by decide) rfl ?_
      refine V_aload_n hC dX1_countUse_18 rfl 1 rfl ?_
      refine V_getR hC (r_d0_1 hg) fw_X1_21 dX1_countUse_19 ?_
      refine V_iload_n hC dX1_countUse_22 rfl 3 rfl ?_
      obtain ⟨q3, e3, h⟩ := bind_some h
      refine V_cVr hC [.int x2] (c_X0_isHeld (l := l) hC.2.2.2.2.2.2.2 hg e3) kd_X0_isHeld kv_X0_isHeld gw_615 (r_d8_0 hg).o rfl ⟨Nat.le_of_ble_eq_true rfl, Nat.le_of_ble_eq_true rfl⟩ rfl (Nat.le_of_ble_eq_true rfl) dX1_countUse_23 ⟨Nat.zero_le _, Nat.zero_le _⟩ rfl ?_
      refine V_if_eq hC 46 dX1_countUse_26 (by decide) (fun c4 => ?_) (fun c4 => ?_)
      · have h := ite_t c4 h
        refine V_sub [1, 2, 3] rfl ?_
        exact b_X1_countUse_46 hC hr hlk hg hk2 h
      · have h := ite_f c4 h
        refine V_iload_n hC dX1_countUse_29 rfl 0 rfl ?_
        refine V_cSNr hC [.int q2] (c_X8_isUser (l := l) hC.2.2.2.2.2.2.2 rfl) kd_X8_isUser gw_627 nw_38 ⟨Nat.le_of_ble_eq_true rfl, Nat.le_of_ble_eq_true rfl⟩ rfl (Nat.le_of_ble_eq_true rfl) dX1_countUse_30 ⟨Nat.zero_le _, Nat.zero_le _⟩ rfl ?_
        refine V_if_eq hC 46 dX1_countUse_33 (by decide) (fun c6 => ?_) (fun c6 => ?_)
        · have h := ite_t c6 h
          refine V_sub [1, 2, 3] rfl ?_
          exact b_X1_countUse_46 hC hr hlk hg hk2 h
        · have h := ite_f c6 h
          refine V_aload_n hC dX1_countUse_36 rfl 1 rfl ?_
          refine V_getR hC (r_d0_4 hg) fw_X1_39 dX1_countUse_37 ?_
          refine V_iload_n hC dX1_countUse_40 rfl 0 rfl ?_
          refine V_dup2 hC dX1_countUse_41 rfl rfl ?_
          obtain ⟨c7, h⟩ := ite_some h
          refine V_iald hC (a_d16 hg) c7 dX1_countUse_42 ?_
          refine V_iload_n hC dX1_countUse_43 rfl 2 rfl ?_
          refine V_iadd hC dX1_countUse_44 ?_
          obtain ⟨c8, h⟩ := ite_some h
          refine V_iast hC (a_d16 hg) c8 dX1_countUse_45 ?_
          refine V_sub [1, 2, 3] rfl ?_
          exact b_X1_countUse_46 hC hr hlk hg hk2 h
theorem c_X1_countUse {l : Launch} {G : Geo} {g : Nat} {x1 : Int32} {Mf : Mem} {M : Mem} (hG : gD G) (hg : g < 6) (h : f_X1_countUse g x1 M = some Mf) : Met l yX1_countUse (.code yX1_countUse cX1_countUse 4 none :: GL) (rmk 2) (gP G [.ref (adr G g 0), .int x1] M) (gQ G none Mf) 0 0 (gA G) := by
  refine Met_of (own := RX1) (L := [(0, .ref (adr G g 0)), (1, .int x1)]) hG (by decide +kernel) rfl (Nat.le_of_ble_eq_true rfl) rfl ?_
  intro p e s m args below meth c hC hr hlk
  refine V_iconst hC (0 : Int32) dX1_countUse_0 (by decide) ?_
  refine V_istore_n hC ([(2, .int (0 : Int32)), (0, .ref (adr G g 0)), (1, .int x1)]) dX1_countUse_1 rfl (by decide) rfl ?_
  refine V_sub [1, 2, 0] rfl ?_
  exact l_X1_countUse_2 hC hr hlk hg FU h
theorem b_X1_loseExpired_43 {g : Nat} {Mf : Mem} {k2 : Int32 → Mem → Option Mem} {x1 : Int32} {M : Mem} (hC : Cx p s m args c cX1_loseExpired RX1 2 G) (hr : meth.sig.returnType = none) (hlk : meth.locks = false) (hg : g < 6) (hk2 : ∀ (x1 : Int32) (M : Mem), k2 x1 M = some Mf → V p l e (rmk 3) s m args below meth c 2 G 0 0 (MQ below (gQ G none Mf) args s 0 0 (gA G)) 2 [(0, .ref (adr G g 0)), (1, .int x1)] [] M) (h : B_X1_loseExpired_43 g k2 x1 M = some Mf) : V p l e (rmk 3) s m args below meth c 2 G 0 0 (MQ below (gQ G none Mf) args s 0 0 (gA G)) 43 [(0, .ref (adr G g 0)), (1, .int x1)] [] M := by
  refine V_iinc hC (x1 + 1) ([(1, .int (x1 + 1)), (0, .ref (adr G g 0))]) dX1_loseExpired_43 1 rfl rfl (by decide) rfl ?_
  refine V_goto hC 2 dX1_loseExpired_46 (by decide) ?_
  refine V_sub [1, 0] rfl ?_
  exact hk2 _ _ h
theorem l_X1_loseExpired_2 {g : Nat} {Mf : Mem} (hC : Cx p s m args c cX1_loseExpired RX1 2 G) (hr : meth.sig.returnType = none) (hlk : meth.locks = false) (hg : g < 6) : ∀ (n : Nat) {x1 : Int32} {M : Mem} (h : L_X1_loseExpired_2 g n x1 M = some Mf), V p l e (rmk 3) s m args below meth c 2 G 0 0 (MQ below (gQ G none Mf) args s 0 0 (gA G)) 2 [(0, .ref (adr G g 0)), (1, .int x1)] [] M := by
  intro n
  induction n with
  | zero => intro x1 M h; cases h
  | succ n ih =>
    intro x1 M h
    have hk2 : ∀ (x1 : Int32) (M : Mem), L_X1_loseExpired_2 g n x1 M = some Mf → V p l e (rmk 3) s m args below meth c 2 G 0 0 (MQ below (gQ G none Mf) args s 0 0 (gA G)) 2 [(0, .ref (adr G g 0)), (1, .int x1)] [] M := fun _ _ z => ih z
    refine V_iload_n hC dX1_loseExpired_2 rfl 1 rfl ?_
    refine V_bipush hC (10 : Int32) dX1_loseExpired_3 (by decide) ?_
    refine V_icmp_ge hC 49 dX1_loseExpired_5 (by decide) (fun c1 => ?_) (fun c1 => ?_)
    · have h := ite_t c1 h
      obtain rfl := Option.some.inj h
      exact V_vret hC hr hlk dX1_loseExpired_49
    · have h := ite_f c1 h
      refine V_aload_n hC dX1_loseExpired_8 rfl 0 rfl ?_
      refine V_getR hC (r_d0_1 hg) fw_X1_21 dX1_loseExpired_9 ?_
      refine V_iload_n hC dX1_loseExpired_12 rfl 1 rfl ?_
      obtain ⟨q2, e2, h⟩ := bind_some h
      refine V_cVr hC [.int x1] (c_X0_isHeld (l := l) hC.2.2.2.2.2.2.2 hg e2) kd_X0_isHeld kv_X0_isHeld gw_615 (r_d8_0 hg).o rfl ⟨Nat.le_of_ble_eq_true rfl, Nat.le_of_ble_eq_true rfl⟩ rfl (Nat.le_of_ble_eq_true rfl) dX1_loseExpired_13 ⟨Nat.zero_le _, Nat.zero_le _⟩ rfl ?_
      refine V_if_eq hC 43 dX1_loseExpired_16 (by decide) (fun c3 => ?_) (fun c3 => ?_)
      · have h := ite_t c3 h
        exact b_X1_loseExpired_43 hC hr hlk hg hk2 h
      · have h := ite_f c3 h
        refine V_aload_n hC dX1_loseExpired_19 rfl 0 rfl ?_
        refine V_getR hC (r_d0_1 hg) fw_X1_21 dX1_loseExpired_20 ?_
        refine V_iload_n hC dX1_loseExpired_23 rfl 1 rfl ?_
        refine V_iconst hC (2 : Int32) dX1_loseExpired_24 (by decide) ?_
        obtain ⟨q4, e4, h⟩ := bind_some h
        refine V_cVr hC [.int x1, .int (2 : Int32)] (c_X0_fact (l := l) hC.2.2.2.2.2.2.2 hg e4) kd_X0_fact kv_X0_fact gw_616 (r_d8_0 hg).o rfl ⟨Nat.le_of_ble_eq_true rfl, Nat.le_of_ble_eq_true rfl⟩ rfl (Nat.le_of_ble_eq_true rfl) dX1_loseExpired_25 ⟨Nat.zero_le _, Nat.zero_le _⟩ rfl ?_
        refine V_aload_n hC dX1_loseExpired_28 rfl 0 rfl ?_
        refine V_getI hC (f_d0_6 hg) fw_X1_63 dX1_loseExpired_29 ?_
        refine V_icmp_ne hC 43 dX1_loseExpired_32 (by decide) (fun c5 => ?_) (fun c5 => ?_)
        · have h := ite_f c5 h
          exact b_X1_loseExpired_43 hC hr hlk hg hk2 h
        · have h := ite_t c5 h
          refine V_aload_n hC dX1_loseExpired_35 rfl 0 rfl ?_
          refine V_getR hC (r_d0_1 hg) fw_X1_21 dX1_loseExpired_36 ?_
          refine V_iload_n hC dX1_loseExpired_39 rfl 1 rfl ?_
          obtain ⟨q6, e6, h⟩ := bind_some h
          refine V_cVv hC [.int x1] (c_X0_lose (l := l) hC.2.2.2.2.2.2.2 hg e6) kd_X0_lose kv_X0_lose gw_774 (r_d8_0 hg).o rfl ⟨Nat.le_of_ble_eq_true rfl, Nat.le_of_ble_eq_true rfl⟩ rfl (Nat.le_of_ble_eq_true rfl) dX1_loseExpired_40 ⟨Nat.zero_le _, Nat.zero_le _⟩ rfl ?_
          exact b_X1_loseExpired_43 hC hr hlk hg hk2 h
theorem c_X1_loseExpired {l : Launch} {G : Geo} {g : Nat} {Mf : Mem} {M : Mem} (hG : gD G) (hg : g < 6) (h : f_X1_loseExpired g M = some Mf) : Met l yX1_loseExpired (.code yX1_loseExpired cX1_loseExpired 2 none :: GL) (rmk 3) (gP G [.ref (adr G g 0)] M) (gQ G none Mf) 0 0 (gA G) := by
  refine Met_of (own := RX1) (L := [(0, .ref (adr G g 0))]) hG (by decide +kernel) rfl (Nat.le_of_ble_eq_true rfl) rfl ?_
  intro p e s m args below meth c hC hr hlk
  refine V_iconst hC (0 : Int32) dX1_loseExpired_0 (by decide) ?_
  refine V_istore_n hC ([(1, .int (0 : Int32)), (0, .ref (adr G g 0))]) dX1_loseExpired_1 rfl (by decide) rfl ?_
  refine V_sub [1, 0] rfl ?_
  exact l_X1_loseExpired_2 hC hr hlk hg FU h
theorem b_X1_passTicks_88 {g : Nat} {Mf : Mem} {k8 : Int32 → Int32 → Int32 → Mem → Option Mem} {x1 : Int32} {x2 : Int32} {x4 : Int32} {x5 : Int32} {x6 : Int32} {z0 : Int32} {M : Mem} (hC : Cx p s m args c cX1_passTicks RX1 7 G) (hr : meth.sig.returnType = none) (hlk : meth.locks = false) (hg : g < 6) (hk8 : ∀ (x3 : Int32) (x4 : Int32) (x5 : Int32) (M : Mem), k8 x3 x4 x5 M = some Mf → V p l e (rmk 5) s m args below meth c 7 G 0 0 (MQ below (gQ G none Mf) args s 0 0 (gA G)) 8 [(0, .ref (adr G g 0)), (1, .int x1), (2, .int x2), (3, .int x3), (4, .int x4), (5, .int x5)] [] M) (h : B_X1_passTicks_88 g k8 x1 x2 x4 x5 x6 z0 M = some Mf) : V p l e (rmk 5) s m args below meth c 7 G 0 0 (MQ below (gQ G none Mf) args s 0 0 (gA G)) 88 [(0, .ref (adr G g 0)), (1, .int x1), (2, .int x2), (4, .int x4), (5, .int x5), (6, .int x6)] [.int z0] M := by
  refine V_istore_n hC ([(3, .int z0), (0, .ref (adr G g 0)), (1, .int x1), (2, .int x2), (4, .int x4), (5, .int x5), (6, .int x6)]) dX1_passTicks_88 rfl (by decide) rfl ?_
  refine V_aload_n hC dX1_passTicks_89 rfl 1 rfl ?_
  refine V_iconst hC (1 : Int32) dX1_passTicks_90 (by decide) ?_
  obtain ⟨q9, e9, h⟩ := bind_some h
  refine V_cVv hC [.int (1 : Int32)] (c_X1_countUse (l := l) hC.2.2.2.2.2.2.2 hg e9) kd_X1_countUse kv_X1_countUse gw_901 (r_d0_0 hg).o rfl ⟨Nat.le_of_ble_eq_true rfl, Nat.le_of_ble_eq_true rfl⟩ rfl (Nat.le_of_ble_eq_true rfl) dX1_passTicks_91 ⟨Nat.zero_le _, Nat.zero_le _⟩ rfl ?_
  refine V_iload hC dX1_passTicks_94 4 rfl ?_
  refine V_iload hC dX1_passTicks_96 6 rfl ?_
  refine V_isub hC dX1_passTicks_98 ?_
  refine V_istore hC ([(4, .int (x4 - x6)), (3, .int z0), (0, .ref (adr G g 0)), (1, .int x1), (2, .int x2), (5, .int x5), (6, .int x6)]) dX1_passTicks_99 (by decide) rfl ?_
  refine V_iinc hC (x5 + 1) ([(5, .int (x5 + 1)), (4, .int (x4 - x6)), (3, .int z0), (0, .ref (adr G g 0)), (1, .int x1), (2, .int x2), (6, .int x6)]) dX1_passTicks_101 5 rfl rfl (by decide) rfl ?_
  refine V_goto hC 8 dX1_passTicks_104 (by decide) ?_
  refine V_sub [3, 4, 5, 2, 1, 0] rfl ?_
  exact hk8 _ _ _ _ h
theorem b_X1_passTicks_51 {g : Nat} {Mf : Mem} {k8 : Int32 → Int32 → Int32 → Mem → Option Mem} {x1 : Int32} {x2 : Int32} {x4 : Int32} {x5 : Int32} {z0 : Int32} {M : Mem} (hC : Cx p s m args c cX1_passTicks RX1 7 G) (hr : meth.sig.returnType = none) (hlk : meth.locks = false) (hg : g < 6) (hk8 : ∀ (x3 : Int32) (x4 : Int32) (x5 : Int32) (M : Mem), k8 x3 x4 x5 M = some Mf → V p l e (rmk 5) s m args below meth c 7 G 0 0 (MQ below (gQ G none Mf) args s 0 0 (gA G)) 8 [(0, .ref (adr G g 0)), (1, .int x1), (2, .int x2), (3, .int x3), (4, .int x4), (5, .int x5)] [] M) (h : B_X1_passTicks_51 g k8 x1 x2 x4 x5 z0 M = some Mf) : V p l e (rmk 5) s m args below meth c 7 G 0 0 (MQ below (gQ G none Mf) args s 0 0 (gA G)) 51 [(0, .ref (adr G g 0)), (1, .int x1), (2, .int x2), (4, .int x4), (5, .int x5)] [.int z0] M := by
  refine V_istore hC ([(6, .int z0), (0, .ref (adr G g 0)), (1, .int x1), (2, .int x2), (4, .int x4), (5, .int x5)]) dX1_passTicks_51 (by decide) rfl ?_
  refine V_aload_n hC dX1_passTicks_53 rfl 1 rfl ?_
  refine V_iload hC dX1_passTicks_54 0 rfl ?_
  refine V_iconst hC (1 : Int32) dX1_passTicks_56 (by decide) ?_
  refine V_isub hC dX1_passTicks_57 ?_
  obtain ⟨q5, e5, h⟩ := bind_some h
  refine V_cVv hC [.int (z0 - (1 : Int32))] (c_X1_countUse (l := l) hC.2.2.2.2.2.2.2 hg e5) kd_X1_countUse kv_X1_countUse gw_901 (r_d0_0 hg).o rfl ⟨Nat.le_of_ble_eq_true rfl, Nat.le_of_ble_eq_true rfl⟩ rfl (Nat.le_of_ble_eq_true rfl) dX1_passTicks_58 ⟨Nat.zero_le _, Nat.zero_le _⟩ rfl ?_
  refine V_aload_n hC dX1_passTicks_61 rfl 1 rfl ?_
  refine V_dup hC dX1_passTicks_62 rfl ?_
  refine V_getI hC (f_d0_6 hg) fw_X1_63 dX1_passTicks_63 ?_
  refine V_iload hC dX1_passTicks_66 0 rfl ?_
  refine V_iadd hC dX1_passTicks_68 ?_
  refine V_putI hC (f_d0_6 hg) fw_X1_63 flp_1_6 dX1_passTicks_69 ?_
  refine V_aload_n hC dX1_passTicks_72 rfl 1 rfl ?_
  obtain ⟨q6, e6, h⟩ := bind_some h
  refine V_cVv hC [] (c_X1_loseExpired (l := l) hC.2.2.2.2.2.2.2 hg e6) kd_X1_loseExpired kv_X1_loseExpired gw_905 (r_d0_0 hg).o rfl ⟨Nat.le_of_ble_eq_true rfl, Nat.le_of_ble_eq_true rfl⟩ rfl (Nat.le_of_ble_eq_true rfl) dX1_passTicks_73 ⟨Nat.zero_le _, Nat.zero_le _⟩ rfl ?_
  refine V_aload_n hC dX1_passTicks_76 rfl 1 rfl ?_
  obtain ⟨q7, e7, h⟩ := bind_some h
  refine V_cVr hC [] (c_X1_serve (l := l) (rv := q7.1) (Mf := q7.2) hC.2.2.2.2.2.2.2 hg e7) kd_X1_serve kv_X1_serve gw_735 (r_d0_0 hg).o rfl ⟨Nat.le_of_ble_eq_true rfl, Nat.le_of_ble_eq_true rfl⟩ rfl (Nat.le_of_ble_eq_true rfl) dX1_passTicks_77 ⟨Nat.zero_le _, Nat.zero_le _⟩ rfl ?_
  refine V_if_ne hC 87 dX1_passTicks_80 (by decide) (fun c8 => ?_) (fun c8 => ?_)
  · have h := ite_f c8 h
    refine V_iconst hC (0 : Int32) dX1_passTicks_87 (by decide) ?_
    refine V_sub [1, 2, 3, 4, 5, 0] rfl ?_
    exact b_X1_passTicks_88 hC hr hlk hg hk8 h
  · have h := ite_t c8 h
    refine V_iconst hC (1 : Int32) dX1_passTicks_83 (by decide) ?_
    refine V_goto hC 88 dX1_passTicks_84 (by decide) ?_
    refine V_sub [1, 2, 3, 4, 5, 0] rfl ?_
    exact b_X1_passTicks_88 hC hr hlk hg hk8 h
theorem b_X1_passTicks_37 {g : Nat} {Mf : Mem} {k8 : Int32 → Int32 → Int32 → Mem → Option Mem} {x1 : Int32} {x2 : Int32} {x3 : Int32} {x4 : Int32} {x5 : Int32} {M : Mem} (hC : Cx p s m args c cX1_passTicks RX1 7 G) (hr : meth.sig.returnType = none) (hlk : meth.locks = false) (hg : g < 6) (hk8 : ∀ (x3 : Int32) (x4 : Int32) (x5 : Int32) (M : Mem), k8 x3 x4 x5 M = some Mf → V p l e (rmk 5) s m args below meth c 7 G 0 0 (MQ below (gQ G none Mf) args s 0 0 (gA G)) 8 [(0, .ref (adr G g 0)), (1, .int x1), (2, .int x2), (3, .int x3), (4, .int x4), (5, .int x5)] [] M) (h : B_X1_passTicks_37 g k8 x1 x2 x3 x4 x5 M = some Mf) : V p l e (rmk 5) s m args below meth c 7 G 0 0 (MQ below (gQ G none Mf) args s 0 0 (gA G)) 37 [(0, .ref (adr G g 0)), (1, .int x1), (2, .int x2), (3, .int x3), (4, .int x4), (5, .int x5)] [] M := by
  refine V_iload_n hC dX1_passTicks_37 rfl 3 rfl ?_
  refine V_if_eq hC 50 dX1_passTicks_38 (by decide) (fun c4 => ?_) (fun c4 => ?_)
  · have h := ite_t c4 h
    refine V_iconst hC (1 : Int32) dX1_passTicks_50 (by decide) ?_
    refine V_sub [0, 1, 2, 4, 5] rfl ?_
    exact b_X1_passTicks_51 hC hr hlk hg hk8 h
  · have h := ite_f c4 h
    refine V_aload_n hC dX1_passTicks_41 rfl 0 rfl ?_
    refine V_iload hC dX1_passTicks_42 4 rfl ?_
    obtain ⟨q10, e10, h⟩ := bind_some h
    refine V_cVr hC [.int x4] (c_X1_ticksToExpiry (l := l) hC.2.2.2.2.2.2.2 hg e10) kd_X1_ticksToExpiry kv_X1_ticksToExpiry gw_893 (r_d0_0 hg).o rfl ⟨Nat.le_of_ble_eq_true rfl, Nat.le_of_ble_eq_true rfl⟩ rfl (Nat.le_of_ble_eq_true rfl) dX1_passTicks_44 ⟨Nat.zero_le _, Nat.zero_le _⟩ rfl ?_
    refine V_goto hC 51 dX1_passTicks_47 (by decide) ?_
    refine V_sub [0, 1, 2, 4, 5] rfl ?_
    exact b_X1_passTicks_51 hC hr hlk hg hk8 h
theorem l_X1_passTicks_8 {g : Nat} {Mf : Mem} {x1 : Int32} {x2 : Int32} (hC : Cx p s m args c cX1_passTicks RX1 7 G) (hr : meth.sig.returnType = none) (hlk : meth.locks = false) (hg : g < 6) : ∀ (n : Nat) {x3 : Int32} {x4 : Int32} {x5 : Int32} {M : Mem} (h : L_X1_passTicks_8 g x1 x2 n x3 x4 x5 M = some Mf), V p l e (rmk 5) s m args below meth c 7 G 0 0 (MQ below (gQ G none Mf) args s 0 0 (gA G)) 8 [(0, .ref (adr G g 0)), (1, .int x1), (2, .int x2), (3, .int x3), (4, .int x4), (5, .int x5)] [] M := by
  intro n
  induction n with
  | zero => intro x3 x4 x5 M h; cases h
  | succ n ih =>
    intro x3 x4 x5 M h
    have hk8 : ∀ (x3 : Int32) (x4 : Int32) (x5 : Int32) (M : Mem), L_X1_passTicks_8 g x1 x2 n x3 x4 x5 M = some Mf → V p l e (rmk 5) s m args below meth c 7 G 0 0 (MQ below (gQ G none Mf) args s 0 0 (gA G)) 8 [(0, .ref (adr G g 0)), (1, .int x1), (2, .int x2), (3, .int x3), (4, .int x4), (5, .int x5)] [] M := fun _ _ _ _ z => ih z
    refine V_iload hC dX1_passTicks_8 5 rfl ?_
    refine V_iload_n hC dX1_passTicks_10 rfl 1 rfl ?_
    refine V_icmp_ge hC 107 dX1_passTicks_11 (by decide) (fun c1 => ?_) (fun c1 => ?_)
    · have h := ite_t c1 h
      obtain rfl := Option.some.inj h
      exact V_vret hC hr hlk dX1_passTicks_107
    · have h := ite_f c1 h
      refine V_iload hC dX1_passTicks_14 4 rfl ?_
      refine V_if_le hC 107 dX1_passTicks_16 (by decide) (fun c2 => ?_) (fun c2 => ?_)
      · have h := ite_t c2 h
        obtain rfl := Option.some.inj h
        exact V_vret hC hr hlk dX1_passTicks_107
      · have h := ite_f c2 h
        refine V_iload_n hC dX1_passTicks_19 rfl 2 rfl ?_
        refine V_iconst hC ((-1) : Int32) dX1_passTicks_20 (by decide) ?_
        refine V_icmp_eq hC 37 dX1_passTicks_21 (by decide) (fun c3 => ?_) (fun c3 => ?_)
        · have h := ite_t c3 h
          exact b_X1_passTicks_37 hC hr hlk hg hk8 h
        · have h := ite_f c3 h
          refine V_aload_n hC dX1_passTicks_24 rfl 0 rfl ?_
          refine V_getR hC (r_d0_2 hg) fw_X1_28 dX1_passTicks_25 ?_
          refine V_iload_n hC dX1_passTicks_28 rfl 2 rfl ?_
          obtain ⟨q11, e11, h⟩ := bind_some h
          refine V_cVr hC [.int x2] (c_X5_placeOf (l := l) hC.2.2.2.2.2.2.2 hg e11) kd_X5_placeOf kv_X5_placeOf gw_618 (r_d12_0 hg).o rfl ⟨Nat.le_of_ble_eq_true rfl, Nat.le_of_ble_eq_true rfl⟩ rfl (Nat.le_of_ble_eq_true rfl) dX1_passTicks_29 ⟨Nat.zero_le _, Nat.zero_le _⟩ rfl ?_
          refine V_iconst hC ((-1) : Int32) dX1_passTicks_32 (by decide) ?_
          refine V_icmp_ne hC 37 dX1_passTicks_33 (by decide) (fun c12 => ?_) (fun c12 => ?_)
          · have h := ite_f c12 h
            exact b_X1_passTicks_37 hC hr hlk hg hk8 h
          · have h := ite_t c12 h
            obtain rfl := Option.some.inj h
            exact V_vret hC hr hlk dX1_passTicks_36
theorem c_X1_passTicks {l : Launch} {G : Geo} {g : Nat} {x1 : Int32} {x2 : Int32} {Mf : Mem} {M : Mem} (hG : gD G) (hg : g < 6) (h : f_X1_passTicks g x1 x2 M = some Mf) : Met l yX1_passTicks (.code yX1_passTicks cX1_passTicks 7 none :: GL) (rmk 5) (gP G [.ref (adr G g 0), .int x1, .int x2] M) (gQ G none Mf) 0 0 (gA G) := by
  refine Met_of (own := RX1) (L := [(0, .ref (adr G g 0)), (1, .int x1), (2, .int x2)]) hG (by decide +kernel) rfl (Nat.le_of_ble_eq_true rfl) rfl ?_
  intro p e s m args below meth c hC hr hlk
  refine V_iconst hC (0 : Int32) dX1_passTicks_0 (by decide) ?_
  refine V_istore_n hC ([(3, .int (0 : Int32)), (0, .ref (adr G g 0)), (1, .int x1), (2, .int x2)]) dX1_passTicks_1 rfl (by decide) rfl ?_
  refine V_iload_n hC dX1_passTicks_2 rfl 2 rfl ?_
  refine V_istore hC ([(4, .int x1), (3, .int (0 : Int32)), (0, .ref (adr G g 0)), (1, .int x1), (2, .int x2)]) dX1_passTicks_3 (by decide) rfl ?_
  refine V_iconst hC (0 : Int32) dX1_passTicks_5 (by decide) ?_
  refine V_istore hC ([(5, .int (0 : Int32)), (4, .int x1), (3, .int (0 : Int32)), (0, .ref (adr G g 0)), (1, .int x1), (2, .int x2)]) dX1_passTicks_6 (by decide) rfl ?_
  refine V_sub [3, 4, 5, 2, 1, 0] rfl ?_
  exact l_X1_passTicks_8 hC hr hlk hg FU h
end
