section
variable {p : Program} {l : Launch} {e : Env} {s : State} {m : MethodId} {args : Array Value} {below : List Frame} {meth : Method} {c : Code} {G : Geo}
theorem b_X9_blame_91 {rv : Int32} {Mf : Mem} {k28 : Int32 → Int32 → Option (Int32 × Mem)} {x1 : Int32} {x2 : Int32} {x4 : Int32} {z0 : Int32} {M : Mem} (hC : Cx p s m args c cX9_blame RX9 6 G) (hr : meth.sig.returnType = some .int) (hlk : meth.locks = false) (hk28 : ∀ (x3 : Int32) (x4 : Int32), k28 x3 x4 = some (rv, Mf) → V p l e (rmk 3) s m args below meth c 6 G 0 0 (MQ below (gQ G (some (.int rv)) Mf) args s 0 0 (gA G)) 28 [(0, .ref (adr G 7 0)), (1, .int x1), (2, .int x2), (3, .int x3), (4, .int x4)] [] M) (h : B_X9_blame_91 k28 x1 x2 x4 z0 M = some (rv, Mf)) : V p l e (rmk 3) s m args below meth c 6 G 0 0 (MQ below (gQ G (some (.int rv)) Mf) args s 0 0 (gA G)) 91 [(0, .ref (adr G 7 0)), (1, .int x1), (2, .int x2), (4, .int x4)] [.int z0] M := by
  refine V_istore_n hC ([(3, .int z0), (0, .ref (adr G 7 0)), (1, .int x1), (2, .int x2), (4, .int x4)]) dX9_blame_91 rfl (by decide) rfl ?_
  refine V_iinc hC (x4 + 1) ([(4, .int (x4 + 1)), (3, .int z0), (0, .ref (adr G 7 0)), (1, .int x1), (2, .int x2)]) dX9_blame_92 4 rfl rfl (by decide) rfl ?_
  refine V_goto hC 28 dX9_blame_95 (by decide) ?_
  refine V_sub [2, 3, 4, 1, 0] rfl ?_
  exact hk28 _ _ h
theorem b_X9_blame_90 {rv : Int32} {Mf : Mem} {k28 : Int32 → Int32 → Option (Int32 × Mem)} {x1 : Int32} {x2 : Int32} {x3 : Int32} {x4 : Int32} {M : Mem} (hC : Cx p s m args c cX9_blame RX9 6 G) (hr : meth.sig.returnType = some .int) (hlk : meth.locks = false) (hk28 : ∀ (x3 : Int32) (x4 : Int32), k28 x3 x4 = some (rv, Mf) → V p l e (rmk 3) s m args below meth c 6 G 0 0 (MQ below (gQ G (some (.int rv)) Mf) args s 0 0 (gA G)) 28 [(0, .ref (adr G 7 0)), (1, .int x1), (2, .int x2), (3, .int x3), (4, .int x4)] [] M) (h : B_X9_blame_90 k28 x1 x2 x3 x4 M = some (rv, Mf)) : V p l e (rmk 3) s m args below meth c 6 G 0 0 (MQ below (gQ G (some (.int rv)) Mf) args s 0 0 (gA G)) 90 [(0, .ref (adr G 7 0)), (1, .int x1), (2, .int x2), (3, .int x3), (4, .int x4)] [] M := by
  refine V_iload_n hC dX9_blame_90 rfl 3 rfl ?_
  refine V_sub [0, 1, 2, 4] rfl ?_
  exact b_X9_blame_91 hC hr hlk hk28 h
theorem l_X9_blame_28 {rv : Int32} {Mf : Mem} {x1 : Int32} {x2 : Int32} {M : Mem} (hC : Cx p s m args c cX9_blame RX9 6 G) (hr : meth.sig.returnType = some .int) (hlk : meth.locks = false) : ∀ (n : Nat) {x3 : Int32} {x4 : Int32} (h : L_X9_blame_28 x1 x2 M n x3 x4 = some (rv, Mf)), V p l e (rmk 3) s m args below meth c 6 G 0 0 (MQ below (gQ G (some (.int rv)) Mf) args s 0 0 (gA G)) 28 [(0, .ref (adr G 7 0)), (1, .int x1), (2, .int x2), (3, .int x3), (4, .int x4)] [] M := by
  intro n
  induction n with
  | zero => intro x3 x4 h; cases h
  | succ n ih =>
    intro x3 x4 h
    have hk28 : ∀ (x3 : Int32) (x4 : Int32), L_X9_blame_28 x1 x2 M n x3 x4 = some (rv, Mf) → V p l e (rmk 3) s m args below meth c 6 G 0 0 (MQ below (gQ G (some (.int rv)) Mf) args s 0 0 (gA G)) 28 [(0, .ref (adr G 7 0)), (1, .int x1), (2, .int x2), (3, .int x3), (4, .int x4)] [] M := fun _ _ z => ih z
    refine V_iload hC dX9_blame_28 4 rfl ?_
    refine V_aload_n hC dX9_blame_30 rfl 0 rfl ?_
    refine V_getR hC (r_m0_0) fw_X9_7 dX9_blame_31 ?_
    refine V_sipush hC (2701 : Int32) dX9_blame_34 (by decide) ?_
    refine V_iald hC (a_m1) (by decide) dX9_blame_37 ?_
    refine V_icmp_ge hC 98 dX9_blame_38 (by decide) (fun c5 => ?_) (fun c5 => ?_)
    · have h := ite_t c5 h
      refine V_iload_n hC dX9_blame_98 rfl 3 rfl ?_
      obtain ⟨rfl, rfl⟩ := Prod.mk.inj (Option.some.inj h)
      exact V_iret hC hr hlk dX9_blame_99
    · have h := ite_f c5 h
      refine V_sipush hC (2702 : Int32) dX9_blame_41 (by decide) ?_
      refine V_bipush hC (6 : Int32) dX9_blame_44 (by decide) ?_
      refine V_iload hC dX9_blame_46 4 rfl ?_
      refine V_imul hC dX9_blame_48 ?_
      refine V_iadd hC dX9_blame_49 ?_
      refine V_istore hC ([(5, .int ((2702 : Int32) + ((6 : Int32) * x4))), (0, .ref (adr G 7 0)), (1, .int x1), (2, .int x2), (3, .int x3), (4, .int x4)]) dX9_blame_50 (by decide) rfl ?_
      refine V_aload_n hC dX9_blame_52 rfl 1 rfl ?_
      refine V_getR hC (r_m0_0) fw_X9_7 dX9_blame_53 ?_
      refine V_iload hC dX9_blame_56 0 rfl ?_
      refine V_iconst hC (1 : Int32) dX9_blame_58 (by decide) ?_
      refine V_iadd hC dX9_blame_59 ?_
      obtain ⟨c6, h⟩ := ite_some h
      refine V_iald hC (a_m1) c6 dX9_blame_60 ?_
      refine V_iload_n hC dX9_blame_61 rfl 2 rfl ?_
      refine V_icmp_ne hC 90 dX9_blame_62 (by decide) (fun c7 => ?_) (fun c7 => ?_)
      · have h := ite_f c7 h
        refine V_sub [1, 2, 3, 4, 5] rfl ?_
        exact b_X9_blame_90 hC hr hlk hk28 h
      · have h := ite_t c7 h
        refine V_aload_n hC dX9_blame_65 rfl 1 rfl ?_
        refine V_getR hC (r_m0_0) fw_X9_7 dX9_blame_66 ?_
        refine V_iload hC dX9_blame_69 0 rfl ?_
        refine V_iconst hC (2 : Int32) dX9_blame_71 (by decide) ?_
        refine V_iadd hC dX9_blame_72 ?_
        obtain ⟨c8, h⟩ := ite_some h
        refine V_iald hC (a_m1) c8 dX9_blame_73 ?_
        refine V_iload_n hC dX9_blame_74 rfl 3 rfl ?_
        refine V_icmp_ne hC 90 dX9_blame_75 (by decide) (fun c9 => ?_) (fun c9 => ?_)
        · have h := ite_f c9 h
          refine V_sub [1, 2, 3, 4, 5] rfl ?_
          exact b_X9_blame_90 hC hr hlk hk28 h
        · have h := ite_t c9 h
          refine V_aload_n hC dX9_blame_78 rfl 1 rfl ?_
          refine V_getR hC (r_m0_0) fw_X9_7 dX9_blame_79 ?_
          refine V_iload hC dX9_blame_82 0 rfl ?_
          refine V_iconst hC (5 : Int32) dX9_blame_84 (by decide) ?_
          refine V_iadd hC dX9_blame_85 ?_
          obtain ⟨c10, h⟩ := ite_some h
          refine V_iald hC (a_m1) c10 dX9_blame_86 ?_
          refine V_goto hC 91 dX9_blame_87 (by decide) ?_
          refine V_sub [1, 2, 3, 5] rfl ?_
          exact b_X9_blame_91 hC hr hlk hk28 h
theorem b_X9_blame_15 {rv : Int32} {Mf : Mem} {x1 : Int32} {x2 : Int32} {z0 : Int32} {M : Mem} (hC : Cx p s m args c cX9_blame RX9 6 G) (hr : meth.sig.returnType = some .int) (hlk : meth.locks = false) (h : B_X9_blame_15 x1 x2 z0 M = some (rv, Mf)) : V p l e (rmk 3) s m args below meth c 6 G 0 0 (MQ below (gQ G (some (.int rv)) Mf) args s 0 0 (gA G)) 15 [(0, .ref (adr G 7 0)), (1, .int x1), (2, .int x2)] [.int z0, .ref (adr G 7 0)] M := by
  obtain ⟨q3, e3, h⟩ := bind_some h
  refine V_cVr hC [.int z0] (c_X9_refused (l := l) (rv := q3.1) (Mf := q3.2) hC.2.2.2.2.2.2.2 e3) kd_X9_refused kv_X9_refused gw_1318 (r_m0_0).o rfl ⟨Nat.le_of_ble_eq_true rfl, Nat.le_of_ble_eq_true rfl⟩ rfl (Nat.le_of_ble_eq_true rfl) dX9_blame_15 ⟨Nat.zero_le _, Nat.zero_le _⟩ rfl ?_
  refine V_if_eq hC 23 dX9_blame_18 (by decide) (fun c4 => ?_) (fun c4 => ?_)
  · have h := ite_t c4 h
    refine V_iconst hC ((-1) : Int32) dX9_blame_23 (by decide) ?_
    refine V_istore_n hC ([(3, .int ((-1) : Int32)), (0, .ref (adr G 7 0)), (1, .int x1), (2, .int x2)]) dX9_blame_24 rfl (by decide) rfl ?_
    refine V_iconst hC (0 : Int32) dX9_blame_25 (by decide) ?_
    refine V_istore hC ([(4, .int (0 : Int32)), (3, .int ((-1) : Int32)), (0, .ref (adr G 7 0)), (1, .int x1), (2, .int x2)]) dX9_blame_26 (by decide) rfl ?_
    refine V_sub [2, 3, 4, 1, 0] rfl ?_
    exact l_X9_blame_28 hC hr hlk FU h
  · have h := ite_f c4 h
    refine V_iconst hC (0 : Int32) dX9_blame_21 (by decide) ?_
    obtain ⟨rfl, rfl⟩ := Prod.mk.inj (Option.some.inj h)
    exact V_iret hC hr hlk dX9_blame_22
theorem c_X9_blame {l : Launch} {G : Geo} {x1 : Int32} {x2 : Int32} {rv : Int32} {Mf : Mem} {M : Mem} (hG : gD G) (h : f_X9_blame x1 x2 M = some (rv, Mf)) : Met l yX9_blame (.code yX9_blame cX9_blame 6 (some .int) :: GL) (rmk 3) (gP G [.ref (adr G 7 0), .int x1, .int x2] M) (gQ G (some (.int rv)) Mf) 0 0 (gA G) := by
  refine Met_of (own := RX9) (L := [(0, .ref (adr G 7 0)), (1, .int x1), (2, .int x2)]) hG (by decide +kernel) rfl (Nat.le_of_ble_eq_true rfl) rfl ?_
  intro p e s m args below meth c hC hr hlk
  refine V_aload_n hC dX9_blame_0 rfl 0 rfl ?_
  refine V_aload_n hC dX9_blame_1 rfl 0 rfl ?_
  refine V_iload_n hC dX9_blame_2 rfl 1 rfl ?_
  refine V_iload_n hC dX9_blame_3 rfl 2 rfl ?_
  obtain ⟨q1, e1, h⟩ := bind_some h
  refine V_cVr hC [.int x1, .int x2] (c_X9_isLine (l := l) hC.2.2.2.2.2.2.2 e1) kd_X9_isLine kv_X9_isLine gw_1427 (r_m0_0).o rfl ⟨Nat.le_of_ble_eq_true rfl, Nat.le_of_ble_eq_true rfl⟩ rfl (Nat.le_of_ble_eq_true rfl) dX9_blame_4 ⟨Nat.zero_le _, Nat.zero_le _⟩ rfl ?_
  refine V_if_eq hC 14 dX9_blame_7 (by decide) (fun c2 => ?_) (fun c2 => ?_)
  · have h := ite_t c2 h
    refine V_iconst hC (1 : Int32) dX9_blame_14 (by decide) ?_
    exact b_X9_blame_15 hC hr hlk h
  · have h := ite_f c2 h
    refine V_iconst hC (0 : Int32) dX9_blame_10 (by decide) ?_
    refine V_goto hC 15 dX9_blame_11 (by decide) ?_
    exact b_X9_blame_15 hC hr hlk h
theorem c_X9_isTick {l : Launch} {G : Geo} {x1 : Int32} {rv : Int32} {M : Mem} (hG : gD G) (h : f_X9_isTick x1 M = some rv) : Met l yX9_isTick (.code yX9_isTick cX9_isTick 2 (some .boolean) :: GL) (rmk 1) (gP G [.ref (adr G 7 0), .int x1] M) (gQ G (some (.int rv)) M) 0 0 (gA G) := by
  refine Met_of (own := RX9) (L := [(0, .ref (adr G 7 0)), (1, .int x1)]) hG (by decide +kernel) rfl (Nat.le_of_ble_eq_true rfl) rfl ?_
  intro p e s m args below meth c hC hr hlk
  refine V_iload_n hC dX9_isTick_0 rfl 1 rfl ?_
  refine V_iconst hC (0 : Int32) dX9_isTick_1 (by decide) ?_
  refine V_aload_n hC dX9_isTick_2 rfl 0 rfl ?_
  refine V_getR hC (r_m0_0) fw_X9_7 dX9_isTick_3 ?_
  refine V_iconst hC (0 : Int32) dX9_isTick_6 (by decide) ?_
  refine V_iald hC (a_m1) (by decide) dX9_isTick_7 ?_
  refine V_cSr hC [.int x1, .int (0 : Int32), .int (M.1 7 1 (cl (0 : Int32)))] (c_X9_within (l := l) hC.2.2.2.2.2.2.2 rfl) kd_X9_within gw_1331 gw_1330 ⟨Nat.le_of_ble_eq_true rfl, Nat.le_of_ble_eq_true rfl⟩ rfl (Nat.le_of_ble_eq_true rfl) dX9_isTick_8 ⟨Nat.zero_le _, Nat.zero_le _⟩ rfl ?_
  obtain rfl := Option.some.inj h
  exact V_zret hC hr hlk (z_X9_within _ _ _) dX9_isTick_11
theorem b_X9_lineAt_27 {rv : Int32} {Mf : Mem} {x1 : Int32} {x2 : Int32} {x3 : Int32} {z0 : Int32} {M : Mem} (hC : Cx p s m args c cX9_lineAt RX9 4 G) (hr : meth.sig.returnType = some .int) (hlk : meth.locks = false) (h : B_X9_lineAt_27 x1 x2 x3 z0 M = some (rv, Mf)) : V p l e (rmk 3) s m args below meth c 4 G 0 0 (MQ below (gQ G (some (.int rv)) Mf) args s 0 0 (gA G)) 27 [(0, .ref (adr G 7 0)), (1, .int x1), (2, .int x2), (3, .int x3)] [.int z0, .ref (adr G 7 0)] M := by
  obtain ⟨q5, e5, h⟩ := bind_some h
  refine V_cVr hC [.int z0] (c_X9_refused (l := l) (rv := q5.1) (Mf := q5.2) hC.2.2.2.2.2.2.2 e5) kd_X9_refused kv_X9_refused gw_1318 (r_m0_0).o rfl ⟨Nat.le_of_ble_eq_true rfl, Nat.le_of_ble_eq_true rfl⟩ rfl (Nat.le_of_ble_eq_true rfl) dX9_lineAt_27 ⟨Nat.zero_le _, Nat.zero_le _⟩ rfl ?_
  refine V_if_eq hC 37 dX9_lineAt_30 (by decide) (fun c6 => ?_) (fun c6 => ?_)
  · have h := ite_t c6 h
    refine V_aload_n hC dX9_lineAt_37 rfl 0 rfl ?_
    refine V_iload_n hC dX9_lineAt_38 rfl 1 rfl ?_
    refine V_iload_n hC dX9_lineAt_39 rfl 2 rfl ?_
    refine V_iload_n hC dX9_lineAt_40 rfl 3 rfl ?_
    obtain ⟨q7, e7, h⟩ := bind_some h
    refine V_cVr hC [.int x1, .int x2, .int x3] (c_X9_was (l := l) hC.2.2.2.2.2.2.2 e7) kd_X9_was kv_X9_was gw_1649 (r_m0_0).o rfl ⟨Nat.le_of_ble_eq_true rfl, Nat.le_of_ble_eq_true rfl⟩ rfl (Nat.le_of_ble_eq_true rfl) dX9_lineAt_41 ⟨Nat.zero_le _, Nat.zero_le _⟩ rfl ?_
    obtain ⟨rfl, rfl⟩ := Prod.mk.inj (Option.some.inj h)
    exact V_iret hC hr hlk dX9_lineAt_44
  · have h := ite_f c6 h
    refine V_iconst hC (0 : Int32) dX9_lineAt_33 (by decide) ?_
    refine V_goto hC 44 dX9_lineAt_34 (by decide) ?_
    obtain ⟨rfl, rfl⟩ := Prod.mk.inj (Option.some.inj h)
    exact V_iret hC hr hlk dX9_lineAt_44
theorem c_X9_lineAt {l : Launch} {G : Geo} {x1 : Int32} {x2 : Int32} {x3 : Int32} {rv : Int32} {Mf : Mem} {M : Mem} (hG : gD G) (h : f_X9_lineAt x1 x2 x3 M = some (rv, Mf)) : Met l yX9_lineAt (.code yX9_lineAt cX9_lineAt 4 (some .int) :: GL) (rmk 3) (gP G [.ref (adr G 7 0), .int x1, .int x2, .int x3] M) (gQ G (some (.int rv)) Mf) 0 0 (gA G) := by
  refine Met_of (own := RX9) (L := [(0, .ref (adr G 7 0)), (1, .int x1), (2, .int x2), (3, .int x3)]) hG (by decide +kernel) rfl (Nat.le_of_ble_eq_true rfl) rfl ?_
  intro p e s m args below meth c hC hr hlk
  refine V_aload_n hC dX9_lineAt_0 rfl 0 rfl ?_
  refine V_aload_n hC dX9_lineAt_1 rfl 0 rfl ?_
  refine V_iload_n hC dX9_lineAt_2 rfl 1 rfl ?_
  refine V_iload_n hC dX9_lineAt_3 rfl 2 rfl ?_
  obtain ⟨q1, e1, h⟩ := bind_some h
  refine V_cVr hC [.int x1, .int x2] (c_X9_isLine (l := l) hC.2.2.2.2.2.2.2 e1) kd_X9_isLine kv_X9_isLine gw_1427 (r_m0_0).o rfl ⟨Nat.le_of_ble_eq_true rfl, Nat.le_of_ble_eq_true rfl⟩ rfl (Nat.le_of_ble_eq_true rfl) dX9_lineAt_4 ⟨Nat.zero_le _, Nat.zero_le _⟩ rfl ?_
  refine V_if_ne hC 14 dX9_lineAt_7 (by decide) (fun c2 => ?_) (fun c2 => ?_)
  · have h := ite_f c2 h
    refine V_aload_n hC dX9_lineAt_14 rfl 0 rfl ?_
    refine V_iload_n hC dX9_lineAt_15 rfl 3 rfl ?_
    obtain ⟨q3, e3, h⟩ := bind_some h
    refine V_cVr hC [.int x3] (c_X9_isTick (l := l) hC.2.2.2.2.2.2.2 e3) kd_X9_isTick kv_X9_isTick gw_1645 (r_m0_0).o rfl ⟨Nat.le_of_ble_eq_true rfl, Nat.le_of_ble_eq_true rfl⟩ rfl (Nat.le_of_ble_eq_true rfl) dX9_lineAt_16 ⟨Nat.zero_le _, Nat.zero_le _⟩ rfl ?_
    refine V_if_eq hC 26 dX9_lineAt_19 (by decide) (fun c4 => ?_) (fun c4 => ?_)
    · have h := ite_t c4 h
      refine V_iconst hC (2 : Int32) dX9_lineAt_26 (by decide) ?_
      exact b_X9_lineAt_27 hC hr hlk h
    · have h := ite_f c4 h
      refine V_iconst hC (0 : Int32) dX9_lineAt_22 (by decide) ?_
      refine V_goto hC 27 dX9_lineAt_23 (by decide) ?_
      exact b_X9_lineAt_27 hC hr hlk h
  · have h := ite_t c2 h
    refine V_iconst hC (1 : Int32) dX9_lineAt_10 (by decide) ?_
    refine V_goto hC 27 dX9_lineAt_11 (by decide) ?_
    exact b_X9_lineAt_27 hC hr hlk h
theorem b_X9_revert_115 {rv : Int32} {Mf : Mem} {k56 : Int32 → Mem → Option (Int32 × Mem)} {x1 : Int32} {x2 : Int32} {x3 : Int32} {M : Mem} (hC : Cx p s m args c cX9_revert RX9 5 G) (hr : meth.sig.returnType = some .int) (hlk : meth.locks = false) (hk56 : ∀ (x3 : Int32) (M : Mem), k56 x3 M = some (rv, Mf) → V p l e (rmk 5) s m args below meth c 5 G 0 0 (MQ below (gQ G (some (.int rv)) Mf) args s 0 0 (gA G)) 56 [(0, .ref (adr G 7 0)), (1, .int x1), (2, .int x2), (3, .int x3)] [] M) (h : B_X9_revert_115 k56 x1 x2 x3 M = some (rv, Mf)) : V p l e (rmk 5) s m args below meth c 5 G 0 0 (MQ below (gQ G (some (.int rv)) Mf) args s 0 0 (gA G)) 115 [(0, .ref (adr G 7 0)), (1, .int x1), (2, .int x2), (3, .int x3)] [] M := by
  refine V_iinc hC (x3 + 1) ([(3, .int (x3 + 1)), (0, .ref (adr G 7 0)), (1, .int x1), (2, .int x2)]) dX9_revert_115 3 rfl rfl (by decide) rfl ?_
  refine V_goto hC 56 dX9_revert_118 (by decide) ?_
  refine V_sub [1, 2, 3, 0] rfl ?_
  exact hk56 _ _ h
theorem l_X9_revert_65 {k56 : Int32 → Mem → Option (Int32 × Mem)} {rv : Int32} {Mf : Mem} {x1 : Int32} {x2 : Int32} {x3 : Int32} (hC : Cx p s m args c cX9_revert RX9 5 G) (hr : meth.sig.returnType = some .int) (hlk : meth.locks = false) (hk56 : ∀ (x3 : Int32) (M : Mem), k56 x3 M = some (rv, Mf) → V p l e (rmk 5) s m args below meth c 5 G 0 0 (MQ below (gQ G (some (.int rv)) Mf) args s 0 0 (gA G)) 56 [(0, .ref (adr G 7 0)), (1, .int x1), (2, .int x2), (3, .int x3)] [] M) : ∀ (n : Nat) {x4 : Int32} {M : Mem} (h : L_X9_revert_65 k56 x1 x2 x3 n x4 M = some (rv, Mf)), V p l e (rmk 5) s m args below meth c 5 G 0 0 (MQ below (gQ G (some (.int rv)) Mf) args s 0 0 (gA G)) 65 [(0, .ref (adr G 7 0)), (1, .int x1), (2, .int x2), (3, .int x3), (4, .int x4)] [] M := by
  intro n
  induction n with
  | zero => intro x4 M h; cases h
  | succ n ih =>
    intro x4 M h
    have hk65 : ∀ (x4 : Int32) (M : Mem), L_X9_revert_65 k56 x1 x2 x3 n x4 M = some (rv, Mf) → V p l e (rmk 5) s m args below meth c 5 G 0 0 (MQ below (gQ G (some (.int rv)) Mf) args s 0 0 (gA G)) 65 [(0, .ref (adr G 7 0)), (1, .int x1), (2, .int x2), (3, .int x3), (4, .int x4)] [] M := fun _ _ z => ih z
    refine V_iload hC dX9_revert_65 4 rfl ?_
    refine V_bipush hC (6 : Int32) dX9_revert_67 (by decide) ?_
    refine V_icmp_ge hC 115 dX9_revert_69 (by decide) (fun c13 => ?_) (fun c13 => ?_)
    · have h := ite_t c13 h
      refine V_sub [0, 1, 2, 3] rfl ?_
      exact b_X9_revert_115 hC hr hlk hk56 h
    · have h := ite_f c13 h
      refine V_aload_n hC dX9_revert_72 rfl 0 rfl ?_
      refine V_iload_n hC dX9_revert_73 rfl 3 rfl ?_
      obtain ⟨q14, e14, h⟩ := bind_some h
      refine V_cVr hC [.int x3] (c_X9_isSection (l := l) hC.2.2.2.2.2.2.2 e14) kd_X9_isSection kv_X9_isSection gw_1326 (r_m0_0).o rfl ⟨Nat.le_of_ble_eq_true rfl, Nat.le_of_ble_eq_true rfl⟩ rfl (Nat.le_of_ble_eq_true rfl) dX9_revert_74 ⟨Nat.zero_le _, Nat.zero_le _⟩ rfl ?_
      refine V_if_eq hC 115 dX9_revert_77 (by decide) (fun c15 => ?_) (fun c15 => ?_)
      · have h := ite_t c15 h
        refine V_sub [0, 1, 2, 3] rfl ?_
        exact b_X9_revert_115 hC hr hlk hk56 h
      · have h := ite_f c15 h
        refine V_aload_n hC dX9_revert_80 rfl 0 rfl ?_
        refine V_iload_n hC dX9_revert_81 rfl 3 rfl ?_
        refine V_iload_n hC dX9_revert_82 rfl 1 rfl ?_
        obtain ⟨q16, e16, h⟩ := bind_some h
        refine V_cVr hC [.int x3, .int x1] (c_X9_isIn (l := l) hC.2.2.2.2.2.2.2 e16) kd_X9_isIn kv_X9_isIn gw_1352 (r_m0_0).o rfl ⟨Nat.le_of_ble_eq_true rfl, Nat.le_of_ble_eq_true rfl⟩ rfl (Nat.le_of_ble_eq_true rfl) dX9_revert_83 ⟨Nat.zero_le _, Nat.zero_le _⟩ rfl ?_
        refine V_if_eq hC 115 dX9_revert_86 (by decide) (fun c17 => ?_) (fun c17 => ?_)
        · have h := ite_t c17 h
          refine V_sub [0, 1, 2, 3] rfl ?_
          exact b_X9_revert_115 hC hr hlk hk56 h
        · have h := ite_f c17 h
          refine V_aload_n hC dX9_revert_89 rfl 0 rfl ?_
          refine V_getR hC (r_m0_8) fw_X9_25 dX9_revert_90 ?_
          refine V_bipush hC (6 : Int32) dX9_revert_93 (by decide) ?_
          refine V_iload_n hC dX9_revert_95 rfl 3 rfl ?_
          refine V_imul hC dX9_revert_96 ?_
          refine V_iload hC dX9_revert_97 4 rfl ?_
          refine V_iadd hC dX9_revert_99 ?_
          refine V_aload_n hC dX9_revert_100 rfl 0 rfl ?_
          refine V_iload_n hC dX9_revert_101 rfl 3 rfl ?_
          refine V_iload hC dX9_revert_102 4 rfl ?_
          refine V_iload_n hC dX9_revert_104 rfl 2 rfl ?_
          obtain ⟨q18, e18, h⟩ := bind_some h
          refine V_cVr hC [.int x3, .int x4, .int x2] (c_X9_was (l := l) hC.2.2.2.2.2.2.2 e18) kd_X9_was kv_X9_was gw_1649 (r_m0_0).o rfl ⟨Nat.le_of_ble_eq_true rfl, Nat.le_of_ble_eq_true rfl⟩ rfl (Nat.le_of_ble_eq_true rfl) dX9_revert_105 ⟨Nat.zero_le _, Nat.zero_le _⟩ rfl ?_
          obtain ⟨c19, h⟩ := ite_some h
          refine V_iast hC (a_m6) c19 dX9_revert_108 ?_
          refine V_iinc hC (x4 + 1) ([(4, .int (x4 + 1)), (0, .ref (adr G 7 0)), (1, .int x1), (2, .int x2), (3, .int x3)]) dX9_revert_109 4 rfl rfl (by decide) rfl ?_
          refine V_goto hC 65 dX9_revert_112 (by decide) ?_
          refine V_sub [1, 2, 3, 4, 0] rfl ?_
          exact hk65 _ _ h
theorem l_X9_revert_56 {rv : Int32} {Mf : Mem} {x1 : Int32} {x2 : Int32} (hC : Cx p s m args c cX9_revert RX9 5 G) (hr : meth.sig.returnType = some .int) (hlk : meth.locks = false) : ∀ (n : Nat) {x3 : Int32} {M : Mem} (h : L_X9_revert_56 x1 x2 n x3 M = some (rv, Mf)), V p l e (rmk 5) s m args below meth c 5 G 0 0 (MQ below (gQ G (some (.int rv)) Mf) args s 0 0 (gA G)) 56 [(0, .ref (adr G 7 0)), (1, .int x1), (2, .int x2), (3, .int x3)] [] M := by
  intro n
  induction n with
  | zero => intro x3 M h; cases h
  | succ n ih =>
    intro x3 M h
    have hk56 : ∀ (x3 : Int32) (M : Mem), L_X9_revert_56 x1 x2 n x3 M = some (rv, Mf) → V p l e (rmk 5) s m args below meth c 5 G 0 0 (MQ below (gQ G (some (.int rv)) Mf) args s 0 0 (gA G)) 56 [(0, .ref (adr G 7 0)), (1, .int x1), (2, .int x2), (3, .int x3)] [] M := fun _ _ z => ih z
    refine V_iload_n hC dX9_revert_56 rfl 3 rfl ?_
    refine V_bipush hC (20 : Int32) dX9_revert_57 (by decide) ?_
    refine V_icmp_ge hC 121 dX9_revert_59 (by decide) (fun c11 => ?_) (fun c11 => ?_)
    · have h := ite_t c11 h
      refine V_aload_n hC dX9_revert_121 rfl 0 rfl ?_
      refine V_iconst hC ((-1) : Int32) dX9_revert_122 (by decide) ?_
      obtain ⟨q12, e12, h⟩ := bind_some h
      refine V_cVr hC [.int ((-1) : Int32)] (c_X9_becomes (l := l) (rv := q12.1) (Mf := q12.2) hC.2.2.2.2.2.2.2 e12) kd_X9_becomes kv_X9_becomes gw_1447 (r_m0_0).o rfl ⟨Nat.le_of_ble_eq_true rfl, Nat.le_of_ble_eq_true rfl⟩ rfl (Nat.le_of_ble_eq_true rfl) dX9_revert_123 ⟨Nat.zero_le _, Nat.zero_le _⟩ rfl ?_
      obtain ⟨rfl, rfl⟩ := Prod.mk.inj (Option.some.inj h)
      exact V_iret hC hr hlk dX9_revert_126
    · have h := ite_f c11 h
      refine V_iconst hC (0 : Int32) dX9_revert_62 (by decide) ?_
      refine V_istore hC ([(4, .int (0 : Int32)), (0, .ref (adr G 7 0)), (1, .int x1), (2, .int x2), (3, .int x3)]) dX9_revert_63 (by decide) rfl ?_
      refine V_sub [1, 2, 3, 4, 0] rfl ?_
      exact l_X9_revert_65 hC hr hlk hk56 FU h
theorem b_X9_revert_38 {rv : Int32} {Mf : Mem} {x1 : Int32} {x2 : Int32} {z0 : Int32} {M : Mem} (hC : Cx p s m args c cX9_revert RX9 5 G) (hr : meth.sig.returnType = some .int) (hlk : meth.locks = false) (h : B_X9_revert_38 x1 x2 z0 M = some (rv, Mf)) : V p l e (rmk 5) s m args below meth c 5 G 0 0 (MQ below (gQ G (some (.int rv)) Mf) args s 0 0 (gA G)) 38 [(0, .ref (adr G 7 0)), (1, .int x1), (2, .int x2)] [.int z0, .ref (adr G 7 0)] M := by
  obtain ⟨q7, e7, h⟩ := bind_some h
  refine V_cVr hC [.int z0] (c_X9_refused (l := l) (rv := q7.1) (Mf := q7.2) hC.2.2.2.2.2.2.2 e7) kd_X9_refused kv_X9_refused gw_1318 (r_m0_0).o rfl ⟨Nat.le_of_ble_eq_true rfl, Nat.le_of_ble_eq_true rfl⟩ rfl (Nat.le_of_ble_eq_true rfl) dX9_revert_38 ⟨Nat.zero_le _, Nat.zero_le _⟩ rfl ?_
  refine V_if_eq hC 46 dX9_revert_41 (by decide) (fun c8 => ?_) (fun c8 => ?_)
  · have h := ite_t c8 h
    refine V_aload_n hC dX9_revert_46 rfl 0 rfl ?_
    obtain ⟨q9, e9, h⟩ := bind_some h
    refine V_cVv hC [] (c_X9_saves (l := l) hC.2.2.2.2.2.2.2 e9) kd_X9_saves kv_X9_saves gw_1363 (r_m0_0).o rfl ⟨Nat.le_of_ble_eq_true rfl, Nat.le_of_ble_eq_true rfl⟩ rfl (Nat.le_of_ble_eq_true rfl) dX9_revert_47 ⟨Nat.zero_le _, Nat.zero_le _⟩ rfl ?_
    refine V_aload_n hC dX9_revert_50 rfl 0 rfl ?_
    obtain ⟨q10, e10, h⟩ := bind_some h
    refine V_cVv hC [] (c_X9_laysThen (l := l) hC.2.2.2.2.2.2.2 e10) kd_X9_laysThen kv_X9_laysThen gw_1443 (r_m0_0).o rfl ⟨Nat.le_of_ble_eq_true rfl, Nat.le_of_ble_eq_true rfl⟩ rfl (Nat.le_of_ble_eq_true rfl) dX9_revert_51 ⟨Nat.zero_le _, Nat.zero_le _⟩ rfl ?_
    refine V_iconst hC (0 : Int32) dX9_revert_54 (by decide) ?_
    refine V_istore_n hC ([(3, .int (0 : Int32)), (0, .ref (adr G 7 0)), (1, .int x1), (2, .int x2)]) dX9_revert_55 rfl (by decide) rfl ?_
    refine V_sub [1, 2, 3, 0] rfl ?_
    exact l_X9_revert_56 hC hr hlk FU h
  · have h := ite_f c8 h
    refine V_iconst hC (0 : Int32) dX9_revert_44 (by decide) ?_
    obtain ⟨rfl, rfl⟩ := Prod.mk.inj (Option.some.inj h)
    exact V_iret hC hr hlk dX9_revert_45
theorem c_X9_revert {l : Launch} {G : Geo} {x1 : Int32} {x2 : Int32} {rv : Int32} {Mf : Mem} {M : Mem} (hG : gD G) (h : f_X9_revert x1 x2 M = some (rv, Mf)) : Met l yX9_revert (.code yX9_revert cX9_revert 5 (some .int) :: GL) (rmk 5) (gP G [.ref (adr G 7 0), .int x1, .int x2] M) (gQ G (some (.int rv)) Mf) 0 0 (gA G) := by
  refine Met_of (own := RX9) (L := [(0, .ref (adr G 7 0)), (1, .int x1), (2, .int x2)]) hG (by decide +kernel) rfl (Nat.le_of_ble_eq_true rfl) rfl ?_
  intro p e s m args below meth c hC hr hlk
  refine V_aload_n hC dX9_revert_0 rfl 0 rfl ?_
  refine V_aload_n hC dX9_revert_1 rfl 0 rfl ?_
  refine V_iload_n hC dX9_revert_2 rfl 1 rfl ?_
  obtain ⟨q1, e1, h⟩ := bind_some h
  refine V_cVr hC [.int x1] (c_X9_isSection (l := l) hC.2.2.2.2.2.2.2 e1) kd_X9_isSection kv_X9_isSection gw_1326 (r_m0_0).o rfl ⟨Nat.le_of_ble_eq_true rfl, Nat.le_of_ble_eq_true rfl⟩ rfl (Nat.le_of_ble_eq_true rfl) dX9_revert_3 ⟨Nat.zero_le _, Nat.zero_le _⟩ rfl ?_
  refine V_if_ne hC 13 dX9_revert_6 (by decide) (fun c2 => ?_) (fun c2 => ?_)
  · have h := ite_f c2 h
    refine V_aload_n hC dX9_revert_13 rfl 0 rfl ?_
    refine V_iload_n hC dX9_revert_14 rfl 2 rfl ?_
    obtain ⟨q3, e3, h⟩ := bind_some h
    refine V_cVr hC [.int x2] (c_X9_isTick (l := l) hC.2.2.2.2.2.2.2 e3) kd_X9_isTick kv_X9_isTick gw_1645 (r_m0_0).o rfl ⟨Nat.le_of_ble_eq_true rfl, Nat.le_of_ble_eq_true rfl⟩ rfl (Nat.le_of_ble_eq_true rfl) dX9_revert_15 ⟨Nat.zero_le _, Nat.zero_le _⟩ rfl ?_
    refine V_if_ne hC 25 dX9_revert_18 (by decide) (fun c4 => ?_) (fun c4 => ?_)
    · have h := ite_f c4 h
      refine V_aload_n hC dX9_revert_25 rfl 0 rfl ?_
      refine V_iload_n hC dX9_revert_26 rfl 1 rfl ?_
      obtain ⟨q5, e5, h⟩ := bind_some h
      refine V_cVr hC [.int x1] (c_X9_isHeldAround (l := l) hC.2.2.2.2.2.2.2 e5) kd_X9_isHeldAround kv_X9_isHeldAround gw_1585 (r_m0_0).o rfl ⟨Nat.le_of_ble_eq_true rfl, Nat.le_of_ble_eq_true rfl⟩ rfl (Nat.le_of_ble_eq_true rfl) dX9_revert_27 ⟨Nat.zero_le _, Nat.zero_le _⟩ rfl ?_
      refine V_if_eq hC 37 dX9_revert_30 (by decide) (fun c6 => ?_) (fun c6 => ?_)
      · have h := ite_t c6 h
        refine V_iconst hC (0 : Int32) dX9_revert_37 (by decide) ?_
        exact b_X9_revert_38 hC hr hlk h
      · have h := ite_f c6 h
        refine V_iconst hC (3 : Int32) dX9_revert_33 (by decide) ?_
        refine V_goto hC 38 dX9_revert_34 (by decide) ?_
        exact b_X9_revert_38 hC hr hlk h
    · have h := ite_t c4 h
      refine V_iconst hC (2 : Int32) dX9_revert_21 (by decide) ?_
      refine V_goto hC 38 dX9_revert_22 (by decide) ?_
      exact b_X9_revert_38 hC hr hlk h
  · have h := ite_t c2 h
    refine V_iconst hC (1 : Int32) dX9_revert_9 (by decide) ?_
    refine V_goto hC 38 dX9_revert_10 (by decide) ?_
    exact b_X9_revert_38 hC hr hlk h
theorem c_X9_waiting {l : Launch} {G : Geo} {rv : Int32} {Mf : Mem} {M : Mem} (hG : gD G) (h : f_X9_waiting M = some (rv, Mf)) : Met l yX9_waiting (.code yX9_waiting cX9_waiting 1 (some .int) :: GL) (rmk 1) (gP G [.ref (adr G 7 0)] M) (gQ G (some (.int rv)) Mf) 0 0 (gA G) := by
  refine Met_of (own := RX9) (L := [(0, .ref (adr G 7 0))]) hG (by decide +kernel) rfl (Nat.le_of_ble_eq_true rfl) rfl ?_
  intro p e s m args below meth c hC hr hlk
  refine V_aload_n hC dX9_waiting_0 rfl 0 rfl ?_
  refine V_iconst hC (0 : Int32) dX9_waiting_1 (by decide) ?_
  refine V_putI hC (f_m0_4) fw_X9_47 flp_9_4 dX9_waiting_2 ?_
  refine V_aload_n hC dX9_waiting_5 rfl 0 rfl ?_
  obtain ⟨q1, e1, h⟩ := bind_some h
  refine V_cVr hC [] (c_X9_waits (l := l) hC.2.2.2.2.2.2.2 e1) kd_X9_waits kv_X9_waits gw_1356 (r_m0_0).o rfl ⟨Nat.le_of_ble_eq_true rfl, Nat.le_of_ble_eq_true rfl⟩ rfl (Nat.le_of_ble_eq_true rfl) dX9_waiting_6 ⟨Nat.zero_le _, Nat.zero_le _⟩ rfl ?_
  obtain ⟨rfl, rfl⟩ := Prod.mk.inj (Option.some.inj h)
  exact V_iret hC hr hlk dX9_waiting_9
theorem b_X9_waitingAt_33 {rv : Int32} {Mf : Mem} {x1 : Int32} {x2 : Int32} {z0 : Int32} {M : Mem} (hC : Cx p s m args c cX9_waitingAt RX9 3 G) (hr : meth.sig.returnType = some .int) (hlk : meth.locks = false) (h : B_X9_waitingAt_33 x1 x2 z0 M = some (rv, Mf)) : V p l e (rmk 1) s m args below meth c 3 G 0 0 (MQ below (gQ G (some (.int rv)) Mf) args s 0 0 (gA G)) 33 [(0, .ref (adr G 7 0)), (1, .int x1), (2, .int x2)] [.int z0, .ref (adr G 7 0)] M := by
  obtain ⟨q6, e6, h⟩ := bind_some h
  refine V_cVr hC [.int z0] (c_X9_refused (l := l) (rv := q6.1) (Mf := q6.2) hC.2.2.2.2.2.2.2 e6) kd_X9_refused kv_X9_refused gw_1318 (r_m0_0).o rfl ⟨Nat.le_of_ble_eq_true rfl, Nat.le_of_ble_eq_true rfl⟩ rfl (Nat.le_of_ble_eq_true rfl) dX9_waitingAt_33 ⟨Nat.zero_le _, Nat.zero_le _⟩ rfl ?_
  refine V_if_eq hC 43 dX9_waitingAt_36 (by decide) (fun c7 => ?_) (fun c7 => ?_)
  · have h := ite_t c7 h
    refine V_aload_n hC dX9_waitingAt_43 rfl 0 rfl ?_
    refine V_getR hC (r_m0_0) fw_X9_7 dX9_waitingAt_44 ?_
    refine V_iload_n hC dX9_waitingAt_47 rfl 1 rfl ?_
    refine V_iload_n hC dX9_waitingAt_48 rfl 2 rfl ?_
    refine V_cSr hC [.int x1, .int x2] (c_X9_wait (l := l) hC.2.2.2.2.2.2.2 rfl) kd_X9_wait gw_1361 gw_1360 ⟨Nat.le_of_ble_eq_true rfl, Nat.le_of_ble_eq_true rfl⟩ rfl (Nat.le_of_ble_eq_true rfl) dX9_waitingAt_49 ⟨Nat.zero_le _, Nat.zero_le _⟩ rfl ?_
    obtain ⟨c9, h⟩ := ite_some h
    refine V_iald hC (a_m1) c9 dX9_waitingAt_52 ?_
    obtain ⟨rfl, rfl⟩ := Prod.mk.inj (Option.some.inj h)
    exact V_iret hC hr hlk dX9_waitingAt_53
  · have h := ite_f c7 h
    refine V_iconst hC (0 : Int32) dX9_waitingAt_39 (by decide) ?_
    refine V_goto hC 53 dX9_waitingAt_40 (by decide) ?_
    obtain ⟨rfl, rfl⟩ := Prod.mk.inj (Option.some.inj h)
    exact V_iret hC hr hlk dX9_waitingAt_53
theorem c_X9_waitingAt {l : Launch} {G : Geo} {x1 : Int32} {x2 : Int32} {rv : Int32} {Mf : Mem} {M : Mem} (hG : gD G) (h : f_X9_waitingAt x1 x2 M = some (rv, Mf)) : Met l yX9_waitingAt (.code yX9_waitingAt cX9_waitingAt 3 (some .int) :: GL) (rmk 1) (gP G [.ref (adr G 7 0), .int x1, .int x2] M) (gQ G (some (.int rv)) Mf) 0 0 (gA G) := by
  refine Met_of (own := RX9) (L := [(0, .ref (adr G 7 0)), (1, .int x1), (2, .int x2)]) hG (by decide +kernel) rfl (Nat.le_of_ble_eq_true rfl) rfl ?_
  intro p e s m args below meth c hC hr hlk
  refine V_aload_n hC dX9_waitingAt_0 rfl 0 rfl ?_
  refine V_iload_n hC dX9_waitingAt_1 rfl 1 rfl ?_
  refine V_iconst hC (0 : Int32) dX9_waitingAt_2 (by decide) ?_
  refine V_aload_n hC dX9_waitingAt_3 rfl 0 rfl ?_
  obtain ⟨q1, e1, h⟩ := bind_some h
  refine V_cVr hC [] (c_X9_waits (l := l) hC.2.2.2.2.2.2.2 e1) kd_X9_waits kv_X9_waits gw_1356 (r_m0_0).o rfl ⟨Nat.le_of_ble_eq_true rfl, Nat.le_of_ble_eq_true rfl⟩ rfl (Nat.le_of_ble_eq_true rfl) dX9_waitingAt_4 ⟨Nat.zero_le _, Nat.zero_le _⟩ rfl ?_
  refine V_iconst hC (1 : Int32) dX9_waitingAt_7 (by decide) ?_
  refine V_isub hC dX9_waitingAt_8 ?_
  refine V_cSr hC [.int x1, .int (0 : Int32), .int (q1 - (1 : Int32))] (c_X9_within (l := l) hC.2.2.2.2.2.2.2 rfl) kd_X9_within gw_1331 gw_1330 ⟨Nat.le_of_ble_eq_true rfl, Nat.le_of_ble_eq_true rfl⟩ rfl (Nat.le_of_ble_eq_true rfl) dX9_waitingAt_9 ⟨Nat.zero_le _, Nat.zero_le _⟩ rfl ?_
  refine V_if_ne hC 19 dX9_waitingAt_12 (by decide) (fun c3 => ?_) (fun c3 => ?_)
  · have h := ite_f c3 h
    refine V_iload_n hC dX9_waitingAt_19 rfl 2 rfl ?_
    refine V_iconst hC (0 : Int32) dX9_waitingAt_20 (by decide) ?_
    refine V_iconst hC (3 : Int32) dX9_waitingAt_21 (by decide) ?_
    refine V_cSr hC [.int x2, .int (0 : Int32), .int (3 : Int32)] (c_X9_within (l := l) hC.2.2.2.2.2.2.2 rfl) kd_X9_within gw_1331 gw_1330 ⟨Nat.le_of_ble_eq_true rfl, Nat.le_of_ble_eq_true rfl⟩ rfl (Nat.le_of_ble_eq_true rfl) dX9_waitingAt_22 ⟨Nat.zero_le _, Nat.zero_le _⟩ rfl ?_
    refine V_if_eq hC 32 dX9_waitingAt_25 (by decide) (fun c5 => ?_) (fun c5 => ?_)
    · have h := ite_t c5 h
      refine V_iconst hC (2 : Int32) dX9_waitingAt_32 (by decide) ?_
      exact b_X9_waitingAt_33 hC hr hlk h
    · have h := ite_f c5 h
      refine V_iconst hC (0 : Int32) dX9_waitingAt_28 (by decide) ?_
      refine V_goto hC 33 dX9_waitingAt_29 (by decide) ?_
      exact b_X9_waitingAt_33 hC hr hlk h
  · have h := ite_t c3 h
    refine V_iconst hC (1 : Int32) dX9_waitingAt_15 (by decide) ?_
    refine V_goto hC 33 dX9_waitingAt_16 (by decide) ?_
    exact b_X9_waitingAt_33 hC hr hlk h
theorem l_X9_passes_2 {rv : Int32} {Mf : Mem} {x1 : Int32} (hC : Cx p s m args c cX9_passes RX9 3 G) (hr : meth.sig.returnType = some .int) (hlk : meth.locks = false) : ∀ (n : Nat) {x2 : Int32} {M : Mem} (h : L_X9_passes_2 x1 n x2 M = some (rv, Mf)), V p l e (rmk 9) s m args below meth c 3 G 0 0 (MQ below (gQ G (some (.int rv)) Mf) args s 0 0 (gA G)) 2 [(0, .ref (adr G 7 0)), (1, .int x1), (2, .int x2)] [] M := by
  intro n
  induction n with
  | zero => intro x2 M h; cases h
  | succ n ih =>
    intro x2 M h
    have hk2 : ∀ (x2 : Int32) (M : Mem), L_X9_passes_2 x1 n x2 M = some (rv, Mf) → V p l e (rmk 9) s m args below meth c 3 G 0 0 (MQ below (gQ G (some (.int rv)) Mf) args s 0 0 (gA G)) 2 [(0, .ref (adr G 7 0)), (1, .int x1), (2, .int x2)] [] M := fun _ _ z => ih z
    refine V_iload_n hC dX9_passes_2 rfl 2 rfl ?_
    refine V_iload_n hC dX9_passes_3 rfl 1 rfl ?_
    refine V_icmp_ge hC 17 dX9_passes_4 (by decide) (fun c1 => ?_) (fun c1 => ?_)
    · have h := ite_t c1 h
      refine V_aload_n hC dX9_passes_17 rfl 0 rfl ?_
      refine V_getR hC (r_m0_0) fw_X9_7 dX9_passes_18 ?_
      refine V_iconst hC (0 : Int32) dX9_passes_21 (by decide) ?_
      refine V_iald hC (a_m1) (by decide) dX9_passes_22 ?_
      obtain ⟨rfl, rfl⟩ := Prod.mk.inj (Option.some.inj h)
      exact V_iret hC hr hlk dX9_passes_23
    · have h := ite_f c1 h
      refine V_aload_n hC dX9_passes_7 rfl 0 rfl ?_
      obtain ⟨q2, e2, h⟩ := bind_some h
      refine V_cVv hC [] (c_X9_tickOn (l := l) hC.2.2.2.2.2.2.2 e2) kd_X9_tickOn kv_X9_tickOn gw_1621 (r_m0_0).o rfl ⟨Nat.le_of_ble_eq_true rfl, Nat.le_of_ble_eq_true rfl⟩ rfl (Nat.le_of_ble_eq_true rfl) dX9_passes_8 ⟨Nat.zero_le _, Nat.zero_le _⟩ rfl ?_
      refine V_iinc hC (x2 + 1) ([(2, .int (x2 + 1)), (0, .ref (adr G 7 0)), (1, .int x1)]) dX9_passes_11 2 rfl rfl (by decide) rfl ?_
      refine V_goto hC 2 dX9_passes_14 (by decide) ?_
      refine V_sub [1, 2, 0] rfl ?_
      exact hk2 _ _ h
theorem c_X9_passes {l : Launch} {G : Geo} {x1 : Int32} {rv : Int32} {Mf : Mem} {M : Mem} (hG : gD G) (h : f_X9_passes x1 M = some (rv, Mf)) : Met l yX9_passes (.code yX9_passes cX9_passes 3 (some .int) :: GL) (rmk 9) (gP G [.ref (adr G 7 0), .int x1] M) (gQ G (some (.int rv)) Mf) 0 0 (gA G) := by
  refine Met_of (own := RX9) (L := [(0, .ref (adr G 7 0)), (1, .int x1)]) hG (by decide +kernel) rfl (Nat.le_of_ble_eq_true rfl) rfl ?_
  intro p e s m args below meth c hC hr hlk
  refine V_iconst hC (0 : Int32) dX9_passes_0 (by decide) ?_
  refine V_istore_n hC ([(2, .int (0 : Int32)), (0, .ref (adr G 7 0)), (1, .int x1)]) dX9_passes_1 rfl (by decide) rfl ?_
  refine V_sub [1, 2, 0] rfl ?_
  exact l_X9_passes_2 hC hr hlk FU h
theorem b_X9_pass_17 {rv : Int32} {Mf : Mem} {x1 : Int32} {z0 : Int32} {M : Mem} (hC : Cx p s m args c cX9_pass RX9 2 G) (hr : meth.sig.returnType = some .int) (hlk : meth.locks = false) (h : B_X9_pass_17 x1 z0 M = some (rv, Mf)) : V p l e (rmk 10) s m args below meth c 2 G 0 0 (MQ below (gQ G (some (.int rv)) Mf) args s 0 0 (gA G)) 17 [(0, .ref (adr G 7 0)), (1, .int x1)] [.int z0, .ref (adr G 7 0)] M := by
  obtain ⟨q3, e3, h⟩ := bind_some h
  refine V_cVr hC [.int z0] (c_X9_refused (l := l) (rv := q3.1) (Mf := q3.2) hC.2.2.2.2.2.2.2 e3) kd_X9_refused kv_X9_refused gw_1318 (r_m0_0).o rfl ⟨Nat.le_of_ble_eq_true rfl, Nat.le_of_ble_eq_true rfl⟩ rfl (Nat.le_of_ble_eq_true rfl) dX9_pass_17 ⟨Nat.zero_le _, Nat.zero_le _⟩ rfl ?_
  refine V_if_eq hC 25 dX9_pass_20 (by decide) (fun c4 => ?_) (fun c4 => ?_)
  · have h := ite_t c4 h
    refine V_aload_n hC dX9_pass_25 rfl 0 rfl ?_
    obtain ⟨q5, e5, h⟩ := bind_some h
    refine V_cVv hC [] (c_X9_saves (l := l) hC.2.2.2.2.2.2.2 e5) kd_X9_saves kv_X9_saves gw_1363 (r_m0_0).o rfl ⟨Nat.le_of_ble_eq_true rfl, Nat.le_of_ble_eq_true rfl⟩ rfl (Nat.le_of_ble_eq_true rfl) dX9_pass_26 ⟨Nat.zero_le _, Nat.zero_le _⟩ rfl ?_
    refine V_aload_n hC dX9_pass_29 rfl 0 rfl ?_
    refine V_iload_n hC dX9_pass_30 rfl 1 rfl ?_
    obtain ⟨q6, e6, h⟩ := bind_some h
    refine V_cVr hC [.int x1] (c_X9_passes (l := l) (rv := q6.1) (Mf := q6.2) hC.2.2.2.2.2.2.2 e6) kd_X9_passes kv_X9_passes gw_1669 (r_m0_0).o rfl ⟨Nat.le_of_ble_eq_true rfl, Nat.le_of_ble_eq_true rfl⟩ rfl (Nat.le_of_ble_eq_true rfl) dX9_pass_31 ⟨Nat.zero_le _, Nat.zero_le _⟩ rfl ?_
    obtain ⟨rfl, rfl⟩ := Prod.mk.inj (Option.some.inj h)
    exact V_iret hC hr hlk dX9_pass_34
  · have h := ite_f c4 h
    refine V_iconst hC (0 : Int32) dX9_pass_23 (by decide) ?_
    obtain ⟨rfl, rfl⟩ := Prod.mk.inj (Option.some.inj h)
    exact V_iret hC hr hlk dX9_pass_24
theorem c_X9_pass {l : Launch} {G : Geo} {x1 : Int32} {rv : Int32} {Mf : Mem} {M : Mem} (hG : gD G) (h : f_X9_pass x1 M = some (rv, Mf)) : Met l yX9_pass (.code yX9_pass cX9_pass 2 (some .int) :: GL) (rmk 10) (gP G [.ref (adr G 7 0), .int x1] M) (gQ G (some (.int rv)) Mf) 0 0 (gA G) := by
  refine Met_of (own := RX9) (L := [(0, .ref (adr G 7 0)), (1, .int x1)]) hG (by decide +kernel) rfl (Nat.le_of_ble_eq_true rfl) rfl ?_
  intro p e s m args below meth c hC hr hlk
  refine V_aload_n hC dX9_pass_0 rfl 0 rfl ?_
  refine V_iload_n hC dX9_pass_1 rfl 1 rfl ?_
  refine V_iconst hC (0 : Int32) dX9_pass_2 (by decide) ?_
  refine V_sipush hC (1000 : Int32) dX9_pass_3 (by decide) ?_
  refine V_cSr hC [.int x1, .int (0 : Int32), .int (1000 : Int32)] (c_X9_within (l := l) hC.2.2.2.2.2.2.2 rfl) kd_X9_within gw_1331 gw_1330 ⟨Nat.le_of_ble_eq_true rfl, Nat.le_of_ble_eq_true rfl⟩ rfl (Nat.le_of_ble_eq_true rfl) dX9_pass_6 ⟨Nat.zero_le _, Nat.zero_le _⟩ rfl ?_
  refine V_if_eq hC 16 dX9_pass_9 (by decide) (fun c2 => ?_) (fun c2 => ?_)
  · have h := ite_t c2 h
    refine V_iconst hC (1 : Int32) dX9_pass_16 (by decide) ?_
    exact b_X9_pass_17 hC hr hlk h
  · have h := ite_f c2 h
    refine V_iconst hC (0 : Int32) dX9_pass_12 (by decide) ?_
    refine V_goto hC 17 dX9_pass_13 (by decide) ?_
    exact b_X9_pass_17 hC hr hlk h
theorem c_Jxf58ca_isNaN_12338 {l : Launch} {G : Geo} {x0 : UInt32} {rv : Int32} {M : Mem} (hG : gD G) (h : f_Jxf58ca_isNaN_12338 x0 = rv) : Met l yJxf58ca_isNaN_12338 (.code yJxf58ca_isNaN_12338 cJxf58ca_isNaN_12338 1 (some .boolean) :: GL) (rmk 0) (gP G [.float x0] M) (gQ G (some (.int rv)) M) 0 0 (gA G) := by
  refine Met_ofF (own := RJxf58ca) (L := [(0, .float x0)]) hG (by decide +kernel) rfl (Nat.le_of_ble_eq_true rfl) rfl ?_
  intro p e s m args below meth c hC hr hlk
  refine V_fload_n hC dJxf58ca_isNaN_12338_0 rfl 0 rfl ?_
  refine V_fload_n hC dJxf58ca_isNaN_12338_1 rfl 0 rfl ?_
  refine V_fcmp hC dJxf58ca_isNaN_12338_2 ?_
  refine V_if_eq hC 10 dJxf58ca_isNaN_12338_3 (by decide) (fun c1 => ?_) (fun c1 => ?_)
  · have h := ite_t c1 h
    refine V_iconst hC (0 : Int32) dJxf58ca_isNaN_12338_10 (by decide) ?_
    obtain rfl := id h
    exact V_zret hC hr hlk (Or.inl rfl) dJxf58ca_isNaN_12338_11
  · have h := ite_f c1 h
    refine V_iconst hC (1 : Int32) dJxf58ca_isNaN_12338_6 (by decide) ?_
    refine V_goto hC 11 dJxf58ca_isNaN_12338_7 (by decide) ?_
    obtain rfl := id h
    exact V_zret hC hr hlk (Or.inr rfl) dJxf58ca_isNaN_12338_11
theorem z_Jxf58ca_isNaN_12338 (x0 : UInt32) : f_Jxf58ca_isNaN_12338 x0 = 0 ∨ f_Jxf58ca_isNaN_12338 x0 = 1 := by
  unfold f_Jxf58ca_isNaN_12338
  (repeat' split) <;> first | exact Or.inl rfl | exact Or.inr rfl
theorem c_Jxf58ca_floatToIntBits_5c35a {l : Launch} {G : Geo} {x0 : UInt32} {rv : Int32} {M : Mem} (hG : gD G) (h : f_Jxf58ca_floatToIntBits_5c35a x0 = rv) : Met l yJxf58ca_floatToIntBits_5c35a (.code yJxf58ca_floatToIntBits_5c35a cJxf58ca_floatToIntBits_5c35a 1 (some .int) :: GL) (rmk 2) (gP G [.float x0] M) (gQ G (some (.int rv)) M) 0 0 (gA G) := by
  refine Met_ofF (own := RJxf58ca) (L := [(0, .float x0)]) hG (by decide +kernel) rfl (Nat.le_of_ble_eq_true rfl) rfl ?_
  intro p e s m args below meth c hC hr hlk
  refine V_fload_n hC dJxf58ca_floatToIntBits_5c35a_0 rfl 0 rfl ?_
  refine V_cSr hC [.float x0] (c_Jxf58ca_isNaN_12338 (l := l) hC.2.2.2.2.2.2.2 rfl) kd_Jxf58ca_isNaN_12338 gw_1681 gw_1680 ⟨Nat.le_of_ble_eq_true rfl, Nat.le_of_ble_eq_true rfl⟩ rfl (Nat.le_of_ble_eq_true rfl) dJxf58ca_floatToIntBits_5c35a_1 ⟨Nat.zero_le _, Nat.zero_le _⟩ rfl ?_
  refine V_if_ne hC 12 dJxf58ca_floatToIntBits_5c35a_4 (by decide) (fun c2 => ?_) (fun c2 => ?_)
  · have h := ite_f c2 h
    refine V_ldc hC (2143289344 : Int32) dJxf58ca_floatToIntBits_5c35a_12 gw_1686 ?_
    obtain rfl := id h
    exact V_iret hC hr hlk dJxf58ca_floatToIntBits_5c35a_14
  · have h := ite_t c2 h
    refine V_fload_n hC dJxf58ca_floatToIntBits_5c35a_7 rfl 0 rfl ?_
    refine V_f2raw hC gw_1683 gw_1685 gw_1684 gw_22 (Nat.le_of_ble_eq_true rfl) (Nat.le_of_ble_eq_true rfl) (Nat.le_of_ble_eq_true rfl) dJxf58ca_floatToIntBits_5c35a_8 ?_
    obtain rfl := id h
    exact V_iret hC hr hlk dJxf58ca_floatToIntBits_5c35a_11
theorem b_X9_useBits_13 {rv : Int32} {Mf : Mem} {x1 : Int32} {z0 : Int32} {M : Mem} (hC : Cx p s m args c cX9_useBits RX9 2 G) (hr : meth.sig.returnType = some .int) (hlk : meth.locks = false) (h : B_X9_useBits_13 x1 z0 M = some (rv, Mf)) : V p l e (rmk 3) s m args below meth c 2 G 0 0 (MQ below (gQ G (some (.int rv)) Mf) args s 0 0 (gA G)) 13 [(0, .ref (adr G 7 0)), (1, .int x1)] [.int z0, .ref (adr G 7 0)] M := by
  obtain ⟨q3, e3, h⟩ := bind_some h
  refine V_cVr hC [.int z0] (c_X9_refused (l := l) (rv := q3.1) (Mf := q3.2) hC.2.2.2.2.2.2.2 e3) kd_X9_refused kv_X9_refused gw_1318 (r_m0_0).o rfl ⟨Nat.le_of_ble_eq_true rfl, Nat.le_of_ble_eq_true rfl⟩ rfl (Nat.le_of_ble_eq_true rfl) dX9_useBits_13 ⟨Nat.zero_le _, Nat.zero_le _⟩ rfl ?_
  refine V_if_ne hC 28 dX9_useBits_16 (by decide) (fun c4 => ?_) (fun c4 => ?_)
  · have h := ite_f c4 h
    refine V_iconst hC (0 : Int32) dX9_useBits_28 (by decide) ?_
    obtain ⟨rfl, rfl⟩ := Prod.mk.inj (Option.some.inj h)
    exact V_iret hC hr hlk dX9_useBits_29
  · have h := ite_t c4 h
    refine V_aload_n hC dX9_useBits_19 rfl 0 rfl ?_
    refine V_getR hC (r_m0_0) fw_X9_7 dX9_useBits_20 ?_
    refine V_iconst hC (0 : Int32) dX9_useBits_23 (by decide) ?_
    refine V_iald hC (a_m1) (by decide) dX9_useBits_24 ?_
    refine V_if_ne hC 30 dX9_useBits_25 (by decide) (fun c5 => ?_) (fun c5 => ?_)
    · have h := ite_f c5 h
      refine V_aload_n hC dX9_useBits_30 rfl 0 rfl ?_
      refine V_getR hC (r_m0_0) fw_X9_7 dX9_useBits_31 ?_
      refine V_sipush hC (2695 : Int32) dX9_useBits_34 (by decide) ?_
      refine V_iload_n hC dX9_useBits_37 rfl 1 rfl ?_
      refine V_iadd hC dX9_useBits_38 ?_
      obtain ⟨c6, h⟩ := ite_some h
      refine V_iald hC (a_m1) c6 dX9_useBits_39 ?_
      refine V_i2f hC dX9_useBits_40 ?_
      refine V_aload_n hC dX9_useBits_41 rfl 0 rfl ?_
      refine V_getR hC (r_m0_0) fw_X9_7 dX9_useBits_42 ?_
      refine V_iconst hC (0 : Int32) dX9_useBits_45 (by decide) ?_
      refine V_iald hC (a_m1) (by decide) dX9_useBits_46 ?_
      refine V_i2f hC dX9_useBits_47 ?_
      obtain ⟨c7, h⟩ := ite_some h
      refine V_fdiv hC dX9_useBits_48 (of_nn c7) ?_
      refine V_cSr hC [.float (FP.fdiv (FP.i2f (q3.2.1 7 1 (cl ((2695 : Int32) + x1)))) (FP.i2f (q3.2.1 7 1 (cl (0 : Int32)))))] (c_Jxf58ca_floatToIntBits_5c35a (l := l) hC.2.2.2.2.2.2.2 rfl) kd_Jxf58ca_floatToIntBits_5c35a gw_1678 gw_1677 ⟨Nat.le_of_ble_eq_true rfl, Nat.le_of_ble_eq_true rfl⟩ rfl (Nat.le_of_ble_eq_true rfl) dX9_useBits_49 ⟨Nat.zero_le _, Nat.zero_le _⟩ rfl ?_
      obtain ⟨rfl, rfl⟩ := Prod.mk.inj (Option.some.inj h)
      exact V_iret hC hr hlk dX9_useBits_52
    · have h := ite_t c5 h
      refine V_iconst hC (0 : Int32) dX9_useBits_28 (by decide) ?_
      obtain ⟨rfl, rfl⟩ := Prod.mk.inj (Option.some.inj h)
      exact V_iret hC hr hlk dX9_useBits_29
theorem c_X9_useBits {l : Launch} {G : Geo} {x1 : Int32} {rv : Int32} {Mf : Mem} {M : Mem} (hG : gD G) (h : f_X9_useBits x1 M = some (rv, Mf)) : Met l yX9_useBits (.code yX9_useBits cX9_useBits 2 (some .int) :: GL) (rmk 3) (gP G [.ref (adr G 7 0), .int x1] M) (gQ G (some (.int rv)) Mf) 0 0 (gA G) := by
  refine Met_of (own := RX9) (L := [(0, .ref (adr G 7 0)), (1, .int x1)]) hG (by decide +kernel) rfl (Nat.le_of_ble_eq_true rfl) rfl ?_
  intro p e s m args below meth c hC hr hlk
  refine V_aload_n hC dX9_useBits_0 rfl 0 rfl ?_
  refine V_iload_n hC dX9_useBits_1 rfl 1 rfl ?_
  refine V_cSr hC [.int x1] (c_X9_isUser (l := l) hC.2.2.2.2.2.2.2 rfl) kd_X9_isUser gw_1464 gw_1463 ⟨Nat.le_of_ble_eq_true rfl, Nat.le_of_ble_eq_true rfl⟩ rfl (Nat.le_of_ble_eq_true rfl) dX9_useBits_2 ⟨Nat.zero_le _, Nat.zero_le _⟩ rfl ?_
  refine V_if_eq hC 12 dX9_useBits_5 (by decide) (fun c2 => ?_) (fun c2 => ?_)
  · have h := ite_t c2 h
    refine V_iconst hC (1 : Int32) dX9_useBits_12 (by decide) ?_
    exact b_X9_useBits_13 hC hr hlk h
  · have h := ite_f c2 h
    refine V_iconst hC (0 : Int32) dX9_useBits_8 (by decide) ?_
    refine V_goto hC 13 dX9_useBits_9 (by decide) ?_
    exact b_X9_useBits_13 hC hr hlk h
theorem b_X9_append_29 {rv : Int32} {Mf : Mem} {x1 : Int32} {z0 : Int32} {M : Mem} (hC : Cx p s m args c cX9_append RX9 2 G) (hr : meth.sig.returnType = some .int) (hlk : meth.locks = false) (h : B_X9_append_29 x1 z0 M = some (rv, Mf)) : V p l e (rmk 1) s m args below meth c 2 G 0 0 (MQ below (gQ G (some (.int rv)) Mf) args s 0 0 (gA G)) 29 [(0, .ref (adr G 7 0)), (1, .int x1)] [.int z0, .ref (adr G 7 0)] M := by
  obtain ⟨q4, e4, h⟩ := bind_some h
  refine V_cVr hC [.int z0] (c_X9_refused (l := l) (rv := q4.1) (Mf := q4.2) hC.2.2.2.2.2.2.2 e4) kd_X9_refused kv_X9_refused gw_1318 (r_m0_0).o rfl ⟨Nat.le_of_ble_eq_true rfl, Nat.le_of_ble_eq_true rfl⟩ rfl (Nat.le_of_ble_eq_true rfl) dX9_append_29 ⟨Nat.zero_le _, Nat.zero_le _⟩ rfl ?_
  refine V_if_eq hC 37 dX9_append_32 (by decide) (fun c5 => ?_) (fun c5 => ?_)
  · have h := ite_t c5 h
    refine V_aload_n hC dX9_append_37 rfl 0 rfl ?_
    refine V_getR hC (r_m0_5) fw_X9_19 dX9_append_38 ?_
    refine V_aload_n hC dX9_append_41 rfl 0 rfl ?_
    refine V_getI hC (f_m0_6) fw_X9_251 dX9_append_42 ?_
    refine V_iload_n hC dX9_append_45 rfl 1 rfl ?_
    obtain ⟨c6, h⟩ := ite_some h
    refine V_iast hC (a_m4) c6 dX9_append_46 ?_
    refine V_aload_n hC dX9_append_47 rfl 0 rfl ?_
    refine V_dup hC dX9_append_48 rfl ?_
    refine V_getI hC (f_m0_6) fw_X9_251 dX9_append_49 ?_
    refine V_iconst hC (1 : Int32) dX9_append_52 (by decide) ?_
    refine V_iadd hC dX9_append_53 ?_
    refine V_putI hC (f_m0_6) fw_X9_251 flp_9_6 dX9_append_54 ?_
    refine V_aload_n hC dX9_append_57 rfl 0 rfl ?_
    refine V_getI hC (f_m0_6) fw_X9_251 dX9_append_58 ?_
    obtain ⟨rfl, rfl⟩ := Prod.mk.inj (Option.some.inj h)
    exact V_iret hC hr hlk dX9_append_61
  · have h := ite_f c5 h
    refine V_iconst hC (0 : Int32) dX9_append_35 (by decide) ?_
    obtain ⟨rfl, rfl⟩ := Prod.mk.inj (Option.some.inj h)
    exact V_iret hC hr hlk dX9_append_36
theorem c_X9_append {l : Launch} {G : Geo} {x1 : Int32} {rv : Int32} {Mf : Mem} {M : Mem} (hG : gD G) (h : f_X9_append x1 M = some (rv, Mf)) : Met l yX9_append (.code yX9_append cX9_append 2 (some .int) :: GL) (rmk 1) (gP G [.ref (adr G 7 0), .int x1] M) (gQ G (some (.int rv)) Mf) 0 0 (gA G) := by
  refine Met_of (own := RX9) (L := [(0, .ref (adr G 7 0)), (1, .int x1)]) hG (by decide +kernel) rfl (Nat.le_of_ble_eq_true rfl) rfl ?_
  intro p e s m args below meth c hC hr hlk
  refine V_aload_n hC dX9_append_0 rfl 0 rfl ?_
  refine V_iload_n hC dX9_append_1 rfl 1 rfl ?_
  refine V_iconst hC (0 : Int32) dX9_append_2 (by decide) ?_
  refine V_bipush hC (127 : Int32) dX9_append_3 (by decide) ?_
  refine V_cSr hC [.int x1, .int (0 : Int32), .int (127 : Int32)] (c_X9_within (l := l) hC.2.2.2.2.2.2.2 rfl) kd_X9_within gw_1331 gw_1330 ⟨Nat.le_of_ble_eq_true rfl, Nat.le_of_ble_eq_true rfl⟩ rfl (Nat.le_of_ble_eq_true rfl) dX9_append_5 ⟨Nat.zero_le _, Nat.zero_le _⟩ rfl ?_
  refine V_if_ne hC 15 dX9_append_8 (by decide) (fun c2 => ?_) (fun c2 => ?_)
  · have h := ite_f c2 h
    refine V_aload_n hC dX9_append_15 rfl 0 rfl ?_
    refine V_getI hC (f_m0_6) fw_X9_251 dX9_append_16 ?_
    refine V_bipush hC (120 : Int32) dX9_append_19 (by decide) ?_
    refine V_icmp_ne hC 28 dX9_append_21 (by decide) (fun c3 => ?_) (fun c3 => ?_)
    · have h := ite_f c3 h
      refine V_iconst hC (0 : Int32) dX9_append_28 (by decide) ?_
      exact b_X9_append_29 hC hr hlk h
    · have h := ite_t c3 h
      refine V_iconst hC (2 : Int32) dX9_append_24 (by decide) ?_
      refine V_goto hC 29 dX9_append_25 (by decide) ?_
      exact b_X9_append_29 hC hr hlk h
  · have h := ite_t c2 h
    refine V_iconst hC (1 : Int32) dX9_append_11 (by decide) ?_
    refine V_goto hC 29 dX9_append_12 (by decide) ?_
    exact b_X9_append_29 hC hr hlk h
theorem c_X9_clearText {l : Launch} {G : Geo} {rv : Int32} {Mf : Mem} {M : Mem} (hG : gD G) (h : f_X9_clearText M = some (rv, Mf)) : Met l yX9_clearText (.code yX9_clearText cX9_clearText 2 (some .int) :: GL) (rmk 0) (gP G [.ref (adr G 7 0)] M) (gQ G (some (.int rv)) Mf) 0 0 (gA G) := by
  refine Met_of (own := RX9) (L := [(0, .ref (adr G 7 0))]) hG (by decide +kernel) rfl (Nat.le_of_ble_eq_true rfl) rfl ?_
  intro p e s m args below meth c hC hr hlk
  refine V_aload_n hC dX9_clearText_0 rfl 0 rfl ?_
  refine V_iconst hC (0 : Int32) dX9_clearText_1 (by decide) ?_
  refine V_putI hC (f_m0_4) fw_X9_47 flp_9_4 dX9_clearText_2 ?_
  refine V_aload_n hC dX9_clearText_5 rfl 0 rfl ?_
  refine V_getI hC (f_m0_6) fw_X9_251 dX9_clearText_6 ?_
  refine V_istore_n hC ([(1, .int ((wr M 7 0 4 (0 : Int32)).1 7 0 6)), (0, .ref (adr G 7 0))]) dX9_clearText_9 rfl (by decide) rfl ?_
  refine V_aload_n hC dX9_clearText_10 rfl 1 rfl ?_
  refine V_iconst hC (0 : Int32) dX9_clearText_11 (by decide) ?_
  refine V_putI hC (f_m0_6) fw_X9_251 flp_9_6 dX9_clearText_12 ?_
  refine V_iload_n hC dX9_clearText_15 rfl 0 rfl ?_
  obtain ⟨rfl, rfl⟩ := Prod.mk.inj (Option.some.inj h)
  exact V_iret hC hr hlk dX9_clearText_16
theorem c_X9_isAt {l : Launch} {G : Geo} {x1 : Int32} {x2 : Int32} {rv : Int32} {M : Mem} (hG : gD G) (h : f_X9_isAt x1 x2 M = some rv) : Met l yX9_isAt (.code yX9_isAt cX9_isAt 3 (some .boolean) :: GL) (rmk 1) (gP G [.ref (adr G 7 0), .int x1, .int x2] M) (gQ G (some (.int rv)) M) 0 0 (gA G) := by
  refine Met_of (own := RX9) (L := [(0, .ref (adr G 7 0)), (1, .int x1), (2, .int x2)]) hG (by decide +kernel) rfl (Nat.le_of_ble_eq_true rfl) rfl ?_
  intro p e s m args below meth c hC hr hlk
  refine V_aload_n hC dX9_isAt_0 rfl 0 rfl ?_
  refine V_getI hC (f_m0_10) fw_X9_254 dX9_isAt_1 ?_
  refine V_aload_n hC dX9_isAt_4 rfl 0 rfl ?_
  refine V_getI hC (f_m0_6) fw_X9_251 dX9_isAt_5 ?_
  refine V_icmp_ge hC 32 dX9_isAt_8 (by decide) (fun c1 => ?_) (fun c1 => ?_)
  · have h := ite_t c1 h
    refine V_iconst hC (0 : Int32) dX9_isAt_32 (by decide) ?_
    obtain rfl := Option.some.inj h
    exact V_zret hC hr hlk (Or.inl rfl) dX9_isAt_33
  · have h := ite_f c1 h
    refine V_aload_n hC dX9_isAt_11 rfl 0 rfl ?_
    refine V_getR hC (r_m0_5) fw_X9_19 dX9_isAt_12 ?_
    refine V_aload_n hC dX9_isAt_15 rfl 0 rfl ?_
    refine V_getI hC (f_m0_10) fw_X9_254 dX9_isAt_16 ?_
    obtain ⟨c2, h⟩ := ite_some h
    refine V_iald hC (a_m4) c2 dX9_isAt_19 ?_
    refine V_iload_n hC dX9_isAt_20 rfl 1 rfl ?_
    refine V_iload_n hC dX9_isAt_21 rfl 2 rfl ?_
    refine V_cSr hC [.int (M.1 7 4 (cl (M.1 7 0 10))), .int x1, .int x2] (c_X9_within (l := l) hC.2.2.2.2.2.2.2 rfl) kd_X9_within gw_1331 gw_1330 ⟨Nat.le_of_ble_eq_true rfl, Nat.le_of_ble_eq_true rfl⟩ rfl (Nat.le_of_ble_eq_true rfl) dX9_isAt_22 ⟨Nat.zero_le _, Nat.zero_le _⟩ rfl ?_
    refine V_if_eq hC 32 dX9_isAt_25 (by decide) (fun c4 => ?_) (fun c4 => ?_)
    · have h := ite_t c4 h
      refine V_iconst hC (0 : Int32) dX9_isAt_32 (by decide) ?_
      obtain rfl := Option.some.inj h
      exact V_zret hC hr hlk (Or.inl rfl) dX9_isAt_33
    · have h := ite_f c4 h
      refine V_iconst hC (1 : Int32) dX9_isAt_28 (by decide) ?_
      refine V_goto hC 33 dX9_isAt_29 (by decide) ?_
      obtain rfl := Option.some.inj h
      exact V_zret hC hr hlk (Or.inr rfl) dX9_isAt_33
theorem c_X9_manyOf {l : Launch} {G : Geo} {x0 : Int32} {rv : Int32} {M : Mem} (hG : gD G) (h : f_X9_manyOf x0 = rv) : Met l yX9_manyOf (.code yX9_manyOf cX9_manyOf 1 (some .int) :: GL) (rmk 0) (gP G [.int x0] M) (gQ G (some (.int rv)) M) 0 0 (gA G) := by
  refine Met_of (own := RX9) (L := [(0, .int x0)]) hG (by decide +kernel) rfl (Nat.le_of_ble_eq_true rfl) rfl ?_
  intro p e s m args below meth c hC hr hlk
  refine V_iload_n hC dX9_manyOf_0 rfl 0 rfl ?_
  by_cases c1 : x0 = (98 : Int32)
  · have h := ite_t c1 h
    refine V_tableIn hC 0 84 dX9_manyOf_1 (by rw [c1]; decide) (by decide) rfl (by decide) ?_
    refine V_iconst hC (1 : Int32) dX9_manyOf_84 (by decide) ?_
    obtain rfl := id h
    exact V_iret hC hr hlk dX9_manyOf_85
  have h := ite_f c1 h
  by_cases c2 : x0 = (99 : Int32)
  · have h := ite_t c2 h
    refine V_tableIn hC 1 86 dX9_manyOf_1 (by rw [c2]; decide) (by decide) rfl (by decide) ?_
    refine V_iconst hC (0 : Int32) dX9_manyOf_86 (by decide) ?_
    obtain rfl := id h
    exact V_iret hC hr hlk dX9_manyOf_87
  have h := ite_f c2 h
  by_cases c3 : x0 = (100 : Int32)
  · have h := ite_t c3 h
    refine V_tableIn hC 2 84 dX9_manyOf_1 (by rw [c3]; decide) (by decide) rfl (by decide) ?_
    refine V_iconst hC (1 : Int32) dX9_manyOf_84 (by decide) ?_
    obtain rfl := id h
    exact V_iret hC hr hlk dX9_manyOf_85
  have h := ite_f c3 h
  by_cases c4 : x0 = (101 : Int32)
  · have h := ite_t c4 h
    refine V_tableIn hC 3 80 dX9_manyOf_1 (by rw [c4]; decide) (by decide) rfl (by decide) ?_
    refine V_iconst hC (4 : Int32) dX9_manyOf_80 (by decide) ?_
    obtain rfl := id h
    exact V_iret hC hr hlk dX9_manyOf_81
  have h := ite_f c4 h
  by_cases c5 : x0 = (102 : Int32)
  · have h := ite_t c5 h
    refine V_tableIn hC 4 86 dX9_manyOf_1 (by rw [c5]; decide) (by decide) rfl (by decide) ?_
    refine V_iconst hC (0 : Int32) dX9_manyOf_86 (by decide) ?_
    obtain rfl := id h
    exact V_iret hC hr hlk dX9_manyOf_87
  have h := ite_f c5 h
  by_cases c6 : x0 = (103 : Int32)
  · have h := ite_t c6 h
    refine V_tableIn hC 5 82 dX9_manyOf_1 (by rw [c6]; decide) (by decide) rfl (by decide) ?_
    refine V_iconst hC (2 : Int32) dX9_manyOf_82 (by decide) ?_
    obtain rfl := id h
    exact V_iret hC hr hlk dX9_manyOf_83
  have h := ite_f c6 h
  by_cases c7 : x0 = (104 : Int32)
  · have h := ite_t c7 h
    refine V_tableIn hC 6 86 dX9_manyOf_1 (by rw [c7]; decide) (by decide) rfl (by decide) ?_
    refine V_iconst hC (0 : Int32) dX9_manyOf_86 (by decide) ?_
    obtain rfl := id h
    exact V_iret hC hr hlk dX9_manyOf_87
  have h := ite_f c7 h
  by_cases c8 : x0 = (105 : Int32)
  · have h := ite_t c8 h
    refine V_tableIn hC 7 86 dX9_manyOf_1 (by rw [c8]; decide) (by decide) rfl (by decide) ?_
    refine V_iconst hC (0 : Int32) dX9_manyOf_86 (by decide) ?_
    obtain rfl := id h
    exact V_iret hC hr hlk dX9_manyOf_87
  have h := ite_f c8 h
  by_cases c9 : x0 = (106 : Int32)
  · have h := ite_t c9 h
    refine V_tableIn hC 8 86 dX9_manyOf_1 (by rw [c9]; decide) (by decide) rfl (by decide) ?_
    refine V_iconst hC (0 : Int32) dX9_manyOf_86 (by decide) ?_
    obtain rfl := id h
    exact V_iret hC hr hlk dX9_manyOf_87
  have h := ite_f c9 h
  by_cases c10 : x0 = (107 : Int32)
  · have h := ite_t c10 h
    refine V_tableIn hC 9 86 dX9_manyOf_1 (by rw [c10]; decide) (by decide) rfl (by decide) ?_
    refine V_iconst hC (0 : Int32) dX9_manyOf_86 (by decide) ?_
    obtain rfl := id h
    exact V_iret hC hr hlk dX9_manyOf_87
  have h := ite_f c10 h
  by_cases c11 : x0 = (108 : Int32)
  · have h := ite_t c11 h
    refine V_tableIn hC 10 86 dX9_manyOf_1 (by rw [c11]; decide) (by decide) rfl (by decide) ?_
    refine V_iconst hC (0 : Int32) dX9_manyOf_86 (by decide) ?_
    obtain rfl := id h
    exact V_iret hC hr hlk dX9_manyOf_87
  have h := ite_f c11 h
  by_cases c12 : x0 = (109 : Int32)
  · have h := ite_t c12 h
    refine V_tableIn hC 11 86 dX9_manyOf_1 (by rw [c12]; decide) (by decide) rfl (by decide) ?_
    refine V_iconst hC (0 : Int32) dX9_manyOf_86 (by decide) ?_
    obtain rfl := id h
    exact V_iret hC hr hlk dX9_manyOf_87
  have h := ite_f c12 h
  by_cases c13 : x0 = (110 : Int32)
  · have h := ite_t c13 h
    refine V_tableIn hC 12 86 dX9_manyOf_1 (by rw [c13]; decide) (by decide) rfl (by decide) ?_
    refine V_iconst hC (0 : Int32) dX9_manyOf_86 (by decide) ?_
    obtain rfl := id h
    exact V_iret hC hr hlk dX9_manyOf_87
  have h := ite_f c13 h
  by_cases c14 : x0 = (111 : Int32)
  · have h := ite_t c14 h
    refine V_tableIn hC 13 86 dX9_manyOf_1 (by rw [c14]; decide) (by decide) rfl (by decide) ?_
    refine V_iconst hC (0 : Int32) dX9_manyOf_86 (by decide) ?_
    obtain rfl := id h
    exact V_iret hC hr hlk dX9_manyOf_87
  have h := ite_f c14 h
  by_cases c15 : x0 = (112 : Int32)
  · have h := ite_t c15 h
    refine V_tableIn hC 14 84 dX9_manyOf_1 (by rw [c15]; decide) (by decide) rfl (by decide) ?_
    refine V_iconst hC (1 : Int32) dX9_manyOf_84 (by decide) ?_
    obtain rfl := id h
    exact V_iret hC hr hlk dX9_manyOf_85
  have h := ite_f c15 h
  by_cases c16 : x0 = (113 : Int32)
  · have h := ite_t c16 h
    refine V_tableIn hC 15 80 dX9_manyOf_1 (by rw [c16]; decide) (by decide) rfl (by decide) ?_
    refine V_iconst hC (4 : Int32) dX9_manyOf_80 (by decide) ?_
    obtain rfl := id h
    exact V_iret hC hr hlk dX9_manyOf_81
  have h := ite_f c16 h
  refine V_tableOut hC 86 dX9_manyOf_1 (tsw_out (98) 16 x0 (tsw_cons c1 (by decide) (tsw_cons c2 (by decide) (tsw_cons c3 (by decide) (tsw_cons c4 (by decide) (tsw_cons c5 (by decide) (tsw_cons c6 (by decide) (tsw_cons c7 (by decide) (tsw_cons c8 (by decide) (tsw_cons c9 (by decide) (tsw_cons c10 (by decide) (tsw_cons c11 (by decide) (tsw_cons c12 (by decide) (tsw_cons c13 (by decide) (tsw_cons c14 (by decide) (tsw_cons c15 (by decide) (tsw_cons c16 (by decide) (tsw_nil))))))))))))))))) rfl) (by decide) ?_
  refine V_iconst hC (0 : Int32) dX9_manyOf_86 (by decide) ?_
  obtain rfl := id h
  exact V_iret hC hr hlk dX9_manyOf_87
theorem b_X9_readsNumber_77 {rv : Int32} {Mf : Mem} {x1 : Int32} {x2 : Int32} {x3 : Int32} {M : Mem} (hC : Cx p s m args c cX9_readsNumber RX9 4 G) (hr : meth.sig.returnType = some .boolean) (hlk : meth.locks = false) (h : B_X9_readsNumber_77 x1 x2 x3 M = some (rv, Mf)) : V p l e (rmk 2) s m args below meth c 4 G 0 0 (MQ below (gQ G (some (.int rv)) Mf) args s 0 0 (gA G)) 77 [(0, .ref (adr G 7 0)), (1, .int x1), (2, .int x2), (3, .int x3)] [] M := by
  refine V_aload_n hC dX9_readsNumber_77 rfl 0 rfl ?_
  refine V_getR hC (r_m0_13) fw_X9_35 dX9_readsNumber_78 ?_
  refine V_iload_n hC dX9_readsNumber_81 rfl 1 rfl ?_
  refine V_iload_n hC dX9_readsNumber_82 rfl 2 rfl ?_
  obtain ⟨c4, h⟩ := ite_some h
  refine V_iast hC (a_m9) c4 dX9_readsNumber_83 ?_
  refine V_iload_n hC dX9_readsNumber_84 rfl 3 rfl ?_
  refine V_if_le hC 92 dX9_readsNumber_85 (by decide) (fun c5 => ?_) (fun c5 => ?_)
  · have h := ite_t c5 h
    refine V_iconst hC (0 : Int32) dX9_readsNumber_92 (by decide) ?_
    obtain ⟨rfl, rfl⟩ := Prod.mk.inj (Option.some.inj h)
    exact V_zret hC hr hlk (Or.inl rfl) dX9_readsNumber_93
  · have h := ite_f c5 h
    refine V_iconst hC (1 : Int32) dX9_readsNumber_88 (by decide) ?_
    refine V_goto hC 93 dX9_readsNumber_89 (by decide) ?_
    obtain ⟨rfl, rfl⟩ := Prod.mk.inj (Option.some.inj h)
    exact V_zret hC hr hlk (Or.inr rfl) dX9_readsNumber_93
theorem l_X9_readsNumber_27 {rv : Int32} {Mf : Mem} {x1 : Int32} (hC : Cx p s m args c cX9_readsNumber RX9 4 G) (hr : meth.sig.returnType = some .boolean) (hlk : meth.locks = false) : ∀ (n : Nat) {x2 : Int32} {x3 : Int32} {M : Mem} (h : L_X9_readsNumber_27 x1 n x2 x3 M = some (rv, Mf)), V p l e (rmk 2) s m args below meth c 4 G 0 0 (MQ below (gQ G (some (.int rv)) Mf) args s 0 0 (gA G)) 27 [(0, .ref (adr G 7 0)), (1, .int x1), (2, .int x2), (3, .int x3)] [] M := by
  intro n
  induction n with
  | zero => intro x2 x3 M h; cases h
  | succ n ih =>
    intro x2 x3 M h
    have hk27 : ∀ (x2 : Int32) (x3 : Int32) (M : Mem), L_X9_readsNumber_27 x1 n x2 x3 M = some (rv, Mf) → V p l e (rmk 2) s m args below meth c 4 G 0 0 (MQ below (gQ G (some (.int rv)) Mf) args s 0 0 (gA G)) 27 [(0, .ref (adr G 7 0)), (1, .int x1), (2, .int x2), (3, .int x3)] [] M := fun _ _ _ z => ih z
    refine V_iload_n hC dX9_readsNumber_27 rfl 3 rfl ?_
    refine V_iconst hC (4 : Int32) dX9_readsNumber_28 (by decide) ?_
    refine V_icmp_ge hC 77 dX9_readsNumber_29 (by decide) (fun c3 => ?_) (fun c3 => ?_)
    · have h := ite_t c3 h
      exact b_X9_readsNumber_77 hC hr hlk h
    · have h := ite_f c3 h
      refine V_aload_n hC dX9_readsNumber_32 rfl 0 rfl ?_
      refine V_bipush hC (48 : Int32) dX9_readsNumber_33 (by decide) ?_
      refine V_bipush hC (57 : Int32) dX9_readsNumber_35 (by decide) ?_
      obtain ⟨q6, e6, h⟩ := bind_some h
      refine V_cVr hC [.int (48 : Int32), .int (57 : Int32)] (c_X9_isAt (l := l) hC.2.2.2.2.2.2.2 e6) kd_X9_isAt kv_X9_isAt gw_1714 (r_m0_0).o rfl ⟨Nat.le_of_ble_eq_true rfl, Nat.le_of_ble_eq_true rfl⟩ rfl (Nat.le_of_ble_eq_true rfl) dX9_readsNumber_37 ⟨Nat.zero_le _, Nat.zero_le _⟩ rfl ?_
      refine V_if_eq hC 77 dX9_readsNumber_40 (by decide) (fun c7 => ?_) (fun c7 => ?_)
      · have h := ite_t c7 h
        exact b_X9_readsNumber_77 hC hr hlk h
      · have h := ite_f c7 h
        refine V_bipush hC (10 : Int32) dX9_readsNumber_43 (by decide) ?_
        refine V_iload_n hC dX9_readsNumber_45 rfl 2 rfl ?_
        refine V_imul hC dX9_readsNumber_46 ?_
        refine V_aload_n hC dX9_readsNumber_47 rfl 0 rfl ?_
        refine V_getR hC (r_m0_5) fw_X9_19 dX9_readsNumber_48 ?_
        refine V_aload_n hC dX9_readsNumber_51 rfl 0 rfl ?_
        refine V_getI hC (f_m0_10) fw_X9_254 dX9_readsNumber_52 ?_
        obtain ⟨c8, h⟩ := ite_some h
        refine V_iald hC (a_m4) c8 dX9_readsNumber_55 ?_
        refine V_iadd hC dX9_readsNumber_56 ?_
        refine V_bipush hC (48 : Int32) dX9_readsNumber_57 (by decide) ?_
        refine V_isub hC dX9_readsNumber_59 ?_
        refine V_istore_n hC ([(2, .int ((((10 : Int32) * x2) + (M.1 7 4 (cl (M.1 7 0 10)))) - (48 : Int32))), (0, .ref (adr G 7 0)), (1, .int x1), (3, .int x3)]) dX9_readsNumber_60 rfl (by decide) rfl ?_
        refine V_aload_n hC dX9_readsNumber_61 rfl 1 rfl ?_
        refine V_dup hC dX9_readsNumber_62 rfl ?_
        refine V_getI hC (f_m0_10) fw_X9_254 dX9_readsNumber_63 ?_
        refine V_iconst hC (1 : Int32) dX9_readsNumber_66 (by decide) ?_
        refine V_iadd hC dX9_readsNumber_67 ?_
        refine V_putI hC (f_m0_10) fw_X9_254 flp_9_10 dX9_readsNumber_68 ?_
        refine V_iinc hC (x3 + 1) ([(3, .int (x3 + 1)), (2, .int ((((10 : Int32) * x2) + (M.1 7 4 (cl (M.1 7 0 10)))) - (48 : Int32))), (0, .ref (adr G 7 0)), (1, .int x1)]) dX9_readsNumber_71 3 rfl rfl (by decide) rfl ?_
        refine V_goto hC 27 dX9_readsNumber_74 (by decide) ?_
        refine V_sub [2, 3, 1, 0] rfl ?_
        exact hk27 _ _ _ h
theorem c_X9_readsNumber {l : Launch} {G : Geo} {x1 : Int32} {rv : Int32} {Mf : Mem} {M : Mem} (hG : gD G) (h : f_X9_readsNumber x1 M = some (rv, Mf)) : Met l yX9_readsNumber (.code yX9_readsNumber cX9_readsNumber 4 (some .boolean) :: GL) (rmk 2) (gP G [.ref (adr G 7 0), .int x1] M) (gQ G (some (.int rv)) Mf) 0 0 (gA G) := by
  refine Met_of (own := RX9) (L := [(0, .ref (adr G 7 0)), (1, .int x1)]) hG (by decide +kernel) rfl (Nat.le_of_ble_eq_true rfl) rfl ?_
  intro p e s m args below meth c hC hr hlk
  refine V_aload_n hC dX9_readsNumber_0 rfl 0 rfl ?_
  refine V_bipush hC (32 : Int32) dX9_readsNumber_1 (by decide) ?_
  refine V_bipush hC (32 : Int32) dX9_readsNumber_3 (by decide) ?_
  obtain ⟨q1, e1, h⟩ := bind_some h
  refine V_cVr hC [.int (32 : Int32), .int (32 : Int32)] (c_X9_isAt (l := l) hC.2.2.2.2.2.2.2 e1) kd_X9_isAt kv_X9_isAt gw_1714 (r_m0_0).o rfl ⟨Nat.le_of_ble_eq_true rfl, Nat.le_of_ble_eq_true rfl⟩ rfl (Nat.le_of_ble_eq_true rfl) dX9_readsNumber_5 ⟨Nat.zero_le _, Nat.zero_le _⟩ rfl ?_
  refine V_if_ne hC 13 dX9_readsNumber_8 (by decide) (fun c2 => ?_) (fun c2 => ?_)
  · have h := ite_f c2 h
    refine V_aload_n hC dX9_readsNumber_13 rfl 0 rfl ?_
    refine V_dup hC dX9_readsNumber_14 rfl ?_
    refine V_getI hC (f_m0_10) fw_X9_254 dX9_readsNumber_15 ?_
    refine V_iconst hC (1 : Int32) dX9_readsNumber_18 (by decide) ?_
    refine V_iadd hC dX9_readsNumber_19 ?_
    refine V_putI hC (f_m0_10) fw_X9_254 flp_9_10 dX9_readsNumber_20 ?_
    refine V_iconst hC (0 : Int32) dX9_readsNumber_23 (by decide) ?_
    refine V_istore_n hC ([(2, .int (0 : Int32)), (0, .ref (adr G 7 0)), (1, .int x1)]) dX9_readsNumber_24 rfl (by decide) rfl ?_
    refine V_iconst hC (0 : Int32) dX9_readsNumber_25 (by decide) ?_
    refine V_istore_n hC ([(3, .int (0 : Int32)), (2, .int (0 : Int32)), (0, .ref (adr G 7 0)), (1, .int x1)]) dX9_readsNumber_26 rfl (by decide) rfl ?_
    refine V_sub [2, 3, 1, 0] rfl ?_
    exact l_X9_readsNumber_27 hC hr hlk FU h
  · have h := ite_t c2 h
    refine V_iconst hC (0 : Int32) dX9_readsNumber_11 (by decide) ?_
    obtain ⟨rfl, rfl⟩ := Prod.mk.inj (Option.some.inj h)
    exact V_zret hC hr hlk (Or.inl rfl) dX9_readsNumber_12
theorem b_X9_readsOrder_96 {rv : Int32} {Mf : Mem} {x1 : Int32} {z0 : Int32} {M : Mem} (hC : Cx p s m args c cX9_readsOrder RX9 5 G) (hr : meth.sig.returnType = some .boolean) (hlk : meth.locks = false) (h : B_X9_readsOrder_96 x1 z0 M = some (rv, Mf)) : V p l e (rmk 3) s m args below meth c 5 G 0 0 (MQ below (gQ G (some (.int rv)) Mf) args s 0 0 (gA G)) 96 [(0, .ref (adr G 7 0)), (1, .int x1)] [.int z0] M := by
  refine V_istore_n hC ([(3, .int z0), (0, .ref (adr G 7 0)), (1, .int x1)]) dX9_readsOrder_96 rfl (by decide) rfl ?_
  refine V_iload_n hC dX9_readsOrder_97 rfl 0 rfl ?_
  refine V_if_eq hC 131 dX9_readsOrder_98 (by decide) (fun c7 => ?_) (fun c7 => ?_)
  · have h := ite_t c7 h
    refine V_iload_n hC dX9_readsOrder_131 rfl 0 rfl ?_
    obtain ⟨c8, h⟩ := ite_some h
    obtain ⟨rfl, rfl⟩ := Prod.mk.inj (Option.some.inj h)
    exact V_zret hC hr hlk (of_isb c8) dX9_readsOrder_132
  · have h := ite_f c7 h
    refine V_aload_n hC dX9_readsOrder_101 rfl 1 rfl ?_
    refine V_getR hC (r_m0_12) fw_X9_32 dX9_readsOrder_102 ?_
    refine V_aload_n hC dX9_readsOrder_105 rfl 1 rfl ?_
    refine V_getI hC (f_m0_11) fw_X9_263 dX9_readsOrder_106 ?_
    refine V_iload_n hC dX9_readsOrder_109 rfl 2 rfl ?_
    obtain ⟨c9, h⟩ := ite_some h
    refine V_iast hC (a_m8) c9 dX9_readsOrder_110 ?_
    refine V_aload_n hC dX9_readsOrder_111 rfl 1 rfl ?_
    refine V_dup hC dX9_readsOrder_112 rfl ?_
    refine V_getI hC (f_m0_11) fw_X9_263 dX9_readsOrder_113 ?_
    refine V_iconst hC (1 : Int32) dX9_readsOrder_116 (by decide) ?_
    refine V_iadd hC dX9_readsOrder_117 ?_
    refine V_putI hC (f_m0_11) fw_X9_263 flp_9_11 dX9_readsOrder_118 ?_
    refine V_aload_n hC dX9_readsOrder_121 rfl 1 rfl ?_
    refine V_dup hC dX9_readsOrder_122 rfl ?_
    refine V_getI hC (f_m0_10) fw_X9_254 dX9_readsOrder_123 ?_
    refine V_iconst hC (1 : Int32) dX9_readsOrder_126 (by decide) ?_
    refine V_iadd hC dX9_readsOrder_127 ?_
    refine V_putI hC (f_m0_10) fw_X9_254 flp_9_10 dX9_readsOrder_128 ?_
    refine V_iload_n hC dX9_readsOrder_131 rfl 0 rfl ?_
    obtain ⟨c10, h⟩ := ite_some h
    obtain ⟨rfl, rfl⟩ := Prod.mk.inj (Option.some.inj h)
    exact V_zret hC hr hlk (of_isb c10) dX9_readsOrder_132
theorem b_X9_readsOrder_95 {rv : Int32} {Mf : Mem} {x1 : Int32} {M : Mem} (hC : Cx p s m args c cX9_readsOrder RX9 5 G) (hr : meth.sig.returnType = some .boolean) (hlk : meth.locks = false) (h : B_X9_readsOrder_95 x1 M = some (rv, Mf)) : V p l e (rmk 3) s m args below meth c 5 G 0 0 (MQ below (gQ G (some (.int rv)) Mf) args s 0 0 (gA G)) 95 [(0, .ref (adr G 7 0)), (1, .int x1)] [] M := by
  refine V_iconst hC (0 : Int32) dX9_readsOrder_95 (by decide) ?_
  exact b_X9_readsOrder_96 hC hr hlk h
theorem b_X9_readsOrder_76 {rv : Int32} {Mf : Mem} {x1 : Int32} {x3 : Int32} {M : Mem} (hC : Cx p s m args c cX9_readsOrder RX9 5 G) (hr : meth.sig.returnType = some .boolean) (hlk : meth.locks = false) (h : B_X9_readsOrder_76 x1 x3 M = some (rv, Mf)) : V p l e (rmk 3) s m args below meth c 5 G 0 0 (MQ below (gQ G (some (.int rv)) Mf) args s 0 0 (gA G)) 76 [(0, .ref (adr G 7 0)), (1, .int x1), (3, .int x3)] [] M := by
  refine V_iload_n hC dX9_readsOrder_76 rfl 2 rfl ?_
  refine V_if_eq hC 95 dX9_readsOrder_77 (by decide) (fun c6 => ?_) (fun c6 => ?_)
  · have h := ite_t c6 h
    refine V_sub [0, 1] rfl ?_
    exact b_X9_readsOrder_95 hC hr hlk h
  · have h := ite_f c6 h
    refine V_aload_n hC dX9_readsOrder_80 rfl 0 rfl ?_
    refine V_bipush hC (59 : Int32) dX9_readsOrder_81 (by decide) ?_
    refine V_bipush hC (59 : Int32) dX9_readsOrder_83 (by decide) ?_
    obtain ⟨q11, e11, h⟩ := bind_some h
    refine V_cVr hC [.int (59 : Int32), .int (59 : Int32)] (c_X9_isAt (l := l) hC.2.2.2.2.2.2.2 e11) kd_X9_isAt kv_X9_isAt gw_1714 (r_m0_0).o rfl ⟨Nat.le_of_ble_eq_true rfl, Nat.le_of_ble_eq_true rfl⟩ rfl (Nat.le_of_ble_eq_true rfl) dX9_readsOrder_85 ⟨Nat.zero_le _, Nat.zero_le _⟩ rfl ?_
    refine V_if_eq hC 95 dX9_readsOrder_88 (by decide) (fun c12 => ?_) (fun c12 => ?_)
    · have h := ite_t c12 h
      refine V_sub [0, 1] rfl ?_
      exact b_X9_readsOrder_95 hC hr hlk h
    · have h := ite_f c12 h
      refine V_iconst hC (1 : Int32) dX9_readsOrder_91 (by decide) ?_
      refine V_goto hC 96 dX9_readsOrder_92 (by decide) ?_
      refine V_sub [0, 1] rfl ?_
      exact b_X9_readsOrder_96 hC hr hlk h
theorem l_X9_readsOrder_46 {rv : Int32} {Mf : Mem} {x1 : Int32} {x2 : Int32} (hC : Cx p s m args c cX9_readsOrder RX9 5 G) (hr : meth.sig.returnType = some .boolean) (hlk : meth.locks = false) : ∀ (n : Nat) {x3 : Int32} {x4 : Int32} {M : Mem} (h : L_X9_readsOrder_46 x1 x2 n x3 x4 M = some (rv, Mf)), V p l e (rmk 3) s m args below meth c 5 G 0 0 (MQ below (gQ G (some (.int rv)) Mf) args s 0 0 (gA G)) 46 [(0, .ref (adr G 7 0)), (1, .int x1), (2, .int x2), (3, .int x3), (4, .int x4)] [] M := by
  intro n
  induction n with
  | zero => intro x3 x4 M h; cases h
  | succ n ih =>
    intro x3 x4 M h
    have hk46 : ∀ (x3 : Int32) (x4 : Int32) (M : Mem), L_X9_readsOrder_46 x1 x2 n x3 x4 M = some (rv, Mf) → V p l e (rmk 3) s m args below meth c 5 G 0 0 (MQ below (gQ G (some (.int rv)) Mf) args s 0 0 (gA G)) 46 [(0, .ref (adr G 7 0)), (1, .int x1), (2, .int x2), (3, .int x3), (4, .int x4)] [] M := fun _ _ _ z => ih z
    refine V_iload hC dX9_readsOrder_46 4 rfl ?_
    refine V_iload_n hC dX9_readsOrder_48 rfl 2 rfl ?_
    refine V_icmp_ge hC 76 dX9_readsOrder_49 (by decide) (fun c5 => ?_) (fun c5 => ?_)
    · have h := ite_t c5 h
      refine V_sub [0, 1, 3] rfl ?_
      exact b_X9_readsOrder_76 hC hr hlk h
    · have h := ite_f c5 h
      refine V_iload_n hC dX9_readsOrder_52 rfl 3 rfl ?_
      refine V_if_eq hC 76 dX9_readsOrder_53 (by decide) (fun c13 => ?_) (fun c13 => ?_)
      · have h := ite_t c13 h
        refine V_sub [0, 1, 3] rfl ?_
        exact b_X9_readsOrder_76 hC hr hlk h
      · have h := ite_f c13 h
        refine V_aload_n hC dX9_readsOrder_56 rfl 0 rfl ?_
        refine V_iconst hC (4 : Int32) dX9_readsOrder_57 (by decide) ?_
        refine V_aload_n hC dX9_readsOrder_58 rfl 0 rfl ?_
        refine V_getI hC (f_m0_11) fw_X9_263 dX9_readsOrder_59 ?_
        refine V_imul hC dX9_readsOrder_62 ?_
        refine V_iload hC dX9_readsOrder_63 4 rfl ?_
        refine V_iadd hC dX9_readsOrder_65 ?_
        obtain ⟨q14, e14, h⟩ := bind_some h
        refine V_cVr hC [.int (((4 : Int32) * (M.1 7 0 11)) + x4)] (c_X9_readsNumber (l := l) (rv := q14.1) (Mf := q14.2) hC.2.2.2.2.2.2.2 e14) kd_X9_readsNumber kv_X9_readsNumber gw_1710 (r_m0_0).o rfl ⟨Nat.le_of_ble_eq_true rfl, Nat.le_of_ble_eq_true rfl⟩ rfl (Nat.le_of_ble_eq_true rfl) dX9_readsOrder_66 ⟨Nat.zero_le _, Nat.zero_le _⟩ rfl ?_
        refine V_istore_n hC ([(3, .int q14.1), (0, .ref (adr G 7 0)), (1, .int x1), (2, .int x2), (4, .int x4)]) dX9_readsOrder_69 rfl (by decide) rfl ?_
        refine V_iinc hC (x4 + 1) ([(4, .int (x4 + 1)), (3, .int q14.1), (0, .ref (adr G 7 0)), (1, .int x1), (2, .int x2)]) dX9_readsOrder_70 4 rfl rfl (by decide) rfl ?_
        refine V_goto hC 46 dX9_readsOrder_73 (by decide) ?_
        refine V_sub [2, 3, 4, 1, 0] rfl ?_
        exact hk46 _ _ _ h
theorem b_X9_readsOrder_39 {rv : Int32} {Mf : Mem} {x1 : Int32} {x2 : Int32} {x3 : Int32} {z0 : Int32} {z1 : Int32} {M : Mem} (hC : Cx p s m args c cX9_readsOrder RX9 5 G) (hr : meth.sig.returnType = some .boolean) (hlk : meth.locks = false) (h : B_X9_readsOrder_39 x1 x2 x3 z0 z1 M = some (rv, Mf)) : V p l e (rmk 3) s m args below meth c 5 G 0 0 (MQ below (gQ G (some (.int rv)) Mf) args s 0 0 (gA G)) 39 [(0, .ref (adr G 7 0)), (1, .int x1), (2, .int x2), (3, .int x3)] [.int z0, .int z1, .ref (adr G 7 0)] M := by
  refine V_iadd hC dX9_readsOrder_39 ?_
  refine V_putI hC (f_m0_10) fw_X9_254 flp_9_10 dX9_readsOrder_40 ?_
  refine V_iconst hC (0 : Int32) dX9_readsOrder_43 (by decide) ?_
  refine V_istore hC ([(4, .int (0 : Int32)), (0, .ref (adr G 7 0)), (1, .int x1), (2, .int x2), (3, .int x3)]) dX9_readsOrder_44 (by decide) rfl ?_
  refine V_sub [1, 2, 3, 4, 0] rfl ?_
  exact l_X9_readsOrder_46 hC hr hlk FU h
theorem b_X9_readsOrder_24 {rv : Int32} {Mf : Mem} {x1 : Int32} {x2 : Int32} {z0 : Int32} {M : Mem} (hC : Cx p s m args c cX9_readsOrder RX9 5 G) (hr : meth.sig.returnType = some .boolean) (hlk : meth.locks = false) (h : B_X9_readsOrder_24 x1 x2 z0 M = some (rv, Mf)) : V p l e (rmk 3) s m args below meth c 5 G 0 0 (MQ below (gQ G (some (.int rv)) Mf) args s 0 0 (gA G)) 24 [(0, .ref (adr G 7 0)), (1, .int x1), (2, .int x2)] [.int z0] M := by
  refine V_istore_n hC ([(3, .int z0), (0, .ref (adr G 7 0)), (1, .int x1), (2, .int x2)]) dX9_readsOrder_24 rfl (by decide) rfl ?_
  refine V_aload_n hC dX9_readsOrder_25 rfl 1 rfl ?_
  refine V_dup hC dX9_readsOrder_26 rfl ?_
  refine V_getI hC (f_m0_10) fw_X9_254 dX9_readsOrder_27 ?_
  refine V_iload_n hC dX9_readsOrder_30 rfl 0 rfl ?_
  refine V_if_eq hC 38 dX9_readsOrder_31 (by decide) (fun c4 => ?_) (fun c4 => ?_)
  · have h := ite_t c4 h
    refine V_iconst hC (0 : Int32) dX9_readsOrder_38 (by decide) ?_
    refine V_sub [1, 2, 3, 0] rfl ?_
    exact b_X9_readsOrder_39 hC hr hlk h
  · have h := ite_f c4 h
    refine V_iconst hC (1 : Int32) dX9_readsOrder_34 (by decide) ?_
    refine V_goto hC 39 dX9_readsOrder_35 (by decide) ?_
    refine V_sub [1, 2, 3, 0] rfl ?_
    exact b_X9_readsOrder_39 hC hr hlk h
theorem c_X9_readsOrder {l : Launch} {G : Geo} {rv : Int32} {Mf : Mem} {M : Mem} (hG : gD G) (h : f_X9_readsOrder M = some (rv, Mf)) : Met l yX9_readsOrder (.code yX9_readsOrder cX9_readsOrder 5 (some .boolean) :: GL) (rmk 3) (gP G [.ref (adr G 7 0)] M) (gQ G (some (.int rv)) Mf) 0 0 (gA G) := by
  refine Met_of (own := RX9) (L := [(0, .ref (adr G 7 0))]) hG (by decide +kernel) rfl (Nat.le_of_ble_eq_true rfl) rfl ?_
  intro p e s m args below meth c hC hr hlk
  refine V_aload_n hC dX9_readsOrder_0 rfl 0 rfl ?_
  refine V_getR hC (r_m0_5) fw_X9_19 dX9_readsOrder_1 ?_
  refine V_aload_n hC dX9_readsOrder_4 rfl 0 rfl ?_
  refine V_getI hC (f_m0_10) fw_X9_254 dX9_readsOrder_5 ?_
  obtain ⟨c1, h⟩ := ite_some h
  refine V_iald hC (a_m4) c1 dX9_readsOrder_8 ?_
  refine V_istore_n hC ([(1, .int (M.1 7 4 (cl (M.1 7 0 10)))), (0, .ref (adr G 7 0))]) dX9_readsOrder_9 rfl (by decide) rfl ?_
  refine V_iload_n hC dX9_readsOrder_10 rfl 0 rfl ?_
  refine V_cSr hC [.int (M.1 7 4 (cl (M.1 7 0 10)))] (c_X9_manyOf (l := l) hC.2.2.2.2.2.2.2 rfl) kd_X9_manyOf gw_1708 gw_1707 ⟨Nat.le_of_ble_eq_true rfl, Nat.le_of_ble_eq_true rfl⟩ rfl (Nat.le_of_ble_eq_true rfl) dX9_readsOrder_11 ⟨Nat.zero_le _, Nat.zero_le _⟩ rfl ?_
  refine V_istore_n hC ([(2, .int (f_X9_manyOf (M.1 7 4 (cl (M.1 7 0 10))))), (1, .int (M.1 7 4 (cl (M.1 7 0 10)))), (0, .ref (adr G 7 0))]) dX9_readsOrder_14 rfl (by decide) rfl ?_
  refine V_iload_n hC dX9_readsOrder_15 rfl 0 rfl ?_
  refine V_if_le hC 23 dX9_readsOrder_16 (by decide) (fun c3 => ?_) (fun c3 => ?_)
  · have h := ite_t c3 h
    refine V_iconst hC (0 : Int32) dX9_readsOrder_23 (by decide) ?_
    refine V_sub [2, 1, 0] rfl ?_
    exact b_X9_readsOrder_24 hC hr hlk h
  · have h := ite_f c3 h
    refine V_iconst hC (1 : Int32) dX9_readsOrder_19 (by decide) ?_
    refine V_goto hC 24 dX9_readsOrder_20 (by decide) ?_
    refine V_sub [2, 1, 0] rfl ?_
    exact b_X9_readsOrder_24 hC hr hlk h
theorem l_X9_reads_12 {rv : Int32} {Mf : Mem} (hC : Cx p s m args c cX9_reads RX9 2 G) (hr : meth.sig.returnType = some .boolean) (hlk : meth.locks = false) : ∀ (n : Nat) {x1 : Int32} {M : Mem} (h : L_X9_reads_12 n x1 M = some (rv, Mf)), V p l e (rmk 4) s m args below meth c 2 G 0 0 (MQ below (gQ G (some (.int rv)) Mf) args s 0 0 (gA G)) 12 [(0, .ref (adr G 7 0)), (1, .int x1)] [] M := by
  intro n
  induction n with
  | zero => intro x1 M h; cases h
  | succ n ih =>
    intro x1 M h
    have hk12 : ∀ (x1 : Int32) (M : Mem), L_X9_reads_12 n x1 M = some (rv, Mf) → V p l e (rmk 4) s m args below meth c 2 G 0 0 (MQ below (gQ G (some (.int rv)) Mf) args s 0 0 (gA G)) 12 [(0, .ref (adr G 7 0)), (1, .int x1)] [] M := fun _ _ z => ih z
    refine V_iload_n hC dX9_reads_12 rfl 1 rfl ?_
    refine V_if_eq hC 35 dX9_reads_13 (by decide) (fun c1 => ?_) (fun c1 => ?_)
    · have h := ite_t c1 h
      refine V_iload_n hC dX9_reads_35 rfl 1 rfl ?_
      obtain ⟨c2, h⟩ := ite_some h
      obtain ⟨rfl, rfl⟩ := Prod.mk.inj (Option.some.inj h)
      exact V_zret hC hr hlk (of_isb c2) dX9_reads_36
    · have h := ite_f c1 h
      refine V_aload_n hC dX9_reads_16 rfl 0 rfl ?_
      refine V_getI hC (f_m0_10) fw_X9_254 dX9_reads_17 ?_
      refine V_aload_n hC dX9_reads_20 rfl 0 rfl ?_
      refine V_getI hC (f_m0_6) fw_X9_251 dX9_reads_21 ?_
      refine V_icmp_ge hC 35 dX9_reads_24 (by decide) (fun c3 => ?_) (fun c3 => ?_)
      · have h := ite_t c3 h
        refine V_iload_n hC dX9_reads_35 rfl 1 rfl ?_
        obtain ⟨c4, h⟩ := ite_some h
        obtain ⟨rfl, rfl⟩ := Prod.mk.inj (Option.some.inj h)
        exact V_zret hC hr hlk (of_isb c4) dX9_reads_36
      · have h := ite_f c3 h
        refine V_aload_n hC dX9_reads_27 rfl 0 rfl ?_
        obtain ⟨q5, e5, h⟩ := bind_some h
        refine V_cVr hC [] (c_X9_readsOrder (l := l) (rv := q5.1) (Mf := q5.2) hC.2.2.2.2.2.2.2 e5) kd_X9_readsOrder kv_X9_readsOrder gw_1703 (r_m0_0).o rfl ⟨Nat.le_of_ble_eq_true rfl, Nat.le_of_ble_eq_true rfl⟩ rfl (Nat.le_of_ble_eq_true rfl) dX9_reads_28 ⟨Nat.zero_le _, Nat.zero_le _⟩ rfl ?_
        refine V_istore_n hC ([(1, .int q5.1), (0, .ref (adr G 7 0))]) dX9_reads_31 rfl (by decide) rfl ?_
        refine V_goto hC 12 dX9_reads_32 (by decide) ?_
        refine V_sub [1, 0] rfl ?_
        exact hk12 _ _ h
theorem c_X9_reads {l : Launch} {G : Geo} {rv : Int32} {Mf : Mem} {M : Mem} (hG : gD G) (h : f_X9_reads M = some (rv, Mf)) : Met l yX9_reads (.code yX9_reads cX9_reads 2 (some .boolean) :: GL) (rmk 4) (gP G [.ref (adr G 7 0)] M) (gQ G (some (.int rv)) Mf) 0 0 (gA G) := by
  refine Met_of (own := RX9) (L := [(0, .ref (adr G 7 0))]) hG (by decide +kernel) rfl (Nat.le_of_ble_eq_true rfl) rfl ?_
  intro p e s m args below meth c hC hr hlk
  refine V_aload_n hC dX9_reads_0 rfl 0 rfl ?_
  refine V_iconst hC (0 : Int32) dX9_reads_1 (by decide) ?_
  refine V_putI hC (f_m0_10) fw_X9_254 flp_9_10 dX9_reads_2 ?_
  refine V_aload_n hC dX9_reads_5 rfl 0 rfl ?_
  refine V_iconst hC (0 : Int32) dX9_reads_6 (by decide) ?_
  refine V_putI hC (f_m0_11) fw_X9_263 flp_9_11 dX9_reads_7 ?_
  refine V_iconst hC (1 : Int32) dX9_reads_10 (by decide) ?_
  refine V_istore_n hC ([(1, .int (1 : Int32)), (0, .ref (adr G 7 0))]) dX9_reads_11 rfl (by decide) rfl ?_
  refine V_sub [1, 0] rfl ?_
  exact l_X9_reads_12 hC hr hlk FU h
theorem b_X9_doesOrder_270 {rv : Int32} {Mf : Mem} {x2 : Int32} {z0 : Int32} {M : Mem} (hC : Cx p s m args c cX9_doesOrder RX9 7 G) (hr : meth.sig.returnType = some .boolean) (hlk : meth.locks = false) (h : B_X9_doesOrder_270 x2 z0 M = some (rv, Mf)) : V p l e (rmk 10) s m args below meth c 7 G 0 0 (MQ below (gQ G (some (.int rv)) Mf) args s 0 0 (gA G)) 270 [(0, .ref (adr G 7 0)), (2, .int x2)] [.int z0] M := by
  refine V_istore hC ([(6, .int z0), (0, .ref (adr G 7 0)), (2, .int x2)]) dX9_doesOrder_270 (by decide) rfl ?_
  refine V_iload hC dX9_doesOrder_272 0 rfl ?_
  refine V_if_eq hC 289 dX9_doesOrder_274 (by decide) (fun c9 => ?_) (fun c9 => ?_)
  · have h := ite_t c9 h
    refine V_iconst hC (0 : Int32) dX9_doesOrder_289 (by decide) ?_
    obtain ⟨rfl, rfl⟩ := Prod.mk.inj (Option.some.inj h)
    exact V_zret hC hr hlk (Or.inl rfl) dX9_doesOrder_290
  · have h := ite_f c9 h
    refine V_aload_n hC dX9_doesOrder_277 rfl 1 rfl ?_
    refine V_iload_n hC dX9_doesOrder_278 rfl 2 rfl ?_
    obtain ⟨q10, e10, h⟩ := bind_some h
    refine V_cVr hC [.int x2] (c_X9_breaks (l := l) (rv := q10.1) (Mf := q10.2) hC.2.2.2.2.2.2.2 e10) kd_X9_breaks kv_X9_breaks gw_1529 (r_m0_0).o rfl ⟨Nat.le_of_ble_eq_true rfl, Nat.le_of_ble_eq_true rfl⟩ rfl (Nat.le_of_ble_eq_true rfl) dX9_doesOrder_279 ⟨Nat.zero_le _, Nat.zero_le _⟩ rfl ?_
    refine V_if_lt hC 289 dX9_doesOrder_282 (by decide) (fun c11 => ?_) (fun c11 => ?_)
    · have h := ite_t c11 h
      refine V_iconst hC (0 : Int32) dX9_doesOrder_289 (by decide) ?_
      obtain ⟨rfl, rfl⟩ := Prod.mk.inj (Option.some.inj h)
      exact V_zret hC hr hlk (Or.inl rfl) dX9_doesOrder_290
    · have h := ite_f c11 h
      refine V_iconst hC (1 : Int32) dX9_doesOrder_285 (by decide) ?_
      refine V_goto hC 290 dX9_doesOrder_286 (by decide) ?_
      obtain ⟨rfl, rfl⟩ := Prod.mk.inj (Option.some.inj h)
      exact V_zret hC hr hlk (Or.inr rfl) dX9_doesOrder_290
theorem b_X9_doesOrder_173 {rv : Int32} {Mf : Mem} {x2 : Int32} {x3 : Int32} {x4 : Int32} {x5 : Int32} {z0 : Int32} {M : Mem} (hC : Cx p s m args c cX9_doesOrder RX9 7 G) (hr : meth.sig.returnType = some .boolean) (hlk : meth.locks = false) (h : B_X9_doesOrder_173 x2 x3 x4 x5 z0 M = some (rv, Mf)) : V p l e (rmk 10) s m args below meth c 7 G 0 0 (MQ below (gQ G (some (.int rv)) Mf) args s 0 0 (gA G)) 173 [(0, .ref (adr G 7 0)), (2, .int x2), (3, .int x3), (4, .int x4), (5, .int x5)] [.int z0] M := by
  refine V_istore hC ([(6, .int z0), (0, .ref (adr G 7 0)), (2, .int x2), (3, .int x3), (4, .int x4), (5, .int x5)]) dX9_doesOrder_173 (by decide) rfl ?_
  refine V_iload hC dX9_doesOrder_175 0 rfl ?_
  refine V_if_eq hC 197 dX9_doesOrder_177 (by decide) (fun c20 => ?_) (fun c20 => ?_)
  · have h := ite_t c20 h
    refine V_iconst hC (0 : Int32) dX9_doesOrder_197 (by decide) ?_
    obtain ⟨rfl, rfl⟩ := Prod.mk.inj (Option.some.inj h)
    exact V_zret hC hr hlk (Or.inl rfl) dX9_doesOrder_198
  · have h := ite_f c20 h
    refine V_aload_n hC dX9_doesOrder_180 rfl 1 rfl ?_
    refine V_iload_n hC dX9_doesOrder_181 rfl 2 rfl ?_
    refine V_iload_n hC dX9_doesOrder_182 rfl 3 rfl ?_
    refine V_iload hC dX9_doesOrder_183 4 rfl ?_
    refine V_iload hC dX9_doesOrder_185 5 rfl ?_
    obtain ⟨q21, e21, h⟩ := bind_some h
    refine V_cVr hC [.int x2, .int x3, .int x4, .int x5] (c_X9_edits (l := l) (rv := q21.1) (Mf := q21.2) hC.2.2.2.2.2.2.2 e21) kd_X9_edits kv_X9_edits gw_1561 (r_m0_0).o rfl ⟨Nat.le_of_ble_eq_true rfl, Nat.le_of_ble_eq_true rfl⟩ rfl (Nat.le_of_ble_eq_true rfl) dX9_doesOrder_187 ⟨Nat.zero_le _, Nat.zero_le _⟩ rfl ?_
    refine V_if_lt hC 197 dX9_doesOrder_190 (by decide) (fun c22 => ?_) (fun c22 => ?_)
    · have h := ite_t c22 h
      refine V_iconst hC (0 : Int32) dX9_doesOrder_197 (by decide) ?_
      obtain ⟨rfl, rfl⟩ := Prod.mk.inj (Option.some.inj h)
      exact V_zret hC hr hlk (Or.inl rfl) dX9_doesOrder_198
    · have h := ite_f c22 h
      refine V_iconst hC (1 : Int32) dX9_doesOrder_193 (by decide) ?_
      refine V_goto hC 198 dX9_doesOrder_194 (by decide) ?_
      obtain ⟨rfl, rfl⟩ := Prod.mk.inj (Option.some.inj h)
      exact V_zret hC hr hlk (Or.inr rfl) dX9_doesOrder_198
theorem b_X9_doesOrder_213 {rv : Int32} {Mf : Mem} {x2 : Int32} {x3 : Int32} {z0 : Int32} {M : Mem} (hC : Cx p s m args c cX9_doesOrder RX9 7 G) (hr : meth.sig.returnType = some .boolean) (hlk : meth.locks = false) (h : B_X9_doesOrder_213 x2 x3 z0 M = some (rv, Mf)) : V p l e (rmk 10) s m args below meth c 7 G 0 0 (MQ below (gQ G (some (.int rv)) Mf) args s 0 0 (gA G)) 213 [(0, .ref (adr G 7 0)), (2, .int x2), (3, .int x3)] [.int z0] M := by
  refine V_istore hC ([(6, .int z0), (0, .ref (adr G 7 0)), (2, .int x2), (3, .int x3)]) dX9_doesOrder_213 (by decide) rfl ?_
  refine V_iload hC dX9_doesOrder_215 0 rfl ?_
  refine V_if_eq hC 233 dX9_doesOrder_217 (by decide) (fun c26 => ?_) (fun c26 => ?_)
  · have h := ite_t c26 h
    refine V_iconst hC (0 : Int32) dX9_doesOrder_233 (by decide) ?_
    obtain ⟨rfl, rfl⟩ := Prod.mk.inj (Option.some.inj h)
    exact V_zret hC hr hlk (Or.inl rfl) dX9_doesOrder_234
  · have h := ite_f c26 h
    refine V_aload_n hC dX9_doesOrder_220 rfl 1 rfl ?_
    refine V_iload_n hC dX9_doesOrder_221 rfl 2 rfl ?_
    refine V_iload_n hC dX9_doesOrder_222 rfl 3 rfl ?_
    obtain ⟨q27, e27, h⟩ := bind_some h
    refine V_cVr hC [.int x2, .int x3] (c_X9_gives (l := l) (rv := q27.1) (Mf := q27.2) hC.2.2.2.2.2.2.2 e27) kd_X9_gives kv_X9_gives gw_1589 (r_m0_0).o rfl ⟨Nat.le_of_ble_eq_true rfl, Nat.le_of_ble_eq_true rfl⟩ rfl (Nat.le_of_ble_eq_true rfl) dX9_doesOrder_223 ⟨Nat.zero_le _, Nat.zero_le _⟩ rfl ?_
    refine V_if_lt hC 233 dX9_doesOrder_226 (by decide) (fun c28 => ?_) (fun c28 => ?_)
    · have h := ite_t c28 h
      refine V_iconst hC (0 : Int32) dX9_doesOrder_233 (by decide) ?_
      obtain ⟨rfl, rfl⟩ := Prod.mk.inj (Option.some.inj h)
      exact V_zret hC hr hlk (Or.inl rfl) dX9_doesOrder_234
    · have h := ite_f c28 h
      refine V_iconst hC (1 : Int32) dX9_doesOrder_229 (by decide) ?_
      refine V_goto hC 234 dX9_doesOrder_230 (by decide) ?_
      obtain ⟨rfl, rfl⟩ := Prod.mk.inj (Option.some.inj h)
      exact V_zret hC hr hlk (Or.inr rfl) dX9_doesOrder_234
theorem b_X9_doesOrder_128 {rv : Int32} {Mf : Mem} {x2 : Int32} {x3 : Int32} {x4 : Int32} {x5 : Int32} {z0 : Int32} {M : Mem} (hC : Cx p s m args c cX9_doesOrder RX9 7 G) (hr : meth.sig.returnType = some .boolean) (hlk : meth.locks = false) (h : B_X9_doesOrder_128 x2 x3 x4 x5 z0 M = some (rv, Mf)) : V p l e (rmk 10) s m args below meth c 7 G 0 0 (MQ below (gQ G (some (.int rv)) Mf) args s 0 0 (gA G)) 128 [(0, .ref (adr G 7 0)), (2, .int x2), (3, .int x3), (4, .int x4), (5, .int x5)] [.int z0] M := by
  refine V_istore hC ([(6, .int z0), (0, .ref (adr G 7 0)), (2, .int x2), (3, .int x3), (4, .int x4), (5, .int x5)]) dX9_doesOrder_128 (by decide) rfl ?_
  refine V_iload hC dX9_doesOrder_130 0 rfl ?_
  refine V_if_eq hC 153 dX9_doesOrder_132 (by decide) (fun c32 => ?_) (fun c32 => ?_)
  · have h := ite_t c32 h
    refine V_iconst hC (0 : Int32) dX9_doesOrder_153 (by decide) ?_
    obtain ⟨rfl, rfl⟩ := Prod.mk.inj (Option.some.inj h)
    exact V_zret hC hr hlk (Or.inl rfl) dX9_doesOrder_154
  · have h := ite_f c32 h
    refine V_aload_n hC dX9_doesOrder_135 rfl 1 rfl ?_
    refine V_iload_n hC dX9_doesOrder_136 rfl 2 rfl ?_
    refine V_iload_n hC dX9_doesOrder_137 rfl 3 rfl ?_
    refine V_iload hC dX9_doesOrder_138 4 rfl ?_
    refine V_iload hC dX9_doesOrder_140 5 rfl ?_
    obtain ⟨q33, e33, h⟩ := bind_some h
    refine V_cVr hC [.int x2, .int x3, .int x4, .int x5] (c_X9_requests (l := l) (rv := q33.1) (Mf := q33.2) hC.2.2.2.2.2.2.2 e33) kd_X9_requests kv_X9_requests gw_1470 (r_m0_0).o rfl ⟨Nat.le_of_ble_eq_true rfl, Nat.le_of_ble_eq_true rfl⟩ rfl (Nat.le_of_ble_eq_true rfl) dX9_doesOrder_142 ⟨Nat.zero_le _, Nat.zero_le _⟩ rfl ?_
    refine V_iconst hC ((-1) : Int32) dX9_doesOrder_145 (by decide) ?_
    refine V_icmp_lt hC 153 dX9_doesOrder_146 (by decide) (fun c34 => ?_) (fun c34 => ?_)
    · have h := ite_t c34 h
      refine V_iconst hC (0 : Int32) dX9_doesOrder_153 (by decide) ?_
      obtain ⟨rfl, rfl⟩ := Prod.mk.inj (Option.some.inj h)
      exact V_zret hC hr hlk (Or.inl rfl) dX9_doesOrder_154
    · have h := ite_f c34 h
      refine V_iconst hC (1 : Int32) dX9_doesOrder_149 (by decide) ?_
      refine V_goto hC 154 dX9_doesOrder_150 (by decide) ?_
      obtain ⟨rfl, rfl⟩ := Prod.mk.inj (Option.some.inj h)
      exact V_zret hC hr hlk (Or.inr rfl) dX9_doesOrder_154
theorem b_X9_doesOrder_127 {rv : Int32} {Mf : Mem} {x2 : Int32} {x3 : Int32} {x4 : Int32} {x5 : Int32} {M : Mem} (hC : Cx p s m args c cX9_doesOrder RX9 7 G) (hr : meth.sig.returnType = some .boolean) (hlk : meth.locks = false) (h : B_X9_doesOrder_127 x2 x3 x4 x5 M = some (rv, Mf)) : V p l e (rmk 10) s m args below meth c 7 G 0 0 (MQ below (gQ G (some (.int rv)) Mf) args s 0 0 (gA G)) 127 [(0, .ref (adr G 7 0)), (2, .int x2), (3, .int x3), (4, .int x4), (5, .int x5)] [] M := by
  refine V_iconst hC (0 : Int32) dX9_doesOrder_127 (by decide) ?_
  exact b_X9_doesOrder_128 hC hr hlk h
theorem c_X9_doesOrder {l : Launch} {G : Geo} {x1 : Int32} {rv : Int32} {Mf : Mem} {M : Mem} (hG : gD G) (h : f_X9_doesOrder x1 M = some (rv, Mf)) : Met l yX9_doesOrder (.code yX9_doesOrder cX9_doesOrder 7 (some .boolean) :: GL) (rmk 10) (gP G [.ref (adr G 7 0), .int x1] M) (gQ G (some (.int rv)) Mf) 0 0 (gA G) := by
  refine Met_of (own := RX9) (L := [(0, .ref (adr G 7 0)), (1, .int x1)]) hG (by decide +kernel) rfl (Nat.le_of_ble_eq_true rfl) rfl ?_
  intro p e s m args below meth c hC hr hlk
  refine V_aload_n hC dX9_doesOrder_0 rfl 0 rfl ?_
  refine V_getR hC (r_m0_13) fw_X9_35 dX9_doesOrder_1 ?_
  refine V_iconst hC (4 : Int32) dX9_doesOrder_4 (by decide) ?_
  refine V_iload_n hC dX9_doesOrder_5 rfl 1 rfl ?_
  refine V_imul hC dX9_doesOrder_6 ?_
  obtain ⟨c1, h⟩ := ite_some h
  refine V_iald hC (a_m9) c1 dX9_doesOrder_7 ?_
  refine V_istore_n hC ([(2, .int (M.1 7 9 (cl ((4 : Int32) * x1)))), (0, .ref (adr G 7 0)), (1, .int x1)]) dX9_doesOrder_8 rfl (by decide) rfl ?_
  refine V_aload_n hC dX9_doesOrder_9 rfl 1 rfl ?_
  refine V_getR hC (r_m0_13) fw_X9_35 dX9_doesOrder_10 ?_
  refine V_iconst hC (4 : Int32) dX9_doesOrder_13 (by decide) ?_
  refine V_iload_n hC dX9_doesOrder_14 rfl 2 rfl ?_
  refine V_imul hC dX9_doesOrder_15 ?_
  refine V_iconst hC (1 : Int32) dX9_doesOrder_16 (by decide) ?_
  refine V_iadd hC dX9_doesOrder_17 ?_
  obtain ⟨c2, h⟩ := ite_some h
  refine V_iald hC (a_m9) c2 dX9_doesOrder_18 ?_
  refine V_istore_n hC ([(3, .int (M.1 7 9 (cl (((4 : Int32) * x1) + (1 : Int32))))), (2, .int (M.1 7 9 (cl ((4 : Int32) * x1)))), (0, .ref (adr G 7 0)), (1, .int x1)]) dX9_doesOrder_19 rfl (by decide) rfl ?_
  refine V_aload_n hC dX9_doesOrder_20 rfl 2 rfl ?_
  refine V_getR hC (r_m0_13) fw_X9_35 dX9_doesOrder_21 ?_
  refine V_iconst hC (4 : Int32) dX9_doesOrder_24 (by decide) ?_
  refine V_iload_n hC dX9_doesOrder_25 rfl 3 rfl ?_
  refine V_imul hC dX9_doesOrder_26 ?_
  refine V_iconst hC (2 : Int32) dX9_doesOrder_27 (by decide) ?_
  refine V_iadd hC dX9_doesOrder_28 ?_
  obtain ⟨c3, h⟩ := ite_some h
  refine V_iald hC (a_m9) c3 dX9_doesOrder_29 ?_
  refine V_istore hC ([(4, .int (M.1 7 9 (cl (((4 : Int32) * x1) + (2 : Int32))))), (3, .int (M.1 7 9 (cl (((4 : Int32) * x1) + (1 : Int32))))), (2, .int (M.1 7 9 (cl ((4 : Int32) * x1)))), (0, .ref (adr G 7 0)), (1, .int x1)]) dX9_doesOrder_30 (by decide) rfl ?_
  refine V_aload_n hC dX9_doesOrder_32 rfl 3 rfl ?_
  refine V_getR hC (r_m0_13) fw_X9_35 dX9_doesOrder_33 ?_
  refine V_iconst hC (4 : Int32) dX9_doesOrder_36 (by decide) ?_
  refine V_iload_n hC dX9_doesOrder_37 rfl 4 rfl ?_
  refine V_imul hC dX9_doesOrder_38 ?_
  refine V_iconst hC (3 : Int32) dX9_doesOrder_39 (by decide) ?_
  refine V_iadd hC dX9_doesOrder_40 ?_
  obtain ⟨c4, h⟩ := ite_some h
  refine V_iald hC (a_m9) c4 dX9_doesOrder_41 ?_
  refine V_istore hC ([(5, .int (M.1 7 9 (cl (((4 : Int32) * x1) + (3 : Int32))))), (4, .int (M.1 7 9 (cl (((4 : Int32) * x1) + (2 : Int32))))), (3, .int (M.1 7 9 (cl (((4 : Int32) * x1) + (1 : Int32))))), (2, .int (M.1 7 9 (cl ((4 : Int32) * x1)))), (0, .ref (adr G 7 0)), (1, .int x1)]) dX9_doesOrder_42 (by decide) rfl ?_
  refine V_aload_n hC dX9_doesOrder_44 rfl 4 rfl ?_
  refine V_getR hC (r_m0_12) fw_X9_32 dX9_doesOrder_45 ?_
  refine V_iload_n hC dX9_doesOrder_48 rfl 5 rfl ?_
  obtain ⟨c5, h⟩ := ite_some h
  refine V_iald hC (a_m8) c5 dX9_doesOrder_49 ?_
  by_cases c6 : (M.1 7 8 (cl x1)) = (98 : Int32)
  · have h := ite_t c6 h
    refine V_lookup hC 257 dX9_doesOrder_50 (by decide) (by rw [c6]) (by decide) ?_
    refine V_aload_n hC dX9_doesOrder_257 rfl 4 rfl ?_
    refine V_iload_n hC dX9_doesOrder_258 rfl 3 rfl ?_
    obtain ⟨q7, e7, h⟩ := bind_some h
    refine V_cVr hC [.int (M.1 7 9 (cl ((4 : Int32) * x1)))] (c_X9_barBreak (l := l) hC.2.2.2.2.2.2.2 e7) kd_X9_barBreak kv_X9_barBreak gw_1525 (r_m0_0).o rfl ⟨Nat.le_of_ble_eq_true rfl, Nat.le_of_ble_eq_true rfl⟩ rfl (Nat.le_of_ble_eq_true rfl) dX9_doesOrder_259 ⟨Nat.zero_le _, Nat.zero_le _⟩ rfl ?_
    refine V_if_ne hC 269 dX9_doesOrder_262 (by decide) (fun c8 => ?_) (fun c8 => ?_)
    · have h := ite_f c8 h
      refine V_iconst hC (0 : Int32) dX9_doesOrder_269 (by decide) ?_
      refine V_sub [4, 3] rfl ?_
      exact b_X9_doesOrder_270 hC hr hlk h
    · have h := ite_t c8 h
      refine V_iconst hC (1 : Int32) dX9_doesOrder_265 (by decide) ?_
      refine V_goto hC 270 dX9_doesOrder_266 (by decide) ?_
      refine V_sub [4, 3] rfl ?_
      exact b_X9_doesOrder_270 hC hr hlk h
  have h := ite_f c6 h
  by_cases c12 : (M.1 7 8 (cl x1)) = (100 : Int32)
  · have h := ite_t c12 h
    refine V_lookup hC 235 dX9_doesOrder_50 (by decide) (by rw [c12]) (by decide) ?_
    refine V_aload_n hC dX9_doesOrder_235 rfl 4 rfl ?_
    refine V_iload_n hC dX9_doesOrder_236 rfl 3 rfl ?_
    obtain ⟨q13, e13, h⟩ := bind_some h
    refine V_cVr hC [.int (M.1 7 9 (cl ((4 : Int32) * x1)))] (c_X9_isCheck (l := l) hC.2.2.2.2.2.2.2 e13) kd_X9_isCheck kv_X9_isCheck gw_1341 (r_m0_0).o rfl ⟨Nat.le_of_ble_eq_true rfl, Nat.le_of_ble_eq_true rfl⟩ rfl (Nat.le_of_ble_eq_true rfl) dX9_doesOrder_237 ⟨Nat.zero_le _, Nat.zero_le _⟩ rfl ?_
    refine V_if_eq hC 255 dX9_doesOrder_240 (by decide) (fun c14 => ?_) (fun c14 => ?_)
    · have h := ite_t c14 h
      refine V_iconst hC (0 : Int32) dX9_doesOrder_255 (by decide) ?_
      obtain ⟨rfl, rfl⟩ := Prod.mk.inj (Option.some.inj h)
      exact V_zret hC hr hlk (Or.inl rfl) dX9_doesOrder_256
    · have h := ite_f c14 h
      refine V_aload_n hC dX9_doesOrder_243 rfl 4 rfl ?_
      refine V_iload_n hC dX9_doesOrder_244 rfl 3 rfl ?_
      obtain ⟨q15, e15, h⟩ := bind_some h
      refine V_cVr hC [.int (M.1 7 9 (cl ((4 : Int32) * x1)))] (c_X9_discards (l := l) (rv := q15.1) (Mf := q15.2) hC.2.2.2.2.2.2.2 e15) kd_X9_discards kv_X9_discards gw_1541 (r_m0_0).o rfl ⟨Nat.le_of_ble_eq_true rfl, Nat.le_of_ble_eq_true rfl⟩ rfl (Nat.le_of_ble_eq_true rfl) dX9_doesOrder_245 ⟨Nat.zero_le _, Nat.zero_le _⟩ rfl ?_
      refine V_if_lt hC 255 dX9_doesOrder_248 (by decide) (fun c16 => ?_) (fun c16 => ?_)
      · have h := ite_t c16 h
        refine V_iconst hC (0 : Int32) dX9_doesOrder_255 (by decide) ?_
        obtain ⟨rfl, rfl⟩ := Prod.mk.inj (Option.some.inj h)
        exact V_zret hC hr hlk (Or.inl rfl) dX9_doesOrder_256
      · have h := ite_f c16 h
        refine V_iconst hC (1 : Int32) dX9_doesOrder_251 (by decide) ?_
        refine V_goto hC 256 dX9_doesOrder_252 (by decide) ?_
        obtain ⟨rfl, rfl⟩ := Prod.mk.inj (Option.some.inj h)
        exact V_zret hC hr hlk (Or.inr rfl) dX9_doesOrder_256
  have h := ite_f c12 h
  by_cases c17 : (M.1 7 8 (cl x1)) = (101 : Int32)
  · have h := ite_t c17 h
    refine V_lookup hC 155 dX9_doesOrder_50 (by decide) (by rw [c17]) (by decide) ?_
    refine V_aload_n hC dX9_doesOrder_155 rfl 4 rfl ?_
    refine V_iload_n hC dX9_doesOrder_156 rfl 3 rfl ?_
    refine V_iload_n hC dX9_doesOrder_157 rfl 2 rfl ?_
    refine V_iload hC dX9_doesOrder_158 1 rfl ?_
    refine V_iload hC dX9_doesOrder_160 0 rfl ?_
    obtain ⟨q18, e18, h⟩ := bind_some h
    refine V_cVr hC [.int (M.1 7 9 (cl ((4 : Int32) * x1))), .int (M.1 7 9 (cl (((4 : Int32) * x1) + (1 : Int32)))), .int (M.1 7 9 (cl (((4 : Int32) * x1) + (2 : Int32)))), .int (M.1 7 9 (cl (((4 : Int32) * x1) + (3 : Int32))))] (c_X9_barEdit (l := l) hC.2.2.2.2.2.2.2 e18) kd_X9_barEdit kv_X9_barEdit gw_1553 (r_m0_0).o rfl ⟨Nat.le_of_ble_eq_true rfl, Nat.le_of_ble_eq_true rfl⟩ rfl (Nat.le_of_ble_eq_true rfl) dX9_doesOrder_162 ⟨Nat.zero_le _, Nat.zero_le _⟩ rfl ?_
    refine V_if_ne hC 172 dX9_doesOrder_165 (by decide) (fun c19 => ?_) (fun c19 => ?_)
    · have h := ite_f c19 h
      refine V_iconst hC (0 : Int32) dX9_doesOrder_172 (by decide) ?_
      refine V_sub [4, 3, 2, 1, 0] rfl ?_
      exact b_X9_doesOrder_173 hC hr hlk h
    · have h := ite_t c19 h
      refine V_iconst hC (1 : Int32) dX9_doesOrder_168 (by decide) ?_
      refine V_goto hC 173 dX9_doesOrder_169 (by decide) ?_
      refine V_sub [4, 3, 2, 1, 0] rfl ?_
      exact b_X9_doesOrder_173 hC hr hlk h
  have h := ite_f c17 h
  by_cases c23 : (M.1 7 8 (cl x1)) = (103 : Int32)
  · have h := ite_t c23 h
    refine V_lookup hC 199 dX9_doesOrder_50 (by decide) (by rw [c23]) (by decide) ?_
    refine V_aload_n hC dX9_doesOrder_199 rfl 4 rfl ?_
    refine V_iload_n hC dX9_doesOrder_200 rfl 3 rfl ?_
    refine V_iload_n hC dX9_doesOrder_201 rfl 2 rfl ?_
    obtain ⟨q24, e24, h⟩ := bind_some h
    refine V_cVr hC [.int (M.1 7 9 (cl ((4 : Int32) * x1))), .int (M.1 7 9 (cl (((4 : Int32) * x1) + (1 : Int32))))] (c_X9_barGive (l := l) (rv := q24.1) (Mf := q24.2) hC.2.2.2.2.2.2.2 e24) kd_X9_barGive kv_X9_barGive gw_1581 (r_m0_0).o rfl ⟨Nat.le_of_ble_eq_true rfl, Nat.le_of_ble_eq_true rfl⟩ rfl (Nat.le_of_ble_eq_true rfl) dX9_doesOrder_202 ⟨Nat.zero_le _, Nat.zero_le _⟩ rfl ?_
    refine V_if_ne hC 212 dX9_doesOrder_205 (by decide) (fun c25 => ?_) (fun c25 => ?_)
    · have h := ite_f c25 h
      refine V_iconst hC (0 : Int32) dX9_doesOrder_212 (by decide) ?_
      refine V_sub [4, 3, 2] rfl ?_
      exact b_X9_doesOrder_213 hC hr hlk h
    · have h := ite_t c25 h
      refine V_iconst hC (1 : Int32) dX9_doesOrder_208 (by decide) ?_
      refine V_goto hC 213 dX9_doesOrder_209 (by decide) ?_
      refine V_sub [4, 3, 2] rfl ?_
      exact b_X9_doesOrder_213 hC hr hlk h
  have h := ite_f c23 h
  by_cases c29 : (M.1 7 8 (cl x1)) = (113 : Int32)
  · have h := ite_t c29 h
    refine V_lookup hC 100 dX9_doesOrder_50 (by decide) (by rw [c29]) (by decide) ?_
    refine V_iload hC dX9_doesOrder_100 0 rfl ?_
    refine V_iconst hC (0 : Int32) dX9_doesOrder_102 (by decide) ?_
    refine V_iconst hC (1 : Int32) dX9_doesOrder_103 (by decide) ?_
    refine V_cSr hC [.int (M.1 7 9 (cl (((4 : Int32) * x1) + (3 : Int32)))), .int (0 : Int32), .int (1 : Int32)] (c_X9_within (l := l) hC.2.2.2.2.2.2.2 rfl) kd_X9_within gw_1331 gw_1330 ⟨Nat.le_of_ble_eq_true rfl, Nat.le_of_ble_eq_true rfl⟩ rfl (Nat.le_of_ble_eq_true rfl) dX9_doesOrder_104 ⟨Nat.zero_le _, Nat.zero_le _⟩ rfl ?_
    refine V_if_eq hC 127 dX9_doesOrder_107 (by decide) (fun c31 => ?_) (fun c31 => ?_)
    · have h := ite_t c31 h
      refine V_sub [4, 3, 2, 1, 0] rfl ?_
      exact b_X9_doesOrder_127 hC hr hlk h
    · have h := ite_f c31 h
      refine V_aload_n hC dX9_doesOrder_110 rfl 4 rfl ?_
      refine V_iload_n hC dX9_doesOrder_111 rfl 3 rfl ?_
      refine V_iload_n hC dX9_doesOrder_112 rfl 2 rfl ?_
      refine V_iload hC dX9_doesOrder_113 1 rfl ?_
      refine V_iload hC dX9_doesOrder_115 0 rfl ?_
      obtain ⟨q35, e35, h⟩ := bind_some h
      refine V_cVr hC [.int (M.1 7 9 (cl ((4 : Int32) * x1))), .int (M.1 7 9 (cl (((4 : Int32) * x1) + (1 : Int32)))), .int (M.1 7 9 (cl (((4 : Int32) * x1) + (2 : Int32)))), .int (M.1 7 9 (cl (((4 : Int32) * x1) + (3 : Int32))))] (c_X9_barRequest (l := l) hC.2.2.2.2.2.2.2 e35) kd_X9_barRequest kv_X9_barRequest gw_1459 (r_m0_0).o rfl ⟨Nat.le_of_ble_eq_true rfl, Nat.le_of_ble_eq_true rfl⟩ rfl (Nat.le_of_ble_eq_true rfl) dX9_doesOrder_117 ⟨Nat.zero_le _, Nat.zero_le _⟩ rfl ?_
      refine V_if_ne hC 127 dX9_doesOrder_120 (by decide) (fun c36 => ?_) (fun c36 => ?_)
      · have h := ite_f c36 h
        refine V_sub [4, 3, 2, 1, 0] rfl ?_
        exact b_X9_doesOrder_127 hC hr hlk h
      · have h := ite_t c36 h
        refine V_iconst hC (1 : Int32) dX9_doesOrder_123 (by decide) ?_
        refine V_goto hC 128 dX9_doesOrder_124 (by decide) ?_
        refine V_sub [4, 3, 2, 1, 0] rfl ?_
        exact b_X9_doesOrder_128 hC hr hlk h
  have h := ite_f c29 h
  refine V_lookup hC (off := 241) 291 dX9_doesOrder_50 (by decide) (by rw [lv_osw c6 (by decide), lv_osw c12 (by decide), lv_osw c17 (by decide), lv_osw c23 (by decide), lv_osw c29 (by decide)] <;> rfl) (by decide) ?_
  refine V_iload_n hC dX9_doesOrder_291 rfl 3 rfl ?_
  refine V_iconst hC (0 : Int32) dX9_doesOrder_292 (by decide) ?_
  refine V_sipush hC (1000 : Int32) dX9_doesOrder_293 (by decide) ?_
  refine V_cSr hC [.int (M.1 7 9 (cl ((4 : Int32) * x1))), .int (0 : Int32), .int (1000 : Int32)] (c_X9_within (l := l) hC.2.2.2.2.2.2.2 rfl) kd_X9_within gw_1331 gw_1330 ⟨Nat.le_of_ble_eq_true rfl, Nat.le_of_ble_eq_true rfl⟩ rfl (Nat.le_of_ble_eq_true rfl) dX9_doesOrder_296 ⟨Nat.zero_le _, Nat.zero_le _⟩ rfl ?_
  refine V_istore hC ([(6, .int (f_X9_within (M.1 7 9 (cl ((4 : Int32) * x1))) (0 : Int32) (1000 : Int32))), (5, .int (M.1 7 9 (cl (((4 : Int32) * x1) + (3 : Int32))))), (4, .int (M.1 7 9 (cl (((4 : Int32) * x1) + (2 : Int32))))), (3, .int (M.1 7 9 (cl (((4 : Int32) * x1) + (1 : Int32))))), (2, .int (M.1 7 9 (cl ((4 : Int32) * x1)))), (0, .ref (adr G 7 0)), (1, .int x1)]) dX9_doesOrder_299 (by decide) rfl ?_
  refine V_iload hC dX9_doesOrder_301 0 rfl ?_
  refine V_if_eq hC 318 dX9_doesOrder_303 (by decide) (fun c38 => ?_) (fun c38 => ?_)
  · have h := ite_t c38 h
    refine V_iconst hC (0 : Int32) dX9_doesOrder_318 (by decide) ?_
    obtain ⟨rfl, rfl⟩ := Prod.mk.inj (Option.some.inj h)
    exact V_zret hC hr hlk (Or.inl rfl) dX9_doesOrder_319
  · have h := ite_f c38 h
    refine V_aload_n hC dX9_doesOrder_306 rfl 5 rfl ?_
    refine V_iload_n hC dX9_doesOrder_307 rfl 4 rfl ?_
    obtain ⟨q39, e39, h⟩ := bind_some h
    refine V_cVr hC [.int (M.1 7 9 (cl ((4 : Int32) * x1)))] (c_X9_passes (l := l) (rv := q39.1) (Mf := q39.2) hC.2.2.2.2.2.2.2 e39) kd_X9_passes kv_X9_passes gw_1669 (r_m0_0).o rfl ⟨Nat.le_of_ble_eq_true rfl, Nat.le_of_ble_eq_true rfl⟩ rfl (Nat.le_of_ble_eq_true rfl) dX9_doesOrder_308 ⟨Nat.zero_le _, Nat.zero_le _⟩ rfl ?_
    refine V_if_lt hC 318 dX9_doesOrder_311 (by decide) (fun c40 => ?_) (fun c40 => ?_)
    · have h := ite_t c40 h
      refine V_iconst hC (0 : Int32) dX9_doesOrder_318 (by decide) ?_
      obtain ⟨rfl, rfl⟩ := Prod.mk.inj (Option.some.inj h)
      exact V_zret hC hr hlk (Or.inl rfl) dX9_doesOrder_319
    · have h := ite_f c40 h
      refine V_iconst hC (1 : Int32) dX9_doesOrder_314 (by decide) ?_
      refine V_goto hC 319 dX9_doesOrder_315 (by decide) ?_
      obtain ⟨rfl, rfl⟩ := Prod.mk.inj (Option.some.inj h)
      exact V_zret hC hr hlk (Or.inr rfl) dX9_doesOrder_319
theorem l_X9_carryOut_60 {rv : Int32} {Mf : Mem} (hC : Cx p s m args c cX9_carryOut RX9 3 G) (hr : meth.sig.returnType = some .int) (hlk : meth.locks = false) : ∀ (n : Nat) {x1 : Int32} {M : Mem} (h : L_X9_carryOut_60 n x1 M = some (rv, Mf)), V p l e (rmk 11) s m args below meth c 3 G 0 0 (MQ below (gQ G (some (.int rv)) Mf) args s 0 0 (gA G)) 60 [(0, .ref (adr G 7 0)), (1, .int x1)] [] M := by
  intro n
  induction n with
  | zero => intro x1 M h; cases h
  | succ n ih =>
    intro x1 M h
    have hk60 : ∀ (x1 : Int32) (M : Mem), L_X9_carryOut_60 n x1 M = some (rv, Mf) → V p l e (rmk 11) s m args below meth c 3 G 0 0 (MQ below (gQ G (some (.int rv)) Mf) args s 0 0 (gA G)) 60 [(0, .ref (adr G 7 0)), (1, .int x1)] [] M := fun _ _ z => ih z
    refine V_iload_n hC dX9_carryOut_60 rfl 1 rfl ?_
    refine V_sipush hC (3602 : Int32) dX9_carryOut_61 (by decide) ?_
    refine V_icmp_ge hC 99 dX9_carryOut_64 (by decide) (fun c5 => ?_) (fun c5 => ?_)
    · have h := ite_t c5 h
      refine V_aload_n hC dX9_carryOut_99 rfl 0 rfl ?_
      obtain ⟨q6, e6, h⟩ := bind_some h
      refine V_cVv hC [] (c_X9_saves (l := l) hC.2.2.2.2.2.2.2 e6) kd_X9_saves kv_X9_saves gw_1363 (r_m0_0).o rfl ⟨Nat.le_of_ble_eq_true rfl, Nat.le_of_ble_eq_true rfl⟩ rfl (Nat.le_of_ble_eq_true rfl) dX9_carryOut_100 ⟨Nat.zero_le _, Nat.zero_le _⟩ rfl ?_
      refine V_aload_n hC dX9_carryOut_103 rfl 0 rfl ?_
      obtain ⟨q7, e7, h⟩ := bind_some h
      refine V_cVv hC [] (c_X9_takesBack (l := l) hC.2.2.2.2.2.2.2 e7) kd_X9_takesBack kv_X9_takesBack gw_1613 (r_m0_0).o rfl ⟨Nat.le_of_ble_eq_true rfl, Nat.le_of_ble_eq_true rfl⟩ rfl (Nat.le_of_ble_eq_true rfl) dX9_carryOut_104 ⟨Nat.zero_le _, Nat.zero_le _⟩ rfl ?_
      refine V_aload_n hC dX9_carryOut_107 rfl 0 rfl ?_
      refine V_getI hC (f_m0_11) fw_X9_263 dX9_carryOut_108 ?_
      obtain ⟨rfl, rfl⟩ := Prod.mk.inj (Option.some.inj h)
      exact V_iret hC hr hlk dX9_carryOut_111
    · have h := ite_f c5 h
      refine V_aload_n hC dX9_carryOut_67 rfl 0 rfl ?_
      refine V_getR hC (r_m0_0) fw_X9_7 dX9_carryOut_68 ?_
      refine V_iload_n hC dX9_carryOut_71 rfl 1 rfl ?_
      obtain ⟨c8, h⟩ := ite_some h
      refine V_iald hC (a_m1) c8 dX9_carryOut_72 ?_
      refine V_istore_n hC ([(2, .int (M.1 7 1 (cl x1))), (0, .ref (adr G 7 0)), (1, .int x1)]) dX9_carryOut_73 rfl (by decide) rfl ?_
      refine V_aload_n hC dX9_carryOut_74 rfl 1 rfl ?_
      refine V_getR hC (r_m0_0) fw_X9_7 dX9_carryOut_75 ?_
      refine V_iload_n hC dX9_carryOut_78 rfl 2 rfl ?_
      refine V_aload_n hC dX9_carryOut_79 rfl 1 rfl ?_
      refine V_getR hC (r_m0_2) fw_X9_16 dX9_carryOut_80 ?_
      refine V_iload_n hC dX9_carryOut_83 rfl 2 rfl ?_
      obtain ⟨c9, h⟩ := ite_some h
      refine V_iald hC (a_m3) c9 dX9_carryOut_84 ?_
      obtain ⟨c10, h⟩ := ite_some h
      refine V_iast hC (a_m1) c10 dX9_carryOut_85 ?_
      refine V_aload_n hC dX9_carryOut_86 rfl 1 rfl ?_
      refine V_getR hC (r_m0_2) fw_X9_16 dX9_carryOut_87 ?_
      refine V_iload_n hC dX9_carryOut_90 rfl 2 rfl ?_
      refine V_iload_n hC dX9_carryOut_91 rfl 0 rfl ?_
      obtain ⟨c11, h⟩ := ite_some h
      refine V_iast hC (a_m3) c11 dX9_carryOut_92 ?_
      refine V_iinc hC (x1 + 1) ([(1, .int (x1 + 1)), (2, .int (M.1 7 1 (cl x1))), (0, .ref (adr G 7 0))]) dX9_carryOut_93 2 rfl rfl (by decide) rfl ?_
      refine V_goto hC 60 dX9_carryOut_96 (by decide) ?_
      refine V_sub [2, 0] rfl ?_
      exact hk60 _ _ h
theorem l_X9_carryOut_26 {rv : Int32} {Mf : Mem} (hC : Cx p s m args c cX9_carryOut RX9 3 G) (hr : meth.sig.returnType = some .int) (hlk : meth.locks = false) : ∀ (n : Nat) {x1 : Int32} {M : Mem} (h : L_X9_carryOut_26 n x1 M = some (rv, Mf)), V p l e (rmk 11) s m args below meth c 3 G 0 0 (MQ below (gQ G (some (.int rv)) Mf) args s 0 0 (gA G)) 26 [(0, .ref (adr G 7 0)), (1, .int x1)] [] M := by
  intro n
  induction n with
  | zero => intro x1 M h; cases h
  | succ n ih =>
    intro x1 M h
    have hk26 : ∀ (x1 : Int32) (M : Mem), L_X9_carryOut_26 n x1 M = some (rv, Mf) → V p l e (rmk 11) s m args below meth c 3 G 0 0 (MQ below (gQ G (some (.int rv)) Mf) args s 0 0 (gA G)) 26 [(0, .ref (adr G 7 0)), (1, .int x1)] [] M := fun _ _ z => ih z
    refine V_iload_n hC dX9_carryOut_26 rfl 1 rfl ?_
    refine V_aload_n hC dX9_carryOut_27 rfl 0 rfl ?_
    refine V_getI hC (f_m0_11) fw_X9_263 dX9_carryOut_28 ?_
    refine V_icmp_ge hC 58 dX9_carryOut_31 (by decide) (fun c4 => ?_) (fun c4 => ?_)
    · have h := ite_t c4 h
      refine V_iconst hC (0 : Int32) dX9_carryOut_58 (by decide) ?_
      refine V_istore_n hC ([(1, .int (0 : Int32)), (0, .ref (adr G 7 0))]) dX9_carryOut_59 rfl (by decide) rfl ?_
      refine V_sub [1, 0] rfl ?_
      exact l_X9_carryOut_60 hC hr hlk FU h
    · have h := ite_f c4 h
      refine V_aload_n hC dX9_carryOut_34 rfl 0 rfl ?_
      refine V_iload_n hC dX9_carryOut_35 rfl 1 rfl ?_
      obtain ⟨q12, e12, h⟩ := bind_some h
      refine V_cVr hC [.int x1] (c_X9_doesOrder (l := l) (rv := q12.1) (Mf := q12.2) hC.2.2.2.2.2.2.2 e12) kd_X9_doesOrder kv_X9_doesOrder gw_1718 (r_m0_0).o rfl ⟨Nat.le_of_ble_eq_true rfl, Nat.le_of_ble_eq_true rfl⟩ rfl (Nat.le_of_ble_eq_true rfl) dX9_carryOut_36 ⟨Nat.zero_le _, Nat.zero_le _⟩ rfl ?_
      refine V_if_ne hC 52 dX9_carryOut_39 (by decide) (fun c13 => ?_) (fun c13 => ?_)
      · have h := ite_f c13 h
        refine V_iinc hC (x1 + 1) ([(1, .int (x1 + 1)), (0, .ref (adr G 7 0))]) dX9_carryOut_52 1 rfl rfl (by decide) rfl ?_
        refine V_goto hC 26 dX9_carryOut_55 (by decide) ?_
        refine V_sub [1, 0] rfl ?_
        exact hk26 _ _ h
      · have h := ite_t c13 h
        refine V_aload_n hC dX9_carryOut_42 rfl 0 rfl ?_
        obtain ⟨q14, e14, h⟩ := bind_some h
        refine V_cVv hC [] (c_X9_takesBack (l := l) hC.2.2.2.2.2.2.2 e14) kd_X9_takesBack kv_X9_takesBack gw_1613 (r_m0_0).o rfl ⟨Nat.le_of_ble_eq_true rfl, Nat.le_of_ble_eq_true rfl⟩ rfl (Nat.le_of_ble_eq_true rfl) dX9_carryOut_43 ⟨Nat.zero_le _, Nat.zero_le _⟩ rfl ?_
        refine V_sipush hC ((-1000) : Int32) dX9_carryOut_46 (by decide) ?_
        refine V_iload_n hC dX9_carryOut_49 rfl 1 rfl ?_
        refine V_isub hC dX9_carryOut_50 ?_
        obtain ⟨rfl, rfl⟩ := Prod.mk.inj (Option.some.inj h)
        exact V_iret hC hr hlk dX9_carryOut_51
theorem c_X9_carryOut {l : Launch} {G : Geo} {rv : Int32} {Mf : Mem} {M : Mem} (hG : gD G) (h : f_X9_carryOut M = some (rv, Mf)) : Met l yX9_carryOut (.code yX9_carryOut cX9_carryOut 3 (some .int) :: GL) (rmk 11) (gP G [.ref (adr G 7 0)] M) (gQ G (some (.int rv)) Mf) 0 0 (gA G) := by
  refine Met_of (own := RX9) (L := [(0, .ref (adr G 7 0))]) hG (by decide +kernel) rfl (Nat.le_of_ble_eq_true rfl) rfl ?_
  intro p e s m args below meth c hC hr hlk
  refine V_aload_n hC dX9_carryOut_0 rfl 0 rfl ?_
  refine V_iconst hC (0 : Int32) dX9_carryOut_1 (by decide) ?_
  refine V_putI hC (f_m0_4) fw_X9_47 flp_9_4 dX9_carryOut_2 ?_
  refine V_aload_n hC dX9_carryOut_5 rfl 0 rfl ?_
  obtain ⟨q1, e1, h⟩ := bind_some h
  refine V_cVr hC [] (c_X9_reads (l := l) (rv := q1.1) (Mf := q1.2) hC.2.2.2.2.2.2.2 e1) kd_X9_reads kv_X9_reads gw_1699 (r_m0_0).o rfl ⟨Nat.le_of_ble_eq_true rfl, Nat.le_of_ble_eq_true rfl⟩ rfl (Nat.le_of_ble_eq_true rfl) dX9_carryOut_6 ⟨Nat.zero_le _, Nat.zero_le _⟩ rfl ?_
  refine V_if_ne hC 20 dX9_carryOut_9 (by decide) (fun c2 => ?_) (fun c2 => ?_)
  · have h := ite_f c2 h
    refine V_aload_n hC dX9_carryOut_20 rfl 0 rfl ?_
    obtain ⟨q3, e3, h⟩ := bind_some h
    refine V_cVv hC [] (c_X9_laysAside (l := l) hC.2.2.2.2.2.2.2 e3) kd_X9_laysAside kv_X9_laysAside gw_1609 (r_m0_0).o rfl ⟨Nat.le_of_ble_eq_true rfl, Nat.le_of_ble_eq_true rfl⟩ rfl (Nat.le_of_ble_eq_true rfl) dX9_carryOut_21 ⟨Nat.zero_le _, Nat.zero_le _⟩ rfl ?_
    refine V_iconst hC (0 : Int32) dX9_carryOut_24 (by decide) ?_
    refine V_istore_n hC ([(1, .int (0 : Int32)), (0, .ref (adr G 7 0))]) dX9_carryOut_25 rfl (by decide) rfl ?_
    refine V_sub [1, 0] rfl ?_
    exact l_X9_carryOut_26 hC hr hlk FU h
  · have h := ite_t c2 h
    refine V_bipush hC ((-10) : Int32) dX9_carryOut_12 (by decide) ?_
    refine V_aload_n hC dX9_carryOut_14 rfl 0 rfl ?_
    refine V_getI hC (f_m0_10) fw_X9_254 dX9_carryOut_15 ?_
    refine V_isub hC dX9_carryOut_18 ?_
    obtain ⟨rfl, rfl⟩ := Prod.mk.inj (Option.some.inj h)
    exact V_iret hC hr hlk dX9_carryOut_19
theorem c_X9_puts {l : Launch} {G : Geo} {x1 : Int32} {Mf : Mem} {M : Mem} (hG : gD G) (h : f_X9_puts x1 M = some Mf) : Met l yX9_puts (.code yX9_puts cX9_puts 2 none :: GL) (rmk 0) (gP G [.ref (adr G 7 0), .int x1] M) (gQ G none Mf) 0 0 (gA G) := by
  refine Met_of (own := RX9) (L := [(0, .ref (adr G 7 0)), (1, .int x1)]) hG (by decide +kernel) rfl (Nat.le_of_ble_eq_true rfl) rfl ?_
  intro p e s m args below meth c hC hr hlk
  refine V_aload_n hC dX9_puts_0 rfl 0 rfl ?_
  refine V_getR hC (r_m0_14) fw_X9_38 dX9_puts_1 ?_
  refine V_aload_n hC dX9_puts_4 rfl 0 rfl ?_
  refine V_getI hC (f_m0_15) fw_X9_279 dX9_puts_5 ?_
  refine V_iload_n hC dX9_puts_8 rfl 1 rfl ?_
  obtain ⟨c1, h⟩ := ite_some h
  refine V_iast hC (a_m10) c1 dX9_puts_9 ?_
  refine V_aload_n hC dX9_puts_10 rfl 0 rfl ?_
  refine V_dup hC dX9_puts_11 rfl ?_
  refine V_getI hC (f_m0_15) fw_X9_279 dX9_puts_12 ?_
  refine V_iconst hC (1 : Int32) dX9_puts_15 (by decide) ?_
  refine V_iadd hC dX9_puts_16 ?_
  refine V_putI hC (f_m0_15) fw_X9_279 flp_9_15 dX9_puts_17 ?_
  obtain rfl := Option.some.inj h
  exact V_vret hC hr hlk dX9_puts_20
theorem b_X9_putsNumber_17 {Mf : Mem} {x1 : Int32} {M : Mem} (hC : Cx p s m args c cX9_putsNumber RX9 2 G) (hr : meth.sig.returnType = none) (hlk : meth.locks = false) (h : B_X9_putsNumber_17 x1 M = some Mf) : V p l e (rmk 1) s m args below meth c 2 G 0 0 (MQ below (gQ G none Mf) args s 0 0 (gA G)) 17 [(0, .ref (adr G 7 0)), (1, .int x1)] [] M := by
  refine V_aload_n hC dX9_putsNumber_17 rfl 0 rfl ?_
  refine V_bipush hC (48 : Int32) dX9_putsNumber_18 (by decide) ?_
  refine V_iload_n hC dX9_putsNumber_20 rfl 1 rfl ?_
  refine V_bipush hC (10 : Int32) dX9_putsNumber_21 (by decide) ?_
  refine V_irem hC dX9_putsNumber_23 (by decide) ?_
  refine V_iadd hC dX9_putsNumber_24 ?_
  obtain ⟨q2, e2, h⟩ := bind_some h
  refine V_cVv hC [.int ((48 : Int32) + (ireM x1 (10 : Int32)))] (c_X9_puts (l := l) hC.2.2.2.2.2.2.2 e2) kd_X9_puts kv_X9_puts gw_1734 (r_m0_0).o rfl ⟨Nat.le_of_ble_eq_true rfl, Nat.le_of_ble_eq_true rfl⟩ rfl (Nat.le_of_ble_eq_true rfl) dX9_putsNumber_25 ⟨Nat.zero_le _, Nat.zero_le _⟩ rfl ?_
  obtain rfl := Option.some.inj h
  exact V_vret hC hr hlk dX9_putsNumber_28
theorem c_X9_putsNumber {l : Launch} {G : Geo} {x1 : Int32} {Mf : Mem} {M : Mem} (hG : gD G) (h : f_X9_putsNumber x1 M = some Mf) : Met l yX9_putsNumber (.code yX9_putsNumber cX9_putsNumber 2 none :: GL) (rmk 1) (gP G [.ref (adr G 7 0), .int x1] M) (gQ G none Mf) 0 0 (gA G) := by
  refine Met_of (own := RX9) (L := [(0, .ref (adr G 7 0)), (1, .int x1)]) hG (by decide +kernel) rfl (Nat.le_of_ble_eq_true rfl) rfl ?_
  intro p e s m args below meth c hC hr hlk
  refine V_iload_n hC dX9_putsNumber_0 rfl 1 rfl ?_
  refine V_bipush hC (9 : Int32) dX9_putsNumber_1 (by decide) ?_
  refine V_icmp_le hC 17 dX9_putsNumber_3 (by decide) (fun c1 => ?_) (fun c1 => ?_)
  · have h := ite_t c1 h
    exact b_X9_putsNumber_17 hC hr hlk h
  · have h := ite_f c1 h
    refine V_aload_n hC dX9_putsNumber_6 rfl 0 rfl ?_
    refine V_bipush hC (48 : Int32) dX9_putsNumber_7 (by decide) ?_
    refine V_iload_n hC dX9_putsNumber_9 rfl 1 rfl ?_
    refine V_bipush hC (10 : Int32) dX9_putsNumber_10 (by decide) ?_
    refine V_idiv hC dX9_putsNumber_12 (by decide) ?_
    refine V_iadd hC dX9_putsNumber_13 ?_
    obtain ⟨q3, e3, h⟩ := bind_some h
    refine V_cVv hC [.int ((48 : Int32) + (x1 / (10 : Int32)))] (c_X9_puts (l := l) hC.2.2.2.2.2.2.2 e3) kd_X9_puts kv_X9_puts gw_1734 (r_m0_0).o rfl ⟨Nat.le_of_ble_eq_true rfl, Nat.le_of_ble_eq_true rfl⟩ rfl (Nat.le_of_ble_eq_true rfl) dX9_putsNumber_14 ⟨Nat.zero_le _, Nat.zero_le _⟩ rfl ?_
    exact b_X9_putsNumber_17 hC hr hlk h
theorem b_X9_outlines_132 {Mf : Mem} {k26 : Int32 → Mem → Option Mem} {x1 : Int32} {M : Mem} (hC : Cx p s m args c cX9_outlines RX9 4 G) (hr : meth.sig.returnType = none) (hlk : meth.locks = false) (hk26 : ∀ (x1 : Int32) (M : Mem), k26 x1 M = some Mf → V p l e (rmk 2) s m args below meth c 4 G 0 0 (MQ below (gQ G none Mf) args s 0 0 (gA G)) 26 [(0, .ref (adr G 7 0)), (1, .int x1)] [] M) (h : B_X9_outlines_132 k26 x1 M = some Mf) : V p l e (rmk 2) s m args below meth c 4 G 0 0 (MQ below (gQ G none Mf) args s 0 0 (gA G)) 132 [(0, .ref (adr G 7 0)), (1, .int x1)] [] M := by
  refine V_goto hC 26 dX9_outlines_132 (by decide) ?_
  exact hk26 _ _ h
theorem b_X9_outlines_129 {Mf : Mem} {k26 : Int32 → Mem → Option Mem} {x1 : Int32} {M : Mem} (hC : Cx p s m args c cX9_outlines RX9 4 G) (hr : meth.sig.returnType = none) (hlk : meth.locks = false) (hk26 : ∀ (x1 : Int32) (M : Mem), k26 x1 M = some Mf → V p l e (rmk 2) s m args below meth c 4 G 0 0 (MQ below (gQ G none Mf) args s 0 0 (gA G)) 26 [(0, .ref (adr G 7 0)), (1, .int x1)] [] M) (h : B_X9_outlines_129 k26 x1 M = some Mf) : V p l e (rmk 2) s m args below meth c 4 G 0 0 (MQ below (gQ G none Mf) args s 0 0 (gA G)) 129 [(0, .ref (adr G 7 0)), (1, .int x1)] [] M := by
  refine V_iinc hC (x1 + ((-1) : Int32)) ([(1, .int (x1 + ((-1) : Int32))), (0, .ref (adr G 7 0))]) dX9_outlines_129 1 rfl rfl (by decide) rfl ?_
  refine V_sub [1, 0] rfl ?_
  exact b_X9_outlines_132 hC hr hlk hk26 h
theorem b_X9_outlines_69 {Mf : Mem} {k26 : Int32 → Mem → Option Mem} {x1 : Int32} {x2 : Int32} {x3 : Int32} {z0 : Int32} {M : Mem} (hC : Cx p s m args c cX9_outlines RX9 4 G) (hr : meth.sig.returnType = none) (hlk : meth.locks = false) (hk26 : ∀ (x1 : Int32) (M : Mem), k26 x1 M = some Mf → V p l e (rmk 2) s m args below meth c 4 G 0 0 (MQ below (gQ G none Mf) args s 0 0 (gA G)) 26 [(0, .ref (adr G 7 0)), (1, .int x1)] [] M) (h : B_X9_outlines_69 k26 x1 x2 x3 z0 M = some Mf) : V p l e (rmk 2) s m args below meth c 4 G 0 0 (MQ below (gQ G none Mf) args s 0 0 (gA G)) 69 [(0, .ref (adr G 7 0)), (1, .int x1), (2, .int x2), (3, .int x3)] [.int z0, .ref (adr G 7 0)] M := by
  obtain ⟨q10, e10, h⟩ := bind_some h
  refine V_cVv hC [.int z0] (c_X9_puts (l := l) hC.2.2.2.2.2.2.2 e10) kd_X9_puts kv_X9_puts gw_1734 (r_m0_0).o rfl ⟨Nat.le_of_ble_eq_true rfl, Nat.le_of_ble_eq_true rfl⟩ rfl (Nat.le_of_ble_eq_true rfl) dX9_outlines_69 ⟨Nat.zero_le _, Nat.zero_le _⟩ rfl ?_
  refine V_aload_n hC dX9_outlines_72 rfl 0 rfl ?_
  refine V_getR hC (r_m0_17) fw_X9_44 dX9_outlines_73 ?_
  refine V_iload_n hC dX9_outlines_76 rfl 1 rfl ?_
  refine V_iconst hC (1 : Int32) dX9_outlines_77 (by decide) ?_
  refine V_isub hC dX9_outlines_78 ?_
  refine V_dup2 hC dX9_outlines_79 rfl rfl ?_
  obtain ⟨c11, h⟩ := ite_some h
  refine V_iald hC (a_m12) c11 dX9_outlines_80 ?_
  refine V_iconst hC (1 : Int32) dX9_outlines_81 (by decide) ?_
  refine V_iadd hC dX9_outlines_82 ?_
  obtain ⟨c12, h⟩ := ite_some h
  refine V_iast hC (a_m12) c12 dX9_outlines_83 ?_
  refine V_aload_n hC dX9_outlines_84 rfl 0 rfl ?_
  refine V_getR hC (r_m0_16) fw_X9_41 dX9_outlines_85 ?_
  refine V_iload_n hC dX9_outlines_88 rfl 1 rfl ?_
  refine V_aload_n hC dX9_outlines_89 rfl 0 rfl ?_
  refine V_iload_n hC dX9_outlines_90 rfl 2 rfl ?_
  refine V_iload_n hC dX9_outlines_91 rfl 3 rfl ?_
  obtain ⟨q13, e13, h⟩ := bind_some h
  refine V_cVr hC [.int x2, .int x3] (c_X9_childAt (l := l) hC.2.2.2.2.2.2.2 e13) kd_X9_childAt kv_X9_childAt gw_1419 (r_m0_0).o rfl ⟨Nat.le_of_ble_eq_true rfl, Nat.le_of_ble_eq_true rfl⟩ rfl (Nat.le_of_ble_eq_true rfl) dX9_outlines_92 ⟨Nat.zero_le _, Nat.zero_le _⟩ rfl ?_
  obtain ⟨c14, h⟩ := ite_some h
  refine V_iast hC (a_m11) c14 dX9_outlines_95 ?_
  refine V_aload_n hC dX9_outlines_96 rfl 0 rfl ?_
  refine V_getR hC (r_m0_17) fw_X9_44 dX9_outlines_97 ?_
  refine V_iload_n hC dX9_outlines_100 rfl 1 rfl ?_
  refine V_iconst hC (0 : Int32) dX9_outlines_101 (by decide) ?_
  obtain ⟨c15, h⟩ := ite_some h
  refine V_iast hC (a_m12) c15 dX9_outlines_102 ?_
  refine V_aload_n hC dX9_outlines_103 rfl 0 rfl ?_
  refine V_aload_n hC dX9_outlines_104 rfl 0 rfl ?_
  refine V_getR hC (r_m0_16) fw_X9_41 dX9_outlines_105 ?_
  refine V_iload_n hC dX9_outlines_108 rfl 1 rfl ?_
  obtain ⟨c16, h⟩ := ite_some h
  refine V_iald hC (a_m11) c16 dX9_outlines_109 ?_
  obtain ⟨q17, e17, h⟩ := bind_some h
  refine V_cVv hC [.int ((wr (wr (wr q10 7 12 (cl (x1 - (1 : Int32))) ((q10.1 7 12 (cl (x1 - (1 : Int32)))) + (1 : Int32))) 7 11 (cl x1) q13) 7 12 (cl x1) (0 : Int32)).1 7 11 (cl x1))] (c_X9_putsNumber (l := l) hC.2.2.2.2.2.2.2 e17) kd_X9_putsNumber kv_X9_putsNumber gw_1730 (r_m0_0).o rfl ⟨Nat.le_of_ble_eq_true rfl, Nat.le_of_ble_eq_true rfl⟩ rfl (Nat.le_of_ble_eq_true rfl) dX9_outlines_110 ⟨Nat.zero_le _, Nat.zero_le _⟩ rfl ?_
  refine V_iinc hC (x1 + 1) ([(1, .int (x1 + 1)), (0, .ref (adr G 7 0)), (2, .int x2), (3, .int x3)]) dX9_outlines_113 1 rfl rfl (by decide) rfl ?_
  refine V_goto hC 132 dX9_outlines_116 (by decide) ?_
  refine V_sub [1, 0] rfl ?_
  exact b_X9_outlines_132 hC hr hlk hk26 h
theorem l_X9_outlines_26 {Mf : Mem} (hC : Cx p s m args c cX9_outlines RX9 4 G) (hr : meth.sig.returnType = none) (hlk : meth.locks = false) : ∀ (n : Nat) {x1 : Int32} {M : Mem} (h : L_X9_outlines_26 n x1 M = some Mf), V p l e (rmk 2) s m args below meth c 4 G 0 0 (MQ below (gQ G none Mf) args s 0 0 (gA G)) 26 [(0, .ref (adr G 7 0)), (1, .int x1)] [] M := by
  intro n
  induction n with
  | zero => intro x1 M h; cases h
  | succ n ih =>
    intro x1 M h
    have hk26 : ∀ (x1 : Int32) (M : Mem), L_X9_outlines_26 n x1 M = some Mf → V p l e (rmk 2) s m args below meth c 4 G 0 0 (MQ below (gQ G none Mf) args s 0 0 (gA G)) 26 [(0, .ref (adr G 7 0)), (1, .int x1)] [] M := fun _ _ z => ih z
    refine V_iload_n hC dX9_outlines_26 rfl 1 rfl ?_
    refine V_if_le hC 135 dX9_outlines_27 (by decide) (fun c2 => ?_) (fun c2 => ?_)
    · have h := ite_t c2 h
      obtain rfl := Option.some.inj h
      exact V_vret hC hr hlk dX9_outlines_135
    · have h := ite_f c2 h
      refine V_aload_n hC dX9_outlines_30 rfl 0 rfl ?_
      refine V_getR hC (r_m0_16) fw_X9_41 dX9_outlines_31 ?_
      refine V_iload_n hC dX9_outlines_34 rfl 1 rfl ?_
      refine V_iconst hC (1 : Int32) dX9_outlines_35 (by decide) ?_
      refine V_isub hC dX9_outlines_36 ?_
      obtain ⟨c3, h⟩ := ite_some h
      refine V_iald hC (a_m11) c3 dX9_outlines_37 ?_
      refine V_istore_n hC ([(2, .int (M.1 7 11 (cl (x1 - (1 : Int32))))), (0, .ref (adr G 7 0)), (1, .int x1)]) dX9_outlines_38 rfl (by decide) rfl ?_
      refine V_aload_n hC dX9_outlines_39 rfl 1 rfl ?_
      refine V_getR hC (r_m0_17) fw_X9_44 dX9_outlines_40 ?_
      refine V_iload_n hC dX9_outlines_43 rfl 2 rfl ?_
      refine V_iconst hC (1 : Int32) dX9_outlines_44 (by decide) ?_
      refine V_isub hC dX9_outlines_45 ?_
      obtain ⟨c4, h⟩ := ite_some h
      refine V_iald hC (a_m12) c4 dX9_outlines_46 ?_
      refine V_istore_n hC ([(3, .int (M.1 7 12 (cl (x1 - (1 : Int32))))), (2, .int (M.1 7 11 (cl (x1 - (1 : Int32))))), (0, .ref (adr G 7 0)), (1, .int x1)]) dX9_outlines_47 rfl (by decide) rfl ?_
      refine V_iload_n hC dX9_outlines_48 rfl 0 rfl ?_
      refine V_aload_n hC dX9_outlines_49 rfl 2 rfl ?_
      refine V_iload_n hC dX9_outlines_50 rfl 1 rfl ?_
      obtain ⟨q5, e5, h⟩ := bind_some h
      refine V_cVr hC [.int (M.1 7 11 (cl (x1 - (1 : Int32))))] (c_X9_childMany (l := l) hC.2.2.2.2.2.2.2 e5) kd_X9_childMany kv_X9_childMany gw_1407 (r_m0_0).o rfl ⟨Nat.le_of_ble_eq_true rfl, Nat.le_of_ble_eq_true rfl⟩ rfl (Nat.le_of_ble_eq_true rfl) dX9_outlines_51 ⟨Nat.zero_le _, Nat.zero_le _⟩ rfl ?_
      refine V_icmp_ge hC 119 dX9_outlines_54 (by decide) (fun c6 => ?_) (fun c6 => ?_)
      · have h := ite_t c6 h
        refine V_iload_n hC dX9_outlines_119 rfl 0 rfl ?_
        refine V_if_le hC 129 dX9_outlines_120 (by decide) (fun c7 => ?_) (fun c7 => ?_)
        · have h := ite_t c7 h
          refine V_sub [2, 3] rfl ?_
          exact b_X9_outlines_129 hC hr hlk hk26 h
        · have h := ite_f c7 h
          refine V_aload_n hC dX9_outlines_123 rfl 2 rfl ?_
          refine V_bipush hC (41 : Int32) dX9_outlines_124 (by decide) ?_
          obtain ⟨q8, e8, h⟩ := bind_some h
          refine V_cVv hC [.int (41 : Int32)] (c_X9_puts (l := l) hC.2.2.2.2.2.2.2 e8) kd_X9_puts kv_X9_puts gw_1734 (r_m0_0).o rfl ⟨Nat.le_of_ble_eq_true rfl, Nat.le_of_ble_eq_true rfl⟩ rfl (Nat.le_of_ble_eq_true rfl) dX9_outlines_126 ⟨Nat.zero_le _, Nat.zero_le _⟩ rfl ?_
          refine V_sub [2, 3] rfl ?_
          exact b_X9_outlines_129 hC hr hlk hk26 h
      · have h := ite_f c6 h
        refine V_aload_n hC dX9_outlines_57 rfl 2 rfl ?_
        refine V_iload_n hC dX9_outlines_58 rfl 0 rfl ?_
        refine V_if_ne hC 67 dX9_outlines_59 (by decide) (fun c9 => ?_) (fun c9 => ?_)
        · have h := ite_f c9 h
          refine V_bipush hC (44 : Int32) dX9_outlines_67 (by decide) ?_
          refine V_sub [2, 3, 1, 0] rfl ?_
          exact b_X9_outlines_69 hC hr hlk hk26 h
        · have h := ite_t c9 h
          refine V_bipush hC (40 : Int32) dX9_outlines_62 (by decide) ?_
          refine V_goto hC 69 dX9_outlines_64 (by decide) ?_
          refine V_sub [2, 3, 1, 0] rfl ?_
          exact b_X9_outlines_69 hC hr hlk hk26 h
theorem c_X9_outlines {l : Launch} {G : Geo} {Mf : Mem} {M : Mem} (hG : gD G) (h : f_X9_outlines M = some Mf) : Met l yX9_outlines (.code yX9_outlines cX9_outlines 4 none :: GL) (rmk 2) (gP G [.ref (adr G 7 0)] M) (gQ G none Mf) 0 0 (gA G) := by
  refine Met_of (own := RX9) (L := [(0, .ref (adr G 7 0))]) hG (by decide +kernel) rfl (Nat.le_of_ble_eq_true rfl) rfl ?_
  intro p e s m args below meth c hC hr hlk
  refine V_aload_n hC dX9_outlines_0 rfl 0 rfl ?_
  refine V_iconst hC (0 : Int32) dX9_outlines_1 (by decide) ?_
  refine V_putI hC (f_m0_15) fw_X9_279 flp_9_15 dX9_outlines_2 ?_
  refine V_iconst hC (1 : Int32) dX9_outlines_5 (by decide) ?_
  refine V_istore_n hC ([(1, .int (1 : Int32)), (0, .ref (adr G 7 0))]) dX9_outlines_6 rfl (by decide) rfl ?_
  refine V_aload_n hC dX9_outlines_7 rfl 1 rfl ?_
  refine V_getR hC (r_m0_16) fw_X9_41 dX9_outlines_8 ?_
  refine V_iconst hC (0 : Int32) dX9_outlines_11 (by decide) ?_
  refine V_iconst hC (0 : Int32) dX9_outlines_12 (by decide) ?_
  refine V_iast hC (a_m11) (by decide) dX9_outlines_13 ?_
  refine V_aload_n hC dX9_outlines_14 rfl 1 rfl ?_
  refine V_getR hC (r_m0_17) fw_X9_44 dX9_outlines_15 ?_
  refine V_iconst hC (0 : Int32) dX9_outlines_18 (by decide) ?_
  refine V_iconst hC (0 : Int32) dX9_outlines_19 (by decide) ?_
  refine V_iast hC (a_m12) (by decide) dX9_outlines_20 ?_
  refine V_aload_n hC dX9_outlines_21 rfl 1 rfl ?_
  refine V_iconst hC (0 : Int32) dX9_outlines_22 (by decide) ?_
  obtain ⟨q1, e1, h⟩ := bind_some h
  refine V_cVv hC [.int (0 : Int32)] (c_X9_putsNumber (l := l) hC.2.2.2.2.2.2.2 e1) kd_X9_putsNumber kv_X9_putsNumber gw_1730 (r_m0_0).o rfl ⟨Nat.le_of_ble_eq_true rfl, Nat.le_of_ble_eq_true rfl⟩ rfl (Nat.le_of_ble_eq_true rfl) dX9_outlines_23 ⟨Nat.zero_le _, Nat.zero_le _⟩ rfl ?_
  refine V_sub [1, 0] rfl ?_
  exact l_X9_outlines_26 hC hr hlk FU h
end
