section
variable {p : Program} {l : Launch} {e : Env} {s : State} {m : MethodId} {args : Array Value} {below : List Frame} {meth : Method} {c : Code} {G : Geo}
theorem b_X9_outline_10 {rv : Int32} {Mf : Mem} {x1 : Int32} {z0 : Int32} {M : Mem} (hC : Cx p s m args c cX9_outline RX9 2 G) (hr : meth.sig.returnType = some .int) (hlk : meth.locks = false) (h : B_X9_outline_10 x1 z0 M = some (rv, Mf)) : V p l e (rmk 3) s m args below meth c 2 G 0 0 (MQ below (gQ G (some (.int rv)) Mf) args s 0 0 (gA G)) 10 [(0, .ref (adr G 7 0)), (1, .int x1)] [.int z0, .ref (adr G 7 0)] M := by
  obtain ⟨q2, e2, h⟩ := bind_some h
  refine V_cVr hC [.int z0] (c_X9_refused (l := l) (rv := q2.1) (Mf := q2.2) hC.2.2.2.2.2.2.2 e2) kd_X9_refused kv_X9_refused gw_1318 (r_m0_0).o rfl ⟨Nat.le_of_ble_eq_true rfl, Nat.le_of_ble_eq_true rfl⟩ rfl (Nat.le_of_ble_eq_true rfl) dX9_outline_10 ⟨Nat.zero_le _, Nat.zero_le _⟩ rfl ?_
  refine V_if_eq hC 18 dX9_outline_13 (by decide) (fun c3 => ?_) (fun c3 => ?_)
  · have h := ite_t c3 h
    refine V_aload_n hC dX9_outline_18 rfl 0 rfl ?_
    obtain ⟨q4, e4, h⟩ := bind_some h
    refine V_cVv hC [] (c_X9_outlines (l := l) hC.2.2.2.2.2.2.2 e4) kd_X9_outlines kv_X9_outlines gw_1726 (r_m0_0).o rfl ⟨Nat.le_of_ble_eq_true rfl, Nat.le_of_ble_eq_true rfl⟩ rfl (Nat.le_of_ble_eq_true rfl) dX9_outline_19 ⟨Nat.zero_le _, Nat.zero_le _⟩ rfl ?_
    refine V_iload_n hC dX9_outline_22 rfl 1 rfl ?_
    refine V_aload_n hC dX9_outline_23 rfl 0 rfl ?_
    refine V_getI hC (f_m0_15) fw_X9_279 dX9_outline_24 ?_
    refine V_icmp_ge hC 39 dX9_outline_27 (by decide) (fun c5 => ?_) (fun c5 => ?_)
    · have h := ite_t c5 h
      refine V_iconst hC ((-1) : Int32) dX9_outline_39 (by decide) ?_
      obtain ⟨rfl, rfl⟩ := Prod.mk.inj (Option.some.inj h)
      exact V_iret hC hr hlk dX9_outline_40
    · have h := ite_f c5 h
      refine V_aload_n hC dX9_outline_30 rfl 0 rfl ?_
      refine V_getR hC (r_m0_14) fw_X9_38 dX9_outline_31 ?_
      refine V_iload_n hC dX9_outline_34 rfl 1 rfl ?_
      obtain ⟨c6, h⟩ := ite_some h
      refine V_iald hC (a_m10) c6 dX9_outline_35 ?_
      refine V_goto hC 40 dX9_outline_36 (by decide) ?_
      obtain ⟨rfl, rfl⟩ := Prod.mk.inj (Option.some.inj h)
      exact V_iret hC hr hlk dX9_outline_40
  · have h := ite_f c3 h
    refine V_iconst hC (0 : Int32) dX9_outline_16 (by decide) ?_
    obtain ⟨rfl, rfl⟩ := Prod.mk.inj (Option.some.inj h)
    exact V_iret hC hr hlk dX9_outline_17
theorem c_X9_outline {l : Launch} {G : Geo} {x1 : Int32} {rv : Int32} {Mf : Mem} {M : Mem} (hG : gD G) (h : f_X9_outline x1 M = some (rv, Mf)) : Met l yX9_outline (.code yX9_outline cX9_outline 2 (some .int) :: GL) (rmk 3) (gP G [.ref (adr G 7 0), .int x1] M) (gQ G (some (.int rv)) Mf) 0 0 (gA G) := by
  refine Met_of (own := RX9) (L := [(0, .ref (adr G 7 0)), (1, .int x1)]) hG (by decide +kernel) rfl (Nat.le_of_ble_eq_true rfl) rfl ?_
  intro p e s m args below meth c hC hr hlk
  refine V_aload_n hC dX9_outline_0 rfl 0 rfl ?_
  refine V_iload_n hC dX9_outline_1 rfl 1 rfl ?_
  refine V_if_ge hC 9 dX9_outline_2 (by decide) (fun c1 => ?_) (fun c1 => ?_)
  · have h := ite_t c1 h
    refine V_iconst hC (0 : Int32) dX9_outline_9 (by decide) ?_
    exact b_X9_outline_10 hC hr hlk h
  · have h := ite_f c1 h
    refine V_iconst hC (1 : Int32) dX9_outline_5 (by decide) ?_
    refine V_goto hC 10 dX9_outline_6 (by decide) ?_
    exact b_X9_outline_10 hC hr hlk h
theorem c_X9_mix {l : Launch} {G : Geo} {x1 : Int32} {Mf : Mem} {M : Mem} (hG : gD G) (h : f_X9_mix x1 M = some Mf) : Met l yX9_mix (.code yX9_mix cX9_mix 2 none :: GL) (rmk 0) (gP G [.ref (adr G 7 0), .int x1] M) (gQ G none Mf) 0 0 (gA G) := by
  refine Met_of (own := RX9) (L := [(0, .ref (adr G 7 0)), (1, .int x1)]) hG (by decide +kernel) rfl (Nat.le_of_ble_eq_true rfl) rfl ?_
  intro p e s m args below meth c hC hr hlk
  refine V_aload_n hC dX9_mix_0 rfl 0 rfl ?_
  refine V_ldc2 hC (31 : Int64) dX9_mix_1 gw_1747 ?_
  refine V_aload_n hC dX9_mix_4 rfl 0 rfl ?_
  refine V_getL hC fw_X9_293 dX9_mix_5 ?_
  refine V_lmul hC dX9_mix_8 ?_
  refine V_iload_n hC dX9_mix_9 rfl 1 rfl ?_
  refine V_i2l hC dX9_mix_10 ?_
  refine V_ladd hC dX9_mix_11 ?_
  refine V_putL hC fw_X9_293 dX9_mix_12 ?_
  obtain rfl := Option.some.inj h
  exact V_vret hC hr hlk dX9_mix_15
theorem l_X9_mixAll_2 {Mf : Mem} {x1 : Int32} {x2 : Int32} (hC : Cx p s m args c cX9_mixAll RX9 4 G) (hr : meth.sig.returnType = none) (hlk : meth.locks = false) : ∀ (n : Nat) {x3 : Int32} {M : Mem} (h : L_X9_mixAll_2 x1 x2 n x3 M = some Mf), V p l e (rmk 1) s m args below meth c 4 G 0 0 (MQ below (gQ G none Mf) args s 0 0 (gA G)) 2 [(0, .ref (adr G 7 0)), (1, .int x1), (2, .int x2), (3, .int x3)] [] M := by
  intro n
  induction n with
  | zero => intro x3 M h; cases h
  | succ n ih =>
    intro x3 M h
    have hk2 : ∀ (x3 : Int32) (M : Mem), L_X9_mixAll_2 x1 x2 n x3 M = some Mf → V p l e (rmk 1) s m args below meth c 4 G 0 0 (MQ below (gQ G none Mf) args s 0 0 (gA G)) 2 [(0, .ref (adr G 7 0)), (1, .int x1), (2, .int x2), (3, .int x3)] [] M := fun _ _ z => ih z
    refine V_iload_n hC dX9_mixAll_2 rfl 3 rfl ?_
    refine V_iload_n hC dX9_mixAll_3 rfl 1 rfl ?_
    refine V_iload_n hC dX9_mixAll_4 rfl 2 rfl ?_
    refine V_iadd hC dX9_mixAll_5 ?_
    refine V_icmp_ge hC 25 dX9_mixAll_6 (by decide) (fun c1 => ?_) (fun c1 => ?_)
    · have h := ite_t c1 h
      obtain rfl := Option.some.inj h
      exact V_vret hC hr hlk dX9_mixAll_25
    · have h := ite_f c1 h
      refine V_aload_n hC dX9_mixAll_9 rfl 0 rfl ?_
      refine V_aload_n hC dX9_mixAll_10 rfl 0 rfl ?_
      refine V_getR hC (r_m0_0) fw_X9_7 dX9_mixAll_11 ?_
      refine V_iload_n hC dX9_mixAll_14 rfl 3 rfl ?_
      obtain ⟨c2, h⟩ := ite_some h
      refine V_iald hC (a_m1) c2 dX9_mixAll_15 ?_
      obtain ⟨q3, e3, h⟩ := bind_some h
      refine V_cVv hC [.int (M.1 7 1 (cl x3))] (c_X9_mix (l := l) hC.2.2.2.2.2.2.2 e3) kd_X9_mix kv_X9_mix gw_1743 (r_m0_0).o rfl ⟨Nat.le_of_ble_eq_true rfl, Nat.le_of_ble_eq_true rfl⟩ rfl (Nat.le_of_ble_eq_true rfl) dX9_mixAll_16 ⟨Nat.zero_le _, Nat.zero_le _⟩ rfl ?_
      refine V_iinc hC (x3 + 1) ([(3, .int (x3 + 1)), (0, .ref (adr G 7 0)), (1, .int x1), (2, .int x2)]) dX9_mixAll_19 3 rfl rfl (by decide) rfl ?_
      refine V_goto hC 2 dX9_mixAll_22 (by decide) ?_
      refine V_sub [1, 2, 3, 0] rfl ?_
      exact hk2 _ _ h
theorem c_X9_mixAll {l : Launch} {G : Geo} {x1 : Int32} {x2 : Int32} {Mf : Mem} {M : Mem} (hG : gD G) (h : f_X9_mixAll x1 x2 M = some Mf) : Met l yX9_mixAll (.code yX9_mixAll cX9_mixAll 4 none :: GL) (rmk 1) (gP G [.ref (adr G 7 0), .int x1, .int x2] M) (gQ G none Mf) 0 0 (gA G) := by
  refine Met_of (own := RX9) (L := [(0, .ref (adr G 7 0)), (1, .int x1), (2, .int x2)]) hG (by decide +kernel) rfl (Nat.le_of_ble_eq_true rfl) rfl ?_
  intro p e s m args below meth c hC hr hlk
  refine V_iload_n hC dX9_mixAll_0 rfl 1 rfl ?_
  refine V_istore_n hC ([(3, .int x1), (0, .ref (adr G 7 0)), (1, .int x1), (2, .int x2)]) dX9_mixAll_1 rfl (by decide) rfl ?_
  refine V_sub [1, 2, 3, 0] rfl ?_
  exact l_X9_mixAll_2 hC hr hlk FU h
theorem l_X9_mixSection_42 {Mf : Mem} {x1 : Int32} (hC : Cx p s m args c cX9_mixSection RX9 3 G) (hr : meth.sig.returnType = none) (hlk : meth.locks = false) : ∀ (n : Nat) {x2 : Int32} {M : Mem} (h : L_X9_mixSection_42 x1 n x2 M = some Mf), V p l e (rmk 2) s m args below meth c 3 G 0 0 (MQ below (gQ G none Mf) args s 0 0 (gA G)) 42 [(0, .ref (adr G 7 0)), (1, .int x1), (2, .int x2)] [] M := by
  intro n
  induction n with
  | zero => intro x2 M h; cases h
  | succ n ih =>
    intro x2 M h
    have hk42 : ∀ (x2 : Int32) (M : Mem), L_X9_mixSection_42 x1 n x2 M = some Mf → V p l e (rmk 2) s m args below meth c 3 G 0 0 (MQ below (gQ G none Mf) args s 0 0 (gA G)) 42 [(0, .ref (adr G 7 0)), (1, .int x1), (2, .int x2)] [] M := fun _ _ z => ih z
    refine V_iload_n hC dX9_mixSection_42 rfl 2 rfl ?_
    refine V_aload_n hC dX9_mixSection_43 rfl 0 rfl ?_
    refine V_iload_n hC dX9_mixSection_44 rfl 1 rfl ?_
    obtain ⟨q8, e8, h⟩ := bind_some h
    refine V_cVr hC [.int x1] (c_X9_childMany (l := l) hC.2.2.2.2.2.2.2 e8) kd_X9_childMany kv_X9_childMany gw_1407 (r_m0_0).o rfl ⟨Nat.le_of_ble_eq_true rfl, Nat.le_of_ble_eq_true rfl⟩ rfl (Nat.le_of_ble_eq_true rfl) dX9_mixSection_45 ⟨Nat.zero_le _, Nat.zero_le _⟩ rfl ?_
    refine V_icmp_ge hC 67 dX9_mixSection_48 (by decide) (fun c9 => ?_) (fun c9 => ?_)
    · have h := ite_t c9 h
      refine V_aload_n hC dX9_mixSection_67 rfl 0 rfl ?_
      refine V_bipush hC (82 : Int32) dX9_mixSection_68 (by decide) ?_
      refine V_bipush hC (6 : Int32) dX9_mixSection_70 (by decide) ?_
      refine V_iload_n hC dX9_mixSection_72 rfl 1 rfl ?_
      refine V_imul hC dX9_mixSection_73 ?_
      refine V_iadd hC dX9_mixSection_74 ?_
      refine V_bipush hC (6 : Int32) dX9_mixSection_75 (by decide) ?_
      obtain ⟨q10, e10, h⟩ := bind_some h
      refine V_cVv hC [.int ((82 : Int32) + ((6 : Int32) * x1)), .int (6 : Int32)] (c_X9_mixAll (l := l) hC.2.2.2.2.2.2.2 e10) kd_X9_mixAll kv_X9_mixAll gw_1752 (r_m0_0).o rfl ⟨Nat.le_of_ble_eq_true rfl, Nat.le_of_ble_eq_true rfl⟩ rfl (Nat.le_of_ble_eq_true rfl) dX9_mixSection_77 ⟨Nat.zero_le _, Nat.zero_le _⟩ rfl ?_
      obtain rfl := Option.some.inj h
      exact V_vret hC hr hlk dX9_mixSection_80
    · have h := ite_f c9 h
      refine V_aload_n hC dX9_mixSection_51 rfl 0 rfl ?_
      refine V_aload_n hC dX9_mixSection_52 rfl 0 rfl ?_
      refine V_iload_n hC dX9_mixSection_53 rfl 1 rfl ?_
      refine V_iload_n hC dX9_mixSection_54 rfl 2 rfl ?_
      obtain ⟨q11, e11, h⟩ := bind_some h
      refine V_cVr hC [.int x1, .int x2] (c_X9_childAt (l := l) hC.2.2.2.2.2.2.2 e11) kd_X9_childAt kv_X9_childAt gw_1419 (r_m0_0).o rfl ⟨Nat.le_of_ble_eq_true rfl, Nat.le_of_ble_eq_true rfl⟩ rfl (Nat.le_of_ble_eq_true rfl) dX9_mixSection_55 ⟨Nat.zero_le _, Nat.zero_le _⟩ rfl ?_
      obtain ⟨q12, e12, h⟩ := bind_some h
      refine V_cVv hC [.int q11] (c_X9_mix (l := l) hC.2.2.2.2.2.2.2 e12) kd_X9_mix kv_X9_mix gw_1743 (r_m0_0).o rfl ⟨Nat.le_of_ble_eq_true rfl, Nat.le_of_ble_eq_true rfl⟩ rfl (Nat.le_of_ble_eq_true rfl) dX9_mixSection_58 ⟨Nat.zero_le _, Nat.zero_le _⟩ rfl ?_
      refine V_iinc hC (x2 + 1) ([(2, .int (x2 + 1)), (0, .ref (adr G 7 0)), (1, .int x1)]) dX9_mixSection_61 2 rfl rfl (by decide) rfl ?_
      refine V_goto hC 42 dX9_mixSection_64 (by decide) ?_
      refine V_sub [1, 2, 0] rfl ?_
      exact hk42 _ _ h
theorem c_X9_mixSection {l : Launch} {G : Geo} {x1 : Int32} {Mf : Mem} {M : Mem} (hG : gD G) (h : f_X9_mixSection x1 M = some Mf) : Met l yX9_mixSection (.code yX9_mixSection cX9_mixSection 3 none :: GL) (rmk 2) (gP G [.ref (adr G 7 0), .int x1] M) (gQ G none Mf) 0 0 (gA G) := by
  refine Met_of (own := RX9) (L := [(0, .ref (adr G 7 0)), (1, .int x1)]) hG (by decide +kernel) rfl (Nat.le_of_ble_eq_true rfl) rfl ?_
  intro p e s m args below meth c hC hr hlk
  refine V_aload_n hC dX9_mixSection_0 rfl 0 rfl ?_
  refine V_iload_n hC dX9_mixSection_1 rfl 1 rfl ?_
  obtain ⟨q1, e1, h⟩ := bind_some h
  refine V_cVv hC [.int x1] (c_X9_mix (l := l) hC.2.2.2.2.2.2.2 e1) kd_X9_mix kv_X9_mix gw_1743 (r_m0_0).o rfl ⟨Nat.le_of_ble_eq_true rfl, Nat.le_of_ble_eq_true rfl⟩ rfl (Nat.le_of_ble_eq_true rfl) dX9_mixSection_2 ⟨Nat.zero_le _, Nat.zero_le _⟩ rfl ?_
  refine V_aload_n hC dX9_mixSection_5 rfl 0 rfl ?_
  refine V_aload_n hC dX9_mixSection_6 rfl 0 rfl ?_
  refine V_getR hC (r_m0_0) fw_X9_7 dX9_mixSection_7 ?_
  refine V_bipush hC (22 : Int32) dX9_mixSection_10 (by decide) ?_
  refine V_iload_n hC dX9_mixSection_12 rfl 1 rfl ?_
  refine V_iadd hC dX9_mixSection_13 ?_
  obtain ⟨c2, h⟩ := ite_some h
  refine V_iald hC (a_m1) c2 dX9_mixSection_14 ?_
  obtain ⟨q3, e3, h⟩ := bind_some h
  refine V_cVv hC [.int (q1.1 7 1 (cl ((22 : Int32) + x1)))] (c_X9_mix (l := l) hC.2.2.2.2.2.2.2 e3) kd_X9_mix kv_X9_mix gw_1743 (r_m0_0).o rfl ⟨Nat.le_of_ble_eq_true rfl, Nat.le_of_ble_eq_true rfl⟩ rfl (Nat.le_of_ble_eq_true rfl) dX9_mixSection_15 ⟨Nat.zero_le _, Nat.zero_le _⟩ rfl ?_
  refine V_aload_n hC dX9_mixSection_18 rfl 0 rfl ?_
  refine V_aload_n hC dX9_mixSection_19 rfl 0 rfl ?_
  refine V_getR hC (r_m0_0) fw_X9_7 dX9_mixSection_20 ?_
  refine V_bipush hC (62 : Int32) dX9_mixSection_23 (by decide) ?_
  refine V_iload_n hC dX9_mixSection_25 rfl 1 rfl ?_
  refine V_iadd hC dX9_mixSection_26 ?_
  obtain ⟨c4, h⟩ := ite_some h
  refine V_iald hC (a_m1) c4 dX9_mixSection_27 ?_
  obtain ⟨q5, e5, h⟩ := bind_some h
  refine V_cVv hC [.int (q3.1 7 1 (cl ((62 : Int32) + x1)))] (c_X9_mix (l := l) hC.2.2.2.2.2.2.2 e5) kd_X9_mix kv_X9_mix gw_1743 (r_m0_0).o rfl ⟨Nat.le_of_ble_eq_true rfl, Nat.le_of_ble_eq_true rfl⟩ rfl (Nat.le_of_ble_eq_true rfl) dX9_mixSection_28 ⟨Nat.zero_le _, Nat.zero_le _⟩ rfl ?_
  refine V_aload_n hC dX9_mixSection_31 rfl 0 rfl ?_
  refine V_aload_n hC dX9_mixSection_32 rfl 0 rfl ?_
  refine V_iload_n hC dX9_mixSection_33 rfl 1 rfl ?_
  obtain ⟨q6, e6, h⟩ := bind_some h
  refine V_cVr hC [.int x1] (c_X9_childMany (l := l) hC.2.2.2.2.2.2.2 e6) kd_X9_childMany kv_X9_childMany gw_1407 (r_m0_0).o rfl ⟨Nat.le_of_ble_eq_true rfl, Nat.le_of_ble_eq_true rfl⟩ rfl (Nat.le_of_ble_eq_true rfl) dX9_mixSection_34 ⟨Nat.zero_le _, Nat.zero_le _⟩ rfl ?_
  obtain ⟨q7, e7, h⟩ := bind_some h
  refine V_cVv hC [.int q6] (c_X9_mix (l := l) hC.2.2.2.2.2.2.2 e7) kd_X9_mix kv_X9_mix gw_1743 (r_m0_0).o rfl ⟨Nat.le_of_ble_eq_true rfl, Nat.le_of_ble_eq_true rfl⟩ rfl (Nat.le_of_ble_eq_true rfl) dX9_mixSection_37 ⟨Nat.zero_le _, Nat.zero_le _⟩ rfl ?_
  refine V_iconst hC (0 : Int32) dX9_mixSection_40 (by decide) ?_
  refine V_istore_n hC ([(2, .int (0 : Int32)), (0, .ref (adr G 7 0)), (1, .int x1)]) dX9_mixSection_41 rfl (by decide) rfl ?_
  refine V_sub [1, 2, 0] rfl ?_
  exact l_X9_mixSection_42 hC hr hlk FU h
theorem b_X9_mixCheck_57 {Mf : Mem} {k17 : Int32 → Mem → Option Mem} {x1 : Int32} {x2 : Int32} {M : Mem} (hC : Cx p s m args c cX9_mixCheck RX9 3 G) (hr : meth.sig.returnType = none) (hlk : meth.locks = false) (hk17 : ∀ (x2 : Int32) (M : Mem), k17 x2 M = some Mf → V p l e (rmk 2) s m args below meth c 3 G 0 0 (MQ below (gQ G none Mf) args s 0 0 (gA G)) 17 [(0, .ref (adr G 7 0)), (1, .int x1), (2, .int x2)] [] M) (h : B_X9_mixCheck_57 k17 x1 x2 M = some Mf) : V p l e (rmk 2) s m args below meth c 3 G 0 0 (MQ below (gQ G none Mf) args s 0 0 (gA G)) 57 [(0, .ref (adr G 7 0)), (1, .int x1), (2, .int x2)] [] M := by
  refine V_iinc hC (x2 + 1) ([(2, .int (x2 + 1)), (0, .ref (adr G 7 0)), (1, .int x1)]) dX9_mixCheck_57 2 rfl rfl (by decide) rfl ?_
  refine V_goto hC 17 dX9_mixCheck_60 (by decide) ?_
  refine V_sub [1, 2, 0] rfl ?_
  exact hk17 _ _ h
theorem l_X9_mixCheck_17 {Mf : Mem} {x1 : Int32} (hC : Cx p s m args c cX9_mixCheck RX9 3 G) (hr : meth.sig.returnType = none) (hlk : meth.locks = false) : ∀ (n : Nat) {x2 : Int32} {M : Mem} (h : L_X9_mixCheck_17 x1 n x2 M = some Mf), V p l e (rmk 2) s m args below meth c 3 G 0 0 (MQ below (gQ G none Mf) args s 0 0 (gA G)) 17 [(0, .ref (adr G 7 0)), (1, .int x1), (2, .int x2)] [] M := by
  intro n
  induction n with
  | zero => intro x2 M h; cases h
  | succ n ih =>
    intro x2 M h
    have hk17 : ∀ (x2 : Int32) (M : Mem), L_X9_mixCheck_17 x1 n x2 M = some Mf → V p l e (rmk 2) s m args below meth c 3 G 0 0 (MQ below (gQ G none Mf) args s 0 0 (gA G)) 17 [(0, .ref (adr G 7 0)), (1, .int x1), (2, .int x2)] [] M := fun _ _ z => ih z
    refine V_iload_n hC dX9_mixCheck_17 rfl 2 rfl ?_
    refine V_bipush hC (20 : Int32) dX9_mixCheck_18 (by decide) ?_
    refine V_icmp_ge hC 63 dX9_mixCheck_20 (by decide) (fun c4 => ?_) (fun c4 => ?_)
    · have h := ite_t c4 h
      obtain rfl := Option.some.inj h
      exact V_vret hC hr hlk dX9_mixCheck_63
    · have h := ite_f c4 h
      refine V_aload_n hC dX9_mixCheck_23 rfl 0 rfl ?_
      refine V_iload_n hC dX9_mixCheck_24 rfl 2 rfl ?_
      obtain ⟨q5, e5, h⟩ := bind_some h
      refine V_cVr hC [.int x2] (c_X9_isSection (l := l) hC.2.2.2.2.2.2.2 e5) kd_X9_isSection kv_X9_isSection gw_1326 (r_m0_0).o rfl ⟨Nat.le_of_ble_eq_true rfl, Nat.le_of_ble_eq_true rfl⟩ rfl (Nat.le_of_ble_eq_true rfl) dX9_mixCheck_25 ⟨Nat.zero_le _, Nat.zero_le _⟩ rfl ?_
      refine V_if_eq hC 57 dX9_mixCheck_28 (by decide) (fun c6 => ?_) (fun c6 => ?_)
      · have h := ite_t c6 h
        exact b_X9_mixCheck_57 hC hr hlk hk17 h
      · have h := ite_f c6 h
        refine V_aload_n hC dX9_mixCheck_31 rfl 0 rfl ?_
        refine V_iload_n hC dX9_mixCheck_32 rfl 2 rfl ?_
        refine V_aload_n hC dX9_mixCheck_33 rfl 0 rfl ?_
        refine V_iload_n hC dX9_mixCheck_34 rfl 1 rfl ?_
        refine V_iconst hC (2 : Int32) dX9_mixCheck_35 (by decide) ?_
        obtain ⟨q7, e7, h⟩ := bind_some h
        refine V_cVr hC [.int x1, .int (2 : Int32)] (c_X9_get (l := l) hC.2.2.2.2.2.2.2 e7) kd_X9_get kv_X9_get gw_1345 (r_m0_0).o rfl ⟨Nat.le_of_ble_eq_true rfl, Nat.le_of_ble_eq_true rfl⟩ rfl (Nat.le_of_ble_eq_true rfl) dX9_mixCheck_36 ⟨Nat.zero_le _, Nat.zero_le _⟩ rfl ?_
        obtain ⟨q8, e8, h⟩ := bind_some h
        refine V_cVr hC [.int x2, .int q7] (c_X9_isIn (l := l) hC.2.2.2.2.2.2.2 e8) kd_X9_isIn kv_X9_isIn gw_1352 (r_m0_0).o rfl ⟨Nat.le_of_ble_eq_true rfl, Nat.le_of_ble_eq_true rfl⟩ rfl (Nat.le_of_ble_eq_true rfl) dX9_mixCheck_39 ⟨Nat.zero_le _, Nat.zero_le _⟩ rfl ?_
        refine V_if_eq hC 57 dX9_mixCheck_42 (by decide) (fun c9 => ?_) (fun c9 => ?_)
        · have h := ite_t c9 h
          exact b_X9_mixCheck_57 hC hr hlk hk17 h
        · have h := ite_f c9 h
          refine V_aload_n hC dX9_mixCheck_45 rfl 0 rfl ?_
          refine V_iload_n hC dX9_mixCheck_46 rfl 1 rfl ?_
          refine V_iload_n hC dX9_mixCheck_47 rfl 2 rfl ?_
          refine V_iconst hC (0 : Int32) dX9_mixCheck_48 (by decide) ?_
          refine V_cSr hC [.int x1, .int x2, .int (0 : Int32)] (c_X9_copy (l := l) hC.2.2.2.2.2.2.2 rfl) kd_X9_copy gw_1503 gw_1502 ⟨Nat.le_of_ble_eq_true rfl, Nat.le_of_ble_eq_true rfl⟩ rfl (Nat.le_of_ble_eq_true rfl) dX9_mixCheck_49 ⟨Nat.zero_le _, Nat.zero_le _⟩ rfl ?_
          refine V_bipush hC (12 : Int32) dX9_mixCheck_52 (by decide) ?_
          obtain ⟨q11, e11, h⟩ := bind_some h
          refine V_cVv hC [.int (f_X9_copy x1 x2 (0 : Int32)), .int (12 : Int32)] (c_X9_mixAll (l := l) hC.2.2.2.2.2.2.2 e11) kd_X9_mixAll kv_X9_mixAll gw_1752 (r_m0_0).o rfl ⟨Nat.le_of_ble_eq_true rfl, Nat.le_of_ble_eq_true rfl⟩ rfl (Nat.le_of_ble_eq_true rfl) dX9_mixCheck_54 ⟨Nat.zero_le _, Nat.zero_le _⟩ rfl ?_
          exact b_X9_mixCheck_57 hC hr hlk hk17 h
theorem c_X9_mixCheck {l : Launch} {G : Geo} {x1 : Int32} {Mf : Mem} {M : Mem} (hG : gD G) (h : f_X9_mixCheck x1 M = some Mf) : Met l yX9_mixCheck (.code yX9_mixCheck cX9_mixCheck 3 none :: GL) (rmk 2) (gP G [.ref (adr G 7 0), .int x1] M) (gQ G none Mf) 0 0 (gA G) := by
  refine Met_of (own := RX9) (L := [(0, .ref (adr G 7 0)), (1, .int x1)]) hG (by decide +kernel) rfl (Nat.le_of_ble_eq_true rfl) rfl ?_
  intro p e s m args below meth c hC hr hlk
  refine V_aload_n hC dX9_mixCheck_0 rfl 0 rfl ?_
  refine V_iload_n hC dX9_mixCheck_1 rfl 1 rfl ?_
  obtain ⟨q1, e1, h⟩ := bind_some h
  refine V_cVv hC [.int x1] (c_X9_mix (l := l) hC.2.2.2.2.2.2.2 e1) kd_X9_mix kv_X9_mix gw_1743 (r_m0_0).o rfl ⟨Nat.le_of_ble_eq_true rfl, Nat.le_of_ble_eq_true rfl⟩ rfl (Nat.le_of_ble_eq_true rfl) dX9_mixCheck_2 ⟨Nat.zero_le _, Nat.zero_le _⟩ rfl ?_
  refine V_aload_n hC dX9_mixCheck_5 rfl 0 rfl ?_
  refine V_iload_n hC dX9_mixCheck_6 rfl 1 rfl ?_
  refine V_iconst hC (1 : Int32) dX9_mixCheck_7 (by decide) ?_
  refine V_cSr hC [.int x1, .int (1 : Int32)] (c_X9_check (l := l) hC.2.2.2.2.2.2.2 rfl) kd_X9_check gw_1350 gw_1349 ⟨Nat.le_of_ble_eq_true rfl, Nat.le_of_ble_eq_true rfl⟩ rfl (Nat.le_of_ble_eq_true rfl) dX9_mixCheck_8 ⟨Nat.zero_le _, Nat.zero_le _⟩ rfl ?_
  refine V_iconst hC (5 : Int32) dX9_mixCheck_11 (by decide) ?_
  obtain ⟨q3, e3, h⟩ := bind_some h
  refine V_cVv hC [.int (f_X9_check x1 (1 : Int32)), .int (5 : Int32)] (c_X9_mixAll (l := l) hC.2.2.2.2.2.2.2 e3) kd_X9_mixAll kv_X9_mixAll gw_1752 (r_m0_0).o rfl ⟨Nat.le_of_ble_eq_true rfl, Nat.le_of_ble_eq_true rfl⟩ rfl (Nat.le_of_ble_eq_true rfl) dX9_mixCheck_12 ⟨Nat.zero_le _, Nat.zero_le _⟩ rfl ?_
  refine V_iconst hC (0 : Int32) dX9_mixCheck_15 (by decide) ?_
  refine V_istore_n hC ([(2, .int (0 : Int32)), (0, .ref (adr G 7 0)), (1, .int x1)]) dX9_mixCheck_16 rfl (by decide) rfl ?_
  refine V_sub [1, 2, 0] rfl ?_
  exact l_X9_mixCheck_17 hC hr hlk FU h
theorem b_X9_digest_70 {rv : Int64} {Mf : Mem} {k51 : Int32 → Mem → Option (Int64 × Mem)} {x1 : Int32} {M : Mem} (hC : Cx p s m args c cX9_digest RX9 2 G) (hr : meth.sig.returnType = some .long) (hlk : meth.locks = false) (hk51 : ∀ (x1 : Int32) (M : Mem), k51 x1 M = some (rv, Mf) → V p l e (rmk 3) s m args below meth c 2 G 0 0 (MQ below (gQ G (some (.long rv)) Mf) args s 0 0 (gA G)) 51 [(0, .ref (adr G 7 0)), (1, .int x1)] [] M) (h : B_X9_digest_70 k51 x1 M = some (rv, Mf)) : V p l e (rmk 3) s m args below meth c 2 G 0 0 (MQ below (gQ G (some (.long rv)) Mf) args s 0 0 (gA G)) 70 [(0, .ref (adr G 7 0)), (1, .int x1)] [] M := by
  refine V_iinc hC (x1 + 1) ([(1, .int (x1 + 1)), (0, .ref (adr G 7 0))]) dX9_digest_70 1 rfl rfl (by decide) rfl ?_
  refine V_goto hC 51 dX9_digest_73 (by decide) ?_
  refine V_sub [1, 0] rfl ?_
  exact hk51 _ _ h
theorem l_X9_digest_51 {rv : Int64} {Mf : Mem} (hC : Cx p s m args c cX9_digest RX9 2 G) (hr : meth.sig.returnType = some .long) (hlk : meth.locks = false) : ∀ (n : Nat) {x1 : Int32} {M : Mem} (h : L_X9_digest_51 n x1 M = some (rv, Mf)), V p l e (rmk 3) s m args below meth c 2 G 0 0 (MQ below (gQ G (some (.long rv)) Mf) args s 0 0 (gA G)) 51 [(0, .ref (adr G 7 0)), (1, .int x1)] [] M := by
  intro n
  induction n with
  | zero => intro x1 M h; cases h
  | succ n ih =>
    intro x1 M h
    have hk51 : ∀ (x1 : Int32) (M : Mem), L_X9_digest_51 n x1 M = some (rv, Mf) → V p l e (rmk 3) s m args below meth c 2 G 0 0 (MQ below (gQ G (some (.long rv)) Mf) args s 0 0 (gA G)) 51 [(0, .ref (adr G 7 0)), (1, .int x1)] [] M := fun _ _ z => ih z
    refine V_iload_n hC dX9_digest_51 rfl 1 rfl ?_
    refine V_bipush hC (10 : Int32) dX9_digest_52 (by decide) ?_
    refine V_icmp_ge hC 76 dX9_digest_54 (by decide) (fun c3 => ?_) (fun c3 => ?_)
    · have h := ite_t c3 h
      refine V_aload_n hC dX9_digest_76 rfl 0 rfl ?_
      refine V_sipush hC (2662 : Int32) dX9_digest_77 (by decide) ?_
      refine V_iconst hC (1 : Int32) dX9_digest_80 (by decide) ?_
      refine V_iconst hC (4 : Int32) dX9_digest_81 (by decide) ?_
      refine V_aload_n hC dX9_digest_82 rfl 0 rfl ?_
      obtain ⟨q4, e4, h⟩ := bind_some h
      refine V_cVr hC [] (c_X9_waits (l := l) hC.2.2.2.2.2.2.2 e4) kd_X9_waits kv_X9_waits gw_1356 (r_m0_0).o rfl ⟨Nat.le_of_ble_eq_true rfl, Nat.le_of_ble_eq_true rfl⟩ rfl (Nat.le_of_ble_eq_true rfl) dX9_digest_83 ⟨Nat.zero_le _, Nat.zero_le _⟩ rfl ?_
      refine V_imul hC dX9_digest_86 ?_
      refine V_iadd hC dX9_digest_87 ?_
      obtain ⟨q5, e5, h⟩ := bind_some h
      refine V_cVv hC [.int (2662 : Int32), .int ((1 : Int32) + ((4 : Int32) * q4))] (c_X9_mixAll (l := l) hC.2.2.2.2.2.2.2 e5) kd_X9_mixAll kv_X9_mixAll gw_1752 (r_m0_0).o rfl ⟨Nat.le_of_ble_eq_true rfl, Nat.le_of_ble_eq_true rfl⟩ rfl (Nat.le_of_ble_eq_true rfl) dX9_digest_88 ⟨Nat.zero_le _, Nat.zero_le _⟩ rfl ?_
      refine V_aload_n hC dX9_digest_91 rfl 0 rfl ?_
      refine V_sipush hC (2695 : Int32) dX9_digest_92 (by decide) ?_
      refine V_bipush hC (6 : Int32) dX9_digest_95 (by decide) ?_
      obtain ⟨q6, e6, h⟩ := bind_some h
      refine V_cVv hC [.int (2695 : Int32), .int (6 : Int32)] (c_X9_mixAll (l := l) hC.2.2.2.2.2.2.2 e6) kd_X9_mixAll kv_X9_mixAll gw_1752 (r_m0_0).o rfl ⟨Nat.le_of_ble_eq_true rfl, Nat.le_of_ble_eq_true rfl⟩ rfl (Nat.le_of_ble_eq_true rfl) dX9_digest_97 ⟨Nat.zero_le _, Nat.zero_le _⟩ rfl ?_
      refine V_aload_n hC dX9_digest_100 rfl 0 rfl ?_
      refine V_sipush hC (2701 : Int32) dX9_digest_101 (by decide) ?_
      refine V_iconst hC (1 : Int32) dX9_digest_104 (by decide) ?_
      refine V_bipush hC (6 : Int32) dX9_digest_105 (by decide) ?_
      refine V_aload_n hC dX9_digest_107 rfl 0 rfl ?_
      refine V_getR hC (r_m0_0) fw_X9_7 dX9_digest_108 ?_
      refine V_sipush hC (2701 : Int32) dX9_digest_111 (by decide) ?_
      refine V_iald hC (a_m1) (by decide) dX9_digest_114 ?_
      refine V_imul hC dX9_digest_115 ?_
      refine V_iadd hC dX9_digest_116 ?_
      obtain ⟨q7, e7, h⟩ := bind_some h
      refine V_cVv hC [.int (2701 : Int32), .int ((1 : Int32) + ((6 : Int32) * (q6.1 7 1 (cl (2701 : Int32)))))] (c_X9_mixAll (l := l) hC.2.2.2.2.2.2.2 e7) kd_X9_mixAll kv_X9_mixAll gw_1752 (r_m0_0).o rfl ⟨Nat.le_of_ble_eq_true rfl, Nat.le_of_ble_eq_true rfl⟩ rfl (Nat.le_of_ble_eq_true rfl) dX9_digest_117 ⟨Nat.zero_le _, Nat.zero_le _⟩ rfl ?_
      refine V_aload_n hC dX9_digest_120 rfl 0 rfl ?_
      refine V_aload_n hC dX9_digest_121 rfl 0 rfl ?_
      refine V_getI hC (f_m0_6) fw_X9_251 dX9_digest_122 ?_
      obtain ⟨q8, e8, h⟩ := bind_some h
      refine V_cVv hC [.int (q7.1 7 0 6)] (c_X9_mix (l := l) hC.2.2.2.2.2.2.2 e8) kd_X9_mix kv_X9_mix gw_1743 (r_m0_0).o rfl ⟨Nat.le_of_ble_eq_true rfl, Nat.le_of_ble_eq_true rfl⟩ rfl (Nat.le_of_ble_eq_true rfl) dX9_digest_125 ⟨Nat.zero_le _, Nat.zero_le _⟩ rfl ?_
      refine V_aload_n hC dX9_digest_128 rfl 0 rfl ?_
      refine V_aload_n hC dX9_digest_129 rfl 0 rfl ?_
      refine V_getI hC (f_m0_3) fw_X9_51 dX9_digest_130 ?_
      obtain ⟨q9, e9, h⟩ := bind_some h
      refine V_cVv hC [.int (q8.1 7 0 3)] (c_X9_mix (l := l) hC.2.2.2.2.2.2.2 e9) kd_X9_mix kv_X9_mix gw_1743 (r_m0_0).o rfl ⟨Nat.le_of_ble_eq_true rfl, Nat.le_of_ble_eq_true rfl⟩ rfl (Nat.le_of_ble_eq_true rfl) dX9_digest_133 ⟨Nat.zero_le _, Nat.zero_le _⟩ rfl ?_
      refine V_aload_n hC dX9_digest_136 rfl 0 rfl ?_
      refine V_getL hC fw_X9_293 dX9_digest_137 ?_
      obtain ⟨rfl, rfl⟩ := Prod.mk.inj (Option.some.inj h)
      exact V_lret hC hr hlk dX9_digest_140
    · have h := ite_f c3 h
      refine V_aload_n hC dX9_digest_57 rfl 0 rfl ?_
      refine V_iload_n hC dX9_digest_58 rfl 1 rfl ?_
      obtain ⟨q10, e10, h⟩ := bind_some h
      refine V_cVr hC [.int x1] (c_X9_isCheck (l := l) hC.2.2.2.2.2.2.2 e10) kd_X9_isCheck kv_X9_isCheck gw_1341 (r_m0_0).o rfl ⟨Nat.le_of_ble_eq_true rfl, Nat.le_of_ble_eq_true rfl⟩ rfl (Nat.le_of_ble_eq_true rfl) dX9_digest_59 ⟨Nat.zero_le _, Nat.zero_le _⟩ rfl ?_
      refine V_if_eq hC 70 dX9_digest_62 (by decide) (fun c11 => ?_) (fun c11 => ?_)
      · have h := ite_t c11 h
        exact b_X9_digest_70 hC hr hlk hk51 h
      · have h := ite_f c11 h
        refine V_aload_n hC dX9_digest_65 rfl 0 rfl ?_
        refine V_iload_n hC dX9_digest_66 rfl 1 rfl ?_
        obtain ⟨q12, e12, h⟩ := bind_some h
        refine V_cVv hC [.int x1] (c_X9_mixCheck (l := l) hC.2.2.2.2.2.2.2 e12) kd_X9_mixCheck kv_X9_mixCheck gw_1756 (r_m0_0).o rfl ⟨Nat.le_of_ble_eq_true rfl, Nat.le_of_ble_eq_true rfl⟩ rfl (Nat.le_of_ble_eq_true rfl) dX9_digest_67 ⟨Nat.zero_le _, Nat.zero_le _⟩ rfl ?_
        exact b_X9_digest_70 hC hr hlk hk51 h
theorem b_X9_digest_43 {rv : Int64} {Mf : Mem} {k24 : Int32 → Mem → Option (Int64 × Mem)} {x1 : Int32} {M : Mem} (hC : Cx p s m args c cX9_digest RX9 2 G) (hr : meth.sig.returnType = some .long) (hlk : meth.locks = false) (hk24 : ∀ (x1 : Int32) (M : Mem), k24 x1 M = some (rv, Mf) → V p l e (rmk 3) s m args below meth c 2 G 0 0 (MQ below (gQ G (some (.long rv)) Mf) args s 0 0 (gA G)) 24 [(0, .ref (adr G 7 0)), (1, .int x1)] [] M) (h : B_X9_digest_43 k24 x1 M = some (rv, Mf)) : V p l e (rmk 3) s m args below meth c 2 G 0 0 (MQ below (gQ G (some (.long rv)) Mf) args s 0 0 (gA G)) 43 [(0, .ref (adr G 7 0)), (1, .int x1)] [] M := by
  refine V_iinc hC (x1 + 1) ([(1, .int (x1 + 1)), (0, .ref (adr G 7 0))]) dX9_digest_43 1 rfl rfl (by decide) rfl ?_
  refine V_goto hC 24 dX9_digest_46 (by decide) ?_
  refine V_sub [1, 0] rfl ?_
  exact hk24 _ _ h
theorem l_X9_digest_24 {rv : Int64} {Mf : Mem} (hC : Cx p s m args c cX9_digest RX9 2 G) (hr : meth.sig.returnType = some .long) (hlk : meth.locks = false) : ∀ (n : Nat) {x1 : Int32} {M : Mem} (h : L_X9_digest_24 n x1 M = some (rv, Mf)), V p l e (rmk 3) s m args below meth c 2 G 0 0 (MQ below (gQ G (some (.long rv)) Mf) args s 0 0 (gA G)) 24 [(0, .ref (adr G 7 0)), (1, .int x1)] [] M := by
  intro n
  induction n with
  | zero => intro x1 M h; cases h
  | succ n ih =>
    intro x1 M h
    have hk24 : ∀ (x1 : Int32) (M : Mem), L_X9_digest_24 n x1 M = some (rv, Mf) → V p l e (rmk 3) s m args below meth c 2 G 0 0 (MQ below (gQ G (some (.long rv)) Mf) args s 0 0 (gA G)) 24 [(0, .ref (adr G 7 0)), (1, .int x1)] [] M := fun _ _ z => ih z
    refine V_iload_n hC dX9_digest_24 rfl 1 rfl ?_
    refine V_bipush hC (20 : Int32) dX9_digest_25 (by decide) ?_
    refine V_icmp_ge hC 49 dX9_digest_27 (by decide) (fun c2 => ?_) (fun c2 => ?_)
    · have h := ite_t c2 h
      refine V_iconst hC (0 : Int32) dX9_digest_49 (by decide) ?_
      refine V_istore_n hC ([(1, .int (0 : Int32)), (0, .ref (adr G 7 0))]) dX9_digest_50 rfl (by decide) rfl ?_
      refine V_sub [1, 0] rfl ?_
      exact l_X9_digest_51 hC hr hlk FU h
    · have h := ite_f c2 h
      refine V_aload_n hC dX9_digest_30 rfl 0 rfl ?_
      refine V_iload_n hC dX9_digest_31 rfl 1 rfl ?_
      obtain ⟨q13, e13, h⟩ := bind_some h
      refine V_cVr hC [.int x1] (c_X9_isSection (l := l) hC.2.2.2.2.2.2.2 e13) kd_X9_isSection kv_X9_isSection gw_1326 (r_m0_0).o rfl ⟨Nat.le_of_ble_eq_true rfl, Nat.le_of_ble_eq_true rfl⟩ rfl (Nat.le_of_ble_eq_true rfl) dX9_digest_32 ⟨Nat.zero_le _, Nat.zero_le _⟩ rfl ?_
      refine V_if_eq hC 43 dX9_digest_35 (by decide) (fun c14 => ?_) (fun c14 => ?_)
      · have h := ite_t c14 h
        exact b_X9_digest_43 hC hr hlk hk24 h
      · have h := ite_f c14 h
        refine V_aload_n hC dX9_digest_38 rfl 0 rfl ?_
        refine V_iload_n hC dX9_digest_39 rfl 1 rfl ?_
        obtain ⟨q15, e15, h⟩ := bind_some h
        refine V_cVv hC [.int x1] (c_X9_mixSection (l := l) hC.2.2.2.2.2.2.2 e15) kd_X9_mixSection kv_X9_mixSection gw_1748 (r_m0_0).o rfl ⟨Nat.le_of_ble_eq_true rfl, Nat.le_of_ble_eq_true rfl⟩ rfl (Nat.le_of_ble_eq_true rfl) dX9_digest_40 ⟨Nat.zero_le _, Nat.zero_le _⟩ rfl ?_
        exact b_X9_digest_43 hC hr hlk hk24 h
theorem c_X9_digest {l : Launch} {G : Geo} {rv : Int64} {Mf : Mem} {M : Mem} (hG : gD G) (h : f_X9_digest M = some (rv, Mf)) : Met l yX9_digest (.code yX9_digest cX9_digest 2 (some .long) :: GL) (rmk 3) (gP G [.ref (adr G 7 0)] M) (gQ G (some (.long rv)) Mf) 0 0 (gA G) := by
  refine Met_of (own := RX9) (L := [(0, .ref (adr G 7 0))]) hG (by decide +kernel) rfl (Nat.le_of_ble_eq_true rfl) rfl ?_
  intro p e s m args below meth c hC hr hlk
  refine V_aload_n hC dX9_digest_0 rfl 0 rfl ?_
  refine V_iconst hC (0 : Int32) dX9_digest_1 (by decide) ?_
  refine V_putI hC (f_m0_4) fw_X9_47 flp_9_4 dX9_digest_2 ?_
  refine V_aload_n hC dX9_digest_5 rfl 0 rfl ?_
  refine V_ldc2 hC (2857 : Int64) dX9_digest_6 gw_1742 ?_
  refine V_putL hC fw_X9_293 dX9_digest_9 ?_
  refine V_aload_n hC dX9_digest_12 rfl 0 rfl ?_
  refine V_aload_n hC dX9_digest_13 rfl 0 rfl ?_
  refine V_getR hC (r_m0_0) fw_X9_7 dX9_digest_14 ?_
  refine V_iconst hC (0 : Int32) dX9_digest_17 (by decide) ?_
  refine V_iald hC (a_m1) (by decide) dX9_digest_18 ?_
  obtain ⟨q1, e1, h⟩ := bind_some h
  refine V_cVv hC [.int ((wrL (wr M 7 0 4 (0 : Int32)) 7 (2857 : Int64)).1 7 1 (cl (0 : Int32)))] (c_X9_mix (l := l) hC.2.2.2.2.2.2.2 e1) kd_X9_mix kv_X9_mix gw_1743 (r_m0_0).o rfl ⟨Nat.le_of_ble_eq_true rfl, Nat.le_of_ble_eq_true rfl⟩ rfl (Nat.le_of_ble_eq_true rfl) dX9_digest_19 ⟨Nat.zero_le _, Nat.zero_le _⟩ rfl ?_
  refine V_iconst hC (0 : Int32) dX9_digest_22 (by decide) ?_
  refine V_istore_n hC ([(1, .int (0 : Int32)), (0, .ref (adr G 7 0))]) dX9_digest_23 rfl (by decide) rfl ?_
  refine V_sub [1, 0] rfl ?_
  exact l_X9_digest_24 hC hr hlk FU h
end
