section
variable {p : Program} {l : Launch} {e : Env} {s : State} {m : MethodId} {args : Array Value} {below : List Frame} {meth : Method} {c : Code} {G : Geo}
theorem b_X9_below_42 {rv : Int32} {k4 : Int32 → Int32 → Option Int32} {x1 : Int32} {x3 : Int32} {z0 : Int32} {z1 : Int32} {M : Mem} (hC : Cx p s m args c cX9_below RX9 4 G) (hr : meth.sig.returnType = some .int) (hlk : meth.locks = false) (hk4 : ∀ (x2 : Int32) (x3 : Int32), k4 x2 x3 = some rv → V p l e (rmk 1) s m args below meth c 4 G 0 0 (MQ below (gQ G (some (.int rv)) M) args s 0 0 (gA G)) 4 [(0, .ref (adr G 7 0)), (1, .int x1), (2, .int x2), (3, .int x3)] [] M) (h : B_X9_below_42 k4 x1 x3 z0 z1 M = some rv) : V p l e (rmk 1) s m args below meth c 4 G 0 0 (MQ below (gQ G (some (.int rv)) M) args s 0 0 (gA G)) 42 [(0, .ref (adr G 7 0)), (1, .int x1), (3, .int x3)] [.int z0, .int z1] M := by
  refine V_iadd hC dX9_below_42 ?_
  refine V_istore_n hC ([(2, .int (z1 + z0)), (0, .ref (adr G 7 0)), (1, .int x1), (3, .int x3)]) dX9_below_43 rfl (by decide) rfl ?_
  refine V_iinc hC (x3 + 1) ([(3, .int (x3 + 1)), (2, .int (z1 + z0)), (0, .ref (adr G 7 0)), (1, .int x1)]) dX9_below_44 3 rfl rfl (by decide) rfl ?_
  refine V_goto hC 4 dX9_below_47 (by decide) ?_
  refine V_sub [2, 3, 1, 0] rfl ?_
  exact hk4 _ _ h
theorem b_X9_below_41 {rv : Int32} {k4 : Int32 → Int32 → Option Int32} {x1 : Int32} {x3 : Int32} {z0 : Int32} {M : Mem} (hC : Cx p s m args c cX9_below RX9 4 G) (hr : meth.sig.returnType = some .int) (hlk : meth.locks = false) (hk4 : ∀ (x2 : Int32) (x3 : Int32), k4 x2 x3 = some rv → V p l e (rmk 1) s m args below meth c 4 G 0 0 (MQ below (gQ G (some (.int rv)) M) args s 0 0 (gA G)) 4 [(0, .ref (adr G 7 0)), (1, .int x1), (2, .int x2), (3, .int x3)] [] M) (h : B_X9_below_41 k4 x1 x3 z0 M = some rv) : V p l e (rmk 1) s m args below meth c 4 G 0 0 (MQ below (gQ G (some (.int rv)) M) args s 0 0 (gA G)) 41 [(0, .ref (adr G 7 0)), (1, .int x1), (3, .int x3)] [.int z0] M := by
  refine V_iconst hC (0 : Int32) dX9_below_41 (by decide) ?_
  exact b_X9_below_42 hC hr hlk hk4 h
theorem l_X9_below_4 {rv : Int32} {x1 : Int32} {M : Mem} (hC : Cx p s m args c cX9_below RX9 4 G) (hr : meth.sig.returnType = some .int) (hlk : meth.locks = false) : ∀ (n : Nat) {x2 : Int32} {x3 : Int32} (h : L_X9_below_4 x1 M n x2 x3 = some rv), V p l e (rmk 1) s m args below meth c 4 G 0 0 (MQ below (gQ G (some (.int rv)) M) args s 0 0 (gA G)) 4 [(0, .ref (adr G 7 0)), (1, .int x1), (2, .int x2), (3, .int x3)] [] M := by
  intro n
  induction n with
  | zero => intro x2 x3 h; cases h
  | succ n ih =>
    intro x2 x3 h
    have hk4 : ∀ (x2 : Int32) (x3 : Int32), L_X9_below_4 x1 M n x2 x3 = some rv → V p l e (rmk 1) s m args below meth c 4 G 0 0 (MQ below (gQ G (some (.int rv)) M) args s 0 0 (gA G)) 4 [(0, .ref (adr G 7 0)), (1, .int x1), (2, .int x2), (3, .int x3)] [] M := fun _ _ z => ih z
    refine V_iload_n hC dX9_below_4 rfl 3 rfl ?_
    refine V_bipush hC (20 : Int32) dX9_below_5 (by decide) ?_
    refine V_icmp_ge hC 50 dX9_below_7 (by decide) (fun c1 => ?_) (fun c1 => ?_)
    · have h := ite_t c1 h
      refine V_iload_n hC dX9_below_50 rfl 2 rfl ?_
      obtain rfl := Option.some.inj h
      exact V_iret hC hr hlk dX9_below_51
    · have h := ite_f c1 h
      refine V_iload_n hC dX9_below_10 rfl 2 rfl ?_
      refine V_aload_n hC dX9_below_11 rfl 0 rfl ?_
      refine V_getR hC (r_m0_0) fw_X9_7 dX9_below_12 ?_
      refine V_iconst hC (2 : Int32) dX9_below_15 (by decide) ?_
      refine V_iload_n hC dX9_below_16 rfl 3 rfl ?_
      refine V_iadd hC dX9_below_17 ?_
      obtain ⟨c2, h⟩ := ite_some h
      refine V_iald hC (a_m1) c2 dX9_below_18 ?_
      refine V_iconst hC (1 : Int32) dX9_below_19 (by decide) ?_
      refine V_icmp_ne hC 41 dX9_below_20 (by decide) (fun c3 => ?_) (fun c3 => ?_)
      · have h := ite_f c3 h
        refine V_sub [0, 1, 3] rfl ?_
        exact b_X9_below_41 hC hr hlk hk4 h
      · have h := ite_t c3 h
        refine V_iload_n hC dX9_below_23 rfl 3 rfl ?_
        refine V_iload_n hC dX9_below_24 rfl 1 rfl ?_
        refine V_icmp_eq hC 41 dX9_below_25 (by decide) (fun c4 => ?_) (fun c4 => ?_)
        · have h := ite_t c4 h
          refine V_sub [0, 1, 3] rfl ?_
          exact b_X9_below_41 hC hr hlk hk4 h
        · have h := ite_f c4 h
          refine V_aload_n hC dX9_below_28 rfl 0 rfl ?_
          refine V_iload_n hC dX9_below_29 rfl 3 rfl ?_
          refine V_iload_n hC dX9_below_30 rfl 1 rfl ?_
          obtain ⟨q5, e5, h⟩ := bind_some h
          refine V_cVr hC [.int x3, .int x1] (c_X9_isIn (l := l) hC.2.2.2.2.2.2.2 e5) kd_X9_isIn kv_X9_isIn gw_1352 (r_m0_0).o rfl ⟨Nat.le_of_ble_eq_true rfl, Nat.le_of_ble_eq_true rfl⟩ rfl (Nat.le_of_ble_eq_true rfl) dX9_below_31 ⟨Nat.zero_le _, Nat.zero_le _⟩ rfl ?_
          refine V_if_eq hC 41 dX9_below_34 (by decide) (fun c6 => ?_) (fun c6 => ?_)
          · have h := ite_t c6 h
            refine V_sub [0, 1, 3] rfl ?_
            exact b_X9_below_41 hC hr hlk hk4 h
          · have h := ite_f c6 h
            refine V_iconst hC (1 : Int32) dX9_below_37 (by decide) ?_
            refine V_goto hC 42 dX9_below_38 (by decide) ?_
            refine V_sub [0, 1, 3] rfl ?_
            exact b_X9_below_42 hC hr hlk hk4 h
theorem c_X9_below {l : Launch} {G : Geo} {x1 : Int32} {rv : Int32} {M : Mem} (hG : gD G) (h : f_X9_below x1 M = some rv) : Met l yX9_below (.code yX9_below cX9_below 4 (some .int) :: GL) (rmk 1) (gP G [.ref (adr G 7 0), .int x1] M) (gQ G (some (.int rv)) M) 0 0 (gA G) := by
  refine Met_of (own := RX9) (L := [(0, .ref (adr G 7 0)), (1, .int x1)]) hG (by decide +kernel) rfl (Nat.le_of_ble_eq_true rfl) rfl ?_
  intro p e s m args below meth c hC hr hlk
  refine V_iconst hC (0 : Int32) dX9_below_0 (by decide) ?_
  refine V_istore_n hC ([(2, .int (0 : Int32)), (0, .ref (adr G 7 0)), (1, .int x1)]) dX9_below_1 rfl (by decide) rfl ?_
  refine V_iconst hC (0 : Int32) dX9_below_2 (by decide) ?_
  refine V_istore_n hC ([(3, .int (0 : Int32)), (2, .int (0 : Int32)), (0, .ref (adr G 7 0)), (1, .int x1)]) dX9_below_3 rfl (by decide) rfl ?_
  refine V_sub [2, 3, 1, 0] rfl ?_
  exact l_X9_below_4 hC hr hlk FU h
theorem c_X9_check {l : Launch} {G : Geo} {x0 : Int32} {x1 : Int32} {rv : Int32} {M : Mem} (hG : gD G) (h : f_X9_check x0 x1 = rv) : Met l yX9_check (.code yX9_check cX9_check 2 (some .int) :: GL) (rmk 0) (gP G [.int x0, .int x1] M) (gQ G (some (.int rv)) M) 0 0 (gA G) := by
  refine Met_of (own := RX9) (L := [(0, .int x0), (1, .int x1)]) hG (by decide +kernel) rfl (Nat.le_of_ble_eq_true rfl) rfl ?_
  intro p e s m args below meth c hC hr hlk
  refine V_sipush hC (202 : Int32) dX9_check_0 (by decide) ?_
  refine V_bipush hC (6 : Int32) dX9_check_3 (by decide) ?_
  refine V_iload_n hC dX9_check_5 rfl 0 rfl ?_
  refine V_imul hC dX9_check_6 ?_
  refine V_iadd hC dX9_check_7 ?_
  refine V_iload_n hC dX9_check_8 rfl 1 rfl ?_
  refine V_iadd hC dX9_check_9 ?_
  obtain rfl := id h
  exact V_iret hC hr hlk dX9_check_10
theorem c_X9_get {l : Launch} {G : Geo} {x1 : Int32} {x2 : Int32} {rv : Int32} {M : Mem} (hG : gD G) (h : f_X9_get x1 x2 M = some rv) : Met l yX9_get (.code yX9_get cX9_get 3 (some .int) :: GL) (rmk 1) (gP G [.ref (adr G 7 0), .int x1, .int x2] M) (gQ G (some (.int rv)) M) 0 0 (gA G) := by
  refine Met_of (own := RX9) (L := [(0, .ref (adr G 7 0)), (1, .int x1), (2, .int x2)]) hG (by decide +kernel) rfl (Nat.le_of_ble_eq_true rfl) rfl ?_
  intro p e s m args below meth c hC hr hlk
  refine V_aload_n hC dX9_get_0 rfl 0 rfl ?_
  refine V_getR hC (r_m0_0) fw_X9_7 dX9_get_1 ?_
  refine V_iload_n hC dX9_get_4 rfl 1 rfl ?_
  refine V_iload_n hC dX9_get_5 rfl 2 rfl ?_
  refine V_cSr hC [.int x1, .int x2] (c_X9_check (l := l) hC.2.2.2.2.2.2.2 rfl) kd_X9_check gw_1350 gw_1349 ⟨Nat.le_of_ble_eq_true rfl, Nat.le_of_ble_eq_true rfl⟩ rfl (Nat.le_of_ble_eq_true rfl) dX9_get_6 ⟨Nat.zero_le _, Nat.zero_le _⟩ rfl ?_
  obtain ⟨c2, h⟩ := ite_some h
  refine V_iald hC (a_m1) c2 dX9_get_9 ?_
  obtain rfl := Option.some.inj h
  exact V_iret hC hr hlk dX9_get_10
theorem c_X9_isCheck {l : Launch} {G : Geo} {x1 : Int32} {rv : Int32} {M : Mem} (hG : gD G) (h : f_X9_isCheck x1 M = some rv) : Met l yX9_isCheck (.code yX9_isCheck cX9_isCheck 2 (some .boolean) :: GL) (rmk 2) (gP G [.ref (adr G 7 0), .int x1] M) (gQ G (some (.int rv)) M) 0 0 (gA G) := by
  refine Met_of (own := RX9) (L := [(0, .ref (adr G 7 0)), (1, .int x1)]) hG (by decide +kernel) rfl (Nat.le_of_ble_eq_true rfl) rfl ?_
  intro p e s m args below meth c hC hr hlk
  refine V_iload_n hC dX9_isCheck_0 rfl 1 rfl ?_
  refine V_iconst hC (0 : Int32) dX9_isCheck_1 (by decide) ?_
  refine V_bipush hC (9 : Int32) dX9_isCheck_2 (by decide) ?_
  refine V_cSr hC [.int x1, .int (0 : Int32), .int (9 : Int32)] (c_X9_within (l := l) hC.2.2.2.2.2.2.2 rfl) kd_X9_within gw_1331 gw_1330 ⟨Nat.le_of_ble_eq_true rfl, Nat.le_of_ble_eq_true rfl⟩ rfl (Nat.le_of_ble_eq_true rfl) dX9_isCheck_4 ⟨Nat.zero_le _, Nat.zero_le _⟩ rfl ?_
  refine V_if_eq hC 24 dX9_isCheck_7 (by decide) (fun c2 => ?_) (fun c2 => ?_)
  · have h := ite_t c2 h
    refine V_iconst hC (0 : Int32) dX9_isCheck_24 (by decide) ?_
    obtain rfl := Option.some.inj h
    exact V_zret hC hr hlk (Or.inl rfl) dX9_isCheck_25
  · have h := ite_f c2 h
    refine V_aload_n hC dX9_isCheck_10 rfl 0 rfl ?_
    refine V_iload_n hC dX9_isCheck_11 rfl 1 rfl ?_
    refine V_iconst hC (0 : Int32) dX9_isCheck_12 (by decide) ?_
    obtain ⟨q3, e3, h⟩ := bind_some h
    refine V_cVr hC [.int x1, .int (0 : Int32)] (c_X9_get (l := l) hC.2.2.2.2.2.2.2 e3) kd_X9_get kv_X9_get gw_1345 (r_m0_0).o rfl ⟨Nat.le_of_ble_eq_true rfl, Nat.le_of_ble_eq_true rfl⟩ rfl (Nat.le_of_ble_eq_true rfl) dX9_isCheck_13 ⟨Nat.zero_le _, Nat.zero_le _⟩ rfl ?_
    refine V_iconst hC (1 : Int32) dX9_isCheck_16 (by decide) ?_
    refine V_icmp_ne hC 24 dX9_isCheck_17 (by decide) (fun c4 => ?_) (fun c4 => ?_)
    · have h := ite_f c4 h
      refine V_iconst hC (0 : Int32) dX9_isCheck_24 (by decide) ?_
      obtain rfl := Option.some.inj h
      exact V_zret hC hr hlk (Or.inl rfl) dX9_isCheck_25
    · have h := ite_t c4 h
      refine V_iconst hC (1 : Int32) dX9_isCheck_20 (by decide) ?_
      refine V_goto hC 25 dX9_isCheck_21 (by decide) ?_
      obtain rfl := Option.some.inj h
      exact V_zret hC hr hlk (Or.inr rfl) dX9_isCheck_25
theorem c_X9_isHeld {l : Launch} {G : Geo} {x1 : Int32} {rv : Int32} {M : Mem} (hG : gD G) (h : f_X9_isHeld x1 M = some rv) : Met l yX9_isHeld (.code yX9_isHeld cX9_isHeld 2 (some .boolean) :: GL) (rmk 3) (gP G [.ref (adr G 7 0), .int x1] M) (gQ G (some (.int rv)) M) 0 0 (gA G) := by
  refine Met_of (own := RX9) (L := [(0, .ref (adr G 7 0)), (1, .int x1)]) hG (by decide +kernel) rfl (Nat.le_of_ble_eq_true rfl) rfl ?_
  intro p e s m args below meth c hC hr hlk
  refine V_aload_n hC dX9_isHeld_0 rfl 0 rfl ?_
  refine V_iload_n hC dX9_isHeld_1 rfl 1 rfl ?_
  obtain ⟨q1, e1, h⟩ := bind_some h
  refine V_cVr hC [.int x1] (c_X9_isCheck (l := l) hC.2.2.2.2.2.2.2 e1) kd_X9_isCheck kv_X9_isCheck gw_1341 (r_m0_0).o rfl ⟨Nat.le_of_ble_eq_true rfl, Nat.le_of_ble_eq_true rfl⟩ rfl (Nat.le_of_ble_eq_true rfl) dX9_isHeld_2 ⟨Nat.zero_le _, Nat.zero_le _⟩ rfl ?_
  refine V_if_eq hC 22 dX9_isHeld_5 (by decide) (fun c2 => ?_) (fun c2 => ?_)
  · have h := ite_t c2 h
    refine V_iconst hC (0 : Int32) dX9_isHeld_22 (by decide) ?_
    obtain rfl := Option.some.inj h
    exact V_zret hC hr hlk (Or.inl rfl) dX9_isHeld_23
  · have h := ite_f c2 h
    refine V_aload_n hC dX9_isHeld_8 rfl 0 rfl ?_
    refine V_iload_n hC dX9_isHeld_9 rfl 1 rfl ?_
    refine V_iconst hC (4 : Int32) dX9_isHeld_10 (by decide) ?_
    obtain ⟨q3, e3, h⟩ := bind_some h
    refine V_cVr hC [.int x1, .int (4 : Int32)] (c_X9_get (l := l) hC.2.2.2.2.2.2.2 e3) kd_X9_get kv_X9_get gw_1345 (r_m0_0).o rfl ⟨Nat.le_of_ble_eq_true rfl, Nat.le_of_ble_eq_true rfl⟩ rfl (Nat.le_of_ble_eq_true rfl) dX9_isHeld_11 ⟨Nat.zero_le _, Nat.zero_le _⟩ rfl ?_
    refine V_iconst hC (1 : Int32) dX9_isHeld_14 (by decide) ?_
    refine V_icmp_ne hC 22 dX9_isHeld_15 (by decide) (fun c4 => ?_) (fun c4 => ?_)
    · have h := ite_f c4 h
      refine V_iconst hC (0 : Int32) dX9_isHeld_22 (by decide) ?_
      obtain rfl := Option.some.inj h
      exact V_zret hC hr hlk (Or.inl rfl) dX9_isHeld_23
    · have h := ite_t c4 h
      refine V_iconst hC (1 : Int32) dX9_isHeld_18 (by decide) ?_
      refine V_goto hC 23 dX9_isHeld_19 (by decide) ?_
      obtain rfl := Option.some.inj h
      exact V_zret hC hr hlk (Or.inr rfl) dX9_isHeld_23
theorem c_X9_copy {l : Launch} {G : Geo} {x0 : Int32} {x1 : Int32} {x2 : Int32} {rv : Int32} {M : Mem} (hG : gD G) (h : f_X9_copy x0 x1 x2 = rv) : Met l yX9_copy (.code yX9_copy cX9_copy 3 (some .int) :: GL) (rmk 0) (gP G [.int x0, .int x1, .int x2] M) (gQ G (some (.int rv)) M) 0 0 (gA G) := by
  refine Met_of (own := RX9) (L := [(0, .int x0), (1, .int x1), (2, .int x2)]) hG (by decide +kernel) rfl (Nat.le_of_ble_eq_true rfl) rfl ?_
  intro p e s m args below meth c hC hr hlk
  refine V_sipush hC (262 : Int32) dX9_copy_0 (by decide) ?_
  refine V_sipush hC (240 : Int32) dX9_copy_3 (by decide) ?_
  refine V_iload_n hC dX9_copy_6 rfl 0 rfl ?_
  refine V_imul hC dX9_copy_7 ?_
  refine V_iadd hC dX9_copy_8 ?_
  refine V_bipush hC (12 : Int32) dX9_copy_9 (by decide) ?_
  refine V_iload_n hC dX9_copy_11 rfl 1 rfl ?_
  refine V_imul hC dX9_copy_12 ?_
  refine V_iadd hC dX9_copy_13 ?_
  refine V_iconst hC (2 : Int32) dX9_copy_14 (by decide) ?_
  refine V_iload_n hC dX9_copy_15 rfl 2 rfl ?_
  refine V_imul hC dX9_copy_16 ?_
  refine V_iadd hC dX9_copy_17 ?_
  obtain rfl := id h
  exact V_iret hC hr hlk dX9_copy_18
theorem c_X9_wait {l : Launch} {G : Geo} {x0 : Int32} {x1 : Int32} {rv : Int32} {M : Mem} (hG : gD G) (h : f_X9_wait x0 x1 = rv) : Met l yX9_wait (.code yX9_wait cX9_wait 2 (some .int) :: GL) (rmk 0) (gP G [.int x0, .int x1] M) (gQ G (some (.int rv)) M) 0 0 (gA G) := by
  refine Met_of (own := RX9) (L := [(0, .int x0), (1, .int x1)]) hG (by decide +kernel) rfl (Nat.le_of_ble_eq_true rfl) rfl ?_
  intro p e s m args below meth c hC hr hlk
  refine V_sipush hC (2663 : Int32) dX9_wait_0 (by decide) ?_
  refine V_iconst hC (4 : Int32) dX9_wait_3 (by decide) ?_
  refine V_iload_n hC dX9_wait_4 rfl 0 rfl ?_
  refine V_imul hC dX9_wait_5 ?_
  refine V_iadd hC dX9_wait_6 ?_
  refine V_iload_n hC dX9_wait_7 rfl 1 rfl ?_
  refine V_iadd hC dX9_wait_8 ?_
  obtain rfl := id h
  exact V_iret hC hr hlk dX9_wait_9
theorem c_X9_waits {l : Launch} {G : Geo} {rv : Int32} {M : Mem} (hG : gD G) (h : f_X9_waits M = some rv) : Met l yX9_waits (.code yX9_waits cX9_waits 1 (some .int) :: GL) (rmk 0) (gP G [.ref (adr G 7 0)] M) (gQ G (some (.int rv)) M) 0 0 (gA G) := by
  refine Met_of (own := RX9) (L := [(0, .ref (adr G 7 0))]) hG (by decide +kernel) rfl (Nat.le_of_ble_eq_true rfl) rfl ?_
  intro p e s m args below meth c hC hr hlk
  refine V_aload_n hC dX9_waits_0 rfl 0 rfl ?_
  refine V_getR hC (r_m0_0) fw_X9_7 dX9_waits_1 ?_
  refine V_sipush hC (2662 : Int32) dX9_waits_4 (by decide) ?_
  refine V_iald hC (a_m1) (by decide) dX9_waits_7 ?_
  obtain rfl := Option.some.inj h
  exact V_iret hC hr hlk dX9_waits_8
theorem b_X9_isCovered_85 {rv : Int32} {k50 : Int32 → Int32 → Option Int32} {x1 : Int32} {x3 : Int32} {z0 : Int32} {M : Mem} (hC : Cx p s m args c cX9_isCovered RX9 4 G) (hr : meth.sig.returnType = some .boolean) (hlk : meth.locks = false) (hk50 : ∀ (x2 : Int32) (x3 : Int32), k50 x2 x3 = some rv → V p l e (rmk 3) s m args below meth c 4 G 0 0 (MQ below (gQ G (some (.int rv)) M) args s 0 0 (gA G)) 50 [(0, .ref (adr G 7 0)), (1, .int x1), (2, .int x2), (3, .int x3)] [] M) (h : B_X9_isCovered_85 k50 x1 x3 z0 M = some rv) : V p l e (rmk 3) s m args below meth c 4 G 0 0 (MQ below (gQ G (some (.int rv)) M) args s 0 0 (gA G)) 85 [(0, .ref (adr G 7 0)), (1, .int x1), (3, .int x3)] [.int z0] M := by
  refine V_istore_n hC ([(2, .int z0), (0, .ref (adr G 7 0)), (1, .int x1), (3, .int x3)]) dX9_isCovered_85 rfl (by decide) rfl ?_
  refine V_iinc hC (x3 + 1) ([(3, .int (x3 + 1)), (2, .int z0), (0, .ref (adr G 7 0)), (1, .int x1)]) dX9_isCovered_86 3 rfl rfl (by decide) rfl ?_
  refine V_goto hC 50 dX9_isCovered_89 (by decide) ?_
  refine V_sub [2, 3, 1, 0] rfl ?_
  exact hk50 _ _ h
theorem b_X9_isCovered_80 {rv : Int32} {k50 : Int32 → Int32 → Option Int32} {x1 : Int32} {x3 : Int32} {M : Mem} (hC : Cx p s m args c cX9_isCovered RX9 4 G) (hr : meth.sig.returnType = some .boolean) (hlk : meth.locks = false) (hk50 : ∀ (x2 : Int32) (x3 : Int32), k50 x2 x3 = some rv → V p l e (rmk 3) s m args below meth c 4 G 0 0 (MQ below (gQ G (some (.int rv)) M) args s 0 0 (gA G)) 50 [(0, .ref (adr G 7 0)), (1, .int x1), (2, .int x2), (3, .int x3)] [] M) (h : B_X9_isCovered_80 k50 x1 x3 M = some rv) : V p l e (rmk 3) s m args below meth c 4 G 0 0 (MQ below (gQ G (some (.int rv)) M) args s 0 0 (gA G)) 80 [(0, .ref (adr G 7 0)), (1, .int x1), (3, .int x3)] [] M := by
  refine V_iconst hC (1 : Int32) dX9_isCovered_80 (by decide) ?_
  refine V_goto hC 85 dX9_isCovered_81 (by decide) ?_
  exact b_X9_isCovered_85 hC hr hlk hk50 h
theorem l_X9_isCovered_50 {rv : Int32} {x1 : Int32} {M : Mem} (hC : Cx p s m args c cX9_isCovered RX9 4 G) (hr : meth.sig.returnType = some .boolean) (hlk : meth.locks = false) : ∀ (n : Nat) {x2 : Int32} {x3 : Int32} (h : L_X9_isCovered_50 x1 M n x2 x3 = some rv), V p l e (rmk 3) s m args below meth c 4 G 0 0 (MQ below (gQ G (some (.int rv)) M) args s 0 0 (gA G)) 50 [(0, .ref (adr G 7 0)), (1, .int x1), (2, .int x2), (3, .int x3)] [] M := by
  intro n
  induction n with
  | zero => intro x2 x3 h; cases h
  | succ n ih =>
    intro x2 x3 h
    have hk50 : ∀ (x2 : Int32) (x3 : Int32), L_X9_isCovered_50 x1 M n x2 x3 = some rv → V p l e (rmk 3) s m args below meth c 4 G 0 0 (MQ below (gQ G (some (.int rv)) M) args s 0 0 (gA G)) 50 [(0, .ref (adr G 7 0)), (1, .int x1), (2, .int x2), (3, .int x3)] [] M := fun _ _ z => ih z
    refine V_iload_n hC dX9_isCovered_50 rfl 3 rfl ?_
    refine V_aload_n hC dX9_isCovered_51 rfl 0 rfl ?_
    obtain ⟨q2, e2, h⟩ := bind_some h
    refine V_cVr hC [] (c_X9_waits (l := l) hC.2.2.2.2.2.2.2 e2) kd_X9_waits kv_X9_waits gw_1356 (r_m0_0).o rfl ⟨Nat.le_of_ble_eq_true rfl, Nat.le_of_ble_eq_true rfl⟩ rfl (Nat.le_of_ble_eq_true rfl) dX9_isCovered_52 ⟨Nat.zero_le _, Nat.zero_le _⟩ rfl ?_
    refine V_icmp_ge hC 92 dX9_isCovered_55 (by decide) (fun c3 => ?_) (fun c3 => ?_)
    · have h := ite_t c3 h
      refine V_iload_n hC dX9_isCovered_92 rfl 2 rfl ?_
      obtain ⟨c4, h⟩ := ite_some h
      obtain rfl := Option.some.inj h
      exact V_zret hC hr hlk (of_isb c4) dX9_isCovered_93
    · have h := ite_f c3 h
      refine V_iload_n hC dX9_isCovered_58 rfl 2 rfl ?_
      refine V_if_ne hC 80 dX9_isCovered_59 (by decide) (fun c5 => ?_) (fun c5 => ?_)
      · have h := ite_f c5 h
        refine V_sub [0, 1, 3] rfl ?_
        exact b_X9_isCovered_80 hC hr hlk hk50 h
      · have h := ite_t c5 h
        refine V_aload_n hC dX9_isCovered_62 rfl 0 rfl ?_
        refine V_iload_n hC dX9_isCovered_63 rfl 1 rfl ?_
        refine V_aload_n hC dX9_isCovered_64 rfl 0 rfl ?_
        refine V_getR hC (r_m0_0) fw_X9_7 dX9_isCovered_65 ?_
        refine V_iload_n hC dX9_isCovered_68 rfl 3 rfl ?_
        refine V_iconst hC (1 : Int32) dX9_isCovered_69 (by decide) ?_
        refine V_cSr hC [.int x3, .int (1 : Int32)] (c_X9_wait (l := l) hC.2.2.2.2.2.2.2 rfl) kd_X9_wait gw_1361 gw_1360 ⟨Nat.le_of_ble_eq_true rfl, Nat.le_of_ble_eq_true rfl⟩ rfl (Nat.le_of_ble_eq_true rfl) dX9_isCovered_70 ⟨Nat.zero_le _, Nat.zero_le _⟩ rfl ?_
        obtain ⟨c7, h⟩ := ite_some h
        refine V_iald hC (a_m1) c7 dX9_isCovered_73 ?_
        obtain ⟨q8, e8, h⟩ := bind_some h
        refine V_cVr hC [.int x1, .int (M.1 7 1 (cl (f_X9_wait x3 (1 : Int32))))] (c_X9_isIn (l := l) hC.2.2.2.2.2.2.2 e8) kd_X9_isIn kv_X9_isIn gw_1352 (r_m0_0).o rfl ⟨Nat.le_of_ble_eq_true rfl, Nat.le_of_ble_eq_true rfl⟩ rfl (Nat.le_of_ble_eq_true rfl) dX9_isCovered_74 ⟨Nat.zero_le _, Nat.zero_le _⟩ rfl ?_
        refine V_if_eq hC 84 dX9_isCovered_77 (by decide) (fun c9 => ?_) (fun c9 => ?_)
        · have h := ite_t c9 h
          refine V_iconst hC (0 : Int32) dX9_isCovered_84 (by decide) ?_
          refine V_sub [0, 1, 3] rfl ?_
          exact b_X9_isCovered_85 hC hr hlk hk50 h
        · have h := ite_f c9 h
          refine V_sub [0, 1, 3] rfl ?_
          exact b_X9_isCovered_80 hC hr hlk hk50 h
theorem b_X9_isCovered_41 {rv : Int32} {k4 : Int32 → Int32 → Option Int32} {x1 : Int32} {x3 : Int32} {z0 : Int32} {M : Mem} (hC : Cx p s m args c cX9_isCovered RX9 4 G) (hr : meth.sig.returnType = some .boolean) (hlk : meth.locks = false) (hk4 : ∀ (x2 : Int32) (x3 : Int32), k4 x2 x3 = some rv → V p l e (rmk 3) s m args below meth c 4 G 0 0 (MQ below (gQ G (some (.int rv)) M) args s 0 0 (gA G)) 4 [(0, .ref (adr G 7 0)), (1, .int x1), (2, .int x2), (3, .int x3)] [] M) (h : B_X9_isCovered_41 k4 x1 x3 z0 M = some rv) : V p l e (rmk 3) s m args below meth c 4 G 0 0 (MQ below (gQ G (some (.int rv)) M) args s 0 0 (gA G)) 41 [(0, .ref (adr G 7 0)), (1, .int x1), (3, .int x3)] [.int z0] M := by
  refine V_istore_n hC ([(2, .int z0), (0, .ref (adr G 7 0)), (1, .int x1), (3, .int x3)]) dX9_isCovered_41 rfl (by decide) rfl ?_
  refine V_iinc hC (x3 + 1) ([(3, .int (x3 + 1)), (2, .int z0), (0, .ref (adr G 7 0)), (1, .int x1)]) dX9_isCovered_42 3 rfl rfl (by decide) rfl ?_
  refine V_goto hC 4 dX9_isCovered_45 (by decide) ?_
  refine V_sub [2, 3, 1, 0] rfl ?_
  exact hk4 _ _ h
theorem b_X9_isCovered_36 {rv : Int32} {k4 : Int32 → Int32 → Option Int32} {x1 : Int32} {x3 : Int32} {M : Mem} (hC : Cx p s m args c cX9_isCovered RX9 4 G) (hr : meth.sig.returnType = some .boolean) (hlk : meth.locks = false) (hk4 : ∀ (x2 : Int32) (x3 : Int32), k4 x2 x3 = some rv → V p l e (rmk 3) s m args below meth c 4 G 0 0 (MQ below (gQ G (some (.int rv)) M) args s 0 0 (gA G)) 4 [(0, .ref (adr G 7 0)), (1, .int x1), (2, .int x2), (3, .int x3)] [] M) (h : B_X9_isCovered_36 k4 x1 x3 M = some rv) : V p l e (rmk 3) s m args below meth c 4 G 0 0 (MQ below (gQ G (some (.int rv)) M) args s 0 0 (gA G)) 36 [(0, .ref (adr G 7 0)), (1, .int x1), (3, .int x3)] [] M := by
  refine V_iconst hC (1 : Int32) dX9_isCovered_36 (by decide) ?_
  refine V_goto hC 41 dX9_isCovered_37 (by decide) ?_
  exact b_X9_isCovered_41 hC hr hlk hk4 h
theorem b_X9_isCovered_40 {rv : Int32} {k4 : Int32 → Int32 → Option Int32} {x1 : Int32} {x3 : Int32} {M : Mem} (hC : Cx p s m args c cX9_isCovered RX9 4 G) (hr : meth.sig.returnType = some .boolean) (hlk : meth.locks = false) (hk4 : ∀ (x2 : Int32) (x3 : Int32), k4 x2 x3 = some rv → V p l e (rmk 3) s m args below meth c 4 G 0 0 (MQ below (gQ G (some (.int rv)) M) args s 0 0 (gA G)) 4 [(0, .ref (adr G 7 0)), (1, .int x1), (2, .int x2), (3, .int x3)] [] M) (h : B_X9_isCovered_40 k4 x1 x3 M = some rv) : V p l e (rmk 3) s m args below meth c 4 G 0 0 (MQ below (gQ G (some (.int rv)) M) args s 0 0 (gA G)) 40 [(0, .ref (adr G 7 0)), (1, .int x1), (3, .int x3)] [] M := by
  refine V_iconst hC (0 : Int32) dX9_isCovered_40 (by decide) ?_
  exact b_X9_isCovered_41 hC hr hlk hk4 h
theorem l_X9_isCovered_4 {rv : Int32} {x1 : Int32} {M : Mem} (hC : Cx p s m args c cX9_isCovered RX9 4 G) (hr : meth.sig.returnType = some .boolean) (hlk : meth.locks = false) : ∀ (n : Nat) {x2 : Int32} {x3 : Int32} (h : L_X9_isCovered_4 x1 M n x2 x3 = some rv), V p l e (rmk 3) s m args below meth c 4 G 0 0 (MQ below (gQ G (some (.int rv)) M) args s 0 0 (gA G)) 4 [(0, .ref (adr G 7 0)), (1, .int x1), (2, .int x2), (3, .int x3)] [] M := by
  intro n
  induction n with
  | zero => intro x2 x3 h; cases h
  | succ n ih =>
    intro x2 x3 h
    have hk4 : ∀ (x2 : Int32) (x3 : Int32), L_X9_isCovered_4 x1 M n x2 x3 = some rv → V p l e (rmk 3) s m args below meth c 4 G 0 0 (MQ below (gQ G (some (.int rv)) M) args s 0 0 (gA G)) 4 [(0, .ref (adr G 7 0)), (1, .int x1), (2, .int x2), (3, .int x3)] [] M := fun _ _ z => ih z
    refine V_iload_n hC dX9_isCovered_4 rfl 3 rfl ?_
    refine V_bipush hC (10 : Int32) dX9_isCovered_5 (by decide) ?_
    refine V_icmp_ge hC 48 dX9_isCovered_7 (by decide) (fun c1 => ?_) (fun c1 => ?_)
    · have h := ite_t c1 h
      refine V_iconst hC (0 : Int32) dX9_isCovered_48 (by decide) ?_
      refine V_istore_n hC ([(3, .int (0 : Int32)), (0, .ref (adr G 7 0)), (1, .int x1), (2, .int x2)]) dX9_isCovered_49 rfl (by decide) rfl ?_
      refine V_sub [1, 2, 3, 0] rfl ?_
      exact l_X9_isCovered_50 hC hr hlk FU h
    · have h := ite_f c1 h
      refine V_iload_n hC dX9_isCovered_10 rfl 2 rfl ?_
      refine V_if_ne hC 36 dX9_isCovered_11 (by decide) (fun c10 => ?_) (fun c10 => ?_)
      · have h := ite_f c10 h
        refine V_sub [0, 1, 3] rfl ?_
        exact b_X9_isCovered_36 hC hr hlk hk4 h
      · have h := ite_t c10 h
        refine V_aload_n hC dX9_isCovered_14 rfl 0 rfl ?_
        refine V_iload_n hC dX9_isCovered_15 rfl 3 rfl ?_
        obtain ⟨q11, e11, h⟩ := bind_some h
        refine V_cVr hC [.int x3] (c_X9_isCheck (l := l) hC.2.2.2.2.2.2.2 e11) kd_X9_isCheck kv_X9_isCheck gw_1341 (r_m0_0).o rfl ⟨Nat.le_of_ble_eq_true rfl, Nat.le_of_ble_eq_true rfl⟩ rfl (Nat.le_of_ble_eq_true rfl) dX9_isCovered_16 ⟨Nat.zero_le _, Nat.zero_le _⟩ rfl ?_
        refine V_if_eq hC 40 dX9_isCovered_19 (by decide) (fun c12 => ?_) (fun c12 => ?_)
        · have h := ite_t c12 h
          refine V_sub [0, 1, 3] rfl ?_
          exact b_X9_isCovered_40 hC hr hlk hk4 h
        · have h := ite_f c12 h
          refine V_aload_n hC dX9_isCovered_22 rfl 0 rfl ?_
          refine V_iload_n hC dX9_isCovered_23 rfl 1 rfl ?_
          refine V_aload_n hC dX9_isCovered_24 rfl 0 rfl ?_
          refine V_iload_n hC dX9_isCovered_25 rfl 3 rfl ?_
          refine V_iconst hC (2 : Int32) dX9_isCovered_26 (by decide) ?_
          obtain ⟨q13, e13, h⟩ := bind_some h
          refine V_cVr hC [.int x3, .int (2 : Int32)] (c_X9_get (l := l) hC.2.2.2.2.2.2.2 e13) kd_X9_get kv_X9_get gw_1345 (r_m0_0).o rfl ⟨Nat.le_of_ble_eq_true rfl, Nat.le_of_ble_eq_true rfl⟩ rfl (Nat.le_of_ble_eq_true rfl) dX9_isCovered_27 ⟨Nat.zero_le _, Nat.zero_le _⟩ rfl ?_
          obtain ⟨q14, e14, h⟩ := bind_some h
          refine V_cVr hC [.int x1, .int q13] (c_X9_isIn (l := l) hC.2.2.2.2.2.2.2 e14) kd_X9_isIn kv_X9_isIn gw_1352 (r_m0_0).o rfl ⟨Nat.le_of_ble_eq_true rfl, Nat.le_of_ble_eq_true rfl⟩ rfl (Nat.le_of_ble_eq_true rfl) dX9_isCovered_30 ⟨Nat.zero_le _, Nat.zero_le _⟩ rfl ?_
          refine V_if_eq hC 40 dX9_isCovered_33 (by decide) (fun c15 => ?_) (fun c15 => ?_)
          · have h := ite_t c15 h
            refine V_sub [0, 1, 3] rfl ?_
            exact b_X9_isCovered_40 hC hr hlk hk4 h
          · have h := ite_f c15 h
            refine V_sub [0, 1, 3] rfl ?_
            exact b_X9_isCovered_36 hC hr hlk hk4 h
theorem c_X9_isCovered {l : Launch} {G : Geo} {x1 : Int32} {rv : Int32} {M : Mem} (hG : gD G) (h : f_X9_isCovered x1 M = some rv) : Met l yX9_isCovered (.code yX9_isCovered cX9_isCovered 4 (some .boolean) :: GL) (rmk 3) (gP G [.ref (adr G 7 0), .int x1] M) (gQ G (some (.int rv)) M) 0 0 (gA G) := by
  refine Met_of (own := RX9) (L := [(0, .ref (adr G 7 0)), (1, .int x1)]) hG (by decide +kernel) rfl (Nat.le_of_ble_eq_true rfl) rfl ?_
  intro p e s m args below meth c hC hr hlk
  refine V_iconst hC (0 : Int32) dX9_isCovered_0 (by decide) ?_
  refine V_istore_n hC ([(2, .int (0 : Int32)), (0, .ref (adr G 7 0)), (1, .int x1)]) dX9_isCovered_1 rfl (by decide) rfl ?_
  refine V_iconst hC (0 : Int32) dX9_isCovered_2 (by decide) ?_
  refine V_istore_n hC ([(3, .int (0 : Int32)), (2, .int (0 : Int32)), (0, .ref (adr G 7 0)), (1, .int x1)]) dX9_isCovered_3 rfl (by decide) rfl ?_
  refine V_sub [2, 3, 1, 0] rfl ?_
  exact l_X9_isCovered_4 hC hr hlk FU h
theorem b_X9_isWaitedFor_39 {rv : Int32} {k4 : Int32 → Int32 → Option Int32} {x1 : Int32} {x3 : Int32} {z0 : Int32} {M : Mem} (hC : Cx p s m args c cX9_isWaitedFor RX9 4 G) (hr : meth.sig.returnType = some .boolean) (hlk : meth.locks = false) (hk4 : ∀ (x2 : Int32) (x3 : Int32), k4 x2 x3 = some rv → V p l e (rmk 2) s m args below meth c 4 G 0 0 (MQ below (gQ G (some (.int rv)) M) args s 0 0 (gA G)) 4 [(0, .ref (adr G 7 0)), (1, .int x1), (2, .int x2), (3, .int x3)] [] M) (h : B_X9_isWaitedFor_39 k4 x1 x3 z0 M = some rv) : V p l e (rmk 2) s m args below meth c 4 G 0 0 (MQ below (gQ G (some (.int rv)) M) args s 0 0 (gA G)) 39 [(0, .ref (adr G 7 0)), (1, .int x1), (3, .int x3)] [.int z0] M := by
  refine V_istore_n hC ([(2, .int z0), (0, .ref (adr G 7 0)), (1, .int x1), (3, .int x3)]) dX9_isWaitedFor_39 rfl (by decide) rfl ?_
  refine V_iinc hC (x3 + 1) ([(3, .int (x3 + 1)), (2, .int z0), (0, .ref (adr G 7 0)), (1, .int x1)]) dX9_isWaitedFor_40 3 rfl rfl (by decide) rfl ?_
  refine V_goto hC 4 dX9_isWaitedFor_43 (by decide) ?_
  refine V_sub [2, 3, 1, 0] rfl ?_
  exact hk4 _ _ h
theorem b_X9_isWaitedFor_34 {rv : Int32} {k4 : Int32 → Int32 → Option Int32} {x1 : Int32} {x3 : Int32} {M : Mem} (hC : Cx p s m args c cX9_isWaitedFor RX9 4 G) (hr : meth.sig.returnType = some .boolean) (hlk : meth.locks = false) (hk4 : ∀ (x2 : Int32) (x3 : Int32), k4 x2 x3 = some rv → V p l e (rmk 2) s m args below meth c 4 G 0 0 (MQ below (gQ G (some (.int rv)) M) args s 0 0 (gA G)) 4 [(0, .ref (adr G 7 0)), (1, .int x1), (2, .int x2), (3, .int x3)] [] M) (h : B_X9_isWaitedFor_34 k4 x1 x3 M = some rv) : V p l e (rmk 2) s m args below meth c 4 G 0 0 (MQ below (gQ G (some (.int rv)) M) args s 0 0 (gA G)) 34 [(0, .ref (adr G 7 0)), (1, .int x1), (3, .int x3)] [] M := by
  refine V_iconst hC (1 : Int32) dX9_isWaitedFor_34 (by decide) ?_
  refine V_goto hC 39 dX9_isWaitedFor_35 (by decide) ?_
  exact b_X9_isWaitedFor_39 hC hr hlk hk4 h
theorem l_X9_isWaitedFor_4 {rv : Int32} {x1 : Int32} {M : Mem} (hC : Cx p s m args c cX9_isWaitedFor RX9 4 G) (hr : meth.sig.returnType = some .boolean) (hlk : meth.locks = false) : ∀ (n : Nat) {x2 : Int32} {x3 : Int32} (h : L_X9_isWaitedFor_4 x1 M n x2 x3 = some rv), V p l e (rmk 2) s m args below meth c 4 G 0 0 (MQ below (gQ G (some (.int rv)) M) args s 0 0 (gA G)) 4 [(0, .ref (adr G 7 0)), (1, .int x1), (2, .int x2), (3, .int x3)] [] M := by
  intro n
  induction n with
  | zero => intro x2 x3 h; cases h
  | succ n ih =>
    intro x2 x3 h
    have hk4 : ∀ (x2 : Int32) (x3 : Int32), L_X9_isWaitedFor_4 x1 M n x2 x3 = some rv → V p l e (rmk 2) s m args below meth c 4 G 0 0 (MQ below (gQ G (some (.int rv)) M) args s 0 0 (gA G)) 4 [(0, .ref (adr G 7 0)), (1, .int x1), (2, .int x2), (3, .int x3)] [] M := fun _ _ z => ih z
    refine V_iload_n hC dX9_isWaitedFor_4 rfl 3 rfl ?_
    refine V_aload_n hC dX9_isWaitedFor_5 rfl 0 rfl ?_
    obtain ⟨q1, e1, h⟩ := bind_some h
    refine V_cVr hC [] (c_X9_waits (l := l) hC.2.2.2.2.2.2.2 e1) kd_X9_waits kv_X9_waits gw_1356 (r_m0_0).o rfl ⟨Nat.le_of_ble_eq_true rfl, Nat.le_of_ble_eq_true rfl⟩ rfl (Nat.le_of_ble_eq_true rfl) dX9_isWaitedFor_6 ⟨Nat.zero_le _, Nat.zero_le _⟩ rfl ?_
    refine V_icmp_ge hC 46 dX9_isWaitedFor_9 (by decide) (fun c2 => ?_) (fun c2 => ?_)
    · have h := ite_t c2 h
      refine V_iload_n hC dX9_isWaitedFor_46 rfl 2 rfl ?_
      obtain ⟨c3, h⟩ := ite_some h
      obtain rfl := Option.some.inj h
      exact V_zret hC hr hlk (of_isb c3) dX9_isWaitedFor_47
    · have h := ite_f c2 h
      refine V_iload_n hC dX9_isWaitedFor_12 rfl 2 rfl ?_
      refine V_if_ne hC 34 dX9_isWaitedFor_13 (by decide) (fun c4 => ?_) (fun c4 => ?_)
      · have h := ite_f c4 h
        refine V_sub [0, 1, 3] rfl ?_
        exact b_X9_isWaitedFor_34 hC hr hlk hk4 h
      · have h := ite_t c4 h
        refine V_aload_n hC dX9_isWaitedFor_16 rfl 0 rfl ?_
        refine V_iload_n hC dX9_isWaitedFor_17 rfl 1 rfl ?_
        refine V_aload_n hC dX9_isWaitedFor_18 rfl 0 rfl ?_
        refine V_getR hC (r_m0_0) fw_X9_7 dX9_isWaitedFor_19 ?_
        refine V_iload_n hC dX9_isWaitedFor_22 rfl 3 rfl ?_
        refine V_iconst hC (1 : Int32) dX9_isWaitedFor_23 (by decide) ?_
        refine V_cSr hC [.int x3, .int (1 : Int32)] (c_X9_wait (l := l) hC.2.2.2.2.2.2.2 rfl) kd_X9_wait gw_1361 gw_1360 ⟨Nat.le_of_ble_eq_true rfl, Nat.le_of_ble_eq_true rfl⟩ rfl (Nat.le_of_ble_eq_true rfl) dX9_isWaitedFor_24 ⟨Nat.zero_le _, Nat.zero_le _⟩ rfl ?_
        obtain ⟨c6, h⟩ := ite_some h
        refine V_iald hC (a_m1) c6 dX9_isWaitedFor_27 ?_
        obtain ⟨q7, e7, h⟩ := bind_some h
        refine V_cVr hC [.int x1, .int (M.1 7 1 (cl (f_X9_wait x3 (1 : Int32))))] (c_X9_overlap (l := l) hC.2.2.2.2.2.2.2 e7) kd_X9_overlap kv_X9_overlap gw_1379 (r_m0_0).o rfl ⟨Nat.le_of_ble_eq_true rfl, Nat.le_of_ble_eq_true rfl⟩ rfl (Nat.le_of_ble_eq_true rfl) dX9_isWaitedFor_28 ⟨Nat.zero_le _, Nat.zero_le _⟩ rfl ?_
        refine V_if_eq hC 38 dX9_isWaitedFor_31 (by decide) (fun c8 => ?_) (fun c8 => ?_)
        · have h := ite_t c8 h
          refine V_iconst hC (0 : Int32) dX9_isWaitedFor_38 (by decide) ?_
          refine V_sub [0, 1, 3] rfl ?_
          exact b_X9_isWaitedFor_39 hC hr hlk hk4 h
        · have h := ite_f c8 h
          refine V_sub [0, 1, 3] rfl ?_
          exact b_X9_isWaitedFor_34 hC hr hlk hk4 h
theorem c_X9_isWaitedFor {l : Launch} {G : Geo} {x1 : Int32} {rv : Int32} {M : Mem} (hG : gD G) (h : f_X9_isWaitedFor x1 M = some rv) : Met l yX9_isWaitedFor (.code yX9_isWaitedFor cX9_isWaitedFor 4 (some .boolean) :: GL) (rmk 2) (gP G [.ref (adr G 7 0), .int x1] M) (gQ G (some (.int rv)) M) 0 0 (gA G) := by
  refine Met_of (own := RX9) (L := [(0, .ref (adr G 7 0)), (1, .int x1)]) hG (by decide +kernel) rfl (Nat.le_of_ble_eq_true rfl) rfl ?_
  intro p e s m args below meth c hC hr hlk
  refine V_iconst hC (0 : Int32) dX9_isWaitedFor_0 (by decide) ?_
  refine V_istore_n hC ([(2, .int (0 : Int32)), (0, .ref (adr G 7 0)), (1, .int x1)]) dX9_isWaitedFor_1 rfl (by decide) rfl ?_
  refine V_iconst hC (0 : Int32) dX9_isWaitedFor_2 (by decide) ?_
  refine V_istore_n hC ([(3, .int (0 : Int32)), (2, .int (0 : Int32)), (0, .ref (adr G 7 0)), (1, .int x1)]) dX9_isWaitedFor_3 rfl (by decide) rfl ?_
  refine V_sub [2, 3, 1, 0] rfl ?_
  exact l_X9_isWaitedFor_4 hC hr hlk FU h
theorem b_X9_isTouched_45 {rv : Int32} {k8 : Int32 → Int32 → Option Int32} {x1 : Int32} {x3 : Int32} {z0 : Int32} {M : Mem} (hC : Cx p s m args c cX9_isTouched RX9 4 G) (hr : meth.sig.returnType = some .boolean) (hlk : meth.locks = false) (hk8 : ∀ (x2 : Int32) (x3 : Int32), k8 x2 x3 = some rv → V p l e (rmk 3) s m args below meth c 4 G 0 0 (MQ below (gQ G (some (.int rv)) M) args s 0 0 (gA G)) 8 [(0, .ref (adr G 7 0)), (1, .int x1), (2, .int x2), (3, .int x3)] [] M) (h : B_X9_isTouched_45 k8 x1 x3 z0 M = some rv) : V p l e (rmk 3) s m args below meth c 4 G 0 0 (MQ below (gQ G (some (.int rv)) M) args s 0 0 (gA G)) 45 [(0, .ref (adr G 7 0)), (1, .int x1), (3, .int x3)] [.int z0] M := by
  refine V_istore_n hC ([(2, .int z0), (0, .ref (adr G 7 0)), (1, .int x1), (3, .int x3)]) dX9_isTouched_45 rfl (by decide) rfl ?_
  refine V_iinc hC (x3 + 1) ([(3, .int (x3 + 1)), (2, .int z0), (0, .ref (adr G 7 0)), (1, .int x1)]) dX9_isTouched_46 3 rfl rfl (by decide) rfl ?_
  refine V_goto hC 8 dX9_isTouched_49 (by decide) ?_
  refine V_sub [2, 3, 1, 0] rfl ?_
  exact hk8 _ _ h
theorem b_X9_isTouched_40 {rv : Int32} {k8 : Int32 → Int32 → Option Int32} {x1 : Int32} {x3 : Int32} {M : Mem} (hC : Cx p s m args c cX9_isTouched RX9 4 G) (hr : meth.sig.returnType = some .boolean) (hlk : meth.locks = false) (hk8 : ∀ (x2 : Int32) (x3 : Int32), k8 x2 x3 = some rv → V p l e (rmk 3) s m args below meth c 4 G 0 0 (MQ below (gQ G (some (.int rv)) M) args s 0 0 (gA G)) 8 [(0, .ref (adr G 7 0)), (1, .int x1), (2, .int x2), (3, .int x3)] [] M) (h : B_X9_isTouched_40 k8 x1 x3 M = some rv) : V p l e (rmk 3) s m args below meth c 4 G 0 0 (MQ below (gQ G (some (.int rv)) M) args s 0 0 (gA G)) 40 [(0, .ref (adr G 7 0)), (1, .int x1), (3, .int x3)] [] M := by
  refine V_iconst hC (1 : Int32) dX9_isTouched_40 (by decide) ?_
  refine V_goto hC 45 dX9_isTouched_41 (by decide) ?_
  exact b_X9_isTouched_45 hC hr hlk hk8 h
theorem b_X9_isTouched_44 {rv : Int32} {k8 : Int32 → Int32 → Option Int32} {x1 : Int32} {x3 : Int32} {M : Mem} (hC : Cx p s m args c cX9_isTouched RX9 4 G) (hr : meth.sig.returnType = some .boolean) (hlk : meth.locks = false) (hk8 : ∀ (x2 : Int32) (x3 : Int32), k8 x2 x3 = some rv → V p l e (rmk 3) s m args below meth c 4 G 0 0 (MQ below (gQ G (some (.int rv)) M) args s 0 0 (gA G)) 8 [(0, .ref (adr G 7 0)), (1, .int x1), (2, .int x2), (3, .int x3)] [] M) (h : B_X9_isTouched_44 k8 x1 x3 M = some rv) : V p l e (rmk 3) s m args below meth c 4 G 0 0 (MQ below (gQ G (some (.int rv)) M) args s 0 0 (gA G)) 44 [(0, .ref (adr G 7 0)), (1, .int x1), (3, .int x3)] [] M := by
  refine V_iconst hC (0 : Int32) dX9_isTouched_44 (by decide) ?_
  exact b_X9_isTouched_45 hC hr hlk hk8 h
theorem l_X9_isTouched_8 {rv : Int32} {x1 : Int32} {M : Mem} (hC : Cx p s m args c cX9_isTouched RX9 4 G) (hr : meth.sig.returnType = some .boolean) (hlk : meth.locks = false) : ∀ (n : Nat) {x2 : Int32} {x3 : Int32} (h : L_X9_isTouched_8 x1 M n x2 x3 = some rv), V p l e (rmk 3) s m args below meth c 4 G 0 0 (MQ below (gQ G (some (.int rv)) M) args s 0 0 (gA G)) 8 [(0, .ref (adr G 7 0)), (1, .int x1), (2, .int x2), (3, .int x3)] [] M := by
  intro n
  induction n with
  | zero => intro x2 x3 h; cases h
  | succ n ih =>
    intro x2 x3 h
    have hk8 : ∀ (x2 : Int32) (x3 : Int32), L_X9_isTouched_8 x1 M n x2 x3 = some rv → V p l e (rmk 3) s m args below meth c 4 G 0 0 (MQ below (gQ G (some (.int rv)) M) args s 0 0 (gA G)) 8 [(0, .ref (adr G 7 0)), (1, .int x1), (2, .int x2), (3, .int x3)] [] M := fun _ _ z => ih z
    refine V_iload_n hC dX9_isTouched_8 rfl 3 rfl ?_
    refine V_bipush hC (10 : Int32) dX9_isTouched_9 (by decide) ?_
    refine V_icmp_ge hC 52 dX9_isTouched_11 (by decide) (fun c2 => ?_) (fun c2 => ?_)
    · have h := ite_t c2 h
      refine V_iload_n hC dX9_isTouched_52 rfl 2 rfl ?_
      obtain ⟨c3, h⟩ := ite_some h
      obtain rfl := Option.some.inj h
      exact V_zret hC hr hlk (of_isb c3) dX9_isTouched_53
    · have h := ite_f c2 h
      refine V_iload_n hC dX9_isTouched_14 rfl 2 rfl ?_
      refine V_if_ne hC 40 dX9_isTouched_15 (by decide) (fun c4 => ?_) (fun c4 => ?_)
      · have h := ite_f c4 h
        refine V_sub [0, 1, 3] rfl ?_
        exact b_X9_isTouched_40 hC hr hlk hk8 h
      · have h := ite_t c4 h
        refine V_aload_n hC dX9_isTouched_18 rfl 0 rfl ?_
        refine V_iload_n hC dX9_isTouched_19 rfl 3 rfl ?_
        obtain ⟨q5, e5, h⟩ := bind_some h
        refine V_cVr hC [.int x3] (c_X9_isCheck (l := l) hC.2.2.2.2.2.2.2 e5) kd_X9_isCheck kv_X9_isCheck gw_1341 (r_m0_0).o rfl ⟨Nat.le_of_ble_eq_true rfl, Nat.le_of_ble_eq_true rfl⟩ rfl (Nat.le_of_ble_eq_true rfl) dX9_isTouched_20 ⟨Nat.zero_le _, Nat.zero_le _⟩ rfl ?_
        refine V_if_eq hC 44 dX9_isTouched_23 (by decide) (fun c6 => ?_) (fun c6 => ?_)
        · have h := ite_t c6 h
          refine V_sub [0, 1, 3] rfl ?_
          exact b_X9_isTouched_44 hC hr hlk hk8 h
        · have h := ite_f c6 h
          refine V_aload_n hC dX9_isTouched_26 rfl 0 rfl ?_
          refine V_iload_n hC dX9_isTouched_27 rfl 1 rfl ?_
          refine V_aload_n hC dX9_isTouched_28 rfl 0 rfl ?_
          refine V_iload_n hC dX9_isTouched_29 rfl 3 rfl ?_
          refine V_iconst hC (2 : Int32) dX9_isTouched_30 (by decide) ?_
          obtain ⟨q7, e7, h⟩ := bind_some h
          refine V_cVr hC [.int x3, .int (2 : Int32)] (c_X9_get (l := l) hC.2.2.2.2.2.2.2 e7) kd_X9_get kv_X9_get gw_1345 (r_m0_0).o rfl ⟨Nat.le_of_ble_eq_true rfl, Nat.le_of_ble_eq_true rfl⟩ rfl (Nat.le_of_ble_eq_true rfl) dX9_isTouched_31 ⟨Nat.zero_le _, Nat.zero_le _⟩ rfl ?_
          obtain ⟨q8, e8, h⟩ := bind_some h
          refine V_cVr hC [.int x1, .int q7] (c_X9_overlap (l := l) hC.2.2.2.2.2.2.2 e8) kd_X9_overlap kv_X9_overlap gw_1379 (r_m0_0).o rfl ⟨Nat.le_of_ble_eq_true rfl, Nat.le_of_ble_eq_true rfl⟩ rfl (Nat.le_of_ble_eq_true rfl) dX9_isTouched_34 ⟨Nat.zero_le _, Nat.zero_le _⟩ rfl ?_
          refine V_if_eq hC 44 dX9_isTouched_37 (by decide) (fun c9 => ?_) (fun c9 => ?_)
          · have h := ite_t c9 h
            refine V_sub [0, 1, 3] rfl ?_
            exact b_X9_isTouched_44 hC hr hlk hk8 h
          · have h := ite_f c9 h
            refine V_sub [0, 1, 3] rfl ?_
            exact b_X9_isTouched_40 hC hr hlk hk8 h
theorem c_X9_isTouched {l : Launch} {G : Geo} {x1 : Int32} {rv : Int32} {M : Mem} (hG : gD G) (h : f_X9_isTouched x1 M = some rv) : Met l yX9_isTouched (.code yX9_isTouched cX9_isTouched 4 (some .boolean) :: GL) (rmk 3) (gP G [.ref (adr G 7 0), .int x1] M) (gQ G (some (.int rv)) M) 0 0 (gA G) := by
  refine Met_of (own := RX9) (L := [(0, .ref (adr G 7 0)), (1, .int x1)]) hG (by decide +kernel) rfl (Nat.le_of_ble_eq_true rfl) rfl ?_
  intro p e s m args below meth c hC hr hlk
  refine V_aload_n hC dX9_isTouched_0 rfl 0 rfl ?_
  refine V_iload_n hC dX9_isTouched_1 rfl 1 rfl ?_
  obtain ⟨q1, e1, h⟩ := bind_some h
  refine V_cVr hC [.int x1] (c_X9_isWaitedFor (l := l) hC.2.2.2.2.2.2.2 e1) kd_X9_isWaitedFor kv_X9_isWaitedFor gw_1375 (r_m0_0).o rfl ⟨Nat.le_of_ble_eq_true rfl, Nat.le_of_ble_eq_true rfl⟩ rfl (Nat.le_of_ble_eq_true rfl) dX9_isTouched_2 ⟨Nat.zero_le _, Nat.zero_le _⟩ rfl ?_
  refine V_istore_n hC ([(2, .int q1), (0, .ref (adr G 7 0)), (1, .int x1)]) dX9_isTouched_5 rfl (by decide) rfl ?_
  refine V_iconst hC (0 : Int32) dX9_isTouched_6 (by decide) ?_
  refine V_istore_n hC ([(3, .int (0 : Int32)), (2, .int q1), (0, .ref (adr G 7 0)), (1, .int x1)]) dX9_isTouched_7 rfl (by decide) rfl ?_
  refine V_sub [2, 3, 1, 0] rfl ?_
  exact l_X9_isTouched_8 hC hr hlk FU h
theorem b_X9_isHeldAround_41 {rv : Int32} {k4 : Int32 → Int32 → Option Int32} {x1 : Int32} {x3 : Int32} {z0 : Int32} {M : Mem} (hC : Cx p s m args c cX9_isHeldAround RX9 4 G) (hr : meth.sig.returnType = some .boolean) (hlk : meth.locks = false) (hk4 : ∀ (x2 : Int32) (x3 : Int32), k4 x2 x3 = some rv → V p l e (rmk 4) s m args below meth c 4 G 0 0 (MQ below (gQ G (some (.int rv)) M) args s 0 0 (gA G)) 4 [(0, .ref (adr G 7 0)), (1, .int x1), (2, .int x2), (3, .int x3)] [] M) (h : B_X9_isHeldAround_41 k4 x1 x3 z0 M = some rv) : V p l e (rmk 4) s m args below meth c 4 G 0 0 (MQ below (gQ G (some (.int rv)) M) args s 0 0 (gA G)) 41 [(0, .ref (adr G 7 0)), (1, .int x1), (3, .int x3)] [.int z0] M := by
  refine V_istore_n hC ([(2, .int z0), (0, .ref (adr G 7 0)), (1, .int x1), (3, .int x3)]) dX9_isHeldAround_41 rfl (by decide) rfl ?_
  refine V_iinc hC (x3 + 1) ([(3, .int (x3 + 1)), (2, .int z0), (0, .ref (adr G 7 0)), (1, .int x1)]) dX9_isHeldAround_42 3 rfl rfl (by decide) rfl ?_
  refine V_goto hC 4 dX9_isHeldAround_45 (by decide) ?_
  refine V_sub [2, 3, 1, 0] rfl ?_
  exact hk4 _ _ h
theorem b_X9_isHeldAround_36 {rv : Int32} {k4 : Int32 → Int32 → Option Int32} {x1 : Int32} {x3 : Int32} {M : Mem} (hC : Cx p s m args c cX9_isHeldAround RX9 4 G) (hr : meth.sig.returnType = some .boolean) (hlk : meth.locks = false) (hk4 : ∀ (x2 : Int32) (x3 : Int32), k4 x2 x3 = some rv → V p l e (rmk 4) s m args below meth c 4 G 0 0 (MQ below (gQ G (some (.int rv)) M) args s 0 0 (gA G)) 4 [(0, .ref (adr G 7 0)), (1, .int x1), (2, .int x2), (3, .int x3)] [] M) (h : B_X9_isHeldAround_36 k4 x1 x3 M = some rv) : V p l e (rmk 4) s m args below meth c 4 G 0 0 (MQ below (gQ G (some (.int rv)) M) args s 0 0 (gA G)) 36 [(0, .ref (adr G 7 0)), (1, .int x1), (3, .int x3)] [] M := by
  refine V_iconst hC (1 : Int32) dX9_isHeldAround_36 (by decide) ?_
  refine V_goto hC 41 dX9_isHeldAround_37 (by decide) ?_
  exact b_X9_isHeldAround_41 hC hr hlk hk4 h
theorem b_X9_isHeldAround_40 {rv : Int32} {k4 : Int32 → Int32 → Option Int32} {x1 : Int32} {x3 : Int32} {M : Mem} (hC : Cx p s m args c cX9_isHeldAround RX9 4 G) (hr : meth.sig.returnType = some .boolean) (hlk : meth.locks = false) (hk4 : ∀ (x2 : Int32) (x3 : Int32), k4 x2 x3 = some rv → V p l e (rmk 4) s m args below meth c 4 G 0 0 (MQ below (gQ G (some (.int rv)) M) args s 0 0 (gA G)) 4 [(0, .ref (adr G 7 0)), (1, .int x1), (2, .int x2), (3, .int x3)] [] M) (h : B_X9_isHeldAround_40 k4 x1 x3 M = some rv) : V p l e (rmk 4) s m args below meth c 4 G 0 0 (MQ below (gQ G (some (.int rv)) M) args s 0 0 (gA G)) 40 [(0, .ref (adr G 7 0)), (1, .int x1), (3, .int x3)] [] M := by
  refine V_iconst hC (0 : Int32) dX9_isHeldAround_40 (by decide) ?_
  exact b_X9_isHeldAround_41 hC hr hlk hk4 h
theorem l_X9_isHeldAround_4 {rv : Int32} {x1 : Int32} {M : Mem} (hC : Cx p s m args c cX9_isHeldAround RX9 4 G) (hr : meth.sig.returnType = some .boolean) (hlk : meth.locks = false) : ∀ (n : Nat) {x2 : Int32} {x3 : Int32} (h : L_X9_isHeldAround_4 x1 M n x2 x3 = some rv), V p l e (rmk 4) s m args below meth c 4 G 0 0 (MQ below (gQ G (some (.int rv)) M) args s 0 0 (gA G)) 4 [(0, .ref (adr G 7 0)), (1, .int x1), (2, .int x2), (3, .int x3)] [] M := by
  intro n
  induction n with
  | zero => intro x2 x3 h; cases h
  | succ n ih =>
    intro x2 x3 h
    have hk4 : ∀ (x2 : Int32) (x3 : Int32), L_X9_isHeldAround_4 x1 M n x2 x3 = some rv → V p l e (rmk 4) s m args below meth c 4 G 0 0 (MQ below (gQ G (some (.int rv)) M) args s 0 0 (gA G)) 4 [(0, .ref (adr G 7 0)), (1, .int x1), (2, .int x2), (3, .int x3)] [] M := fun _ _ z => ih z
    refine V_iload_n hC dX9_isHeldAround_4 rfl 3 rfl ?_
    refine V_bipush hC (10 : Int32) dX9_isHeldAround_5 (by decide) ?_
    refine V_icmp_ge hC 48 dX9_isHeldAround_7 (by decide) (fun c1 => ?_) (fun c1 => ?_)
    · have h := ite_t c1 h
      refine V_iload_n hC dX9_isHeldAround_48 rfl 2 rfl ?_
      obtain ⟨c2, h⟩ := ite_some h
      obtain rfl := Option.some.inj h
      exact V_zret hC hr hlk (of_isb c2) dX9_isHeldAround_49
    · have h := ite_f c1 h
      refine V_iload_n hC dX9_isHeldAround_10 rfl 2 rfl ?_
      refine V_if_ne hC 36 dX9_isHeldAround_11 (by decide) (fun c3 => ?_) (fun c3 => ?_)
      · have h := ite_f c3 h
        refine V_sub [0, 1, 3] rfl ?_
        exact b_X9_isHeldAround_36 hC hr hlk hk4 h
      · have h := ite_t c3 h
        refine V_aload_n hC dX9_isHeldAround_14 rfl 0 rfl ?_
        refine V_iload_n hC dX9_isHeldAround_15 rfl 3 rfl ?_
        obtain ⟨q4, e4, h⟩ := bind_some h
        refine V_cVr hC [.int x3] (c_X9_isHeld (l := l) hC.2.2.2.2.2.2.2 e4) kd_X9_isHeld kv_X9_isHeld gw_1439 (r_m0_0).o rfl ⟨Nat.le_of_ble_eq_true rfl, Nat.le_of_ble_eq_true rfl⟩ rfl (Nat.le_of_ble_eq_true rfl) dX9_isHeldAround_16 ⟨Nat.zero_le _, Nat.zero_le _⟩ rfl ?_
        refine V_if_eq hC 40 dX9_isHeldAround_19 (by decide) (fun c5 => ?_) (fun c5 => ?_)
        · have h := ite_t c5 h
          refine V_sub [0, 1, 3] rfl ?_
          exact b_X9_isHeldAround_40 hC hr hlk hk4 h
        · have h := ite_f c5 h
          refine V_aload_n hC dX9_isHeldAround_22 rfl 0 rfl ?_
          refine V_iload_n hC dX9_isHeldAround_23 rfl 1 rfl ?_
          refine V_aload_n hC dX9_isHeldAround_24 rfl 0 rfl ?_
          refine V_iload_n hC dX9_isHeldAround_25 rfl 3 rfl ?_
          refine V_iconst hC (2 : Int32) dX9_isHeldAround_26 (by decide) ?_
          obtain ⟨q6, e6, h⟩ := bind_some h
          refine V_cVr hC [.int x3, .int (2 : Int32)] (c_X9_get (l := l) hC.2.2.2.2.2.2.2 e6) kd_X9_get kv_X9_get gw_1345 (r_m0_0).o rfl ⟨Nat.le_of_ble_eq_true rfl, Nat.le_of_ble_eq_true rfl⟩ rfl (Nat.le_of_ble_eq_true rfl) dX9_isHeldAround_27 ⟨Nat.zero_le _, Nat.zero_le _⟩ rfl ?_
          obtain ⟨q7, e7, h⟩ := bind_some h
          refine V_cVr hC [.int x1, .int q6] (c_X9_overlap (l := l) hC.2.2.2.2.2.2.2 e7) kd_X9_overlap kv_X9_overlap gw_1379 (r_m0_0).o rfl ⟨Nat.le_of_ble_eq_true rfl, Nat.le_of_ble_eq_true rfl⟩ rfl (Nat.le_of_ble_eq_true rfl) dX9_isHeldAround_30 ⟨Nat.zero_le _, Nat.zero_le _⟩ rfl ?_
          refine V_if_eq hC 40 dX9_isHeldAround_33 (by decide) (fun c8 => ?_) (fun c8 => ?_)
          · have h := ite_t c8 h
            refine V_sub [0, 1, 3] rfl ?_
            exact b_X9_isHeldAround_40 hC hr hlk hk4 h
          · have h := ite_f c8 h
            refine V_sub [0, 1, 3] rfl ?_
            exact b_X9_isHeldAround_36 hC hr hlk hk4 h
theorem c_X9_isHeldAround {l : Launch} {G : Geo} {x1 : Int32} {rv : Int32} {M : Mem} (hG : gD G) (h : f_X9_isHeldAround x1 M = some rv) : Met l yX9_isHeldAround (.code yX9_isHeldAround cX9_isHeldAround 4 (some .boolean) :: GL) (rmk 4) (gP G [.ref (adr G 7 0), .int x1] M) (gQ G (some (.int rv)) M) 0 0 (gA G) := by
  refine Met_of (own := RX9) (L := [(0, .ref (adr G 7 0)), (1, .int x1)]) hG (by decide +kernel) rfl (Nat.le_of_ble_eq_true rfl) rfl ?_
  intro p e s m args below meth c hC hr hlk
  refine V_iconst hC (0 : Int32) dX9_isHeldAround_0 (by decide) ?_
  refine V_istore_n hC ([(2, .int (0 : Int32)), (0, .ref (adr G 7 0)), (1, .int x1)]) dX9_isHeldAround_1 rfl (by decide) rfl ?_
  refine V_iconst hC (0 : Int32) dX9_isHeldAround_2 (by decide) ?_
  refine V_istore_n hC ([(3, .int (0 : Int32)), (2, .int (0 : Int32)), (0, .ref (adr G 7 0)), (1, .int x1)]) dX9_isHeldAround_3 rfl (by decide) rfl ?_
  refine V_sub [2, 3, 1, 0] rfl ?_
  exact l_X9_isHeldAround_4 hC hr hlk FU h
theorem b_X9_holdersOf_40 {rv : Int32} {k4 : Int32 → Int32 → Option Int32} {x1 : Int32} {x3 : Int32} {z0 : Int32} {z1 : Int32} {M : Mem} (hC : Cx p s m args c cX9_holdersOf RX9 4 G) (hr : meth.sig.returnType = some .int) (hlk : meth.locks = false) (hk4 : ∀ (x2 : Int32) (x3 : Int32), k4 x2 x3 = some rv → V p l e (rmk 4) s m args below meth c 4 G 0 0 (MQ below (gQ G (some (.int rv)) M) args s 0 0 (gA G)) 4 [(0, .ref (adr G 7 0)), (1, .int x1), (2, .int x2), (3, .int x3)] [] M) (h : B_X9_holdersOf_40 k4 x1 x3 z0 z1 M = some rv) : V p l e (rmk 4) s m args below meth c 4 G 0 0 (MQ below (gQ G (some (.int rv)) M) args s 0 0 (gA G)) 40 [(0, .ref (adr G 7 0)), (1, .int x1), (3, .int x3)] [.int z0, .int z1] M := by
  refine V_ior hC dX9_holdersOf_40 ?_
  refine V_istore_n hC ([(2, .int (z1 ||| z0)), (0, .ref (adr G 7 0)), (1, .int x1), (3, .int x3)]) dX9_holdersOf_41 rfl (by decide) rfl ?_
  refine V_iinc hC (x3 + 1) ([(3, .int (x3 + 1)), (2, .int (z1 ||| z0)), (0, .ref (adr G 7 0)), (1, .int x1)]) dX9_holdersOf_42 3 rfl rfl (by decide) rfl ?_
  refine V_goto hC 4 dX9_holdersOf_45 (by decide) ?_
  refine V_sub [2, 3, 1, 0] rfl ?_
  exact hk4 _ _ h
theorem b_X9_holdersOf_39 {rv : Int32} {k4 : Int32 → Int32 → Option Int32} {x1 : Int32} {x3 : Int32} {z0 : Int32} {M : Mem} (hC : Cx p s m args c cX9_holdersOf RX9 4 G) (hr : meth.sig.returnType = some .int) (hlk : meth.locks = false) (hk4 : ∀ (x2 : Int32) (x3 : Int32), k4 x2 x3 = some rv → V p l e (rmk 4) s m args below meth c 4 G 0 0 (MQ below (gQ G (some (.int rv)) M) args s 0 0 (gA G)) 4 [(0, .ref (adr G 7 0)), (1, .int x1), (2, .int x2), (3, .int x3)] [] M) (h : B_X9_holdersOf_39 k4 x1 x3 z0 M = some rv) : V p l e (rmk 4) s m args below meth c 4 G 0 0 (MQ below (gQ G (some (.int rv)) M) args s 0 0 (gA G)) 39 [(0, .ref (adr G 7 0)), (1, .int x1), (3, .int x3)] [.int z0] M := by
  refine V_iconst hC (0 : Int32) dX9_holdersOf_39 (by decide) ?_
  exact b_X9_holdersOf_40 hC hr hlk hk4 h
theorem l_X9_holdersOf_4 {rv : Int32} {x1 : Int32} {M : Mem} (hC : Cx p s m args c cX9_holdersOf RX9 4 G) (hr : meth.sig.returnType = some .int) (hlk : meth.locks = false) : ∀ (n : Nat) {x2 : Int32} {x3 : Int32} (h : L_X9_holdersOf_4 x1 M n x2 x3 = some rv), V p l e (rmk 4) s m args below meth c 4 G 0 0 (MQ below (gQ G (some (.int rv)) M) args s 0 0 (gA G)) 4 [(0, .ref (adr G 7 0)), (1, .int x1), (2, .int x2), (3, .int x3)] [] M := by
  intro n
  induction n with
  | zero => intro x2 x3 h; cases h
  | succ n ih =>
    intro x2 x3 h
    have hk4 : ∀ (x2 : Int32) (x3 : Int32), L_X9_holdersOf_4 x1 M n x2 x3 = some rv → V p l e (rmk 4) s m args below meth c 4 G 0 0 (MQ below (gQ G (some (.int rv)) M) args s 0 0 (gA G)) 4 [(0, .ref (adr G 7 0)), (1, .int x1), (2, .int x2), (3, .int x3)] [] M := fun _ _ z => ih z
    refine V_iload_n hC dX9_holdersOf_4 rfl 3 rfl ?_
    refine V_bipush hC (10 : Int32) dX9_holdersOf_5 (by decide) ?_
    refine V_icmp_ge hC 48 dX9_holdersOf_7 (by decide) (fun c1 => ?_) (fun c1 => ?_)
    · have h := ite_t c1 h
      refine V_iload_n hC dX9_holdersOf_48 rfl 2 rfl ?_
      obtain rfl := Option.some.inj h
      exact V_iret hC hr hlk dX9_holdersOf_49
    · have h := ite_f c1 h
      refine V_iload_n hC dX9_holdersOf_10 rfl 2 rfl ?_
      refine V_aload_n hC dX9_holdersOf_11 rfl 0 rfl ?_
      refine V_iload_n hC dX9_holdersOf_12 rfl 3 rfl ?_
      obtain ⟨q2, e2, h⟩ := bind_some h
      refine V_cVr hC [.int x3] (c_X9_isHeld (l := l) hC.2.2.2.2.2.2.2 e2) kd_X9_isHeld kv_X9_isHeld gw_1439 (r_m0_0).o rfl ⟨Nat.le_of_ble_eq_true rfl, Nat.le_of_ble_eq_true rfl⟩ rfl (Nat.le_of_ble_eq_true rfl) dX9_holdersOf_13 ⟨Nat.zero_le _, Nat.zero_le _⟩ rfl ?_
      refine V_if_eq hC 39 dX9_holdersOf_16 (by decide) (fun c3 => ?_) (fun c3 => ?_)
      · have h := ite_t c3 h
        refine V_sub [0, 1, 3] rfl ?_
        exact b_X9_holdersOf_39 hC hr hlk hk4 h
      · have h := ite_f c3 h
        refine V_aload_n hC dX9_holdersOf_19 rfl 0 rfl ?_
        refine V_iload_n hC dX9_holdersOf_20 rfl 1 rfl ?_
        refine V_aload_n hC dX9_holdersOf_21 rfl 0 rfl ?_
        refine V_iload_n hC dX9_holdersOf_22 rfl 3 rfl ?_
        refine V_iconst hC (2 : Int32) dX9_holdersOf_23 (by decide) ?_
        obtain ⟨q4, e4, h⟩ := bind_some h
        refine V_cVr hC [.int x3, .int (2 : Int32)] (c_X9_get (l := l) hC.2.2.2.2.2.2.2 e4) kd_X9_get kv_X9_get gw_1345 (r_m0_0).o rfl ⟨Nat.le_of_ble_eq_true rfl, Nat.le_of_ble_eq_true rfl⟩ rfl (Nat.le_of_ble_eq_true rfl) dX9_holdersOf_24 ⟨Nat.zero_le _, Nat.zero_le _⟩ rfl ?_
        obtain ⟨q5, e5, h⟩ := bind_some h
        refine V_cVr hC [.int x1, .int q4] (c_X9_isIn (l := l) hC.2.2.2.2.2.2.2 e5) kd_X9_isIn kv_X9_isIn gw_1352 (r_m0_0).o rfl ⟨Nat.le_of_ble_eq_true rfl, Nat.le_of_ble_eq_true rfl⟩ rfl (Nat.le_of_ble_eq_true rfl) dX9_holdersOf_27 ⟨Nat.zero_le _, Nat.zero_le _⟩ rfl ?_
        refine V_if_eq hC 39 dX9_holdersOf_30 (by decide) (fun c6 => ?_) (fun c6 => ?_)
        · have h := ite_t c6 h
          refine V_sub [0, 1, 3] rfl ?_
          exact b_X9_holdersOf_39 hC hr hlk hk4 h
        · have h := ite_f c6 h
          refine V_iconst hC (1 : Int32) dX9_holdersOf_33 (by decide) ?_
          refine V_iload_n hC dX9_holdersOf_34 rfl 3 rfl ?_
          refine V_ishl hC dX9_holdersOf_35 ?_
          refine V_goto hC 40 dX9_holdersOf_36 (by decide) ?_
          refine V_sub [0, 1, 3] rfl ?_
          exact b_X9_holdersOf_40 hC hr hlk hk4 h
theorem c_X9_holdersOf {l : Launch} {G : Geo} {x1 : Int32} {rv : Int32} {M : Mem} (hG : gD G) (h : f_X9_holdersOf x1 M = some rv) : Met l yX9_holdersOf (.code yX9_holdersOf cX9_holdersOf 4 (some .int) :: GL) (rmk 4) (gP G [.ref (adr G 7 0), .int x1] M) (gQ G (some (.int rv)) M) 0 0 (gA G) := by
  refine Met_of (own := RX9) (L := [(0, .ref (adr G 7 0)), (1, .int x1)]) hG (by decide +kernel) rfl (Nat.le_of_ble_eq_true rfl) rfl ?_
  intro p e s m args below meth c hC hr hlk
  refine V_iconst hC (0 : Int32) dX9_holdersOf_0 (by decide) ?_
  refine V_istore_n hC ([(2, .int (0 : Int32)), (0, .ref (adr G 7 0)), (1, .int x1)]) dX9_holdersOf_1 rfl (by decide) rfl ?_
  refine V_iconst hC (0 : Int32) dX9_holdersOf_2 (by decide) ?_
  refine V_istore_n hC ([(3, .int (0 : Int32)), (2, .int (0 : Int32)), (0, .ref (adr G 7 0)), (1, .int x1)]) dX9_holdersOf_3 rfl (by decide) rfl ?_
  refine V_sub [2, 3, 1, 0] rfl ?_
  exact l_X9_holdersOf_4 hC hr hlk FU h
theorem c_X9_absorbs {l : Launch} {G : Geo} {x1 : Int32} {x2 : Int32} {x3 : Int32} {x4 : Int32} {rv : Int32} {M : Mem} (hG : gD G) (h : f_X9_absorbs x1 x2 x3 x4 M = some rv) : Met l yX9_absorbs (.code yX9_absorbs cX9_absorbs 5 (some .boolean) :: GL) (rmk 4) (gP G [.ref (adr G 7 0), .int x1, .int x2, .int x3, .int x4] M) (gQ G (some (.int rv)) M) 0 0 (gA G) := by
  refine Met_of (own := RX9) (L := [(0, .ref (adr G 7 0)), (1, .int x1), (2, .int x2), (3, .int x3), (4, .int x4)]) hG (by decide +kernel) rfl (Nat.le_of_ble_eq_true rfl) rfl ?_
  intro p e s m args below meth c hC hr hlk
  refine V_iload_n hC dX9_absorbs_0 rfl 3 rfl ?_
  refine V_if_ne hC 54 dX9_absorbs_1 (by decide) (fun c1 => ?_) (fun c1 => ?_)
  · have h := ite_f c1 h
    refine V_iconst hC (0 : Int32) dX9_absorbs_54 (by decide) ?_
    obtain rfl := Option.some.inj h
    exact V_zret hC hr hlk (Or.inl rfl) dX9_absorbs_55
  · have h := ite_t c1 h
    refine V_aload_n hC dX9_absorbs_4 rfl 0 rfl ?_
    refine V_iload hC dX9_absorbs_5 4 rfl ?_
    obtain ⟨q2, e2, h⟩ := bind_some h
    refine V_cVr hC [.int x4] (c_X9_isHeld (l := l) hC.2.2.2.2.2.2.2 e2) kd_X9_isHeld kv_X9_isHeld gw_1439 (r_m0_0).o rfl ⟨Nat.le_of_ble_eq_true rfl, Nat.le_of_ble_eq_true rfl⟩ rfl (Nat.le_of_ble_eq_true rfl) dX9_absorbs_7 ⟨Nat.zero_le _, Nat.zero_le _⟩ rfl ?_
    refine V_if_eq hC 54 dX9_absorbs_10 (by decide) (fun c3 => ?_) (fun c3 => ?_)
    · have h := ite_t c3 h
      refine V_iconst hC (0 : Int32) dX9_absorbs_54 (by decide) ?_
      obtain rfl := Option.some.inj h
      exact V_zret hC hr hlk (Or.inl rfl) dX9_absorbs_55
    · have h := ite_f c3 h
      refine V_aload_n hC dX9_absorbs_13 rfl 0 rfl ?_
      refine V_iload hC dX9_absorbs_14 4 rfl ?_
      refine V_iconst hC (1 : Int32) dX9_absorbs_16 (by decide) ?_
      obtain ⟨q4, e4, h⟩ := bind_some h
      refine V_cVr hC [.int x4, .int (1 : Int32)] (c_X9_get (l := l) hC.2.2.2.2.2.2.2 e4) kd_X9_get kv_X9_get gw_1345 (r_m0_0).o rfl ⟨Nat.le_of_ble_eq_true rfl, Nat.le_of_ble_eq_true rfl⟩ rfl (Nat.le_of_ble_eq_true rfl) dX9_absorbs_17 ⟨Nat.zero_le _, Nat.zero_le _⟩ rfl ?_
      refine V_iload_n hC dX9_absorbs_20 rfl 1 rfl ?_
      refine V_icmp_ne hC 54 dX9_absorbs_21 (by decide) (fun c5 => ?_) (fun c5 => ?_)
      · have h := ite_f c5 h
        refine V_iconst hC (0 : Int32) dX9_absorbs_54 (by decide) ?_
        obtain rfl := Option.some.inj h
        exact V_zret hC hr hlk (Or.inl rfl) dX9_absorbs_55
      · have h := ite_t c5 h
        refine V_aload_n hC dX9_absorbs_24 rfl 0 rfl ?_
        refine V_iload hC dX9_absorbs_25 4 rfl ?_
        refine V_iconst hC (2 : Int32) dX9_absorbs_27 (by decide) ?_
        obtain ⟨q6, e6, h⟩ := bind_some h
        refine V_cVr hC [.int x4, .int (2 : Int32)] (c_X9_get (l := l) hC.2.2.2.2.2.2.2 e6) kd_X9_get kv_X9_get gw_1345 (r_m0_0).o rfl ⟨Nat.le_of_ble_eq_true rfl, Nat.le_of_ble_eq_true rfl⟩ rfl (Nat.le_of_ble_eq_true rfl) dX9_absorbs_28 ⟨Nat.zero_le _, Nat.zero_le _⟩ rfl ?_
        refine V_iload_n hC dX9_absorbs_31 rfl 2 rfl ?_
        refine V_icmp_eq hC 54 dX9_absorbs_32 (by decide) (fun c7 => ?_) (fun c7 => ?_)
        · have h := ite_t c7 h
          refine V_iconst hC (0 : Int32) dX9_absorbs_54 (by decide) ?_
          obtain rfl := Option.some.inj h
          exact V_zret hC hr hlk (Or.inl rfl) dX9_absorbs_55
        · have h := ite_f c7 h
          refine V_aload_n hC dX9_absorbs_35 rfl 0 rfl ?_
          refine V_aload_n hC dX9_absorbs_36 rfl 0 rfl ?_
          refine V_iload hC dX9_absorbs_37 4 rfl ?_
          refine V_iconst hC (2 : Int32) dX9_absorbs_39 (by decide) ?_
          obtain ⟨q8, e8, h⟩ := bind_some h
          refine V_cVr hC [.int x4, .int (2 : Int32)] (c_X9_get (l := l) hC.2.2.2.2.2.2.2 e8) kd_X9_get kv_X9_get gw_1345 (r_m0_0).o rfl ⟨Nat.le_of_ble_eq_true rfl, Nat.le_of_ble_eq_true rfl⟩ rfl (Nat.le_of_ble_eq_true rfl) dX9_absorbs_40 ⟨Nat.zero_le _, Nat.zero_le _⟩ rfl ?_
          refine V_iload_n hC dX9_absorbs_43 rfl 2 rfl ?_
          obtain ⟨q9, e9, h⟩ := bind_some h
          refine V_cVr hC [.int q8, .int x2] (c_X9_isIn (l := l) hC.2.2.2.2.2.2.2 e9) kd_X9_isIn kv_X9_isIn gw_1352 (r_m0_0).o rfl ⟨Nat.le_of_ble_eq_true rfl, Nat.le_of_ble_eq_true rfl⟩ rfl (Nat.le_of_ble_eq_true rfl) dX9_absorbs_44 ⟨Nat.zero_le _, Nat.zero_le _⟩ rfl ?_
          refine V_if_eq hC 54 dX9_absorbs_47 (by decide) (fun c10 => ?_) (fun c10 => ?_)
          · have h := ite_t c10 h
            refine V_iconst hC (0 : Int32) dX9_absorbs_54 (by decide) ?_
            obtain rfl := Option.some.inj h
            exact V_zret hC hr hlk (Or.inl rfl) dX9_absorbs_55
          · have h := ite_f c10 h
            refine V_iconst hC (1 : Int32) dX9_absorbs_50 (by decide) ?_
            refine V_goto hC 55 dX9_absorbs_51 (by decide) ?_
            obtain rfl := Option.some.inj h
            exact V_zret hC hr hlk (Or.inr rfl) dX9_absorbs_55
theorem b_X9_bars_21 {rv : Int32} {x1 : Int32} {x2 : Int32} {x3 : Int32} {x4 : Int32} {z0 : Int32} {M : Mem} (hC : Cx p s m args c cX9_bars RX9 6 G) (hr : meth.sig.returnType = some .boolean) (hlk : meth.locks = false) (h : B_X9_bars_21 x1 x2 x3 x4 z0 M = some rv) : V p l e (rmk 5) s m args below meth c 6 G 0 0 (MQ below (gQ G (some (.int rv)) M) args s 0 0 (gA G)) 21 [(0, .ref (adr G 7 0)), (1, .int x1), (2, .int x2), (3, .int x3), (4, .int x4)] [.int z0] M := by
  refine V_istore hC ([(5, .int z0), (0, .ref (adr G 7 0)), (1, .int x1), (2, .int x2), (3, .int x3), (4, .int x4)]) dX9_bars_21 (by decide) rfl ?_
  refine V_aload_n hC dX9_bars_23 rfl 1 rfl ?_
  refine V_iload hC dX9_bars_24 5 rfl ?_
  obtain ⟨q2, e2, h⟩ := bind_some h
  refine V_cVr hC [.int x4] (c_X9_isHeld (l := l) hC.2.2.2.2.2.2.2 e2) kd_X9_isHeld kv_X9_isHeld gw_1439 (r_m0_0).o rfl ⟨Nat.le_of_ble_eq_true rfl, Nat.le_of_ble_eq_true rfl⟩ rfl (Nat.le_of_ble_eq_true rfl) dX9_bars_26 ⟨Nat.zero_le _, Nat.zero_le _⟩ rfl ?_
  refine V_if_eq hC 68 dX9_bars_29 (by decide) (fun c3 => ?_) (fun c3 => ?_)
  · have h := ite_t c3 h
    refine V_iconst hC (0 : Int32) dX9_bars_68 (by decide) ?_
    obtain rfl := Option.some.inj h
    exact V_zret hC hr hlk (Or.inl rfl) dX9_bars_69
  · have h := ite_f c3 h
    refine V_aload_n hC dX9_bars_32 rfl 1 rfl ?_
    refine V_iload_n hC dX9_bars_33 rfl 3 rfl ?_
    refine V_aload_n hC dX9_bars_34 rfl 1 rfl ?_
    refine V_iload hC dX9_bars_35 5 rfl ?_
    refine V_iconst hC (2 : Int32) dX9_bars_37 (by decide) ?_
    obtain ⟨q4, e4, h⟩ := bind_some h
    refine V_cVr hC [.int x4, .int (2 : Int32)] (c_X9_get (l := l) hC.2.2.2.2.2.2.2 e4) kd_X9_get kv_X9_get gw_1345 (r_m0_0).o rfl ⟨Nat.le_of_ble_eq_true rfl, Nat.le_of_ble_eq_true rfl⟩ rfl (Nat.le_of_ble_eq_true rfl) dX9_bars_38 ⟨Nat.zero_le _, Nat.zero_le _⟩ rfl ?_
    obtain ⟨q5, e5, h⟩ := bind_some h
    refine V_cVr hC [.int x2, .int q4] (c_X9_overlap (l := l) hC.2.2.2.2.2.2.2 e5) kd_X9_overlap kv_X9_overlap gw_1379 (r_m0_0).o rfl ⟨Nat.le_of_ble_eq_true rfl, Nat.le_of_ble_eq_true rfl⟩ rfl (Nat.le_of_ble_eq_true rfl) dX9_bars_41 ⟨Nat.zero_le _, Nat.zero_le _⟩ rfl ?_
    refine V_if_eq hC 68 dX9_bars_44 (by decide) (fun c6 => ?_) (fun c6 => ?_)
    · have h := ite_t c6 h
      refine V_iconst hC (0 : Int32) dX9_bars_68 (by decide) ?_
      obtain rfl := Option.some.inj h
      exact V_zret hC hr hlk (Or.inl rfl) dX9_bars_69
    · have h := ite_f c6 h
      refine V_iload hC dX9_bars_47 0 rfl ?_
      refine V_if_ne hC 68 dX9_bars_49 (by decide) (fun c7 => ?_) (fun c7 => ?_)
      · have h := ite_f c7 h
        refine V_iconst hC (0 : Int32) dX9_bars_68 (by decide) ?_
        obtain rfl := Option.some.inj h
        exact V_zret hC hr hlk (Or.inl rfl) dX9_bars_69
      · have h := ite_t c7 h
        refine V_aload_n hC dX9_bars_52 rfl 1 rfl ?_
        refine V_iload_n hC dX9_bars_53 rfl 2 rfl ?_
        refine V_iload_n hC dX9_bars_54 rfl 3 rfl ?_
        refine V_iload_n hC dX9_bars_55 rfl 4 rfl ?_
        refine V_iload hC dX9_bars_56 5 rfl ?_
        obtain ⟨q8, e8, h⟩ := bind_some h
        refine V_cVr hC [.int x1, .int x2, .int x3, .int x4] (c_X9_absorbs (l := l) hC.2.2.2.2.2.2.2 e8) kd_X9_absorbs kv_X9_absorbs gw_1482 (r_m0_0).o rfl ⟨Nat.le_of_ble_eq_true rfl, Nat.le_of_ble_eq_true rfl⟩ rfl (Nat.le_of_ble_eq_true rfl) dX9_bars_58 ⟨Nat.zero_le _, Nat.zero_le _⟩ rfl ?_
        refine V_if_ne hC 68 dX9_bars_61 (by decide) (fun c9 => ?_) (fun c9 => ?_)
        · have h := ite_f c9 h
          refine V_iconst hC (0 : Int32) dX9_bars_68 (by decide) ?_
          obtain rfl := Option.some.inj h
          exact V_zret hC hr hlk (Or.inl rfl) dX9_bars_69
        · have h := ite_t c9 h
          refine V_iconst hC (1 : Int32) dX9_bars_64 (by decide) ?_
          refine V_goto hC 69 dX9_bars_65 (by decide) ?_
          obtain rfl := Option.some.inj h
          exact V_zret hC hr hlk (Or.inr rfl) dX9_bars_69
theorem b_X9_bars_20 {rv : Int32} {x1 : Int32} {x2 : Int32} {x3 : Int32} {x4 : Int32} {M : Mem} (hC : Cx p s m args c cX9_bars RX9 6 G) (hr : meth.sig.returnType = some .boolean) (hlk : meth.locks = false) (h : B_X9_bars_20 x1 x2 x3 x4 M = some rv) : V p l e (rmk 5) s m args below meth c 6 G 0 0 (MQ below (gQ G (some (.int rv)) M) args s 0 0 (gA G)) 20 [(0, .ref (adr G 7 0)), (1, .int x1), (2, .int x2), (3, .int x3), (4, .int x4)] [] M := by
  refine V_iconst hC (0 : Int32) dX9_bars_20 (by decide) ?_
  exact b_X9_bars_21 hC hr hlk h
theorem c_X9_bars {l : Launch} {G : Geo} {x1 : Int32} {x2 : Int32} {x3 : Int32} {x4 : Int32} {rv : Int32} {M : Mem} (hG : gD G) (h : f_X9_bars x1 x2 x3 x4 M = some rv) : Met l yX9_bars (.code yX9_bars cX9_bars 6 (some .boolean) :: GL) (rmk 5) (gP G [.ref (adr G 7 0), .int x1, .int x2, .int x3, .int x4] M) (gQ G (some (.int rv)) M) 0 0 (gA G) := by
  refine Met_of (own := RX9) (L := [(0, .ref (adr G 7 0)), (1, .int x1), (2, .int x2), (3, .int x3), (4, .int x4)]) hG (by decide +kernel) rfl (Nat.le_of_ble_eq_true rfl) rfl ?_
  intro p e s m args below meth c hC hr hlk
  refine V_iload_n hC dX9_bars_0 rfl 3 rfl ?_
  refine V_iconst hC (1 : Int32) dX9_bars_1 (by decide) ?_
  refine V_icmp_ne hC 20 dX9_bars_2 (by decide) (fun c1 => ?_) (fun c1 => ?_)
  · have h := ite_f c1 h
    exact b_X9_bars_20 hC hr hlk h
  · have h := ite_t c1 h
    refine V_aload_n hC dX9_bars_5 rfl 0 rfl ?_
    refine V_iload hC dX9_bars_6 4 rfl ?_
    refine V_iconst hC (5 : Int32) dX9_bars_8 (by decide) ?_
    obtain ⟨q10, e10, h⟩ := bind_some h
    refine V_cVr hC [.int x4, .int (5 : Int32)] (c_X9_get (l := l) hC.2.2.2.2.2.2.2 e10) kd_X9_get kv_X9_get gw_1345 (r_m0_0).o rfl ⟨Nat.le_of_ble_eq_true rfl, Nat.le_of_ble_eq_true rfl⟩ rfl (Nat.le_of_ble_eq_true rfl) dX9_bars_9 ⟨Nat.zero_le _, Nat.zero_le _⟩ rfl ?_
    refine V_iconst hC (1 : Int32) dX9_bars_12 (by decide) ?_
    refine V_icmp_ne hC 20 dX9_bars_13 (by decide) (fun c11 => ?_) (fun c11 => ?_)
    · have h := ite_f c11 h
      exact b_X9_bars_20 hC hr hlk h
    · have h := ite_t c11 h
      refine V_iconst hC (1 : Int32) dX9_bars_16 (by decide) ?_
      refine V_goto hC 21 dX9_bars_17 (by decide) ?_
      exact b_X9_bars_21 hC hr hlk h
theorem b_X9_canGrant_68 {rv : Int32} {k9 : Int32 → Int32 → Int32 → Option Int32} {x1 : Int32} {x2 : Int32} {x3 : Int32} {x4 : Int32} {x6 : Int32} {z0 : Int32} {z1 : Int32} {M : Mem} (hC : Cx p s m args c cX9_canGrant RX9 7 G) (hr : meth.sig.returnType = some .boolean) (hlk : meth.locks = false) (hk9 : ∀ (x4 : Int32) (x5 : Int32) (x6 : Int32), k9 x4 x5 x6 = some rv → V p l e (rmk 6) s m args below meth c 7 G 0 0 (MQ below (gQ G (some (.int rv)) M) args s 0 0 (gA G)) 9 [(0, .ref (adr G 7 0)), (1, .int x1), (2, .int x2), (3, .int x3), (4, .int x4), (5, .int x5), (6, .int x6)] [] M) (h : B_X9_canGrant_68 k9 x1 x2 x3 x4 x6 z0 z1 M = some rv) : V p l e (rmk 6) s m args below meth c 7 G 0 0 (MQ below (gQ G (some (.int rv)) M) args s 0 0 (gA G)) 68 [(0, .ref (adr G 7 0)), (1, .int x1), (2, .int x2), (3, .int x3), (4, .int x4), (6, .int x6)] [.int z0, .int z1] M := by
  refine V_iadd hC dX9_canGrant_68 ?_
  refine V_istore hC ([(5, .int (z1 + z0)), (0, .ref (adr G 7 0)), (1, .int x1), (2, .int x2), (3, .int x3), (4, .int x4), (6, .int x6)]) dX9_canGrant_69 (by decide) rfl ?_
  refine V_iinc hC (x6 + 1) ([(6, .int (x6 + 1)), (5, .int (z1 + z0)), (0, .ref (adr G 7 0)), (1, .int x1), (2, .int x2), (3, .int x3), (4, .int x4)]) dX9_canGrant_71 6 rfl rfl (by decide) rfl ?_
  refine V_goto hC 9 dX9_canGrant_74 (by decide) ?_
  refine V_sub [2, 3, 4, 5, 6, 1, 0] rfl ?_
  exact hk9 _ _ _ h
theorem b_X9_canGrant_67 {rv : Int32} {k9 : Int32 → Int32 → Int32 → Option Int32} {x1 : Int32} {x2 : Int32} {x3 : Int32} {x4 : Int32} {x6 : Int32} {z0 : Int32} {M : Mem} (hC : Cx p s m args c cX9_canGrant RX9 7 G) (hr : meth.sig.returnType = some .boolean) (hlk : meth.locks = false) (hk9 : ∀ (x4 : Int32) (x5 : Int32) (x6 : Int32), k9 x4 x5 x6 = some rv → V p l e (rmk 6) s m args below meth c 7 G 0 0 (MQ below (gQ G (some (.int rv)) M) args s 0 0 (gA G)) 9 [(0, .ref (adr G 7 0)), (1, .int x1), (2, .int x2), (3, .int x3), (4, .int x4), (5, .int x5), (6, .int x6)] [] M) (h : B_X9_canGrant_67 k9 x1 x2 x3 x4 x6 z0 M = some rv) : V p l e (rmk 6) s m args below meth c 7 G 0 0 (MQ below (gQ G (some (.int rv)) M) args s 0 0 (gA G)) 67 [(0, .ref (adr G 7 0)), (1, .int x1), (2, .int x2), (3, .int x3), (4, .int x4), (6, .int x6)] [.int z0] M := by
  refine V_iconst hC (0 : Int32) dX9_canGrant_67 (by decide) ?_
  exact b_X9_canGrant_68 hC hr hlk hk9 h
theorem b_X9_canGrant_38 {rv : Int32} {k9 : Int32 → Int32 → Int32 → Option Int32} {x1 : Int32} {x2 : Int32} {x3 : Int32} {x5 : Int32} {x6 : Int32} {z0 : Int32} {M : Mem} (hC : Cx p s m args c cX9_canGrant RX9 7 G) (hr : meth.sig.returnType = some .boolean) (hlk : meth.locks = false) (hk9 : ∀ (x4 : Int32) (x5 : Int32) (x6 : Int32), k9 x4 x5 x6 = some rv → V p l e (rmk 6) s m args below meth c 7 G 0 0 (MQ below (gQ G (some (.int rv)) M) args s 0 0 (gA G)) 9 [(0, .ref (adr G 7 0)), (1, .int x1), (2, .int x2), (3, .int x3), (4, .int x4), (5, .int x5), (6, .int x6)] [] M) (h : B_X9_canGrant_38 k9 x1 x2 x3 x5 x6 z0 M = some rv) : V p l e (rmk 6) s m args below meth c 7 G 0 0 (MQ below (gQ G (some (.int rv)) M) args s 0 0 (gA G)) 38 [(0, .ref (adr G 7 0)), (1, .int x1), (2, .int x2), (3, .int x3), (5, .int x5), (6, .int x6)] [.int z0] M := by
  refine V_istore hC ([(4, .int z0), (0, .ref (adr G 7 0)), (1, .int x1), (2, .int x2), (3, .int x3), (5, .int x5), (6, .int x6)]) dX9_canGrant_38 (by decide) rfl ?_
  refine V_iload hC dX9_canGrant_40 5 rfl ?_
  refine V_aload_n hC dX9_canGrant_42 rfl 1 rfl ?_
  refine V_iload hC dX9_canGrant_43 6 rfl ?_
  obtain ⟨q5, e5, h⟩ := bind_some h
  refine V_cVr hC [.int x6] (c_X9_isCheck (l := l) hC.2.2.2.2.2.2.2 e5) kd_X9_isCheck kv_X9_isCheck gw_1341 (r_m0_0).o rfl ⟨Nat.le_of_ble_eq_true rfl, Nat.le_of_ble_eq_true rfl⟩ rfl (Nat.le_of_ble_eq_true rfl) dX9_canGrant_45 ⟨Nat.zero_le _, Nat.zero_le _⟩ rfl ?_
  refine V_if_eq hC 67 dX9_canGrant_48 (by decide) (fun c6 => ?_) (fun c6 => ?_)
  · have h := ite_t c6 h
    refine V_sub [1, 2, 3, 4, 0, 6] rfl ?_
    exact b_X9_canGrant_67 hC hr hlk hk9 h
  · have h := ite_f c6 h
    refine V_aload_n hC dX9_canGrant_51 rfl 1 rfl ?_
    refine V_iload_n hC dX9_canGrant_52 rfl 2 rfl ?_
    refine V_iload_n hC dX9_canGrant_53 rfl 3 rfl ?_
    refine V_iload_n hC dX9_canGrant_54 rfl 4 rfl ?_
    refine V_iload hC dX9_canGrant_55 6 rfl ?_
    obtain ⟨q7, e7, h⟩ := bind_some h
    refine V_cVr hC [.int x1, .int x2, .int x3, .int x6] (c_X9_absorbs (l := l) hC.2.2.2.2.2.2.2 e7) kd_X9_absorbs kv_X9_absorbs gw_1482 (r_m0_0).o rfl ⟨Nat.le_of_ble_eq_true rfl, Nat.le_of_ble_eq_true rfl⟩ rfl (Nat.le_of_ble_eq_true rfl) dX9_canGrant_57 ⟨Nat.zero_le _, Nat.zero_le _⟩ rfl ?_
    refine V_if_ne hC 67 dX9_canGrant_60 (by decide) (fun c8 => ?_) (fun c8 => ?_)
    · have h := ite_f c8 h
      refine V_sub [1, 2, 3, 4, 0, 6] rfl ?_
      exact b_X9_canGrant_67 hC hr hlk hk9 h
    · have h := ite_t c8 h
      refine V_iconst hC (1 : Int32) dX9_canGrant_63 (by decide) ?_
      refine V_goto hC 68 dX9_canGrant_64 (by decide) ?_
      refine V_sub [1, 2, 3, 4, 0, 6] rfl ?_
      exact b_X9_canGrant_68 hC hr hlk hk9 h
theorem b_X9_canGrant_37 {rv : Int32} {k9 : Int32 → Int32 → Int32 → Option Int32} {x1 : Int32} {x2 : Int32} {x3 : Int32} {x5 : Int32} {x6 : Int32} {M : Mem} (hC : Cx p s m args c cX9_canGrant RX9 7 G) (hr : meth.sig.returnType = some .boolean) (hlk : meth.locks = false) (hk9 : ∀ (x4 : Int32) (x5 : Int32) (x6 : Int32), k9 x4 x5 x6 = some rv → V p l e (rmk 6) s m args below meth c 7 G 0 0 (MQ below (gQ G (some (.int rv)) M) args s 0 0 (gA G)) 9 [(0, .ref (adr G 7 0)), (1, .int x1), (2, .int x2), (3, .int x3), (4, .int x4), (5, .int x5), (6, .int x6)] [] M) (h : B_X9_canGrant_37 k9 x1 x2 x3 x5 x6 M = some rv) : V p l e (rmk 6) s m args below meth c 7 G 0 0 (MQ below (gQ G (some (.int rv)) M) args s 0 0 (gA G)) 37 [(0, .ref (adr G 7 0)), (1, .int x1), (2, .int x2), (3, .int x3), (5, .int x5), (6, .int x6)] [] M := by
  refine V_iconst hC (0 : Int32) dX9_canGrant_37 (by decide) ?_
  exact b_X9_canGrant_38 hC hr hlk hk9 h
theorem l_X9_canGrant_9 {rv : Int32} {x1 : Int32} {x2 : Int32} {x3 : Int32} {M : Mem} (hC : Cx p s m args c cX9_canGrant RX9 7 G) (hr : meth.sig.returnType = some .boolean) (hlk : meth.locks = false) : ∀ (n : Nat) {x4 : Int32} {x5 : Int32} {x6 : Int32} (h : L_X9_canGrant_9 x1 x2 x3 M n x4 x5 x6 = some rv), V p l e (rmk 6) s m args below meth c 7 G 0 0 (MQ below (gQ G (some (.int rv)) M) args s 0 0 (gA G)) 9 [(0, .ref (adr G 7 0)), (1, .int x1), (2, .int x2), (3, .int x3), (4, .int x4), (5, .int x5), (6, .int x6)] [] M := by
  intro n
  induction n with
  | zero => intro x4 x5 x6 h; cases h
  | succ n ih =>
    intro x4 x5 x6 h
    have hk9 : ∀ (x4 : Int32) (x5 : Int32) (x6 : Int32), L_X9_canGrant_9 x1 x2 x3 M n x4 x5 x6 = some rv → V p l e (rmk 6) s m args below meth c 7 G 0 0 (MQ below (gQ G (some (.int rv)) M) args s 0 0 (gA G)) 9 [(0, .ref (adr G 7 0)), (1, .int x1), (2, .int x2), (3, .int x3), (4, .int x4), (5, .int x5), (6, .int x6)] [] M := fun _ _ _ z => ih z
    refine V_iload hC dX9_canGrant_9 6 rfl ?_
    refine V_bipush hC (10 : Int32) dX9_canGrant_11 (by decide) ?_
    refine V_icmp_ge hC 77 dX9_canGrant_13 (by decide) (fun c1 => ?_) (fun c1 => ?_)
    · have h := ite_t c1 h
      refine V_iload hC dX9_canGrant_77 4 rfl ?_
      refine V_if_eq hC 93 dX9_canGrant_79 (by decide) (fun c2 => ?_) (fun c2 => ?_)
      · have h := ite_t c2 h
        refine V_iconst hC (0 : Int32) dX9_canGrant_93 (by decide) ?_
        obtain rfl := Option.some.inj h
        exact V_zret hC hr hlk (Or.inl rfl) dX9_canGrant_94
      · have h := ite_f c2 h
        refine V_iload hC dX9_canGrant_82 5 rfl ?_
        refine V_bipush hC (10 : Int32) dX9_canGrant_84 (by decide) ?_
        refine V_icmp_ge hC 93 dX9_canGrant_86 (by decide) (fun c3 => ?_) (fun c3 => ?_)
        · have h := ite_t c3 h
          refine V_iconst hC (0 : Int32) dX9_canGrant_93 (by decide) ?_
          obtain rfl := Option.some.inj h
          exact V_zret hC hr hlk (Or.inl rfl) dX9_canGrant_94
        · have h := ite_f c3 h
          refine V_iconst hC (1 : Int32) dX9_canGrant_89 (by decide) ?_
          refine V_goto hC 94 dX9_canGrant_90 (by decide) ?_
          obtain rfl := Option.some.inj h
          exact V_zret hC hr hlk (Or.inr rfl) dX9_canGrant_94
    · have h := ite_f c1 h
      refine V_iload hC dX9_canGrant_16 4 rfl ?_
      refine V_if_eq hC 37 dX9_canGrant_18 (by decide) (fun c4 => ?_) (fun c4 => ?_)
      · have h := ite_t c4 h
        refine V_sub [0, 1, 2, 3, 5, 6] rfl ?_
        exact b_X9_canGrant_37 hC hr hlk hk9 h
      · have h := ite_f c4 h
        refine V_aload_n hC dX9_canGrant_21 rfl 0 rfl ?_
        refine V_iload_n hC dX9_canGrant_22 rfl 1 rfl ?_
        refine V_iload_n hC dX9_canGrant_23 rfl 2 rfl ?_
        refine V_iload_n hC dX9_canGrant_24 rfl 3 rfl ?_
        refine V_iload hC dX9_canGrant_25 6 rfl ?_
        obtain ⟨q9, e9, h⟩ := bind_some h
        refine V_cVr hC [.int x1, .int x2, .int x3, .int x6] (c_X9_bars (l := l) hC.2.2.2.2.2.2.2 e9) kd_X9_bars kv_X9_bars gw_1478 (r_m0_0).o rfl ⟨Nat.le_of_ble_eq_true rfl, Nat.le_of_ble_eq_true rfl⟩ rfl (Nat.le_of_ble_eq_true rfl) dX9_canGrant_27 ⟨Nat.zero_le _, Nat.zero_le _⟩ rfl ?_
        refine V_if_ne hC 37 dX9_canGrant_30 (by decide) (fun c10 => ?_) (fun c10 => ?_)
        · have h := ite_f c10 h
          refine V_sub [0, 1, 2, 3, 5, 6] rfl ?_
          exact b_X9_canGrant_37 hC hr hlk hk9 h
        · have h := ite_t c10 h
          refine V_iconst hC (1 : Int32) dX9_canGrant_33 (by decide) ?_
          refine V_goto hC 38 dX9_canGrant_34 (by decide) ?_
          refine V_sub [0, 1, 2, 3, 5, 6] rfl ?_
          exact b_X9_canGrant_38 hC hr hlk hk9 h
theorem c_X9_canGrant {l : Launch} {G : Geo} {x1 : Int32} {x2 : Int32} {x3 : Int32} {rv : Int32} {M : Mem} (hG : gD G) (h : f_X9_canGrant x1 x2 x3 M = some rv) : Met l yX9_canGrant (.code yX9_canGrant cX9_canGrant 7 (some .boolean) :: GL) (rmk 6) (gP G [.ref (adr G 7 0), .int x1, .int x2, .int x3] M) (gQ G (some (.int rv)) M) 0 0 (gA G) := by
  refine Met_of (own := RX9) (L := [(0, .ref (adr G 7 0)), (1, .int x1), (2, .int x2), (3, .int x3)]) hG (by decide +kernel) rfl (Nat.le_of_ble_eq_true rfl) rfl ?_
  intro p e s m args below meth c hC hr hlk
  refine V_iconst hC (1 : Int32) dX9_canGrant_0 (by decide) ?_
  refine V_istore hC ([(4, .int (1 : Int32)), (0, .ref (adr G 7 0)), (1, .int x1), (2, .int x2), (3, .int x3)]) dX9_canGrant_1 (by decide) rfl ?_
  refine V_iconst hC (0 : Int32) dX9_canGrant_3 (by decide) ?_
  refine V_istore hC ([(5, .int (0 : Int32)), (4, .int (1 : Int32)), (0, .ref (adr G 7 0)), (1, .int x1), (2, .int x2), (3, .int x3)]) dX9_canGrant_4 (by decide) rfl ?_
  refine V_iconst hC (0 : Int32) dX9_canGrant_6 (by decide) ?_
  refine V_istore hC ([(6, .int (0 : Int32)), (5, .int (0 : Int32)), (4, .int (1 : Int32)), (0, .ref (adr G 7 0)), (1, .int x1), (2, .int x2), (3, .int x3)]) dX9_canGrant_7 (by decide) rfl ?_
  refine V_sub [3, 4, 5, 6, 2, 1, 0] rfl ?_
  exact l_X9_canGrant_9 hC hr hlk FU h
theorem b_X9_takesOver_68 {Mf : Mem} {k2 : Int32 → Mem → Option Mem} {x1 : Int32} {x2 : Int32} {M : Mem} (hC : Cx p s m args c cX9_takesOver RX9 4 G) (hr : meth.sig.returnType = none) (hlk : meth.locks = false) (hk2 : ∀ (x2 : Int32) (M : Mem), k2 x2 M = some Mf → V p l e (rmk 2) s m args below meth c 4 G 0 0 (MQ below (gQ G none Mf) args s 0 0 (gA G)) 2 [(0, .ref (adr G 7 0)), (1, .int x1), (2, .int x2)] [] M) (h : B_X9_takesOver_68 k2 x1 x2 M = some Mf) : V p l e (rmk 2) s m args below meth c 4 G 0 0 (MQ below (gQ G none Mf) args s 0 0 (gA G)) 68 [(0, .ref (adr G 7 0)), (1, .int x1), (2, .int x2)] [] M := by
  refine V_iinc hC (x2 + 1) ([(2, .int (x2 + 1)), (0, .ref (adr G 7 0)), (1, .int x1)]) dX9_takesOver_68 2 rfl rfl (by decide) rfl ?_
  refine V_goto hC 2 dX9_takesOver_71 (by decide) ?_
  refine V_sub [1, 2, 0] rfl ?_
  exact hk2 _ _ h
theorem l_X9_takesOver_10 {k2 : Int32 → Mem → Option Mem} {Mf : Mem} {x1 : Int32} {x2 : Int32} (hC : Cx p s m args c cX9_takesOver RX9 4 G) (hr : meth.sig.returnType = none) (hlk : meth.locks = false) (hk2 : ∀ (x2 : Int32) (M : Mem), k2 x2 M = some Mf → V p l e (rmk 2) s m args below meth c 4 G 0 0 (MQ below (gQ G none Mf) args s 0 0 (gA G)) 2 [(0, .ref (adr G 7 0)), (1, .int x1), (2, .int x2)] [] M) : ∀ (n : Nat) {x3 : Int32} {M : Mem} (h : L_X9_takesOver_10 k2 x1 x2 n x3 M = some Mf), V p l e (rmk 2) s m args below meth c 4 G 0 0 (MQ below (gQ G none Mf) args s 0 0 (gA G)) 10 [(0, .ref (adr G 7 0)), (1, .int x1), (2, .int x2), (3, .int x3)] [] M := by
  intro n
  induction n with
  | zero => intro x3 M h; cases h
  | succ n ih =>
    intro x3 M h
    have hk10 : ∀ (x3 : Int32) (M : Mem), L_X9_takesOver_10 k2 x1 x2 n x3 M = some Mf → V p l e (rmk 2) s m args below meth c 4 G 0 0 (MQ below (gQ G none Mf) args s 0 0 (gA G)) 10 [(0, .ref (adr G 7 0)), (1, .int x1), (2, .int x2), (3, .int x3)] [] M := fun _ _ z => ih z
    refine V_iload_n hC dX9_takesOver_10 rfl 3 rfl ?_
    refine V_bipush hC (12 : Int32) dX9_takesOver_11 (by decide) ?_
    refine V_icmp_ge hC 68 dX9_takesOver_13 (by decide) (fun c2 => ?_) (fun c2 => ?_)
    · have h := ite_t c2 h
      refine V_sub [0, 1, 2] rfl ?_
      exact b_X9_takesOver_68 hC hr hlk hk2 h
    · have h := ite_f c2 h
      refine V_aload_n hC dX9_takesOver_16 rfl 0 rfl ?_
      refine V_iload_n hC dX9_takesOver_17 rfl 2 rfl ?_
      obtain ⟨q3, e3, h⟩ := bind_some h
      refine V_cVr hC [.int x2] (c_X9_isSection (l := l) hC.2.2.2.2.2.2.2 e3) kd_X9_isSection kv_X9_isSection gw_1326 (r_m0_0).o rfl ⟨Nat.le_of_ble_eq_true rfl, Nat.le_of_ble_eq_true rfl⟩ rfl (Nat.le_of_ble_eq_true rfl) dX9_takesOver_18 ⟨Nat.zero_le _, Nat.zero_le _⟩ rfl ?_
      refine V_if_eq hC 68 dX9_takesOver_21 (by decide) (fun c4 => ?_) (fun c4 => ?_)
      · have h := ite_t c4 h
        refine V_sub [0, 1, 2] rfl ?_
        exact b_X9_takesOver_68 hC hr hlk hk2 h
      · have h := ite_f c4 h
        refine V_aload_n hC dX9_takesOver_24 rfl 0 rfl ?_
        refine V_iload_n hC dX9_takesOver_25 rfl 2 rfl ?_
        refine V_aload_n hC dX9_takesOver_26 rfl 0 rfl ?_
        refine V_iload_n hC dX9_takesOver_27 rfl 1 rfl ?_
        refine V_iconst hC (2 : Int32) dX9_takesOver_28 (by decide) ?_
        obtain ⟨q5, e5, h⟩ := bind_some h
        refine V_cVr hC [.int x1, .int (2 : Int32)] (c_X9_get (l := l) hC.2.2.2.2.2.2.2 e5) kd_X9_get kv_X9_get gw_1345 (r_m0_0).o rfl ⟨Nat.le_of_ble_eq_true rfl, Nat.le_of_ble_eq_true rfl⟩ rfl (Nat.le_of_ble_eq_true rfl) dX9_takesOver_29 ⟨Nat.zero_le _, Nat.zero_le _⟩ rfl ?_
        obtain ⟨q6, e6, h⟩ := bind_some h
        refine V_cVr hC [.int x2, .int q5] (c_X9_isIn (l := l) hC.2.2.2.2.2.2.2 e6) kd_X9_isIn kv_X9_isIn gw_1352 (r_m0_0).o rfl ⟨Nat.le_of_ble_eq_true rfl, Nat.le_of_ble_eq_true rfl⟩ rfl (Nat.le_of_ble_eq_true rfl) dX9_takesOver_32 ⟨Nat.zero_le _, Nat.zero_le _⟩ rfl ?_
        refine V_if_eq hC 68 dX9_takesOver_35 (by decide) (fun c7 => ?_) (fun c7 => ?_)
        · have h := ite_t c7 h
          refine V_sub [0, 1, 2] rfl ?_
          exact b_X9_takesOver_68 hC hr hlk hk2 h
        · have h := ite_f c7 h
          refine V_aload_n hC dX9_takesOver_38 rfl 0 rfl ?_
          refine V_getR hC (r_m0_7) fw_X9_22 dX9_takesOver_39 ?_
          refine V_bipush hC (12 : Int32) dX9_takesOver_42 (by decide) ?_
          refine V_iload_n hC dX9_takesOver_44 rfl 2 rfl ?_
          refine V_imul hC dX9_takesOver_45 ?_
          refine V_iload_n hC dX9_takesOver_46 rfl 3 rfl ?_
          refine V_iadd hC dX9_takesOver_47 ?_
          refine V_aload_n hC dX9_takesOver_48 rfl 0 rfl ?_
          refine V_getR hC (r_m0_0) fw_X9_7 dX9_takesOver_49 ?_
          refine V_iload_n hC dX9_takesOver_52 rfl 1 rfl ?_
          refine V_iload_n hC dX9_takesOver_53 rfl 2 rfl ?_
          refine V_iconst hC (0 : Int32) dX9_takesOver_54 (by decide) ?_
          refine V_cSr hC [.int x1, .int x2, .int (0 : Int32)] (c_X9_copy (l := l) hC.2.2.2.2.2.2.2 rfl) kd_X9_copy gw_1503 gw_1502 ⟨Nat.le_of_ble_eq_true rfl, Nat.le_of_ble_eq_true rfl⟩ rfl (Nat.le_of_ble_eq_true rfl) dX9_takesOver_55 ⟨Nat.zero_le _, Nat.zero_le _⟩ rfl ?_
          refine V_iload_n hC dX9_takesOver_58 rfl 3 rfl ?_
          refine V_iadd hC dX9_takesOver_59 ?_
          obtain ⟨c9, h⟩ := ite_some h
          refine V_iald hC (a_m1) c9 dX9_takesOver_60 ?_
          obtain ⟨c10, h⟩ := ite_some h
          refine V_iast hC (a_m5) c10 dX9_takesOver_61 ?_
          refine V_iinc hC (x3 + 1) ([(3, .int (x3 + 1)), (0, .ref (adr G 7 0)), (1, .int x1), (2, .int x2)]) dX9_takesOver_62 3 rfl rfl (by decide) rfl ?_
          refine V_goto hC 10 dX9_takesOver_65 (by decide) ?_
          refine V_sub [1, 2, 3, 0] rfl ?_
          exact hk10 _ _ h
theorem l_X9_takesOver_2 {Mf : Mem} {x1 : Int32} (hC : Cx p s m args c cX9_takesOver RX9 4 G) (hr : meth.sig.returnType = none) (hlk : meth.locks = false) : ∀ (n : Nat) {x2 : Int32} {M : Mem} (h : L_X9_takesOver_2 x1 n x2 M = some Mf), V p l e (rmk 2) s m args below meth c 4 G 0 0 (MQ below (gQ G none Mf) args s 0 0 (gA G)) 2 [(0, .ref (adr G 7 0)), (1, .int x1), (2, .int x2)] [] M := by
  intro n
  induction n with
  | zero => intro x2 M h; cases h
  | succ n ih =>
    intro x2 M h
    have hk2 : ∀ (x2 : Int32) (M : Mem), L_X9_takesOver_2 x1 n x2 M = some Mf → V p l e (rmk 2) s m args below meth c 4 G 0 0 (MQ below (gQ G none Mf) args s 0 0 (gA G)) 2 [(0, .ref (adr G 7 0)), (1, .int x1), (2, .int x2)] [] M := fun _ _ z => ih z
    refine V_iload_n hC dX9_takesOver_2 rfl 2 rfl ?_
    refine V_bipush hC (20 : Int32) dX9_takesOver_3 (by decide) ?_
    refine V_icmp_ge hC 74 dX9_takesOver_5 (by decide) (fun c1 => ?_) (fun c1 => ?_)
    · have h := ite_t c1 h
      obtain rfl := Option.some.inj h
      exact V_vret hC hr hlk dX9_takesOver_74
    · have h := ite_f c1 h
      refine V_iconst hC (0 : Int32) dX9_takesOver_8 (by decide) ?_
      refine V_istore_n hC ([(3, .int (0 : Int32)), (0, .ref (adr G 7 0)), (1, .int x1), (2, .int x2)]) dX9_takesOver_9 rfl (by decide) rfl ?_
      refine V_sub [1, 2, 3, 0] rfl ?_
      exact l_X9_takesOver_10 hC hr hlk hk2 FU h
theorem c_X9_takesOver {l : Launch} {G : Geo} {x1 : Int32} {Mf : Mem} {M : Mem} (hG : gD G) (h : f_X9_takesOver x1 M = some Mf) : Met l yX9_takesOver (.code yX9_takesOver cX9_takesOver 4 none :: GL) (rmk 2) (gP G [.ref (adr G 7 0), .int x1] M) (gQ G none Mf) 0 0 (gA G) := by
  refine Met_of (own := RX9) (L := [(0, .ref (adr G 7 0)), (1, .int x1)]) hG (by decide +kernel) rfl (Nat.le_of_ble_eq_true rfl) rfl ?_
  intro p e s m args below meth c hC hr hlk
  refine V_iconst hC (0 : Int32) dX9_takesOver_0 (by decide) ?_
  refine V_istore_n hC ([(2, .int (0 : Int32)), (0, .ref (adr G 7 0)), (1, .int x1)]) dX9_takesOver_1 rfl (by decide) rfl ?_
  refine V_sub [1, 2, 0] rfl ?_
  exact l_X9_takesOver_2 hC hr hlk FU h
theorem l_X9_grants_194 {rv : Int32} {Mf : Mem} {x5 : Int32} (hC : Cx p s m args c cX9_grants RX9 7 G) (hr : meth.sig.returnType = some .int) (hlk : meth.locks = false) : ∀ (n : Nat) {x6 : Int32} {M : Mem} (h : L_X9_grants_194 x5 n x6 M = some (rv, Mf)), V p l e (rmk 5) s m args below meth c 7 G 0 0 (MQ below (gQ G (some (.int rv)) Mf) args s 0 0 (gA G)) 194 [(0, .ref (adr G 7 0)), (5, .int x5), (6, .int x6)] [] M := by
  intro n
  induction n with
  | zero => intro x6 M h; cases h
  | succ n ih =>
    intro x6 M h
    have hk194 : ∀ (x6 : Int32) (M : Mem), L_X9_grants_194 x5 n x6 M = some (rv, Mf) → V p l e (rmk 5) s m args below meth c 7 G 0 0 (MQ below (gQ G (some (.int rv)) Mf) args s 0 0 (gA G)) 194 [(0, .ref (adr G 7 0)), (5, .int x5), (6, .int x6)] [] M := fun _ _ z => ih z
    refine V_iload hC dX9_grants_194 2 rfl ?_
    refine V_sipush hC (240 : Int32) dX9_grants_196 (by decide) ?_
    refine V_icmp_ge hC 230 dX9_grants_199 (by decide) (fun c17 => ?_) (fun c17 => ?_)
    · have h := ite_t c17 h
      refine V_iload hC dX9_grants_230 1 rfl ?_
      obtain ⟨rfl, rfl⟩ := Prod.mk.inj (Option.some.inj h)
      exact V_iret hC hr hlk dX9_grants_232
    · have h := ite_f c17 h
      refine V_aload_n hC dX9_grants_202 rfl 0 rfl ?_
      refine V_getR hC (r_m0_0) fw_X9_7 dX9_grants_203 ?_
      refine V_iload hC dX9_grants_206 1 rfl ?_
      refine V_iconst hC (0 : Int32) dX9_grants_208 (by decide) ?_
      refine V_iconst hC (0 : Int32) dX9_grants_209 (by decide) ?_
      refine V_cSr hC [.int x5, .int (0 : Int32), .int (0 : Int32)] (c_X9_copy (l := l) hC.2.2.2.2.2.2.2 rfl) kd_X9_copy gw_1503 gw_1502 ⟨Nat.le_of_ble_eq_true rfl, Nat.le_of_ble_eq_true rfl⟩ rfl (Nat.le_of_ble_eq_true rfl) dX9_grants_210 ⟨Nat.zero_le _, Nat.zero_le _⟩ rfl ?_
      refine V_iload hC dX9_grants_213 2 rfl ?_
      refine V_iadd hC dX9_grants_215 ?_
      refine V_aload_n hC dX9_grants_216 rfl 0 rfl ?_
      refine V_getR hC (r_m0_7) fw_X9_22 dX9_grants_217 ?_
      refine V_iload hC dX9_grants_220 2 rfl ?_
      obtain ⟨c19, h⟩ := ite_some h
      refine V_iald hC (a_m5) c19 dX9_grants_222 ?_
      obtain ⟨c20, h⟩ := ite_some h
      refine V_iast hC (a_m1) c20 dX9_grants_223 ?_
      refine V_iinc hC (x6 + 1) ([(6, .int (x6 + 1)), (0, .ref (adr G 7 0)), (5, .int x5)]) dX9_grants_224 2 rfl rfl (by decide) rfl ?_
      refine V_goto hC 194 dX9_grants_227 (by decide) ?_
      refine V_sub [1, 2, 0] rfl ?_
      exact hk194 _ _ h
theorem l_X9_grants_96 {rv : Int32} {Mf : Mem} {x1 : Int32} {x2 : Int32} {x3 : Int32} {x4 : Int32} {M : Mem} (hC : Cx p s m args c cX9_grants RX9 7 G) (hr : meth.sig.returnType = some .int) (hlk : meth.locks = false) : ∀ (n : Nat) {x5 : Int32} (h : L_X9_grants_96 x1 x2 x3 x4 M n x5 = some (rv, Mf)), V p l e (rmk 5) s m args below meth c 7 G 0 0 (MQ below (gQ G (some (.int rv)) Mf) args s 0 0 (gA G)) 96 [(0, .ref (adr G 7 0)), (1, .int x1), (2, .int x2), (3, .int x3), (4, .int x4), (5, .int x5)] [] M := by
  intro n
  induction n with
  | zero => intro x5 h; cases h
  | succ n ih =>
    intro x5 h
    have hk96 : ∀ (x5 : Int32), L_X9_grants_96 x1 x2 x3 x4 M n x5 = some (rv, Mf) → V p l e (rmk 5) s m args below meth c 7 G 0 0 (MQ below (gQ G (some (.int rv)) Mf) args s 0 0 (gA G)) 96 [(0, .ref (adr G 7 0)), (1, .int x1), (2, .int x2), (3, .int x3), (4, .int x4), (5, .int x5)] [] M := fun _ z => ih z
    refine V_aload_n hC dX9_grants_96 rfl 0 rfl ?_
    refine V_iload hC dX9_grants_97 5 rfl ?_
    obtain ⟨q3, e3, h⟩ := bind_some h
    refine V_cVr hC [.int x5] (c_X9_isCheck (l := l) hC.2.2.2.2.2.2.2 e3) kd_X9_isCheck kv_X9_isCheck gw_1341 (r_m0_0).o rfl ⟨Nat.le_of_ble_eq_true rfl, Nat.le_of_ble_eq_true rfl⟩ rfl (Nat.le_of_ble_eq_true rfl) dX9_grants_99 ⟨Nat.zero_le _, Nat.zero_le _⟩ rfl ?_
    refine V_if_eq hC 111 dX9_grants_102 (by decide) (fun c4 => ?_) (fun c4 => ?_)
    · have h := ite_t c4 h
      refine V_aload_n hC dX9_grants_111 rfl 0 rfl ?_
      refine V_getR hC (r_m0_0) fw_X9_7 dX9_grants_112 ?_
      refine V_iload hC dX9_grants_115 5 rfl ?_
      refine V_iconst hC (0 : Int32) dX9_grants_117 (by decide) ?_
      refine V_cSr hC [.int x5, .int (0 : Int32)] (c_X9_check (l := l) hC.2.2.2.2.2.2.2 rfl) kd_X9_check gw_1350 gw_1349 ⟨Nat.le_of_ble_eq_true rfl, Nat.le_of_ble_eq_true rfl⟩ rfl (Nat.le_of_ble_eq_true rfl) dX9_grants_118 ⟨Nat.zero_le _, Nat.zero_le _⟩ rfl ?_
      refine V_iconst hC (1 : Int32) dX9_grants_121 (by decide) ?_
      obtain ⟨c6, h⟩ := ite_some h
      refine V_iast hC (a_m1) c6 dX9_grants_122 ?_
      refine V_aload_n hC dX9_grants_123 rfl 0 rfl ?_
      refine V_getR hC (r_m0_0) fw_X9_7 dX9_grants_124 ?_
      refine V_iload hC dX9_grants_127 5 rfl ?_
      refine V_iconst hC (1 : Int32) dX9_grants_129 (by decide) ?_
      refine V_cSr hC [.int x5, .int (1 : Int32)] (c_X9_check (l := l) hC.2.2.2.2.2.2.2 rfl) kd_X9_check gw_1350 gw_1349 ⟨Nat.le_of_ble_eq_true rfl, Nat.le_of_ble_eq_true rfl⟩ rfl (Nat.le_of_ble_eq_true rfl) dX9_grants_130 ⟨Nat.zero_le _, Nat.zero_le _⟩ rfl ?_
      refine V_iload_n hC dX9_grants_133 rfl 1 rfl ?_
      obtain ⟨c8, h⟩ := ite_some h
      refine V_iast hC (a_m1) c8 dX9_grants_134 ?_
      refine V_aload_n hC dX9_grants_135 rfl 0 rfl ?_
      refine V_getR hC (r_m0_0) fw_X9_7 dX9_grants_136 ?_
      refine V_iload hC dX9_grants_139 5 rfl ?_
      refine V_iconst hC (2 : Int32) dX9_grants_141 (by decide) ?_
      refine V_cSr hC [.int x5, .int (2 : Int32)] (c_X9_check (l := l) hC.2.2.2.2.2.2.2 rfl) kd_X9_check gw_1350 gw_1349 ⟨Nat.le_of_ble_eq_true rfl, Nat.le_of_ble_eq_true rfl⟩ rfl (Nat.le_of_ble_eq_true rfl) dX9_grants_142 ⟨Nat.zero_le _, Nat.zero_le _⟩ rfl ?_
      refine V_iload_n hC dX9_grants_145 rfl 2 rfl ?_
      obtain ⟨c10, h⟩ := ite_some h
      refine V_iast hC (a_m1) c10 dX9_grants_146 ?_
      refine V_aload_n hC dX9_grants_147 rfl 0 rfl ?_
      refine V_getR hC (r_m0_0) fw_X9_7 dX9_grants_148 ?_
      refine V_iload hC dX9_grants_151 5 rfl ?_
      refine V_iconst hC (3 : Int32) dX9_grants_153 (by decide) ?_
      refine V_cSr hC [.int x5, .int (3 : Int32)] (c_X9_check (l := l) hC.2.2.2.2.2.2.2 rfl) kd_X9_check gw_1350 gw_1349 ⟨Nat.le_of_ble_eq_true rfl, Nat.le_of_ble_eq_true rfl⟩ rfl (Nat.le_of_ble_eq_true rfl) dX9_grants_154 ⟨Nat.zero_le _, Nat.zero_le _⟩ rfl ?_
      refine V_aload_n hC dX9_grants_157 rfl 0 rfl ?_
      refine V_getR hC (r_m0_0) fw_X9_7 dX9_grants_158 ?_
      refine V_iconst hC (0 : Int32) dX9_grants_161 (by decide) ?_
      refine V_iald hC (a_m1) (by decide) dX9_grants_162 ?_
      refine V_iload_n hC dX9_grants_163 rfl 3 rfl ?_
      refine V_iadd hC dX9_grants_164 ?_
      obtain ⟨c12, h⟩ := ite_some h
      refine V_iast hC (a_m1) c12 dX9_grants_165 ?_
      refine V_aload_n hC dX9_grants_166 rfl 0 rfl ?_
      refine V_getR hC (r_m0_0) fw_X9_7 dX9_grants_167 ?_
      refine V_iload hC dX9_grants_170 5 rfl ?_
      refine V_iconst hC (4 : Int32) dX9_grants_172 (by decide) ?_
      refine V_cSr hC [.int x5, .int (4 : Int32)] (c_X9_check (l := l) hC.2.2.2.2.2.2.2 rfl) kd_X9_check gw_1350 gw_1349 ⟨Nat.le_of_ble_eq_true rfl, Nat.le_of_ble_eq_true rfl⟩ rfl (Nat.le_of_ble_eq_true rfl) dX9_grants_173 ⟨Nat.zero_le _, Nat.zero_le _⟩ rfl ?_
      refine V_iconst hC (1 : Int32) dX9_grants_176 (by decide) ?_
      obtain ⟨c14, h⟩ := ite_some h
      refine V_iast hC (a_m1) c14 dX9_grants_177 ?_
      refine V_aload_n hC dX9_grants_178 rfl 0 rfl ?_
      refine V_getR hC (r_m0_0) fw_X9_7 dX9_grants_179 ?_
      refine V_iload hC dX9_grants_182 5 rfl ?_
      refine V_iconst hC (5 : Int32) dX9_grants_184 (by decide) ?_
      refine V_cSr hC [.int x5, .int (5 : Int32)] (c_X9_check (l := l) hC.2.2.2.2.2.2.2 rfl) kd_X9_check gw_1350 gw_1349 ⟨Nat.le_of_ble_eq_true rfl, Nat.le_of_ble_eq_true rfl⟩ rfl (Nat.le_of_ble_eq_true rfl) dX9_grants_185 ⟨Nat.zero_le _, Nat.zero_le _⟩ rfl ?_
      refine V_iload hC dX9_grants_188 4 rfl ?_
      obtain ⟨c16, h⟩ := ite_some h
      refine V_iast hC (a_m1) c16 dX9_grants_190 ?_
      refine V_iconst hC (0 : Int32) dX9_grants_191 (by decide) ?_
      refine V_istore hC ([(6, .int (0 : Int32)), (0, .ref (adr G 7 0)), (1, .int x1), (2, .int x2), (3, .int x3), (4, .int x4), (5, .int x5)]) dX9_grants_192 (by decide) rfl ?_
      refine V_sub [1, 6, 0] rfl ?_
      exact l_X9_grants_194 hC hr hlk FU h
    · have h := ite_f c4 h
      refine V_iinc hC (x5 + 1) ([(5, .int (x5 + 1)), (0, .ref (adr G 7 0)), (1, .int x1), (2, .int x2), (3, .int x3), (4, .int x4)]) dX9_grants_105 5 rfl rfl (by decide) rfl ?_
      refine V_goto hC 96 dX9_grants_108 (by decide) ?_
      refine V_sub [1, 2, 3, 4, 5, 0] rfl ?_
      exact hk96 _ h
theorem b_X9_grants_87 {rv : Int32} {Mf : Mem} {k39 : Int32 → Mem → Option (Int32 × Mem)} {x1 : Int32} {x2 : Int32} {x3 : Int32} {x4 : Int32} {x5 : Int32} {M : Mem} (hC : Cx p s m args c cX9_grants RX9 7 G) (hr : meth.sig.returnType = some .int) (hlk : meth.locks = false) (hk39 : ∀ (x5 : Int32) (M : Mem), k39 x5 M = some (rv, Mf) → V p l e (rmk 5) s m args below meth c 7 G 0 0 (MQ below (gQ G (some (.int rv)) Mf) args s 0 0 (gA G)) 39 [(0, .ref (adr G 7 0)), (1, .int x1), (2, .int x2), (3, .int x3), (4, .int x4), (5, .int x5)] [] M) (h : B_X9_grants_87 k39 x1 x2 x3 x4 x5 M = some (rv, Mf)) : V p l e (rmk 5) s m args below meth c 7 G 0 0 (MQ below (gQ G (some (.int rv)) Mf) args s 0 0 (gA G)) 87 [(0, .ref (adr G 7 0)), (1, .int x1), (2, .int x2), (3, .int x3), (4, .int x4), (5, .int x5)] [] M := by
  refine V_iinc hC (x5 + 1) ([(5, .int (x5 + 1)), (0, .ref (adr G 7 0)), (1, .int x1), (2, .int x2), (3, .int x3), (4, .int x4)]) dX9_grants_87 5 rfl rfl (by decide) rfl ?_
  refine V_goto hC 39 dX9_grants_90 (by decide) ?_
  refine V_sub [1, 2, 3, 4, 5, 0] rfl ?_
  exact hk39 _ _ h
theorem b_X9_grants_75 {rv : Int32} {Mf : Mem} {k39 : Int32 → Mem → Option (Int32 × Mem)} {x1 : Int32} {x2 : Int32} {x3 : Int32} {x4 : Int32} {x5 : Int32} {M : Mem} (hC : Cx p s m args c cX9_grants RX9 7 G) (hr : meth.sig.returnType = some .int) (hlk : meth.locks = false) (hk39 : ∀ (x5 : Int32) (M : Mem), k39 x5 M = some (rv, Mf) → V p l e (rmk 5) s m args below meth c 7 G 0 0 (MQ below (gQ G (some (.int rv)) Mf) args s 0 0 (gA G)) 39 [(0, .ref (adr G 7 0)), (1, .int x1), (2, .int x2), (3, .int x3), (4, .int x4), (5, .int x5)] [] M) (h : B_X9_grants_75 k39 x1 x2 x3 x4 x5 M = some (rv, Mf)) : V p l e (rmk 5) s m args below meth c 7 G 0 0 (MQ below (gQ G (some (.int rv)) Mf) args s 0 0 (gA G)) 75 [(0, .ref (adr G 7 0)), (1, .int x1), (2, .int x2), (3, .int x3), (4, .int x4), (5, .int x5)] [] M := by
  refine V_aload_n hC dX9_grants_75 rfl 0 rfl ?_
  refine V_getR hC (r_m0_0) fw_X9_7 dX9_grants_76 ?_
  refine V_iload hC dX9_grants_79 5 rfl ?_
  refine V_iconst hC (0 : Int32) dX9_grants_81 (by decide) ?_
  refine V_cSr hC [.int x5, .int (0 : Int32)] (c_X9_check (l := l) hC.2.2.2.2.2.2.2 rfl) kd_X9_check gw_1350 gw_1349 ⟨Nat.le_of_ble_eq_true rfl, Nat.le_of_ble_eq_true rfl⟩ rfl (Nat.le_of_ble_eq_true rfl) dX9_grants_82 ⟨Nat.zero_le _, Nat.zero_le _⟩ rfl ?_
  refine V_iconst hC (0 : Int32) dX9_grants_85 (by decide) ?_
  obtain ⟨c26, h⟩ := ite_some h
  refine V_iast hC (a_m1) c26 dX9_grants_86 ?_
  exact b_X9_grants_87 hC hr hlk hk39 h
theorem l_X9_grants_39 {rv : Int32} {Mf : Mem} {x1 : Int32} {x2 : Int32} {x3 : Int32} {x4 : Int32} (hC : Cx p s m args c cX9_grants RX9 7 G) (hr : meth.sig.returnType = some .int) (hlk : meth.locks = false) : ∀ (n : Nat) {x5 : Int32} {M : Mem} (h : L_X9_grants_39 x1 x2 x3 x4 n x5 M = some (rv, Mf)), V p l e (rmk 5) s m args below meth c 7 G 0 0 (MQ below (gQ G (some (.int rv)) Mf) args s 0 0 (gA G)) 39 [(0, .ref (adr G 7 0)), (1, .int x1), (2, .int x2), (3, .int x3), (4, .int x4), (5, .int x5)] [] M := by
  intro n
  induction n with
  | zero => intro x5 M h; cases h
  | succ n ih =>
    intro x5 M h
    have hk39 : ∀ (x5 : Int32) (M : Mem), L_X9_grants_39 x1 x2 x3 x4 n x5 M = some (rv, Mf) → V p l e (rmk 5) s m args below meth c 7 G 0 0 (MQ below (gQ G (some (.int rv)) Mf) args s 0 0 (gA G)) 39 [(0, .ref (adr G 7 0)), (1, .int x1), (2, .int x2), (3, .int x3), (4, .int x4), (5, .int x5)] [] M := fun _ _ z => ih z
    refine V_iload hC dX9_grants_39 5 rfl ?_
    refine V_bipush hC (10 : Int32) dX9_grants_41 (by decide) ?_
    refine V_icmp_ge hC 93 dX9_grants_43 (by decide) (fun c2 => ?_) (fun c2 => ?_)
    · have h := ite_t c2 h
      refine V_iconst hC (0 : Int32) dX9_grants_93 (by decide) ?_
      refine V_istore hC ([(5, .int (0 : Int32)), (0, .ref (adr G 7 0)), (1, .int x1), (2, .int x2), (3, .int x3), (4, .int x4)]) dX9_grants_94 (by decide) rfl ?_
      refine V_sub [1, 2, 3, 4, 5, 0] rfl ?_
      exact l_X9_grants_96 hC hr hlk FU h
    · have h := ite_f c2 h
      refine V_aload_n hC dX9_grants_46 rfl 0 rfl ?_
      refine V_iload_n hC dX9_grants_47 rfl 1 rfl ?_
      refine V_iload_n hC dX9_grants_48 rfl 2 rfl ?_
      refine V_iload hC dX9_grants_49 4 rfl ?_
      refine V_iload hC dX9_grants_51 5 rfl ?_
      obtain ⟨q21, e21, h⟩ := bind_some h
      refine V_cVr hC [.int x1, .int x2, .int x4, .int x5] (c_X9_absorbs (l := l) hC.2.2.2.2.2.2.2 e21) kd_X9_absorbs kv_X9_absorbs gw_1482 (r_m0_0).o rfl ⟨Nat.le_of_ble_eq_true rfl, Nat.le_of_ble_eq_true rfl⟩ rfl (Nat.le_of_ble_eq_true rfl) dX9_grants_53 ⟨Nat.zero_le _, Nat.zero_le _⟩ rfl ?_
      refine V_if_eq hC 87 dX9_grants_56 (by decide) (fun c22 => ?_) (fun c22 => ?_)
      · have h := ite_t c22 h
        exact b_X9_grants_87 hC hr hlk hk39 h
      · have h := ite_f c22 h
        refine V_aload_n hC dX9_grants_59 rfl 0 rfl ?_
        refine V_iload hC dX9_grants_60 5 rfl ?_
        refine V_iconst hC (5 : Int32) dX9_grants_62 (by decide) ?_
        obtain ⟨q23, e23, h⟩ := bind_some h
        refine V_cVr hC [.int x5, .int (5 : Int32)] (c_X9_get (l := l) hC.2.2.2.2.2.2.2 e23) kd_X9_get kv_X9_get gw_1345 (r_m0_0).o rfl ⟨Nat.le_of_ble_eq_true rfl, Nat.le_of_ble_eq_true rfl⟩ rfl (Nat.le_of_ble_eq_true rfl) dX9_grants_63 ⟨Nat.zero_le _, Nat.zero_le _⟩ rfl ?_
        refine V_if_ne hC 75 dX9_grants_66 (by decide) (fun c24 => ?_) (fun c24 => ?_)
        · have h := ite_f c24 h
          exact b_X9_grants_75 hC hr hlk hk39 h
        · have h := ite_t c24 h
          refine V_aload_n hC dX9_grants_69 rfl 0 rfl ?_
          refine V_iload hC dX9_grants_70 5 rfl ?_
          obtain ⟨q27, e27, h⟩ := bind_some h
          refine V_cVv hC [.int x5] (c_X9_takesOver (l := l) hC.2.2.2.2.2.2.2 e27) kd_X9_takesOver kv_X9_takesOver gw_1498 (r_m0_0).o rfl ⟨Nat.le_of_ble_eq_true rfl, Nat.le_of_ble_eq_true rfl⟩ rfl (Nat.le_of_ble_eq_true rfl) dX9_grants_72 ⟨Nat.zero_le _, Nat.zero_le _⟩ rfl ?_
          exact b_X9_grants_75 hC hr hlk hk39 h
theorem l_X9_grants_3 {rv : Int32} {Mf : Mem} {x1 : Int32} {x2 : Int32} {x3 : Int32} {x4 : Int32} (hC : Cx p s m args c cX9_grants RX9 7 G) (hr : meth.sig.returnType = some .int) (hlk : meth.locks = false) : ∀ (n : Nat) {x5 : Int32} {M : Mem} (h : L_X9_grants_3 x1 x2 x3 x4 n x5 M = some (rv, Mf)), V p l e (rmk 5) s m args below meth c 7 G 0 0 (MQ below (gQ G (some (.int rv)) Mf) args s 0 0 (gA G)) 3 [(0, .ref (adr G 7 0)), (1, .int x1), (2, .int x2), (3, .int x3), (4, .int x4), (5, .int x5)] [] M := by
  intro n
  induction n with
  | zero => intro x5 M h; cases h
  | succ n ih =>
    intro x5 M h
    have hk3 : ∀ (x5 : Int32) (M : Mem), L_X9_grants_3 x1 x2 x3 x4 n x5 M = some (rv, Mf) → V p l e (rmk 5) s m args below meth c 7 G 0 0 (MQ below (gQ G (some (.int rv)) Mf) args s 0 0 (gA G)) 3 [(0, .ref (adr G 7 0)), (1, .int x1), (2, .int x2), (3, .int x3), (4, .int x4), (5, .int x5)] [] M := fun _ _ z => ih z
    refine V_iload hC dX9_grants_3 5 rfl ?_
    refine V_sipush hC (240 : Int32) dX9_grants_5 (by decide) ?_
    refine V_icmp_ge hC 36 dX9_grants_8 (by decide) (fun c1 => ?_) (fun c1 => ?_)
    · have h := ite_t c1 h
      refine V_iconst hC (0 : Int32) dX9_grants_36 (by decide) ?_
      refine V_istore hC ([(5, .int (0 : Int32)), (0, .ref (adr G 7 0)), (1, .int x1), (2, .int x2), (3, .int x3), (4, .int x4)]) dX9_grants_37 (by decide) rfl ?_
      refine V_sub [1, 2, 3, 4, 5, 0] rfl ?_
      exact l_X9_grants_39 hC hr hlk FU h
    · have h := ite_f c1 h
      refine V_aload_n hC dX9_grants_11 rfl 0 rfl ?_
      refine V_getR hC (r_m0_7) fw_X9_22 dX9_grants_12 ?_
      refine V_iload hC dX9_grants_15 5 rfl ?_
      refine V_aload_n hC dX9_grants_17 rfl 0 rfl ?_
      refine V_getR hC (r_m0_0) fw_X9_7 dX9_grants_18 ?_
      refine V_bipush hC (82 : Int32) dX9_grants_21 (by decide) ?_
      refine V_iload hC dX9_grants_23 5 rfl ?_
      refine V_iconst hC (2 : Int32) dX9_grants_25 (by decide) ?_
      refine V_idiv hC dX9_grants_26 (by decide) ?_
      refine V_iadd hC dX9_grants_27 ?_
      obtain ⟨c28, h⟩ := ite_some h
      refine V_iald hC (a_m1) c28 dX9_grants_28 ?_
      obtain ⟨c29, h⟩ := ite_some h
      refine V_iast hC (a_m5) c29 dX9_grants_29 ?_
      refine V_iinc hC (x5 + 1) ([(5, .int (x5 + 1)), (0, .ref (adr G 7 0)), (1, .int x1), (2, .int x2), (3, .int x3), (4, .int x4)]) dX9_grants_30 5 rfl rfl (by decide) rfl ?_
      refine V_goto hC 3 dX9_grants_33 (by decide) ?_
      refine V_sub [1, 2, 3, 4, 5, 0] rfl ?_
      exact hk3 _ _ h
theorem c_X9_grants {l : Launch} {G : Geo} {x1 : Int32} {x2 : Int32} {x3 : Int32} {x4 : Int32} {rv : Int32} {Mf : Mem} {M : Mem} (hG : gD G) (h : f_X9_grants x1 x2 x3 x4 M = some (rv, Mf)) : Met l yX9_grants (.code yX9_grants cX9_grants 7 (some .int) :: GL) (rmk 5) (gP G [.ref (adr G 7 0), .int x1, .int x2, .int x3, .int x4] M) (gQ G (some (.int rv)) Mf) 0 0 (gA G) := by
  refine Met_of (own := RX9) (L := [(0, .ref (adr G 7 0)), (1, .int x1), (2, .int x2), (3, .int x3), (4, .int x4)]) hG (by decide +kernel) rfl (Nat.le_of_ble_eq_true rfl) rfl ?_
  intro p e s m args below meth c hC hr hlk
  refine V_iconst hC (0 : Int32) dX9_grants_0 (by decide) ?_
  refine V_istore hC ([(5, .int (0 : Int32)), (0, .ref (adr G 7 0)), (1, .int x1), (2, .int x2), (3, .int x3), (4, .int x4)]) dX9_grants_1 (by decide) rfl ?_
  refine V_sub [1, 2, 3, 4, 5, 0] rfl ?_
  exact l_X9_grants_3 hC hr hlk FU h
theorem b_X9_isBlocked_37 {rv : Int32} {M : Mem} (hC : Cx p s m args c cX9_isBlocked RX9 4 G) (hr : meth.sig.returnType = some .boolean) (hlk : meth.locks = false) (h : B_X9_isBlocked_37 M = some rv) : V p l e (rmk 2) s m args below meth c 4 G 0 0 (MQ below (gQ G (some (.int rv)) M) args s 0 0 (gA G)) 37 [] [] M := by
  refine V_iconst hC (1 : Int32) dX9_isBlocked_37 (by decide) ?_
  refine V_goto hC 42 dX9_isBlocked_38 (by decide) ?_
  obtain rfl := Option.some.inj h
  exact V_zret hC hr hlk (Or.inr rfl) dX9_isBlocked_42
theorem c_X9_isBlocked {l : Launch} {G : Geo} {x1 : Int32} {x2 : Int32} {x3 : Int32} {rv : Int32} {M : Mem} (hG : gD G) (h : f_X9_isBlocked x1 x2 x3 M = some rv) : Met l yX9_isBlocked (.code yX9_isBlocked cX9_isBlocked 4 (some .boolean) :: GL) (rmk 2) (gP G [.ref (adr G 7 0), .int x1, .int x2, .int x3] M) (gQ G (some (.int rv)) M) 0 0 (gA G) := by
  refine Met_of (own := RX9) (L := [(0, .ref (adr G 7 0)), (1, .int x1), (2, .int x2), (3, .int x3)]) hG (by decide +kernel) rfl (Nat.le_of_ble_eq_true rfl) rfl ?_
  intro p e s m args below meth c hC hr hlk
  refine V_aload_n hC dX9_isBlocked_0 rfl 0 rfl ?_
  refine V_aload_n hC dX9_isBlocked_1 rfl 0 rfl ?_
  refine V_getR hC (r_m0_0) fw_X9_7 dX9_isBlocked_2 ?_
  refine V_iload_n hC dX9_isBlocked_5 rfl 1 rfl ?_
  refine V_iconst hC (1 : Int32) dX9_isBlocked_6 (by decide) ?_
  refine V_cSr hC [.int x1, .int (1 : Int32)] (c_X9_wait (l := l) hC.2.2.2.2.2.2.2 rfl) kd_X9_wait gw_1361 gw_1360 ⟨Nat.le_of_ble_eq_true rfl, Nat.le_of_ble_eq_true rfl⟩ rfl (Nat.le_of_ble_eq_true rfl) dX9_isBlocked_7 ⟨Nat.zero_le _, Nat.zero_le _⟩ rfl ?_
  obtain ⟨c2, h⟩ := ite_some h
  refine V_iald hC (a_m1) c2 dX9_isBlocked_10 ?_
  refine V_iload_n hC dX9_isBlocked_11 rfl 2 rfl ?_
  obtain ⟨q3, e3, h⟩ := bind_some h
  refine V_cVr hC [.int (M.1 7 1 (cl (f_X9_wait x1 (1 : Int32)))), .int x2] (c_X9_overlap (l := l) hC.2.2.2.2.2.2.2 e3) kd_X9_overlap kv_X9_overlap gw_1379 (r_m0_0).o rfl ⟨Nat.le_of_ble_eq_true rfl, Nat.le_of_ble_eq_true rfl⟩ rfl (Nat.le_of_ble_eq_true rfl) dX9_isBlocked_12 ⟨Nat.zero_le _, Nat.zero_le _⟩ rfl ?_
  refine V_if_eq hC 41 dX9_isBlocked_15 (by decide) (fun c4 => ?_) (fun c4 => ?_)
  · have h := ite_t c4 h
    refine V_iconst hC (0 : Int32) dX9_isBlocked_41 (by decide) ?_
    obtain rfl := Option.some.inj h
    exact V_zret hC hr hlk (Or.inl rfl) dX9_isBlocked_42
  · have h := ite_f c4 h
    refine V_aload_n hC dX9_isBlocked_18 rfl 0 rfl ?_
    refine V_getR hC (r_m0_0) fw_X9_7 dX9_isBlocked_19 ?_
    refine V_iload_n hC dX9_isBlocked_22 rfl 1 rfl ?_
    refine V_iconst hC (3 : Int32) dX9_isBlocked_23 (by decide) ?_
    refine V_cSr hC [.int x1, .int (3 : Int32)] (c_X9_wait (l := l) hC.2.2.2.2.2.2.2 rfl) kd_X9_wait gw_1361 gw_1360 ⟨Nat.le_of_ble_eq_true rfl, Nat.le_of_ble_eq_true rfl⟩ rfl (Nat.le_of_ble_eq_true rfl) dX9_isBlocked_24 ⟨Nat.zero_le _, Nat.zero_le _⟩ rfl ?_
    obtain ⟨c6, h⟩ := ite_some h
    refine V_iald hC (a_m1) c6 dX9_isBlocked_27 ?_
    refine V_iconst hC (1 : Int32) dX9_isBlocked_28 (by decide) ?_
    refine V_icmp_ne hC 37 dX9_isBlocked_29 (by decide) (fun c7 => ?_) (fun c7 => ?_)
    · have h := ite_f c7 h
      refine V_sub [] rfl ?_
      exact b_X9_isBlocked_37 hC hr hlk h
    · have h := ite_t c7 h
      refine V_iload_n hC dX9_isBlocked_32 rfl 3 rfl ?_
      refine V_iconst hC (1 : Int32) dX9_isBlocked_33 (by decide) ?_
      refine V_icmp_eq hC 41 dX9_isBlocked_34 (by decide) (fun c8 => ?_) (fun c8 => ?_)
      · have h := ite_t c8 h
        refine V_iconst hC (0 : Int32) dX9_isBlocked_41 (by decide) ?_
        obtain rfl := Option.some.inj h
        exact V_zret hC hr hlk (Or.inl rfl) dX9_isBlocked_42
      · have h := ite_f c8 h
        refine V_sub [] rfl ?_
        exact b_X9_isBlocked_37 hC hr hlk h
theorem b_X9_isBlockedAhead_33 {rv : Int32} {k6 : Int32 → Int32 → Option Int32} {x1 : Int32} {x2 : Int32} {x3 : Int32} {x5 : Int32} {z0 : Int32} {M : Mem} (hC : Cx p s m args c cX9_isBlockedAhead RX9 6 G) (hr : meth.sig.returnType = some .boolean) (hlk : meth.locks = false) (hk6 : ∀ (x4 : Int32) (x5 : Int32), k6 x4 x5 = some rv → V p l e (rmk 3) s m args below meth c 6 G 0 0 (MQ below (gQ G (some (.int rv)) M) args s 0 0 (gA G)) 6 [(0, .ref (adr G 7 0)), (1, .int x1), (2, .int x2), (3, .int x3), (4, .int x4), (5, .int x5)] [] M) (h : B_X9_isBlockedAhead_33 k6 x1 x2 x3 x5 z0 M = some rv) : V p l e (rmk 3) s m args below meth c 6 G 0 0 (MQ below (gQ G (some (.int rv)) M) args s 0 0 (gA G)) 33 [(0, .ref (adr G 7 0)), (1, .int x1), (2, .int x2), (3, .int x3), (5, .int x5)] [.int z0] M := by
  refine V_istore hC ([(4, .int z0), (0, .ref (adr G 7 0)), (1, .int x1), (2, .int x2), (3, .int x3), (5, .int x5)]) dX9_isBlockedAhead_33 (by decide) rfl ?_
  refine V_iinc hC (x5 + 1) ([(5, .int (x5 + 1)), (4, .int z0), (0, .ref (adr G 7 0)), (1, .int x1), (2, .int x2), (3, .int x3)]) dX9_isBlockedAhead_35 5 rfl rfl (by decide) rfl ?_
  refine V_goto hC 6 dX9_isBlockedAhead_38 (by decide) ?_
  refine V_sub [2, 3, 4, 5, 1, 0] rfl ?_
  exact hk6 _ _ h
theorem b_X9_isBlockedAhead_28 {rv : Int32} {k6 : Int32 → Int32 → Option Int32} {x1 : Int32} {x2 : Int32} {x3 : Int32} {x5 : Int32} {M : Mem} (hC : Cx p s m args c cX9_isBlockedAhead RX9 6 G) (hr : meth.sig.returnType = some .boolean) (hlk : meth.locks = false) (hk6 : ∀ (x4 : Int32) (x5 : Int32), k6 x4 x5 = some rv → V p l e (rmk 3) s m args below meth c 6 G 0 0 (MQ below (gQ G (some (.int rv)) M) args s 0 0 (gA G)) 6 [(0, .ref (adr G 7 0)), (1, .int x1), (2, .int x2), (3, .int x3), (4, .int x4), (5, .int x5)] [] M) (h : B_X9_isBlockedAhead_28 k6 x1 x2 x3 x5 M = some rv) : V p l e (rmk 3) s m args below meth c 6 G 0 0 (MQ below (gQ G (some (.int rv)) M) args s 0 0 (gA G)) 28 [(0, .ref (adr G 7 0)), (1, .int x1), (2, .int x2), (3, .int x3), (5, .int x5)] [] M := by
  refine V_iconst hC (1 : Int32) dX9_isBlockedAhead_28 (by decide) ?_
  refine V_goto hC 33 dX9_isBlockedAhead_29 (by decide) ?_
  exact b_X9_isBlockedAhead_33 hC hr hlk hk6 h
theorem l_X9_isBlockedAhead_6 {rv : Int32} {x1 : Int32} {x2 : Int32} {x3 : Int32} {M : Mem} (hC : Cx p s m args c cX9_isBlockedAhead RX9 6 G) (hr : meth.sig.returnType = some .boolean) (hlk : meth.locks = false) : ∀ (n : Nat) {x4 : Int32} {x5 : Int32} (h : L_X9_isBlockedAhead_6 x1 x2 x3 M n x4 x5 = some rv), V p l e (rmk 3) s m args below meth c 6 G 0 0 (MQ below (gQ G (some (.int rv)) M) args s 0 0 (gA G)) 6 [(0, .ref (adr G 7 0)), (1, .int x1), (2, .int x2), (3, .int x3), (4, .int x4), (5, .int x5)] [] M := by
  intro n
  induction n with
  | zero => intro x4 x5 h; cases h
  | succ n ih =>
    intro x4 x5 h
    have hk6 : ∀ (x4 : Int32) (x5 : Int32), L_X9_isBlockedAhead_6 x1 x2 x3 M n x4 x5 = some rv → V p l e (rmk 3) s m args below meth c 6 G 0 0 (MQ below (gQ G (some (.int rv)) M) args s 0 0 (gA G)) 6 [(0, .ref (adr G 7 0)), (1, .int x1), (2, .int x2), (3, .int x3), (4, .int x4), (5, .int x5)] [] M := fun _ _ z => ih z
    refine V_iload hC dX9_isBlockedAhead_6 5 rfl ?_
    refine V_iload_n hC dX9_isBlockedAhead_8 rfl 1 rfl ?_
    refine V_icmp_ge hC 41 dX9_isBlockedAhead_9 (by decide) (fun c1 => ?_) (fun c1 => ?_)
    · have h := ite_t c1 h
      refine V_iload hC dX9_isBlockedAhead_41 4 rfl ?_
      obtain ⟨c2, h⟩ := ite_some h
      obtain rfl := Option.some.inj h
      exact V_zret hC hr hlk (of_isb c2) dX9_isBlockedAhead_43
    · have h := ite_f c1 h
      refine V_iload hC dX9_isBlockedAhead_12 4 rfl ?_
      refine V_if_ne hC 28 dX9_isBlockedAhead_14 (by decide) (fun c3 => ?_) (fun c3 => ?_)
      · have h := ite_f c3 h
        refine V_sub [0, 1, 2, 3, 5] rfl ?_
        exact b_X9_isBlockedAhead_28 hC hr hlk hk6 h
      · have h := ite_t c3 h
        refine V_aload_n hC dX9_isBlockedAhead_17 rfl 0 rfl ?_
        refine V_iload hC dX9_isBlockedAhead_18 5 rfl ?_
        refine V_iload_n hC dX9_isBlockedAhead_20 rfl 2 rfl ?_
        refine V_iload_n hC dX9_isBlockedAhead_21 rfl 3 rfl ?_
        obtain ⟨q4, e4, h⟩ := bind_some h
        refine V_cVr hC [.int x5, .int x2, .int x3] (c_X9_isBlocked (l := l) hC.2.2.2.2.2.2.2 e4) kd_X9_isBlocked kv_X9_isBlocked gw_1490 (r_m0_0).o rfl ⟨Nat.le_of_ble_eq_true rfl, Nat.le_of_ble_eq_true rfl⟩ rfl (Nat.le_of_ble_eq_true rfl) dX9_isBlockedAhead_22 ⟨Nat.zero_le _, Nat.zero_le _⟩ rfl ?_
        refine V_if_eq hC 32 dX9_isBlockedAhead_25 (by decide) (fun c5 => ?_) (fun c5 => ?_)
        · have h := ite_t c5 h
          refine V_iconst hC (0 : Int32) dX9_isBlockedAhead_32 (by decide) ?_
          refine V_sub [0, 1, 2, 3, 5] rfl ?_
          exact b_X9_isBlockedAhead_33 hC hr hlk hk6 h
        · have h := ite_f c5 h
          refine V_sub [0, 1, 2, 3, 5] rfl ?_
          exact b_X9_isBlockedAhead_28 hC hr hlk hk6 h
theorem c_X9_isBlockedAhead {l : Launch} {G : Geo} {x1 : Int32} {x2 : Int32} {x3 : Int32} {rv : Int32} {M : Mem} (hG : gD G) (h : f_X9_isBlockedAhead x1 x2 x3 M = some rv) : Met l yX9_isBlockedAhead (.code yX9_isBlockedAhead cX9_isBlockedAhead 6 (some .boolean) :: GL) (rmk 3) (gP G [.ref (adr G 7 0), .int x1, .int x2, .int x3] M) (gQ G (some (.int rv)) M) 0 0 (gA G) := by
  refine Met_of (own := RX9) (L := [(0, .ref (adr G 7 0)), (1, .int x1), (2, .int x2), (3, .int x3)]) hG (by decide +kernel) rfl (Nat.le_of_ble_eq_true rfl) rfl ?_
  intro p e s m args below meth c hC hr hlk
  refine V_iconst hC (0 : Int32) dX9_isBlockedAhead_0 (by decide) ?_
  refine V_istore hC ([(4, .int (0 : Int32)), (0, .ref (adr G 7 0)), (1, .int x1), (2, .int x2), (3, .int x3)]) dX9_isBlockedAhead_1 (by decide) rfl ?_
  refine V_iconst hC (0 : Int32) dX9_isBlockedAhead_3 (by decide) ?_
  refine V_istore hC ([(5, .int (0 : Int32)), (4, .int (0 : Int32)), (0, .ref (adr G 7 0)), (1, .int x1), (2, .int x2), (3, .int x3)]) dX9_isBlockedAhead_4 (by decide) rfl ?_
  refine V_sub [2, 3, 4, 5, 1, 0] rfl ?_
  exact l_X9_isBlockedAhead_6 hC hr hlk FU h
theorem l_X9_leavesLine_16 {Mf : Mem} (hC : Cx p s m args c cX9_leavesLine RX9 3 G) (hr : meth.sig.returnType = none) (hlk : meth.locks = false) : ∀ (n : Nat) {x2 : Int32} {M : Mem} (h : L_X9_leavesLine_16 n x2 M = some Mf), V p l e (rmk 1) s m args below meth c 3 G 0 0 (MQ below (gQ G none Mf) args s 0 0 (gA G)) 16 [(0, .ref (adr G 7 0)), (2, .int x2)] [] M := by
  intro n
  induction n with
  | zero => intro x2 M h; cases h
  | succ n ih =>
    intro x2 M h
    have hk16 : ∀ (x2 : Int32) (M : Mem), L_X9_leavesLine_16 n x2 M = some Mf → V p l e (rmk 1) s m args below meth c 3 G 0 0 (MQ below (gQ G none Mf) args s 0 0 (gA G)) 16 [(0, .ref (adr G 7 0)), (2, .int x2)] [] M := fun _ _ z => ih z
    refine V_iload_n hC dX9_leavesLine_16 rfl 1 rfl ?_
    refine V_iconst hC (4 : Int32) dX9_leavesLine_17 (by decide) ?_
    refine V_aload_n hC dX9_leavesLine_18 rfl 0 rfl ?_
    obtain ⟨q1, e1, h⟩ := bind_some h
    refine V_cVr hC [] (c_X9_waits (l := l) hC.2.2.2.2.2.2.2 e1) kd_X9_waits kv_X9_waits gw_1356 (r_m0_0).o rfl ⟨Nat.le_of_ble_eq_true rfl, Nat.le_of_ble_eq_true rfl⟩ rfl (Nat.le_of_ble_eq_true rfl) dX9_leavesLine_19 ⟨Nat.zero_le _, Nat.zero_le _⟩ rfl ?_
    refine V_imul hC dX9_leavesLine_22 ?_
    refine V_icmp_ge hC 54 dX9_leavesLine_23 (by decide) (fun c2 => ?_) (fun c2 => ?_)
    · have h := ite_t c2 h
      obtain rfl := Option.some.inj h
      exact V_vret hC hr hlk dX9_leavesLine_54
    · have h := ite_f c2 h
      refine V_aload_n hC dX9_leavesLine_26 rfl 0 rfl ?_
      refine V_getR hC (r_m0_0) fw_X9_7 dX9_leavesLine_27 ?_
      refine V_sipush hC (2663 : Int32) dX9_leavesLine_30 (by decide) ?_
      refine V_iload_n hC dX9_leavesLine_33 rfl 1 rfl ?_
      refine V_iadd hC dX9_leavesLine_34 ?_
      refine V_aload_n hC dX9_leavesLine_35 rfl 0 rfl ?_
      refine V_getR hC (r_m0_0) fw_X9_7 dX9_leavesLine_36 ?_
      refine V_sipush hC (2663 : Int32) dX9_leavesLine_39 (by decide) ?_
      refine V_iload_n hC dX9_leavesLine_42 rfl 1 rfl ?_
      refine V_iadd hC dX9_leavesLine_43 ?_
      refine V_iconst hC (4 : Int32) dX9_leavesLine_44 (by decide) ?_
      refine V_iadd hC dX9_leavesLine_45 ?_
      obtain ⟨c3, h⟩ := ite_some h
      refine V_iald hC (a_m1) c3 dX9_leavesLine_46 ?_
      obtain ⟨c4, h⟩ := ite_some h
      refine V_iast hC (a_m1) c4 dX9_leavesLine_47 ?_
      refine V_iinc hC (x2 + 1) ([(2, .int (x2 + 1)), (0, .ref (adr G 7 0))]) dX9_leavesLine_48 1 rfl rfl (by decide) rfl ?_
      refine V_goto hC 16 dX9_leavesLine_51 (by decide) ?_
      refine V_sub [1, 0] rfl ?_
      exact hk16 _ _ h
theorem c_X9_leavesLine {l : Launch} {G : Geo} {x1 : Int32} {Mf : Mem} {M : Mem} (hG : gD G) (h : f_X9_leavesLine x1 M = some Mf) : Met l yX9_leavesLine (.code yX9_leavesLine cX9_leavesLine 3 none :: GL) (rmk 1) (gP G [.ref (adr G 7 0), .int x1] M) (gQ G none Mf) 0 0 (gA G) := by
  refine Met_of (own := RX9) (L := [(0, .ref (adr G 7 0)), (1, .int x1)]) hG (by decide +kernel) rfl (Nat.le_of_ble_eq_true rfl) rfl ?_
  intro p e s m args below meth c hC hr hlk
  refine V_aload_n hC dX9_leavesLine_0 rfl 0 rfl ?_
  refine V_getR hC (r_m0_0) fw_X9_7 dX9_leavesLine_1 ?_
  refine V_sipush hC (2662 : Int32) dX9_leavesLine_4 (by decide) ?_
  refine V_dup2 hC dX9_leavesLine_7 rfl rfl ?_
  refine V_iald hC (a_m1) (by decide) dX9_leavesLine_8 ?_
  refine V_iconst hC (1 : Int32) dX9_leavesLine_9 (by decide) ?_
  refine V_isub hC dX9_leavesLine_10 ?_
  refine V_iast hC (a_m1) (by decide) dX9_leavesLine_11 ?_
  refine V_iconst hC (4 : Int32) dX9_leavesLine_12 (by decide) ?_
  refine V_iload_n hC dX9_leavesLine_13 rfl 1 rfl ?_
  refine V_imul hC dX9_leavesLine_14 ?_
  refine V_istore_n hC ([(2, .int ((4 : Int32) * x1)), (0, .ref (adr G 7 0)), (1, .int x1)]) dX9_leavesLine_15 rfl (by decide) rfl ?_
  refine V_sub [1, 0] rfl ?_
  exact l_X9_leavesLine_16 hC hr hlk FU h
theorem b_X9_serves_100 {Mf : Mem} {k2 : Int32 → Mem → Option Mem} {x1 : Int32} {M : Mem} (hC : Cx p s m args c cX9_serves RX9 6 G) (hr : meth.sig.returnType = none) (hlk : meth.locks = false) (hk2 : ∀ (x1 : Int32) (M : Mem), k2 x1 M = some Mf → V p l e (rmk 7) s m args below meth c 6 G 0 0 (MQ below (gQ G none Mf) args s 0 0 (gA G)) 2 [(0, .ref (adr G 7 0)), (1, .int x1)] [] M) (h : B_X9_serves_100 k2 x1 M = some Mf) : V p l e (rmk 7) s m args below meth c 6 G 0 0 (MQ below (gQ G none Mf) args s 0 0 (gA G)) 100 [(0, .ref (adr G 7 0)), (1, .int x1)] [] M := by
  refine V_goto hC 2 dX9_serves_100 (by decide) ?_
  exact hk2 _ _ h
theorem b_X9_serves_97 {Mf : Mem} {k2 : Int32 → Mem → Option Mem} {x1 : Int32} {M : Mem} (hC : Cx p s m args c cX9_serves RX9 6 G) (hr : meth.sig.returnType = none) (hlk : meth.locks = false) (hk2 : ∀ (x1 : Int32) (M : Mem), k2 x1 M = some Mf → V p l e (rmk 7) s m args below meth c 6 G 0 0 (MQ below (gQ G none Mf) args s 0 0 (gA G)) 2 [(0, .ref (adr G 7 0)), (1, .int x1)] [] M) (h : B_X9_serves_97 k2 x1 M = some Mf) : V p l e (rmk 7) s m args below meth c 6 G 0 0 (MQ below (gQ G none Mf) args s 0 0 (gA G)) 97 [(0, .ref (adr G 7 0)), (1, .int x1)] [] M := by
  refine V_iinc hC (x1 + 1) ([(1, .int (x1 + 1)), (0, .ref (adr G 7 0))]) dX9_serves_97 1 rfl rfl (by decide) rfl ?_
  refine V_sub [1, 0] rfl ?_
  exact b_X9_serves_100 hC hr hlk hk2 h
theorem l_X9_serves_2 {Mf : Mem} (hC : Cx p s m args c cX9_serves RX9 6 G) (hr : meth.sig.returnType = none) (hlk : meth.locks = false) : ∀ (n : Nat) {x1 : Int32} {M : Mem} (h : L_X9_serves_2 n x1 M = some Mf), V p l e (rmk 7) s m args below meth c 6 G 0 0 (MQ below (gQ G none Mf) args s 0 0 (gA G)) 2 [(0, .ref (adr G 7 0)), (1, .int x1)] [] M := by
  intro n
  induction n with
  | zero => intro x1 M h; cases h
  | succ n ih =>
    intro x1 M h
    have hk2 : ∀ (x1 : Int32) (M : Mem), L_X9_serves_2 n x1 M = some Mf → V p l e (rmk 7) s m args below meth c 6 G 0 0 (MQ below (gQ G none Mf) args s 0 0 (gA G)) 2 [(0, .ref (adr G 7 0)), (1, .int x1)] [] M := fun _ _ z => ih z
    refine V_iload_n hC dX9_serves_2 rfl 1 rfl ?_
    refine V_aload_n hC dX9_serves_3 rfl 0 rfl ?_
    obtain ⟨q1, e1, h⟩ := bind_some h
    refine V_cVr hC [] (c_X9_waits (l := l) hC.2.2.2.2.2.2.2 e1) kd_X9_waits kv_X9_waits gw_1356 (r_m0_0).o rfl ⟨Nat.le_of_ble_eq_true rfl, Nat.le_of_ble_eq_true rfl⟩ rfl (Nat.le_of_ble_eq_true rfl) dX9_serves_4 ⟨Nat.zero_le _, Nat.zero_le _⟩ rfl ?_
    refine V_icmp_ge hC 103 dX9_serves_7 (by decide) (fun c2 => ?_) (fun c2 => ?_)
    · have h := ite_t c2 h
      obtain rfl := Option.some.inj h
      exact V_vret hC hr hlk dX9_serves_103
    · have h := ite_f c2 h
      refine V_aload_n hC dX9_serves_10 rfl 0 rfl ?_
      refine V_getR hC (r_m0_0) fw_X9_7 dX9_serves_11 ?_
      refine V_iload_n hC dX9_serves_14 rfl 1 rfl ?_
      refine V_iconst hC (0 : Int32) dX9_serves_15 (by decide) ?_
      refine V_cSr hC [.int x1, .int (0 : Int32)] (c_X9_wait (l := l) hC.2.2.2.2.2.2.2 rfl) kd_X9_wait gw_1361 gw_1360 ⟨Nat.le_of_ble_eq_true rfl, Nat.le_of_ble_eq_true rfl⟩ rfl (Nat.le_of_ble_eq_true rfl) dX9_serves_16 ⟨Nat.zero_le _, Nat.zero_le _⟩ rfl ?_
      obtain ⟨c4, h⟩ := ite_some h
      refine V_iald hC (a_m1) c4 dX9_serves_19 ?_
      refine V_istore_n hC ([(2, .int (M.1 7 1 (cl (f_X9_wait x1 (0 : Int32))))), (0, .ref (adr G 7 0)), (1, .int x1)]) dX9_serves_20 rfl (by decide) rfl ?_
      refine V_aload_n hC dX9_serves_21 rfl 1 rfl ?_
      refine V_getR hC (r_m0_0) fw_X9_7 dX9_serves_22 ?_
      refine V_iload_n hC dX9_serves_25 rfl 2 rfl ?_
      refine V_iconst hC (1 : Int32) dX9_serves_26 (by decide) ?_
      refine V_cSr hC [.int x1, .int (1 : Int32)] (c_X9_wait (l := l) hC.2.2.2.2.2.2.2 rfl) kd_X9_wait gw_1361 gw_1360 ⟨Nat.le_of_ble_eq_true rfl, Nat.le_of_ble_eq_true rfl⟩ rfl (Nat.le_of_ble_eq_true rfl) dX9_serves_27 ⟨Nat.zero_le _, Nat.zero_le _⟩ rfl ?_
      obtain ⟨c6, h⟩ := ite_some h
      refine V_iald hC (a_m1) c6 dX9_serves_30 ?_
      refine V_istore_n hC ([(3, .int (M.1 7 1 (cl (f_X9_wait x1 (1 : Int32))))), (2, .int (M.1 7 1 (cl (f_X9_wait x1 (0 : Int32))))), (0, .ref (adr G 7 0)), (1, .int x1)]) dX9_serves_31 rfl (by decide) rfl ?_
      refine V_aload_n hC dX9_serves_32 rfl 2 rfl ?_
      refine V_getR hC (r_m0_0) fw_X9_7 dX9_serves_33 ?_
      refine V_iload_n hC dX9_serves_36 rfl 3 rfl ?_
      refine V_iconst hC (2 : Int32) dX9_serves_37 (by decide) ?_
      refine V_cSr hC [.int x1, .int (2 : Int32)] (c_X9_wait (l := l) hC.2.2.2.2.2.2.2 rfl) kd_X9_wait gw_1361 gw_1360 ⟨Nat.le_of_ble_eq_true rfl, Nat.le_of_ble_eq_true rfl⟩ rfl (Nat.le_of_ble_eq_true rfl) dX9_serves_38 ⟨Nat.zero_le _, Nat.zero_le _⟩ rfl ?_
      obtain ⟨c8, h⟩ := ite_some h
      refine V_iald hC (a_m1) c8 dX9_serves_41 ?_
      refine V_istore hC ([(4, .int (M.1 7 1 (cl (f_X9_wait x1 (2 : Int32))))), (3, .int (M.1 7 1 (cl (f_X9_wait x1 (1 : Int32))))), (2, .int (M.1 7 1 (cl (f_X9_wait x1 (0 : Int32))))), (0, .ref (adr G 7 0)), (1, .int x1)]) dX9_serves_42 (by decide) rfl ?_
      refine V_aload_n hC dX9_serves_44 rfl 3 rfl ?_
      refine V_getR hC (r_m0_0) fw_X9_7 dX9_serves_45 ?_
      refine V_iload_n hC dX9_serves_48 rfl 4 rfl ?_
      refine V_iconst hC (3 : Int32) dX9_serves_49 (by decide) ?_
      refine V_cSr hC [.int x1, .int (3 : Int32)] (c_X9_wait (l := l) hC.2.2.2.2.2.2.2 rfl) kd_X9_wait gw_1361 gw_1360 ⟨Nat.le_of_ble_eq_true rfl, Nat.le_of_ble_eq_true rfl⟩ rfl (Nat.le_of_ble_eq_true rfl) dX9_serves_50 ⟨Nat.zero_le _, Nat.zero_le _⟩ rfl ?_
      obtain ⟨c10, h⟩ := ite_some h
      refine V_iald hC (a_m1) c10 dX9_serves_53 ?_
      refine V_istore hC ([(5, .int (M.1 7 1 (cl (f_X9_wait x1 (3 : Int32))))), (4, .int (M.1 7 1 (cl (f_X9_wait x1 (2 : Int32))))), (3, .int (M.1 7 1 (cl (f_X9_wait x1 (1 : Int32))))), (2, .int (M.1 7 1 (cl (f_X9_wait x1 (0 : Int32))))), (0, .ref (adr G 7 0)), (1, .int x1)]) dX9_serves_54 (by decide) rfl ?_
      refine V_aload_n hC dX9_serves_56 rfl 4 rfl ?_
      refine V_iload_n hC dX9_serves_57 rfl 3 rfl ?_
      refine V_iload_n hC dX9_serves_58 rfl 2 rfl ?_
      refine V_iload hC dX9_serves_59 0 rfl ?_
      obtain ⟨q11, e11, h⟩ := bind_some h
      refine V_cVr hC [.int (M.1 7 1 (cl (f_X9_wait x1 (0 : Int32)))), .int (M.1 7 1 (cl (f_X9_wait x1 (1 : Int32)))), .int (M.1 7 1 (cl (f_X9_wait x1 (3 : Int32))))] (c_X9_canGrant (l := l) hC.2.2.2.2.2.2.2 e11) kd_X9_canGrant kv_X9_canGrant gw_1474 (r_m0_0).o rfl ⟨Nat.le_of_ble_eq_true rfl, Nat.le_of_ble_eq_true rfl⟩ rfl (Nat.le_of_ble_eq_true rfl) dX9_serves_61 ⟨Nat.zero_le _, Nat.zero_le _⟩ rfl ?_
      refine V_if_eq hC 97 dX9_serves_64 (by decide) (fun c12 => ?_) (fun c12 => ?_)
      · have h := ite_t c12 h
        refine V_sub [4, 5] rfl ?_
        exact b_X9_serves_97 hC hr hlk hk2 h
      · have h := ite_f c12 h
        refine V_aload_n hC dX9_serves_67 rfl 4 rfl ?_
        refine V_iload_n hC dX9_serves_68 rfl 5 rfl ?_
        refine V_iload_n hC dX9_serves_69 rfl 2 rfl ?_
        refine V_iload hC dX9_serves_70 0 rfl ?_
        obtain ⟨q13, e13, h⟩ := bind_some h
        refine V_cVr hC [.int x1, .int (M.1 7 1 (cl (f_X9_wait x1 (1 : Int32)))), .int (M.1 7 1 (cl (f_X9_wait x1 (3 : Int32))))] (c_X9_isBlockedAhead (l := l) hC.2.2.2.2.2.2.2 e13) kd_X9_isBlockedAhead kv_X9_isBlockedAhead gw_1486 (r_m0_0).o rfl ⟨Nat.le_of_ble_eq_true rfl, Nat.le_of_ble_eq_true rfl⟩ rfl (Nat.le_of_ble_eq_true rfl) dX9_serves_72 ⟨Nat.zero_le _, Nat.zero_le _⟩ rfl ?_
        refine V_if_ne hC 97 dX9_serves_75 (by decide) (fun c14 => ?_) (fun c14 => ?_)
        · have h := ite_f c14 h
          refine V_sub [4, 5] rfl ?_
          exact b_X9_serves_97 hC hr hlk hk2 h
        · have h := ite_t c14 h
          refine V_aload_n hC dX9_serves_78 rfl 4 rfl ?_
          refine V_iload_n hC dX9_serves_79 rfl 5 rfl ?_
          obtain ⟨q15, e15, h⟩ := bind_some h
          refine V_cVv hC [.int x1] (c_X9_leavesLine (l := l) hC.2.2.2.2.2.2.2 e15) kd_X9_leavesLine kv_X9_leavesLine gw_1509 (r_m0_0).o rfl ⟨Nat.le_of_ble_eq_true rfl, Nat.le_of_ble_eq_true rfl⟩ rfl (Nat.le_of_ble_eq_true rfl) dX9_serves_80 ⟨Nat.zero_le _, Nat.zero_le _⟩ rfl ?_
          refine V_aload_n hC dX9_serves_83 rfl 4 rfl ?_
          refine V_iload_n hC dX9_serves_84 rfl 3 rfl ?_
          refine V_iload_n hC dX9_serves_85 rfl 2 rfl ?_
          refine V_iload hC dX9_serves_86 1 rfl ?_
          refine V_iload hC dX9_serves_88 0 rfl ?_
          obtain ⟨q16, e16, h⟩ := bind_some h
          refine V_cVr hC [.int (M.1 7 1 (cl (f_X9_wait x1 (0 : Int32)))), .int (M.1 7 1 (cl (f_X9_wait x1 (1 : Int32)))), .int (M.1 7 1 (cl (f_X9_wait x1 (2 : Int32)))), .int (M.1 7 1 (cl (f_X9_wait x1 (3 : Int32))))] (c_X9_grants (l := l) (rv := q16.1) (Mf := q16.2) hC.2.2.2.2.2.2.2 e16) kd_X9_grants kv_X9_grants gw_1494 (r_m0_0).o rfl ⟨Nat.le_of_ble_eq_true rfl, Nat.le_of_ble_eq_true rfl⟩ rfl (Nat.le_of_ble_eq_true rfl) dX9_serves_90 ⟨Nat.zero_le _, Nat.zero_le _⟩ rfl ?_
          refine V_pop hC dX9_serves_93 rfl ?_
          refine V_goto hC 100 dX9_serves_94 (by decide) ?_
          refine V_sub [4, 5] rfl ?_
          exact b_X9_serves_100 hC hr hlk hk2 h
theorem c_X9_serves {l : Launch} {G : Geo} {Mf : Mem} {M : Mem} (hG : gD G) (h : f_X9_serves M = some Mf) : Met l yX9_serves (.code yX9_serves cX9_serves 6 none :: GL) (rmk 7) (gP G [.ref (adr G 7 0)] M) (gQ G none Mf) 0 0 (gA G) := by
  refine Met_of (own := RX9) (L := [(0, .ref (adr G 7 0))]) hG (by decide +kernel) rfl (Nat.le_of_ble_eq_true rfl) rfl ?_
  intro p e s m args below meth c hC hr hlk
  refine V_iconst hC (0 : Int32) dX9_serves_0 (by decide) ?_
  refine V_istore_n hC ([(1, .int (0 : Int32)), (0, .ref (adr G 7 0))]) dX9_serves_1 rfl (by decide) rfl ?_
  refine V_sub [1, 0] rfl ?_
  exact l_X9_serves_2 hC hr hlk FU h
theorem b_X9_loses_20 {Mf : Mem} {z0 : Int32} {z1 : Int32} {M : Mem} (hC : Cx p s m args c cX9_loses RX9 2 G) (hr : meth.sig.returnType = none) (hlk : meth.locks = false) (h : B_X9_loses_20 z0 z1 M = some Mf) : V p l e (rmk 2) s m args below meth c 2 G 0 0 (MQ below (gQ G none Mf) args s 0 0 (gA G)) 20 [] [.int z0, .int z1, .ref (adr G 7 1)] M := by
  refine V_cSr hC [.int z1, .int z0] (c_X9_check (l := l) hC.2.2.2.2.2.2.2 rfl) kd_X9_check gw_1350 gw_1349 ⟨Nat.le_of_ble_eq_true rfl, Nat.le_of_ble_eq_true rfl⟩ rfl (Nat.le_of_ble_eq_true rfl) dX9_loses_20 ⟨Nat.zero_le _, Nat.zero_le _⟩ rfl ?_
  refine V_iconst hC (0 : Int32) dX9_loses_23 (by decide) ?_
  obtain ⟨c4, h⟩ := ite_some h
  refine V_iast hC (a_m1) c4 dX9_loses_24 ?_
  obtain rfl := Option.some.inj h
  exact V_vret hC hr hlk dX9_loses_25
theorem c_X9_loses {l : Launch} {G : Geo} {x1 : Int32} {Mf : Mem} {M : Mem} (hG : gD G) (h : f_X9_loses x1 M = some Mf) : Met l yX9_loses (.code yX9_loses cX9_loses 2 none :: GL) (rmk 2) (gP G [.ref (adr G 7 0), .int x1] M) (gQ G none Mf) 0 0 (gA G) := by
  refine Met_of (own := RX9) (L := [(0, .ref (adr G 7 0)), (1, .int x1)]) hG (by decide +kernel) rfl (Nat.le_of_ble_eq_true rfl) rfl ?_
  intro p e s m args below meth c hC hr hlk
  refine V_aload_n hC dX9_loses_0 rfl 0 rfl ?_
  refine V_getR hC (r_m0_0) fw_X9_7 dX9_loses_1 ?_
  refine V_iload_n hC dX9_loses_4 rfl 1 rfl ?_
  refine V_aload_n hC dX9_loses_5 rfl 0 rfl ?_
  refine V_iload_n hC dX9_loses_6 rfl 1 rfl ?_
  refine V_iconst hC (5 : Int32) dX9_loses_7 (by decide) ?_
  obtain ⟨q1, e1, h⟩ := bind_some h
  refine V_cVr hC [.int x1, .int (5 : Int32)] (c_X9_get (l := l) hC.2.2.2.2.2.2.2 e1) kd_X9_get kv_X9_get gw_1345 (r_m0_0).o rfl ⟨Nat.le_of_ble_eq_true rfl, Nat.le_of_ble_eq_true rfl⟩ rfl (Nat.le_of_ble_eq_true rfl) dX9_loses_8 ⟨Nat.zero_le _, Nat.zero_le _⟩ rfl ?_
  refine V_iconst hC (1 : Int32) dX9_loses_11 (by decide) ?_
  refine V_icmp_ne hC 19 dX9_loses_12 (by decide) (fun c2 => ?_) (fun c2 => ?_)
  · have h := ite_f c2 h
    refine V_iconst hC (4 : Int32) dX9_loses_19 (by decide) ?_
    refine V_sub [] rfl ?_
    exact b_X9_loses_20 hC hr hlk h
  · have h := ite_t c2 h
    refine V_iconst hC (0 : Int32) dX9_loses_15 (by decide) ?_
    refine V_goto hC 20 dX9_loses_16 (by decide) ?_
    refine V_sub [] rfl ?_
    exact b_X9_loses_20 hC hr hlk h
theorem b_X9_tickOn_93 {Mf : Mem} {k58 : Int32 → Mem → Option Mem} {x1 : Int32} {z0 : Int32} {z1 : Int32} {z2 : Int32} {M : Mem} (hC : Cx p s m args c cX9_tickOn RX9 2 G) (hr : meth.sig.returnType = none) (hlk : meth.locks = false) (hk58 : ∀ (x1 : Int32) (M : Mem), k58 x1 M = some Mf → V p l e (rmk 8) s m args below meth c 2 G 0 0 (MQ below (gQ G none Mf) args s 0 0 (gA G)) 58 [(0, .ref (adr G 7 0)), (1, .int x1)] [] M) (h : B_X9_tickOn_93 k58 x1 z0 z1 z2 M = some Mf) : V p l e (rmk 8) s m args below meth c 2 G 0 0 (MQ below (gQ G none Mf) args s 0 0 (gA G)) 93 [(0, .ref (adr G 7 0)), (1, .int x1)] [.int z0, .int z1, .int z2, .ref (adr G 7 1)] M := by
  refine V_iadd hC dX9_tickOn_93 ?_
  obtain ⟨c8, h⟩ := ite_some h
  refine V_iast hC (a_m1) c8 dX9_tickOn_94 ?_
  refine V_iinc hC (x1 + 1) ([(1, .int (x1 + 1)), (0, .ref (adr G 7 0))]) dX9_tickOn_95 1 rfl rfl (by decide) rfl ?_
  refine V_goto hC 58 dX9_tickOn_98 (by decide) ?_
  refine V_sub [1, 0] rfl ?_
  exact hk58 _ _ h
theorem l_X9_tickOn_58 {Mf : Mem} (hC : Cx p s m args c cX9_tickOn RX9 2 G) (hr : meth.sig.returnType = none) (hlk : meth.locks = false) : ∀ (n : Nat) {x1 : Int32} {M : Mem} (h : L_X9_tickOn_58 n x1 M = some Mf), V p l e (rmk 8) s m args below meth c 2 G 0 0 (MQ below (gQ G none Mf) args s 0 0 (gA G)) 58 [(0, .ref (adr G 7 0)), (1, .int x1)] [] M := by
  intro n
  induction n with
  | zero => intro x1 M h; cases h
  | succ n ih =>
    intro x1 M h
    have hk58 : ∀ (x1 : Int32) (M : Mem), L_X9_tickOn_58 n x1 M = some Mf → V p l e (rmk 8) s m args below meth c 2 G 0 0 (MQ below (gQ G none Mf) args s 0 0 (gA G)) 58 [(0, .ref (adr G 7 0)), (1, .int x1)] [] M := fun _ _ z => ih z
    refine V_iload_n hC dX9_tickOn_58 rfl 1 rfl ?_
    refine V_bipush hC (10 : Int32) dX9_tickOn_59 (by decide) ?_
    refine V_icmp_ge hC 101 dX9_tickOn_61 (by decide) (fun c3 => ?_) (fun c3 => ?_)
    · have h := ite_t c3 h
      obtain rfl := Option.some.inj h
      exact V_vret hC hr hlk dX9_tickOn_101
    · have h := ite_f c3 h
      refine V_aload_n hC dX9_tickOn_64 rfl 0 rfl ?_
      refine V_getR hC (r_m0_0) fw_X9_7 dX9_tickOn_65 ?_
      refine V_sipush hC (2695 : Int32) dX9_tickOn_68 (by decide) ?_
      refine V_aload_n hC dX9_tickOn_71 rfl 0 rfl ?_
      refine V_iload_n hC dX9_tickOn_72 rfl 1 rfl ?_
      refine V_iconst hC (1 : Int32) dX9_tickOn_73 (by decide) ?_
      obtain ⟨q4, e4, h⟩ := bind_some h
      refine V_cVr hC [.int x1, .int (1 : Int32)] (c_X9_get (l := l) hC.2.2.2.2.2.2.2 e4) kd_X9_get kv_X9_get gw_1345 (r_m0_0).o rfl ⟨Nat.le_of_ble_eq_true rfl, Nat.le_of_ble_eq_true rfl⟩ rfl (Nat.le_of_ble_eq_true rfl) dX9_tickOn_74 ⟨Nat.zero_le _, Nat.zero_le _⟩ rfl ?_
      refine V_iadd hC dX9_tickOn_77 ?_
      refine V_dup2 hC dX9_tickOn_78 rfl rfl ?_
      obtain ⟨c5, h⟩ := ite_some h
      refine V_iald hC (a_m1) c5 dX9_tickOn_79 ?_
      refine V_aload_n hC dX9_tickOn_80 rfl 0 rfl ?_
      refine V_iload_n hC dX9_tickOn_81 rfl 1 rfl ?_
      obtain ⟨q6, e6, h⟩ := bind_some h
      refine V_cVr hC [.int x1] (c_X9_isHeld (l := l) hC.2.2.2.2.2.2.2 e6) kd_X9_isHeld kv_X9_isHeld gw_1439 (r_m0_0).o rfl ⟨Nat.le_of_ble_eq_true rfl, Nat.le_of_ble_eq_true rfl⟩ rfl (Nat.le_of_ble_eq_true rfl) dX9_tickOn_82 ⟨Nat.zero_le _, Nat.zero_le _⟩ rfl ?_
      refine V_if_eq hC 92 dX9_tickOn_85 (by decide) (fun c7 => ?_) (fun c7 => ?_)
      · have h := ite_t c7 h
        refine V_iconst hC (0 : Int32) dX9_tickOn_92 (by decide) ?_
        exact b_X9_tickOn_93 hC hr hlk hk58 h
      · have h := ite_f c7 h
        refine V_iconst hC (1 : Int32) dX9_tickOn_88 (by decide) ?_
        refine V_goto hC 93 dX9_tickOn_89 (by decide) ?_
        exact b_X9_tickOn_93 hC hr hlk hk58 h
theorem b_X9_tickOn_46 {Mf : Mem} {k12 : Int32 → Mem → Option Mem} {x1 : Int32} {M : Mem} (hC : Cx p s m args c cX9_tickOn RX9 2 G) (hr : meth.sig.returnType = none) (hlk : meth.locks = false) (hk12 : ∀ (x1 : Int32) (M : Mem), k12 x1 M = some Mf → V p l e (rmk 8) s m args below meth c 2 G 0 0 (MQ below (gQ G none Mf) args s 0 0 (gA G)) 12 [(0, .ref (adr G 7 0)), (1, .int x1)] [] M) (h : B_X9_tickOn_46 k12 x1 M = some Mf) : V p l e (rmk 8) s m args below meth c 2 G 0 0 (MQ below (gQ G none Mf) args s 0 0 (gA G)) 46 [(0, .ref (adr G 7 0)), (1, .int x1)] [] M := by
  refine V_iinc hC (x1 + 1) ([(1, .int (x1 + 1)), (0, .ref (adr G 7 0))]) dX9_tickOn_46 1 rfl rfl (by decide) rfl ?_
  refine V_goto hC 12 dX9_tickOn_49 (by decide) ?_
  refine V_sub [1, 0] rfl ?_
  exact hk12 _ _ h
theorem l_X9_tickOn_12 {Mf : Mem} (hC : Cx p s m args c cX9_tickOn RX9 2 G) (hr : meth.sig.returnType = none) (hlk : meth.locks = false) : ∀ (n : Nat) {x1 : Int32} {M : Mem} (h : L_X9_tickOn_12 n x1 M = some Mf), V p l e (rmk 8) s m args below meth c 2 G 0 0 (MQ below (gQ G none Mf) args s 0 0 (gA G)) 12 [(0, .ref (adr G 7 0)), (1, .int x1)] [] M := by
  intro n
  induction n with
  | zero => intro x1 M h; cases h
  | succ n ih =>
    intro x1 M h
    have hk12 : ∀ (x1 : Int32) (M : Mem), L_X9_tickOn_12 n x1 M = some Mf → V p l e (rmk 8) s m args below meth c 2 G 0 0 (MQ below (gQ G none Mf) args s 0 0 (gA G)) 12 [(0, .ref (adr G 7 0)), (1, .int x1)] [] M := fun _ _ z => ih z
    refine V_iload_n hC dX9_tickOn_12 rfl 1 rfl ?_
    refine V_bipush hC (10 : Int32) dX9_tickOn_13 (by decide) ?_
    refine V_icmp_ge hC 52 dX9_tickOn_15 (by decide) (fun c1 => ?_) (fun c1 => ?_)
    · have h := ite_t c1 h
      refine V_aload_n hC dX9_tickOn_52 rfl 0 rfl ?_
      obtain ⟨q2, e2, h⟩ := bind_some h
      refine V_cVv hC [] (c_X9_serves (l := l) hC.2.2.2.2.2.2.2 e2) kd_X9_serves kv_X9_serves gw_1513 (r_m0_0).o rfl ⟨Nat.le_of_ble_eq_true rfl, Nat.le_of_ble_eq_true rfl⟩ rfl (Nat.le_of_ble_eq_true rfl) dX9_tickOn_53 ⟨Nat.zero_le _, Nat.zero_le _⟩ rfl ?_
      refine V_iconst hC (0 : Int32) dX9_tickOn_56 (by decide) ?_
      refine V_istore_n hC ([(1, .int (0 : Int32)), (0, .ref (adr G 7 0))]) dX9_tickOn_57 rfl (by decide) rfl ?_
      refine V_sub [1, 0] rfl ?_
      exact l_X9_tickOn_58 hC hr hlk FU h
    · have h := ite_f c1 h
      refine V_aload_n hC dX9_tickOn_18 rfl 0 rfl ?_
      refine V_iload_n hC dX9_tickOn_19 rfl 1 rfl ?_
      obtain ⟨q9, e9, h⟩ := bind_some h
      refine V_cVr hC [.int x1] (c_X9_isHeld (l := l) hC.2.2.2.2.2.2.2 e9) kd_X9_isHeld kv_X9_isHeld gw_1439 (r_m0_0).o rfl ⟨Nat.le_of_ble_eq_true rfl, Nat.le_of_ble_eq_true rfl⟩ rfl (Nat.le_of_ble_eq_true rfl) dX9_tickOn_20 ⟨Nat.zero_le _, Nat.zero_le _⟩ rfl ?_
      refine V_if_eq hC 46 dX9_tickOn_23 (by decide) (fun c10 => ?_) (fun c10 => ?_)
      · have h := ite_t c10 h
        exact b_X9_tickOn_46 hC hr hlk hk12 h
      · have h := ite_f c10 h
        refine V_aload_n hC dX9_tickOn_26 rfl 0 rfl ?_
        refine V_iload_n hC dX9_tickOn_27 rfl 1 rfl ?_
        refine V_iconst hC (3 : Int32) dX9_tickOn_28 (by decide) ?_
        obtain ⟨q11, e11, h⟩ := bind_some h
        refine V_cVr hC [.int x1, .int (3 : Int32)] (c_X9_get (l := l) hC.2.2.2.2.2.2.2 e11) kd_X9_get kv_X9_get gw_1345 (r_m0_0).o rfl ⟨Nat.le_of_ble_eq_true rfl, Nat.le_of_ble_eq_true rfl⟩ rfl (Nat.le_of_ble_eq_true rfl) dX9_tickOn_29 ⟨Nat.zero_le _, Nat.zero_le _⟩ rfl ?_
        refine V_aload_n hC dX9_tickOn_32 rfl 0 rfl ?_
        refine V_getR hC (r_m0_0) fw_X9_7 dX9_tickOn_33 ?_
        refine V_iconst hC (0 : Int32) dX9_tickOn_36 (by decide) ?_
        refine V_iald hC (a_m1) (by decide) dX9_tickOn_37 ?_
        refine V_icmp_ne hC 46 dX9_tickOn_38 (by decide) (fun c12 => ?_) (fun c12 => ?_)
        · have h := ite_f c12 h
          exact b_X9_tickOn_46 hC hr hlk hk12 h
        · have h := ite_t c12 h
          refine V_aload_n hC dX9_tickOn_41 rfl 0 rfl ?_
          refine V_iload_n hC dX9_tickOn_42 rfl 1 rfl ?_
          obtain ⟨q13, e13, h⟩ := bind_some h
          refine V_cVv hC [.int x1] (c_X9_loses (l := l) hC.2.2.2.2.2.2.2 e13) kd_X9_loses kv_X9_loses gw_1533 (r_m0_0).o rfl ⟨Nat.le_of_ble_eq_true rfl, Nat.le_of_ble_eq_true rfl⟩ rfl (Nat.le_of_ble_eq_true rfl) dX9_tickOn_43 ⟨Nat.zero_le _, Nat.zero_le _⟩ rfl ?_
          exact b_X9_tickOn_46 hC hr hlk hk12 h
theorem c_X9_tickOn {l : Launch} {G : Geo} {Mf : Mem} {M : Mem} (hG : gD G) (h : f_X9_tickOn M = some Mf) : Met l yX9_tickOn (.code yX9_tickOn cX9_tickOn 2 none :: GL) (rmk 8) (gP G [.ref (adr G 7 0)] M) (gQ G none Mf) 0 0 (gA G) := by
  refine Met_of (own := RX9) (L := [(0, .ref (adr G 7 0))]) hG (by decide +kernel) rfl (Nat.le_of_ble_eq_true rfl) rfl ?_
  intro p e s m args below meth c hC hr hlk
  refine V_aload_n hC dX9_tickOn_0 rfl 0 rfl ?_
  refine V_getR hC (r_m0_0) fw_X9_7 dX9_tickOn_1 ?_
  refine V_iconst hC (0 : Int32) dX9_tickOn_4 (by decide) ?_
  refine V_dup2 hC dX9_tickOn_5 rfl rfl ?_
  refine V_iald hC (a_m1) (by decide) dX9_tickOn_6 ?_
  refine V_iconst hC (1 : Int32) dX9_tickOn_7 (by decide) ?_
  refine V_iadd hC dX9_tickOn_8 ?_
  refine V_iast hC (a_m1) (by decide) dX9_tickOn_9 ?_
  refine V_iconst hC (0 : Int32) dX9_tickOn_10 (by decide) ?_
  refine V_istore_n hC ([(1, .int (0 : Int32)), (0, .ref (adr G 7 0))]) dX9_tickOn_11 rfl (by decide) rfl ?_
  refine V_sub [1, 0] rfl ?_
  exact l_X9_tickOn_12 hC hr hlk FU h
end
