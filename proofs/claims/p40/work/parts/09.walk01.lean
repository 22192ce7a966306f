section
variable {p : Program} {l : Launch} {e : Env} {s : State} {m : MethodId} {args : Array Value} {below : List Frame} {meth : Method} {c : Code} {G : Geo}
theorem c_X8_copyRow {l : Launch} {G : Geo} {g1 j1 n1 q1 : Nat} {g2 j2 n2 q2 : Nat} {Mf : Mem} {M : Mem} (hG : gD G) (hI1 : isI G g1 j1 n1 q1) (hI2 : isI G g2 j2 n2 q2) (h : f_X8_copyRow g1 j1 n1 g2 j2 n2 M = some Mf) : Met l yX8_copyRow (.code yX8_copyRow cX8_copyRow 2 none :: GL) (rmk 2) (gP G [.ref (adr G g1 j1), .ref (adr G g2 j2)] M) (gQ G none Mf) 0 0 (gA G) := by
  refine Met_of (own := RX8) (L := [(0, .ref (adr G g1 j1)), (1, .ref (adr G g2 j2))]) hG (by decide +kernel) rfl (Nat.le_of_ble_eq_true rfl) rfl ?_
  intro p e s m args below meth c hC hr hlk
  refine V_aload_n hC dX8_copyRow_0 rfl 0 rfl ?_
  refine V_iconst hC (0 : Int32) dX8_copyRow_1 (by decide) ?_
  refine V_aload_n hC dX8_copyRow_2 rfl 1 rfl ?_
  refine V_iconst hC (0 : Int32) dX8_copyRow_3 (by decide) ?_
  refine V_aload_n hC dX8_copyRow_4 rfl 0 rfl ?_
  refine V_alen hC hI1 dX8_copyRow_5 ?_
  refine V_aload_n hC dX8_copyRow_6 rfl 1 rfl ?_
  refine V_alen hC hI2 dX8_copyRow_7 ?_
  refine V_mmin hC gw_413 gw_414 gw_17 gw_415 (Nat.le_of_ble_eq_true rfl) (Nat.le_of_ble_eq_true rfl) (Nat.le_of_ble_eq_true rfl) ⟨Nat.zero_le _, Nat.zero_le _⟩ dX8_copyRow_8 ?_
  obtain ⟨c1, h⟩ := ite_some h
  refine V_copyi hC hI1 hI2 c1 gw_416 gw_418 gw_417 gw_18 (Nat.le_of_ble_eq_true rfl) (Nat.le_of_ble_eq_true rfl) (Nat.le_of_ble_eq_true rfl) dX8_copyRow_11 ?_
  obtain rfl := Option.some.inj h
  exact V_vret hC hr hlk dX8_copyRow_14
theorem c_X0_copyFrom {l : Launch} {G : Geo} {g : Nat} {g2 : Nat} {Mf : Mem} {M : Mem} (hG : gD G) (hg : g < 6) (hg2 : g2 < 6) (h : f_X0_copyFrom g g2 M = some Mf) : Met l yX0_copyFrom (.code yX0_copyFrom cX0_copyFrom 2 none :: GL) (rmk 3) (gP G [.ref (adr G g 8), .ref (adr G g2 8)] M) (gQ G none Mf) 0 0 (gA G) := by
  refine Met_of (own := RX0) (L := [(0, .ref (adr G g 8)), (1, .ref (adr G g2 8))]) hG (by decide +kernel) rfl (Nat.le_of_ble_eq_true rfl) rfl ?_
  intro p e s m args below meth c hC hr hlk
  refine V_aload_n hC dX0_copyFrom_0 rfl 1 rfl ?_
  refine V_getR hC (r_d8_0 hg2) fw_X0_11 dX0_copyFrom_1 ?_
  refine V_aload_n hC dX0_copyFrom_4 rfl 0 rfl ?_
  refine V_getR hC (r_d8_0 hg) fw_X0_11 dX0_copyFrom_5 ?_
  obtain ⟨q1, e1, h⟩ := bind_some h
  refine V_cSNv hC [.ref (adr G g2 9), .ref (adr G g 9)] (c_X8_copyRow (l := l) hC.2.2.2.2.2.2.2 (a_d9 hg2) (a_d9 hg) e1) kd_X8_copyRow gw_411 nw_24 ⟨Nat.le_of_ble_eq_true rfl, Nat.le_of_ble_eq_true rfl⟩ rfl (Nat.le_of_ble_eq_true rfl) dX0_copyFrom_8 ⟨Nat.zero_le _, Nat.zero_le _⟩ rfl ?_
  refine V_aload_n hC dX0_copyFrom_11 rfl 1 rfl ?_
  refine V_getR hC (r_d8_1 hg2) fw_X0_15 dX0_copyFrom_12 ?_
  refine V_aload_n hC dX0_copyFrom_15 rfl 0 rfl ?_
  refine V_getR hC (r_d8_1 hg) fw_X0_15 dX0_copyFrom_16 ?_
  obtain ⟨q2, e2, h⟩ := bind_some h
  refine V_cSNv hC [.ref (adr G g2 10), .ref (adr G g 10)] (c_X8_copyRow (l := l) hC.2.2.2.2.2.2.2 (a_d10 hg2) (a_d10 hg) e2) kd_X8_copyRow gw_411 nw_24 ⟨Nat.le_of_ble_eq_true rfl, Nat.le_of_ble_eq_true rfl⟩ rfl (Nat.le_of_ble_eq_true rfl) dX0_copyFrom_19 ⟨Nat.zero_le _, Nat.zero_le _⟩ rfl ?_
  refine V_aload_n hC dX0_copyFrom_22 rfl 1 rfl ?_
  refine V_getR hC (r_d8_2 hg2) fw_X0_18 dX0_copyFrom_23 ?_
  refine V_aload_n hC dX0_copyFrom_26 rfl 0 rfl ?_
  refine V_getR hC (r_d8_2 hg) fw_X0_18 dX0_copyFrom_27 ?_
  obtain ⟨q3, e3, h⟩ := bind_some h
  refine V_cSNv hC [.ref (adr G g2 11), .ref (adr G g 11)] (c_X8_copyRow (l := l) hC.2.2.2.2.2.2.2 (a_d11 hg2) (a_d11 hg) e3) kd_X8_copyRow gw_411 nw_24 ⟨Nat.le_of_ble_eq_true rfl, Nat.le_of_ble_eq_true rfl⟩ rfl (Nat.le_of_ble_eq_true rfl) dX0_copyFrom_30 ⟨Nat.zero_le _, Nat.zero_le _⟩ rfl ?_
  refine V_aload_n hC dX0_copyFrom_33 rfl 0 rfl ?_
  refine V_aload_n hC dX0_copyFrom_34 rfl 1 rfl ?_
  refine V_getI hC (f_d8_3 hg2) fw_X0_25 dX0_copyFrom_35 ?_
  refine V_putI hC (f_d8_3 hg) fw_X0_25 flp_0_3 dX0_copyFrom_38 ?_
  obtain rfl := Option.some.inj h
  exact V_vret hC hr hlk dX0_copyFrom_41
theorem c_X0_has {l : Launch} {G : Geo} {g : Nat} {x1 : Int32} {rv : Int32} {M : Mem} (hG : gD G) (hg : g < 6) (h : f_X0_has g x1 M = rv) : Met l yX0_has (.code yX0_has cX0_has 2 (some .boolean) :: GL) (rmk 0) (gP G [.ref (adr G g 8), .int x1] M) (gQ G (some (.int rv)) M) 0 0 (gA G) := by
  refine Met_of (own := RX0) (L := [(0, .ref (adr G g 8)), (1, .int x1)]) hG (by decide +kernel) rfl (Nat.le_of_ble_eq_true rfl) rfl ?_
  intro p e s m args below meth c hC hr hlk
  refine V_iload_n hC dX0_has_0 rfl 1 rfl ?_
  refine V_if_lt hC 25 dX0_has_1 (by decide) (fun c1 => ?_) (fun c1 => ?_)
  · have h := ite_t c1 h
    refine V_iconst hC (0 : Int32) dX0_has_25 (by decide) ?_
    obtain rfl := id h
    exact V_zret hC hr hlk (Or.inl rfl) dX0_has_26
  · have h := ite_f c1 h
    refine V_iload_n hC dX0_has_4 rfl 1 rfl ?_
    refine V_bipush hC (10 : Int32) dX0_has_5 (by decide) ?_
    refine V_icmp_ge hC 25 dX0_has_7 (by decide) (fun c2 => ?_) (fun c2 => ?_)
    · have h := ite_t c2 h
      refine V_iconst hC (0 : Int32) dX0_has_25 (by decide) ?_
      obtain rfl := id h
      exact V_zret hC hr hlk (Or.inl rfl) dX0_has_26
    · have h := ite_f c2 h
      refine V_aload_n hC dX0_has_10 rfl 0 rfl ?_
      refine V_getI hC (f_d8_3 hg) fw_X0_25 dX0_has_11 ?_
      refine V_iload_n hC dX0_has_14 rfl 1 rfl ?_
      refine V_iushr hC dX0_has_15 ?_
      refine V_iconst hC (1 : Int32) dX0_has_16 (by decide) ?_
      refine V_iand hC dX0_has_17 ?_
      refine V_if_eq hC 25 dX0_has_18 (by decide) (fun c3 => ?_) (fun c3 => ?_)
      · have h := ite_t c3 h
        refine V_iconst hC (0 : Int32) dX0_has_25 (by decide) ?_
        obtain rfl := id h
        exact V_zret hC hr hlk (Or.inl rfl) dX0_has_26
      · have h := ite_f c3 h
        refine V_iconst hC (1 : Int32) dX0_has_21 (by decide) ?_
        refine V_goto hC 26 dX0_has_22 (by decide) ?_
        obtain rfl := id h
        exact V_zret hC hr hlk (Or.inr rfl) dX0_has_26
theorem z_X0_has (g : Nat) (x1 : Int32) (M : Mem) : f_X0_has g x1 M = 0 ∨ f_X0_has g x1 M = 1 := by
  unfold f_X0_has
  (repeat' split) <;> first | exact Or.inl rfl | exact Or.inr rfl
theorem b_X0_fact_26 {g : Nat} {rv : Int32} {x1 : Int32} {x2 : Int32} {z0 : Int32} {M : Mem} (hC : Cx p s m args c cX0_fact RX0 4 G) (hr : meth.sig.returnType = some .int) (hlk : meth.locks = false) (hg : g < 6) (h : B_X0_fact_26 g x1 x2 z0 M = some rv) : V p l e (rmk 0) s m args below meth c 4 G 0 0 (MQ below (gQ G (some (.int rv)) M) args s 0 0 (gA G)) 26 [(0, .ref (adr G g 8)), (1, .int x1), (2, .int x2)] [.int z0] M := by
  refine V_istore_n hC ([(3, .int z0), (0, .ref (adr G g 8)), (1, .int x1), (2, .int x2)]) dX0_fact_26 rfl (by decide) rfl ?_
  refine V_iload_n hC dX0_fact_27 rfl 0 rfl ?_
  refine V_if_eq hC 53 dX0_fact_28 (by decide) (fun c2 => ?_) (fun c2 => ?_)
  · have h := ite_t c2 h
    refine V_iconst hC (0 : Int32) dX0_fact_53 (by decide) ?_
    obtain rfl := Option.some.inj h
    exact V_iret hC hr hlk dX0_fact_54
  · have h := ite_f c2 h
    refine V_iload_n hC dX0_fact_31 rfl 3 rfl ?_
    refine V_if_lt hC 53 dX0_fact_32 (by decide) (fun c3 => ?_) (fun c3 => ?_)
    · have h := ite_t c3 h
      refine V_iconst hC (0 : Int32) dX0_fact_53 (by decide) ?_
      obtain rfl := Option.some.inj h
      exact V_iret hC hr hlk dX0_fact_54
    · have h := ite_f c3 h
      refine V_iload_n hC dX0_fact_35 rfl 3 rfl ?_
      refine V_iconst hC (5 : Int32) dX0_fact_36 (by decide) ?_
      refine V_icmp_ge hC 53 dX0_fact_37 (by decide) (fun c4 => ?_) (fun c4 => ?_)
      · have h := ite_t c4 h
        refine V_iconst hC (0 : Int32) dX0_fact_53 (by decide) ?_
        obtain rfl := Option.some.inj h
        exact V_iret hC hr hlk dX0_fact_54
      · have h := ite_f c4 h
        refine V_aload_n hC dX0_fact_40 rfl 1 rfl ?_
        refine V_getR hC (r_d8_0 hg) fw_X0_11 dX0_fact_41 ?_
        refine V_iload_n hC dX0_fact_44 rfl 2 rfl ?_
        refine V_iconst hC (5 : Int32) dX0_fact_45 (by decide) ?_
        refine V_imul hC dX0_fact_46 ?_
        refine V_iload_n hC dX0_fact_47 rfl 3 rfl ?_
        refine V_iadd hC dX0_fact_48 ?_
        obtain ⟨c5, h⟩ := ite_some h
        refine V_iald hC (a_d9 hg) c5 dX0_fact_49 ?_
        refine V_goto hC 54 dX0_fact_50 (by decide) ?_
        obtain rfl := Option.some.inj h
        exact V_iret hC hr hlk dX0_fact_54
theorem b_X0_fact_25 {g : Nat} {rv : Int32} {x1 : Int32} {x2 : Int32} {M : Mem} (hC : Cx p s m args c cX0_fact RX0 4 G) (hr : meth.sig.returnType = some .int) (hlk : meth.locks = false) (hg : g < 6) (h : B_X0_fact_25 g x1 x2 M = some rv) : V p l e (rmk 0) s m args below meth c 4 G 0 0 (MQ below (gQ G (some (.int rv)) M) args s 0 0 (gA G)) 25 [(0, .ref (adr G g 8)), (1, .int x1), (2, .int x2)] [] M := by
  refine V_iconst hC (0 : Int32) dX0_fact_25 (by decide) ?_
  exact b_X0_fact_26 hC hr hlk hg h
theorem c_X0_fact {l : Launch} {G : Geo} {g : Nat} {x1 : Int32} {x2 : Int32} {rv : Int32} {M : Mem} (hG : gD G) (hg : g < 6) (h : f_X0_fact g x1 x2 M = some rv) : Met l yX0_fact (.code yX0_fact cX0_fact 4 (some .int) :: GL) (rmk 0) (gP G [.ref (adr G g 8), .int x1, .int x2] M) (gQ G (some (.int rv)) M) 0 0 (gA G) := by
  refine Met_of (own := RX0) (L := [(0, .ref (adr G g 8)), (1, .int x1), (2, .int x2)]) hG (by decide +kernel) rfl (Nat.le_of_ble_eq_true rfl) rfl ?_
  intro p e s m args below meth c hC hr hlk
  refine V_iload_n hC dX0_fact_0 rfl 1 rfl ?_
  refine V_if_lt hC 25 dX0_fact_1 (by decide) (fun c1 => ?_) (fun c1 => ?_)
  · have h := ite_t c1 h
    exact b_X0_fact_25 hC hr hlk hg h
  · have h := ite_f c1 h
    refine V_iload_n hC dX0_fact_4 rfl 1 rfl ?_
    refine V_bipush hC (10 : Int32) dX0_fact_5 (by decide) ?_
    refine V_icmp_ge hC 25 dX0_fact_7 (by decide) (fun c6 => ?_) (fun c6 => ?_)
    · have h := ite_t c6 h
      exact b_X0_fact_25 hC hr hlk hg h
    · have h := ite_f c6 h
      refine V_aload_n hC dX0_fact_10 rfl 0 rfl ?_
      refine V_getI hC (f_d8_3 hg) fw_X0_25 dX0_fact_11 ?_
      refine V_iload_n hC dX0_fact_14 rfl 1 rfl ?_
      refine V_iushr hC dX0_fact_15 ?_
      refine V_iconst hC (1 : Int32) dX0_fact_16 (by decide) ?_
      refine V_iand hC dX0_fact_17 ?_
      refine V_if_eq hC 25 dX0_fact_18 (by decide) (fun c7 => ?_) (fun c7 => ?_)
      · have h := ite_t c7 h
        exact b_X0_fact_25 hC hr hlk hg h
      · have h := ite_f c7 h
        refine V_iconst hC (1 : Int32) dX0_fact_21 (by decide) ?_
        refine V_goto hC 26 dX0_fact_22 (by decide) ?_
        exact b_X0_fact_26 hC hr hlk hg h
theorem c_X0_setFact {l : Launch} {G : Geo} {g : Nat} {x1 : Int32} {x2 : Int32} {x3 : Int32} {Mf : Mem} {M : Mem} (hG : gD G) (hg : g < 6) (h : f_X0_setFact g x1 x2 x3 M = some Mf) : Met l yX0_setFact (.code yX0_setFact cX0_setFact 4 none :: GL) (rmk 0) (gP G [.ref (adr G g 8), .int x1, .int x2, .int x3] M) (gQ G none Mf) 0 0 (gA G) := by
  refine Met_of (own := RX0) (L := [(0, .ref (adr G g 8)), (1, .int x1), (2, .int x2), (3, .int x3)]) hG (by decide +kernel) rfl (Nat.le_of_ble_eq_true rfl) rfl ?_
  intro p e s m args below meth c hC hr hlk
  refine V_iload_n hC dX0_setFact_0 rfl 1 rfl ?_
  refine V_if_lt hC 30 dX0_setFact_1 (by decide) (fun c1 => ?_) (fun c1 => ?_)
  · have h := ite_t c1 h
    obtain rfl := Option.some.inj h
    exact V_vret hC hr hlk dX0_setFact_30
  · have h := ite_f c1 h
    refine V_iload_n hC dX0_setFact_4 rfl 1 rfl ?_
    refine V_bipush hC (10 : Int32) dX0_setFact_5 (by decide) ?_
    refine V_icmp_ge hC 30 dX0_setFact_7 (by decide) (fun c2 => ?_) (fun c2 => ?_)
    · have h := ite_t c2 h
      obtain rfl := Option.some.inj h
      exact V_vret hC hr hlk dX0_setFact_30
    · have h := ite_f c2 h
      refine V_iload_n hC dX0_setFact_10 rfl 2 rfl ?_
      refine V_if_lt hC 30 dX0_setFact_11 (by decide) (fun c3 => ?_) (fun c3 => ?_)
      · have h := ite_t c3 h
        obtain rfl := Option.some.inj h
        exact V_vret hC hr hlk dX0_setFact_30
      · have h := ite_f c3 h
        refine V_iload_n hC dX0_setFact_14 rfl 2 rfl ?_
        refine V_iconst hC (5 : Int32) dX0_setFact_15 (by decide) ?_
        refine V_icmp_ge hC 30 dX0_setFact_16 (by decide) (fun c4 => ?_) (fun c4 => ?_)
        · have h := ite_t c4 h
          obtain rfl := Option.some.inj h
          exact V_vret hC hr hlk dX0_setFact_30
        · have h := ite_f c4 h
          refine V_aload_n hC dX0_setFact_19 rfl 0 rfl ?_
          refine V_getR hC (r_d8_0 hg) fw_X0_11 dX0_setFact_20 ?_
          refine V_iload_n hC dX0_setFact_23 rfl 1 rfl ?_
          refine V_iconst hC (5 : Int32) dX0_setFact_24 (by decide) ?_
          refine V_imul hC dX0_setFact_25 ?_
          refine V_iload_n hC dX0_setFact_26 rfl 2 rfl ?_
          refine V_iadd hC dX0_setFact_27 ?_
          refine V_iload_n hC dX0_setFact_28 rfl 3 rfl ?_
          obtain ⟨c5, h⟩ := ite_some h
          refine V_iast hC (a_d9 hg) c5 dX0_setFact_29 ?_
          obtain rfl := Option.some.inj h
          exact V_vret hC hr hlk dX0_setFact_30
theorem c_X0_isHeld {l : Launch} {G : Geo} {g : Nat} {x1 : Int32} {rv : Int32} {M : Mem} (hG : gD G) (hg : g < 6) (h : f_X0_isHeld g x1 M = some rv) : Met l yX0_isHeld (.code yX0_isHeld cX0_isHeld 2 (some .boolean) :: GL) (rmk 1) (gP G [.ref (adr G g 8), .int x1] M) (gQ G (some (.int rv)) M) 0 0 (gA G) := by
  refine Met_of (own := RX0) (L := [(0, .ref (adr G g 8)), (1, .int x1)]) hG (by decide +kernel) rfl (Nat.le_of_ble_eq_true rfl) rfl ?_
  intro p e s m args below meth c hC hr hlk
  refine V_aload_n hC dX0_isHeld_0 rfl 0 rfl ?_
  refine V_iload_n hC dX0_isHeld_1 rfl 1 rfl ?_
  refine V_iconst hC (3 : Int32) dX0_isHeld_2 (by decide) ?_
  obtain ⟨q1, e1, h⟩ := bind_some h
  refine V_cVr hC [.int x1, .int (3 : Int32)] (c_X0_fact (l := l) hC.2.2.2.2.2.2.2 hg e1) kd_X0_fact kv_X0_fact gw_272 (r_d8_0 hg).o rfl ⟨Nat.le_of_ble_eq_true rfl, Nat.le_of_ble_eq_true rfl⟩ rfl (Nat.le_of_ble_eq_true rfl) dX0_isHeld_3 ⟨Nat.zero_le _, Nat.zero_le _⟩ rfl ?_
  refine V_iconst hC (1 : Int32) dX0_isHeld_6 (by decide) ?_
  refine V_icmp_ne hC 14 dX0_isHeld_7 (by decide) (fun c2 => ?_) (fun c2 => ?_)
  · have h := ite_f c2 h
    refine V_iconst hC (0 : Int32) dX0_isHeld_14 (by decide) ?_
    obtain rfl := Option.some.inj h
    exact V_zret hC hr hlk (Or.inl rfl) dX0_isHeld_15
  · have h := ite_t c2 h
    refine V_iconst hC (1 : Int32) dX0_isHeld_10 (by decide) ?_
    refine V_goto hC 15 dX0_isHeld_11 (by decide) ?_
    obtain rfl := Option.some.inj h
    exact V_zret hC hr hlk (Or.inr rfl) dX0_isHeld_15
theorem c_X0_isShared {l : Launch} {G : Geo} {g : Nat} {x1 : Int32} {rv : Int32} {M : Mem} (hG : gD G) (hg : g < 6) (h : f_X0_isShared g x1 M = some rv) : Met l yX0_isShared (.code yX0_isShared cX0_isShared 2 (some .boolean) :: GL) (rmk 1) (gP G [.ref (adr G g 8), .int x1] M) (gQ G (some (.int rv)) M) 0 0 (gA G) := by
  refine Met_of (own := RX0) (L := [(0, .ref (adr G g 8)), (1, .int x1)]) hG (by decide +kernel) rfl (Nat.le_of_ble_eq_true rfl) rfl ?_
  intro p e s m args below meth c hC hr hlk
  refine V_aload_n hC dX0_isShared_0 rfl 0 rfl ?_
  refine V_iload_n hC dX0_isShared_1 rfl 1 rfl ?_
  refine V_iconst hC (4 : Int32) dX0_isShared_2 (by decide) ?_
  obtain ⟨q1, e1, h⟩ := bind_some h
  refine V_cVr hC [.int x1, .int (4 : Int32)] (c_X0_fact (l := l) hC.2.2.2.2.2.2.2 hg e1) kd_X0_fact kv_X0_fact gw_272 (r_d8_0 hg).o rfl ⟨Nat.le_of_ble_eq_true rfl, Nat.le_of_ble_eq_true rfl⟩ rfl (Nat.le_of_ble_eq_true rfl) dX0_isShared_3 ⟨Nat.zero_le _, Nat.zero_le _⟩ rfl ?_
  refine V_iconst hC (1 : Int32) dX0_isShared_6 (by decide) ?_
  refine V_icmp_ne hC 14 dX0_isShared_7 (by decide) (fun c2 => ?_) (fun c2 => ?_)
  · have h := ite_f c2 h
    refine V_iconst hC (0 : Int32) dX0_isShared_14 (by decide) ?_
    obtain rfl := Option.some.inj h
    exact V_zret hC hr hlk (Or.inl rfl) dX0_isShared_15
  · have h := ite_t c2 h
    refine V_iconst hC (1 : Int32) dX0_isShared_10 (by decide) ?_
    refine V_goto hC 15 dX0_isShared_11 (by decide) ?_
    obtain rfl := Option.some.inj h
    exact V_zret hC hr hlk (Or.inr rfl) dX0_isShared_15
theorem b_X0_tops_41 {g : Nat} {rv : Int32} {k4 : Int32 → Int32 → Option Int32} {x1 : Int32} {x2 : Int32} {x3 : Int32} {M : Mem} (hC : Cx p s m args c cX0_tops RX0 4 G) (hr : meth.sig.returnType = some .int) (hlk : meth.locks = false) (hg : g < 6) (hk4 : ∀ (x2 : Int32) (x3 : Int32), k4 x2 x3 = some rv → V p l e (rmk 2) s m args below meth c 4 G 0 0 (MQ below (gQ G (some (.int rv)) M) args s 0 0 (gA G)) 4 [(0, .ref (adr G g 8)), (1, .int x1), (2, .int x2), (3, .int x3)] [] M) (h : B_X0_tops_41 g k4 x1 x2 x3 M = some rv) : V p l e (rmk 2) s m args below meth c 4 G 0 0 (MQ below (gQ G (some (.int rv)) M) args s 0 0 (gA G)) 41 [(0, .ref (adr G g 8)), (1, .int x1), (2, .int x2), (3, .int x3)] [] M := by
  refine V_iinc hC (x3 + 1) ([(3, .int (x3 + 1)), (0, .ref (adr G g 8)), (1, .int x1), (2, .int x2)]) dX0_tops_41 3 rfl rfl (by decide) rfl ?_
  refine V_goto hC 4 dX0_tops_44 (by decide) ?_
  refine V_sub [1, 2, 3, 0] rfl ?_
  exact hk4 _ _ h
theorem b_X0_tops_30 {g : Nat} {rv : Int32} {k4 : Int32 → Int32 → Option Int32} {x1 : Int32} {x2 : Int32} {x3 : Int32} {M : Mem} (hC : Cx p s m args c cX0_tops RX0 4 G) (hr : meth.sig.returnType = some .int) (hlk : meth.locks = false) (hg : g < 6) (hk4 : ∀ (x2 : Int32) (x3 : Int32), k4 x2 x3 = some rv → V p l e (rmk 2) s m args below meth c 4 G 0 0 (MQ below (gQ G (some (.int rv)) M) args s 0 0 (gA G)) 4 [(0, .ref (adr G g 8)), (1, .int x1), (2, .int x2), (3, .int x3)] [] M) (h : B_X0_tops_30 g k4 x1 x2 x3 M = some rv) : V p l e (rmk 2) s m args below meth c 4 G 0 0 (MQ below (gQ G (some (.int rv)) M) args s 0 0 (gA G)) 30 [(0, .ref (adr G g 8)), (1, .int x1), (2, .int x2), (3, .int x3)] [] M := by
  refine V_iload_n hC dX0_tops_30 rfl 2 rfl ?_
  refine V_iconst hC (1 : Int32) dX0_tops_31 (by decide) ?_
  refine V_aload_n hC dX0_tops_32 rfl 0 rfl ?_
  refine V_iload_n hC dX0_tops_33 rfl 3 rfl ?_
  refine V_iconst hC (1 : Int32) dX0_tops_34 (by decide) ?_
  obtain ⟨q5, e5, h⟩ := bind_some h
  refine V_cVr hC [.int x3, .int (1 : Int32)] (c_X0_fact (l := l) hC.2.2.2.2.2.2.2 hg e5) kd_X0_fact kv_X0_fact gw_272 (r_d8_0 hg).o rfl ⟨Nat.le_of_ble_eq_true rfl, Nat.le_of_ble_eq_true rfl⟩ rfl (Nat.le_of_ble_eq_true rfl) dX0_tops_35 ⟨Nat.zero_le _, Nat.zero_le _⟩ rfl ?_
  refine V_ishl hC dX0_tops_38 ?_
  refine V_ior hC dX0_tops_39 ?_
  refine V_istore_n hC ([(2, .int (x2 ||| ((1 : Int32) <<< (q5 &&& 31)))), (0, .ref (adr G g 8)), (1, .int x1), (3, .int x3)]) dX0_tops_40 rfl (by decide) rfl ?_
  refine V_sub [1, 2, 0, 3] rfl ?_
  exact b_X0_tops_41 hC hr hlk hg hk4 h
theorem l_X0_tops_4 {g : Nat} {rv : Int32} {x1 : Int32} {M : Mem} (hC : Cx p s m args c cX0_tops RX0 4 G) (hr : meth.sig.returnType = some .int) (hlk : meth.locks = false) (hg : g < 6) : ∀ (n : Nat) {x2 : Int32} {x3 : Int32} (h : L_X0_tops_4 g x1 M n x2 x3 = some rv), V p l e (rmk 2) s m args below meth c 4 G 0 0 (MQ below (gQ G (some (.int rv)) M) args s 0 0 (gA G)) 4 [(0, .ref (adr G g 8)), (1, .int x1), (2, .int x2), (3, .int x3)] [] M := by
  intro n
  induction n with
  | zero => intro x2 x3 h; cases h
  | succ n ih =>
    intro x2 x3 h
    have hk4 : ∀ (x2 : Int32) (x3 : Int32), L_X0_tops_4 g x1 M n x2 x3 = some rv → V p l e (rmk 2) s m args below meth c 4 G 0 0 (MQ below (gQ G (some (.int rv)) M) args s 0 0 (gA G)) 4 [(0, .ref (adr G g 8)), (1, .int x1), (2, .int x2), (3, .int x3)] [] M := fun _ _ z => ih z
    refine V_iload_n hC dX0_tops_4 rfl 3 rfl ?_
    refine V_bipush hC (10 : Int32) dX0_tops_5 (by decide) ?_
    refine V_icmp_ge hC 47 dX0_tops_7 (by decide) (fun c1 => ?_) (fun c1 => ?_)
    · have h := ite_t c1 h
      refine V_iload_n hC dX0_tops_47 rfl 2 rfl ?_
      obtain rfl := Option.some.inj h
      exact V_iret hC hr hlk dX0_tops_48
    · have h := ite_f c1 h
      refine V_aload_n hC dX0_tops_10 rfl 0 rfl ?_
      refine V_iload_n hC dX0_tops_11 rfl 3 rfl ?_
      refine V_cVr hC [.int x3] (c_X0_has (l := l) hC.2.2.2.2.2.2.2 hg rfl) kd_X0_has kv_X0_has gw_264 (r_d8_0 hg).o rfl ⟨Nat.le_of_ble_eq_true rfl, Nat.le_of_ble_eq_true rfl⟩ rfl (Nat.le_of_ble_eq_true rfl) dX0_tops_12 ⟨Nat.zero_le _, Nat.zero_le _⟩ rfl ?_
      refine V_if_eq hC 41 dX0_tops_15 (by decide) (fun c3 => ?_) (fun c3 => ?_)
      · have h := ite_t c3 h
        exact b_X0_tops_41 hC hr hlk hg hk4 h
      · have h := ite_f c3 h
        refine V_iload_n hC dX0_tops_18 rfl 1 rfl ?_
        refine V_if_eq hC 30 dX0_tops_19 (by decide) (fun c4 => ?_) (fun c4 => ?_)
        · have h := ite_t c4 h
          exact b_X0_tops_30 hC hr hlk hg hk4 h
        · have h := ite_f c4 h
          refine V_aload_n hC dX0_tops_22 rfl 0 rfl ?_
          refine V_iload_n hC dX0_tops_23 rfl 3 rfl ?_
          obtain ⟨q6, e6, h⟩ := bind_some h
          refine V_cVr hC [.int x3] (c_X0_isHeld (l := l) hC.2.2.2.2.2.2.2 hg e6) kd_X0_isHeld kv_X0_isHeld gw_268 (r_d8_0 hg).o rfl ⟨Nat.le_of_ble_eq_true rfl, Nat.le_of_ble_eq_true rfl⟩ rfl (Nat.le_of_ble_eq_true rfl) dX0_tops_24 ⟨Nat.zero_le _, Nat.zero_le _⟩ rfl ?_
          refine V_if_eq hC 41 dX0_tops_27 (by decide) (fun c7 => ?_) (fun c7 => ?_)
          · have h := ite_t c7 h
            exact b_X0_tops_41 hC hr hlk hg hk4 h
          · have h := ite_f c7 h
            exact b_X0_tops_30 hC hr hlk hg hk4 h
theorem c_X0_tops {l : Launch} {G : Geo} {g : Nat} {x1 : Int32} {rv : Int32} {M : Mem} (hG : gD G) (hg : g < 6) (h : f_X0_tops g x1 M = some rv) : Met l yX0_tops (.code yX0_tops cX0_tops 4 (some .int) :: GL) (rmk 2) (gP G [.ref (adr G g 8), .int x1] M) (gQ G (some (.int rv)) M) 0 0 (gA G) := by
  refine Met_of (own := RX0) (L := [(0, .ref (adr G g 8)), (1, .int x1)]) hG (by decide +kernel) rfl (Nat.le_of_ble_eq_true rfl) rfl ?_
  intro p e s m args below meth c hC hr hlk
  refine V_iconst hC (0 : Int32) dX0_tops_0 (by decide) ?_
  refine V_istore_n hC ([(2, .int (0 : Int32)), (0, .ref (adr G g 8)), (1, .int x1)]) dX0_tops_1 rfl (by decide) rfl ?_
  refine V_iconst hC (0 : Int32) dX0_tops_2 (by decide) ?_
  refine V_istore_n hC ([(3, .int (0 : Int32)), (2, .int (0 : Int32)), (0, .ref (adr G g 8)), (1, .int x1)]) dX0_tops_3 rfl (by decide) rfl ?_
  refine V_sub [2, 3, 1, 0] rfl ?_
  exact l_X0_tops_4 hC hr hlk hg FU h
theorem c_J6_bitCount_0f7a4 {l : Launch} {G : Geo} {x0 : Int32} {rv : Int32} {M : Mem} (hG : gD G) (h : f_J6_bitCount_0f7a4 x0 = rv) : Met l yJ6_bitCount_0f7a4 (.code yJ6_bitCount_0f7a4 cJ6_bitCount_0f7a4 1 (some .int) :: GL) (rmk 0) (gP G [.int x0] M) (gQ G (some (.int rv)) M) 0 0 (gA G) := by
  refine Met_of (own := RJ6) (L := [(0, .int x0)]) hG (by decide +kernel) rfl (Nat.le_of_ble_eq_true rfl) rfl ?_
  intro p e s m args below meth c hC hr hlk
  refine V_iload_n hC dJ6_bitCount_0f7a4_0 rfl 0 rfl ?_
  refine V_iload_n hC dJ6_bitCount_0f7a4_1 rfl 0 rfl ?_
  refine V_iconst hC (1 : Int32) dJ6_bitCount_0f7a4_2 (by decide) ?_
  refine V_iushr hC dJ6_bitCount_0f7a4_3 ?_
  refine V_ldcw hC (1431655765 : Int32) dJ6_bitCount_0f7a4_4 gw_519 ?_
  refine V_iand hC dJ6_bitCount_0f7a4_7 ?_
  refine V_isub hC dJ6_bitCount_0f7a4_8 ?_
  refine V_istore_n hC ([(0, .int (x0 - ((ushr x0 (1 : Int32)) &&& (1431655765 : Int32))))]) dJ6_bitCount_0f7a4_9 rfl (by decide) rfl ?_
  refine V_iload_n hC dJ6_bitCount_0f7a4_10 rfl 0 rfl ?_
  refine V_ldcw hC (858993459 : Int32) dJ6_bitCount_0f7a4_11 gw_520 ?_
  refine V_iand hC dJ6_bitCount_0f7a4_14 ?_
  refine V_iload_n hC dJ6_bitCount_0f7a4_15 rfl 0 rfl ?_
  refine V_iconst hC (2 : Int32) dJ6_bitCount_0f7a4_16 (by decide) ?_
  refine V_iushr hC dJ6_bitCount_0f7a4_17 ?_
  refine V_ldcw hC (858993459 : Int32) dJ6_bitCount_0f7a4_18 gw_520 ?_
  refine V_iand hC dJ6_bitCount_0f7a4_21 ?_
  refine V_iadd hC dJ6_bitCount_0f7a4_22 ?_
  refine V_istore_n hC ([(0, .int (((x0 - ((ushr x0 (1 : Int32)) &&& (1431655765 : Int32))) &&& (858993459 : Int32)) + ((ushr (x0 - ((ushr x0 (1 : Int32)) &&& (1431655765 : Int32))) (2 : Int32)) &&& (858993459 : Int32))))]) dJ6_bitCount_0f7a4_23 rfl (by decide) rfl ?_
  refine V_iload_n hC dJ6_bitCount_0f7a4_24 rfl 0 rfl ?_
  refine V_iload_n hC dJ6_bitCount_0f7a4_25 rfl 0 rfl ?_
  refine V_iconst hC (4 : Int32) dJ6_bitCount_0f7a4_26 (by decide) ?_
  refine V_iushr hC dJ6_bitCount_0f7a4_27 ?_
  refine V_iadd hC dJ6_bitCount_0f7a4_28 ?_
  refine V_ldcw hC (252645135 : Int32) dJ6_bitCount_0f7a4_29 gw_521 ?_
  refine V_iand hC dJ6_bitCount_0f7a4_32 ?_
  refine V_istore_n hC ([(0, .int (((((x0 - ((ushr x0 (1 : Int32)) &&& (1431655765 : Int32))) &&& (858993459 : Int32)) + ((ushr (x0 - ((ushr x0 (1 : Int32)) &&& (1431655765 : Int32))) (2 : Int32)) &&& (858993459 : Int32))) + (ushr (((x0 - ((ushr x0 (1 : Int32)) &&& (1431655765 : Int32))) &&& (858993459 : Int32)) + ((ushr (x0 - ((ushr x0 (1 : Int32)) &&& (1431655765 : Int32))) (2 : Int32)) &&& (858993459 : Int32))) (4 : Int32))) &&& (252645135 : Int32)))]) dJ6_bitCount_0f7a4_33 rfl (by decide) rfl ?_
  refine V_iload_n hC dJ6_bitCount_0f7a4_34 rfl 0 rfl ?_
  refine V_iload_n hC dJ6_bitCount_0f7a4_35 rfl 0 rfl ?_
  refine V_bipush hC (8 : Int32) dJ6_bitCount_0f7a4_36 (by decide) ?_
  refine V_iushr hC dJ6_bitCount_0f7a4_38 ?_
  refine V_iadd hC dJ6_bitCount_0f7a4_39 ?_
  refine V_istore_n hC ([(0, .int ((((((x0 - ((ushr x0 (1 : Int32)) &&& (1431655765 : Int32))) &&& (858993459 : Int32)) + ((ushr (x0 - ((ushr x0 (1 : Int32)) &&& (1431655765 : Int32))) (2 : Int32)) &&& (858993459 : Int32))) + (ushr (((x0 - ((ushr x0 (1 : Int32)) &&& (1431655765 : Int32))) &&& (858993459 : Int32)) + ((ushr (x0 - ((ushr x0 (1 : Int32)) &&& (1431655765 : Int32))) (2 : Int32)) &&& (858993459 : Int32))) (4 : Int32))) &&& (252645135 : Int32)) + (ushr (((((x0 - ((ushr x0 (1 : Int32)) &&& (1431655765 : Int32))) &&& (858993459 : Int32)) + ((ushr (x0 - ((ushr x0 (1 : Int32)) &&& (1431655765 : Int32))) (2 : Int32)) &&& (858993459 : Int32))) + (ushr (((x0 - ((ushr x0 (1 : Int32)) &&& (1431655765 : Int32))) &&& (858993459 : Int32)) + ((ushr (x0 - ((ushr x0 (1 : Int32)) &&& (1431655765 : Int32))) (2 : Int32)) &&& (858993459 : Int32))) (4 : Int32))) &&& (252645135 : Int32)) (8 : Int32))))]) dJ6_bitCount_0f7a4_40 rfl (by decide) rfl ?_
  refine V_iload_n hC dJ6_bitCount_0f7a4_41 rfl 0 rfl ?_
  refine V_iload_n hC dJ6_bitCount_0f7a4_42 rfl 0 rfl ?_
  refine V_bipush hC (16 : Int32) dJ6_bitCount_0f7a4_43 (by decide) ?_
  refine V_iushr hC dJ6_bitCount_0f7a4_45 ?_
  refine V_iadd hC dJ6_bitCount_0f7a4_46 ?_
  refine V_istore_n hC ([(0, .int (((((((x0 - ((ushr x0 (1 : Int32)) &&& (1431655765 : Int32))) &&& (858993459 : Int32)) + ((ushr (x0 - ((ushr x0 (1 : Int32)) &&& (1431655765 : Int32))) (2 : Int32)) &&& (858993459 : Int32))) + (ushr (((x0 - ((ushr x0 (1 : Int32)) &&& (1431655765 : Int32))) &&& (858993459 : Int32)) + ((ushr (x0 - ((ushr x0 (1 : Int32)) &&& (1431655765 : Int32))) (2 : Int32)) &&& (858993459 : Int32))) (4 : Int32))) &&& (252645135 : Int32)) + (ushr (((((x0 - ((ushr x0 (1 : Int32)) &&& (1431655765 : Int32))) &&& (858993459 : Int32)) + ((ushr (x0 - ((ushr x0 (1 : Int32)) &&& (1431655765 : Int32))) (2 : Int32)) &&& (858993459 : Int32))) + (ushr (((x0 - ((ushr x0 (1 : Int32)) &&& (1431655765 : Int32))) &&& (858993459 : Int32)) + ((ushr (x0 - ((ushr x0 (1 : Int32)) &&& (1431655765 : Int32))) (2 : Int32)) &&& (858993459 : Int32))) (4 : Int32))) &&& (252645135 : Int32)) (8 : Int32))) + (ushr ((((((x0 - ((ushr x0 (1 : Int32)) &&& (1431655765 : Int32))) &&& (858993459 : Int32)) + ((ushr (x0 - ((ushr x0 (1 : Int32)) &&& (1431655765 : Int32))) (2 : Int32)) &&& (858993459 : Int32))) + (ushr (((x0 - ((ushr x0 (1 : Int32)) &&& (1431655765 : Int32))) &&& (858993459 : Int32)) + ((ushr (x0 - ((ushr x0 (1 : Int32)) &&& (1431655765 : Int32))) (2 : Int32)) &&& (858993459 : Int32))) (4 : Int32))) &&& (252645135 : Int32)) + (ushr (((((x0 - ((ushr x0 (1 : Int32)) &&& (1431655765 : Int32))) &&& (858993459 : Int32)) + ((ushr (x0 - ((ushr x0 (1 : Int32)) &&& (1431655765 : Int32))) (2 : Int32)) &&& (858993459 : Int32))) + (ushr (((x0 - ((ushr x0 (1 : Int32)) &&& (1431655765 : Int32))) &&& (858993459 : Int32)) + ((ushr (x0 - ((ushr x0 (1 : Int32)) &&& (1431655765 : Int32))) (2 : Int32)) &&& (858993459 : Int32))) (4 : Int32))) &&& (252645135 : Int32)) (8 : Int32))) (16 : Int32))))]) dJ6_bitCount_0f7a4_47 rfl (by decide) rfl ?_
  refine V_iload_n hC dJ6_bitCount_0f7a4_48 rfl 0 rfl ?_
  refine V_bipush hC (63 : Int32) dJ6_bitCount_0f7a4_49 (by decide) ?_
  refine V_iand hC dJ6_bitCount_0f7a4_51 ?_
  obtain rfl := id h
  exact V_iret hC hr hlk dJ6_bitCount_0f7a4_52
theorem c_X0_countWithout {l : Launch} {G : Geo} {g : Nat} {x1 : Int32} {rv : Int32} {M : Mem} (hG : gD G) (hg : g < 6) (h : f_X0_countWithout g x1 M = rv) : Met l yX0_countWithout (.code yX0_countWithout cX0_countWithout 2 (some .int) :: GL) (rmk 1) (gP G [.ref (adr G g 8), .int x1] M) (gQ G (some (.int rv)) M) 0 0 (gA G) := by
  refine Met_of (own := RX0) (L := [(0, .ref (adr G g 8)), (1, .int x1)]) hG (by decide +kernel) rfl (Nat.le_of_ble_eq_true rfl) rfl ?_
  intro p e s m args below meth c hC hr hlk
  refine V_aload_n hC dX0_countWithout_0 rfl 0 rfl ?_
  refine V_getI hC (f_d8_3 hg) fw_X0_25 dX0_countWithout_1 ?_
  refine V_iload_n hC dX0_countWithout_4 rfl 1 rfl ?_
  refine V_iconst hC ((-1) : Int32) dX0_countWithout_5 (by decide) ?_
  refine V_ixor hC dX0_countWithout_6 ?_
  refine V_iand hC dX0_countWithout_7 ?_
  refine V_cSr hC [.int ((M.1 g 8 3) &&& (x1 ^^^ ((-1) : Int32)))] (c_J6_bitCount_0f7a4 (l := l) hC.2.2.2.2.2.2.2 rfl) kd_J6_bitCount_0f7a4 gw_517 gw_655 ⟨Nat.le_of_ble_eq_true rfl, Nat.le_of_ble_eq_true rfl⟩ rfl (Nat.le_of_ble_eq_true rfl) dX0_countWithout_8 ⟨Nat.zero_le _, Nat.zero_le _⟩ rfl ?_
  obtain rfl := id h
  exact V_iret hC hr hlk dX0_countWithout_11
theorem c_X8_hasBit {l : Launch} {G : Geo} {x0 : Int32} {x1 : Int32} {rv : Int32} {M : Mem} (hG : gD G) (h : f_X8_hasBit x0 x1 = rv) : Met l yX8_hasBit (.code yX8_hasBit cX8_hasBit 2 (some .boolean) :: GL) (rmk 0) (gP G [.int x0, .int x1] M) (gQ G (some (.int rv)) M) 0 0 (gA G) := by
  refine Met_of (own := RX8) (L := [(0, .int x0), (1, .int x1)]) hG (by decide +kernel) rfl (Nat.le_of_ble_eq_true rfl) rfl ?_
  intro p e s m args below meth c hC hr hlk
  refine V_iload_n hC dX8_hasBit_0 rfl 0 rfl ?_
  refine V_iload_n hC dX8_hasBit_1 rfl 1 rfl ?_
  refine V_iushr hC dX8_hasBit_2 ?_
  refine V_iconst hC (1 : Int32) dX8_hasBit_3 (by decide) ?_
  refine V_iand hC dX8_hasBit_4 ?_
  refine V_if_eq hC 12 dX8_hasBit_5 (by decide) (fun c1 => ?_) (fun c1 => ?_)
  · have h := ite_t c1 h
    refine V_iconst hC (0 : Int32) dX8_hasBit_12 (by decide) ?_
    obtain rfl := id h
    exact V_zret hC hr hlk (Or.inl rfl) dX8_hasBit_13
  · have h := ite_f c1 h
    refine V_iconst hC (1 : Int32) dX8_hasBit_8 (by decide) ?_
    refine V_goto hC 13 dX8_hasBit_9 (by decide) ?_
    obtain rfl := id h
    exact V_zret hC hr hlk (Or.inr rfl) dX8_hasBit_13
theorem z_X8_hasBit (x0 : Int32) (x1 : Int32) : f_X8_hasBit x0 x1 = 0 ∨ f_X8_hasBit x0 x1 = 1 := by
  unfold f_X8_hasBit
  (repeat' split) <;> first | exact Or.inl rfl | exact Or.inr rfl
theorem l_X0_lowestFree_2 {g : Nat} {rv : Int32} {x1 : Int32} {M : Mem} (hC : Cx p s m args c cX0_lowestFree RX0 3 G) (hr : meth.sig.returnType = some .int) (hlk : meth.locks = false) (hg : g < 6) : ∀ (n : Nat) {x2 : Int32} (h : L_X0_lowestFree_2 g x1 M n x2 = some rv), V p l e (rmk 1) s m args below meth c 3 G 0 0 (MQ below (gQ G (some (.int rv)) M) args s 0 0 (gA G)) 2 [(0, .ref (adr G g 8)), (1, .int x1), (2, .int x2)] [] M := by
  intro n
  induction n with
  | zero => intro x2 h; cases h
  | succ n ih =>
    intro x2 h
    have hk2 : ∀ (x2 : Int32), L_X0_lowestFree_2 g x1 M n x2 = some rv → V p l e (rmk 1) s m args below meth c 3 G 0 0 (MQ below (gQ G (some (.int rv)) M) args s 0 0 (gA G)) 2 [(0, .ref (adr G g 8)), (1, .int x1), (2, .int x2)] [] M := fun _ z => ih z
    refine V_iload_n hC dX0_lowestFree_2 rfl 2 rfl ?_
    refine V_bipush hC (10 : Int32) dX0_lowestFree_3 (by decide) ?_
    refine V_icmp_ge hC 31 dX0_lowestFree_5 (by decide) (fun c1 => ?_) (fun c1 => ?_)
    · have h := ite_t c1 h
      refine V_iconst hC ((-1) : Int32) dX0_lowestFree_31 (by decide) ?_
      obtain rfl := Option.some.inj h
      exact V_iret hC hr hlk dX0_lowestFree_32
    · have h := ite_f c1 h
      refine V_aload_n hC dX0_lowestFree_8 rfl 0 rfl ?_
      refine V_getI hC (f_d8_3 hg) fw_X0_25 dX0_lowestFree_9 ?_
      refine V_iload_n hC dX0_lowestFree_12 rfl 1 rfl ?_
      refine V_iconst hC ((-1) : Int32) dX0_lowestFree_13 (by decide) ?_
      refine V_ixor hC dX0_lowestFree_14 ?_
      refine V_iand hC dX0_lowestFree_15 ?_
      refine V_iload_n hC dX0_lowestFree_16 rfl 2 rfl ?_
      refine V_cSNr hC [.int ((M.1 g 8 3) &&& (x1 ^^^ ((-1) : Int32))), .int x2] (c_X8_hasBit (l := l) hC.2.2.2.2.2.2.2 rfl) kd_X8_hasBit gw_505 nw_39 ⟨Nat.le_of_ble_eq_true rfl, Nat.le_of_ble_eq_true rfl⟩ rfl (Nat.le_of_ble_eq_true rfl) dX0_lowestFree_17 ⟨Nat.zero_le _, Nat.zero_le _⟩ rfl ?_
      refine V_if_ne hC 25 dX0_lowestFree_20 (by decide) (fun c3 => ?_) (fun c3 => ?_)
      · have h := ite_f c3 h
        refine V_iinc hC (x2 + 1) ([(2, .int (x2 + 1)), (0, .ref (adr G g 8)), (1, .int x1)]) dX0_lowestFree_25 2 rfl rfl (by decide) rfl ?_
        refine V_goto hC 2 dX0_lowestFree_28 (by decide) ?_
        refine V_sub [1, 2, 0] rfl ?_
        exact hk2 _ h
      · have h := ite_t c3 h
        refine V_iload_n hC dX0_lowestFree_23 rfl 2 rfl ?_
        obtain rfl := Option.some.inj h
        exact V_iret hC hr hlk dX0_lowestFree_24
theorem c_X0_lowestFree {l : Launch} {G : Geo} {g : Nat} {x1 : Int32} {rv : Int32} {M : Mem} (hG : gD G) (hg : g < 6) (h : f_X0_lowestFree g x1 M = some rv) : Met l yX0_lowestFree (.code yX0_lowestFree cX0_lowestFree 3 (some .int) :: GL) (rmk 1) (gP G [.ref (adr G g 8), .int x1] M) (gQ G (some (.int rv)) M) 0 0 (gA G) := by
  refine Met_of (own := RX0) (L := [(0, .ref (adr G g 8)), (1, .int x1)]) hG (by decide +kernel) rfl (Nat.le_of_ble_eq_true rfl) rfl ?_
  intro p e s m args below meth c hC hr hlk
  refine V_iconst hC (0 : Int32) dX0_lowestFree_0 (by decide) ?_
  refine V_istore_n hC ([(2, .int (0 : Int32)), (0, .ref (adr G g 8)), (1, .int x1)]) dX0_lowestFree_1 rfl (by decide) rfl ?_
  refine V_sub [1, 2, 0] rfl ?_
  exact l_X0_lowestFree_2 hC hr hlk hg FU h
theorem c_X8_isWithin {l : Launch} {G : Geo} {x0 : Int32} {x1 : Int32} {x2 : Int32} {rv : Int32} {M : Mem} (hG : gD G) (h : f_X8_isWithin x0 x1 x2 = rv) : Met l yX8_isWithin (.code yX8_isWithin cX8_isWithin 3 (some .boolean) :: GL) (rmk 0) (gP G [.int x0, .int x1, .int x2] M) (gQ G (some (.int rv)) M) 0 0 (gA G) := by
  refine Met_of (own := RX8) (L := [(0, .int x0), (1, .int x1), (2, .int x2)]) hG (by decide +kernel) rfl (Nat.le_of_ble_eq_true rfl) rfl ?_
  intro p e s m args below meth c hC hr hlk
  refine V_iload_n hC dX8_isWithin_0 rfl 0 rfl ?_
  refine V_iload_n hC dX8_isWithin_1 rfl 1 rfl ?_
  refine V_icmp_lt hC 14 dX8_isWithin_2 (by decide) (fun c1 => ?_) (fun c1 => ?_)
  · have h := ite_t c1 h
    refine V_iconst hC (0 : Int32) dX8_isWithin_14 (by decide) ?_
    obtain rfl := id h
    exact V_zret hC hr hlk (Or.inl rfl) dX8_isWithin_15
  · have h := ite_f c1 h
    refine V_iload_n hC dX8_isWithin_5 rfl 0 rfl ?_
    refine V_iload_n hC dX8_isWithin_6 rfl 2 rfl ?_
    refine V_icmp_gt hC 14 dX8_isWithin_7 (by decide) (fun c2 => ?_) (fun c2 => ?_)
    · have h := ite_t c2 h
      refine V_iconst hC (0 : Int32) dX8_isWithin_14 (by decide) ?_
      obtain rfl := id h
      exact V_zret hC hr hlk (Or.inl rfl) dX8_isWithin_15
    · have h := ite_f c2 h
      refine V_iconst hC (1 : Int32) dX8_isWithin_10 (by decide) ?_
      refine V_goto hC 15 dX8_isWithin_11 (by decide) ?_
      obtain rfl := id h
      exact V_zret hC hr hlk (Or.inr rfl) dX8_isWithin_15
theorem z_X8_isWithin (x0 : Int32) (x1 : Int32) (x2 : Int32) : f_X8_isWithin x0 x1 x2 = 0 ∨ f_X8_isWithin x0 x1 x2 = 1 := by
  unfold f_X8_isWithin
  (repeat' split) <;> first | exact Or.inl rfl | exact Or.inr rfl
theorem c_X0_open {l : Launch} {G : Geo} {g : Nat} {x1 : Int32} {x2 : Int32} {x3 : Int32} {x4 : Int32} {x5 : Int32} {Mf : Mem} {M : Mem} (hG : gD G) (hg : g < 6) (h : f_X0_open g x1 x2 x3 x4 x5 M = some Mf) : Met l yX0_open (.code yX0_open cX0_open 6 none :: GL) (rmk 1) (gP G [.ref (adr G g 8), .int x1, .int x2, .int x3, .int x4, .int x5] M) (gQ G none Mf) 0 0 (gA G) := by
  refine Met_of (own := RX0) (L := [(0, .ref (adr G g 8)), (1, .int x1), (2, .int x2), (3, .int x3), (4, .int x4), (5, .int x5)]) hG (by decide +kernel) rfl (Nat.le_of_ble_eq_true rfl) rfl ?_
  intro p e s m args below meth c hC hr hlk
  refine V_iload_n hC dX0_open_0 rfl 1 rfl ?_
  refine V_iconst hC (0 : Int32) dX0_open_1 (by decide) ?_
  refine V_bipush hC (9 : Int32) dX0_open_2 (by decide) ?_
  refine V_cSNr hC [.int x1, .int (0 : Int32), .int (9 : Int32)] (c_X8_isWithin (l := l) hC.2.2.2.2.2.2.2 rfl) kd_X8_isWithin gw_444 nw_40 ⟨Nat.le_of_ble_eq_true rfl, Nat.le_of_ble_eq_true rfl⟩ rfl (Nat.le_of_ble_eq_true rfl) dX0_open_4 ⟨Nat.zero_le _, Nat.zero_le _⟩ rfl ?_
  refine V_if_ne hC 11 dX0_open_7 (by decide) (fun c2 => ?_) (fun c2 => ?_)
  · have h := ite_f c2 h
    refine V_aload_n hC dX0_open_11 rfl 0 rfl ?_
    refine V_dup hC dX0_open_12 rfl ?_
    refine V_getI hC (f_d8_3 hg) fw_X0_25 dX0_open_13 ?_
    refine V_iconst hC (1 : Int32) dX0_open_16 (by decide) ?_
    refine V_iload_n hC dX0_open_17 rfl 1 rfl ?_
    refine V_ishl hC dX0_open_18 ?_
    refine V_ior hC dX0_open_19 ?_
    refine V_putI hC (f_d8_3 hg) fw_X0_25 flp_0_3 dX0_open_20 ?_
    refine V_aload_n hC dX0_open_23 rfl 0 rfl ?_
    refine V_iload_n hC dX0_open_24 rfl 1 rfl ?_
    refine V_iconst hC (0 : Int32) dX0_open_25 (by decide) ?_
    refine V_iload_n hC dX0_open_26 rfl 2 rfl ?_
    obtain ⟨q3, e3, h⟩ := bind_some h
    refine V_cVv hC [.int x1, .int (0 : Int32), .int x2] (c_X0_setFact (l := l) hC.2.2.2.2.2.2.2 hg e3) kd_X0_setFact kv_X0_setFact gw_711 (r_d8_0 hg).o rfl ⟨Nat.le_of_ble_eq_true rfl, Nat.le_of_ble_eq_true rfl⟩ rfl (Nat.le_of_ble_eq_true rfl) dX0_open_27 ⟨Nat.zero_le _, Nat.zero_le _⟩ rfl ?_
    refine V_aload_n hC dX0_open_30 rfl 0 rfl ?_
    refine V_iload_n hC dX0_open_31 rfl 1 rfl ?_
    refine V_iconst hC (1 : Int32) dX0_open_32 (by decide) ?_
    refine V_iload_n hC dX0_open_33 rfl 3 rfl ?_
    obtain ⟨q4, e4, h⟩ := bind_some h
    refine V_cVv hC [.int x1, .int (1 : Int32), .int x3] (c_X0_setFact (l := l) hC.2.2.2.2.2.2.2 hg e4) kd_X0_setFact kv_X0_setFact gw_711 (r_d8_0 hg).o rfl ⟨Nat.le_of_ble_eq_true rfl, Nat.le_of_ble_eq_true rfl⟩ rfl (Nat.le_of_ble_eq_true rfl) dX0_open_34 ⟨Nat.zero_le _, Nat.zero_le _⟩ rfl ?_
    refine V_aload_n hC dX0_open_37 rfl 0 rfl ?_
    refine V_iload_n hC dX0_open_38 rfl 1 rfl ?_
    refine V_iconst hC (2 : Int32) dX0_open_39 (by decide) ?_
    refine V_iload hC dX0_open_40 4 rfl ?_
    obtain ⟨q5, e5, h⟩ := bind_some h
    refine V_cVv hC [.int x1, .int (2 : Int32), .int x4] (c_X0_setFact (l := l) hC.2.2.2.2.2.2.2 hg e5) kd_X0_setFact kv_X0_setFact gw_711 (r_d8_0 hg).o rfl ⟨Nat.le_of_ble_eq_true rfl, Nat.le_of_ble_eq_true rfl⟩ rfl (Nat.le_of_ble_eq_true rfl) dX0_open_42 ⟨Nat.zero_le _, Nat.zero_le _⟩ rfl ?_
    refine V_aload_n hC dX0_open_45 rfl 0 rfl ?_
    refine V_iload_n hC dX0_open_46 rfl 1 rfl ?_
    refine V_iconst hC (3 : Int32) dX0_open_47 (by decide) ?_
    refine V_iconst hC (1 : Int32) dX0_open_48 (by decide) ?_
    obtain ⟨q6, e6, h⟩ := bind_some h
    refine V_cVv hC [.int x1, .int (3 : Int32), .int (1 : Int32)] (c_X0_setFact (l := l) hC.2.2.2.2.2.2.2 hg e6) kd_X0_setFact kv_X0_setFact gw_711 (r_d8_0 hg).o rfl ⟨Nat.le_of_ble_eq_true rfl, Nat.le_of_ble_eq_true rfl⟩ rfl (Nat.le_of_ble_eq_true rfl) dX0_open_49 ⟨Nat.zero_le _, Nat.zero_le _⟩ rfl ?_
    refine V_aload_n hC dX0_open_52 rfl 0 rfl ?_
    refine V_iload_n hC dX0_open_53 rfl 1 rfl ?_
    refine V_iconst hC (4 : Int32) dX0_open_54 (by decide) ?_
    refine V_iload hC dX0_open_55 5 rfl ?_
    obtain ⟨q7, e7, h⟩ := bind_some h
    refine V_cVv hC [.int x1, .int (4 : Int32), .int x5] (c_X0_setFact (l := l) hC.2.2.2.2.2.2.2 hg e7) kd_X0_setFact kv_X0_setFact gw_711 (r_d8_0 hg).o rfl ⟨Nat.le_of_ble_eq_true rfl, Nat.le_of_ble_eq_true rfl⟩ rfl (Nat.le_of_ble_eq_true rfl) dX0_open_57 ⟨Nat.zero_le _, Nat.zero_le _⟩ rfl ?_
    obtain rfl := Option.some.inj h
    exact V_vret hC hr hlk dX0_open_60
  · have h := ite_t c2 h
    obtain rfl := Option.some.inj h
    exact V_vret hC hr hlk dX0_open_10
theorem c_X0_setExpiry {l : Launch} {G : Geo} {g : Nat} {x1 : Int32} {x2 : Int32} {Mf : Mem} {M : Mem} (hG : gD G) (hg : g < 6) (h : f_X0_setExpiry g x1 x2 M = some Mf) : Met l yX0_setExpiry (.code yX0_setExpiry cX0_setExpiry 3 none :: GL) (rmk 1) (gP G [.ref (adr G g 8), .int x1, .int x2] M) (gQ G none Mf) 0 0 (gA G) := by
  refine Met_of (own := RX0) (L := [(0, .ref (adr G g 8)), (1, .int x1), (2, .int x2)]) hG (by decide +kernel) rfl (Nat.le_of_ble_eq_true rfl) rfl ?_
  intro p e s m args below meth c hC hr hlk
  refine V_aload_n hC dX0_setExpiry_0 rfl 0 rfl ?_
  refine V_iload_n hC dX0_setExpiry_1 rfl 1 rfl ?_
  refine V_iconst hC (2 : Int32) dX0_setExpiry_2 (by decide) ?_
  refine V_iload_n hC dX0_setExpiry_3 rfl 2 rfl ?_
  obtain ⟨q1, e1, h⟩ := bind_some h
  refine V_cVv hC [.int x1, .int (2 : Int32), .int x2] (c_X0_setFact (l := l) hC.2.2.2.2.2.2.2 hg e1) kd_X0_setFact kv_X0_setFact gw_711 (r_d8_0 hg).o rfl ⟨Nat.le_of_ble_eq_true rfl, Nat.le_of_ble_eq_true rfl⟩ rfl (Nat.le_of_ble_eq_true rfl) dX0_setExpiry_4 ⟨Nat.zero_le _, Nat.zero_le _⟩ rfl ?_
  obtain rfl := Option.some.inj h
  exact V_vret hC hr hlk dX0_setExpiry_7
theorem c_X0_close {l : Launch} {G : Geo} {g : Nat} {x1 : Int32} {Mf : Mem} {M : Mem} (hG : gD G) (hg : g < 6) (h : f_X0_close g x1 M = some Mf) : Met l yX0_close (.code yX0_close cX0_close 2 none :: GL) (rmk 1) (gP G [.ref (adr G g 8), .int x1] M) (gQ G none Mf) 0 0 (gA G) := by
  refine Met_of (own := RX0) (L := [(0, .ref (adr G g 8)), (1, .int x1)]) hG (by decide +kernel) rfl (Nat.le_of_ble_eq_true rfl) rfl ?_
  intro p e s m args below meth c hC hr hlk
  refine V_aload_n hC dX0_close_0 rfl 0 rfl ?_
  refine V_iload_n hC dX0_close_1 rfl 1 rfl ?_
  refine V_cVr hC [.int x1] (c_X0_has (l := l) hC.2.2.2.2.2.2.2 hg rfl) kd_X0_has kv_X0_has gw_264 (r_d8_0 hg).o rfl ⟨Nat.le_of_ble_eq_true rfl, Nat.le_of_ble_eq_true rfl⟩ rfl (Nat.le_of_ble_eq_true rfl) dX0_close_2 ⟨Nat.zero_le _, Nat.zero_le _⟩ rfl ?_
  refine V_if_eq hC 22 dX0_close_5 (by decide) (fun c2 => ?_) (fun c2 => ?_)
  · have h := ite_t c2 h
    obtain rfl := Option.some.inj h
    exact V_vret hC hr hlk dX0_close_22
  · have h := ite_f c2 h
    refine V_aload_n hC dX0_close_8 rfl 0 rfl ?_
    refine V_dup hC dX0_close_9 rfl ?_
    refine V_getI hC (f_d8_3 hg) fw_X0_25 dX0_close_10 ?_
    refine V_iconst hC (1 : Int32) dX0_close_13 (by decide) ?_
    refine V_iload_n hC dX0_close_14 rfl 1 rfl ?_
    refine V_ishl hC dX0_close_15 ?_
    refine V_iconst hC ((-1) : Int32) dX0_close_16 (by decide) ?_
    refine V_ixor hC dX0_close_17 ?_
    refine V_iand hC dX0_close_18 ?_
    refine V_putI hC (f_d8_3 hg) fw_X0_25 flp_0_3 dX0_close_19 ?_
    obtain rfl := Option.some.inj h
    exact V_vret hC hr hlk dX0_close_22
theorem c_X0_closeAll {l : Launch} {G : Geo} {g : Nat} {x1 : Int32} {Mf : Mem} {M : Mem} (hG : gD G) (hg : g < 6) (h : f_X0_closeAll g x1 M = some Mf) : Met l yX0_closeAll (.code yX0_closeAll cX0_closeAll 2 none :: GL) (rmk 0) (gP G [.ref (adr G g 8), .int x1] M) (gQ G none Mf) 0 0 (gA G) := by
  refine Met_of (own := RX0) (L := [(0, .ref (adr G g 8)), (1, .int x1)]) hG (by decide +kernel) rfl (Nat.le_of_ble_eq_true rfl) rfl ?_
  intro p e s m args below meth c hC hr hlk
  refine V_aload_n hC dX0_closeAll_0 rfl 0 rfl ?_
  refine V_dup hC dX0_closeAll_1 rfl ?_
  refine V_getI hC (f_d8_3 hg) fw_X0_25 dX0_closeAll_2 ?_
  refine V_iload_n hC dX0_closeAll_5 rfl 1 rfl ?_
  refine V_iconst hC ((-1) : Int32) dX0_closeAll_6 (by decide) ?_
  refine V_ixor hC dX0_closeAll_7 ?_
  refine V_iand hC dX0_closeAll_8 ?_
  refine V_putI hC (f_d8_3 hg) fw_X0_25 flp_0_3 dX0_closeAll_9 ?_
  obtain rfl := Option.some.inj h
  exact V_vret hC hr hlk dX0_closeAll_12
theorem c_X0_lose {l : Launch} {G : Geo} {g : Nat} {x1 : Int32} {Mf : Mem} {M : Mem} (hG : gD G) (hg : g < 6) (h : f_X0_lose g x1 M = some Mf) : Met l yX0_lose (.code yX0_lose cX0_lose 2 none :: GL) (rmk 2) (gP G [.ref (adr G g 8), .int x1] M) (gQ G none Mf) 0 0 (gA G) := by
  refine Met_of (own := RX0) (L := [(0, .ref (adr G g 8)), (1, .int x1)]) hG (by decide +kernel) rfl (Nat.le_of_ble_eq_true rfl) rfl ?_
  intro p e s m args below meth c hC hr hlk
  refine V_aload_n hC dX0_lose_0 rfl 0 rfl ?_
  refine V_iload_n hC dX0_lose_1 rfl 1 rfl ?_
  obtain ⟨q1, e1, h⟩ := bind_some h
  refine V_cVr hC [.int x1] (c_X0_isShared (l := l) hC.2.2.2.2.2.2.2 hg e1) kd_X0_isShared kv_X0_isShared gw_778 (r_d8_0 hg).o rfl ⟨Nat.le_of_ble_eq_true rfl, Nat.le_of_ble_eq_true rfl⟩ rfl (Nat.le_of_ble_eq_true rfl) dX0_lose_2 ⟨Nat.zero_le _, Nat.zero_le _⟩ rfl ?_
  refine V_if_eq hC 16 dX0_lose_5 (by decide) (fun c2 => ?_) (fun c2 => ?_)
  · have h := ite_t c2 h
    refine V_aload_n hC dX0_lose_16 rfl 0 rfl ?_
    refine V_iload_n hC dX0_lose_17 rfl 1 rfl ?_
    refine V_iconst hC (3 : Int32) dX0_lose_18 (by decide) ?_
    refine V_iconst hC (0 : Int32) dX0_lose_19 (by decide) ?_
    obtain ⟨q3, e3, h⟩ := bind_some h
    refine V_cVv hC [.int x1, .int (3 : Int32), .int (0 : Int32)] (c_X0_setFact (l := l) hC.2.2.2.2.2.2.2 hg e3) kd_X0_setFact kv_X0_setFact gw_711 (r_d8_0 hg).o rfl ⟨Nat.le_of_ble_eq_true rfl, Nat.le_of_ble_eq_true rfl⟩ rfl (Nat.le_of_ble_eq_true rfl) dX0_lose_20 ⟨Nat.zero_le _, Nat.zero_le _⟩ rfl ?_
    obtain rfl := Option.some.inj h
    exact V_vret hC hr hlk dX0_lose_23
  · have h := ite_f c2 h
    refine V_aload_n hC dX0_lose_8 rfl 0 rfl ?_
    refine V_iload_n hC dX0_lose_9 rfl 1 rfl ?_
    obtain ⟨q4, e4, h⟩ := bind_some h
    refine V_cVv hC [.int x1] (c_X0_close (l := l) hC.2.2.2.2.2.2.2 hg e4) kd_X0_close kv_X0_close gw_779 (r_d8_0 hg).o rfl ⟨Nat.le_of_ble_eq_true rfl, Nat.le_of_ble_eq_true rfl⟩ rfl (Nat.le_of_ble_eq_true rfl) dX0_lose_10 ⟨Nat.zero_le _, Nat.zero_le _⟩ rfl ?_
    refine V_goto hC 23 dX0_lose_13 (by decide) ?_
    obtain rfl := Option.some.inj h
    exact V_vret hC hr hlk dX0_lose_23
theorem b_X0_baseAt_25 {g : Nat} {rv : Int32} {x1 : Int32} {x2 : Int32} {z0 : Int32} {M : Mem} (hC : Cx p s m args c cX0_baseAt RX0 4 G) (hr : meth.sig.returnType = some .int) (hlk : meth.locks = false) (hg : g < 6) (h : B_X0_baseAt_25 g x1 x2 z0 M = some rv) : V p l e (rmk 0) s m args below meth c 4 G 0 0 (MQ below (gQ G (some (.int rv)) M) args s 0 0 (gA G)) 25 [(0, .ref (adr G g 8)), (1, .int x1), (2, .int x2)] [.int z0] M := by
  refine V_istore_n hC ([(3, .int z0), (0, .ref (adr G g 8)), (1, .int x1), (2, .int x2)]) dX0_baseAt_25 rfl (by decide) rfl ?_
  refine V_iload_n hC dX0_baseAt_26 rfl 0 rfl ?_
  refine V_if_eq hC 44 dX0_baseAt_27 (by decide) (fun c2 => ?_) (fun c2 => ?_)
  · have h := ite_t c2 h
    refine V_iconst hC (0 : Int32) dX0_baseAt_44 (by decide) ?_
    obtain rfl := Option.some.inj h
    exact V_iret hC hr hlk dX0_baseAt_45
  · have h := ite_f c2 h
    refine V_aload_n hC dX0_baseAt_30 rfl 1 rfl ?_
    refine V_getR hC (r_d8_1 hg) fw_X0_15 dX0_baseAt_31 ?_
    refine V_iload_n hC dX0_baseAt_34 rfl 2 rfl ?_
    refine V_bipush hC (120 : Int32) dX0_baseAt_35 (by decide) ?_
    refine V_imul hC dX0_baseAt_37 ?_
    refine V_iload_n hC dX0_baseAt_38 rfl 3 rfl ?_
    refine V_iadd hC dX0_baseAt_39 ?_
    obtain ⟨c3, h⟩ := ite_some h
    refine V_iald hC (a_d10 hg) c3 dX0_baseAt_40 ?_
    refine V_goto hC 45 dX0_baseAt_41 (by decide) ?_
    obtain rfl := Option.some.inj h
    exact V_iret hC hr hlk dX0_baseAt_45
theorem b_X0_baseAt_24 {g : Nat} {rv : Int32} {x1 : Int32} {x2 : Int32} {M : Mem} (hC : Cx p s m args c cX0_baseAt RX0 4 G) (hr : meth.sig.returnType = some .int) (hlk : meth.locks = false) (hg : g < 6) (h : B_X0_baseAt_24 g x1 x2 M = some rv) : V p l e (rmk 0) s m args below meth c 4 G 0 0 (MQ below (gQ G (some (.int rv)) M) args s 0 0 (gA G)) 24 [(0, .ref (adr G g 8)), (1, .int x1), (2, .int x2)] [] M := by
  refine V_iconst hC (0 : Int32) dX0_baseAt_24 (by decide) ?_
  exact b_X0_baseAt_25 hC hr hlk hg h
theorem c_X0_baseAt {l : Launch} {G : Geo} {g : Nat} {x1 : Int32} {x2 : Int32} {rv : Int32} {M : Mem} (hG : gD G) (hg : g < 6) (h : f_X0_baseAt g x1 x2 M = some rv) : Met l yX0_baseAt (.code yX0_baseAt cX0_baseAt 4 (some .int) :: GL) (rmk 0) (gP G [.ref (adr G g 8), .int x1, .int x2] M) (gQ G (some (.int rv)) M) 0 0 (gA G) := by
  refine Met_of (own := RX0) (L := [(0, .ref (adr G g 8)), (1, .int x1), (2, .int x2)]) hG (by decide +kernel) rfl (Nat.le_of_ble_eq_true rfl) rfl ?_
  intro p e s m args below meth c hC hr hlk
  refine V_iload_n hC dX0_baseAt_0 rfl 1 rfl ?_
  refine V_if_lt hC 24 dX0_baseAt_1 (by decide) (fun c1 => ?_) (fun c1 => ?_)
  · have h := ite_t c1 h
    exact b_X0_baseAt_24 hC hr hlk hg h
  · have h := ite_f c1 h
    refine V_iload_n hC dX0_baseAt_4 rfl 1 rfl ?_
    refine V_bipush hC (10 : Int32) dX0_baseAt_5 (by decide) ?_
    refine V_icmp_ge hC 24 dX0_baseAt_7 (by decide) (fun c4 => ?_) (fun c4 => ?_)
    · have h := ite_t c4 h
      exact b_X0_baseAt_24 hC hr hlk hg h
    · have h := ite_f c4 h
      refine V_iload_n hC dX0_baseAt_10 rfl 2 rfl ?_
      refine V_if_lt hC 24 dX0_baseAt_11 (by decide) (fun c5 => ?_) (fun c5 => ?_)
      · have h := ite_t c5 h
        exact b_X0_baseAt_24 hC hr hlk hg h
      · have h := ite_f c5 h
        refine V_iload_n hC dX0_baseAt_14 rfl 2 rfl ?_
        refine V_bipush hC (120 : Int32) dX0_baseAt_15 (by decide) ?_
        refine V_icmp_ge hC 24 dX0_baseAt_17 (by decide) (fun c6 => ?_) (fun c6 => ?_)
        · have h := ite_t c6 h
          exact b_X0_baseAt_24 hC hr hlk hg h
        · have h := ite_f c6 h
          refine V_iconst hC (1 : Int32) dX0_baseAt_20 (by decide) ?_
          refine V_goto hC 25 dX0_baseAt_21 (by decide) ?_
          exact b_X0_baseAt_25 hC hr hlk hg h
theorem b_X0_ownAt_25 {g : Nat} {rv : Int32} {x1 : Int32} {x2 : Int32} {z0 : Int32} {M : Mem} (hC : Cx p s m args c cX0_ownAt RX0 4 G) (hr : meth.sig.returnType = some .int) (hlk : meth.locks = false) (hg : g < 6) (h : B_X0_ownAt_25 g x1 x2 z0 M = some rv) : V p l e (rmk 0) s m args below meth c 4 G 0 0 (MQ below (gQ G (some (.int rv)) M) args s 0 0 (gA G)) 25 [(0, .ref (adr G g 8)), (1, .int x1), (2, .int x2)] [.int z0] M := by
  refine V_istore_n hC ([(3, .int z0), (0, .ref (adr G g 8)), (1, .int x1), (2, .int x2)]) dX0_ownAt_25 rfl (by decide) rfl ?_
  refine V_iload_n hC dX0_ownAt_26 rfl 0 rfl ?_
  refine V_if_eq hC 44 dX0_ownAt_27 (by decide) (fun c2 => ?_) (fun c2 => ?_)
  · have h := ite_t c2 h
    refine V_iconst hC (0 : Int32) dX0_ownAt_44 (by decide) ?_
    obtain rfl := Option.some.inj h
    exact V_iret hC hr hlk dX0_ownAt_45
  · have h := ite_f c2 h
    refine V_aload_n hC dX0_ownAt_30 rfl 1 rfl ?_
    refine V_getR hC (r_d8_2 hg) fw_X0_18 dX0_ownAt_31 ?_
    refine V_iload_n hC dX0_ownAt_34 rfl 2 rfl ?_
    refine V_bipush hC (120 : Int32) dX0_ownAt_35 (by decide) ?_
    refine V_imul hC dX0_ownAt_37 ?_
    refine V_iload_n hC dX0_ownAt_38 rfl 3 rfl ?_
    refine V_iadd hC dX0_ownAt_39 ?_
    obtain ⟨c3, h⟩ := ite_some h
    refine V_iald hC (a_d11 hg) c3 dX0_ownAt_40 ?_
    refine V_goto hC 45 dX0_ownAt_41 (by decide) ?_
    obtain rfl := Option.some.inj h
    exact V_iret hC hr hlk dX0_ownAt_45
theorem b_X0_ownAt_24 {g : Nat} {rv : Int32} {x1 : Int32} {x2 : Int32} {M : Mem} (hC : Cx p s m args c cX0_ownAt RX0 4 G) (hr : meth.sig.returnType = some .int) (hlk : meth.locks = false) (hg : g < 6) (h : B_X0_ownAt_24 g x1 x2 M = some rv) : V p l e (rmk 0) s m args below meth c 4 G 0 0 (MQ below (gQ G (some (.int rv)) M) args s 0 0 (gA G)) 24 [(0, .ref (adr G g 8)), (1, .int x1), (2, .int x2)] [] M := by
  refine V_iconst hC (0 : Int32) dX0_ownAt_24 (by decide) ?_
  exact b_X0_ownAt_25 hC hr hlk hg h
theorem c_X0_ownAt {l : Launch} {G : Geo} {g : Nat} {x1 : Int32} {x2 : Int32} {rv : Int32} {M : Mem} (hG : gD G) (hg : g < 6) (h : f_X0_ownAt g x1 x2 M = some rv) : Met l yX0_ownAt (.code yX0_ownAt cX0_ownAt 4 (some .int) :: GL) (rmk 0) (gP G [.ref (adr G g 8), .int x1, .int x2] M) (gQ G (some (.int rv)) M) 0 0 (gA G) := by
  refine Met_of (own := RX0) (L := [(0, .ref (adr G g 8)), (1, .int x1), (2, .int x2)]) hG (by decide +kernel) rfl (Nat.le_of_ble_eq_true rfl) rfl ?_
  intro p e s m args below meth c hC hr hlk
  refine V_iload_n hC dX0_ownAt_0 rfl 1 rfl ?_
  refine V_if_lt hC 24 dX0_ownAt_1 (by decide) (fun c1 => ?_) (fun c1 => ?_)
  · have h := ite_t c1 h
    exact b_X0_ownAt_24 hC hr hlk hg h
  · have h := ite_f c1 h
    refine V_iload_n hC dX0_ownAt_4 rfl 1 rfl ?_
    refine V_bipush hC (10 : Int32) dX0_ownAt_5 (by decide) ?_
    refine V_icmp_ge hC 24 dX0_ownAt_7 (by decide) (fun c4 => ?_) (fun c4 => ?_)
    · have h := ite_t c4 h
      exact b_X0_ownAt_24 hC hr hlk hg h
    · have h := ite_f c4 h
      refine V_iload_n hC dX0_ownAt_10 rfl 2 rfl ?_
      refine V_if_lt hC 24 dX0_ownAt_11 (by decide) (fun c5 => ?_) (fun c5 => ?_)
      · have h := ite_t c5 h
        exact b_X0_ownAt_24 hC hr hlk hg h
      · have h := ite_f c5 h
        refine V_iload_n hC dX0_ownAt_14 rfl 2 rfl ?_
        refine V_bipush hC (120 : Int32) dX0_ownAt_15 (by decide) ?_
        refine V_icmp_ge hC 24 dX0_ownAt_17 (by decide) (fun c6 => ?_) (fun c6 => ?_)
        · have h := ite_t c6 h
          exact b_X0_ownAt_24 hC hr hlk hg h
        · have h := ite_f c6 h
          refine V_iconst hC (1 : Int32) dX0_ownAt_20 (by decide) ?_
          refine V_goto hC 25 dX0_ownAt_21 (by decide) ?_
          exact b_X0_ownAt_25 hC hr hlk hg h
theorem c_X0_setOwn {l : Launch} {G : Geo} {g : Nat} {x1 : Int32} {x2 : Int32} {x3 : Int32} {Mf : Mem} {M : Mem} (hG : gD G) (hg : g < 6) (h : f_X0_setOwn g x1 x2 x3 M = some Mf) : Met l yX0_setOwn (.code yX0_setOwn cX0_setOwn 4 none :: GL) (rmk 0) (gP G [.ref (adr G g 8), .int x1, .int x2, .int x3] M) (gQ G none Mf) 0 0 (gA G) := by
  refine Met_of (own := RX0) (L := [(0, .ref (adr G g 8)), (1, .int x1), (2, .int x2), (3, .int x3)]) hG (by decide +kernel) rfl (Nat.le_of_ble_eq_true rfl) rfl ?_
  intro p e s m args below meth c hC hr hlk
  refine V_iload_n hC dX0_setOwn_0 rfl 1 rfl ?_
  refine V_if_lt hC 32 dX0_setOwn_1 (by decide) (fun c1 => ?_) (fun c1 => ?_)
  · have h := ite_t c1 h
    obtain rfl := Option.some.inj h
    exact V_vret hC hr hlk dX0_setOwn_32
  · have h := ite_f c1 h
    refine V_iload_n hC dX0_setOwn_4 rfl 1 rfl ?_
    refine V_bipush hC (10 : Int32) dX0_setOwn_5 (by decide) ?_
    refine V_icmp_ge hC 32 dX0_setOwn_7 (by decide) (fun c2 => ?_) (fun c2 => ?_)
    · have h := ite_t c2 h
      obtain rfl := Option.some.inj h
      exact V_vret hC hr hlk dX0_setOwn_32
    · have h := ite_f c2 h
      refine V_iload_n hC dX0_setOwn_10 rfl 2 rfl ?_
      refine V_if_lt hC 32 dX0_setOwn_11 (by decide) (fun c3 => ?_) (fun c3 => ?_)
      · have h := ite_t c3 h
        obtain rfl := Option.some.inj h
        exact V_vret hC hr hlk dX0_setOwn_32
      · have h := ite_f c3 h
        refine V_iload_n hC dX0_setOwn_14 rfl 2 rfl ?_
        refine V_bipush hC (120 : Int32) dX0_setOwn_15 (by decide) ?_
        refine V_icmp_ge hC 32 dX0_setOwn_17 (by decide) (fun c4 => ?_) (fun c4 => ?_)
        · have h := ite_t c4 h
          obtain rfl := Option.some.inj h
          exact V_vret hC hr hlk dX0_setOwn_32
        · have h := ite_f c4 h
          refine V_aload_n hC dX0_setOwn_20 rfl 0 rfl ?_
          refine V_getR hC (r_d8_2 hg) fw_X0_18 dX0_setOwn_21 ?_
          refine V_iload_n hC dX0_setOwn_24 rfl 1 rfl ?_
          refine V_bipush hC (120 : Int32) dX0_setOwn_25 (by decide) ?_
          refine V_imul hC dX0_setOwn_27 ?_
          refine V_iload_n hC dX0_setOwn_28 rfl 2 rfl ?_
          refine V_iadd hC dX0_setOwn_29 ?_
          refine V_iload_n hC dX0_setOwn_30 rfl 3 rfl ?_
          obtain ⟨c5, h⟩ := ite_some h
          refine V_iast hC (a_d11 hg) c5 dX0_setOwn_31 ?_
          obtain rfl := Option.some.inj h
          exact V_vret hC hr hlk dX0_setOwn_32
theorem c_X0_setBase {l : Launch} {G : Geo} {g : Nat} {x1 : Int32} {x2 : Int32} {x3 : Int32} {Mf : Mem} {M : Mem} (hG : gD G) (hg : g < 6) (h : f_X0_setBase g x1 x2 x3 M = some Mf) : Met l yX0_setBase (.code yX0_setBase cX0_setBase 4 none :: GL) (rmk 0) (gP G [.ref (adr G g 8), .int x1, .int x2, .int x3] M) (gQ G none Mf) 0 0 (gA G) := by
  refine Met_of (own := RX0) (L := [(0, .ref (adr G g 8)), (1, .int x1), (2, .int x2), (3, .int x3)]) hG (by decide +kernel) rfl (Nat.le_of_ble_eq_true rfl) rfl ?_
  intro p e s m args below meth c hC hr hlk
  refine V_iload_n hC dX0_setBase_0 rfl 1 rfl ?_
  refine V_if_lt hC 32 dX0_setBase_1 (by decide) (fun c1 => ?_) (fun c1 => ?_)
  · have h := ite_t c1 h
    obtain rfl := Option.some.inj h
    exact V_vret hC hr hlk dX0_setBase_32
  · have h := ite_f c1 h
    refine V_iload_n hC dX0_setBase_4 rfl 1 rfl ?_
    refine V_bipush hC (10 : Int32) dX0_setBase_5 (by decide) ?_
    refine V_icmp_ge hC 32 dX0_setBase_7 (by decide) (fun c2 => ?_) (fun c2 => ?_)
    · have h := ite_t c2 h
      obtain rfl := Option.some.inj h
      exact V_vret hC hr hlk dX0_setBase_32
    · have h := ite_f c2 h
      refine V_iload_n hC dX0_setBase_10 rfl 2 rfl ?_
      refine V_if_lt hC 32 dX0_setBase_11 (by decide) (fun c3 => ?_) (fun c3 => ?_)
      · have h := ite_t c3 h
        obtain rfl := Option.some.inj h
        exact V_vret hC hr hlk dX0_setBase_32
      · have h := ite_f c3 h
        refine V_iload_n hC dX0_setBase_14 rfl 2 rfl ?_
        refine V_bipush hC (120 : Int32) dX0_setBase_15 (by decide) ?_
        refine V_icmp_ge hC 32 dX0_setBase_17 (by decide) (fun c4 => ?_) (fun c4 => ?_)
        · have h := ite_t c4 h
          obtain rfl := Option.some.inj h
          exact V_vret hC hr hlk dX0_setBase_32
        · have h := ite_f c4 h
          refine V_aload_n hC dX0_setBase_20 rfl 0 rfl ?_
          refine V_getR hC (r_d8_1 hg) fw_X0_15 dX0_setBase_21 ?_
          refine V_iload_n hC dX0_setBase_24 rfl 1 rfl ?_
          refine V_bipush hC (120 : Int32) dX0_setBase_25 (by decide) ?_
          refine V_imul hC dX0_setBase_27 ?_
          refine V_iload_n hC dX0_setBase_28 rfl 2 rfl ?_
          refine V_iadd hC dX0_setBase_29 ?_
          refine V_iload_n hC dX0_setBase_30 rfl 3 rfl ?_
          obtain ⟨c5, h⟩ := ite_some h
          refine V_iast hC (a_d10 hg) c5 dX0_setBase_31 ?_
          obtain rfl := Option.some.inj h
          exact V_vret hC hr hlk dX0_setBase_32
theorem c_X7_valueAt {l : Launch} {G : Geo} {g : Nat} {x1 : Int32} {rv : Int32} {M : Mem} (hG : gD G) (hg : g < 6) (h : f_X7_valueAt g x1 M = some rv) : Met l yX7_valueAt (.code yX7_valueAt cX7_valueAt 2 (some .int) :: GL) (rmk 0) (gP G [.ref (adr G g 1), .int x1] M) (gQ G (some (.int rv)) M) 0 0 (gA G) := by
  refine Met_of (own := RX7) (L := [(0, .ref (adr G g 1)), (1, .int x1)]) hG (by decide +kernel) rfl (Nat.le_of_ble_eq_true rfl) rfl ?_
  intro p e s m args below meth c hC hr hlk
  refine V_iload_n hC dX7_valueAt_0 rfl 1 rfl ?_
  refine V_if_lt hC 19 dX7_valueAt_1 (by decide) (fun c1 => ?_) (fun c1 => ?_)
  · have h := ite_t c1 h
    refine V_iconst hC (0 : Int32) dX7_valueAt_19 (by decide) ?_
    obtain rfl := Option.some.inj h
    exact V_iret hC hr hlk dX7_valueAt_20
  · have h := ite_f c1 h
    refine V_iload_n hC dX7_valueAt_4 rfl 1 rfl ?_
    refine V_bipush hC (120 : Int32) dX7_valueAt_5 (by decide) ?_
    refine V_icmp_ge hC 19 dX7_valueAt_7 (by decide) (fun c2 => ?_) (fun c2 => ?_)
    · have h := ite_t c2 h
      refine V_iconst hC (0 : Int32) dX7_valueAt_19 (by decide) ?_
      obtain rfl := Option.some.inj h
      exact V_iret hC hr hlk dX7_valueAt_20
    · have h := ite_f c2 h
      refine V_aload_n hC dX7_valueAt_10 rfl 0 rfl ?_
      refine V_getR hC (r_d1_3 hg) fw_X7_21 dX7_valueAt_11 ?_
      refine V_iload_n hC dX7_valueAt_14 rfl 1 rfl ?_
      obtain ⟨c3, h⟩ := ite_some h
      refine V_iald hC (a_d5 hg) c3 dX7_valueAt_15 ?_
      refine V_goto hC 20 dX7_valueAt_16 (by decide) ?_
      obtain rfl := Option.some.inj h
      exact V_iret hC hr hlk dX7_valueAt_20
theorem b_X0_copyDocument_48 {g : Nat} {Mf : Mem} {k3 : Int32 → Mem → Option Mem} {x1 : Int32} {x2 : Int32} {x4 : Int32} {M : Mem} (hC : Cx p s m args c cX0_copyDocument RX0 5 G) (hr : meth.sig.returnType = none) (hlk : meth.locks = false) (hg : g < 6) (hk3 : ∀ (x4 : Int32) (M : Mem), k3 x4 M = some Mf → V p l e (rmk 1) s m args below meth c 5 G 0 0 (MQ below (gQ G none Mf) args s 0 0 (gA G)) 3 [(0, .ref (adr G g 8)), (1, .int x1), (2, .int x2), (3, .ref (adr G g 1)), (4, .int x4)] [] M) (h : B_X0_copyDocument_48 g k3 x1 x2 x4 M = some Mf) : V p l e (rmk 1) s m args below meth c 5 G 0 0 (MQ below (gQ G none Mf) args s 0 0 (gA G)) 48 [(0, .ref (adr G g 8)), (1, .int x1), (2, .int x2), (3, .ref (adr G g 1)), (4, .int x4)] [] M := by
  refine V_iinc hC (x4 + 1) ([(4, .int (x4 + 1)), (0, .ref (adr G g 8)), (1, .int x1), (2, .int x2), (3, .ref (adr G g 1))]) dX0_copyDocument_48 4 rfl rfl (by decide) rfl ?_
  refine V_goto hC 3 dX0_copyDocument_51 (by decide) ?_
  refine V_sub [1, 2, 3, 4, 0] rfl ?_
  exact hk3 _ _ h
theorem l_X0_copyDocument_3 {g : Nat} {Mf : Mem} {x1 : Int32} {x2 : Int32} (hC : Cx p s m args c cX0_copyDocument RX0 5 G) (hr : meth.sig.returnType = none) (hlk : meth.locks = false) (hg : g < 6) : ∀ (n : Nat) {x4 : Int32} {M : Mem} (h : L_X0_copyDocument_3 g x1 x2 n x4 M = some Mf), V p l e (rmk 1) s m args below meth c 5 G 0 0 (MQ below (gQ G none Mf) args s 0 0 (gA G)) 3 [(0, .ref (adr G g 8)), (1, .int x1), (2, .int x2), (3, .ref (adr G g 1)), (4, .int x4)] [] M := by
  intro n
  induction n with
  | zero => intro x4 M h; cases h
  | succ n ih =>
    intro x4 M h
    have hk3 : ∀ (x4 : Int32) (M : Mem), L_X0_copyDocument_3 g x1 x2 n x4 M = some Mf → V p l e (rmk 1) s m args below meth c 5 G 0 0 (MQ below (gQ G none Mf) args s 0 0 (gA G)) 3 [(0, .ref (adr G g 8)), (1, .int x1), (2, .int x2), (3, .ref (adr G g 1)), (4, .int x4)] [] M := fun _ _ z => ih z
    refine V_iload hC dX0_copyDocument_3 4 rfl ?_
    refine V_bipush hC (120 : Int32) dX0_copyDocument_5 (by decide) ?_
    refine V_icmp_ge hC 54 dX0_copyDocument_7 (by decide) (fun c1 => ?_) (fun c1 => ?_)
    · have h := ite_t c1 h
      obtain rfl := Option.some.inj h
      exact V_vret hC hr hlk dX0_copyDocument_54
    · have h := ite_f c1 h
      refine V_iload_n hC dX0_copyDocument_10 rfl 2 rfl ?_
      refine V_iload hC dX0_copyDocument_11 4 rfl ?_
      refine V_bipush hC (6 : Int32) dX0_copyDocument_13 (by decide) ?_
      refine V_idiv hC dX0_copyDocument_15 (by decide) ?_
      refine V_cSNr hC [.int x2, .int (x4 / (6 : Int32))] (c_X8_hasBit (l := l) hC.2.2.2.2.2.2.2 rfl) kd_X8_hasBit gw_505 nw_39 ⟨Nat.le_of_ble_eq_true rfl, Nat.le_of_ble_eq_true rfl⟩ rfl (Nat.le_of_ble_eq_true rfl) dX0_copyDocument_16 ⟨Nat.zero_le _, Nat.zero_le _⟩ rfl ?_
      refine V_if_eq hC 48 dX0_copyDocument_19 (by decide) (fun c3 => ?_) (fun c3 => ?_)
      · have h := ite_t c3 h
        exact b_X0_copyDocument_48 hC hr hlk hg hk3 h
      · have h := ite_f c3 h
        refine V_aload_n hC dX0_copyDocument_22 rfl 0 rfl ?_
        refine V_iload_n hC dX0_copyDocument_23 rfl 1 rfl ?_
        refine V_iload hC dX0_copyDocument_24 4 rfl ?_
        refine V_aload_n hC dX0_copyDocument_26 rfl 3 rfl ?_
        refine V_iload hC dX0_copyDocument_27 4 rfl ?_
        obtain ⟨q4, e4, h⟩ := bind_some h
        refine V_cVr hC [.int x4] (c_X7_valueAt (l := l) hC.2.2.2.2.2.2.2 hg e4) kd_X7_valueAt kv_X7_valueAt gw_701 (r_d1_0 hg).o rfl ⟨Nat.le_of_ble_eq_true rfl, Nat.le_of_ble_eq_true rfl⟩ rfl (Nat.le_of_ble_eq_true rfl) dX0_copyDocument_29 ⟨Nat.zero_le _, Nat.zero_le _⟩ rfl ?_
        obtain ⟨q5, e5, h⟩ := bind_some h
        refine V_cVv hC [.int x1, .int x4, .int q4] (c_X0_setBase (l := l) hC.2.2.2.2.2.2.2 hg e5) kd_X0_setBase kv_X0_setBase gw_685 (r_d8_0 hg).o rfl ⟨Nat.le_of_ble_eq_true rfl, Nat.le_of_ble_eq_true rfl⟩ rfl (Nat.le_of_ble_eq_true rfl) dX0_copyDocument_32 ⟨Nat.zero_le _, Nat.zero_le _⟩ rfl ?_
        refine V_aload_n hC dX0_copyDocument_35 rfl 0 rfl ?_
        refine V_iload_n hC dX0_copyDocument_36 rfl 1 rfl ?_
        refine V_iload hC dX0_copyDocument_37 4 rfl ?_
        refine V_aload_n hC dX0_copyDocument_39 rfl 3 rfl ?_
        refine V_iload hC dX0_copyDocument_40 4 rfl ?_
        obtain ⟨q6, e6, h⟩ := bind_some h
        refine V_cVr hC [.int x4] (c_X7_valueAt (l := l) hC.2.2.2.2.2.2.2 hg e6) kd_X7_valueAt kv_X7_valueAt gw_701 (r_d1_0 hg).o rfl ⟨Nat.le_of_ble_eq_true rfl, Nat.le_of_ble_eq_true rfl⟩ rfl (Nat.le_of_ble_eq_true rfl) dX0_copyDocument_42 ⟨Nat.zero_le _, Nat.zero_le _⟩ rfl ?_
        obtain ⟨q7, e7, h⟩ := bind_some h
        refine V_cVv hC [.int x1, .int x4, .int q6] (c_X0_setOwn (l := l) hC.2.2.2.2.2.2.2 hg e7) kd_X0_setOwn kv_X0_setOwn gw_693 (r_d8_0 hg).o rfl ⟨Nat.le_of_ble_eq_true rfl, Nat.le_of_ble_eq_true rfl⟩ rfl (Nat.le_of_ble_eq_true rfl) dX0_copyDocument_45 ⟨Nat.zero_le _, Nat.zero_le _⟩ rfl ?_
        exact b_X0_copyDocument_48 hC hr hlk hg hk3 h
theorem c_X0_copyDocument {l : Launch} {G : Geo} {g : Nat} {x1 : Int32} {x2 : Int32} {Mf : Mem} {M : Mem} (hG : gD G) (hg : g < 6) (h : f_X0_copyDocument g x1 x2 M = some Mf) : Met l yX0_copyDocument (.code yX0_copyDocument cX0_copyDocument 5 none :: GL) (rmk 1) (gP G [.ref (adr G g 8), .int x1, .int x2, .ref (adr G g 1)] M) (gQ G none Mf) 0 0 (gA G) := by
  refine Met_of (own := RX0) (L := [(0, .ref (adr G g 8)), (1, .int x1), (2, .int x2), (3, .ref (adr G g 1))]) hG (by decide +kernel) rfl (Nat.le_of_ble_eq_true rfl) rfl ?_
  intro p e s m args below meth c hC hr hlk
  refine V_iconst hC (0 : Int32) dX0_copyDocument_0 (by decide) ?_
  refine V_istore hC ([(4, .int (0 : Int32)), (0, .ref (adr G g 8)), (1, .int x1), (2, .int x2), (3, .ref (adr G g 1))]) dX0_copyDocument_1 (by decide) rfl ?_
  refine V_sub [1, 2, 3, 4, 0] rfl ?_
  exact l_X0_copyDocument_3 hC hr hlk hg FU h
theorem b_X0_copyOther_50 {g : Nat} {Mf : Mem} {k3 : Int32 → Mem → Option Mem} {x1 : Int32} {x2 : Int32} {x3 : Int32} {x4 : Int32} {M : Mem} (hC : Cx p s m args c cX0_copyOther RX0 5 G) (hr : meth.sig.returnType = none) (hlk : meth.locks = false) (hg : g < 6) (hk3 : ∀ (x4 : Int32) (M : Mem), k3 x4 M = some Mf → V p l e (rmk 1) s m args below meth c 5 G 0 0 (MQ below (gQ G none Mf) args s 0 0 (gA G)) 3 [(0, .ref (adr G g 8)), (1, .int x1), (2, .int x2), (3, .int x3), (4, .int x4)] [] M) (h : B_X0_copyOther_50 g k3 x1 x2 x3 x4 M = some Mf) : V p l e (rmk 1) s m args below meth c 5 G 0 0 (MQ below (gQ G none Mf) args s 0 0 (gA G)) 50 [(0, .ref (adr G g 8)), (1, .int x1), (2, .int x2), (3, .int x3), (4, .int x4)] [] M := by
  refine V_iinc hC (x4 + 1) ([(4, .int (x4 + 1)), (0, .ref (adr G g 8)), (1, .int x1), (2, .int x2), (3, .int x3)]) dX0_copyOther_50 4 rfl rfl (by decide) rfl ?_
  refine V_goto hC 3 dX0_copyOther_53 (by decide) ?_
  refine V_sub [1, 2, 3, 4, 0] rfl ?_
  exact hk3 _ _ h
theorem l_X0_copyOther_3 {g : Nat} {Mf : Mem} {x1 : Int32} {x2 : Int32} {x3 : Int32} (hC : Cx p s m args c cX0_copyOther RX0 5 G) (hr : meth.sig.returnType = none) (hlk : meth.locks = false) (hg : g < 6) : ∀ (n : Nat) {x4 : Int32} {M : Mem} (h : L_X0_copyOther_3 g x1 x2 x3 n x4 M = some Mf), V p l e (rmk 1) s m args below meth c 5 G 0 0 (MQ below (gQ G none Mf) args s 0 0 (gA G)) 3 [(0, .ref (adr G g 8)), (1, .int x1), (2, .int x2), (3, .int x3), (4, .int x4)] [] M := by
  intro n
  induction n with
  | zero => intro x4 M h; cases h
  | succ n ih =>
    intro x4 M h
    have hk3 : ∀ (x4 : Int32) (M : Mem), L_X0_copyOther_3 g x1 x2 x3 n x4 M = some Mf → V p l e (rmk 1) s m args below meth c 5 G 0 0 (MQ below (gQ G none Mf) args s 0 0 (gA G)) 3 [(0, .ref (adr G g 8)), (1, .int x1), (2, .int x2), (3, .int x3), (4, .int x4)] [] M := fun _ _ z => ih z
    refine V_iload hC dX0_copyOther_3 4 rfl ?_
    refine V_bipush hC (120 : Int32) dX0_copyOther_5 (by decide) ?_
    refine V_icmp_ge hC 56 dX0_copyOther_7 (by decide) (fun c1 => ?_) (fun c1 => ?_)
    · have h := ite_t c1 h
      obtain rfl := Option.some.inj h
      exact V_vret hC hr hlk dX0_copyOther_56
    · have h := ite_f c1 h
      refine V_iload_n hC dX0_copyOther_10 rfl 2 rfl ?_
      refine V_iload hC dX0_copyOther_11 4 rfl ?_
      refine V_bipush hC (6 : Int32) dX0_copyOther_13 (by decide) ?_
      refine V_idiv hC dX0_copyOther_15 (by decide) ?_
      refine V_cSNr hC [.int x2, .int (x4 / (6 : Int32))] (c_X8_hasBit (l := l) hC.2.2.2.2.2.2.2 rfl) kd_X8_hasBit gw_505 nw_39 ⟨Nat.le_of_ble_eq_true rfl, Nat.le_of_ble_eq_true rfl⟩ rfl (Nat.le_of_ble_eq_true rfl) dX0_copyOther_16 ⟨Nat.zero_le _, Nat.zero_le _⟩ rfl ?_
      refine V_if_eq hC 50 dX0_copyOther_19 (by decide) (fun c3 => ?_) (fun c3 => ?_)
      · have h := ite_t c3 h
        exact b_X0_copyOther_50 hC hr hlk hg hk3 h
      · have h := ite_f c3 h
        refine V_aload_n hC dX0_copyOther_22 rfl 0 rfl ?_
        refine V_iload_n hC dX0_copyOther_23 rfl 1 rfl ?_
        refine V_iload hC dX0_copyOther_24 4 rfl ?_
        refine V_aload_n hC dX0_copyOther_26 rfl 0 rfl ?_
        refine V_iload_n hC dX0_copyOther_27 rfl 3 rfl ?_
        refine V_iload hC dX0_copyOther_28 4 rfl ?_
        obtain ⟨q4, e4, h⟩ := bind_some h
        refine V_cVr hC [.int x3, .int x4] (c_X0_baseAt (l := l) hC.2.2.2.2.2.2.2 hg e4) kd_X0_baseAt kv_X0_baseAt gw_681 (r_d8_0 hg).o rfl ⟨Nat.le_of_ble_eq_true rfl, Nat.le_of_ble_eq_true rfl⟩ rfl (Nat.le_of_ble_eq_true rfl) dX0_copyOther_30 ⟨Nat.zero_le _, Nat.zero_le _⟩ rfl ?_
        obtain ⟨q5, e5, h⟩ := bind_some h
        refine V_cVv hC [.int x1, .int x4, .int q4] (c_X0_setBase (l := l) hC.2.2.2.2.2.2.2 hg e5) kd_X0_setBase kv_X0_setBase gw_685 (r_d8_0 hg).o rfl ⟨Nat.le_of_ble_eq_true rfl, Nat.le_of_ble_eq_true rfl⟩ rfl (Nat.le_of_ble_eq_true rfl) dX0_copyOther_33 ⟨Nat.zero_le _, Nat.zero_le _⟩ rfl ?_
        refine V_aload_n hC dX0_copyOther_36 rfl 0 rfl ?_
        refine V_iload_n hC dX0_copyOther_37 rfl 1 rfl ?_
        refine V_iload hC dX0_copyOther_38 4 rfl ?_
        refine V_aload_n hC dX0_copyOther_40 rfl 0 rfl ?_
        refine V_iload_n hC dX0_copyOther_41 rfl 3 rfl ?_
        refine V_iload hC dX0_copyOther_42 4 rfl ?_
        obtain ⟨q6, e6, h⟩ := bind_some h
        refine V_cVr hC [.int x3, .int x4] (c_X0_ownAt (l := l) hC.2.2.2.2.2.2.2 hg e6) kd_X0_ownAt kv_X0_ownAt gw_689 (r_d8_0 hg).o rfl ⟨Nat.le_of_ble_eq_true rfl, Nat.le_of_ble_eq_true rfl⟩ rfl (Nat.le_of_ble_eq_true rfl) dX0_copyOther_44 ⟨Nat.zero_le _, Nat.zero_le _⟩ rfl ?_
        obtain ⟨q7, e7, h⟩ := bind_some h
        refine V_cVv hC [.int x1, .int x4, .int q6] (c_X0_setOwn (l := l) hC.2.2.2.2.2.2.2 hg e7) kd_X0_setOwn kv_X0_setOwn gw_693 (r_d8_0 hg).o rfl ⟨Nat.le_of_ble_eq_true rfl, Nat.le_of_ble_eq_true rfl⟩ rfl (Nat.le_of_ble_eq_true rfl) dX0_copyOther_47 ⟨Nat.zero_le _, Nat.zero_le _⟩ rfl ?_
        exact b_X0_copyOther_50 hC hr hlk hg hk3 h
theorem c_X0_copyOther {l : Launch} {G : Geo} {g : Nat} {x1 : Int32} {x2 : Int32} {x3 : Int32} {Mf : Mem} {M : Mem} (hG : gD G) (hg : g < 6) (h : f_X0_copyOther g x1 x2 x3 M = some Mf) : Met l yX0_copyOther (.code yX0_copyOther cX0_copyOther 5 none :: GL) (rmk 1) (gP G [.ref (adr G g 8), .int x1, .int x2, .int x3] M) (gQ G none Mf) 0 0 (gA G) := by
  refine Met_of (own := RX0) (L := [(0, .ref (adr G g 8)), (1, .int x1), (2, .int x2), (3, .int x3)]) hG (by decide +kernel) rfl (Nat.le_of_ble_eq_true rfl) rfl ?_
  intro p e s m args below meth c hC hr hlk
  refine V_iconst hC (0 : Int32) dX0_copyOther_0 (by decide) ?_
  refine V_istore hC ([(4, .int (0 : Int32)), (0, .ref (adr G g 8)), (1, .int x1), (2, .int x2), (3, .int x3)]) dX0_copyOther_1 (by decide) rfl ?_
  refine V_sub [1, 2, 3, 4, 0] rfl ?_
  exact l_X0_copyOther_3 hC hr hlk hg FU h
theorem c_X7_copyFrom {l : Launch} {G : Geo} {g : Nat} {g2 : Nat} {Mf : Mem} {M : Mem} (hG : gD G) (hg : g < 6) (hg2 : g2 < 6) (h : f_X7_copyFrom g g2 M = some Mf) : Met l yX7_copyFrom (.code yX7_copyFrom cX7_copyFrom 2 none :: GL) (rmk 3) (gP G [.ref (adr G g 1), .ref (adr G g2 1)] M) (gQ G none Mf) 0 0 (gA G) := by
  refine Met_of (own := RX7) (L := [(0, .ref (adr G g 1)), (1, .ref (adr G g2 1))]) hG (by decide +kernel) rfl (Nat.le_of_ble_eq_true rfl) rfl ?_
  intro p e s m args below meth c hC hr hlk
  refine V_aload_n hC dX7_copyFrom_0 rfl 1 rfl ?_
  refine V_getR hC (r_d1_0 hg2) fw_X7_9 dX7_copyFrom_1 ?_
  refine V_aload_n hC dX7_copyFrom_4 rfl 0 rfl ?_
  refine V_getR hC (r_d1_0 hg) fw_X7_9 dX7_copyFrom_5 ?_
  obtain ⟨q1, e1, h⟩ := bind_some h
  refine V_cSNv hC [.ref (adr G g2 2), .ref (adr G g 2)] (c_X8_copyRow (l := l) hC.2.2.2.2.2.2.2 (a_d2 hg2) (a_d2 hg) e1) kd_X8_copyRow gw_411 nw_23 ⟨Nat.le_of_ble_eq_true rfl, Nat.le_of_ble_eq_true rfl⟩ rfl (Nat.le_of_ble_eq_true rfl) dX7_copyFrom_8 ⟨Nat.zero_le _, Nat.zero_le _⟩ rfl ?_
  refine V_aload_n hC dX7_copyFrom_11 rfl 1 rfl ?_
  refine V_getR hC (r_d1_1 hg2) fw_X7_15 dX7_copyFrom_12 ?_
  refine V_aload_n hC dX7_copyFrom_15 rfl 0 rfl ?_
  refine V_getR hC (r_d1_1 hg) fw_X7_15 dX7_copyFrom_16 ?_
  obtain ⟨q2, e2, h⟩ := bind_some h
  refine V_cSNv hC [.ref (adr G g2 3), .ref (adr G g 3)] (c_X8_copyRow (l := l) hC.2.2.2.2.2.2.2 (a_d3 hg2) (a_d3 hg) e2) kd_X8_copyRow gw_411 nw_23 ⟨Nat.le_of_ble_eq_true rfl, Nat.le_of_ble_eq_true rfl⟩ rfl (Nat.le_of_ble_eq_true rfl) dX7_copyFrom_19 ⟨Nat.zero_le _, Nat.zero_le _⟩ rfl ?_
  refine V_aload_n hC dX7_copyFrom_22 rfl 1 rfl ?_
  refine V_getR hC (r_d1_2 hg2) fw_X7_18 dX7_copyFrom_23 ?_
  refine V_aload_n hC dX7_copyFrom_26 rfl 0 rfl ?_
  refine V_getR hC (r_d1_2 hg) fw_X7_18 dX7_copyFrom_27 ?_
  obtain ⟨q3, e3, h⟩ := bind_some h
  refine V_cSNv hC [.ref (adr G g2 4), .ref (adr G g 4)] (c_X8_copyRow (l := l) hC.2.2.2.2.2.2.2 (a_d4 hg2) (a_d4 hg) e3) kd_X8_copyRow gw_411 nw_23 ⟨Nat.le_of_ble_eq_true rfl, Nat.le_of_ble_eq_true rfl⟩ rfl (Nat.le_of_ble_eq_true rfl) dX7_copyFrom_30 ⟨Nat.zero_le _, Nat.zero_le _⟩ rfl ?_
  refine V_aload_n hC dX7_copyFrom_33 rfl 1 rfl ?_
  refine V_getR hC (r_d1_3 hg2) fw_X7_21 dX7_copyFrom_34 ?_
  refine V_aload_n hC dX7_copyFrom_37 rfl 0 rfl ?_
  refine V_getR hC (r_d1_3 hg) fw_X7_21 dX7_copyFrom_38 ?_
  obtain ⟨q4, e4, h⟩ := bind_some h
  refine V_cSNv hC [.ref (adr G g2 5), .ref (adr G g 5)] (c_X8_copyRow (l := l) hC.2.2.2.2.2.2.2 (a_d5 hg2) (a_d5 hg) e4) kd_X8_copyRow gw_411 nw_23 ⟨Nat.le_of_ble_eq_true rfl, Nat.le_of_ble_eq_true rfl⟩ rfl (Nat.le_of_ble_eq_true rfl) dX7_copyFrom_41 ⟨Nat.zero_le _, Nat.zero_le _⟩ rfl ?_
  refine V_aload_n hC dX7_copyFrom_44 rfl 1 rfl ?_
  refine V_getR hC (r_d1_4 hg2) fw_X7_24 dX7_copyFrom_45 ?_
  refine V_aload_n hC dX7_copyFrom_48 rfl 0 rfl ?_
  refine V_getR hC (r_d1_4 hg) fw_X7_24 dX7_copyFrom_49 ?_
  obtain ⟨q5, e5, h⟩ := bind_some h
  refine V_cSNv hC [.ref (adr G g2 6), .ref (adr G g 6)] (c_X8_copyRow (l := l) hC.2.2.2.2.2.2.2 (a_d6 hg2) (a_d6 hg) e5) kd_X8_copyRow gw_411 nw_23 ⟨Nat.le_of_ble_eq_true rfl, Nat.le_of_ble_eq_true rfl⟩ rfl (Nat.le_of_ble_eq_true rfl) dX7_copyFrom_52 ⟨Nat.zero_le _, Nat.zero_le _⟩ rfl ?_
  refine V_aload_n hC dX7_copyFrom_55 rfl 1 rfl ?_
  refine V_getR hC (r_d1_5 hg2) fw_X7_27 dX7_copyFrom_56 ?_
  refine V_aload_n hC dX7_copyFrom_59 rfl 0 rfl ?_
  refine V_getR hC (r_d1_5 hg) fw_X7_27 dX7_copyFrom_60 ?_
  obtain ⟨q6, e6, h⟩ := bind_some h
  refine V_cSNv hC [.ref (adr G g2 7), .ref (adr G g 7)] (c_X8_copyRow (l := l) hC.2.2.2.2.2.2.2 (a_d7 hg2) (a_d7 hg) e6) kd_X8_copyRow gw_411 nw_23 ⟨Nat.le_of_ble_eq_true rfl, Nat.le_of_ble_eq_true rfl⟩ rfl (Nat.le_of_ble_eq_true rfl) dX7_copyFrom_63 ⟨Nat.zero_le _, Nat.zero_le _⟩ rfl ?_
  refine V_aload_n hC dX7_copyFrom_66 rfl 0 rfl ?_
  refine V_aload_n hC dX7_copyFrom_67 rfl 1 rfl ?_
  refine V_getI hC (f_d1_6 hg2) fw_X7_36 dX7_copyFrom_68 ?_
  refine V_putI hC (f_d1_6 hg) fw_X7_36 flp_7_6 dX7_copyFrom_71 ?_
  obtain rfl := Option.some.inj h
  exact V_vret hC hr hlk dX7_copyFrom_74
theorem c_X5_copyFrom {l : Launch} {G : Geo} {g : Nat} {g2 : Nat} {Mf : Mem} {M : Mem} (hG : gD G) (hg : g < 6) (hg2 : g2 < 6) (h : f_X5_copyFrom g g2 M = some Mf) : Met l yX5_copyFrom (.code yX5_copyFrom cX5_copyFrom 2 none :: GL) (rmk 3) (gP G [.ref (adr G g 12), .ref (adr G g2 12)] M) (gQ G none Mf) 0 0 (gA G) := by
  refine Met_of (own := RX5) (L := [(0, .ref (adr G g 12)), (1, .ref (adr G g2 12))]) hG (by decide +kernel) rfl (Nat.le_of_ble_eq_true rfl) rfl ?_
  intro p e s m args below meth c hC hr hlk
  refine V_aload_n hC dX5_copyFrom_0 rfl 1 rfl ?_
  refine V_getR hC (r_d12_0 hg2) fw_X5_11 dX5_copyFrom_1 ?_
  refine V_aload_n hC dX5_copyFrom_4 rfl 0 rfl ?_
  refine V_getR hC (r_d12_0 hg) fw_X5_11 dX5_copyFrom_5 ?_
  obtain ⟨q1, e1, h⟩ := bind_some h
  refine V_cSNv hC [.ref (adr G g2 13), .ref (adr G g 13)] (c_X8_copyRow (l := l) hC.2.2.2.2.2.2.2 (a_d13 hg2) (a_d13 hg) e1) kd_X8_copyRow gw_411 nw_25 ⟨Nat.le_of_ble_eq_true rfl, Nat.le_of_ble_eq_true rfl⟩ rfl (Nat.le_of_ble_eq_true rfl) dX5_copyFrom_8 ⟨Nat.zero_le _, Nat.zero_le _⟩ rfl ?_
  refine V_aload_n hC dX5_copyFrom_11 rfl 0 rfl ?_
  refine V_aload_n hC dX5_copyFrom_12 rfl 1 rfl ?_
  refine V_getI hC (f_d12_1 hg2) fw_X5_19 dX5_copyFrom_13 ?_
  refine V_putI hC (f_d12_1 hg) fw_X5_19 flp_5_1 dX5_copyFrom_16 ?_
  obtain rfl := Option.some.inj h
  exact V_vret hC hr hlk dX5_copyFrom_19
theorem c_X2_copyFrom {l : Launch} {G : Geo} {g : Nat} {g2 : Nat} {Mf : Mem} {M : Mem} (hG : gD G) (hg : g < 6) (hg2 : g2 < 6) (h : f_X2_copyFrom g g2 M = some Mf) : Met l yX2_copyFrom (.code yX2_copyFrom cX2_copyFrom 2 none :: GL) (rmk 3) (gP G [.ref (adr G g 14), .ref (adr G g2 14)] M) (gQ G none Mf) 0 0 (gA G) := by
  refine Met_of (own := RX2) (L := [(0, .ref (adr G g 14)), (1, .ref (adr G g2 14))]) hG (by decide +kernel) rfl (Nat.le_of_ble_eq_true rfl) rfl ?_
  intro p e s m args below meth c hC hr hlk
  refine V_aload_n hC dX2_copyFrom_0 rfl 1 rfl ?_
  refine V_getR hC (r_d14_0 hg2) fw_X2_11 dX2_copyFrom_1 ?_
  refine V_aload_n hC dX2_copyFrom_4 rfl 0 rfl ?_
  refine V_getR hC (r_d14_0 hg) fw_X2_11 dX2_copyFrom_5 ?_
  obtain ⟨q1, e1, h⟩ := bind_some h
  refine V_cSNv hC [.ref (adr G g2 15), .ref (adr G g 15)] (c_X8_copyRow (l := l) hC.2.2.2.2.2.2.2 (a_d15 hg2) (a_d15 hg) e1) kd_X8_copyRow gw_411 nw_26 ⟨Nat.le_of_ble_eq_true rfl, Nat.le_of_ble_eq_true rfl⟩ rfl (Nat.le_of_ble_eq_true rfl) dX2_copyFrom_8 ⟨Nat.zero_le _, Nat.zero_le _⟩ rfl ?_
  refine V_aload_n hC dX2_copyFrom_11 rfl 0 rfl ?_
  refine V_aload_n hC dX2_copyFrom_12 rfl 1 rfl ?_
  refine V_getI hC (f_d14_1 hg2) fw_X2_19 dX2_copyFrom_13 ?_
  refine V_putI hC (f_d14_1 hg) fw_X2_19 flp_2_1 dX2_copyFrom_16 ?_
  refine V_aload_n hC dX2_copyFrom_19 rfl 0 rfl ?_
  refine V_aload_n hC dX2_copyFrom_20 rfl 1 rfl ?_
  refine V_getI hC (f_d14_2 hg2) fw_X2_23 dX2_copyFrom_21 ?_
  refine V_putI hC (f_d14_2 hg) fw_X2_23 flp_2_2 dX2_copyFrom_24 ?_
  obtain rfl := Option.some.inj h
  exact V_vret hC hr hlk dX2_copyFrom_27
theorem c_X1_copyFrom {l : Launch} {G : Geo} {g : Nat} {g2 : Nat} {Mf : Mem} {M : Mem} (hG : gD G) (hg : g < 6) (hg2 : g2 < 6) (h : f_X1_copyFrom g g2 M = some Mf) : Met l yX1_copyFrom (.code yX1_copyFrom cX1_copyFrom 2 none :: GL) (rmk 4) (gP G [.ref (adr G g 0), .ref (adr G g2 0)] M) (gQ G none Mf) 0 0 (gA G) := by
  refine Met_of (own := RX1) (L := [(0, .ref (adr G g 0)), (1, .ref (adr G g2 0))]) hG (by decide +kernel) rfl (Nat.le_of_ble_eq_true rfl) rfl ?_
  intro p e s m args below meth c hC hr hlk
  refine V_aload_n hC dX1_copyFrom_0 rfl 0 rfl ?_
  refine V_getR hC (r_d0_0 hg) fw_X1_12 dX1_copyFrom_1 ?_
  refine V_aload_n hC dX1_copyFrom_4 rfl 1 rfl ?_
  refine V_getR hC (r_d0_0 hg2) fw_X1_12 dX1_copyFrom_5 ?_
  obtain ⟨q1, e1, h⟩ := bind_some h
  refine V_cVv hC [.ref (adr G g2 1)] (c_X7_copyFrom (l := l) hC.2.2.2.2.2.2.2 hg hg2 e1) kd_X7_copyFrom kv_X7_copyFrom gw_406 (r_d1_0 hg).o rfl ⟨Nat.le_of_ble_eq_true rfl, Nat.le_of_ble_eq_true rfl⟩ rfl (Nat.le_of_ble_eq_true rfl) dX1_copyFrom_8 ⟨Nat.zero_le _, Nat.zero_le _⟩ rfl ?_
  refine V_aload_n hC dX1_copyFrom_11 rfl 0 rfl ?_
  refine V_getR hC (r_d0_1 hg) fw_X1_21 dX1_copyFrom_12 ?_
  refine V_aload_n hC dX1_copyFrom_15 rfl 1 rfl ?_
  refine V_getR hC (r_d0_1 hg2) fw_X1_21 dX1_copyFrom_16 ?_
  obtain ⟨q2, e2, h⟩ := bind_some h
  refine V_cVv hC [.ref (adr G g2 8)] (c_X0_copyFrom (l := l) hC.2.2.2.2.2.2.2 hg hg2 e2) kd_X0_copyFrom kv_X0_copyFrom gw_419 (r_d8_0 hg).o rfl ⟨Nat.le_of_ble_eq_true rfl, Nat.le_of_ble_eq_true rfl⟩ rfl (Nat.le_of_ble_eq_true rfl) dX1_copyFrom_19 ⟨Nat.zero_le _, Nat.zero_le _⟩ rfl ?_
  refine V_aload_n hC dX1_copyFrom_22 rfl 0 rfl ?_
  refine V_getR hC (r_d0_2 hg) fw_X1_28 dX1_copyFrom_23 ?_
  refine V_aload_n hC dX1_copyFrom_26 rfl 1 rfl ?_
  refine V_getR hC (r_d0_2 hg2) fw_X1_28 dX1_copyFrom_27 ?_
  obtain ⟨q3, e3, h⟩ := bind_some h
  refine V_cVv hC [.ref (adr G g2 12)] (c_X5_copyFrom (l := l) hC.2.2.2.2.2.2.2 hg hg2 e3) kd_X5_copyFrom kv_X5_copyFrom gw_424 (r_d12_0 hg).o rfl ⟨Nat.le_of_ble_eq_true rfl, Nat.le_of_ble_eq_true rfl⟩ rfl (Nat.le_of_ble_eq_true rfl) dX1_copyFrom_30 ⟨Nat.zero_le _, Nat.zero_le _⟩ rfl ?_
  refine V_aload_n hC dX1_copyFrom_33 rfl 0 rfl ?_
  refine V_getR hC (r_d0_3 hg) fw_X1_35 dX1_copyFrom_34 ?_
  refine V_aload_n hC dX1_copyFrom_37 rfl 1 rfl ?_
  refine V_getR hC (r_d0_3 hg2) fw_X1_35 dX1_copyFrom_38 ?_
  obtain ⟨q4, e4, h⟩ := bind_some h
  refine V_cVv hC [.ref (adr G g2 14)] (c_X2_copyFrom (l := l) hC.2.2.2.2.2.2.2 hg hg2 e4) kd_X2_copyFrom kv_X2_copyFrom gw_429 (r_d14_0 hg).o rfl ⟨Nat.le_of_ble_eq_true rfl, Nat.le_of_ble_eq_true rfl⟩ rfl (Nat.le_of_ble_eq_true rfl) dX1_copyFrom_41 ⟨Nat.zero_le _, Nat.zero_le _⟩ rfl ?_
  refine V_aload_n hC dX1_copyFrom_44 rfl 1 rfl ?_
  refine V_getR hC (r_d0_4 hg2) fw_X1_39 dX1_copyFrom_45 ?_
  refine V_aload_n hC dX1_copyFrom_48 rfl 0 rfl ?_
  refine V_getR hC (r_d0_4 hg) fw_X1_39 dX1_copyFrom_49 ?_
  obtain ⟨q5, e5, h⟩ := bind_some h
  refine V_cSNv hC [.ref (adr G g2 16), .ref (adr G g 16)] (c_X8_copyRow (l := l) hC.2.2.2.2.2.2.2 (a_d16 hg2) (a_d16 hg) e5) kd_X8_copyRow gw_411 nw_27 ⟨Nat.le_of_ble_eq_true rfl, Nat.le_of_ble_eq_true rfl⟩ rfl (Nat.le_of_ble_eq_true rfl) dX1_copyFrom_52 ⟨Nat.zero_le _, Nat.zero_le _⟩ rfl ?_
  refine V_aload_n hC dX1_copyFrom_55 rfl 0 rfl ?_
  refine V_aload_n hC dX1_copyFrom_56 rfl 1 rfl ?_
  refine V_getI hC (f_d0_6 hg2) fw_X1_63 dX1_copyFrom_57 ?_
  refine V_putI hC (f_d0_6 hg) fw_X1_63 flp_1_6 dX1_copyFrom_60 ?_
  obtain rfl := Option.some.inj h
  exact V_vret hC hr hlk dX1_copyFrom_63
theorem b_X5_fact_24 {g : Nat} {rv : Int32} {x1 : Int32} {x2 : Int32} {z0 : Int32} {M : Mem} (hC : Cx p s m args c cX5_fact RX5 4 G) (hr : meth.sig.returnType = some .int) (hlk : meth.locks = false) (hg : g < 6) (h : B_X5_fact_24 g x1 x2 z0 M = some rv) : V p l e (rmk 0) s m args below meth c 4 G 0 0 (MQ below (gQ G (some (.int rv)) M) args s 0 0 (gA G)) 24 [(0, .ref (adr G g 12)), (1, .int x1), (2, .int x2)] [.int z0] M := by
  refine V_istore_n hC ([(3, .int z0), (0, .ref (adr G g 12)), (1, .int x1), (2, .int x2)]) dX5_fact_24 rfl (by decide) rfl ?_
  refine V_iload_n hC dX5_fact_25 rfl 0 rfl ?_
  refine V_if_eq hC 42 dX5_fact_26 (by decide) (fun c2 => ?_) (fun c2 => ?_)
  · have h := ite_t c2 h
    refine V_iconst hC (0 : Int32) dX5_fact_42 (by decide) ?_
    obtain rfl := Option.some.inj h
    exact V_iret hC hr hlk dX5_fact_43
  · have h := ite_f c2 h
    refine V_aload_n hC dX5_fact_29 rfl 1 rfl ?_
    refine V_getR hC (r_d12_0 hg) fw_X5_11 dX5_fact_30 ?_
    refine V_iload_n hC dX5_fact_33 rfl 2 rfl ?_
    refine V_iconst hC (4 : Int32) dX5_fact_34 (by decide) ?_
    refine V_imul hC dX5_fact_35 ?_
    refine V_iload_n hC dX5_fact_36 rfl 3 rfl ?_
    refine V_iadd hC dX5_fact_37 ?_
    obtain ⟨c3, h⟩ := ite_some h
    refine V_iald hC (a_d13 hg) c3 dX5_fact_38 ?_
    refine V_goto hC 43 dX5_fact_39 (by decide) ?_
    obtain rfl := Option.some.inj h
    exact V_iret hC hr hlk dX5_fact_43
theorem b_X5_fact_23 {g : Nat} {rv : Int32} {x1 : Int32} {x2 : Int32} {M : Mem} (hC : Cx p s m args c cX5_fact RX5 4 G) (hr : meth.sig.returnType = some .int) (hlk : meth.locks = false) (hg : g < 6) (h : B_X5_fact_23 g x1 x2 M = some rv) : V p l e (rmk 0) s m args below meth c 4 G 0 0 (MQ below (gQ G (some (.int rv)) M) args s 0 0 (gA G)) 23 [(0, .ref (adr G g 12)), (1, .int x1), (2, .int x2)] [] M := by
  refine V_iconst hC (0 : Int32) dX5_fact_23 (by decide) ?_
  exact b_X5_fact_24 hC hr hlk hg h
theorem c_X5_fact {l : Launch} {G : Geo} {g : Nat} {x1 : Int32} {x2 : Int32} {rv : Int32} {M : Mem} (hG : gD G) (hg : g < 6) (h : f_X5_fact g x1 x2 M = some rv) : Met l yX5_fact (.code yX5_fact cX5_fact 4 (some .int) :: GL) (rmk 0) (gP G [.ref (adr G g 12), .int x1, .int x2] M) (gQ G (some (.int rv)) M) 0 0 (gA G) := by
  refine Met_of (own := RX5) (L := [(0, .ref (adr G g 12)), (1, .int x1), (2, .int x2)]) hG (by decide +kernel) rfl (Nat.le_of_ble_eq_true rfl) rfl ?_
  intro p e s m args below meth c hC hr hlk
  refine V_iload_n hC dX5_fact_0 rfl 1 rfl ?_
  refine V_if_lt hC 23 dX5_fact_1 (by decide) (fun c1 => ?_) (fun c1 => ?_)
  · have h := ite_t c1 h
    exact b_X5_fact_23 hC hr hlk hg h
  · have h := ite_f c1 h
    refine V_iload_n hC dX5_fact_4 rfl 1 rfl ?_
    refine V_bipush hC (8 : Int32) dX5_fact_5 (by decide) ?_
    refine V_icmp_ge hC 23 dX5_fact_7 (by decide) (fun c4 => ?_) (fun c4 => ?_)
    · have h := ite_t c4 h
      exact b_X5_fact_23 hC hr hlk hg h
    · have h := ite_f c4 h
      refine V_iload_n hC dX5_fact_10 rfl 2 rfl ?_
      refine V_if_lt hC 23 dX5_fact_11 (by decide) (fun c5 => ?_) (fun c5 => ?_)
      · have h := ite_t c5 h
        exact b_X5_fact_23 hC hr hlk hg h
      · have h := ite_f c5 h
        refine V_iload_n hC dX5_fact_14 rfl 2 rfl ?_
        refine V_iconst hC (4 : Int32) dX5_fact_15 (by decide) ?_
        refine V_icmp_ge hC 23 dX5_fact_16 (by decide) (fun c6 => ?_) (fun c6 => ?_)
        · have h := ite_t c6 h
          exact b_X5_fact_23 hC hr hlk hg h
        · have h := ite_f c6 h
          refine V_iconst hC (1 : Int32) dX5_fact_19 (by decide) ?_
          refine V_goto hC 24 dX5_fact_20 (by decide) ?_
          exact b_X5_fact_24 hC hr hlk hg h
theorem l_X5_tops_4 {g : Nat} {rv : Int32} {M : Mem} (hC : Cx p s m args c cX5_tops RX5 3 G) (hr : meth.sig.returnType = some .int) (hlk : meth.locks = false) (hg : g < 6) : ∀ (n : Nat) {x1 : Int32} {x2 : Int32} (h : L_X5_tops_4 g M n x1 x2 = some rv), V p l e (rmk 1) s m args below meth c 3 G 0 0 (MQ below (gQ G (some (.int rv)) M) args s 0 0 (gA G)) 4 [(0, .ref (adr G g 12)), (1, .int x1), (2, .int x2)] [] M := by
  intro n
  induction n with
  | zero => intro x1 x2 h; cases h
  | succ n ih =>
    intro x1 x2 h
    have hk4 : ∀ (x1 : Int32) (x2 : Int32), L_X5_tops_4 g M n x1 x2 = some rv → V p l e (rmk 1) s m args below meth c 3 G 0 0 (MQ below (gQ G (some (.int rv)) M) args s 0 0 (gA G)) 4 [(0, .ref (adr G g 12)), (1, .int x1), (2, .int x2)] [] M := fun _ _ z => ih z
    refine V_iload_n hC dX5_tops_4 rfl 2 rfl ?_
    refine V_aload_n hC dX5_tops_5 rfl 0 rfl ?_
    refine V_getI hC (f_d12_1 hg) fw_X5_19 dX5_tops_6 ?_
    refine V_icmp_ge hC 29 dX5_tops_9 (by decide) (fun c1 => ?_) (fun c1 => ?_)
    · have h := ite_t c1 h
      refine V_iload_n hC dX5_tops_29 rfl 1 rfl ?_
      obtain rfl := Option.some.inj h
      exact V_iret hC hr hlk dX5_tops_30
    · have h := ite_f c1 h
      refine V_iload_n hC dX5_tops_12 rfl 1 rfl ?_
      refine V_iconst hC (1 : Int32) dX5_tops_13 (by decide) ?_
      refine V_aload_n hC dX5_tops_14 rfl 0 rfl ?_
      refine V_iload_n hC dX5_tops_15 rfl 2 rfl ?_
      refine V_iconst hC (1 : Int32) dX5_tops_16 (by decide) ?_
      obtain ⟨q2, e2, h⟩ := bind_some h
      refine V_cVr hC [.int x2, .int (1 : Int32)] (c_X5_fact (l := l) hC.2.2.2.2.2.2.2 hg e2) kd_X5_fact kv_X5_fact gw_280 (r_d12_0 hg).o rfl ⟨Nat.le_of_ble_eq_true rfl, Nat.le_of_ble_eq_true rfl⟩ rfl (Nat.le_of_ble_eq_true rfl) dX5_tops_17 ⟨Nat.zero_le _, Nat.zero_le _⟩ rfl ?_
      refine V_ishl hC dX5_tops_20 ?_
      refine V_ior hC dX5_tops_21 ?_
      refine V_istore_n hC ([(1, .int (x1 ||| ((1 : Int32) <<< (q2 &&& 31)))), (0, .ref (adr G g 12)), (2, .int x2)]) dX5_tops_22 rfl (by decide) rfl ?_
      refine V_iinc hC (x2 + 1) ([(2, .int (x2 + 1)), (1, .int (x1 ||| ((1 : Int32) <<< (q2 &&& 31)))), (0, .ref (adr G g 12))]) dX5_tops_23 2 rfl rfl (by decide) rfl ?_
      refine V_goto hC 4 dX5_tops_26 (by decide) ?_
      refine V_sub [2, 1, 0] rfl ?_
      exact hk4 _ _ h
theorem c_X5_tops {l : Launch} {G : Geo} {g : Nat} {rv : Int32} {M : Mem} (hG : gD G) (hg : g < 6) (h : f_X5_tops g M = some rv) : Met l yX5_tops (.code yX5_tops cX5_tops 3 (some .int) :: GL) (rmk 1) (gP G [.ref (adr G g 12)] M) (gQ G (some (.int rv)) M) 0 0 (gA G) := by
  refine Met_of (own := RX5) (L := [(0, .ref (adr G g 12))]) hG (by decide +kernel) rfl (Nat.le_of_ble_eq_true rfl) rfl ?_
  intro p e s m args below meth c hC hr hlk
  refine V_iconst hC (0 : Int32) dX5_tops_0 (by decide) ?_
  refine V_istore_n hC ([(1, .int (0 : Int32)), (0, .ref (adr G g 12))]) dX5_tops_1 rfl (by decide) rfl ?_
  refine V_iconst hC (0 : Int32) dX5_tops_2 (by decide) ?_
  refine V_istore_n hC ([(2, .int (0 : Int32)), (1, .int (0 : Int32)), (0, .ref (adr G g 12))]) dX5_tops_3 rfl (by decide) rfl ?_
  refine V_sub [2, 1, 0] rfl ?_
  exact l_X5_tops_4 hC hr hlk hg FU h
theorem c_X1_claims {l : Launch} {G : Geo} {g : Nat} {rv : Int32} {M : Mem} (hG : gD G) (hg : g < 6) (h : f_X1_claims g M = some rv) : Met l yX1_claims (.code yX1_claims cX1_claims 1 (some .int) :: GL) (rmk 3) (gP G [.ref (adr G g 0)] M) (gQ G (some (.int rv)) M) 0 0 (gA G) := by
  refine Met_of (own := RX1) (L := [(0, .ref (adr G g 0))]) hG (by decide +kernel) rfl (Nat.le_of_ble_eq_true rfl) rfl ?_
  intro p e s m args below meth c hC hr hlk
  refine V_aload_n hC dX1_claims_0 rfl 0 rfl ?_
  refine V_getR hC (r_d0_1 hg) fw_X1_21 dX1_claims_1 ?_
  refine V_iconst hC (0 : Int32) dX1_claims_4 (by decide) ?_
  obtain ⟨q1, e1, h⟩ := bind_some h
  refine V_cVr hC [.int (0 : Int32)] (c_X0_tops (l := l) hC.2.2.2.2.2.2.2 hg e1) kd_X0_tops kv_X0_tops gw_260 (r_d8_0 hg).o rfl ⟨Nat.le_of_ble_eq_true rfl, Nat.le_of_ble_eq_true rfl⟩ rfl (Nat.le_of_ble_eq_true rfl) dX1_claims_5 ⟨Nat.zero_le _, Nat.zero_le _⟩ rfl ?_
  refine V_aload_n hC dX1_claims_8 rfl 0 rfl ?_
  refine V_getR hC (r_d0_2 hg) fw_X1_28 dX1_claims_9 ?_
  obtain ⟨q2, e2, h⟩ := bind_some h
  refine V_cVr hC [] (c_X5_tops (l := l) hC.2.2.2.2.2.2.2 hg e2) kd_X5_tops kv_X5_tops gw_276 (r_d12_0 hg).o rfl ⟨Nat.le_of_ble_eq_true rfl, Nat.le_of_ble_eq_true rfl⟩ rfl (Nat.le_of_ble_eq_true rfl) dX1_claims_12 ⟨Nat.zero_le _, Nat.zero_le _⟩ rfl ?_
  refine V_ior hC dX1_claims_15 ?_
  obtain rfl := Option.some.inj h
  exact V_iret hC hr hlk dX1_claims_16
theorem c_X7_lineageOf {l : Launch} {G : Geo} {g : Nat} {x1 : Int32} {rv : Int32} {M : Mem} (hG : gD G) (hg : g < 6) (h : f_X7_lineageOf g x1 M = some rv) : Met l yX7_lineageOf (.code yX7_lineageOf cX7_lineageOf 2 (some .int) :: GL) (rmk 0) (gP G [.ref (adr G g 1), .int x1] M) (gQ G (some (.int rv)) M) 0 0 (gA G) := by
  refine Met_of (own := RX7) (L := [(0, .ref (adr G g 1)), (1, .int x1)]) hG (by decide +kernel) rfl (Nat.le_of_ble_eq_true rfl) rfl ?_
  intro p e s m args below meth c hC hr hlk
  refine V_iload_n hC dX7_lineageOf_0 rfl 1 rfl ?_
  refine V_if_lt hC 19 dX7_lineageOf_1 (by decide) (fun c1 => ?_) (fun c1 => ?_)
  · have h := ite_t c1 h
    refine V_iconst hC (0 : Int32) dX7_lineageOf_19 (by decide) ?_
    obtain rfl := Option.some.inj h
    exact V_iret hC hr hlk dX7_lineageOf_20
  · have h := ite_f c1 h
    refine V_iload_n hC dX7_lineageOf_4 rfl 1 rfl ?_
    refine V_bipush hC (20 : Int32) dX7_lineageOf_5 (by decide) ?_
    refine V_icmp_ge hC 19 dX7_lineageOf_7 (by decide) (fun c2 => ?_) (fun c2 => ?_)
    · have h := ite_t c2 h
      refine V_iconst hC (0 : Int32) dX7_lineageOf_19 (by decide) ?_
      obtain rfl := Option.some.inj h
      exact V_iret hC hr hlk dX7_lineageOf_20
    · have h := ite_f c2 h
      refine V_aload_n hC dX7_lineageOf_10 rfl 0 rfl ?_
      refine V_getR hC (r_d1_5 hg) fw_X7_27 dX7_lineageOf_11 ?_
      refine V_iload_n hC dX7_lineageOf_14 rfl 1 rfl ?_
      obtain ⟨c3, h⟩ := ite_some h
      refine V_iald hC (a_d7 hg) c3 dX7_lineageOf_15 ?_
      refine V_goto hC 20 dX7_lineageOf_16 (by decide) ?_
      obtain rfl := Option.some.inj h
      exact V_iret hC hr hlk dX7_lineageOf_20
theorem c_X1_isCovered {l : Launch} {G : Geo} {g : Nat} {x1 : Int32} {rv : Int32} {M : Mem} (hG : gD G) (hg : g < 6) (h : f_X1_isCovered g x1 M = some rv) : Met l yX1_isCovered (.code yX1_isCovered cX1_isCovered 2 (some .boolean) :: GL) (rmk 4) (gP G [.ref (adr G g 0), .int x1] M) (gQ G (some (.int rv)) M) 0 0 (gA G) := by
  refine Met_of (own := RX1) (L := [(0, .ref (adr G g 0)), (1, .int x1)]) hG (by decide +kernel) rfl (Nat.le_of_ble_eq_true rfl) rfl ?_
  intro p e s m args below meth c hC hr hlk
  refine V_aload_n hC dX1_isCovered_0 rfl 0 rfl ?_
  obtain ⟨q1, e1, h⟩ := bind_some h
  refine V_cVr hC [] (c_X1_claims (l := l) hC.2.2.2.2.2.2.2 hg e1) kd_X1_claims kv_X1_claims gw_256 (r_d0_0 hg).o rfl ⟨Nat.le_of_ble_eq_true rfl, Nat.le_of_ble_eq_true rfl⟩ rfl (Nat.le_of_ble_eq_true rfl) dX1_isCovered_1 ⟨Nat.zero_le _, Nat.zero_le _⟩ rfl ?_
  refine V_aload_n hC dX1_isCovered_4 rfl 0 rfl ?_
  refine V_getR hC (r_d0_0 hg) fw_X1_12 dX1_isCovered_5 ?_
  refine V_iload_n hC dX1_isCovered_8 rfl 1 rfl ?_
  obtain ⟨q2, e2, h⟩ := bind_some h
  refine V_cVr hC [.int x1] (c_X7_lineageOf (l := l) hC.2.2.2.2.2.2.2 hg e2) kd_X7_lineageOf kv_X7_lineageOf gw_284 (r_d1_0 hg).o rfl ⟨Nat.le_of_ble_eq_true rfl, Nat.le_of_ble_eq_true rfl⟩ rfl (Nat.le_of_ble_eq_true rfl) dX1_isCovered_9 ⟨Nat.zero_le _, Nat.zero_le _⟩ rfl ?_
  refine V_iand hC dX1_isCovered_12 ?_
  refine V_if_eq hC 20 dX1_isCovered_13 (by decide) (fun c3 => ?_) (fun c3 => ?_)
  · have h := ite_t c3 h
    refine V_iconst hC (0 : Int32) dX1_isCovered_20 (by decide) ?_
    obtain rfl := Option.some.inj h
    exact V_zret hC hr hlk (Or.inl rfl) dX1_isCovered_21
  · have h := ite_f c3 h
    refine V_iconst hC (1 : Int32) dX1_isCovered_16 (by decide) ?_
    refine V_goto hC 21 dX1_isCovered_17 (by decide) ?_
    obtain rfl := Option.some.inj h
    exact V_zret hC hr hlk (Or.inr rfl) dX1_isCovered_21
theorem c_X7_subtreeOf {l : Launch} {G : Geo} {g : Nat} {x1 : Int32} {rv : Int32} {M : Mem} (hG : gD G) (hg : g < 6) (h : f_X7_subtreeOf g x1 M = some rv) : Met l yX7_subtreeOf (.code yX7_subtreeOf cX7_subtreeOf 2 (some .int) :: GL) (rmk 0) (gP G [.ref (adr G g 1), .int x1] M) (gQ G (some (.int rv)) M) 0 0 (gA G) := by
  refine Met_of (own := RX7) (L := [(0, .ref (adr G g 1)), (1, .int x1)]) hG (by decide +kernel) rfl (Nat.le_of_ble_eq_true rfl) rfl ?_
  intro p e s m args below meth c hC hr hlk
  refine V_iload_n hC dX7_subtreeOf_0 rfl 1 rfl ?_
  refine V_if_lt hC 19 dX7_subtreeOf_1 (by decide) (fun c1 => ?_) (fun c1 => ?_)
  · have h := ite_t c1 h
    refine V_iconst hC (0 : Int32) dX7_subtreeOf_19 (by decide) ?_
    obtain rfl := Option.some.inj h
    exact V_iret hC hr hlk dX7_subtreeOf_20
  · have h := ite_f c1 h
    refine V_iload_n hC dX7_subtreeOf_4 rfl 1 rfl ?_
    refine V_bipush hC (20 : Int32) dX7_subtreeOf_5 (by decide) ?_
    refine V_icmp_ge hC 19 dX7_subtreeOf_7 (by decide) (fun c2 => ?_) (fun c2 => ?_)
    · have h := ite_t c2 h
      refine V_iconst hC (0 : Int32) dX7_subtreeOf_19 (by decide) ?_
      obtain rfl := Option.some.inj h
      exact V_iret hC hr hlk dX7_subtreeOf_20
    · have h := ite_f c2 h
      refine V_aload_n hC dX7_subtreeOf_10 rfl 0 rfl ?_
      refine V_getR hC (r_d1_4 hg) fw_X7_24 dX7_subtreeOf_11 ?_
      refine V_iload_n hC dX7_subtreeOf_14 rfl 1 rfl ?_
      obtain ⟨c3, h⟩ := ite_some h
      refine V_iald hC (a_d6 hg) c3 dX7_subtreeOf_15 ?_
      refine V_goto hC 20 dX7_subtreeOf_16 (by decide) ?_
      obtain rfl := Option.some.inj h
      exact V_iret hC hr hlk dX7_subtreeOf_20
theorem c_X7_overlapOf {l : Launch} {G : Geo} {g : Nat} {x1 : Int32} {rv : Int32} {M : Mem} (hG : gD G) (hg : g < 6) (h : f_X7_overlapOf g x1 M = some rv) : Met l yX7_overlapOf (.code yX7_overlapOf cX7_overlapOf 2 (some .int) :: GL) (rmk 1) (gP G [.ref (adr G g 1), .int x1] M) (gQ G (some (.int rv)) M) 0 0 (gA G) := by
  refine Met_of (own := RX7) (L := [(0, .ref (adr G g 1)), (1, .int x1)]) hG (by decide +kernel) rfl (Nat.le_of_ble_eq_true rfl) rfl ?_
  intro p e s m args below meth c hC hr hlk
  refine V_aload_n hC dX7_overlapOf_0 rfl 0 rfl ?_
  refine V_iload_n hC dX7_overlapOf_1 rfl 1 rfl ?_
  obtain ⟨q1, e1, h⟩ := bind_some h
  refine V_cVr hC [.int x1] (c_X7_subtreeOf (l := l) hC.2.2.2.2.2.2.2 hg e1) kd_X7_subtreeOf kv_X7_subtreeOf gw_482 (r_d1_0 hg).o rfl ⟨Nat.le_of_ble_eq_true rfl, Nat.le_of_ble_eq_true rfl⟩ rfl (Nat.le_of_ble_eq_true rfl) dX7_overlapOf_2 ⟨Nat.zero_le _, Nat.zero_le _⟩ rfl ?_
  refine V_aload_n hC dX7_overlapOf_5 rfl 0 rfl ?_
  refine V_iload_n hC dX7_overlapOf_6 rfl 1 rfl ?_
  obtain ⟨q2, e2, h⟩ := bind_some h
  refine V_cVr hC [.int x1] (c_X7_lineageOf (l := l) hC.2.2.2.2.2.2.2 hg e2) kd_X7_lineageOf kv_X7_lineageOf gw_486 (r_d1_0 hg).o rfl ⟨Nat.le_of_ble_eq_true rfl, Nat.le_of_ble_eq_true rfl⟩ rfl (Nat.le_of_ble_eq_true rfl) dX7_overlapOf_7 ⟨Nat.zero_le _, Nat.zero_le _⟩ rfl ?_
  refine V_ior hC dX7_overlapOf_10 ?_
  obtain rfl := Option.some.inj h
  exact V_iret hC hr hlk dX7_overlapOf_11
theorem c_X1_isTouched {l : Launch} {G : Geo} {g : Nat} {x1 : Int32} {rv : Int32} {M : Mem} (hG : gD G) (hg : g < 6) (h : f_X1_isTouched g x1 M = some rv) : Met l yX1_isTouched (.code yX1_isTouched cX1_isTouched 2 (some .boolean) :: GL) (rmk 4) (gP G [.ref (adr G g 0), .int x1] M) (gQ G (some (.int rv)) M) 0 0 (gA G) := by
  refine Met_of (own := RX1) (L := [(0, .ref (adr G g 0)), (1, .int x1)]) hG (by decide +kernel) rfl (Nat.le_of_ble_eq_true rfl) rfl ?_
  intro p e s m args below meth c hC hr hlk
  refine V_aload_n hC dX1_isTouched_0 rfl 0 rfl ?_
  obtain ⟨q1, e1, h⟩ := bind_some h
  refine V_cVr hC [] (c_X1_claims (l := l) hC.2.2.2.2.2.2.2 hg e1) kd_X1_claims kv_X1_claims gw_256 (r_d0_0 hg).o rfl ⟨Nat.le_of_ble_eq_true rfl, Nat.le_of_ble_eq_true rfl⟩ rfl (Nat.le_of_ble_eq_true rfl) dX1_isTouched_1 ⟨Nat.zero_le _, Nat.zero_le _⟩ rfl ?_
  refine V_aload_n hC dX1_isTouched_4 rfl 0 rfl ?_
  refine V_getR hC (r_d0_0 hg) fw_X1_12 dX1_isTouched_5 ?_
  refine V_iload_n hC dX1_isTouched_8 rfl 1 rfl ?_
  obtain ⟨q2, e2, h⟩ := bind_some h
  refine V_cVr hC [.int x1] (c_X7_overlapOf (l := l) hC.2.2.2.2.2.2.2 hg e2) kd_X7_overlapOf kv_X7_overlapOf gw_478 (r_d1_0 hg).o rfl ⟨Nat.le_of_ble_eq_true rfl, Nat.le_of_ble_eq_true rfl⟩ rfl (Nat.le_of_ble_eq_true rfl) dX1_isTouched_9 ⟨Nat.zero_le _, Nat.zero_le _⟩ rfl ?_
  refine V_iand hC dX1_isTouched_12 ?_
  refine V_if_eq hC 20 dX1_isTouched_13 (by decide) (fun c3 => ?_) (fun c3 => ?_)
  · have h := ite_t c3 h
    refine V_iconst hC (0 : Int32) dX1_isTouched_20 (by decide) ?_
    obtain rfl := Option.some.inj h
    exact V_zret hC hr hlk (Or.inl rfl) dX1_isTouched_21
  · have h := ite_f c3 h
    refine V_iconst hC (1 : Int32) dX1_isTouched_16 (by decide) ?_
    refine V_goto hC 21 dX1_isTouched_17 (by decide) ?_
    obtain rfl := Option.some.inj h
    exact V_zret hC hr hlk (Or.inr rfl) dX1_isTouched_21
theorem c_X1_isHeldAround {l : Launch} {G : Geo} {g : Nat} {x1 : Int32} {rv : Int32} {M : Mem} (hG : gD G) (hg : g < 6) (h : f_X1_isHeldAround g x1 M = some rv) : Met l yX1_isHeldAround (.code yX1_isHeldAround cX1_isHeldAround 2 (some .boolean) :: GL) (rmk 3) (gP G [.ref (adr G g 0), .int x1] M) (gQ G (some (.int rv)) M) 0 0 (gA G) := by
  refine Met_of (own := RX1) (L := [(0, .ref (adr G g 0)), (1, .int x1)]) hG (by decide +kernel) rfl (Nat.le_of_ble_eq_true rfl) rfl ?_
  intro p e s m args below meth c hC hr hlk
  refine V_aload_n hC dX1_isHeldAround_0 rfl 0 rfl ?_
  refine V_getR hC (r_d0_1 hg) fw_X1_21 dX1_isHeldAround_1 ?_
  refine V_iconst hC (1 : Int32) dX1_isHeldAround_4 (by decide) ?_
  obtain ⟨q1, e1, h⟩ := bind_some h
  refine V_cVr hC [.int (1 : Int32)] (c_X0_tops (l := l) hC.2.2.2.2.2.2.2 hg e1) kd_X0_tops kv_X0_tops gw_260 (r_d8_0 hg).o rfl ⟨Nat.le_of_ble_eq_true rfl, Nat.le_of_ble_eq_true rfl⟩ rfl (Nat.le_of_ble_eq_true rfl) dX1_isHeldAround_5 ⟨Nat.zero_le _, Nat.zero_le _⟩ rfl ?_
  refine V_aload_n hC dX1_isHeldAround_8 rfl 0 rfl ?_
  refine V_getR hC (r_d0_0 hg) fw_X1_12 dX1_isHeldAround_9 ?_
  refine V_iload_n hC dX1_isHeldAround_12 rfl 1 rfl ?_
  obtain ⟨q2, e2, h⟩ := bind_some h
  refine V_cVr hC [.int x1] (c_X7_overlapOf (l := l) hC.2.2.2.2.2.2.2 hg e2) kd_X7_overlapOf kv_X7_overlapOf gw_478 (r_d1_0 hg).o rfl ⟨Nat.le_of_ble_eq_true rfl, Nat.le_of_ble_eq_true rfl⟩ rfl (Nat.le_of_ble_eq_true rfl) dX1_isHeldAround_13 ⟨Nat.zero_le _, Nat.zero_le _⟩ rfl ?_
  refine V_iand hC dX1_isHeldAround_16 ?_
  refine V_if_eq hC 24 dX1_isHeldAround_17 (by decide) (fun c3 => ?_) (fun c3 => ?_)
  · have h := ite_t c3 h
    refine V_iconst hC (0 : Int32) dX1_isHeldAround_24 (by decide) ?_
    obtain rfl := Option.some.inj h
    exact V_zret hC hr hlk (Or.inl rfl) dX1_isHeldAround_25
  · have h := ite_f c3 h
    refine V_iconst hC (1 : Int32) dX1_isHeldAround_20 (by decide) ?_
    refine V_goto hC 25 dX1_isHeldAround_21 (by decide) ?_
    obtain rfl := Option.some.inj h
    exact V_zret hC hr hlk (Or.inr rfl) dX1_isHeldAround_25
theorem c_X7_has {l : Launch} {G : Geo} {g : Nat} {x1 : Int32} {rv : Int32} {M : Mem} (hG : gD G) (hg : g < 6) (h : f_X7_has g x1 M = some rv) : Met l yX7_has (.code yX7_has cX7_has 2 (some .boolean) :: GL) (rmk 0) (gP G [.ref (adr G g 1), .int x1] M) (gQ G (some (.int rv)) M) 0 0 (gA G) := by
  refine Met_of (own := RX7) (L := [(0, .ref (adr G g 1)), (1, .int x1)]) hG (by decide +kernel) rfl (Nat.le_of_ble_eq_true rfl) rfl ?_
  intro p e s m args below meth c hC hr hlk
  refine V_iload_n hC dX7_has_0 rfl 1 rfl ?_
  refine V_if_lt hC 25 dX7_has_1 (by decide) (fun c1 => ?_) (fun c1 => ?_)
  · have h := ite_t c1 h
    refine V_iconst hC (0 : Int32) dX7_has_25 (by decide) ?_
    obtain rfl := Option.some.inj h
    exact V_zret hC hr hlk (Or.inl rfl) dX7_has_26
  · have h := ite_f c1 h
    refine V_iload_n hC dX7_has_4 rfl 1 rfl ?_
    refine V_bipush hC (20 : Int32) dX7_has_5 (by decide) ?_
    refine V_icmp_ge hC 25 dX7_has_7 (by decide) (fun c2 => ?_) (fun c2 => ?_)
    · have h := ite_t c2 h
      refine V_iconst hC (0 : Int32) dX7_has_25 (by decide) ?_
      obtain rfl := Option.some.inj h
      exact V_zret hC hr hlk (Or.inl rfl) dX7_has_26
    · have h := ite_f c2 h
      refine V_aload_n hC dX7_has_10 rfl 0 rfl ?_
      refine V_getR hC (r_d1_0 hg) fw_X7_9 dX7_has_11 ?_
      refine V_iload_n hC dX7_has_14 rfl 1 rfl ?_
      obtain ⟨c3, h⟩ := ite_some h
      refine V_iald hC (a_d2 hg) c3 dX7_has_15 ?_
      refine V_bipush hC ((-2) : Int32) dX7_has_16 (by decide) ?_
      refine V_icmp_eq hC 25 dX7_has_18 (by decide) (fun c4 => ?_) (fun c4 => ?_)
      · have h := ite_t c4 h
        refine V_iconst hC (0 : Int32) dX7_has_25 (by decide) ?_
        obtain rfl := Option.some.inj h
        exact V_zret hC hr hlk (Or.inl rfl) dX7_has_26
      · have h := ite_f c4 h
        refine V_iconst hC (1 : Int32) dX7_has_21 (by decide) ?_
        refine V_goto hC 26 dX7_has_22 (by decide) ?_
        obtain rfl := Option.some.inj h
        exact V_zret hC hr hlk (Or.inr rfl) dX7_has_26
theorem c_X8_faultOf {l : Launch} {G : Geo} {x0 : Int32} {x1 : Int32} {x2 : Int32} {rv : Int32} {M : Mem} (hG : gD G) (h : f_X8_faultOf x0 x1 x2 = rv) : Met l yX8_faultOf (.code yX8_faultOf cX8_faultOf 3 (some .int) :: GL) (rmk 0) (gP G [.int x0, .int x1, .int x2] M) (gQ G (some (.int rv)) M) 0 0 (gA G) := by
  refine Met_of (own := RX8) (L := [(0, .int x0), (1, .int x1), (2, .int x2)]) hG (by decide +kernel) rfl (Nat.le_of_ble_eq_true rfl) rfl ?_
  intro p e s m args below meth c hC hr hlk
  refine V_iload_n hC dX8_faultOf_0 rfl 0 rfl ?_
  refine V_if_ne hC 6 dX8_faultOf_1 (by decide) (fun c1 => ?_) (fun c1 => ?_)
  · have h := ite_f c1 h
    refine V_iload_n hC dX8_faultOf_6 rfl 1 rfl ?_
    refine V_if_ne hC 12 dX8_faultOf_7 (by decide) (fun c2 => ?_) (fun c2 => ?_)
    · have h := ite_f c2 h
      refine V_iload_n hC dX8_faultOf_12 rfl 2 rfl ?_
      refine V_if_eq hC 20 dX8_faultOf_13 (by decide) (fun c3 => ?_) (fun c3 => ?_)
      · have h := ite_t c3 h
        refine V_iconst hC (3 : Int32) dX8_faultOf_20 (by decide) ?_
        obtain rfl := id h
        exact V_iret hC hr hlk dX8_faultOf_21
      · have h := ite_f c3 h
        refine V_iconst hC (0 : Int32) dX8_faultOf_16 (by decide) ?_
        refine V_goto hC 21 dX8_faultOf_17 (by decide) ?_
        obtain rfl := id h
        exact V_iret hC hr hlk dX8_faultOf_21
    · have h := ite_t c2 h
      refine V_iconst hC (2 : Int32) dX8_faultOf_10 (by decide) ?_
      obtain rfl := id h
      exact V_iret hC hr hlk dX8_faultOf_11
  · have h := ite_t c1 h
    refine V_iconst hC (1 : Int32) dX8_faultOf_4 (by decide) ?_
    obtain rfl := id h
    exact V_iret hC hr hlk dX8_faultOf_5
theorem b_X1_addFault_34 {g : Nat} {rv : Int32} {z0 : Int32} {z1 : Int32} {z2 : Int32} {M : Mem} (hC : Cx p s m args c cX1_addFault RX1 2 G) (hr : meth.sig.returnType = some .int) (hlk : meth.locks = false) (hg : g < 6) (h : B_X1_addFault_34 g z0 z1 z2 M = some rv) : V p l e (rmk 5) s m args below meth c 2 G 0 0 (MQ below (gQ G (some (.int rv)) M) args s 0 0 (gA G)) 34 [] [.int z0, .int z1, .int z2] M := by
  refine V_cSNr hC [.int z2, .int z1, .int z0] (c_X8_faultOf (l := l) hC.2.2.2.2.2.2.2 rfl) kd_X8_faultOf gw_289 nw_22 ⟨Nat.le_of_ble_eq_true rfl, Nat.le_of_ble_eq_true rfl⟩ rfl (Nat.le_of_ble_eq_true rfl) dX1_addFault_34 ⟨Nat.zero_le _, Nat.zero_le _⟩ rfl ?_
  obtain rfl := Option.some.inj h
  exact V_iret hC hr hlk dX1_addFault_37
theorem b_X1_addFault_33 {g : Nat} {rv : Int32} {z0 : Int32} {z1 : Int32} {M : Mem} (hC : Cx p s m args c cX1_addFault RX1 2 G) (hr : meth.sig.returnType = some .int) (hlk : meth.locks = false) (hg : g < 6) (h : B_X1_addFault_33 g z0 z1 M = some rv) : V p l e (rmk 5) s m args below meth c 2 G 0 0 (MQ below (gQ G (some (.int rv)) M) args s 0 0 (gA G)) 33 [] [.int z0, .int z1] M := by
  refine V_iconst hC (0 : Int32) dX1_addFault_33 (by decide) ?_
  exact b_X1_addFault_34 hC hr hlk hg h
theorem c_X1_addFault {l : Launch} {G : Geo} {g : Nat} {x1 : Int32} {rv : Int32} {M : Mem} (hG : gD G) (hg : g < 6) (h : f_X1_addFault g x1 M = some rv) : Met l yX1_addFault (.code yX1_addFault cX1_addFault 2 (some .int) :: GL) (rmk 5) (gP G [.ref (adr G g 0), .int x1] M) (gQ G (some (.int rv)) M) 0 0 (gA G) := by
  refine Met_of (own := RX1) (L := [(0, .ref (adr G g 0)), (1, .int x1)]) hG (by decide +kernel) rfl (Nat.le_of_ble_eq_true rfl) rfl ?_
  intro p e s m args below meth c hC hr hlk
  refine V_aload_n hC dX1_addFault_0 rfl 0 rfl ?_
  refine V_getR hC (r_d0_0 hg) fw_X1_12 dX1_addFault_1 ?_
  refine V_iload_n hC dX1_addFault_4 rfl 1 rfl ?_
  obtain ⟨q1, e1, h⟩ := bind_some h
  refine V_cVr hC [.int x1] (c_X7_has (l := l) hC.2.2.2.2.2.2.2 hg e1) kd_X7_has kv_X7_has gw_248 (r_d1_0 hg).o rfl ⟨Nat.le_of_ble_eq_true rfl, Nat.le_of_ble_eq_true rfl⟩ rfl (Nat.le_of_ble_eq_true rfl) dX1_addFault_5 ⟨Nat.zero_le _, Nat.zero_le _⟩ rfl ?_
  refine V_iconst hC (1 : Int32) dX1_addFault_8 (by decide) ?_
  refine V_aload_n hC dX1_addFault_9 rfl 0 rfl ?_
  refine V_getR hC (r_d0_0 hg) fw_X1_12 dX1_addFault_10 ?_
  refine V_getI hC (f_d1_6 hg) fw_X1_88 dX1_addFault_13 ?_
  refine V_bipush hC (20 : Int32) dX1_addFault_16 (by decide) ?_
  refine V_icmp_ge hC 33 dX1_addFault_18 (by decide) (fun c2 => ?_) (fun c2 => ?_)
  · have h := ite_t c2 h
    refine V_sub [] rfl ?_
    exact b_X1_addFault_33 hC hr hlk hg h
  · have h := ite_f c2 h
    refine V_aload_n hC dX1_addFault_21 rfl 0 rfl ?_
    refine V_iload_n hC dX1_addFault_22 rfl 1 rfl ?_
    obtain ⟨q4, e4, h⟩ := bind_some h
    refine V_cVr hC [.int x1] (c_X1_isCovered (l := l) hC.2.2.2.2.2.2.2 hg e4) kd_X1_isCovered kv_X1_isCovered gw_252 (r_d0_0 hg).o rfl ⟨Nat.le_of_ble_eq_true rfl, Nat.le_of_ble_eq_true rfl⟩ rfl (Nat.le_of_ble_eq_true rfl) dX1_addFault_23 ⟨Nat.zero_le _, Nat.zero_le _⟩ rfl ?_
    refine V_if_ne hC 33 dX1_addFault_26 (by decide) (fun c5 => ?_) (fun c5 => ?_)
    · have h := ite_f c5 h
      refine V_sub [] rfl ?_
      exact b_X1_addFault_33 hC hr hlk hg h
    · have h := ite_t c5 h
      refine V_iconst hC (1 : Int32) dX1_addFault_29 (by decide) ?_
      refine V_goto hC 34 dX1_addFault_30 (by decide) ?_
      refine V_sub [] rfl ?_
      exact b_X1_addFault_34 hC hr hlk hg h
theorem b_X1_removeFault_30 {g : Nat} {rv : Int32} {z0 : Int32} {z1 : Int32} {z2 : Int32} {M : Mem} (hC : Cx p s m args c cX1_removeFault RX1 2 G) (hr : meth.sig.returnType = some .int) (hlk : meth.locks = false) (hg : g < 6) (h : B_X1_removeFault_30 g z0 z1 z2 M = some rv) : V p l e (rmk 5) s m args below meth c 2 G 0 0 (MQ below (gQ G (some (.int rv)) M) args s 0 0 (gA G)) 30 [] [.int z0, .int z1, .int z2] M := by
  refine V_cSNr hC [.int z2, .int z1, .int z0] (c_X8_faultOf (l := l) hC.2.2.2.2.2.2.2 rfl) kd_X8_faultOf gw_289 nw_22 ⟨Nat.le_of_ble_eq_true rfl, Nat.le_of_ble_eq_true rfl⟩ rfl (Nat.le_of_ble_eq_true rfl) dX1_removeFault_30 ⟨Nat.zero_le _, Nat.zero_le _⟩ rfl ?_
  obtain rfl := Option.some.inj h
  exact V_iret hC hr hlk dX1_removeFault_33
theorem b_X1_removeFault_17 {g : Nat} {rv : Int32} {x1 : Int32} {z0 : Int32} {z1 : Int32} {M : Mem} (hC : Cx p s m args c cX1_removeFault RX1 2 G) (hr : meth.sig.returnType = some .int) (hlk : meth.locks = false) (hg : g < 6) (h : B_X1_removeFault_17 g x1 z0 z1 M = some rv) : V p l e (rmk 5) s m args below meth c 2 G 0 0 (MQ below (gQ G (some (.int rv)) M) args s 0 0 (gA G)) 17 [(0, .ref (adr G g 0)), (1, .int x1)] [.int z0, .int z1] M := by
  refine V_aload_n hC dX1_removeFault_17 rfl 0 rfl ?_
  refine V_iload_n hC dX1_removeFault_18 rfl 1 rfl ?_
  obtain ⟨q3, e3, h⟩ := bind_some h
  refine V_cVr hC [.int x1] (c_X1_isTouched (l := l) hC.2.2.2.2.2.2.2 hg e3) kd_X1_isTouched kv_X1_isTouched gw_474 (r_d0_0 hg).o rfl ⟨Nat.le_of_ble_eq_true rfl, Nat.le_of_ble_eq_true rfl⟩ rfl (Nat.le_of_ble_eq_true rfl) dX1_removeFault_19 ⟨Nat.zero_le _, Nat.zero_le _⟩ rfl ?_
  refine V_if_ne hC 29 dX1_removeFault_22 (by decide) (fun c4 => ?_) (fun c4 => ?_)
  · have h := ite_f c4 h
    refine V_iconst hC (0 : Int32) dX1_removeFault_29 (by decide) ?_
    refine V_sub [] rfl ?_
    exact b_X1_removeFault_30 hC hr hlk hg h
  · have h := ite_t c4 h
    refine V_iconst hC (1 : Int32) dX1_removeFault_25 (by decide) ?_
    refine V_goto hC 30 dX1_removeFault_26 (by decide) ?_
    refine V_sub [] rfl ?_
    exact b_X1_removeFault_30 hC hr hlk hg h
theorem c_X1_removeFault {l : Launch} {G : Geo} {g : Nat} {x1 : Int32} {rv : Int32} {M : Mem} (hG : gD G) (hg : g < 6) (h : f_X1_removeFault g x1 M = some rv) : Met l yX1_removeFault (.code yX1_removeFault cX1_removeFault 2 (some .int) :: GL) (rmk 5) (gP G [.ref (adr G g 0), .int x1] M) (gQ G (some (.int rv)) M) 0 0 (gA G) := by
  refine Met_of (own := RX1) (L := [(0, .ref (adr G g 0)), (1, .int x1)]) hG (by decide +kernel) rfl (Nat.le_of_ble_eq_true rfl) rfl ?_
  intro p e s m args below meth c hC hr hlk
  refine V_aload_n hC dX1_removeFault_0 rfl 0 rfl ?_
  refine V_getR hC (r_d0_0 hg) fw_X1_12 dX1_removeFault_1 ?_
  refine V_iload_n hC dX1_removeFault_4 rfl 1 rfl ?_
  obtain ⟨q1, e1, h⟩ := bind_some h
  refine V_cVr hC [.int x1] (c_X7_has (l := l) hC.2.2.2.2.2.2.2 hg e1) kd_X7_has kv_X7_has gw_248 (r_d1_0 hg).o rfl ⟨Nat.le_of_ble_eq_true rfl, Nat.le_of_ble_eq_true rfl⟩ rfl (Nat.le_of_ble_eq_true rfl) dX1_removeFault_5 ⟨Nat.zero_le _, Nat.zero_le _⟩ rfl ?_
  refine V_iload_n hC dX1_removeFault_8 rfl 1 rfl ?_
  refine V_if_eq hC 16 dX1_removeFault_9 (by decide) (fun c2 => ?_) (fun c2 => ?_)
  · have h := ite_t c2 h
    refine V_iconst hC (0 : Int32) dX1_removeFault_16 (by decide) ?_
    exact b_X1_removeFault_17 hC hr hlk hg h
  · have h := ite_f c2 h
    refine V_iconst hC (1 : Int32) dX1_removeFault_12 (by decide) ?_
    refine V_goto hC 17 dX1_removeFault_13 (by decide) ?_
    exact b_X1_removeFault_17 hC hr hlk hg h
theorem b_X2_indexOf_26 {g : Nat} {rv : Int32} {x1 : Int32} {x2 : Int32} {z0 : Int32} {M : Mem} (hC : Cx p s m args c cX2_indexOf RX2 4 G) (hr : meth.sig.returnType = some .int) (hlk : meth.locks = false) (hg : g < 6) (h : B_X2_indexOf_26 g x1 x2 z0 M = rv) : V p l e (rmk 0) s m args below meth c 4 G 0 0 (MQ below (gQ G (some (.int rv)) M) args s 0 0 (gA G)) 26 [(0, .ref (adr G g 14)), (1, .int x1), (2, .int x2)] [.int z0] M := by
  refine V_istore_n hC ([(3, .int z0), (0, .ref (adr G g 14)), (1, .int x1), (2, .int x2)]) dX2_indexOf_26 rfl (by decide) rfl ?_
  refine V_iload_n hC dX2_indexOf_27 rfl 0 rfl ?_
  refine V_if_eq hC 49 dX2_indexOf_28 (by decide) (fun c2 => ?_) (fun c2 => ?_)
  · have h := ite_t c2 h
    refine V_iconst hC ((-1) : Int32) dX2_indexOf_49 (by decide) ?_
    obtain rfl := id h
    exact V_iret hC hr hlk dX2_indexOf_50
  · have h := ite_f c2 h
    refine V_aload_n hC dX2_indexOf_31 rfl 1 rfl ?_
    refine V_getI hC (f_d14_1 hg) fw_X2_19 dX2_indexOf_32 ?_
    refine V_iload_n hC dX2_indexOf_35 rfl 2 rfl ?_
    refine V_iadd hC dX2_indexOf_36 ?_
    refine V_sipush hC (150 : Int32) dX2_indexOf_37 (by decide) ?_
    refine V_irem hC dX2_indexOf_40 (by decide) ?_
    refine V_bipush hC (6 : Int32) dX2_indexOf_41 (by decide) ?_
    refine V_imul hC dX2_indexOf_43 ?_
    refine V_iload_n hC dX2_indexOf_44 rfl 3 rfl ?_
    refine V_iadd hC dX2_indexOf_45 ?_
    refine V_goto hC 50 dX2_indexOf_46 (by decide) ?_
    obtain rfl := id h
    exact V_iret hC hr hlk dX2_indexOf_50
theorem b_X2_indexOf_25 {g : Nat} {rv : Int32} {x1 : Int32} {x2 : Int32} {M : Mem} (hC : Cx p s m args c cX2_indexOf RX2 4 G) (hr : meth.sig.returnType = some .int) (hlk : meth.locks = false) (hg : g < 6) (h : B_X2_indexOf_25 g x1 x2 M = rv) : V p l e (rmk 0) s m args below meth c 4 G 0 0 (MQ below (gQ G (some (.int rv)) M) args s 0 0 (gA G)) 25 [(0, .ref (adr G g 14)), (1, .int x1), (2, .int x2)] [] M := by
  refine V_iconst hC (0 : Int32) dX2_indexOf_25 (by decide) ?_
  exact b_X2_indexOf_26 hC hr hlk hg h
theorem c_X2_indexOf {l : Launch} {G : Geo} {g : Nat} {x1 : Int32} {x2 : Int32} {rv : Int32} {M : Mem} (hG : gD G) (hg : g < 6) (h : f_X2_indexOf g x1 x2 M = rv) : Met l yX2_indexOf (.code yX2_indexOf cX2_indexOf 4 (some .int) :: GL) (rmk 0) (gP G [.ref (adr G g 14), .int x1, .int x2] M) (gQ G (some (.int rv)) M) 0 0 (gA G) := by
  refine Met_of (own := RX2) (L := [(0, .ref (adr G g 14)), (1, .int x1), (2, .int x2)]) hG (by decide +kernel) rfl (Nat.le_of_ble_eq_true rfl) rfl ?_
  intro p e s m args below meth c hC hr hlk
  refine V_iload_n hC dX2_indexOf_0 rfl 1 rfl ?_
  refine V_if_lt hC 25 dX2_indexOf_1 (by decide) (fun c1 => ?_) (fun c1 => ?_)
  · have h := ite_t c1 h
    exact b_X2_indexOf_25 hC hr hlk hg h
  · have h := ite_f c1 h
    refine V_iload_n hC dX2_indexOf_4 rfl 1 rfl ?_
    refine V_sipush hC (150 : Int32) dX2_indexOf_5 (by decide) ?_
    refine V_icmp_ge hC 25 dX2_indexOf_8 (by decide) (fun c3 => ?_) (fun c3 => ?_)
    · have h := ite_t c3 h
      exact b_X2_indexOf_25 hC hr hlk hg h
    · have h := ite_f c3 h
      refine V_iload_n hC dX2_indexOf_11 rfl 2 rfl ?_
      refine V_if_lt hC 25 dX2_indexOf_12 (by decide) (fun c4 => ?_) (fun c4 => ?_)
      · have h := ite_t c4 h
        exact b_X2_indexOf_25 hC hr hlk hg h
      · have h := ite_f c4 h
        refine V_iload_n hC dX2_indexOf_15 rfl 2 rfl ?_
        refine V_bipush hC (6 : Int32) dX2_indexOf_16 (by decide) ?_
        refine V_icmp_ge hC 25 dX2_indexOf_18 (by decide) (fun c5 => ?_) (fun c5 => ?_)
        · have h := ite_t c5 h
          exact b_X2_indexOf_25 hC hr hlk hg h
        · have h := ite_f c5 h
          refine V_iconst hC (1 : Int32) dX2_indexOf_21 (by decide) ?_
          refine V_goto hC 26 dX2_indexOf_22 (by decide) ?_
          exact b_X2_indexOf_26 hC hr hlk hg h
theorem c_X2_fact {l : Launch} {G : Geo} {g : Nat} {x1 : Int32} {x2 : Int32} {rv : Int32} {M : Mem} (hG : gD G) (hg : g < 6) (h : f_X2_fact g x1 x2 M = some rv) : Met l yX2_fact (.code yX2_fact cX2_fact 4 (some .int) :: GL) (rmk 1) (gP G [.ref (adr G g 14), .int x1, .int x2] M) (gQ G (some (.int rv)) M) 0 0 (gA G) := by
  refine Met_of (own := RX2) (L := [(0, .ref (adr G g 14)), (1, .int x1), (2, .int x2)]) hG (by decide +kernel) rfl (Nat.le_of_ble_eq_true rfl) rfl ?_
  intro p e s m args below meth c hC hr hlk
  refine V_aload_n hC dX2_fact_0 rfl 0 rfl ?_
  refine V_iload_n hC dX2_fact_1 rfl 1 rfl ?_
  refine V_iload_n hC dX2_fact_2 rfl 2 rfl ?_
  refine V_cVr hC [.int x1, .int x2] (c_X2_indexOf (l := l) hC.2.2.2.2.2.2.2 hg rfl) kd_X2_indexOf kv_X2_indexOf gw_500 (r_d14_0 hg).o rfl ⟨Nat.le_of_ble_eq_true rfl, Nat.le_of_ble_eq_true rfl⟩ rfl (Nat.le_of_ble_eq_true rfl) dX2_fact_3 ⟨Nat.zero_le _, Nat.zero_le _⟩ rfl ?_
  refine V_istore_n hC ([(3, .int (f_X2_indexOf g x1 x2 M)), (0, .ref (adr G g 14)), (1, .int x1), (2, .int x2)]) dX2_fact_6 rfl (by decide) rfl ?_
  refine V_iload_n hC dX2_fact_7 rfl 0 rfl ?_
  refine V_if_lt hC 27 dX2_fact_8 (by decide) (fun c2 => ?_) (fun c2 => ?_)
  · have h := ite_t c2 h
    refine V_iconst hC (0 : Int32) dX2_fact_27 (by decide) ?_
    obtain rfl := Option.some.inj h
    exact V_iret hC hr hlk dX2_fact_28
  · have h := ite_f c2 h
    refine V_iload_n hC dX2_fact_11 rfl 0 rfl ?_
    refine V_sipush hC (900 : Int32) dX2_fact_12 (by decide) ?_
    refine V_icmp_ge hC 27 dX2_fact_15 (by decide) (fun c3 => ?_) (fun c3 => ?_)
    · have h := ite_t c3 h
      refine V_iconst hC (0 : Int32) dX2_fact_27 (by decide) ?_
      obtain rfl := Option.some.inj h
      exact V_iret hC hr hlk dX2_fact_28
    · have h := ite_f c3 h
      refine V_aload_n hC dX2_fact_18 rfl 1 rfl ?_
      refine V_getR hC (r_d14_0 hg) fw_X2_11 dX2_fact_19 ?_
      refine V_iload_n hC dX2_fact_22 rfl 0 rfl ?_
      obtain ⟨c4, h⟩ := ite_some h
      refine V_iald hC (a_d15 hg) c4 dX2_fact_23 ?_
      refine V_goto hC 28 dX2_fact_24 (by decide) ?_
      obtain rfl := Option.some.inj h
      exact V_iret hC hr hlk dX2_fact_28
theorem c_X2_setFact {l : Launch} {G : Geo} {g : Nat} {x1 : Int32} {x2 : Int32} {x3 : Int32} {Mf : Mem} {M : Mem} (hG : gD G) (hg : g < 6) (h : f_X2_setFact g x1 x2 x3 M = some Mf) : Met l yX2_setFact (.code yX2_setFact cX2_setFact 5 none :: GL) (rmk 1) (gP G [.ref (adr G g 14), .int x1, .int x2, .int x3] M) (gQ G none Mf) 0 0 (gA G) := by
  refine Met_of (own := RX2) (L := [(0, .ref (adr G g 14)), (1, .int x1), (2, .int x2), (3, .int x3)]) hG (by decide +kernel) rfl (Nat.le_of_ble_eq_true rfl) rfl ?_
  intro p e s m args below meth c hC hr hlk
  refine V_aload_n hC dX2_setFact_0 rfl 0 rfl ?_
  refine V_iload_n hC dX2_setFact_1 rfl 1 rfl ?_
  refine V_iload_n hC dX2_setFact_2 rfl 2 rfl ?_
  refine V_cVr hC [.int x1, .int x2] (c_X2_indexOf (l := l) hC.2.2.2.2.2.2.2 hg rfl) kd_X2_indexOf kv_X2_indexOf gw_500 (r_d14_0 hg).o rfl ⟨Nat.le_of_ble_eq_true rfl, Nat.le_of_ble_eq_true rfl⟩ rfl (Nat.le_of_ble_eq_true rfl) dX2_setFact_3 ⟨Nat.zero_le _, Nat.zero_le _⟩ rfl ?_
  refine V_istore hC ([(4, .int (f_X2_indexOf g x1 x2 M)), (0, .ref (adr G g 14)), (1, .int x1), (2, .int x2), (3, .int x3)]) dX2_setFact_6 (by decide) rfl ?_
  refine V_iload hC dX2_setFact_8 0 rfl ?_
  refine V_if_lt hC 29 dX2_setFact_10 (by decide) (fun c2 => ?_) (fun c2 => ?_)
  · have h := ite_t c2 h
    obtain rfl := Option.some.inj h
    exact V_vret hC hr hlk dX2_setFact_29
  · have h := ite_f c2 h
    refine V_iload hC dX2_setFact_13 0 rfl ?_
    refine V_sipush hC (900 : Int32) dX2_setFact_15 (by decide) ?_
    refine V_icmp_ge hC 29 dX2_setFact_18 (by decide) (fun c3 => ?_) (fun c3 => ?_)
    · have h := ite_t c3 h
      obtain rfl := Option.some.inj h
      exact V_vret hC hr hlk dX2_setFact_29
    · have h := ite_f c3 h
      refine V_aload_n hC dX2_setFact_21 rfl 1 rfl ?_
      refine V_getR hC (r_d14_0 hg) fw_X2_11 dX2_setFact_22 ?_
      refine V_iload hC dX2_setFact_25 0 rfl ?_
      refine V_iload_n hC dX2_setFact_27 rfl 4 rfl ?_
      obtain ⟨c4, h⟩ := ite_some h
      refine V_iast hC (a_d15 hg) c4 dX2_setFact_28 ?_
      obtain rfl := Option.some.inj h
      exact V_vret hC hr hlk dX2_setFact_29
theorem b_X2_removeOf_58 {g : Nat} {Mf : Mem} {k4 : Int32 → Int32 → Mem → Option Mem} {x1 : Int32} {x2 : Int32} {x3 : Int32} {M : Mem} (hC : Cx p s m args c cX2_removeOf RX2 5 G) (hr : meth.sig.returnType = none) (hlk : meth.locks = false) (hg : g < 6) (hk4 : ∀ (x2 : Int32) (x3 : Int32) (M : Mem), k4 x2 x3 M = some Mf → V p l e (rmk 2) s m args below meth c 5 G 0 0 (MQ below (gQ G none Mf) args s 0 0 (gA G)) 4 [(0, .ref (adr G g 14)), (1, .int x1), (2, .int x2), (3, .int x3)] [] M) (h : B_X2_removeOf_58 g k4 x1 x2 x3 M = some Mf) : V p l e (rmk 2) s m args below meth c 5 G 0 0 (MQ below (gQ G none Mf) args s 0 0 (gA G)) 58 [(0, .ref (adr G g 14)), (1, .int x1), (2, .int x2), (3, .int x3)] [] M := by
  refine V_iinc hC (x3 + 1) ([(3, .int (x3 + 1)), (0, .ref (adr G g 14)), (1, .int x1), (2, .int x2)]) dX2_removeOf_58 3 rfl rfl (by decide) rfl ?_
  refine V_goto hC 4 dX2_removeOf_61 (by decide) ?_
  refine V_sub [1, 2, 3, 0] rfl ?_
  exact hk4 _ _ _ h
theorem l_X2_removeOf_28 {g : Nat} {k4 : Int32 → Int32 → Mem → Option Mem} {Mf : Mem} {x1 : Int32} {x2 : Int32} {x3 : Int32} (hC : Cx p s m args c cX2_removeOf RX2 5 G) (hr : meth.sig.returnType = none) (hlk : meth.locks = false) (hg : g < 6) (hk4 : ∀ (x2 : Int32) (x3 : Int32) (M : Mem), k4 x2 x3 M = some Mf → V p l e (rmk 2) s m args below meth c 5 G 0 0 (MQ below (gQ G none Mf) args s 0 0 (gA G)) 4 [(0, .ref (adr G g 14)), (1, .int x1), (2, .int x2), (3, .int x3)] [] M) : ∀ (n : Nat) {x4 : Int32} {M : Mem} (h : L_X2_removeOf_28 g k4 x1 x2 x3 n x4 M = some Mf), V p l e (rmk 2) s m args below meth c 5 G 0 0 (MQ below (gQ G none Mf) args s 0 0 (gA G)) 28 [(0, .ref (adr G g 14)), (1, .int x1), (2, .int x2), (3, .int x3), (4, .int x4)] [] M := by
  intro n
  induction n with
  | zero => intro x4 M h; cases h
  | succ n ih =>
    intro x4 M h
    have hk28 : ∀ (x4 : Int32) (M : Mem), L_X2_removeOf_28 g k4 x1 x2 x3 n x4 M = some Mf → V p l e (rmk 2) s m args below meth c 5 G 0 0 (MQ below (gQ G none Mf) args s 0 0 (gA G)) 28 [(0, .ref (adr G g 14)), (1, .int x1), (2, .int x2), (3, .int x3), (4, .int x4)] [] M := fun _ _ z => ih z
    refine V_iload hC dX2_removeOf_28 4 rfl ?_
    refine V_bipush hC (6 : Int32) dX2_removeOf_30 (by decide) ?_
    refine V_icmp_ge hC 55 dX2_removeOf_32 (by decide) (fun c5 => ?_) (fun c5 => ?_)
    · have h := ite_t c5 h
      refine V_iinc hC (x2 + 1) ([(2, .int (x2 + 1)), (0, .ref (adr G g 14)), (1, .int x1), (3, .int x3), (4, .int x4)]) dX2_removeOf_55 2 rfl rfl (by decide) rfl ?_
      refine V_sub [1, 2, 0, 3] rfl ?_
      exact b_X2_removeOf_58 hC hr hlk hg hk4 h
    · have h := ite_f c5 h
      refine V_aload_n hC dX2_removeOf_35 rfl 0 rfl ?_
      refine V_iload_n hC dX2_removeOf_36 rfl 2 rfl ?_
      refine V_iload hC dX2_removeOf_37 4 rfl ?_
      refine V_aload_n hC dX2_removeOf_39 rfl 0 rfl ?_
      refine V_iload_n hC dX2_removeOf_40 rfl 3 rfl ?_
      refine V_iload hC dX2_removeOf_41 4 rfl ?_
      obtain ⟨q6, e6, h⟩ := bind_some h
      refine V_cVr hC [.int x3, .int x4] (c_X2_fact (l := l) hC.2.2.2.2.2.2.2 hg e6) kd_X2_fact kv_X2_fact gw_496 (r_d14_0 hg).o rfl ⟨Nat.le_of_ble_eq_true rfl, Nat.le_of_ble_eq_true rfl⟩ rfl (Nat.le_of_ble_eq_true rfl) dX2_removeOf_43 ⟨Nat.zero_le _, Nat.zero_le _⟩ rfl ?_
      obtain ⟨q7, e7, h⟩ := bind_some h
      refine V_cVv hC [.int x2, .int x4, .int q6] (c_X2_setFact (l := l) hC.2.2.2.2.2.2.2 hg e7) kd_X2_setFact kv_X2_setFact gw_507 (r_d14_0 hg).o rfl ⟨Nat.le_of_ble_eq_true rfl, Nat.le_of_ble_eq_true rfl⟩ rfl (Nat.le_of_ble_eq_true rfl) dX2_removeOf_46 ⟨Nat.zero_le _, Nat.zero_le _⟩ rfl ?_
      refine V_iinc hC (x4 + 1) ([(4, .int (x4 + 1)), (0, .ref (adr G g 14)), (1, .int x1), (2, .int x2), (3, .int x3)]) dX2_removeOf_49 4 rfl rfl (by decide) rfl ?_
      refine V_goto hC 28 dX2_removeOf_52 (by decide) ?_
      refine V_sub [1, 2, 3, 4, 0] rfl ?_
      exact hk28 _ _ h
theorem l_X2_removeOf_4 {g : Nat} {Mf : Mem} {x1 : Int32} (hC : Cx p s m args c cX2_removeOf RX2 5 G) (hr : meth.sig.returnType = none) (hlk : meth.locks = false) (hg : g < 6) : ∀ (n : Nat) {x2 : Int32} {x3 : Int32} {M : Mem} (h : L_X2_removeOf_4 g x1 n x2 x3 M = some Mf), V p l e (rmk 2) s m args below meth c 5 G 0 0 (MQ below (gQ G none Mf) args s 0 0 (gA G)) 4 [(0, .ref (adr G g 14)), (1, .int x1), (2, .int x2), (3, .int x3)] [] M := by
  intro n
  induction n with
  | zero => intro x2 x3 M h; cases h
  | succ n ih =>
    intro x2 x3 M h
    have hk4 : ∀ (x2 : Int32) (x3 : Int32) (M : Mem), L_X2_removeOf_4 g x1 n x2 x3 M = some Mf → V p l e (rmk 2) s m args below meth c 5 G 0 0 (MQ below (gQ G none Mf) args s 0 0 (gA G)) 4 [(0, .ref (adr G g 14)), (1, .int x1), (2, .int x2), (3, .int x3)] [] M := fun _ _ _ z => ih z
    refine V_iload_n hC dX2_removeOf_4 rfl 3 rfl ?_
    refine V_aload_n hC dX2_removeOf_5 rfl 0 rfl ?_
    refine V_getI hC (f_d14_2 hg) fw_X2_23 dX2_removeOf_6 ?_
    refine V_icmp_ge hC 64 dX2_removeOf_9 (by decide) (fun c1 => ?_) (fun c1 => ?_)
    · have h := ite_t c1 h
      refine V_aload_n hC dX2_removeOf_64 rfl 0 rfl ?_
      refine V_iload_n hC dX2_removeOf_65 rfl 2 rfl ?_
      refine V_putI hC (f_d14_2 hg) fw_X2_23 flp_2_2 dX2_removeOf_66 ?_
      obtain rfl := Option.some.inj h
      exact V_vret hC hr hlk dX2_removeOf_69
    · have h := ite_f c1 h
      refine V_iload_n hC dX2_removeOf_12 rfl 1 rfl ?_
      refine V_aload_n hC dX2_removeOf_13 rfl 0 rfl ?_
      refine V_iload_n hC dX2_removeOf_14 rfl 3 rfl ?_
      refine V_iconst hC (1 : Int32) dX2_removeOf_15 (by decide) ?_
      obtain ⟨q2, e2, h⟩ := bind_some h
      refine V_cVr hC [.int x3, .int (1 : Int32)] (c_X2_fact (l := l) hC.2.2.2.2.2.2.2 hg e2) kd_X2_fact kv_X2_fact gw_496 (r_d14_0 hg).o rfl ⟨Nat.le_of_ble_eq_true rfl, Nat.le_of_ble_eq_true rfl⟩ rfl (Nat.le_of_ble_eq_true rfl) dX2_removeOf_16 ⟨Nat.zero_le _, Nat.zero_le _⟩ rfl ?_
      refine V_cSNr hC [.int x1, .int q2] (c_X8_hasBit (l := l) hC.2.2.2.2.2.2.2 rfl) kd_X8_hasBit gw_505 nw_31 ⟨Nat.le_of_ble_eq_true rfl, Nat.le_of_ble_eq_true rfl⟩ rfl (Nat.le_of_ble_eq_true rfl) dX2_removeOf_19 ⟨Nat.zero_le _, Nat.zero_le _⟩ rfl ?_
      refine V_if_ne hC 58 dX2_removeOf_22 (by decide) (fun c4 => ?_) (fun c4 => ?_)
      · have h := ite_f c4 h
        exact b_X2_removeOf_58 hC hr hlk hg hk4 h
      · have h := ite_t c4 h
        refine V_iconst hC (0 : Int32) dX2_removeOf_25 (by decide) ?_
        refine V_istore hC ([(4, .int (0 : Int32)), (0, .ref (adr G g 14)), (1, .int x1), (2, .int x2), (3, .int x3)]) dX2_removeOf_26 (by decide) rfl ?_
        refine V_sub [1, 2, 3, 4, 0] rfl ?_
        exact l_X2_removeOf_28 hC hr hlk hg hk4 FU h
theorem c_X2_removeOf {l : Launch} {G : Geo} {g : Nat} {x1 : Int32} {Mf : Mem} {M : Mem} (hG : gD G) (hg : g < 6) (h : f_X2_removeOf g x1 M = some Mf) : Met l yX2_removeOf (.code yX2_removeOf cX2_removeOf 5 none :: GL) (rmk 2) (gP G [.ref (adr G g 14), .int x1] M) (gQ G none Mf) 0 0 (gA G) := by
  refine Met_of (own := RX2) (L := [(0, .ref (adr G g 14)), (1, .int x1)]) hG (by decide +kernel) rfl (Nat.le_of_ble_eq_true rfl) rfl ?_
  intro p e s m args below meth c hC hr hlk
  refine V_iconst hC (0 : Int32) dX2_removeOf_0 (by decide) ?_
  refine V_istore_n hC ([(2, .int (0 : Int32)), (0, .ref (adr G g 14)), (1, .int x1)]) dX2_removeOf_1 rfl (by decide) rfl ?_
  refine V_iconst hC (0 : Int32) dX2_removeOf_2 (by decide) ?_
  refine V_istore_n hC ([(3, .int (0 : Int32)), (2, .int (0 : Int32)), (0, .ref (adr G g 14)), (1, .int x1)]) dX2_removeOf_3 rfl (by decide) rfl ?_
  refine V_sub [2, 3, 1, 0] rfl ?_
  exact l_X2_removeOf_4 hC hr hlk hg FU h
end
