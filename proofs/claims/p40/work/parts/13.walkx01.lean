section
variable {p : Program} {l : Launch} {e : Env} {s : State} {m : MethodId} {args : Array Value} {below : List Frame} {meth : Method} {c : Code} {G : Geo}
theorem c_X8_refuseFor {l : Launch} {G : Geo} {x0 : Int32} {M : Mem} (hlt : l.stackTraces = false) (hG : gD G) : vx_Met l yX8_refuseFor (.code yX8_refuseFor cX8_refuseFor 1 none :: GL) (rmx 8) (gPx G [.int x0] M) (gQx G (fk x0) none M) (gXx G (fk x0) M) 1 6 (gA G) := by
  refine XMet_of (own := RX8) (L := [(0, .int x0)]) hG (by decide +kernel) rfl (Nat.le_of_ble_eq_true rfl) rfl ?_
  intro p e s m args below meth c hC hX hnt hr hlk
  refine V_iload_n hC dX8_refuseFor_0 rfl 0 rfl ?_
  by_cases c1 : x0 = 1
  · have e1 : fk x0 = 1 := by rw [c1]; decide
    rw [e1]
    refine V_tableIn hC 0 28 dX8_refuseFor_1 (by rw [c1]; decide) (by decide) rfl (by decide) ?_
    exact V_xthrow (k := 1) hC hX hlt hnt hlk (by decide) (by decide +kernel) gw_294 gw_14 hX.2.2.1 hat_1 hax_1 hgd_1 dX8_refuseFor_28 dX8_refuseFor_31 dX8_refuseFor_32 dX8_refuseFor_35 dX8_refuseFor_38 (by decide) (by decide) (by decide) (by decide) (Nat.le_of_ble_eq_true rfl)
  by_cases c2 : x0 = 2
  · have e2 : fk x0 = 2 := by rw [c2]; decide
    rw [e2]
    refine V_tableIn hC 1 39 dX8_refuseFor_1 (by rw [c2]; decide) (by decide) rfl (by decide) ?_
    exact V_xthrow (k := 2) hC hX hlt hnt hlk (by decide) (by decide +kernel) gw_362 gw_15 hX.2.2.2.1 hat_2 hax_2 hgd_2 dX8_refuseFor_39 dX8_refuseFor_42 dX8_refuseFor_43 dX8_refuseFor_46 dX8_refuseFor_49 (by decide) (by decide) (by decide) (by decide) (Nat.le_of_ble_eq_true rfl)
  by_cases c3 : x0 = 3
  · have e3 : fk x0 = 3 := by rw [c3]; decide
    rw [e3]
    refine V_tableIn hC 2 50 dX8_refuseFor_1 (by rw [c3]; decide) (by decide) rfl (by decide) ?_
    exact V_xthrow (k := 3) hC hX hlt hnt hlk (by decide) (by decide +kernel) gw_378 gw_16 hX.2.2.2.2.1 hat_3 hax_3 hgd_3 dX8_refuseFor_50 dX8_refuseFor_53 dX8_refuseFor_54 dX8_refuseFor_57 dX8_refuseFor_60 (by decide) (by decide) (by decide) (by decide) (Nat.le_of_ble_eq_true rfl)
  have e0 : fk x0 = 0 := by simp [fk, c1, c2, c3]
  rw [e0]
  refine V_tableOut hC 61 dX8_refuseFor_1 (tsw_out (1) 3 x0 (tsw_cons c1 (by decide) (tsw_cons c2 (by decide) (tsw_cons c3 (by decide) (tsw_nil)))) rfl) (by decide) ?_
  exact V_xvret hC hr hlk (by decide) (by decide) dX8_refuseFor_61
theorem b_X4_putSection_51 {g : Nat} {kr : Int32 → Int32 → Mem → Option Mem} {n0 : Nat} {Mf : Mem} {k33 : Int32 → Mem → Option Mem} {x2 : Int32} {x3 : Int32} {x4 : Int32} {x5 : Int32} {M : Mem} (hC : Cx p s m args c cX4_putSection RX4 6 G) (hr : meth.sig.returnType = none) (hlk : meth.locks = false) (hg : g < 6) (hkr : ∀ (x2 x3 : Int32) (M Mf : Mem), kr x2 x3 M = some Mf → Met l yX4_putSection (.code yX4_putSection cX4_putSection 6 none :: GL) (rmk (6 + n0)) (gP G [.ref (adr G 6 7), .ref (adr G g 1), .int x2, .int x3] M) (gQ G none Mf) 0 0 (gA G)) (hk33 : ∀ (x5 : Int32) (M : Mem), k33 x5 M = some Mf → V p l e (rmk (6 + (n0 + 1))) s m args below meth c 6 G 0 0 (MQ below (gQ G none Mf) args s 0 0 (gA G)) 33 [(0, .ref (adr G 6 7)), (1, .ref (adr G g 1)), (2, .int x2), (3, .int x3), (4, .int x4), (5, .int x5)] [] M) (h : B_X4_putSection_51 g kr k33 x2 x3 x4 x5 M = some Mf) : V p l e (rmk (6 + (n0 + 1))) s m args below meth c 6 G 0 0 (MQ below (gQ G none Mf) args s 0 0 (gA G)) 51 [(0, .ref (adr G 6 7)), (1, .ref (adr G g 1)), (2, .int x2), (3, .int x3), (4, .int x4), (5, .int x5)] [] M := by
  refine V_aload_n hC dX4_putSection_51 rfl 0 rfl ?_
  refine V_aload_n hC dX4_putSection_52 rfl 1 rfl ?_
  refine V_aload_n hC dX4_putSection_53 rfl 1 rfl ?_
  refine V_iload_n hC dX4_putSection_54 rfl 2 rfl ?_
  refine V_iload hC dX4_putSection_55 5 rfl ?_
  obtain ⟨q9, e9, h⟩ := bind_some h
  refine V_cVr hC [.int x2, .int x5] (c_X7_childAt (l := l) hC.2.2.2.2.2.2.2 hg e9) kd_X7_childAt kv_X7_childAt gw_937 (r_d1_0 hg).o rfl ⟨by dsimp only; omega, by dsimp only; omega⟩ rfl (Nat.le_of_ble_eq_true rfl) dX4_putSection_57 ⟨Nat.zero_le _, Nat.zero_le _⟩ rfl ?_
  refine V_iload_n hC dX4_putSection_60 rfl 3 rfl ?_
  refine V_iconst hC (1 : Int32) dX4_putSection_61 (by decide) ?_
  refine V_iadd hC dX4_putSection_62 ?_
  obtain ⟨q10, e10, h⟩ := bind_some h
  refine V_cSv hC [.ref (adr G 6 7), .ref (adr G g 1), .int q9, .int (x3 + (1 : Int32))] (hkr _ _ _ _ e10) kd_X4_putSection gw_918 gw_941 ⟨by dsimp only; omega, by dsimp only; omega⟩ rfl (Nat.le_of_ble_eq_true rfl) dX4_putSection_63 ⟨Nat.zero_le _, Nat.zero_le _⟩ rfl ?_
  refine V_iinc hC (x5 + 1) ([(5, .int (x5 + 1)), (0, .ref (adr G 6 7)), (1, .ref (adr G g 1)), (2, .int x2), (3, .int x3), (4, .int x4)]) dX4_putSection_66 5 rfl rfl (by decide) rfl ?_
  refine V_goto hC 33 dX4_putSection_69 (by decide) ?_
  refine V_sub [1, 2, 3, 4, 5, 0] rfl ?_
  exact hk33 _ _ h
theorem l_X4_putSection_33 {g : Nat} {kr : Int32 → Int32 → Mem → Option Mem} {n0 : Nat} {Mf : Mem} {x2 : Int32} {x3 : Int32} {x4 : Int32} (hC : Cx p s m args c cX4_putSection RX4 6 G) (hr : meth.sig.returnType = none) (hlk : meth.locks = false) (hg : g < 6) (hkr : ∀ (x2 x3 : Int32) (M Mf : Mem), kr x2 x3 M = some Mf → Met l yX4_putSection (.code yX4_putSection cX4_putSection 6 none :: GL) (rmk (6 + n0)) (gP G [.ref (adr G 6 7), .ref (adr G g 1), .int x2, .int x3] M) (gQ G none Mf) 0 0 (gA G)) : ∀ (n : Nat) {x5 : Int32} {M : Mem} (h : L_X4_putSection_33 g kr x2 x3 x4 n x5 M = some Mf), V p l e (rmk (6 + (n0 + 1))) s m args below meth c 6 G 0 0 (MQ below (gQ G none Mf) args s 0 0 (gA G)) 33 [(0, .ref (adr G 6 7)), (1, .ref (adr G g 1)), (2, .int x2), (3, .int x3), (4, .int x4), (5, .int x5)] [] M := by
  intro n
  induction n with
  | zero => intro x5 M h; cases h
  | succ n ih =>
    intro x5 M h
    have hk33 : ∀ (x5 : Int32) (M : Mem), L_X4_putSection_33 g kr x2 x3 x4 n x5 M = some Mf → V p l e (rmk (6 + (n0 + 1))) s m args below meth c 6 G 0 0 (MQ below (gQ G none Mf) args s 0 0 (gA G)) 33 [(0, .ref (adr G 6 7)), (1, .ref (adr G g 1)), (2, .int x2), (3, .int x3), (4, .int x4), (5, .int x5)] [] M := fun _ _ z => ih z
    refine V_iload hC dX4_putSection_33 5 rfl ?_
    refine V_iload hC dX4_putSection_35 4 rfl ?_
    refine V_icmp_ge hC 72 dX4_putSection_37 (by decide) (fun c6 => ?_) (fun c6 => ?_)
    · have h := ite_t c6 h
      refine V_aload_n hC dX4_putSection_72 rfl 0 rfl ?_
      refine V_bipush hC (41 : Int32) dX4_putSection_73 (by decide) ?_
      obtain ⟨q7, e7, h⟩ := bind_some h
      refine V_cVv hC [.int (41 : Int32)] (c_X4_put (l := l) hC.2.2.2.2.2.2.2 e7) kd_X4_put kv_X4_put gw_924 (r_s7_0).o rfl ⟨by dsimp only; omega, by dsimp only; omega⟩ rfl (Nat.le_of_ble_eq_true rfl) dX4_putSection_75 ⟨Nat.zero_le _, Nat.zero_le _⟩ rfl ?_
      obtain rfl := Option.some.inj h
      exact V_vret hC hr hlk dX4_putSection_78
    · have h := ite_f c6 h
      refine V_iload hC dX4_putSection_40 5 rfl ?_
      refine V_if_le hC 51 dX4_putSection_42 (by decide) (fun c8 => ?_) (fun c8 => ?_)
      · have h := ite_t c8 h
        exact b_X4_putSection_51 hC hr hlk hg hkr hk33 h
      · have h := ite_f c8 h
        refine V_aload_n hC dX4_putSection_45 rfl 0 rfl ?_
        refine V_bipush hC (44 : Int32) dX4_putSection_46 (by decide) ?_
        obtain ⟨q11, e11, h⟩ := bind_some h
        refine V_cVv hC [.int (44 : Int32)] (c_X4_put (l := l) hC.2.2.2.2.2.2.2 e11) kd_X4_put kv_X4_put gw_924 (r_s7_0).o rfl ⟨by dsimp only; omega, by dsimp only; omega⟩ rfl (Nat.le_of_ble_eq_true rfl) dX4_putSection_48 ⟨Nat.zero_le _, Nat.zero_le _⟩ rfl ?_
        exact b_X4_putSection_51 hC hr hlk hg hkr hk33 h
theorem c_X4_putSection {l : Launch} {G : Geo} {g : Nat} (hG : gD G) (hg : g < 6) : ∀ (n0 : Nat) (x2 x3 : Int32) (M Mf : Mem), f_X4_putSection g n0 x2 x3 M = some Mf → Met l yX4_putSection (.code yX4_putSection cX4_putSection 6 none :: GL) (rmk (6 + n0)) (gP G [.ref (adr G 6 7), .ref (adr G g 1), .int x2, .int x3] M) (gQ G none Mf) 0 0 (gA G) := by
  intro n0
  induction n0 with
  | zero => intro x2 x3 M Mf h; cases h
  | succ n0 hkr =>
    intro x2 x3 M Mf h
    refine Met_of (own := RX4) (L := [(0, .ref (adr G 6 7)), (1, .ref (adr G g 1)), (2, .int x2), (3, .int x3)]) hG (by decide +kernel) rfl (Nat.le_of_ble_eq_true rfl) rfl ?_
    intro p e s m args below meth c hC hr hlk
    refine V_aload_n hC dX4_putSection_0 rfl 0 rfl ?_
    refine V_iload_n hC dX4_putSection_1 rfl 2 rfl ?_
    obtain ⟨q1, e1, h⟩ := bind_some h
    refine V_cVv hC [.int x2] (c_X4_putNumber (l := l) hC.2.2.2.2.2.2.2 e1) kd_X4_putNumber kv_X4_putNumber gw_920 (r_s7_0).o rfl ⟨by dsimp only; omega, by dsimp only; omega⟩ rfl (Nat.le_of_ble_eq_true rfl) dX4_putSection_2 ⟨Nat.zero_le _, Nat.zero_le _⟩ rfl ?_
    refine V_aload_n hC dX4_putSection_5 rfl 1 rfl ?_
    refine V_iload_n hC dX4_putSection_6 rfl 2 rfl ?_
    obtain ⟨q2, e2, h⟩ := bind_some h
    refine V_cVr hC [.int x2] (c_X7_childrenOf (l := l) hC.2.2.2.2.2.2.2 hg e2) kd_X7_childrenOf kv_X7_childrenOf gw_929 (r_d1_0 hg).o rfl ⟨by dsimp only; omega, by dsimp only; omega⟩ rfl (Nat.le_of_ble_eq_true rfl) dX4_putSection_7 ⟨Nat.zero_le _, Nat.zero_le _⟩ rfl ?_
    refine V_istore hC ([(4, .int q2), (0, .ref (adr G 6 7)), (1, .ref (adr G g 1)), (2, .int x2), (3, .int x3)]) dX4_putSection_10 (by decide) rfl ?_
    refine V_iload hC dX4_putSection_12 0 rfl ?_
    refine V_if_eq hC 23 dX4_putSection_14 (by decide) (fun c3 => ?_) (fun c3 => ?_)
    · have h := ite_t c3 h
      obtain rfl := Option.some.inj h
      exact V_vret hC hr hlk dX4_putSection_23
    · have h := ite_f c3 h
      refine V_iload_n hC dX4_putSection_17 rfl 4 rfl ?_
      refine V_bipush hC (20 : Int32) dX4_putSection_18 (by decide) ?_
      refine V_icmp_lt hC 24 dX4_putSection_20 (by decide) (fun c4 => ?_) (fun c4 => ?_)
      · have h := ite_t c4 h
        refine V_aload_n hC dX4_putSection_24 rfl 1 rfl ?_
        refine V_bipush hC (40 : Int32) dX4_putSection_25 (by decide) ?_
        obtain ⟨q5, e5, h⟩ := bind_some h
        refine V_cVv hC [.int (40 : Int32)] (c_X4_put (l := l) hC.2.2.2.2.2.2.2 e5) kd_X4_put kv_X4_put gw_924 (r_s7_0).o rfl ⟨by dsimp only; omega, by dsimp only; omega⟩ rfl (Nat.le_of_ble_eq_true rfl) dX4_putSection_27 ⟨Nat.zero_le _, Nat.zero_le _⟩ rfl ?_
        refine V_iconst hC (0 : Int32) dX4_putSection_30 (by decide) ?_
        refine V_istore hC ([(5, .int (0 : Int32)), (4, .int q2), (0, .ref (adr G 6 7)), (1, .ref (adr G g 1)), (2, .int x2), (3, .int x3)]) dX4_putSection_31 (by decide) rfl ?_
        refine V_sub [2, 3, 4, 5, 1, 0] rfl ?_
        exact l_X4_putSection_33 hC hr hlk hg hkr FU h
      · have h := ite_f c4 h
        obtain rfl := Option.some.inj h
        exact V_vret hC hr hlk dX4_putSection_23
theorem c_X8_addSection {l : Launch} {G : Geo} {x1 : Int32} {k0 : Nat} {rv : Int32} {Mf : Mem} {M : Mem} (hlt : l.stackTraces = false) (hG : gD G) (h : f_X8_addSection x1 M = some (k0, rv, Mf)) : vx_Met l yX8_addSection (.code yX8_addSection cX8_addSection 2 (some .int) :: GL) (rmx 9) (gPx G [.ref (adr G 6 0), .int x1] M) (gQx G k0 (some (.int rv)) Mf) (gXx G k0 Mf) 1 6 (gA G) := by
  refine XMet_of (own := RX8) (L := [(0, .ref (adr G 6 0)), (1, .int x1)]) hG (by decide +kernel) rfl (Nat.le_of_ble_eq_true rfl) rfl ?_
  intro p e s m args below meth c hC hX hnt hr hlk
  refine V_aload_n hC dX8_addSection_0 rfl 0 rfl ?_
  refine V_getR hC (r_s0_0) fw_X8_12 dX8_addSection_1 ?_
  refine V_iload_n hC dX8_addSection_4 rfl 1 rfl ?_
  obtain ⟨q1, e1, h⟩ := bind_some h
  refine V_cVr hC [.int x1] (c_X1_addFault (l := l) hC.2.2.2.2.2.2.2 (by decide) e1) kd_X1_addFault kv_X1_addFault gw_244 (r_d0_0 (by decide)).o rfl ⟨Nat.le_of_ble_eq_true rfl, Nat.le_of_ble_eq_true rfl⟩ rfl (Nat.le_of_ble_eq_true rfl) dX8_addSection_5 ⟨by decide, by decide⟩ rfl ?_
  refine V_xref hC hX hnt hlk (c_X8_refuseFor (l := l) hlt hC.2.2.2.2.2.2.2) kd_X8_refuseFor gw_292 gw_291 ⟨Nat.le_of_ble_eq_true rfl, Nat.le_of_ble_eq_true rfl⟩ ⟨by decide, by decide⟩ (Nat.le_of_ble_eq_true rfl) dX8_addSection_8 (fun z2 => ?_) (fun z2 => ?_)
  · have h := ite_t z2 h
    refine V_aload_n hC dX8_addSection_11 rfl 0 rfl ?_
    refine V_getR hC (r_s0_2) fw_X8_22 dX8_addSection_12 ?_
    refine V_aload_n hC dX8_addSection_15 rfl 0 rfl ?_
    refine V_getR hC (r_s0_0) fw_X8_12 dX8_addSection_16 ?_
    obtain ⟨q3, e3, h⟩ := bind_some h
    refine V_cVv hC [.ref (adr G 0 0)] (c_X6_push (l := l) hC.2.2.2.2.2.2.2 (by decide) e3) kd_X6_push kv_X6_push gw_394 (r_s1_0).o rfl ⟨Nat.le_of_ble_eq_true rfl, Nat.le_of_ble_eq_true rfl⟩ rfl (Nat.le_of_ble_eq_true rfl) dX8_addSection_19 ⟨by decide, by decide⟩ rfl ?_
    refine V_aload_n hC dX8_addSection_22 rfl 0 rfl ?_
    refine V_getR hC (r_s0_0) fw_X8_12 dX8_addSection_23 ?_
    refine V_getR hC (r_d0_0 (by decide)) fw_X8_52 dX8_addSection_26 ?_
    refine V_iload_n hC dX8_addSection_29 rfl 1 rfl ?_
    obtain ⟨q4, e4, h⟩ := bind_some h
    refine V_cVr hC [.int x1] (c_X7_add (l := l) (rv := q4.1) (Mf := q4.2) hC.2.2.2.2.2.2.2 (by decide) e4) kd_X7_add kv_X7_add gw_435 (r_d1_0 (by decide)).o rfl ⟨Nat.le_of_ble_eq_true rfl, Nat.le_of_ble_eq_true rfl⟩ rfl (Nat.le_of_ble_eq_true rfl) dX8_addSection_30 ⟨by decide, by decide⟩ rfl ?_
    obtain ⟨rfl, hp⟩ := Prod.mk.inj (Option.some.inj h)
    obtain ⟨rfl, rfl⟩ := Prod.mk.inj hp
    exact V_xiret hC hr hlk (by decide) (by decide) dX8_addSection_33
  · have h := ite_f z2 h
    obtain ⟨rfl, hp⟩ := Prod.mk.inj (Option.some.inj h)
    obtain ⟨-, rfl⟩ := Prod.mk.inj hp
    exact ⟨rfl, rfl⟩
theorem c_X8_removeSection {l : Launch} {G : Geo} {x1 : Int32} {k0 : Nat} {rv : Int32} {Mf : Mem} {M : Mem} (hlt : l.stackTraces = false) (hG : gD G) (h : f_X8_removeSection x1 M = some (k0, rv, Mf)) : vx_Met l yX8_removeSection (.code yX8_removeSection cX8_removeSection 2 (some .int) :: GL) (rmx 9) (gPx G [.ref (adr G 6 0), .int x1] M) (gQx G k0 (some (.int rv)) Mf) (gXx G k0 Mf) 1 6 (gA G) := by
  refine XMet_of (own := RX8) (L := [(0, .ref (adr G 6 0)), (1, .int x1)]) hG (by decide +kernel) rfl (Nat.le_of_ble_eq_true rfl) rfl ?_
  intro p e s m args below meth c hC hX hnt hr hlk
  refine V_aload_n hC dX8_removeSection_0 rfl 0 rfl ?_
  refine V_getR hC (r_s0_0) fw_X8_12 dX8_removeSection_1 ?_
  refine V_iload_n hC dX8_removeSection_4 rfl 1 rfl ?_
  obtain ⟨q1, e1, h⟩ := bind_some h
  refine V_cVr hC [.int x1] (c_X1_removeFault (l := l) hC.2.2.2.2.2.2.2 (by decide) e1) kd_X1_removeFault kv_X1_removeFault gw_470 (r_d0_0 (by decide)).o rfl ⟨Nat.le_of_ble_eq_true rfl, Nat.le_of_ble_eq_true rfl⟩ rfl (Nat.le_of_ble_eq_true rfl) dX8_removeSection_5 ⟨by decide, by decide⟩ rfl ?_
  refine V_xref hC hX hnt hlk (c_X8_refuseFor (l := l) hlt hC.2.2.2.2.2.2.2) kd_X8_refuseFor gw_292 gw_291 ⟨Nat.le_of_ble_eq_true rfl, Nat.le_of_ble_eq_true rfl⟩ ⟨by decide, by decide⟩ (Nat.le_of_ble_eq_true rfl) dX8_removeSection_8 (fun z2 => ?_) (fun z2 => ?_)
  · have h := ite_t z2 h
    refine V_aload_n hC dX8_removeSection_11 rfl 0 rfl ?_
    refine V_getR hC (r_s0_2) fw_X8_22 dX8_removeSection_12 ?_
    refine V_aload_n hC dX8_removeSection_15 rfl 0 rfl ?_
    refine V_getR hC (r_s0_0) fw_X8_12 dX8_removeSection_16 ?_
    obtain ⟨q3, e3, h⟩ := bind_some h
    refine V_cVv hC [.ref (adr G 0 0)] (c_X6_push (l := l) hC.2.2.2.2.2.2.2 (by decide) e3) kd_X6_push kv_X6_push gw_394 (r_s1_0).o rfl ⟨Nat.le_of_ble_eq_true rfl, Nat.le_of_ble_eq_true rfl⟩ rfl (Nat.le_of_ble_eq_true rfl) dX8_removeSection_19 ⟨by decide, by decide⟩ rfl ?_
    refine V_aload_n hC dX8_removeSection_22 rfl 0 rfl ?_
    refine V_getR hC (r_s0_0) fw_X8_12 dX8_removeSection_23 ?_
    refine V_iload_n hC dX8_removeSection_26 rfl 1 rfl ?_
    obtain ⟨q4, e4, h⟩ := bind_some h
    refine V_cVr hC [.int x1] (c_X1_removeNow (l := l) (rv := q4.1) (Mf := q4.2) hC.2.2.2.2.2.2.2 (by decide) e4) kd_X1_removeNow kv_X1_removeNow gw_487 (r_d0_0 (by decide)).o rfl ⟨Nat.le_of_ble_eq_true rfl, Nat.le_of_ble_eq_true rfl⟩ rfl (Nat.le_of_ble_eq_true rfl) dX8_removeSection_27 ⟨by decide, by decide⟩ rfl ?_
    obtain ⟨rfl, hp⟩ := Prod.mk.inj (Option.some.inj h)
    obtain ⟨rfl, rfl⟩ := Prod.mk.inj hp
    exact V_xiret hC hr hlk (by decide) (by decide) dX8_removeSection_30
  · have h := ite_f z2 h
    obtain ⟨rfl, hp⟩ := Prod.mk.inj (Option.some.inj h)
    obtain ⟨-, rfl⟩ := Prod.mk.inj hp
    exact ⟨rfl, rfl⟩
theorem c_X8_moveSection {l : Launch} {G : Geo} {x1 : Int32} {x2 : Int32} {k0 : Nat} {rv : Int32} {Mf : Mem} {M : Mem} (hlt : l.stackTraces = false) (hG : gD G) (h : f_X8_moveSection x1 x2 M = some (k0, rv, Mf)) : vx_Met l yX8_moveSection (.code yX8_moveSection cX8_moveSection 3 (some .int) :: GL) (rmx 9) (gPx G [.ref (adr G 6 0), .int x1, .int x2] M) (gQx G k0 (some (.int rv)) Mf) (gXx G k0 Mf) 1 6 (gA G) := by
  refine XMet_of (own := RX8) (L := [(0, .ref (adr G 6 0)), (1, .int x1), (2, .int x2)]) hG (by decide +kernel) rfl (Nat.le_of_ble_eq_true rfl) rfl ?_
  intro p e s m args below meth c hC hX hnt hr hlk
  refine V_aload_n hC dX8_moveSection_0 rfl 0 rfl ?_
  refine V_getR hC (r_s0_0) fw_X8_12 dX8_moveSection_1 ?_
  refine V_iload_n hC dX8_moveSection_4 rfl 1 rfl ?_
  refine V_iload_n hC dX8_moveSection_5 rfl 2 rfl ?_
  obtain ⟨q1, e1, h⟩ := bind_some h
  refine V_cVr hC [.int x1, .int x2] (c_X1_moveFault (l := l) hC.2.2.2.2.2.2.2 (by decide) e1) kd_X1_moveFault kv_X1_moveFault gw_529 (r_d0_0 (by decide)).o rfl ⟨Nat.le_of_ble_eq_true rfl, Nat.le_of_ble_eq_true rfl⟩ rfl (Nat.le_of_ble_eq_true rfl) dX8_moveSection_6 ⟨by decide, by decide⟩ rfl ?_
  refine V_xref hC hX hnt hlk (c_X8_refuseFor (l := l) hlt hC.2.2.2.2.2.2.2) kd_X8_refuseFor gw_292 gw_291 ⟨Nat.le_of_ble_eq_true rfl, Nat.le_of_ble_eq_true rfl⟩ ⟨by decide, by decide⟩ (Nat.le_of_ble_eq_true rfl) dX8_moveSection_9 (fun z2 => ?_) (fun z2 => ?_)
  · have h := ite_t z2 h
    refine V_aload_n hC dX8_moveSection_12 rfl 0 rfl ?_
    refine V_getR hC (r_s0_2) fw_X8_22 dX8_moveSection_13 ?_
    refine V_aload_n hC dX8_moveSection_16 rfl 0 rfl ?_
    refine V_getR hC (r_s0_0) fw_X8_12 dX8_moveSection_17 ?_
    obtain ⟨q3, e3, h⟩ := bind_some h
    refine V_cVv hC [.ref (adr G 0 0)] (c_X6_push (l := l) hC.2.2.2.2.2.2.2 (by decide) e3) kd_X6_push kv_X6_push gw_394 (r_s1_0).o rfl ⟨Nat.le_of_ble_eq_true rfl, Nat.le_of_ble_eq_true rfl⟩ rfl (Nat.le_of_ble_eq_true rfl) dX8_moveSection_20 ⟨by decide, by decide⟩ rfl ?_
    refine V_aload_n hC dX8_moveSection_23 rfl 0 rfl ?_
    refine V_getR hC (r_s0_0) fw_X8_12 dX8_moveSection_24 ?_
    refine V_getR hC (r_d0_0 (by decide)) fw_X8_52 dX8_moveSection_27 ?_
    refine V_iload_n hC dX8_moveSection_30 rfl 1 rfl ?_
    refine V_iload_n hC dX8_moveSection_31 rfl 2 rfl ?_
    obtain ⟨q4, e4, h⟩ := bind_some h
    refine V_cVv hC [.int x1, .int x2] (c_X7_move (l := l) hC.2.2.2.2.2.2.2 (by decide) e4) kd_X7_move kv_X7_move gw_537 (r_d1_0 (by decide)).o rfl ⟨Nat.le_of_ble_eq_true rfl, Nat.le_of_ble_eq_true rfl⟩ rfl (Nat.le_of_ble_eq_true rfl) dX8_moveSection_32 ⟨by decide, by decide⟩ rfl ?_
    refine V_aload_n hC dX8_moveSection_35 rfl 0 rfl ?_
    refine V_getR hC (r_s0_0) fw_X8_12 dX8_moveSection_36 ?_
    refine V_getR hC (r_d0_0 (by decide)) fw_X8_52 dX8_moveSection_39 ?_
    refine V_iload_n hC dX8_moveSection_42 rfl 1 rfl ?_
    obtain ⟨q5, e5, h⟩ := bind_some h
    refine V_cVr hC [.int x1] (c_X7_depthOf (l := l) hC.2.2.2.2.2.2.2 (by decide) e5) kd_X7_depthOf kv_X7_depthOf gw_541 (r_d1_0 (by decide)).o rfl ⟨Nat.le_of_ble_eq_true rfl, Nat.le_of_ble_eq_true rfl⟩ rfl (Nat.le_of_ble_eq_true rfl) dX8_moveSection_43 ⟨by decide, by decide⟩ rfl ?_
    obtain ⟨rfl, hp⟩ := Prod.mk.inj (Option.some.inj h)
    obtain ⟨rfl, rfl⟩ := Prod.mk.inj hp
    exact V_xiret hC hr hlk (by decide) (by decide) dX8_moveSection_46
  · have h := ite_f z2 h
    obtain ⟨rfl, hp⟩ := Prod.mk.inj (Option.some.inj h)
    obtain ⟨-, rfl⟩ := Prod.mk.inj hp
    exact ⟨rfl, rfl⟩
theorem c_X8_section {l : Launch} {G : Geo} {x1 : Int32} {x2 : Int32} {k0 : Nat} {rv : Int32} {Mf : Mem} {M : Mem} (hlt : l.stackTraces = false) (hG : gD G) (h : f_X8_section x1 x2 M = some (k0, rv, Mf)) : vx_Met l yX8_section (.code yX8_section cX8_section 3 (some .int) :: GL) (rmx 9) (gPx G [.ref (adr G 6 0), .int x1, .int x2] M) (gQx G k0 (some (.int rv)) Mf) (gXx G k0 Mf) 1 6 (gA G) := by
  refine XMet_of (own := RX8) (L := [(0, .ref (adr G 6 0)), (1, .int x1), (2, .int x2)]) hG (by decide +kernel) rfl (Nat.le_of_ble_eq_true rfl) rfl ?_
  intro p e s m args below meth c hC hX hnt hr hlk
  refine V_aload_n hC dX8_section_0 rfl 0 rfl ?_
  refine V_getR hC (r_s0_0) fw_X8_12 dX8_section_1 ?_
  refine V_getR hC (r_d0_0 (by decide)) fw_X8_52 dX8_section_4 ?_
  refine V_iload_n hC dX8_section_7 rfl 1 rfl ?_
  obtain ⟨q1, e1, h⟩ := bind_some h
  refine V_cVr hC [.int x1] (c_X7_has (l := l) hC.2.2.2.2.2.2.2 (by decide) e1) kd_X7_has kv_X7_has gw_983 (r_d1_0 (by decide)).o rfl ⟨Nat.le_of_ble_eq_true rfl, Nat.le_of_ble_eq_true rfl⟩ rfl (Nat.le_of_ble_eq_true rfl) dX8_section_8 ⟨by decide, by decide⟩ rfl ?_
  refine V_iload_n hC dX8_section_11 rfl 2 rfl ?_
  refine V_iconst hC (0 : Int32) dX8_section_12 (by decide) ?_
  refine V_iconst hC (4 : Int32) dX8_section_13 (by decide) ?_
  refine V_cSr hC [.int x2, .int (0 : Int32), .int (4 : Int32)] (c_X8_isWithin (l := l) hC.2.2.2.2.2.2.2 rfl) kd_X8_isWithin gw_444 gw_456 ⟨Nat.le_of_ble_eq_true rfl, Nat.le_of_ble_eq_true rfl⟩ rfl (Nat.le_of_ble_eq_true rfl) dX8_section_14 ⟨by decide, by decide⟩ rfl ?_
  refine V_iconst hC (1 : Int32) dX8_section_17 (by decide) ?_
  refine V_cSr hC [.int q1, .int (f_X8_isWithin x2 (0 : Int32) (4 : Int32)), .int (1 : Int32)] (c_X8_faultOf (l := l) hC.2.2.2.2.2.2.2 rfl) kd_X8_faultOf gw_289 gw_916 ⟨Nat.le_of_ble_eq_true rfl, Nat.le_of_ble_eq_true rfl⟩ rfl (Nat.le_of_ble_eq_true rfl) dX8_section_18 ⟨by decide, by decide⟩ rfl ?_
  refine V_xref hC hX hnt hlk (c_X8_refuseFor (l := l) hlt hC.2.2.2.2.2.2.2) kd_X8_refuseFor gw_292 gw_291 ⟨Nat.le_of_ble_eq_true rfl, Nat.le_of_ble_eq_true rfl⟩ ⟨by decide, by decide⟩ (Nat.le_of_ble_eq_true rfl) dX8_section_21 (fun z4 => ?_) (fun z4 => ?_)
  · have h := ite_t z4 h
    refine V_iload_n hC dX8_section_24 rfl 2 rfl ?_
    by_cases c5 : x2 = (0 : Int32)
    · have h := ite_t c5 h
      refine V_tableIn hC 0 56 dX8_section_25 (by rw [c5]; decide) (by decide) rfl (by decide) ?_
      refine V_aload_n hC dX8_section_56 rfl 0 rfl ?_
      refine V_getR hC (r_s0_0) fw_X8_12 dX8_section_57 ?_
      refine V_getR hC (r_d0_0 (by decide)) fw_X8_52 dX8_section_60 ?_
      refine V_iload_n hC dX8_section_63 rfl 1 rfl ?_
      obtain ⟨q6, e6, h⟩ := bind_some h
      refine V_cVr hC [.int x1] (c_X7_parentOf (l := l) hC.2.2.2.2.2.2.2 (by decide) e6) kd_X7_parentOf kv_X7_parentOf gw_984 (r_d1_0 (by decide)).o rfl ⟨Nat.le_of_ble_eq_true rfl, Nat.le_of_ble_eq_true rfl⟩ rfl (Nat.le_of_ble_eq_true rfl) dX8_section_64 ⟨by decide, by decide⟩ rfl ?_
      obtain ⟨rfl, hp⟩ := Prod.mk.inj (Option.some.inj h)
      obtain ⟨rfl, rfl⟩ := Prod.mk.inj hp
      exact V_xiret hC hr hlk (by decide) (by decide) dX8_section_67
    have h := ite_f c5 h
    by_cases c7 : x2 = (1 : Int32)
    · have h := ite_t c7 h
      refine V_tableIn hC 1 68 dX8_section_25 (by rw [c7]; decide) (by decide) rfl (by decide) ?_
      refine V_aload_n hC dX8_section_68 rfl 0 rfl ?_
      refine V_getR hC (r_s0_0) fw_X8_12 dX8_section_69 ?_
      refine V_getR hC (r_d0_0 (by decide)) fw_X8_52 dX8_section_72 ?_
      refine V_iload_n hC dX8_section_75 rfl 1 rfl ?_
      obtain ⟨q8, e8, h⟩ := bind_some h
      refine V_cVr hC [.int x1] (c_X7_childrenOf (l := l) hC.2.2.2.2.2.2.2 (by decide) e8) kd_X7_childrenOf kv_X7_childrenOf gw_985 (r_d1_0 (by decide)).o rfl ⟨Nat.le_of_ble_eq_true rfl, Nat.le_of_ble_eq_true rfl⟩ rfl (Nat.le_of_ble_eq_true rfl) dX8_section_76 ⟨by decide, by decide⟩ rfl ?_
      obtain ⟨rfl, hp⟩ := Prod.mk.inj (Option.some.inj h)
      obtain ⟨rfl, rfl⟩ := Prod.mk.inj hp
      exact V_xiret hC hr hlk (by decide) (by decide) dX8_section_79
    have h := ite_f c7 h
    by_cases c9 : x2 = (2 : Int32)
    · have h := ite_t c9 h
      refine V_tableIn hC 2 80 dX8_section_25 (by rw [c9]; decide) (by decide) rfl (by decide) ?_
      refine V_aload_n hC dX8_section_80 rfl 0 rfl ?_
      refine V_getR hC (r_s0_0) fw_X8_12 dX8_section_81 ?_
      refine V_getR hC (r_d0_0 (by decide)) fw_X8_52 dX8_section_84 ?_
      refine V_iload_n hC dX8_section_87 rfl 1 rfl ?_
      obtain ⟨q10, e10, h⟩ := bind_some h
      refine V_cVr hC [.int x1] (c_X7_depthOf (l := l) hC.2.2.2.2.2.2.2 (by decide) e10) kd_X7_depthOf kv_X7_depthOf gw_541 (r_d1_0 (by decide)).o rfl ⟨Nat.le_of_ble_eq_true rfl, Nat.le_of_ble_eq_true rfl⟩ rfl (Nat.le_of_ble_eq_true rfl) dX8_section_88 ⟨by decide, by decide⟩ rfl ?_
      obtain ⟨rfl, hp⟩ := Prod.mk.inj (Option.some.inj h)
      obtain ⟨rfl, rfl⟩ := Prod.mk.inj hp
      exact V_xiret hC hr hlk (by decide) (by decide) dX8_section_91
    have h := ite_f c9 h
    by_cases c11 : x2 = (3 : Int32)
    · have h := ite_t c11 h
      refine V_tableIn hC 3 92 dX8_section_25 (by rw [c11]; decide) (by decide) rfl (by decide) ?_
      refine V_aload_n hC dX8_section_92 rfl 0 rfl ?_
      refine V_getR hC (r_s0_0) fw_X8_12 dX8_section_93 ?_
      refine V_getR hC (r_d0_0 (by decide)) fw_X8_52 dX8_section_96 ?_
      refine V_iload_n hC dX8_section_99 rfl 1 rfl ?_
      obtain ⟨q12, e12, h⟩ := bind_some h
      refine V_cVr hC [.int x1] (c_X7_versionOf (l := l) hC.2.2.2.2.2.2.2 (by decide) e12) kd_X7_versionOf kv_X7_versionOf gw_986 (r_d1_0 (by decide)).o rfl ⟨Nat.le_of_ble_eq_true rfl, Nat.le_of_ble_eq_true rfl⟩ rfl (Nat.le_of_ble_eq_true rfl) dX8_section_100 ⟨by decide, by decide⟩ rfl ?_
      obtain ⟨rfl, hp⟩ := Prod.mk.inj (Option.some.inj h)
      obtain ⟨rfl, rfl⟩ := Prod.mk.inj hp
      exact V_xiret hC hr hlk (by decide) (by decide) dX8_section_103
    have h := ite_f c11 h
    refine V_tableOut hC 104 dX8_section_25 (tsw_out (0) 4 x2 (tsw_cons c5 (by decide) (tsw_cons c7 (by decide) (tsw_cons c9 (by decide) (tsw_cons c11 (by decide) (tsw_nil))))) rfl) (by decide) ?_
    refine V_aload_n hC dX8_section_104 rfl 0 rfl ?_
    refine V_getR hC (r_s0_0) fw_X8_12 dX8_section_105 ?_
    refine V_getR hC (r_d0_0 (by decide)) fw_X8_52 dX8_section_108 ?_
    refine V_iload_n hC dX8_section_111 rfl 1 rfl ?_
    obtain ⟨q13, e13, h⟩ := bind_some h
    refine V_cVr hC [.int x1] (c_X7_subtreeOf (l := l) hC.2.2.2.2.2.2.2 (by decide) e13) kd_X7_subtreeOf kv_X7_subtreeOf gw_990 (r_d1_0 (by decide)).o rfl ⟨Nat.le_of_ble_eq_true rfl, Nat.le_of_ble_eq_true rfl⟩ rfl (Nat.le_of_ble_eq_true rfl) dX8_section_112 ⟨by decide, by decide⟩ rfl ?_
    refine V_cSr hC [.int q13] (c_J6_bitCount_0f7a4 (l := l) hC.2.2.2.2.2.2.2 rfl) kd_J6_bitCount_0f7a4 gw_517 gw_991 ⟨Nat.le_of_ble_eq_true rfl, Nat.le_of_ble_eq_true rfl⟩ rfl (Nat.le_of_ble_eq_true rfl) dX8_section_115 ⟨by decide, by decide⟩ rfl ?_
    refine V_iconst hC (1 : Int32) dX8_section_118 (by decide) ?_
    refine V_isub hC dX8_section_119 ?_
    obtain ⟨rfl, hp⟩ := Prod.mk.inj (Option.some.inj h)
    obtain ⟨rfl, rfl⟩ := Prod.mk.inj hp
    exact V_xiret hC hr hlk (by decide) (by decide) dX8_section_120
  · have h := ite_f z4 h
    obtain ⟨rfl, hp⟩ := Prod.mk.inj (Option.some.inj h)
    obtain ⟨-, rfl⟩ := Prod.mk.inj hp
    exact ⟨rfl, rfl⟩
theorem b_X8_child_23 {k0 : Nat} {rv : Int32} {Mf : Mem} {x3 : Int32} {z0 : Int32} {M : Mem} (hC : Cx p s m args c cX8_child RX8 4 G) (hr : meth.sig.returnType = some .int) (hlk : meth.locks = false) (hX : XF G s) (hlt : l.stackTraces = false) (hnt : ∀ x ∈ c.exceptionTable.toList, False) (h : B_X8_child_23 x3 z0 M = some (k0, rv, Mf)) : V p l e (rmx 9) s m args below meth c 4 G 0 0 (vx_MQ below (gQx G k0 (some (.int rv)) Mf) (gXx G k0 Mf) args s 1 6 (gA G)) 23 [(3, .int x3)] [.int z0] M := by
  refine V_iconst hC (1 : Int32) dX8_child_23 (by decide) ?_
  refine V_iconst hC (1 : Int32) dX8_child_24 (by decide) ?_
  refine V_cSr hC [.int z0, .int (1 : Int32), .int (1 : Int32)] (c_X8_faultOf (l := l) hC.2.2.2.2.2.2.2 rfl) kd_X8_faultOf gw_289 gw_916 ⟨Nat.le_of_ble_eq_true rfl, Nat.le_of_ble_eq_true rfl⟩ rfl (Nat.le_of_ble_eq_true rfl) dX8_child_25 ⟨by decide, by decide⟩ rfl ?_
  refine V_xref hC hX hnt hlk (c_X8_refuseFor (l := l) hlt hC.2.2.2.2.2.2.2) kd_X8_refuseFor gw_292 gw_291 ⟨Nat.le_of_ble_eq_true rfl, Nat.le_of_ble_eq_true rfl⟩ ⟨by decide, by decide⟩ (Nat.le_of_ble_eq_true rfl) dX8_child_28 (fun z4 => ?_) (fun z4 => ?_)
  · have h := ite_t z4 h
    refine V_iload_n hC dX8_child_31 rfl 0 rfl ?_
    obtain ⟨rfl, hp⟩ := Prod.mk.inj (Option.some.inj h)
    obtain ⟨rfl, rfl⟩ := Prod.mk.inj hp
    exact V_xiret hC hr hlk (by decide) (by decide) dX8_child_32
  · have h := ite_f z4 h
    obtain ⟨rfl, hp⟩ := Prod.mk.inj (Option.some.inj h)
    obtain ⟨-, rfl⟩ := Prod.mk.inj hp
    exact ⟨rfl, rfl⟩
theorem c_X8_child {l : Launch} {G : Geo} {x1 : Int32} {x2 : Int32} {k0 : Nat} {rv : Int32} {Mf : Mem} {M : Mem} (hlt : l.stackTraces = false) (hG : gD G) (h : f_X8_child x1 x2 M = some (k0, rv, Mf)) : vx_Met l yX8_child (.code yX8_child cX8_child 4 (some .int) :: GL) (rmx 9) (gPx G [.ref (adr G 6 0), .int x1, .int x2] M) (gQx G k0 (some (.int rv)) Mf) (gXx G k0 Mf) 1 6 (gA G) := by
  refine XMet_of (own := RX8) (L := [(0, .ref (adr G 6 0)), (1, .int x1), (2, .int x2)]) hG (by decide +kernel) rfl (Nat.le_of_ble_eq_true rfl) rfl ?_
  intro p e s m args below meth c hC hX hnt hr hlk
  refine V_aload_n hC dX8_child_0 rfl 0 rfl ?_
  refine V_getR hC (r_s0_0) fw_X8_12 dX8_child_1 ?_
  refine V_getR hC (r_d0_0 (by decide)) fw_X8_52 dX8_child_4 ?_
  refine V_iload_n hC dX8_child_7 rfl 1 rfl ?_
  refine V_iload_n hC dX8_child_8 rfl 2 rfl ?_
  obtain ⟨q1, e1, h⟩ := bind_some h
  refine V_cVr hC [.int x1, .int x2] (c_X7_childAt (l := l) hC.2.2.2.2.2.2.2 (by decide) e1) kd_X7_childAt kv_X7_childAt gw_1068 (r_d1_0 (by decide)).o rfl ⟨Nat.le_of_ble_eq_true rfl, Nat.le_of_ble_eq_true rfl⟩ rfl (Nat.le_of_ble_eq_true rfl) dX8_child_9 ⟨by decide, by decide⟩ rfl ?_
  refine V_istore_n hC ([(3, .int q1), (0, .ref (adr G 6 0)), (1, .int x1), (2, .int x2)]) dX8_child_12 rfl (by decide) rfl ?_
  refine V_iload_n hC dX8_child_13 rfl 0 rfl ?_
  refine V_iconst hC ((-1) : Int32) dX8_child_14 (by decide) ?_
  refine V_icmp_eq hC 22 dX8_child_15 (by decide) (fun c2 => ?_) (fun c2 => ?_)
  · have h := ite_t c2 h
    refine V_iconst hC (0 : Int32) dX8_child_22 (by decide) ?_
    refine V_sub [0] rfl ?_
    exact b_X8_child_23 hC hr hlk hX hlt hnt h
  · have h := ite_f c2 h
    refine V_iconst hC (1 : Int32) dX8_child_18 (by decide) ?_
    refine V_goto hC 23 dX8_child_19 (by decide) ?_
    refine V_sub [0] rfl ?_
    exact b_X8_child_23 hC hr hlk hX hlt hnt h
theorem c_X8_line {l : Launch} {G : Geo} {x1 : Int32} {x2 : Int32} {k0 : Nat} {rv : Int32} {Mf : Mem} {M : Mem} (hlt : l.stackTraces = false) (hG : gD G) (h : f_X8_line x1 x2 M = some (k0, rv, Mf)) : vx_Met l yX8_line (.code yX8_line cX8_line 3 (some .int) :: GL) (rmx 9) (gPx G [.ref (adr G 6 0), .int x1, .int x2] M) (gQx G k0 (some (.int rv)) Mf) (gXx G k0 Mf) 1 6 (gA G) := by
  refine XMet_of (own := RX8) (L := [(0, .ref (adr G 6 0)), (1, .int x1), (2, .int x2)]) hG (by decide +kernel) rfl (Nat.le_of_ble_eq_true rfl) rfl ?_
  intro p e s m args below meth c hC hX hnt hr hlk
  refine V_aload_n hC dX8_line_0 rfl 0 rfl ?_
  refine V_getR hC (r_s0_0) fw_X8_12 dX8_line_1 ?_
  refine V_iload_n hC dX8_line_4 rfl 1 rfl ?_
  refine V_iload_n hC dX8_line_5 rfl 2 rfl ?_
  obtain ⟨q1, e1, h⟩ := bind_some h
  refine V_cVr hC [.int x1, .int x2] (c_X1_hasLine (l := l) hC.2.2.2.2.2.2.2 (by decide) e1) kd_X1_hasLine kv_X1_hasLine gw_999 (r_d0_0 (by decide)).o rfl ⟨Nat.le_of_ble_eq_true rfl, Nat.le_of_ble_eq_true rfl⟩ rfl (Nat.le_of_ble_eq_true rfl) dX8_line_6 ⟨by decide, by decide⟩ rfl ?_
  refine V_iconst hC (1 : Int32) dX8_line_9 (by decide) ?_
  refine V_iconst hC (1 : Int32) dX8_line_10 (by decide) ?_
  refine V_cSr hC [.int q1, .int (1 : Int32), .int (1 : Int32)] (c_X8_faultOf (l := l) hC.2.2.2.2.2.2.2 rfl) kd_X8_faultOf gw_289 gw_916 ⟨Nat.le_of_ble_eq_true rfl, Nat.le_of_ble_eq_true rfl⟩ rfl (Nat.le_of_ble_eq_true rfl) dX8_line_11 ⟨by decide, by decide⟩ rfl ?_
  refine V_xref hC hX hnt hlk (c_X8_refuseFor (l := l) hlt hC.2.2.2.2.2.2.2) kd_X8_refuseFor gw_292 gw_291 ⟨Nat.le_of_ble_eq_true rfl, Nat.le_of_ble_eq_true rfl⟩ ⟨by decide, by decide⟩ (Nat.le_of_ble_eq_true rfl) dX8_line_14 (fun z3 => ?_) (fun z3 => ?_)
  · have h := ite_t z3 h
    refine V_aload_n hC dX8_line_17 rfl 0 rfl ?_
    refine V_getR hC (r_s0_0) fw_X8_12 dX8_line_18 ?_
    refine V_getR hC (r_d0_0 (by decide)) fw_X8_52 dX8_line_21 ?_
    refine V_iload_n hC dX8_line_24 rfl 1 rfl ?_
    refine V_iload_n hC dX8_line_25 rfl 2 rfl ?_
    refine V_cSr hC [.int x1, .int x2] (c_X8_cellOf (l := l) hC.2.2.2.2.2.2.2 rfl) kd_X8_cellOf gw_447 gw_1000 ⟨Nat.le_of_ble_eq_true rfl, Nat.le_of_ble_eq_true rfl⟩ rfl (Nat.le_of_ble_eq_true rfl) dX8_line_26 ⟨by decide, by decide⟩ rfl ?_
    obtain ⟨q5, e5, h⟩ := bind_some h
    refine V_cVr hC [.int (f_X8_cellOf x1 x2)] (c_X7_valueAt (l := l) hC.2.2.2.2.2.2.2 (by decide) e5) kd_X7_valueAt kv_X7_valueAt gw_1001 (r_d1_0 (by decide)).o rfl ⟨Nat.le_of_ble_eq_true rfl, Nat.le_of_ble_eq_true rfl⟩ rfl (Nat.le_of_ble_eq_true rfl) dX8_line_29 ⟨by decide, by decide⟩ rfl ?_
    obtain ⟨rfl, hp⟩ := Prod.mk.inj (Option.some.inj h)
    obtain ⟨rfl, rfl⟩ := Prod.mk.inj hp
    exact V_xiret hC hr hlk (by decide) (by decide) dX8_line_32
  · have h := ite_f z3 h
    obtain ⟨rfl, hp⟩ := Prod.mk.inj (Option.some.inj h)
    obtain ⟨-, rfl⟩ := Prod.mk.inj hp
    exact ⟨rfl, rfl⟩
theorem c_X8_write {l : Launch} {G : Geo} {x1 : Int32} {x2 : Int32} {x3 : Int32} {k0 : Nat} {rv : Int32} {Mf : Mem} {M : Mem} (hlt : l.stackTraces = false) (hG : gD G) (h : f_X8_write x1 x2 x3 M = some (k0, rv, Mf)) : vx_Met l yX8_write (.code yX8_write cX8_write 4 (some .int) :: GL) (rmx 9) (gPx G [.ref (adr G 6 0), .int x1, .int x2, .int x3] M) (gQx G k0 (some (.int rv)) Mf) (gXx G k0 Mf) 1 6 (gA G) := by
  refine XMet_of (own := RX8) (L := [(0, .ref (adr G 6 0)), (1, .int x1), (2, .int x2), (3, .int x3)]) hG (by decide +kernel) rfl (Nat.le_of_ble_eq_true rfl) rfl ?_
  intro p e s m args below meth c hC hX hnt hr hlk
  refine V_aload_n hC dX8_write_0 rfl 0 rfl ?_
  refine V_getR hC (r_s0_0) fw_X8_12 dX8_write_1 ?_
  refine V_iload_n hC dX8_write_4 rfl 1 rfl ?_
  refine V_iload_n hC dX8_write_5 rfl 2 rfl ?_
  refine V_iload_n hC dX8_write_6 rfl 3 rfl ?_
  obtain ⟨q1, e1, h⟩ := bind_some h
  refine V_cVr hC [.int x1, .int x2, .int x3] (c_X1_writeFault (l := l) hC.2.2.2.2.2.2.2 (by decide) e1) kd_X1_writeFault kv_X1_writeFault gw_553 (r_d0_0 (by decide)).o rfl ⟨Nat.le_of_ble_eq_true rfl, Nat.le_of_ble_eq_true rfl⟩ rfl (Nat.le_of_ble_eq_true rfl) dX8_write_7 ⟨by decide, by decide⟩ rfl ?_
  refine V_xref hC hX hnt hlk (c_X8_refuseFor (l := l) hlt hC.2.2.2.2.2.2.2) kd_X8_refuseFor gw_292 gw_291 ⟨Nat.le_of_ble_eq_true rfl, Nat.le_of_ble_eq_true rfl⟩ ⟨by decide, by decide⟩ (Nat.le_of_ble_eq_true rfl) dX8_write_10 (fun z2 => ?_) (fun z2 => ?_)
  · have h := ite_t z2 h
    refine V_aload_n hC dX8_write_13 rfl 0 rfl ?_
    refine V_getR hC (r_s0_2) fw_X8_22 dX8_write_14 ?_
    refine V_aload_n hC dX8_write_17 rfl 0 rfl ?_
    refine V_getR hC (r_s0_0) fw_X8_12 dX8_write_18 ?_
    obtain ⟨q3, e3, h⟩ := bind_some h
    refine V_cVv hC [.ref (adr G 0 0)] (c_X6_push (l := l) hC.2.2.2.2.2.2.2 (by decide) e3) kd_X6_push kv_X6_push gw_394 (r_s1_0).o rfl ⟨Nat.le_of_ble_eq_true rfl, Nat.le_of_ble_eq_true rfl⟩ rfl (Nat.le_of_ble_eq_true rfl) dX8_write_21 ⟨by decide, by decide⟩ rfl ?_
    refine V_aload_n hC dX8_write_24 rfl 0 rfl ?_
    refine V_getR hC (r_s0_0) fw_X8_12 dX8_write_25 ?_
    refine V_iload_n hC dX8_write_28 rfl 1 rfl ?_
    refine V_iload_n hC dX8_write_29 rfl 2 rfl ?_
    refine V_iload_n hC dX8_write_30 rfl 3 rfl ?_
    obtain ⟨q4, e4, h⟩ := bind_some h
    refine V_cVr hC [.int x1, .int x2, .int x3] (c_X1_writeNow (l := l) (rv := q4.1) (Mf := q4.2) hC.2.2.2.2.2.2.2 (by decide) e4) kd_X1_writeNow kv_X1_writeNow gw_565 (r_d0_0 (by decide)).o rfl ⟨Nat.le_of_ble_eq_true rfl, Nat.le_of_ble_eq_true rfl⟩ rfl (Nat.le_of_ble_eq_true rfl) dX8_write_31 ⟨by decide, by decide⟩ rfl ?_
    obtain ⟨rfl, hp⟩ := Prod.mk.inj (Option.some.inj h)
    obtain ⟨rfl, rfl⟩ := Prod.mk.inj hp
    exact V_xiret hC hr hlk (by decide) (by decide) dX8_write_34
  · have h := ite_f z2 h
    obtain ⟨rfl, hp⟩ := Prod.mk.inj (Option.some.inj h)
    obtain ⟨-, rfl⟩ := Prod.mk.inj hp
    exact ⟨rfl, rfl⟩
theorem c_X8_request {l : Launch} {G : Geo} {x1 : Int32} {x2 : Int32} {x3 : Int32} {x4 : Int32} {k0 : Nat} {rv : Int32} {Mf : Mem} {M : Mem} (hlt : l.stackTraces = false) (hG : gD G) (h : f_X8_request x1 x2 x3 x4 M = some (k0, rv, Mf)) : vx_Met l yX8_request (.code yX8_request cX8_request 5 (some .int) :: GL) (rmx 9) (gPx G [.ref (adr G 6 0), .int x1, .int x2, .int x3, .int x4] M) (gQx G k0 (some (.int rv)) Mf) (gXx G k0 Mf) 1 6 (gA G) := by
  refine XMet_of (own := RX8) (L := [(0, .ref (adr G 6 0)), (1, .int x1), (2, .int x2), (3, .int x3), (4, .int x4)]) hG (by decide +kernel) rfl (Nat.le_of_ble_eq_true rfl) rfl ?_
  intro p e s m args below meth c hC hX hnt hr hlk
  refine V_aload_n hC dX8_request_0 rfl 0 rfl ?_
  refine V_getR hC (r_s0_0) fw_X8_12 dX8_request_1 ?_
  refine V_iload_n hC dX8_request_4 rfl 1 rfl ?_
  refine V_iload_n hC dX8_request_5 rfl 2 rfl ?_
  refine V_iload_n hC dX8_request_6 rfl 3 rfl ?_
  refine V_iload hC dX8_request_7 4 rfl ?_
  obtain ⟨q1, e1, h⟩ := bind_some h
  refine V_cVr hC [.int x1, .int x2, .int x3, .int x4] (c_X1_requestFault (l := l) hC.2.2.2.2.2.2.2 (by decide) e1) kd_X1_requestFault kv_X1_requestFault gw_607 (r_d0_0 (by decide)).o rfl ⟨Nat.le_of_ble_eq_true rfl, Nat.le_of_ble_eq_true rfl⟩ rfl (Nat.le_of_ble_eq_true rfl) dX8_request_9 ⟨by decide, by decide⟩ rfl ?_
  refine V_xref hC hX hnt hlk (c_X8_refuseFor (l := l) hlt hC.2.2.2.2.2.2.2) kd_X8_refuseFor gw_292 gw_291 ⟨Nat.le_of_ble_eq_true rfl, Nat.le_of_ble_eq_true rfl⟩ ⟨by decide, by decide⟩ (Nat.le_of_ble_eq_true rfl) dX8_request_12 (fun z2 => ?_) (fun z2 => ?_)
  · have h := ite_t z2 h
    refine V_aload_n hC dX8_request_15 rfl 0 rfl ?_
    refine V_getR hC (r_s0_2) fw_X8_22 dX8_request_16 ?_
    refine V_aload_n hC dX8_request_19 rfl 0 rfl ?_
    refine V_getR hC (r_s0_0) fw_X8_12 dX8_request_20 ?_
    obtain ⟨q3, e3, h⟩ := bind_some h
    refine V_cVv hC [.ref (adr G 0 0)] (c_X6_push (l := l) hC.2.2.2.2.2.2.2 (by decide) e3) kd_X6_push kv_X6_push gw_394 (r_s1_0).o rfl ⟨Nat.le_of_ble_eq_true rfl, Nat.le_of_ble_eq_true rfl⟩ rfl (Nat.le_of_ble_eq_true rfl) dX8_request_23 ⟨by decide, by decide⟩ rfl ?_
    refine V_aload_n hC dX8_request_26 rfl 0 rfl ?_
    refine V_getR hC (r_s0_0) fw_X8_12 dX8_request_27 ?_
    refine V_iload_n hC dX8_request_30 rfl 1 rfl ?_
    refine V_iload_n hC dX8_request_31 rfl 2 rfl ?_
    refine V_iload_n hC dX8_request_32 rfl 3 rfl ?_
    refine V_iload hC dX8_request_33 4 rfl ?_
    obtain ⟨q4, e4, h⟩ := bind_some h
    refine V_cVr hC [.int x1, .int x2, .int x3, .int x4] (c_X1_requestNow (l := l) (rv := q4.1) (Mf := q4.2) hC.2.2.2.2.2.2.2 (by decide) e4) kd_X1_requestNow kv_X1_requestNow gw_629 (r_d0_0 (by decide)).o rfl ⟨Nat.le_of_ble_eq_true rfl, Nat.le_of_ble_eq_true rfl⟩ rfl (Nat.le_of_ble_eq_true rfl) dX8_request_35 ⟨by decide, by decide⟩ rfl ?_
    obtain ⟨rfl, hp⟩ := Prod.mk.inj (Option.some.inj h)
    obtain ⟨rfl, rfl⟩ := Prod.mk.inj hp
    exact V_xiret hC hr hlk (by decide) (by decide) dX8_request_38
  · have h := ite_f z2 h
    obtain ⟨rfl, hp⟩ := Prod.mk.inj (Option.some.inj h)
    obtain ⟨-, rfl⟩ := Prod.mk.inj hp
    exact ⟨rfl, rfl⟩
theorem c_X8_cancel {l : Launch} {G : Geo} {x1 : Int32} {k0 : Nat} {rv : Int32} {Mf : Mem} {M : Mem} (hlt : l.stackTraces = false) (hG : gD G) (h : f_X8_cancel x1 M = some (k0, rv, Mf)) : vx_Met l yX8_cancel (.code yX8_cancel cX8_cancel 2 (some .int) :: GL) (rmx 9) (gPx G [.ref (adr G 6 0), .int x1] M) (gQx G k0 (some (.int rv)) Mf) (gXx G k0 Mf) 1 6 (gA G) := by
  refine XMet_of (own := RX8) (L := [(0, .ref (adr G 6 0)), (1, .int x1)]) hG (by decide +kernel) rfl (Nat.le_of_ble_eq_true rfl) rfl ?_
  intro p e s m args below meth c hC hX hnt hr hlk
  refine V_aload_n hC dX8_cancel_0 rfl 0 rfl ?_
  refine V_getR hC (r_s0_0) fw_X8_12 dX8_cancel_1 ?_
  refine V_iload_n hC dX8_cancel_4 rfl 1 rfl ?_
  obtain ⟨q1, e1, h⟩ := bind_some h
  refine V_cVr hC [.int x1] (c_X1_waitingFault (l := l) hC.2.2.2.2.2.2.2 (by decide) e1) kd_X1_waitingFault kv_X1_waitingFault gw_727 (r_d0_0 (by decide)).o rfl ⟨Nat.le_of_ble_eq_true rfl, Nat.le_of_ble_eq_true rfl⟩ rfl (Nat.le_of_ble_eq_true rfl) dX8_cancel_5 ⟨by decide, by decide⟩ rfl ?_
  refine V_xref hC hX hnt hlk (c_X8_refuseFor (l := l) hlt hC.2.2.2.2.2.2.2) kd_X8_refuseFor gw_292 gw_291 ⟨Nat.le_of_ble_eq_true rfl, Nat.le_of_ble_eq_true rfl⟩ ⟨by decide, by decide⟩ (Nat.le_of_ble_eq_true rfl) dX8_cancel_8 (fun z2 => ?_) (fun z2 => ?_)
  · have h := ite_t z2 h
    refine V_aload_n hC dX8_cancel_11 rfl 0 rfl ?_
    refine V_getR hC (r_s0_2) fw_X8_22 dX8_cancel_12 ?_
    refine V_aload_n hC dX8_cancel_15 rfl 0 rfl ?_
    refine V_getR hC (r_s0_0) fw_X8_12 dX8_cancel_16 ?_
    obtain ⟨q3, e3, h⟩ := bind_some h
    refine V_cVv hC [.ref (adr G 0 0)] (c_X6_push (l := l) hC.2.2.2.2.2.2.2 (by decide) e3) kd_X6_push kv_X6_push gw_394 (r_s1_0).o rfl ⟨Nat.le_of_ble_eq_true rfl, Nat.le_of_ble_eq_true rfl⟩ rfl (Nat.le_of_ble_eq_true rfl) dX8_cancel_19 ⟨by decide, by decide⟩ rfl ?_
    refine V_aload_n hC dX8_cancel_22 rfl 0 rfl ?_
    refine V_getR hC (r_s0_0) fw_X8_12 dX8_cancel_23 ?_
    refine V_iload_n hC dX8_cancel_26 rfl 1 rfl ?_
    obtain ⟨q4, e4, h⟩ := bind_some h
    refine V_cVr hC [.int x1] (c_X1_cancelNow (l := l) (rv := q4.1) (Mf := q4.2) hC.2.2.2.2.2.2.2 (by decide) e4) kd_X1_cancelNow kv_X1_cancelNow gw_731 (r_d0_0 (by decide)).o rfl ⟨Nat.le_of_ble_eq_true rfl, Nat.le_of_ble_eq_true rfl⟩ rfl (Nat.le_of_ble_eq_true rfl) dX8_cancel_27 ⟨by decide, by decide⟩ rfl ?_
    obtain ⟨rfl, hp⟩ := Prod.mk.inj (Option.some.inj h)
    obtain ⟨rfl, rfl⟩ := Prod.mk.inj hp
    exact V_xiret hC hr hlk (by decide) (by decide) dX8_cancel_30
  · have h := ite_f z2 h
    obtain ⟨rfl, hp⟩ := Prod.mk.inj (Option.some.inj h)
    obtain ⟨-, rfl⟩ := Prod.mk.inj hp
    exact ⟨rfl, rfl⟩
theorem c_X8_renew {l : Launch} {G : Geo} {x1 : Int32} {x2 : Int32} {k0 : Nat} {rv : Int32} {Mf : Mem} {M : Mem} (hlt : l.stackTraces = false) (hG : gD G) (h : f_X8_renew x1 x2 M = some (k0, rv, Mf)) : vx_Met l yX8_renew (.code yX8_renew cX8_renew 3 (some .int) :: GL) (rmx 9) (gPx G [.ref (adr G 6 0), .int x1, .int x2] M) (gQx G k0 (some (.int rv)) Mf) (gXx G k0 Mf) 1 6 (gA G) := by
  refine XMet_of (own := RX8) (L := [(0, .ref (adr G 6 0)), (1, .int x1), (2, .int x2)]) hG (by decide +kernel) rfl (Nat.le_of_ble_eq_true rfl) rfl ?_
  intro p e s m args below meth c hC hX hnt hr hlk
  refine V_aload_n hC dX8_renew_0 rfl 0 rfl ?_
  refine V_getR hC (r_s0_0) fw_X8_12 dX8_renew_1 ?_
  refine V_iload_n hC dX8_renew_4 rfl 1 rfl ?_
  refine V_iload_n hC dX8_renew_5 rfl 2 rfl ?_
  obtain ⟨q1, e1, h⟩ := bind_some h
  refine V_cVr hC [.int x1, .int x2] (c_X1_renewFault (l := l) hC.2.2.2.2.2.2.2 (by decide) e1) kd_X1_renewFault kv_X1_renewFault gw_746 (r_d0_0 (by decide)).o rfl ⟨Nat.le_of_ble_eq_true rfl, Nat.le_of_ble_eq_true rfl⟩ rfl (Nat.le_of_ble_eq_true rfl) dX8_renew_6 ⟨by decide, by decide⟩ rfl ?_
  refine V_xref hC hX hnt hlk (c_X8_refuseFor (l := l) hlt hC.2.2.2.2.2.2.2) kd_X8_refuseFor gw_292 gw_291 ⟨Nat.le_of_ble_eq_true rfl, Nat.le_of_ble_eq_true rfl⟩ ⟨by decide, by decide⟩ (Nat.le_of_ble_eq_true rfl) dX8_renew_9 (fun z2 => ?_) (fun z2 => ?_)
  · have h := ite_t z2 h
    refine V_aload_n hC dX8_renew_12 rfl 0 rfl ?_
    refine V_getR hC (r_s0_2) fw_X8_22 dX8_renew_13 ?_
    refine V_aload_n hC dX8_renew_16 rfl 0 rfl ?_
    refine V_getR hC (r_s0_0) fw_X8_12 dX8_renew_17 ?_
    obtain ⟨q3, e3, h⟩ := bind_some h
    refine V_cVv hC [.ref (adr G 0 0)] (c_X6_push (l := l) hC.2.2.2.2.2.2.2 (by decide) e3) kd_X6_push kv_X6_push gw_394 (r_s1_0).o rfl ⟨Nat.le_of_ble_eq_true rfl, Nat.le_of_ble_eq_true rfl⟩ rfl (Nat.le_of_ble_eq_true rfl) dX8_renew_20 ⟨by decide, by decide⟩ rfl ?_
    refine V_aload_n hC dX8_renew_23 rfl 0 rfl ?_
    refine V_getR hC (r_s0_0) fw_X8_12 dX8_renew_24 ?_
    refine V_iload_n hC dX8_renew_27 rfl 1 rfl ?_
    refine V_iload_n hC dX8_renew_28 rfl 2 rfl ?_
    obtain ⟨q4, e4, h⟩ := bind_some h
    refine V_cVr hC [.int x1, .int x2] (c_X1_renewNow (l := l) (rv := q4.1) (Mf := q4.2) hC.2.2.2.2.2.2.2 (by decide) e4) kd_X1_renewNow kv_X1_renewNow gw_751 (r_d0_0 (by decide)).o rfl ⟨Nat.le_of_ble_eq_true rfl, Nat.le_of_ble_eq_true rfl⟩ rfl (Nat.le_of_ble_eq_true rfl) dX8_renew_29 ⟨by decide, by decide⟩ rfl ?_
    obtain ⟨rfl, hp⟩ := Prod.mk.inj (Option.some.inj h)
    obtain ⟨rfl, rfl⟩ := Prod.mk.inj hp
    exact V_xiret hC hr hlk (by decide) (by decide) dX8_renew_32
  · have h := ite_f z2 h
    obtain ⟨rfl, hp⟩ := Prod.mk.inj (Option.some.inj h)
    obtain ⟨-, rfl⟩ := Prod.mk.inj hp
    exact ⟨rfl, rfl⟩
theorem c_X8_breakUp {l : Launch} {G : Geo} {x1 : Int32} {k0 : Nat} {rv : Int32} {Mf : Mem} {M : Mem} (hlt : l.stackTraces = false) (hG : gD G) (h : f_X8_breakUp x1 M = some (k0, rv, Mf)) : vx_Met l yX8_breakUp (.code yX8_breakUp cX8_breakUp 2 (some .int) :: GL) (rmx 9) (gPx G [.ref (adr G 6 0), .int x1] M) (gQx G k0 (some (.int rv)) Mf) (gXx G k0 Mf) 1 6 (gA G) := by
  refine XMet_of (own := RX8) (L := [(0, .ref (adr G 6 0)), (1, .int x1)]) hG (by decide +kernel) rfl (Nat.le_of_ble_eq_true rfl) rfl ?_
  intro p e s m args below meth c hC hX hnt hr hlk
  refine V_aload_n hC dX8_breakUp_0 rfl 0 rfl ?_
  refine V_getR hC (r_s0_0) fw_X8_12 dX8_breakUp_1 ?_
  refine V_iload_n hC dX8_breakUp_4 rfl 1 rfl ?_
  obtain ⟨q1, e1, h⟩ := bind_some h
  refine V_cVr hC [.int x1] (c_X1_breakFault (l := l) hC.2.2.2.2.2.2.2 (by decide) e1) kd_X1_breakFault kv_X1_breakFault gw_766 (r_d0_0 (by decide)).o rfl ⟨Nat.le_of_ble_eq_true rfl, Nat.le_of_ble_eq_true rfl⟩ rfl (Nat.le_of_ble_eq_true rfl) dX8_breakUp_5 ⟨by decide, by decide⟩ rfl ?_
  refine V_xref hC hX hnt hlk (c_X8_refuseFor (l := l) hlt hC.2.2.2.2.2.2.2) kd_X8_refuseFor gw_292 gw_291 ⟨Nat.le_of_ble_eq_true rfl, Nat.le_of_ble_eq_true rfl⟩ ⟨by decide, by decide⟩ (Nat.le_of_ble_eq_true rfl) dX8_breakUp_8 (fun z2 => ?_) (fun z2 => ?_)
  · have h := ite_t z2 h
    refine V_aload_n hC dX8_breakUp_11 rfl 0 rfl ?_
    refine V_getR hC (r_s0_2) fw_X8_22 dX8_breakUp_12 ?_
    refine V_aload_n hC dX8_breakUp_15 rfl 0 rfl ?_
    refine V_getR hC (r_s0_0) fw_X8_12 dX8_breakUp_16 ?_
    obtain ⟨q3, e3, h⟩ := bind_some h
    refine V_cVv hC [.ref (adr G 0 0)] (c_X6_push (l := l) hC.2.2.2.2.2.2.2 (by decide) e3) kd_X6_push kv_X6_push gw_394 (r_s1_0).o rfl ⟨Nat.le_of_ble_eq_true rfl, Nat.le_of_ble_eq_true rfl⟩ rfl (Nat.le_of_ble_eq_true rfl) dX8_breakUp_19 ⟨by decide, by decide⟩ rfl ?_
    refine V_aload_n hC dX8_breakUp_22 rfl 0 rfl ?_
    refine V_getR hC (r_s0_0) fw_X8_12 dX8_breakUp_23 ?_
    refine V_iload_n hC dX8_breakUp_26 rfl 1 rfl ?_
    obtain ⟨q4, e4, h⟩ := bind_some h
    refine V_cVr hC [.int x1] (c_X1_breakNow (l := l) (rv := q4.1) (Mf := q4.2) hC.2.2.2.2.2.2.2 (by decide) e4) kd_X1_breakNow kv_X1_breakNow gw_770 (r_d0_0 (by decide)).o rfl ⟨Nat.le_of_ble_eq_true rfl, Nat.le_of_ble_eq_true rfl⟩ rfl (Nat.le_of_ble_eq_true rfl) dX8_breakUp_27 ⟨by decide, by decide⟩ rfl ?_
    obtain ⟨rfl, hp⟩ := Prod.mk.inj (Option.some.inj h)
    obtain ⟨rfl, rfl⟩ := Prod.mk.inj hp
    exact V_xiret hC hr hlk (by decide) (by decide) dX8_breakUp_30
  · have h := ite_f z2 h
    obtain ⟨rfl, hp⟩ := Prod.mk.inj (Option.some.inj h)
    obtain ⟨-, rfl⟩ := Prod.mk.inj hp
    exact ⟨rfl, rfl⟩
theorem c_X8_discard {l : Launch} {G : Geo} {x1 : Int32} {k0 : Nat} {rv : Int32} {Mf : Mem} {M : Mem} (hlt : l.stackTraces = false) (hG : gD G) (h : f_X8_discard x1 M = some (k0, rv, Mf)) : vx_Met l yX8_discard (.code yX8_discard cX8_discard 2 (some .int) :: GL) (rmx 9) (gPx G [.ref (adr G 6 0), .int x1] M) (gQx G k0 (some (.int rv)) Mf) (gXx G k0 Mf) 1 6 (gA G) := by
  refine XMet_of (own := RX8) (L := [(0, .ref (adr G 6 0)), (1, .int x1)]) hG (by decide +kernel) rfl (Nat.le_of_ble_eq_true rfl) rfl ?_
  intro p e s m args below meth c hC hX hnt hr hlk
  refine V_aload_n hC dX8_discard_0 rfl 0 rfl ?_
  refine V_getR hC (r_s0_0) fw_X8_12 dX8_discard_1 ?_
  refine V_iload_n hC dX8_discard_4 rfl 1 rfl ?_
  refine V_cVr hC [.int x1] (c_X1_checkOutFault (l := l) hC.2.2.2.2.2.2.2 (by decide) rfl) kd_X1_checkOutFault kv_X1_checkOutFault gw_1076 (r_d0_0 (by decide)).o rfl ⟨Nat.le_of_ble_eq_true rfl, Nat.le_of_ble_eq_true rfl⟩ rfl (Nat.le_of_ble_eq_true rfl) dX8_discard_5 ⟨by decide, by decide⟩ rfl ?_
  refine V_xref hC hX hnt hlk (c_X8_refuseFor (l := l) hlt hC.2.2.2.2.2.2.2) kd_X8_refuseFor gw_292 gw_291 ⟨Nat.le_of_ble_eq_true rfl, Nat.le_of_ble_eq_true rfl⟩ ⟨by decide, by decide⟩ (Nat.le_of_ble_eq_true rfl) dX8_discard_8 (fun z2 => ?_) (fun z2 => ?_)
  · have h := ite_t z2 h
    refine V_aload_n hC dX8_discard_11 rfl 0 rfl ?_
    refine V_getR hC (r_s0_2) fw_X8_22 dX8_discard_12 ?_
    refine V_aload_n hC dX8_discard_15 rfl 0 rfl ?_
    refine V_getR hC (r_s0_0) fw_X8_12 dX8_discard_16 ?_
    obtain ⟨q3, e3, h⟩ := bind_some h
    refine V_cVv hC [.ref (adr G 0 0)] (c_X6_push (l := l) hC.2.2.2.2.2.2.2 (by decide) e3) kd_X6_push kv_X6_push gw_394 (r_s1_0).o rfl ⟨Nat.le_of_ble_eq_true rfl, Nat.le_of_ble_eq_true rfl⟩ rfl (Nat.le_of_ble_eq_true rfl) dX8_discard_19 ⟨by decide, by decide⟩ rfl ?_
    refine V_aload_n hC dX8_discard_22 rfl 0 rfl ?_
    refine V_getR hC (r_s0_0) fw_X8_12 dX8_discard_23 ?_
    refine V_iload_n hC dX8_discard_26 rfl 1 rfl ?_
    obtain ⟨q4, e4, h⟩ := bind_some h
    refine V_cVr hC [.int x1] (c_X1_discardNow (l := l) (rv := q4.1) (Mf := q4.2) hC.2.2.2.2.2.2.2 (by decide) e4) kd_X1_discardNow kv_X1_discardNow gw_1080 (r_d0_0 (by decide)).o rfl ⟨Nat.le_of_ble_eq_true rfl, Nat.le_of_ble_eq_true rfl⟩ rfl (Nat.le_of_ble_eq_true rfl) dX8_discard_27 ⟨by decide, by decide⟩ rfl ?_
    obtain ⟨rfl, hp⟩ := Prod.mk.inj (Option.some.inj h)
    obtain ⟨rfl, rfl⟩ := Prod.mk.inj hp
    exact V_xiret hC hr hlk (by decide) (by decide) dX8_discard_30
  · have h := ite_f z2 h
    obtain ⟨rfl, hp⟩ := Prod.mk.inj (Option.some.inj h)
    obtain ⟨-, rfl⟩ := Prod.mk.inj hp
    exact ⟨rfl, rfl⟩
theorem c_X8_edit {l : Launch} {G : Geo} {x1 : Int32} {x2 : Int32} {x3 : Int32} {x4 : Int32} {k0 : Nat} {rv : Int32} {Mf : Mem} {M : Mem} (hlt : l.stackTraces = false) (hG : gD G) (h : f_X8_edit x1 x2 x3 x4 M = some (k0, rv, Mf)) : vx_Met l yX8_edit (.code yX8_edit cX8_edit 5 (some .int) :: GL) (rmx 9) (gPx G [.ref (adr G 6 0), .int x1, .int x2, .int x3, .int x4] M) (gQx G k0 (some (.int rv)) Mf) (gXx G k0 Mf) 1 6 (gA G) := by
  refine XMet_of (own := RX8) (L := [(0, .ref (adr G 6 0)), (1, .int x1), (2, .int x2), (3, .int x3), (4, .int x4)]) hG (by decide +kernel) rfl (Nat.le_of_ble_eq_true rfl) rfl ?_
  intro p e s m args below meth c hC hX hnt hr hlk
  refine V_aload_n hC dX8_edit_0 rfl 0 rfl ?_
  refine V_getR hC (r_s0_0) fw_X8_12 dX8_edit_1 ?_
  refine V_iload_n hC dX8_edit_4 rfl 1 rfl ?_
  refine V_iload_n hC dX8_edit_5 rfl 2 rfl ?_
  refine V_iload_n hC dX8_edit_6 rfl 3 rfl ?_
  refine V_iload hC dX8_edit_7 4 rfl ?_
  obtain ⟨q1, e1, h⟩ := bind_some h
  refine V_cVr hC [.int x1, .int x2, .int x3, .int x4] (c_X1_editFault (l := l) hC.2.2.2.2.2.2.2 (by decide) e1) kd_X1_editFault kv_X1_editFault gw_790 (r_d0_0 (by decide)).o rfl ⟨Nat.le_of_ble_eq_true rfl, Nat.le_of_ble_eq_true rfl⟩ rfl (Nat.le_of_ble_eq_true rfl) dX8_edit_9 ⟨by decide, by decide⟩ rfl ?_
  refine V_xref hC hX hnt hlk (c_X8_refuseFor (l := l) hlt hC.2.2.2.2.2.2.2) kd_X8_refuseFor gw_292 gw_291 ⟨Nat.le_of_ble_eq_true rfl, Nat.le_of_ble_eq_true rfl⟩ ⟨by decide, by decide⟩ (Nat.le_of_ble_eq_true rfl) dX8_edit_12 (fun z2 => ?_) (fun z2 => ?_)
  · have h := ite_t z2 h
    refine V_aload_n hC dX8_edit_15 rfl 0 rfl ?_
    refine V_getR hC (r_s0_2) fw_X8_22 dX8_edit_16 ?_
    refine V_aload_n hC dX8_edit_19 rfl 0 rfl ?_
    refine V_getR hC (r_s0_0) fw_X8_12 dX8_edit_20 ?_
    obtain ⟨q3, e3, h⟩ := bind_some h
    refine V_cVv hC [.ref (adr G 0 0)] (c_X6_push (l := l) hC.2.2.2.2.2.2.2 (by decide) e3) kd_X6_push kv_X6_push gw_394 (r_s1_0).o rfl ⟨Nat.le_of_ble_eq_true rfl, Nat.le_of_ble_eq_true rfl⟩ rfl (Nat.le_of_ble_eq_true rfl) dX8_edit_23 ⟨by decide, by decide⟩ rfl ?_
    refine V_aload_n hC dX8_edit_26 rfl 0 rfl ?_
    refine V_getR hC (r_s0_0) fw_X8_12 dX8_edit_27 ?_
    refine V_iload_n hC dX8_edit_30 rfl 1 rfl ?_
    refine V_iload_n hC dX8_edit_31 rfl 2 rfl ?_
    refine V_iload_n hC dX8_edit_32 rfl 3 rfl ?_
    refine V_iload hC dX8_edit_33 4 rfl ?_
    obtain ⟨q4, e4, h⟩ := bind_some h
    refine V_cVr hC [.int x1, .int x2, .int x3, .int x4] (c_X1_editNow (l := l) (rv := q4.1) (Mf := q4.2) hC.2.2.2.2.2.2.2 (by decide) e4) kd_X1_editNow kv_X1_editNow gw_802 (r_d0_0 (by decide)).o rfl ⟨Nat.le_of_ble_eq_true rfl, Nat.le_of_ble_eq_true rfl⟩ rfl (Nat.le_of_ble_eq_true rfl) dX8_edit_35 ⟨by decide, by decide⟩ rfl ?_
    obtain ⟨rfl, hp⟩ := Prod.mk.inj (Option.some.inj h)
    obtain ⟨rfl, rfl⟩ := Prod.mk.inj hp
    exact V_xiret hC hr hlk (by decide) (by decide) dX8_edit_38
  · have h := ite_f z2 h
    obtain ⟨rfl, hp⟩ := Prod.mk.inj (Option.some.inj h)
    obtain ⟨-, rfl⟩ := Prod.mk.inj hp
    exact ⟨rfl, rfl⟩
theorem c_X8_copied {l : Launch} {G : Geo} {x1 : Int32} {x2 : Int32} {x3 : Int32} {x4 : Int32} {k0 : Nat} {rv : Int32} {Mf : Mem} {M : Mem} (hlt : l.stackTraces = false) (hG : gD G) (h : f_X8_copied x1 x2 x3 x4 M = some (k0, rv, Mf)) : vx_Met l yX8_copied (.code yX8_copied cX8_copied 6 (some .int) :: GL) (rmx 9) (gPx G [.ref (adr G 6 0), .int x1, .int x2, .int x3, .int x4] M) (gQx G k0 (some (.int rv)) Mf) (gXx G k0 Mf) 1 6 (gA G) := by
  refine XMet_of (own := RX8) (L := [(0, .ref (adr G 6 0)), (1, .int x1), (2, .int x2), (3, .int x3), (4, .int x4)]) hG (by decide +kernel) rfl (Nat.le_of_ble_eq_true rfl) rfl ?_
  intro p e s m args below meth c hC hX hnt hr hlk
  refine V_aload_n hC dX8_copied_0 rfl 0 rfl ?_
  refine V_getR hC (r_s0_0) fw_X8_12 dX8_copied_1 ?_
  refine V_iload_n hC dX8_copied_4 rfl 1 rfl ?_
  refine V_iload_n hC dX8_copied_5 rfl 2 rfl ?_
  refine V_iload_n hC dX8_copied_6 rfl 3 rfl ?_
  obtain ⟨q1, e1, h⟩ := bind_some h
  refine V_cVr hC [.int x1, .int x2, .int x3] (c_X1_hasCopy (l := l) hC.2.2.2.2.2.2.2 (by decide) e1) kd_X1_hasCopy kv_X1_hasCopy gw_1033 (r_d0_0 (by decide)).o rfl ⟨Nat.le_of_ble_eq_true rfl, Nat.le_of_ble_eq_true rfl⟩ rfl (Nat.le_of_ble_eq_true rfl) dX8_copied_7 ⟨by decide, by decide⟩ rfl ?_
  refine V_iconst hC (1 : Int32) dX8_copied_10 (by decide) ?_
  refine V_iconst hC (1 : Int32) dX8_copied_11 (by decide) ?_
  refine V_cSr hC [.int q1, .int (1 : Int32), .int (1 : Int32)] (c_X8_faultOf (l := l) hC.2.2.2.2.2.2.2 rfl) kd_X8_faultOf gw_289 gw_916 ⟨Nat.le_of_ble_eq_true rfl, Nat.le_of_ble_eq_true rfl⟩ rfl (Nat.le_of_ble_eq_true rfl) dX8_copied_12 ⟨by decide, by decide⟩ rfl ?_
  refine V_xref hC hX hnt hlk (c_X8_refuseFor (l := l) hlt hC.2.2.2.2.2.2.2) kd_X8_refuseFor gw_292 gw_291 ⟨Nat.le_of_ble_eq_true rfl, Nat.le_of_ble_eq_true rfl⟩ ⟨by decide, by decide⟩ (Nat.le_of_ble_eq_true rfl) dX8_copied_15 (fun z3 => ?_) (fun z3 => ?_)
  · have h := ite_t z3 h
    refine V_iload_n hC dX8_copied_18 rfl 2 rfl ?_
    refine V_iload_n hC dX8_copied_19 rfl 3 rfl ?_
    refine V_cSr hC [.int x2, .int x3] (c_X8_cellOf (l := l) hC.2.2.2.2.2.2.2 rfl) kd_X8_cellOf gw_447 gw_1000 ⟨Nat.le_of_ble_eq_true rfl, Nat.le_of_ble_eq_true rfl⟩ rfl (Nat.le_of_ble_eq_true rfl) dX8_copied_20 ⟨by decide, by decide⟩ rfl ?_
    refine V_istore hC ([(5, .int (f_X8_cellOf x2 x3)), (0, .ref (adr G 6 0)), (1, .int x1), (2, .int x2), (3, .int x3), (4, .int x4)]) dX8_copied_23 (by decide) rfl ?_
    refine V_iload hC dX8_copied_25 5 rfl ?_
    refine V_if_eq hC 46 dX8_copied_27 (by decide) (fun c5 => ?_) (fun c5 => ?_)
    · have h := ite_t c5 h
      refine V_aload_n hC dX8_copied_46 rfl 1 rfl ?_
      refine V_getR hC (r_s0_0) fw_X8_12 dX8_copied_47 ?_
      refine V_getR hC (r_d0_1 (by decide)) fw_X8_172 dX8_copied_50 ?_
      refine V_iload_n hC dX8_copied_53 rfl 2 rfl ?_
      refine V_iload hC dX8_copied_54 0 rfl ?_
      obtain ⟨q6, e6, h⟩ := bind_some h
      refine V_cVr hC [.int x1, .int (f_X8_cellOf x2 x3)] (c_X0_ownAt (l := l) hC.2.2.2.2.2.2.2 (by decide) e6) kd_X0_ownAt kv_X0_ownAt gw_1035 (r_d8_0 (by decide)).o rfl ⟨Nat.le_of_ble_eq_true rfl, Nat.le_of_ble_eq_true rfl⟩ rfl (Nat.le_of_ble_eq_true rfl) dX8_copied_56 ⟨by decide, by decide⟩ rfl ?_
      obtain ⟨rfl, hp⟩ := Prod.mk.inj (Option.some.inj h)
      obtain ⟨rfl, rfl⟩ := Prod.mk.inj hp
      exact V_xiret hC hr hlk (by decide) (by decide) dX8_copied_59
    · have h := ite_f c5 h
      refine V_aload_n hC dX8_copied_30 rfl 1 rfl ?_
      refine V_getR hC (r_s0_0) fw_X8_12 dX8_copied_31 ?_
      refine V_getR hC (r_d0_1 (by decide)) fw_X8_172 dX8_copied_34 ?_
      refine V_iload_n hC dX8_copied_37 rfl 2 rfl ?_
      refine V_iload hC dX8_copied_38 0 rfl ?_
      obtain ⟨q7, e7, h⟩ := bind_some h
      refine V_cVr hC [.int x1, .int (f_X8_cellOf x2 x3)] (c_X0_baseAt (l := l) hC.2.2.2.2.2.2.2 (by decide) e7) kd_X0_baseAt kv_X0_baseAt gw_1034 (r_d8_0 (by decide)).o rfl ⟨Nat.le_of_ble_eq_true rfl, Nat.le_of_ble_eq_true rfl⟩ rfl (Nat.le_of_ble_eq_true rfl) dX8_copied_40 ⟨by decide, by decide⟩ rfl ?_
      refine V_goto hC 59 dX8_copied_43 (by decide) ?_
      obtain ⟨rfl, hp⟩ := Prod.mk.inj (Option.some.inj h)
      obtain ⟨rfl, rfl⟩ := Prod.mk.inj hp
      exact V_xiret hC hr hlk (by decide) (by decide) dX8_copied_59
  · have h := ite_f z3 h
    obtain ⟨rfl, hp⟩ := Prod.mk.inj (Option.some.inj h)
    obtain ⟨-, rfl⟩ := Prod.mk.inj hp
    exact ⟨rfl, rfl⟩
theorem c_X8_conflicts {l : Launch} {G : Geo} {x1 : Int32} {k0 : Nat} {rv : Int32} {Mf : Mem} {M : Mem} (hlt : l.stackTraces = false) (hG : gD G) (h : f_X8_conflicts x1 M = some (k0, rv, Mf)) : vx_Met l yX8_conflicts (.code yX8_conflicts cX8_conflicts 2 (some .int) :: GL) (rmx 9) (gPx G [.ref (adr G 6 0), .int x1] M) (gQx G k0 (some (.int rv)) Mf) (gXx G k0 Mf) 1 6 (gA G) := by
  refine XMet_of (own := RX8) (L := [(0, .ref (adr G 6 0)), (1, .int x1)]) hG (by decide +kernel) rfl (Nat.le_of_ble_eq_true rfl) rfl ?_
  intro p e s m args below meth c hC hX hnt hr hlk
  refine V_aload_n hC dX8_conflicts_0 rfl 0 rfl ?_
  refine V_getR hC (r_s0_0) fw_X8_12 dX8_conflicts_1 ?_
  refine V_iload_n hC dX8_conflicts_4 rfl 1 rfl ?_
  refine V_cVr hC [.int x1] (c_X1_checkOutFault (l := l) hC.2.2.2.2.2.2.2 (by decide) rfl) kd_X1_checkOutFault kv_X1_checkOutFault gw_1076 (r_d0_0 (by decide)).o rfl ⟨Nat.le_of_ble_eq_true rfl, Nat.le_of_ble_eq_true rfl⟩ rfl (Nat.le_of_ble_eq_true rfl) dX8_conflicts_5 ⟨by decide, by decide⟩ rfl ?_
  refine V_xref hC hX hnt hlk (c_X8_refuseFor (l := l) hlt hC.2.2.2.2.2.2.2) kd_X8_refuseFor gw_292 gw_291 ⟨Nat.le_of_ble_eq_true rfl, Nat.le_of_ble_eq_true rfl⟩ ⟨by decide, by decide⟩ (Nat.le_of_ble_eq_true rfl) dX8_conflicts_8 (fun z2 => ?_) (fun z2 => ?_)
  · have h := ite_t z2 h
    refine V_aload_n hC dX8_conflicts_11 rfl 0 rfl ?_
    refine V_getR hC (r_s0_0) fw_X8_12 dX8_conflicts_12 ?_
    refine V_iload_n hC dX8_conflicts_15 rfl 1 rfl ?_
    obtain ⟨q3, e3, h⟩ := bind_some h
    refine V_cVr hC [.int x1] (c_X1_countConflicts (l := l) hC.2.2.2.2.2.2.2 (by decide) e3) kd_X1_countConflicts kv_X1_countConflicts gw_1158 (r_d0_0 (by decide)).o rfl ⟨Nat.le_of_ble_eq_true rfl, Nat.le_of_ble_eq_true rfl⟩ rfl (Nat.le_of_ble_eq_true rfl) dX8_conflicts_16 ⟨by decide, by decide⟩ rfl ?_
    obtain ⟨rfl, hp⟩ := Prod.mk.inj (Option.some.inj h)
    obtain ⟨rfl, rfl⟩ := Prod.mk.inj hp
    exact V_xiret hC hr hlk (by decide) (by decide) dX8_conflicts_19
  · have h := ite_f z2 h
    obtain ⟨rfl, hp⟩ := Prod.mk.inj (Option.some.inj h)
    obtain ⟨-, rfl⟩ := Prod.mk.inj hp
    exact ⟨rfl, rfl⟩
theorem c_X8_giveBack {l : Launch} {G : Geo} {x1 : Int32} {x2 : Int32} {k0 : Nat} {rv : Int32} {Mf : Mem} {M : Mem} (hlt : l.stackTraces = false) (hG : gD G) (h : f_X8_giveBack x1 x2 M = some (k0, rv, Mf)) : vx_Met l yX8_giveBack (.code yX8_giveBack cX8_giveBack 3 (some .int) :: GL) (rmx 9) (gPx G [.ref (adr G 6 0), .int x1, .int x2] M) (gQx G k0 (some (.int rv)) Mf) (gXx G k0 Mf) 1 6 (gA G) := by
  refine XMet_of (own := RX8) (L := [(0, .ref (adr G 6 0)), (1, .int x1), (2, .int x2)]) hG (by decide +kernel) rfl (Nat.le_of_ble_eq_true rfl) rfl ?_
  intro p e s m args below meth c hC hX hnt hr hlk
  refine V_aload_n hC dX8_giveBack_0 rfl 0 rfl ?_
  refine V_getR hC (r_s0_0) fw_X8_12 dX8_giveBack_1 ?_
  refine V_iload_n hC dX8_giveBack_4 rfl 1 rfl ?_
  refine V_iload_n hC dX8_giveBack_5 rfl 2 rfl ?_
  obtain ⟨q1, e1, h⟩ := bind_some h
  refine V_cVr hC [.int x1, .int x2] (c_X1_giveBackFault (l := l) hC.2.2.2.2.2.2.2 (by decide) e1) kd_X1_giveBackFault kv_X1_giveBackFault gw_815 (r_d0_0 (by decide)).o rfl ⟨Nat.le_of_ble_eq_true rfl, Nat.le_of_ble_eq_true rfl⟩ rfl (Nat.le_of_ble_eq_true rfl) dX8_giveBack_6 ⟨by decide, by decide⟩ rfl ?_
  refine V_xref hC hX hnt hlk (c_X8_refuseFor (l := l) hlt hC.2.2.2.2.2.2.2) kd_X8_refuseFor gw_292 gw_291 ⟨Nat.le_of_ble_eq_true rfl, Nat.le_of_ble_eq_true rfl⟩ ⟨by decide, by decide⟩ (Nat.le_of_ble_eq_true rfl) dX8_giveBack_9 (fun z2 => ?_) (fun z2 => ?_)
  · have h := ite_t z2 h
    refine V_aload_n hC dX8_giveBack_12 rfl 0 rfl ?_
    refine V_getR hC (r_s0_2) fw_X8_22 dX8_giveBack_13 ?_
    refine V_aload_n hC dX8_giveBack_16 rfl 0 rfl ?_
    refine V_getR hC (r_s0_0) fw_X8_12 dX8_giveBack_17 ?_
    obtain ⟨q3, e3, h⟩ := bind_some h
    refine V_cVv hC [.ref (adr G 0 0)] (c_X6_push (l := l) hC.2.2.2.2.2.2.2 (by decide) e3) kd_X6_push kv_X6_push gw_394 (r_s1_0).o rfl ⟨Nat.le_of_ble_eq_true rfl, Nat.le_of_ble_eq_true rfl⟩ rfl (Nat.le_of_ble_eq_true rfl) dX8_giveBack_20 ⟨by decide, by decide⟩ rfl ?_
    refine V_aload_n hC dX8_giveBack_23 rfl 0 rfl ?_
    refine V_getR hC (r_s0_0) fw_X8_12 dX8_giveBack_24 ?_
    refine V_iload_n hC dX8_giveBack_27 rfl 1 rfl ?_
    refine V_iload_n hC dX8_giveBack_28 rfl 2 rfl ?_
    obtain ⟨q4, e4, h⟩ := bind_some h
    refine V_cVr hC [.int x1, .int x2] (c_X1_giveBackNow (l := l) (rv := q4.1) (Mf := q4.2) hC.2.2.2.2.2.2.2 (by decide) e4) kd_X1_giveBackNow kv_X1_giveBackNow gw_832 (r_d0_0 (by decide)).o rfl ⟨Nat.le_of_ble_eq_true rfl, Nat.le_of_ble_eq_true rfl⟩ rfl (Nat.le_of_ble_eq_true rfl) dX8_giveBack_29 ⟨by decide, by decide⟩ rfl ?_
    obtain ⟨rfl, hp⟩ := Prod.mk.inj (Option.some.inj h)
    obtain ⟨rfl, rfl⟩ := Prod.mk.inj hp
    exact V_xiret hC hr hlk (by decide) (by decide) dX8_giveBack_32
  · have h := ite_f z2 h
    obtain ⟨rfl, hp⟩ := Prod.mk.inj (Option.some.inj h)
    obtain ⟨-, rfl⟩ := Prod.mk.inj hp
    exact ⟨rfl, rfl⟩
theorem c_X8_checkOut {l : Launch} {G : Geo} {x1 : Int32} {x2 : Int32} {k0 : Nat} {rv : Int32} {Mf : Mem} {M : Mem} (hlt : l.stackTraces = false) (hG : gD G) (h : f_X8_checkOut x1 x2 M = some (k0, rv, Mf)) : vx_Met l yX8_checkOut (.code yX8_checkOut cX8_checkOut 3 (some .int) :: GL) (rmx 9) (gPx G [.ref (adr G 6 0), .int x1, .int x2] M) (gQx G k0 (some (.int rv)) Mf) (gXx G k0 Mf) 1 6 (gA G) := by
  refine XMet_of (own := RX8) (L := [(0, .ref (adr G 6 0)), (1, .int x1), (2, .int x2)]) hG (by decide +kernel) rfl (Nat.le_of_ble_eq_true rfl) rfl ?_
  intro p e s m args below meth c hC hX hnt hr hlk
  refine V_aload_n hC dX8_checkOut_0 rfl 0 rfl ?_
  refine V_getR hC (r_s0_0) fw_X8_12 dX8_checkOut_1 ?_
  refine V_getR hC (r_d0_1 (by decide)) fw_X8_172 dX8_checkOut_4 ?_
  refine V_iload_n hC dX8_checkOut_7 rfl 1 rfl ?_
  refine V_cVr hC [.int x1] (c_X0_has (l := l) hC.2.2.2.2.2.2.2 (by decide) rfl) kd_X0_has kv_X0_has gw_1020 (r_d8_0 (by decide)).o rfl ⟨Nat.le_of_ble_eq_true rfl, Nat.le_of_ble_eq_true rfl⟩ rfl (Nat.le_of_ble_eq_true rfl) dX8_checkOut_8 ⟨by decide, by decide⟩ rfl ?_
  refine V_iload_n hC dX8_checkOut_11 rfl 2 rfl ?_
  refine V_iconst hC (0 : Int32) dX8_checkOut_12 (by decide) ?_
  refine V_iconst hC (5 : Int32) dX8_checkOut_13 (by decide) ?_
  refine V_cSr hC [.int x2, .int (0 : Int32), .int (5 : Int32)] (c_X8_isWithin (l := l) hC.2.2.2.2.2.2.2 rfl) kd_X8_isWithin gw_444 gw_456 ⟨Nat.le_of_ble_eq_true rfl, Nat.le_of_ble_eq_true rfl⟩ rfl (Nat.le_of_ble_eq_true rfl) dX8_checkOut_14 ⟨by decide, by decide⟩ rfl ?_
  refine V_iconst hC (1 : Int32) dX8_checkOut_17 (by decide) ?_
  refine V_cSr hC [.int (f_X0_has 0 x1 M), .int (f_X8_isWithin x2 (0 : Int32) (5 : Int32)), .int (1 : Int32)] (c_X8_faultOf (l := l) hC.2.2.2.2.2.2.2 rfl) kd_X8_faultOf gw_289 gw_916 ⟨Nat.le_of_ble_eq_true rfl, Nat.le_of_ble_eq_true rfl⟩ rfl (Nat.le_of_ble_eq_true rfl) dX8_checkOut_18 ⟨by decide, by decide⟩ rfl ?_
  refine V_xref hC hX hnt hlk (c_X8_refuseFor (l := l) hlt hC.2.2.2.2.2.2.2) kd_X8_refuseFor gw_292 gw_291 ⟨Nat.le_of_ble_eq_true rfl, Nat.le_of_ble_eq_true rfl⟩ ⟨by decide, by decide⟩ (Nat.le_of_ble_eq_true rfl) dX8_checkOut_21 (fun z4 => ?_) (fun z4 => ?_)
  · have h := ite_t z4 h
    refine V_iload_n hC dX8_checkOut_24 rfl 2 rfl ?_
    refine V_iconst hC (5 : Int32) dX8_checkOut_25 (by decide) ?_
    refine V_icmp_ge hC 44 dX8_checkOut_26 (by decide) (fun c5 => ?_) (fun c5 => ?_)
    · have h := ite_t c5 h
      refine V_aload_n hC dX8_checkOut_44 rfl 0 rfl ?_
      refine V_getR hC (r_s0_0) fw_X8_12 dX8_checkOut_45 ?_
      refine V_iload_n hC dX8_checkOut_48 rfl 1 rfl ?_
      obtain ⟨q6, e6, h⟩ := bind_some h
      refine V_cVr hC [.int x1] (c_X1_countEdited (l := l) hC.2.2.2.2.2.2.2 (by decide) e6) kd_X1_countEdited kv_X1_countEdited gw_1022 (r_d0_0 (by decide)).o rfl ⟨Nat.le_of_ble_eq_true rfl, Nat.le_of_ble_eq_true rfl⟩ rfl (Nat.le_of_ble_eq_true rfl) dX8_checkOut_49 ⟨by decide, by decide⟩ rfl ?_
      obtain ⟨rfl, hp⟩ := Prod.mk.inj (Option.some.inj h)
      obtain ⟨rfl, rfl⟩ := Prod.mk.inj hp
      exact V_xiret hC hr hlk (by decide) (by decide) dX8_checkOut_52
    · have h := ite_f c5 h
      refine V_aload_n hC dX8_checkOut_29 rfl 0 rfl ?_
      refine V_getR hC (r_s0_0) fw_X8_12 dX8_checkOut_30 ?_
      refine V_getR hC (r_d0_1 (by decide)) fw_X8_172 dX8_checkOut_33 ?_
      refine V_iload_n hC dX8_checkOut_36 rfl 1 rfl ?_
      refine V_iload_n hC dX8_checkOut_37 rfl 2 rfl ?_
      obtain ⟨q7, e7, h⟩ := bind_some h
      refine V_cVr hC [.int x1, .int x2] (c_X0_fact (l := l) hC.2.2.2.2.2.2.2 (by decide) e7) kd_X0_fact kv_X0_fact gw_1021 (r_d8_0 (by decide)).o rfl ⟨Nat.le_of_ble_eq_true rfl, Nat.le_of_ble_eq_true rfl⟩ rfl (Nat.le_of_ble_eq_true rfl) dX8_checkOut_38 ⟨by decide, by decide⟩ rfl ?_
      refine V_goto hC 52 dX8_checkOut_41 (by decide) ?_
      obtain ⟨rfl, hp⟩ := Prod.mk.inj (Option.some.inj h)
      obtain ⟨rfl, rfl⟩ := Prod.mk.inj hp
      exact V_xiret hC hr hlk (by decide) (by decide) dX8_checkOut_52
  · have h := ite_f z4 h
    obtain ⟨rfl, hp⟩ := Prod.mk.inj (Option.some.inj h)
    obtain ⟨-, rfl⟩ := Prod.mk.inj hp
    exact ⟨rfl, rfl⟩
theorem c_X8_holders {l : Launch} {G : Geo} {x1 : Int32} {k0 : Nat} {rv : Int32} {Mf : Mem} {M : Mem} (hlt : l.stackTraces = false) (hG : gD G) (h : f_X8_holders x1 M = some (k0, rv, Mf)) : vx_Met l yX8_holders (.code yX8_holders cX8_holders 2 (some .int) :: GL) (rmx 9) (gPx G [.ref (adr G 6 0), .int x1] M) (gQx G k0 (some (.int rv)) Mf) (gXx G k0 Mf) 1 6 (gA G) := by
  refine XMet_of (own := RX8) (L := [(0, .ref (adr G 6 0)), (1, .int x1)]) hG (by decide +kernel) rfl (Nat.le_of_ble_eq_true rfl) rfl ?_
  intro p e s m args below meth c hC hX hnt hr hlk
  refine V_aload_n hC dX8_holders_0 rfl 0 rfl ?_
  refine V_getR hC (r_s0_0) fw_X8_12 dX8_holders_1 ?_
  refine V_getR hC (r_d0_0 (by decide)) fw_X8_52 dX8_holders_4 ?_
  refine V_iload_n hC dX8_holders_7 rfl 1 rfl ?_
  obtain ⟨q1, e1, h⟩ := bind_some h
  refine V_cVr hC [.int x1] (c_X7_has (l := l) hC.2.2.2.2.2.2.2 (by decide) e1) kd_X7_has kv_X7_has gw_983 (r_d1_0 (by decide)).o rfl ⟨Nat.le_of_ble_eq_true rfl, Nat.le_of_ble_eq_true rfl⟩ rfl (Nat.le_of_ble_eq_true rfl) dX8_holders_8 ⟨by decide, by decide⟩ rfl ?_
  refine V_iconst hC (1 : Int32) dX8_holders_11 (by decide) ?_
  refine V_iconst hC (1 : Int32) dX8_holders_12 (by decide) ?_
  refine V_cSr hC [.int q1, .int (1 : Int32), .int (1 : Int32)] (c_X8_faultOf (l := l) hC.2.2.2.2.2.2.2 rfl) kd_X8_faultOf gw_289 gw_916 ⟨Nat.le_of_ble_eq_true rfl, Nat.le_of_ble_eq_true rfl⟩ rfl (Nat.le_of_ble_eq_true rfl) dX8_holders_13 ⟨by decide, by decide⟩ rfl ?_
  refine V_xref hC hX hnt hlk (c_X8_refuseFor (l := l) hlt hC.2.2.2.2.2.2.2) kd_X8_refuseFor gw_292 gw_291 ⟨Nat.le_of_ble_eq_true rfl, Nat.le_of_ble_eq_true rfl⟩ ⟨by decide, by decide⟩ (Nat.le_of_ble_eq_true rfl) dX8_holders_16 (fun z3 => ?_) (fun z3 => ?_)
  · have h := ite_t z3 h
    refine V_aload_n hC dX8_holders_19 rfl 0 rfl ?_
    refine V_getR hC (r_s0_0) fw_X8_12 dX8_holders_20 ?_
    refine V_iload_n hC dX8_holders_23 rfl 1 rfl ?_
    obtain ⟨q4, e4, h⟩ := bind_some h
    refine V_cVr hC [.int x1] (c_X1_holdersOf (l := l) hC.2.2.2.2.2.2.2 (by decide) e4) kd_X1_holdersOf kv_X1_holdersOf gw_1009 (r_d0_0 (by decide)).o rfl ⟨Nat.le_of_ble_eq_true rfl, Nat.le_of_ble_eq_true rfl⟩ rfl (Nat.le_of_ble_eq_true rfl) dX8_holders_24 ⟨by decide, by decide⟩ rfl ?_
    obtain ⟨rfl, hp⟩ := Prod.mk.inj (Option.some.inj h)
    obtain ⟨rfl, rfl⟩ := Prod.mk.inj hp
    exact V_xiret hC hr hlk (by decide) (by decide) dX8_holders_27
  · have h := ite_f z3 h
    obtain ⟨rfl, hp⟩ := Prod.mk.inj (Option.some.inj h)
    obtain ⟨-, rfl⟩ := Prod.mk.inj hp
    exact ⟨rfl, rfl⟩
theorem c_X8_ifBroken {l : Launch} {G : Geo} {x1 : Int32} {k0 : Nat} {rv : Int32} {Mf : Mem} {M : Mem} (hlt : l.stackTraces = false) (hG : gD G) (h : f_X8_ifBroken x1 M = some (k0, rv, Mf)) : vx_Met l yX8_ifBroken (.code yX8_ifBroken cX8_ifBroken 2 (some .int) :: GL) (rmx 9) (gPx G [.ref (adr G 6 0), .int x1] M) (gQx G k0 (some (.int rv)) Mf) (gXx G k0 Mf) 1 6 (gA G) := by
  refine XMet_of (own := RX8) (L := [(0, .ref (adr G 6 0)), (1, .int x1)]) hG (by decide +kernel) rfl (Nat.le_of_ble_eq_true rfl) rfl ?_
  intro p e s m args below meth c hC hX hnt hr hlk
  refine V_aload_n hC dX8_ifBroken_0 rfl 0 rfl ?_
  refine V_getR hC (r_s0_0) fw_X8_12 dX8_ifBroken_1 ?_
  refine V_iload_n hC dX8_ifBroken_4 rfl 1 rfl ?_
  refine V_cVr hC [.int x1] (c_X1_checkOutFault (l := l) hC.2.2.2.2.2.2.2 (by decide) rfl) kd_X1_checkOutFault kv_X1_checkOutFault gw_1076 (r_d0_0 (by decide)).o rfl ⟨Nat.le_of_ble_eq_true rfl, Nat.le_of_ble_eq_true rfl⟩ rfl (Nat.le_of_ble_eq_true rfl) dX8_ifBroken_5 ⟨by decide, by decide⟩ rfl ?_
  refine V_xref hC hX hnt hlk (c_X8_refuseFor (l := l) hlt hC.2.2.2.2.2.2.2) kd_X8_refuseFor gw_292 gw_291 ⟨Nat.le_of_ble_eq_true rfl, Nat.le_of_ble_eq_true rfl⟩ ⟨by decide, by decide⟩ (Nat.le_of_ble_eq_true rfl) dX8_ifBroken_8 (fun z2 => ?_) (fun z2 => ?_)
  · have h := ite_t z2 h
    refine V_aload_n hC dX8_ifBroken_11 rfl 0 rfl ?_
    refine V_getR hC (r_s0_0) fw_X8_12 dX8_ifBroken_12 ?_
    refine V_getR hC (r_d0_1 (by decide)) fw_X8_172 dX8_ifBroken_15 ?_
    refine V_iload_n hC dX8_ifBroken_18 rfl 1 rfl ?_
    obtain ⟨q3, e3, h⟩ := bind_some h
    refine V_cVr hC [.int x1] (c_X0_isHeld (l := l) hC.2.2.2.2.2.2.2 (by decide) e3) kd_X0_isHeld kv_X0_isHeld gw_1092 (r_d8_0 (by decide)).o rfl ⟨Nat.le_of_ble_eq_true rfl, Nat.le_of_ble_eq_true rfl⟩ rfl (Nat.le_of_ble_eq_true rfl) dX8_ifBroken_19 ⟨by decide, by decide⟩ rfl ?_
    refine V_if_ne hC 27 dX8_ifBroken_22 (by decide) (fun c4 => ?_) (fun c4 => ?_)
    · have h := ite_f c4 h
      refine V_aload_n hC dX8_ifBroken_27 rfl 0 rfl ?_
      refine V_getR hC (r_s0_1) fw_X8_16 dX8_ifBroken_28 ?_
      refine V_aload_n hC dX8_ifBroken_31 rfl 0 rfl ?_
      refine V_getR hC (r_s0_0) fw_X8_12 dX8_ifBroken_32 ?_
      obtain ⟨q5, e5, h⟩ := bind_some h
      refine V_cVv hC [.ref (adr G 0 0)] (c_X1_copyFrom (l := l) hC.2.2.2.2.2.2.2 (by decide) (by decide) e5) kd_X1_copyFrom kv_X1_copyFrom gw_1093 (r_d0_0 (by decide)).o rfl ⟨Nat.le_of_ble_eq_true rfl, Nat.le_of_ble_eq_true rfl⟩ rfl (Nat.le_of_ble_eq_true rfl) dX8_ifBroken_35 ⟨by decide, by decide⟩ rfl ?_
      refine V_aload_n hC dX8_ifBroken_38 rfl 0 rfl ?_
      refine V_getR hC (r_s0_1) fw_X8_16 dX8_ifBroken_39 ?_
      refine V_getR hC (r_d0_1 (by decide)) fw_X8_172 dX8_ifBroken_42 ?_
      refine V_iload_n hC dX8_ifBroken_45 rfl 1 rfl ?_
      obtain ⟨q6, e6, h⟩ := bind_some h
      refine V_cVv hC [.int x1] (c_X0_lose (l := l) hC.2.2.2.2.2.2.2 (by decide) e6) kd_X0_lose kv_X0_lose gw_1094 (r_d8_0 (by decide)).o rfl ⟨Nat.le_of_ble_eq_true rfl, Nat.le_of_ble_eq_true rfl⟩ rfl (Nat.le_of_ble_eq_true rfl) dX8_ifBroken_46 ⟨by decide, by decide⟩ rfl ?_
      refine V_aload_n hC dX8_ifBroken_49 rfl 0 rfl ?_
      refine V_getR hC (r_s0_1) fw_X8_16 dX8_ifBroken_50 ?_
      obtain ⟨q7, e7, h⟩ := bind_some h
      refine V_cVr hC [] (c_X1_serve (l := l) (rv := q7.1) (Mf := q7.2) hC.2.2.2.2.2.2.2 (by decide) e7) kd_X1_serve kv_X1_serve gw_1095 (r_d0_0 (by decide)).o rfl ⟨Nat.le_of_ble_eq_true rfl, Nat.le_of_ble_eq_true rfl⟩ rfl (Nat.le_of_ble_eq_true rfl) dX8_ifBroken_53 ⟨by decide, by decide⟩ rfl ?_
      obtain ⟨rfl, hp⟩ := Prod.mk.inj (Option.some.inj h)
      obtain ⟨rfl, rfl⟩ := Prod.mk.inj hp
      exact V_xiret hC hr hlk (by decide) (by decide) dX8_ifBroken_56
    · have h := ite_t c4 h
      refine V_iconst hC (0 : Int32) dX8_ifBroken_25 (by decide) ?_
      obtain ⟨rfl, hp⟩ := Prod.mk.inj (Option.some.inj h)
      obtain ⟨rfl, rfl⟩ := Prod.mk.inj hp
      exact V_xiret hC hr hlk (by decide) (by decide) dX8_ifBroken_26
  · have h := ite_f z2 h
    obtain ⟨rfl, hp⟩ := Prod.mk.inj (Option.some.inj h)
    obtain ⟨-, rfl⟩ := Prod.mk.inj hp
    exact ⟨rfl, rfl⟩
theorem c_X8_grantedAt {l : Launch} {G : Geo} {x1 : Int32} {k0 : Nat} {rv : Int32} {Mf : Mem} {M : Mem} (hlt : l.stackTraces = false) (hG : gD G) (h : f_X8_grantedAt x1 M = some (k0, rv, Mf)) : vx_Met l yX8_grantedAt (.code yX8_grantedAt cX8_grantedAt 2 (some .int) :: GL) (rmx 9) (gPx G [.ref (adr G 6 0), .int x1] M) (gQx G k0 (some (.int rv)) Mf) (gXx G k0 Mf) 1 6 (gA G) := by
  refine XMet_of (own := RX8) (L := [(0, .ref (adr G 6 0)), (1, .int x1)]) hG (by decide +kernel) rfl (Nat.le_of_ble_eq_true rfl) rfl ?_
  intro p e s m args below meth c hC hX hnt hr hlk
  refine V_aload_n hC dX8_grantedAt_0 rfl 0 rfl ?_
  refine V_getR hC (r_s0_0) fw_X8_12 dX8_grantedAt_1 ?_
  refine V_iload_n hC dX8_grantedAt_4 rfl 1 rfl ?_
  obtain ⟨q1, e1, h⟩ := bind_some h
  refine V_cVr hC [.int x1] (c_X1_waitingFault (l := l) hC.2.2.2.2.2.2.2 (by decide) e1) kd_X1_waitingFault kv_X1_waitingFault gw_727 (r_d0_0 (by decide)).o rfl ⟨Nat.le_of_ble_eq_true rfl, Nat.le_of_ble_eq_true rfl⟩ rfl (Nat.le_of_ble_eq_true rfl) dX8_grantedAt_5 ⟨by decide, by decide⟩ rfl ?_
  refine V_xref hC hX hnt hlk (c_X8_refuseFor (l := l) hlt hC.2.2.2.2.2.2.2) kd_X8_refuseFor gw_292 gw_291 ⟨Nat.le_of_ble_eq_true rfl, Nat.le_of_ble_eq_true rfl⟩ ⟨by decide, by decide⟩ (Nat.le_of_ble_eq_true rfl) dX8_grantedAt_8 (fun z2 => ?_) (fun z2 => ?_)
  · have h := ite_t z2 h
    refine V_aload_n hC dX8_grantedAt_11 rfl 0 rfl ?_
    refine V_getR hC (r_s0_1) fw_X8_16 dX8_grantedAt_12 ?_
    refine V_aload_n hC dX8_grantedAt_15 rfl 0 rfl ?_
    refine V_getR hC (r_s0_0) fw_X8_12 dX8_grantedAt_16 ?_
    obtain ⟨q3, e3, h⟩ := bind_some h
    refine V_cVv hC [.ref (adr G 0 0)] (c_X1_copyFrom (l := l) hC.2.2.2.2.2.2.2 (by decide) (by decide) e3) kd_X1_copyFrom kv_X1_copyFrom gw_1093 (r_d0_0 (by decide)).o rfl ⟨Nat.le_of_ble_eq_true rfl, Nat.le_of_ble_eq_true rfl⟩ rfl (Nat.le_of_ble_eq_true rfl) dX8_grantedAt_19 ⟨by decide, by decide⟩ rfl ?_
    refine V_aload_n hC dX8_grantedAt_22 rfl 0 rfl ?_
    refine V_getR hC (r_s0_1) fw_X8_16 dX8_grantedAt_23 ?_
    refine V_sipush hC (2000 : Int32) dX8_grantedAt_26 (by decide) ?_
    refine V_iload_n hC dX8_grantedAt_29 rfl 1 rfl ?_
    obtain ⟨q4, e4, h⟩ := bind_some h
    refine V_cVv hC [.int (2000 : Int32), .int x1] (c_X1_passTicks (l := l) hC.2.2.2.2.2.2.2 (by decide) e4) kd_X1_passTicks kv_X1_passTicks gw_889 (r_d0_0 (by decide)).o rfl ⟨Nat.le_of_ble_eq_true rfl, Nat.le_of_ble_eq_true rfl⟩ rfl (Nat.le_of_ble_eq_true rfl) dX8_grantedAt_30 ⟨by decide, by decide⟩ rfl ?_
    refine V_aload_n hC dX8_grantedAt_33 rfl 0 rfl ?_
    refine V_getR hC (r_s0_1) fw_X8_16 dX8_grantedAt_34 ?_
    refine V_getR hC (r_d0_2 (by decide)) fw_X8_219 dX8_grantedAt_37 ?_
    refine V_iload_n hC dX8_grantedAt_40 rfl 1 rfl ?_
    obtain ⟨q5, e5, h⟩ := bind_some h
    refine V_cVr hC [.int x1] (c_X5_placeOf (l := l) hC.2.2.2.2.2.2.2 (by decide) e5) kd_X5_placeOf kv_X5_placeOf gw_852 (r_d12_0 (by decide)).o rfl ⟨Nat.le_of_ble_eq_true rfl, Nat.le_of_ble_eq_true rfl⟩ rfl (Nat.le_of_ble_eq_true rfl) dX8_grantedAt_41 ⟨by decide, by decide⟩ rfl ?_
    refine V_iconst hC ((-1) : Int32) dX8_grantedAt_44 (by decide) ?_
    refine V_icmp_ne hC 58 dX8_grantedAt_45 (by decide) (fun c6 => ?_) (fun c6 => ?_)
    · have h := ite_f c6 h
      refine V_iconst hC ((-1) : Int32) dX8_grantedAt_58 (by decide) ?_
      obtain ⟨rfl, hp⟩ := Prod.mk.inj (Option.some.inj h)
      obtain ⟨rfl, rfl⟩ := Prod.mk.inj hp
      exact V_xiret hC hr hlk (by decide) (by decide) dX8_grantedAt_59
    · have h := ite_t c6 h
      refine V_aload_n hC dX8_grantedAt_48 rfl 0 rfl ?_
      refine V_getR hC (r_s0_1) fw_X8_16 dX8_grantedAt_49 ?_
      refine V_getI hC (f_d0_6 (by decide)) fw_X8_228 dX8_grantedAt_52 ?_
      refine V_goto hC 59 dX8_grantedAt_55 (by decide) ?_
      obtain ⟨rfl, hp⟩ := Prod.mk.inj (Option.some.inj h)
      obtain ⟨rfl, rfl⟩ := Prod.mk.inj hp
      exact V_xiret hC hr hlk (by decide) (by decide) dX8_grantedAt_59
  · have h := ite_f z2 h
    obtain ⟨rfl, hp⟩ := Prod.mk.inj (Option.some.inj h)
    obtain ⟨-, rfl⟩ := Prod.mk.inj hp
    exact ⟨rfl, rfl⟩
theorem c_X8_waitsFor {l : Launch} {G : Geo} {x1 : Int32} {k0 : Nat} {rv : Int32} {Mf : Mem} {M : Mem} (hlt : l.stackTraces = false) (hG : gD G) (h : f_X8_waitsFor x1 M = some (k0, rv, Mf)) : vx_Met l yX8_waitsFor (.code yX8_waitsFor cX8_waitsFor 2 (some .int) :: GL) (rmx 9) (gPx G [.ref (adr G 6 0), .int x1] M) (gQx G k0 (some (.int rv)) Mf) (gXx G k0 Mf) 1 6 (gA G) := by
  refine XMet_of (own := RX8) (L := [(0, .ref (adr G 6 0)), (1, .int x1)]) hG (by decide +kernel) rfl (Nat.le_of_ble_eq_true rfl) rfl ?_
  intro p e s m args below meth c hC hX hnt hr hlk
  refine V_aload_n hC dX8_waitsFor_0 rfl 0 rfl ?_
  refine V_getR hC (r_s0_0) fw_X8_12 dX8_waitsFor_1 ?_
  refine V_iload_n hC dX8_waitsFor_4 rfl 1 rfl ?_
  obtain ⟨q1, e1, h⟩ := bind_some h
  refine V_cVr hC [.int x1] (c_X1_waitingFault (l := l) hC.2.2.2.2.2.2.2 (by decide) e1) kd_X1_waitingFault kv_X1_waitingFault gw_727 (r_d0_0 (by decide)).o rfl ⟨Nat.le_of_ble_eq_true rfl, Nat.le_of_ble_eq_true rfl⟩ rfl (Nat.le_of_ble_eq_true rfl) dX8_waitsFor_5 ⟨by decide, by decide⟩ rfl ?_
  refine V_xref hC hX hnt hlk (c_X8_refuseFor (l := l) hlt hC.2.2.2.2.2.2.2) kd_X8_refuseFor gw_292 gw_291 ⟨Nat.le_of_ble_eq_true rfl, Nat.le_of_ble_eq_true rfl⟩ ⟨by decide, by decide⟩ (Nat.le_of_ble_eq_true rfl) dX8_waitsFor_8 (fun z2 => ?_) (fun z2 => ?_)
  · have h := ite_t z2 h
    refine V_aload_n hC dX8_waitsFor_11 rfl 0 rfl ?_
    refine V_getR hC (r_s0_0) fw_X8_12 dX8_waitsFor_12 ?_
    refine V_aload_n hC dX8_waitsFor_15 rfl 0 rfl ?_
    refine V_getR hC (r_s0_0) fw_X8_12 dX8_waitsFor_16 ?_
    refine V_getR hC (r_d0_2 (by decide)) fw_X8_219 dX8_waitsFor_19 ?_
    refine V_iload_n hC dX8_waitsFor_22 rfl 1 rfl ?_
    obtain ⟨q3, e3, h⟩ := bind_some h
    refine V_cVr hC [.int x1] (c_X5_placeOf (l := l) hC.2.2.2.2.2.2.2 (by decide) e3) kd_X5_placeOf kv_X5_placeOf gw_852 (r_d12_0 (by decide)).o rfl ⟨Nat.le_of_ble_eq_true rfl, Nat.le_of_ble_eq_true rfl⟩ rfl (Nat.le_of_ble_eq_true rfl) dX8_waitsFor_23 ⟨by decide, by decide⟩ rfl ?_
    obtain ⟨q4, e4, h⟩ := bind_some h
    refine V_cVr hC [.int q3] (c_X1_usersBefore (l := l) hC.2.2.2.2.2.2.2 (by decide) e4) kd_X1_usersBefore kv_X1_usersBefore gw_853 (r_d0_0 (by decide)).o rfl ⟨Nat.le_of_ble_eq_true rfl, Nat.le_of_ble_eq_true rfl⟩ rfl (Nat.le_of_ble_eq_true rfl) dX8_waitsFor_26 ⟨by decide, by decide⟩ rfl ?_
    obtain ⟨rfl, hp⟩ := Prod.mk.inj (Option.some.inj h)
    obtain ⟨rfl, rfl⟩ := Prod.mk.inj hp
    exact V_xiret hC hr hlk (by decide) (by decide) dX8_waitsFor_29
  · have h := ite_f z2 h
    obtain ⟨rfl, hp⟩ := Prod.mk.inj (Option.some.inj h)
    obtain ⟨-, rfl⟩ := Prod.mk.inj hp
    exact ⟨rfl, rfl⟩
theorem c_X8_entry {l : Launch} {G : Geo} {x1 : Int32} {x2 : Int32} {k0 : Nat} {rv : Int32} {Mf : Mem} {M : Mem} (hlt : l.stackTraces = false) (hG : gD G) (h : f_X8_entry x1 x2 M = some (k0, rv, Mf)) : vx_Met l yX8_entry (.code yX8_entry cX8_entry 4 (some .int) :: GL) (rmx 9) (gPx G [.ref (adr G 6 0), .int x1, .int x2] M) (gQx G k0 (some (.int rv)) Mf) (gXx G k0 Mf) 1 6 (gA G) := by
  refine XMet_of (own := RX8) (L := [(0, .ref (adr G 6 0)), (1, .int x1), (2, .int x2)]) hG (by decide +kernel) rfl (Nat.le_of_ble_eq_true rfl) rfl ?_
  intro p e s m args below meth c hC hX hnt hr hlk
  refine V_iload_n hC dX8_entry_0 rfl 1 rfl ?_
  refine V_iconst hC (0 : Int32) dX8_entry_1 (by decide) ?_
  refine V_aload_n hC dX8_entry_2 rfl 0 rfl ?_
  refine V_getR hC (r_s0_0) fw_X8_12 dX8_entry_3 ?_
  refine V_getR hC (r_d0_3 (by decide)) fw_X8_234 dX8_entry_6 ?_
  refine V_getI hC (f_d14_2 (by decide)) fw_X8_238 dX8_entry_9 ?_
  refine V_iconst hC (1 : Int32) dX8_entry_12 (by decide) ?_
  refine V_isub hC dX8_entry_13 ?_
  refine V_cSr hC [.int x1, .int (0 : Int32), .int ((M.1 0 14 2) - (1 : Int32))] (c_X8_isWithin (l := l) hC.2.2.2.2.2.2.2 rfl) kd_X8_isWithin gw_444 gw_456 ⟨Nat.le_of_ble_eq_true rfl, Nat.le_of_ble_eq_true rfl⟩ rfl (Nat.le_of_ble_eq_true rfl) dX8_entry_14 ⟨by decide, by decide⟩ rfl ?_
  refine V_istore_n hC ([(3, .int (f_X8_isWithin x1 (0 : Int32) ((M.1 0 14 2) - (1 : Int32)))), (0, .ref (adr G 6 0)), (1, .int x1), (2, .int x2)]) dX8_entry_17 rfl (by decide) rfl ?_
  refine V_iload_n hC dX8_entry_18 rfl 0 rfl ?_
  refine V_iload_n hC dX8_entry_19 rfl 3 rfl ?_
  refine V_iconst hC (0 : Int32) dX8_entry_20 (by decide) ?_
  refine V_iconst hC (5 : Int32) dX8_entry_21 (by decide) ?_
  refine V_cSr hC [.int x2, .int (0 : Int32), .int (5 : Int32)] (c_X8_isWithin (l := l) hC.2.2.2.2.2.2.2 rfl) kd_X8_isWithin gw_444 gw_456 ⟨Nat.le_of_ble_eq_true rfl, Nat.le_of_ble_eq_true rfl⟩ rfl (Nat.le_of_ble_eq_true rfl) dX8_entry_22 ⟨by decide, by decide⟩ rfl ?_
  refine V_iconst hC (1 : Int32) dX8_entry_25 (by decide) ?_
  refine V_cSr hC [.int (f_X8_isWithin x1 (0 : Int32) ((M.1 0 14 2) - (1 : Int32))), .int (f_X8_isWithin x2 (0 : Int32) (5 : Int32)), .int (1 : Int32)] (c_X8_faultOf (l := l) hC.2.2.2.2.2.2.2 rfl) kd_X8_faultOf gw_289 gw_916 ⟨Nat.le_of_ble_eq_true rfl, Nat.le_of_ble_eq_true rfl⟩ rfl (Nat.le_of_ble_eq_true rfl) dX8_entry_26 ⟨by decide, by decide⟩ rfl ?_
  refine V_xref hC hX hnt hlk (c_X8_refuseFor (l := l) hlt hC.2.2.2.2.2.2.2) kd_X8_refuseFor gw_292 gw_291 ⟨Nat.le_of_ble_eq_true rfl, Nat.le_of_ble_eq_true rfl⟩ ⟨by decide, by decide⟩ (Nat.le_of_ble_eq_true rfl) dX8_entry_29 (fun z4 => ?_) (fun z4 => ?_)
  · have h := ite_t z4 h
    refine V_aload_n hC dX8_entry_32 rfl 1 rfl ?_
    refine V_getR hC (r_s0_0) fw_X8_12 dX8_entry_33 ?_
    refine V_getR hC (r_d0_3 (by decide)) fw_X8_234 dX8_entry_36 ?_
    refine V_iload_n hC dX8_entry_39 rfl 2 rfl ?_
    refine V_iload_n hC dX8_entry_40 rfl 3 rfl ?_
    obtain ⟨q5, e5, h⟩ := bind_some h
    refine V_cVr hC [.int x1, .int x2] (c_X2_fact (l := l) hC.2.2.2.2.2.2.2 (by decide) e5) kd_X2_fact kv_X2_fact gw_1110 (r_d14_0 (by decide)).o rfl ⟨Nat.le_of_ble_eq_true rfl, Nat.le_of_ble_eq_true rfl⟩ rfl (Nat.le_of_ble_eq_true rfl) dX8_entry_41 ⟨by decide, by decide⟩ rfl ?_
    obtain ⟨rfl, hp⟩ := Prod.mk.inj (Option.some.inj h)
    obtain ⟨rfl, rfl⟩ := Prod.mk.inj hp
    exact V_xiret hC hr hlk (by decide) (by decide) dX8_entry_44
  · have h := ite_f z4 h
    obtain ⟨rfl, hp⟩ := Prod.mk.inj (Option.some.inj h)
    obtain ⟨-, rfl⟩ := Prod.mk.inj hp
    exact ⟨rfl, rfl⟩
theorem c_X8_blame {l : Launch} {G : Geo} {x1 : Int32} {x2 : Int32} {k0 : Nat} {rv : Int32} {Mf : Mem} {M : Mem} (hlt : l.stackTraces = false) (hG : gD G) (h : f_X8_blame x1 x2 M = some (k0, rv, Mf)) : vx_Met l yX8_blame (.code yX8_blame cX8_blame 3 (some .int) :: GL) (rmx 9) (gPx G [.ref (adr G 6 0), .int x1, .int x2] M) (gQx G k0 (some (.int rv)) Mf) (gXx G k0 Mf) 1 6 (gA G) := by
  refine XMet_of (own := RX8) (L := [(0, .ref (adr G 6 0)), (1, .int x1), (2, .int x2)]) hG (by decide +kernel) rfl (Nat.le_of_ble_eq_true rfl) rfl ?_
  intro p e s m args below meth c hC hX hnt hr hlk
  refine V_aload_n hC dX8_blame_0 rfl 0 rfl ?_
  refine V_getR hC (r_s0_0) fw_X8_12 dX8_blame_1 ?_
  refine V_iload_n hC dX8_blame_4 rfl 1 rfl ?_
  refine V_iload_n hC dX8_blame_5 rfl 2 rfl ?_
  obtain ⟨q1, e1, h⟩ := bind_some h
  refine V_cVr hC [.int x1, .int x2] (c_X1_hasLine (l := l) hC.2.2.2.2.2.2.2 (by decide) e1) kd_X1_hasLine kv_X1_hasLine gw_999 (r_d0_0 (by decide)).o rfl ⟨Nat.le_of_ble_eq_true rfl, Nat.le_of_ble_eq_true rfl⟩ rfl (Nat.le_of_ble_eq_true rfl) dX8_blame_6 ⟨by decide, by decide⟩ rfl ?_
  refine V_iconst hC (1 : Int32) dX8_blame_9 (by decide) ?_
  refine V_iconst hC (1 : Int32) dX8_blame_10 (by decide) ?_
  refine V_cSr hC [.int q1, .int (1 : Int32), .int (1 : Int32)] (c_X8_faultOf (l := l) hC.2.2.2.2.2.2.2 rfl) kd_X8_faultOf gw_289 gw_916 ⟨Nat.le_of_ble_eq_true rfl, Nat.le_of_ble_eq_true rfl⟩ rfl (Nat.le_of_ble_eq_true rfl) dX8_blame_11 ⟨by decide, by decide⟩ rfl ?_
  refine V_xref hC hX hnt hlk (c_X8_refuseFor (l := l) hlt hC.2.2.2.2.2.2.2) kd_X8_refuseFor gw_292 gw_291 ⟨Nat.le_of_ble_eq_true rfl, Nat.le_of_ble_eq_true rfl⟩ ⟨by decide, by decide⟩ (Nat.le_of_ble_eq_true rfl) dX8_blame_14 (fun z3 => ?_) (fun z3 => ?_)
  · have h := ite_t z3 h
    refine V_aload_n hC dX8_blame_17 rfl 0 rfl ?_
    refine V_getR hC (r_s0_0) fw_X8_12 dX8_blame_18 ?_
    refine V_getR hC (r_d0_3 (by decide)) fw_X8_234 dX8_blame_21 ?_
    refine V_iload_n hC dX8_blame_24 rfl 1 rfl ?_
    refine V_iload_n hC dX8_blame_25 rfl 2 rfl ?_
    obtain ⟨q4, e4, h⟩ := bind_some h
    refine V_cVr hC [.int x1, .int x2] (c_X2_latestUserOf (l := l) hC.2.2.2.2.2.2.2 (by decide) e4) kd_X2_latestUserOf kv_X2_latestUserOf gw_1118 (r_d14_0 (by decide)).o rfl ⟨Nat.le_of_ble_eq_true rfl, Nat.le_of_ble_eq_true rfl⟩ rfl (Nat.le_of_ble_eq_true rfl) dX8_blame_26 ⟨by decide, by decide⟩ rfl ?_
    obtain ⟨rfl, hp⟩ := Prod.mk.inj (Option.some.inj h)
    obtain ⟨rfl, rfl⟩ := Prod.mk.inj hp
    exact V_xiret hC hr hlk (by decide) (by decide) dX8_blame_29
  · have h := ite_f z3 h
    obtain ⟨rfl, hp⟩ := Prod.mk.inj (Option.some.inj h)
    obtain ⟨-, rfl⟩ := Prod.mk.inj hp
    exact ⟨rfl, rfl⟩
theorem c_X8_lineAt {l : Launch} {G : Geo} {x1 : Int32} {x2 : Int32} {x3 : Int32} {k0 : Nat} {rv : Int32} {Mf : Mem} {M : Mem} (hlt : l.stackTraces = false) (hG : gD G) (h : f_X8_lineAt x1 x2 x3 M = some (k0, rv, Mf)) : vx_Met l yX8_lineAt (.code yX8_lineAt cX8_lineAt 4 (some .int) :: GL) (rmx 9) (gPx G [.ref (adr G 6 0), .int x1, .int x2, .int x3] M) (gQx G k0 (some (.int rv)) Mf) (gXx G k0 Mf) 1 6 (gA G) := by
  refine XMet_of (own := RX8) (L := [(0, .ref (adr G 6 0)), (1, .int x1), (2, .int x2), (3, .int x3)]) hG (by decide +kernel) rfl (Nat.le_of_ble_eq_true rfl) rfl ?_
  intro p e s m args below meth c hC hX hnt hr hlk
  refine V_aload_n hC dX8_lineAt_0 rfl 0 rfl ?_
  refine V_getR hC (r_s0_0) fw_X8_12 dX8_lineAt_1 ?_
  refine V_iload_n hC dX8_lineAt_4 rfl 1 rfl ?_
  refine V_iload_n hC dX8_lineAt_5 rfl 2 rfl ?_
  obtain ⟨q1, e1, h⟩ := bind_some h
  refine V_cVr hC [.int x1, .int x2] (c_X1_hasLine (l := l) hC.2.2.2.2.2.2.2 (by decide) e1) kd_X1_hasLine kv_X1_hasLine gw_999 (r_d0_0 (by decide)).o rfl ⟨Nat.le_of_ble_eq_true rfl, Nat.le_of_ble_eq_true rfl⟩ rfl (Nat.le_of_ble_eq_true rfl) dX8_lineAt_6 ⟨by decide, by decide⟩ rfl ?_
  refine V_iload_n hC dX8_lineAt_9 rfl 3 rfl ?_
  refine V_iconst hC (0 : Int32) dX8_lineAt_10 (by decide) ?_
  refine V_aload_n hC dX8_lineAt_11 rfl 0 rfl ?_
  refine V_getR hC (r_s0_0) fw_X8_12 dX8_lineAt_12 ?_
  refine V_getI hC (f_d0_6 (by decide)) fw_X8_228 dX8_lineAt_15 ?_
  refine V_cSr hC [.int x3, .int (0 : Int32), .int (M.1 0 0 6)] (c_X8_isWithin (l := l) hC.2.2.2.2.2.2.2 rfl) kd_X8_isWithin gw_444 gw_456 ⟨Nat.le_of_ble_eq_true rfl, Nat.le_of_ble_eq_true rfl⟩ rfl (Nat.le_of_ble_eq_true rfl) dX8_lineAt_18 ⟨by decide, by decide⟩ rfl ?_
  refine V_iconst hC (1 : Int32) dX8_lineAt_21 (by decide) ?_
  refine V_cSr hC [.int q1, .int (f_X8_isWithin x3 (0 : Int32) (M.1 0 0 6)), .int (1 : Int32)] (c_X8_faultOf (l := l) hC.2.2.2.2.2.2.2 rfl) kd_X8_faultOf gw_289 gw_916 ⟨Nat.le_of_ble_eq_true rfl, Nat.le_of_ble_eq_true rfl⟩ rfl (Nat.le_of_ble_eq_true rfl) dX8_lineAt_22 ⟨by decide, by decide⟩ rfl ?_
  refine V_xref hC hX hnt hlk (c_X8_refuseFor (l := l) hlt hC.2.2.2.2.2.2.2) kd_X8_refuseFor gw_292 gw_291 ⟨Nat.le_of_ble_eq_true rfl, Nat.le_of_ble_eq_true rfl⟩ ⟨by decide, by decide⟩ (Nat.le_of_ble_eq_true rfl) dX8_lineAt_25 (fun z4 => ?_) (fun z4 => ?_)
  · have h := ite_t z4 h
    refine V_aload_n hC dX8_lineAt_28 rfl 0 rfl ?_
    refine V_getR hC (r_s0_0) fw_X8_12 dX8_lineAt_29 ?_
    refine V_iload_n hC dX8_lineAt_32 rfl 3 rfl ?_
    refine V_iload_n hC dX8_lineAt_33 rfl 1 rfl ?_
    refine V_iload_n hC dX8_lineAt_34 rfl 2 rfl ?_
    refine V_cSr hC [.int x1, .int x2] (c_X8_cellOf (l := l) hC.2.2.2.2.2.2.2 rfl) kd_X8_cellOf gw_447 gw_1000 ⟨Nat.le_of_ble_eq_true rfl, Nat.le_of_ble_eq_true rfl⟩ rfl (Nat.le_of_ble_eq_true rfl) dX8_lineAt_35 ⟨by decide, by decide⟩ rfl ?_
    obtain ⟨q6, e6, h⟩ := bind_some h
    refine V_cVr hC [.int x3, .int (f_X8_cellOf x1 x2)] (c_X1_valueAtEndOf (l := l) (rv := q6.1) (Mf := q6.2) hC.2.2.2.2.2.2.2 (by decide) e6) kd_X1_valueAtEndOf kv_X1_valueAtEndOf gw_1129 (r_d0_0 (by decide)).o rfl ⟨Nat.le_of_ble_eq_true rfl, Nat.le_of_ble_eq_true rfl⟩ rfl (Nat.le_of_ble_eq_true rfl) dX8_lineAt_38 ⟨by decide, by decide⟩ rfl ?_
    obtain ⟨rfl, hp⟩ := Prod.mk.inj (Option.some.inj h)
    obtain ⟨rfl, rfl⟩ := Prod.mk.inj hp
    exact V_xiret hC hr hlk (by decide) (by decide) dX8_lineAt_41
  · have h := ite_f z4 h
    obtain ⟨rfl, hp⟩ := Prod.mk.inj (Option.some.inj h)
    obtain ⟨-, rfl⟩ := Prod.mk.inj hp
    exact ⟨rfl, rfl⟩
theorem c_X8_revert {l : Launch} {G : Geo} {x1 : Int32} {x2 : Int32} {k0 : Nat} {rv : Int32} {Mf : Mem} {M : Mem} (hlt : l.stackTraces = false) (hG : gD G) (h : f_X8_revert x1 x2 M = some (k0, rv, Mf)) : vx_Met l yX8_revert (.code yX8_revert cX8_revert 3 (some .int) :: GL) (rmx 9) (gPx G [.ref (adr G 6 0), .int x1, .int x2] M) (gQx G k0 (some (.int rv)) Mf) (gXx G k0 Mf) 1 6 (gA G) := by
  refine XMet_of (own := RX8) (L := [(0, .ref (adr G 6 0)), (1, .int x1), (2, .int x2)]) hG (by decide +kernel) rfl (Nat.le_of_ble_eq_true rfl) rfl ?_
  intro p e s m args below meth c hC hX hnt hr hlk
  refine V_aload_n hC dX8_revert_0 rfl 0 rfl ?_
  refine V_getR hC (r_s0_0) fw_X8_12 dX8_revert_1 ?_
  refine V_iload_n hC dX8_revert_4 rfl 1 rfl ?_
  refine V_iload_n hC dX8_revert_5 rfl 2 rfl ?_
  obtain ⟨q1, e1, h⟩ := bind_some h
  refine V_cVr hC [.int x1, .int x2] (c_X1_revertFault (l := l) hC.2.2.2.2.2.2.2 (by decide) e1) kd_X1_revertFault kv_X1_revertFault gw_864 (r_d0_0 (by decide)).o rfl ⟨Nat.le_of_ble_eq_true rfl, Nat.le_of_ble_eq_true rfl⟩ rfl (Nat.le_of_ble_eq_true rfl) dX8_revert_6 ⟨by decide, by decide⟩ rfl ?_
  refine V_xref hC hX hnt hlk (c_X8_refuseFor (l := l) hlt hC.2.2.2.2.2.2.2) kd_X8_refuseFor gw_292 gw_291 ⟨Nat.le_of_ble_eq_true rfl, Nat.le_of_ble_eq_true rfl⟩ ⟨by decide, by decide⟩ (Nat.le_of_ble_eq_true rfl) dX8_revert_9 (fun z2 => ?_) (fun z2 => ?_)
  · have h := ite_t z2 h
    refine V_aload_n hC dX8_revert_12 rfl 0 rfl ?_
    refine V_getR hC (r_s0_2) fw_X8_22 dX8_revert_13 ?_
    refine V_aload_n hC dX8_revert_16 rfl 0 rfl ?_
    refine V_getR hC (r_s0_0) fw_X8_12 dX8_revert_17 ?_
    obtain ⟨q3, e3, h⟩ := bind_some h
    refine V_cVv hC [.ref (adr G 0 0)] (c_X6_push (l := l) hC.2.2.2.2.2.2.2 (by decide) e3) kd_X6_push kv_X6_push gw_394 (r_s1_0).o rfl ⟨Nat.le_of_ble_eq_true rfl, Nat.le_of_ble_eq_true rfl⟩ rfl (Nat.le_of_ble_eq_true rfl) dX8_revert_20 ⟨by decide, by decide⟩ rfl ?_
    refine V_aload_n hC dX8_revert_23 rfl 0 rfl ?_
    refine V_getR hC (r_s0_0) fw_X8_12 dX8_revert_24 ?_
    refine V_iload_n hC dX8_revert_27 rfl 1 rfl ?_
    refine V_iload_n hC dX8_revert_28 rfl 2 rfl ?_
    obtain ⟨q4, e4, h⟩ := bind_some h
    refine V_cVr hC [.int x1, .int x2] (c_X1_revertNow (l := l) (rv := q4.1) (Mf := q4.2) hC.2.2.2.2.2.2.2 (by decide) e4) kd_X1_revertNow kv_X1_revertNow gw_868 (r_d0_0 (by decide)).o rfl ⟨Nat.le_of_ble_eq_true rfl, Nat.le_of_ble_eq_true rfl⟩ rfl (Nat.le_of_ble_eq_true rfl) dX8_revert_29 ⟨by decide, by decide⟩ rfl ?_
    obtain ⟨rfl, hp⟩ := Prod.mk.inj (Option.some.inj h)
    obtain ⟨rfl, rfl⟩ := Prod.mk.inj hp
    exact V_xiret hC hr hlk (by decide) (by decide) dX8_revert_32
  · have h := ite_f z2 h
    obtain ⟨rfl, hp⟩ := Prod.mk.inj (Option.some.inj h)
    obtain ⟨-, rfl⟩ := Prod.mk.inj hp
    exact ⟨rfl, rfl⟩
theorem c_X8_waitingAt {l : Launch} {G : Geo} {x1 : Int32} {x2 : Int32} {k0 : Nat} {rv : Int32} {Mf : Mem} {M : Mem} (hlt : l.stackTraces = false) (hG : gD G) (h : f_X8_waitingAt x1 x2 M = some (k0, rv, Mf)) : vx_Met l yX8_waitingAt (.code yX8_waitingAt cX8_waitingAt 4 (some .int) :: GL) (rmx 9) (gPx G [.ref (adr G 6 0), .int x1, .int x2] M) (gQx G k0 (some (.int rv)) Mf) (gXx G k0 Mf) 1 6 (gA G) := by
  refine XMet_of (own := RX8) (L := [(0, .ref (adr G 6 0)), (1, .int x1), (2, .int x2)]) hG (by decide +kernel) rfl (Nat.le_of_ble_eq_true rfl) rfl ?_
  intro p e s m args below meth c hC hX hnt hr hlk
  refine V_iload_n hC dX8_waitingAt_0 rfl 1 rfl ?_
  refine V_iconst hC (0 : Int32) dX8_waitingAt_1 (by decide) ?_
  refine V_aload_n hC dX8_waitingAt_2 rfl 0 rfl ?_
  refine V_getR hC (r_s0_0) fw_X8_12 dX8_waitingAt_3 ?_
  refine V_getR hC (r_d0_2 (by decide)) fw_X8_219 dX8_waitingAt_6 ?_
  refine V_getI hC (f_d12_1 (by decide)) fw_X8_256 dX8_waitingAt_9 ?_
  refine V_iconst hC (1 : Int32) dX8_waitingAt_12 (by decide) ?_
  refine V_isub hC dX8_waitingAt_13 ?_
  refine V_cSr hC [.int x1, .int (0 : Int32), .int ((M.1 0 12 1) - (1 : Int32))] (c_X8_isWithin (l := l) hC.2.2.2.2.2.2.2 rfl) kd_X8_isWithin gw_444 gw_456 ⟨Nat.le_of_ble_eq_true rfl, Nat.le_of_ble_eq_true rfl⟩ rfl (Nat.le_of_ble_eq_true rfl) dX8_waitingAt_14 ⟨by decide, by decide⟩ rfl ?_
  refine V_istore_n hC ([(3, .int (f_X8_isWithin x1 (0 : Int32) ((M.1 0 12 1) - (1 : Int32)))), (0, .ref (adr G 6 0)), (1, .int x1), (2, .int x2)]) dX8_waitingAt_17 rfl (by decide) rfl ?_
  refine V_iload_n hC dX8_waitingAt_18 rfl 0 rfl ?_
  refine V_iload_n hC dX8_waitingAt_19 rfl 3 rfl ?_
  refine V_iconst hC (0 : Int32) dX8_waitingAt_20 (by decide) ?_
  refine V_iconst hC (3 : Int32) dX8_waitingAt_21 (by decide) ?_
  refine V_cSr hC [.int x2, .int (0 : Int32), .int (3 : Int32)] (c_X8_isWithin (l := l) hC.2.2.2.2.2.2.2 rfl) kd_X8_isWithin gw_444 gw_456 ⟨Nat.le_of_ble_eq_true rfl, Nat.le_of_ble_eq_true rfl⟩ rfl (Nat.le_of_ble_eq_true rfl) dX8_waitingAt_22 ⟨by decide, by decide⟩ rfl ?_
  refine V_iconst hC (1 : Int32) dX8_waitingAt_25 (by decide) ?_
  refine V_cSr hC [.int (f_X8_isWithin x1 (0 : Int32) ((M.1 0 12 1) - (1 : Int32))), .int (f_X8_isWithin x2 (0 : Int32) (3 : Int32)), .int (1 : Int32)] (c_X8_faultOf (l := l) hC.2.2.2.2.2.2.2 rfl) kd_X8_faultOf gw_289 gw_916 ⟨Nat.le_of_ble_eq_true rfl, Nat.le_of_ble_eq_true rfl⟩ rfl (Nat.le_of_ble_eq_true rfl) dX8_waitingAt_26 ⟨by decide, by decide⟩ rfl ?_
  refine V_xref hC hX hnt hlk (c_X8_refuseFor (l := l) hlt hC.2.2.2.2.2.2.2) kd_X8_refuseFor gw_292 gw_291 ⟨Nat.le_of_ble_eq_true rfl, Nat.le_of_ble_eq_true rfl⟩ ⟨by decide, by decide⟩ (Nat.le_of_ble_eq_true rfl) dX8_waitingAt_29 (fun z4 => ?_) (fun z4 => ?_)
  · have h := ite_t z4 h
    refine V_aload_n hC dX8_waitingAt_32 rfl 1 rfl ?_
    refine V_getR hC (r_s0_0) fw_X8_12 dX8_waitingAt_33 ?_
    refine V_getR hC (r_d0_2 (by decide)) fw_X8_219 dX8_waitingAt_36 ?_
    refine V_iload_n hC dX8_waitingAt_39 rfl 2 rfl ?_
    refine V_iload_n hC dX8_waitingAt_40 rfl 3 rfl ?_
    obtain ⟨q5, e5, h⟩ := bind_some h
    refine V_cVr hC [.int x1, .int x2] (c_X5_fact (l := l) hC.2.2.2.2.2.2.2 (by decide) e5) kd_X5_fact kv_X5_fact gw_1043 (r_d12_0 (by decide)).o rfl ⟨Nat.le_of_ble_eq_true rfl, Nat.le_of_ble_eq_true rfl⟩ rfl (Nat.le_of_ble_eq_true rfl) dX8_waitingAt_41 ⟨by decide, by decide⟩ rfl ?_
    obtain ⟨rfl, hp⟩ := Prod.mk.inj (Option.some.inj h)
    obtain ⟨rfl, rfl⟩ := Prod.mk.inj hp
    exact V_xiret hC hr hlk (by decide) (by decide) dX8_waitingAt_44
  · have h := ite_f z4 h
    obtain ⟨rfl, hp⟩ := Prod.mk.inj (Option.some.inj h)
    obtain ⟨-, rfl⟩ := Prod.mk.inj hp
    exact ⟨rfl, rfl⟩
theorem c_X8_pass {l : Launch} {G : Geo} {x1 : Int32} {k0 : Nat} {rv : Int32} {Mf : Mem} {M : Mem} (hlt : l.stackTraces = false) (hG : gD G) (h : f_X8_pass x1 M = some (k0, rv, Mf)) : vx_Met l yX8_pass (.code yX8_pass cX8_pass 2 (some .int) :: GL) (rmx 9) (gPx G [.ref (adr G 6 0), .int x1] M) (gQx G k0 (some (.int rv)) Mf) (gXx G k0 Mf) 1 6 (gA G) := by
  refine XMet_of (own := RX8) (L := [(0, .ref (adr G 6 0)), (1, .int x1)]) hG (by decide +kernel) rfl (Nat.le_of_ble_eq_true rfl) rfl ?_
  intro p e s m args below meth c hC hX hnt hr hlk
  refine V_aload_n hC dX8_pass_0 rfl 0 rfl ?_
  refine V_getR hC (r_s0_0) fw_X8_12 dX8_pass_1 ?_
  refine V_iload_n hC dX8_pass_4 rfl 1 rfl ?_
  refine V_cVr hC [.int x1] (c_X1_passFault (l := l) hC.2.2.2.2.2.2.2 (by decide) rfl) kd_X1_passFault kv_X1_passFault gw_885 (r_d0_0 (by decide)).o rfl ⟨Nat.le_of_ble_eq_true rfl, Nat.le_of_ble_eq_true rfl⟩ rfl (Nat.le_of_ble_eq_true rfl) dX8_pass_5 ⟨by decide, by decide⟩ rfl ?_
  refine V_xref hC hX hnt hlk (c_X8_refuseFor (l := l) hlt hC.2.2.2.2.2.2.2) kd_X8_refuseFor gw_292 gw_291 ⟨Nat.le_of_ble_eq_true rfl, Nat.le_of_ble_eq_true rfl⟩ ⟨by decide, by decide⟩ (Nat.le_of_ble_eq_true rfl) dX8_pass_8 (fun z2 => ?_) (fun z2 => ?_)
  · have h := ite_t z2 h
    refine V_aload_n hC dX8_pass_11 rfl 0 rfl ?_
    refine V_getR hC (r_s0_2) fw_X8_22 dX8_pass_12 ?_
    refine V_aload_n hC dX8_pass_15 rfl 0 rfl ?_
    refine V_getR hC (r_s0_0) fw_X8_12 dX8_pass_16 ?_
    obtain ⟨q3, e3, h⟩ := bind_some h
    refine V_cVv hC [.ref (adr G 0 0)] (c_X6_push (l := l) hC.2.2.2.2.2.2.2 (by decide) e3) kd_X6_push kv_X6_push gw_394 (r_s1_0).o rfl ⟨Nat.le_of_ble_eq_true rfl, Nat.le_of_ble_eq_true rfl⟩ rfl (Nat.le_of_ble_eq_true rfl) dX8_pass_19 ⟨by decide, by decide⟩ rfl ?_
    refine V_aload_n hC dX8_pass_22 rfl 0 rfl ?_
    refine V_getR hC (r_s0_0) fw_X8_12 dX8_pass_23 ?_
    refine V_iload_n hC dX8_pass_26 rfl 1 rfl ?_
    refine V_iconst hC ((-1) : Int32) dX8_pass_27 (by decide) ?_
    obtain ⟨q4, e4, h⟩ := bind_some h
    refine V_cVv hC [.int x1, .int ((-1) : Int32)] (c_X1_passTicks (l := l) hC.2.2.2.2.2.2.2 (by decide) e4) kd_X1_passTicks kv_X1_passTicks gw_889 (r_d0_0 (by decide)).o rfl ⟨Nat.le_of_ble_eq_true rfl, Nat.le_of_ble_eq_true rfl⟩ rfl (Nat.le_of_ble_eq_true rfl) dX8_pass_28 ⟨by decide, by decide⟩ rfl ?_
    refine V_aload_n hC dX8_pass_31 rfl 0 rfl ?_
    refine V_getR hC (r_s0_0) fw_X8_12 dX8_pass_32 ?_
    refine V_getI hC (f_d0_6 (by decide)) fw_X8_228 dX8_pass_35 ?_
    obtain ⟨rfl, hp⟩ := Prod.mk.inj (Option.some.inj h)
    obtain ⟨rfl, rfl⟩ := Prod.mk.inj hp
    exact V_xiret hC hr hlk (by decide) (by decide) dX8_pass_38
  · have h := ite_f z2 h
    obtain ⟨rfl, hp⟩ := Prod.mk.inj (Option.some.inj h)
    obtain ⟨-, rfl⟩ := Prod.mk.inj hp
    exact ⟨rfl, rfl⟩
theorem c_X8_useBits {l : Launch} {G : Geo} {x1 : Int32} {k0 : Nat} {rv : Int32} {Mf : Mem} {M : Mem} (hlt : l.stackTraces = false) (hG : gD G) (h : f_X8_useBits x1 M = some (k0, rv, Mf)) : vx_Met l yX8_useBits (.code yX8_useBits cX8_useBits 2 (some .int) :: GL) (rmx 9) (gPx G [.ref (adr G 6 0), .int x1] M) (gQx G k0 (some (.int rv)) Mf) (gXx G k0 Mf) 1 6 (gA G) := by
  refine XMet_of (own := RX8) (L := [(0, .ref (adr G 6 0)), (1, .int x1)]) hG (by decide +kernel) rfl (Nat.le_of_ble_eq_true rfl) rfl ?_
  intro p e s m args below meth c hC hX hnt hr hlk
  refine V_iload_n hC dX8_useBits_0 rfl 1 rfl ?_
  refine V_cSr hC [.int x1] (c_X8_isUser (l := l) hC.2.2.2.2.2.2.2 rfl) kd_X8_isUser gw_627 gw_1051 ⟨Nat.le_of_ble_eq_true rfl, Nat.le_of_ble_eq_true rfl⟩ rfl (Nat.le_of_ble_eq_true rfl) dX8_useBits_1 ⟨by decide, by decide⟩ rfl ?_
  refine V_iconst hC (1 : Int32) dX8_useBits_4 (by decide) ?_
  refine V_iconst hC (1 : Int32) dX8_useBits_5 (by decide) ?_
  refine V_cSr hC [.int (f_X8_isUser x1), .int (1 : Int32), .int (1 : Int32)] (c_X8_faultOf (l := l) hC.2.2.2.2.2.2.2 rfl) kd_X8_faultOf gw_289 gw_916 ⟨Nat.le_of_ble_eq_true rfl, Nat.le_of_ble_eq_true rfl⟩ rfl (Nat.le_of_ble_eq_true rfl) dX8_useBits_6 ⟨by decide, by decide⟩ rfl ?_
  refine V_xref hC hX hnt hlk (c_X8_refuseFor (l := l) hlt hC.2.2.2.2.2.2.2) kd_X8_refuseFor gw_292 gw_291 ⟨Nat.le_of_ble_eq_true rfl, Nat.le_of_ble_eq_true rfl⟩ ⟨by decide, by decide⟩ (Nat.le_of_ble_eq_true rfl) dX8_useBits_9 (fun z3 => ?_) (fun z3 => ?_)
  · have h := ite_t z3 h
    refine V_aload_n hC dX8_useBits_12 rfl 0 rfl ?_
    refine V_getR hC (r_s0_0) fw_X8_12 dX8_useBits_13 ?_
    refine V_getI hC (f_d0_6 (by decide)) fw_X8_228 dX8_useBits_16 ?_
    refine V_if_ne hC 24 dX8_useBits_19 (by decide) (fun c4 => ?_) (fun c4 => ?_)
    · have h := ite_f c4 h
      refine V_aload_n hC dX8_useBits_24 rfl 0 rfl ?_
      refine V_getR hC (r_s0_0) fw_X8_12 dX8_useBits_25 ?_
      refine V_iload_n hC dX8_useBits_28 rfl 1 rfl ?_
      obtain ⟨q5, e5, h⟩ := bind_some h
      refine V_cVr hC [.int x1] (c_X1_heldTicksOf (l := l) hC.2.2.2.2.2.2.2 (by decide) e5) kd_X1_heldTicksOf kv_X1_heldTicksOf gw_1052 (r_d0_0 (by decide)).o rfl ⟨Nat.le_of_ble_eq_true rfl, Nat.le_of_ble_eq_true rfl⟩ rfl (Nat.le_of_ble_eq_true rfl) dX8_useBits_29 ⟨by decide, by decide⟩ rfl ?_
      refine V_i2f hC dX8_useBits_32 ?_
      refine V_aload_n hC dX8_useBits_33 rfl 0 rfl ?_
      refine V_getR hC (r_s0_0) fw_X8_12 dX8_useBits_34 ?_
      refine V_getI hC (f_d0_6 (by decide)) fw_X8_228 dX8_useBits_37 ?_
      refine V_i2f hC dX8_useBits_40 ?_
      obtain ⟨c6, h⟩ := ite_some h
      refine V_fdiv hC dX8_useBits_41 (of_nn c6) ?_
      obtain ⟨q7, e7, h⟩ := bind_some h
      refine V_cSr hC [.float (FP.fdiv (FP.i2f q5) (FP.i2f (M.1 0 0 6)))] (c_X8_floatBits (l := l) hC.2.2.2.2.2.2.2 e7) kd_X8_floatBits gw_1057 gw_1056 ⟨Nat.le_of_ble_eq_true rfl, Nat.le_of_ble_eq_true rfl⟩ rfl (Nat.le_of_ble_eq_true rfl) dX8_useBits_42 ⟨by decide, by decide⟩ rfl ?_
      obtain ⟨rfl, hp⟩ := Prod.mk.inj (Option.some.inj h)
      obtain ⟨rfl, rfl⟩ := Prod.mk.inj hp
      exact V_xiret hC hr hlk (by decide) (by decide) dX8_useBits_45
    · have h := ite_t c4 h
      refine V_iconst hC (0 : Int32) dX8_useBits_22 (by decide) ?_
      obtain ⟨rfl, hp⟩ := Prod.mk.inj (Option.some.inj h)
      obtain ⟨rfl, rfl⟩ := Prod.mk.inj hp
      exact V_xiret hC hr hlk (by decide) (by decide) dX8_useBits_23
  · have h := ite_f z3 h
    obtain ⟨rfl, hp⟩ := Prod.mk.inj (Option.some.inj h)
    obtain ⟨-, rfl⟩ := Prod.mk.inj hp
    exact ⟨rfl, rfl⟩
theorem b_X8_append_25 {k0 : Nat} {rv : Int32} {Mf : Mem} {x1 : Int32} {z0 : Int32} {z1 : Int32} {z2 : Int32} {M : Mem} (hC : Cx p s m args c cX8_append RX8 2 G) (hr : meth.sig.returnType = some .int) (hlk : meth.locks = false) (hX : XF G s) (hlt : l.stackTraces = false) (hnt : ∀ x ∈ c.exceptionTable.toList, False) (h : B_X8_append_25 x1 z0 z1 z2 M = some (k0, rv, Mf)) : V p l e (rmx 9) s m args below meth c 2 G 0 0 (vx_MQ below (gQx G k0 (some (.int rv)) Mf) (gXx G k0 Mf) args s 1 6 (gA G)) 25 [(0, .ref (adr G 6 0)), (1, .int x1)] [.int z0, .int z1, .int z2] M := by
  refine V_cSr hC [.int z2, .int z1, .int z0] (c_X8_faultOf (l := l) hC.2.2.2.2.2.2.2 rfl) kd_X8_faultOf gw_289 gw_916 ⟨Nat.le_of_ble_eq_true rfl, Nat.le_of_ble_eq_true rfl⟩ rfl (Nat.le_of_ble_eq_true rfl) dX8_append_25 ⟨by decide, by decide⟩ rfl ?_
  refine V_xref hC hX hnt hlk (c_X8_refuseFor (l := l) hlt hC.2.2.2.2.2.2.2) kd_X8_refuseFor gw_292 gw_291 ⟨Nat.le_of_ble_eq_true rfl, Nat.le_of_ble_eq_true rfl⟩ ⟨by decide, by decide⟩ (Nat.le_of_ble_eq_true rfl) dX8_append_28 (fun z4 => ?_) (fun z4 => ?_)
  · have h := ite_t z4 h
    refine V_aload_n hC dX8_append_31 rfl 0 rfl ?_
    refine V_getR hC (r_s0_3) fw_X8_29 dX8_append_32 ?_
    refine V_iload_n hC dX8_append_35 rfl 1 rfl ?_
    obtain ⟨q5, e5, h⟩ := bind_some h
    refine V_cVr hC [.int x1] (c_X3_put (l := l) (rv := q5.1) (Mf := q5.2) hC.2.2.2.2.2.2.2 e5) kd_X3_put kv_X3_put gw_1140 (r_s3_0).o rfl ⟨Nat.le_of_ble_eq_true rfl, Nat.le_of_ble_eq_true rfl⟩ rfl (Nat.le_of_ble_eq_true rfl) dX8_append_36 ⟨by decide, by decide⟩ rfl ?_
    obtain ⟨rfl, hp⟩ := Prod.mk.inj (Option.some.inj h)
    obtain ⟨rfl, rfl⟩ := Prod.mk.inj hp
    exact V_xiret hC hr hlk (by decide) (by decide) dX8_append_39
  · have h := ite_f z4 h
    obtain ⟨rfl, hp⟩ := Prod.mk.inj (Option.some.inj h)
    obtain ⟨-, rfl⟩ := Prod.mk.inj hp
    exact ⟨rfl, rfl⟩
theorem c_X8_append {l : Launch} {G : Geo} {x1 : Int32} {k0 : Nat} {rv : Int32} {Mf : Mem} {M : Mem} (hlt : l.stackTraces = false) (hG : gD G) (h : f_X8_append x1 M = some (k0, rv, Mf)) : vx_Met l yX8_append (.code yX8_append cX8_append 2 (some .int) :: GL) (rmx 9) (gPx G [.ref (adr G 6 0), .int x1] M) (gQx G k0 (some (.int rv)) Mf) (gXx G k0 Mf) 1 6 (gA G) := by
  refine XMet_of (own := RX8) (L := [(0, .ref (adr G 6 0)), (1, .int x1)]) hG (by decide +kernel) rfl (Nat.le_of_ble_eq_true rfl) rfl ?_
  intro p e s m args below meth c hC hX hnt hr hlk
  refine V_iconst hC (1 : Int32) dX8_append_0 (by decide) ?_
  refine V_iload_n hC dX8_append_1 rfl 1 rfl ?_
  refine V_iconst hC (0 : Int32) dX8_append_2 (by decide) ?_
  refine V_bipush hC (127 : Int32) dX8_append_3 (by decide) ?_
  refine V_cSr hC [.int x1, .int (0 : Int32), .int (127 : Int32)] (c_X8_isWithin (l := l) hC.2.2.2.2.2.2.2 rfl) kd_X8_isWithin gw_444 gw_456 ⟨Nat.le_of_ble_eq_true rfl, Nat.le_of_ble_eq_true rfl⟩ rfl (Nat.le_of_ble_eq_true rfl) dX8_append_5 ⟨by decide, by decide⟩ rfl ?_
  refine V_aload_n hC dX8_append_8 rfl 0 rfl ?_
  refine V_getR hC (r_s0_3) fw_X8_29 dX8_append_9 ?_
  refine V_getI hC (f_s3_1) fw_X8_271 dX8_append_12 ?_
  refine V_bipush hC (120 : Int32) dX8_append_15 (by decide) ?_
  refine V_icmp_ge hC 24 dX8_append_17 (by decide) (fun c2 => ?_) (fun c2 => ?_)
  · have h := ite_t c2 h
    refine V_iconst hC (0 : Int32) dX8_append_24 (by decide) ?_
    exact b_X8_append_25 hC hr hlk hX hlt hnt h
  · have h := ite_f c2 h
    refine V_iconst hC (1 : Int32) dX8_append_20 (by decide) ?_
    refine V_goto hC 25 dX8_append_21 (by decide) ?_
    exact b_X8_append_25 hC hr hlk hX hlt hnt h
theorem b_X8_outline_10 {k0 : Nat} {rv : Int32} {Mf : Mem} {x1 : Int32} {z0 : Int32} {z1 : Int32} {M : Mem} (hC : Cx p s m args c cX8_outline RX8 2 G) (hr : meth.sig.returnType = some .int) (hlk : meth.locks = false) (hX : XF G s) (hlt : l.stackTraces = false) (hnt : ∀ x ∈ c.exceptionTable.toList, False) (h : B_X8_outline_10 x1 z0 z1 M = some (k0, rv, Mf)) : V p l e (rmx 28) s m args below meth c 2 G 0 0 (vx_MQ below (gQx G k0 (some (.int rv)) Mf) (gXx G k0 Mf) args s 1 6 (gA G)) 10 [(0, .ref (adr G 6 0)), (1, .int x1)] [.int z0, .int z1] M := by
  refine V_iconst hC (1 : Int32) dX8_outline_10 (by decide) ?_
  refine V_cSr hC [.int z1, .int z0, .int (1 : Int32)] (c_X8_faultOf (l := l) hC.2.2.2.2.2.2.2 rfl) kd_X8_faultOf gw_289 gw_916 ⟨Nat.le_of_ble_eq_true rfl, Nat.le_of_ble_eq_true rfl⟩ rfl (Nat.le_of_ble_eq_true rfl) dX8_outline_11 ⟨by decide, by decide⟩ rfl ?_
  refine V_xref hC hX hnt hlk (c_X8_refuseFor (l := l) hlt hC.2.2.2.2.2.2.2) kd_X8_refuseFor gw_292 gw_291 ⟨Nat.le_of_ble_eq_true rfl, Nat.le_of_ble_eq_true rfl⟩ ⟨by decide, by decide⟩ (Nat.le_of_ble_eq_true rfl) dX8_outline_14 (fun z3 => ?_) (fun z3 => ?_)
  · have h := ite_t z3 h
    refine V_aload_n hC dX8_outline_17 rfl 0 rfl ?_
    refine V_getR hC (r_s0_4) fw_X8_36 dX8_outline_18 ?_
    refine V_iconst hC (0 : Int32) dX8_outline_21 (by decide) ?_
    refine V_putI hC (f_s7_1) fw_X8_286 flp_4_1 dX8_outline_22 ?_
    refine V_aload_n hC dX8_outline_25 rfl 0 rfl ?_
    refine V_getR hC (r_s0_4) fw_X8_36 dX8_outline_26 ?_
    refine V_aload_n hC dX8_outline_29 rfl 0 rfl ?_
    refine V_getR hC (r_s0_0) fw_X8_12 dX8_outline_30 ?_
    refine V_getR hC (r_d0_0 (by decide)) fw_X8_52 dX8_outline_33 ?_
    refine V_iconst hC (0 : Int32) dX8_outline_36 (by decide) ?_
    refine V_iconst hC (0 : Int32) dX8_outline_37 (by decide) ?_
    obtain ⟨q4, e4, h⟩ := bind_some h
    refine V_cSNv hC [.ref (adr G 6 7), .ref (adr G 0 1), .int (0 : Int32), .int (0 : Int32)] (c_X4_putSection (l := l) hC.2.2.2.2.2.2.2 (by decide) 21 _ _ _ _ e4) kd_X4_putSection gw_918 nw_44 ⟨Nat.le_of_ble_eq_true rfl, Nat.le_of_ble_eq_true rfl⟩ rfl (Nat.le_of_ble_eq_true rfl) dX8_outline_38 ⟨by decide, by decide⟩ rfl ?_
    refine V_aload_n hC dX8_outline_41 rfl 0 rfl ?_
    refine V_getR hC (r_s0_4) fw_X8_36 dX8_outline_42 ?_
    refine V_iload_n hC dX8_outline_45 rfl 1 rfl ?_
    obtain ⟨q5, e5, h⟩ := bind_some h
    refine V_cVr hC [.int x1] (c_X4_byteAt (l := l) hC.2.2.2.2.2.2.2 e5) kd_X4_byteAt kv_X4_byteAt gw_942 (r_s7_0).o rfl ⟨Nat.le_of_ble_eq_true rfl, Nat.le_of_ble_eq_true rfl⟩ rfl (Nat.le_of_ble_eq_true rfl) dX8_outline_46 ⟨by decide, by decide⟩ rfl ?_
    obtain ⟨rfl, hp⟩ := Prod.mk.inj (Option.some.inj h)
    obtain ⟨rfl, rfl⟩ := Prod.mk.inj hp
    exact V_xiret hC hr hlk (by decide) (by decide) dX8_outline_49
  · have h := ite_f z3 h
    obtain ⟨rfl, hp⟩ := Prod.mk.inj (Option.some.inj h)
    obtain ⟨-, rfl⟩ := Prod.mk.inj hp
    exact ⟨rfl, rfl⟩
theorem c_X8_outline {l : Launch} {G : Geo} {x1 : Int32} {k0 : Nat} {rv : Int32} {Mf : Mem} {M : Mem} (hlt : l.stackTraces = false) (hG : gD G) (h : f_X8_outline x1 M = some (k0, rv, Mf)) : vx_Met l yX8_outline (.code yX8_outline cX8_outline 2 (some .int) :: GL) (rmx 28) (gPx G [.ref (adr G 6 0), .int x1] M) (gQx G k0 (some (.int rv)) Mf) (gXx G k0 Mf) 1 6 (gA G) := by
  refine XMet_of (own := RX8) (L := [(0, .ref (adr G 6 0)), (1, .int x1)]) hG (by decide +kernel) rfl (Nat.le_of_ble_eq_true rfl) rfl ?_
  intro p e s m args below meth c hC hX hnt hr hlk
  refine V_iconst hC (1 : Int32) dX8_outline_0 (by decide) ?_
  refine V_iload_n hC dX8_outline_1 rfl 1 rfl ?_
  refine V_if_lt hC 9 dX8_outline_2 (by decide) (fun c1 => ?_) (fun c1 => ?_)
  · have h := ite_t c1 h
    refine V_iconst hC (0 : Int32) dX8_outline_9 (by decide) ?_
    exact b_X8_outline_10 hC hr hlk hX hlt hnt h
  · have h := ite_f c1 h
    refine V_iconst hC (1 : Int32) dX8_outline_5 (by decide) ?_
    refine V_goto hC 10 dX8_outline_6 (by decide) ?_
    exact b_X8_outline_10 hC hr hlk hX hlt hnt h
theorem b_X8_undo_17 {k0 : Nat} {rv : Int32} {Mf : Mem} {z0 : Int32} {z1 : Int32} {z2 : Int32} {M : Mem} (hC : Cx p s m args c cX8_undo RX8 1 G) (hr : meth.sig.returnType = some .int) (hlk : meth.locks = false) (hX : XF G s) (hlt : l.stackTraces = false) (hnt : ∀ x ∈ c.exceptionTable.toList, False) (h : B_X8_undo_17 z0 z1 z2 M = some (k0, rv, Mf)) : V p l e (rmx 9) s m args below meth c 1 G 0 0 (vx_MQ below (gQx G k0 (some (.int rv)) Mf) (gXx G k0 Mf) args s 1 6 (gA G)) 17 [(0, .ref (adr G 6 0))] [.int z0, .int z1, .int z2] M := by
  refine V_cSr hC [.int z2, .int z1, .int z0] (c_X8_faultOf (l := l) hC.2.2.2.2.2.2.2 rfl) kd_X8_faultOf gw_289 gw_916 ⟨Nat.le_of_ble_eq_true rfl, Nat.le_of_ble_eq_true rfl⟩ rfl (Nat.le_of_ble_eq_true rfl) dX8_undo_17 ⟨by decide, by decide⟩ rfl ?_
  refine V_xref hC hX hnt hlk (c_X8_refuseFor (l := l) hlt hC.2.2.2.2.2.2.2) kd_X8_refuseFor gw_292 gw_291 ⟨Nat.le_of_ble_eq_true rfl, Nat.le_of_ble_eq_true rfl⟩ ⟨by decide, by decide⟩ (Nat.le_of_ble_eq_true rfl) dX8_undo_20 (fun z3 => ?_) (fun z3 => ?_)
  · have h := ite_t z3 h
    refine V_aload_n hC dX8_undo_23 rfl 0 rfl ?_
    refine V_getR hC (r_s0_2) fw_X8_22 dX8_undo_24 ?_
    refine V_aload_n hC dX8_undo_27 rfl 0 rfl ?_
    refine V_getR hC (r_s0_0) fw_X8_12 dX8_undo_28 ?_
    obtain ⟨q4, e4, h⟩ := bind_some h
    refine V_cVv hC [.ref (adr G 0 0)] (c_X6_pop (l := l) hC.2.2.2.2.2.2.2 (by decide) e4) kd_X6_pop kv_X6_pop gw_953 (r_s1_0).o rfl ⟨Nat.le_of_ble_eq_true rfl, Nat.le_of_ble_eq_true rfl⟩ rfl (Nat.le_of_ble_eq_true rfl) dX8_undo_31 ⟨by decide, by decide⟩ rfl ?_
    refine V_aload_n hC dX8_undo_34 rfl 0 rfl ?_
    refine V_getR hC (r_s0_2) fw_X8_22 dX8_undo_35 ?_
    refine V_getI hC (f_s1_1) fw_X8_294 dX8_undo_38 ?_
    obtain ⟨rfl, hp⟩ := Prod.mk.inj (Option.some.inj h)
    obtain ⟨rfl, rfl⟩ := Prod.mk.inj hp
    exact V_xiret hC hr hlk (by decide) (by decide) dX8_undo_41
  · have h := ite_f z3 h
    obtain ⟨rfl, hp⟩ := Prod.mk.inj (Option.some.inj h)
    obtain ⟨-, rfl⟩ := Prod.mk.inj hp
    exact ⟨rfl, rfl⟩
theorem c_X8_undo {l : Launch} {G : Geo} {k0 : Nat} {rv : Int32} {Mf : Mem} {M : Mem} (hlt : l.stackTraces = false) (hG : gD G) (h : f_X8_undo M = some (k0, rv, Mf)) : vx_Met l yX8_undo (.code yX8_undo cX8_undo 1 (some .int) :: GL) (rmx 9) (gPx G [.ref (adr G 6 0)] M) (gQx G k0 (some (.int rv)) Mf) (gXx G k0 Mf) 1 6 (gA G) := by
  refine XMet_of (own := RX8) (L := [(0, .ref (adr G 6 0))]) hG (by decide +kernel) rfl (Nat.le_of_ble_eq_true rfl) rfl ?_
  intro p e s m args below meth c hC hX hnt hr hlk
  refine V_iconst hC (1 : Int32) dX8_undo_0 (by decide) ?_
  refine V_iconst hC (1 : Int32) dX8_undo_1 (by decide) ?_
  refine V_aload_n hC dX8_undo_2 rfl 0 rfl ?_
  refine V_getR hC (r_s0_2) fw_X8_22 dX8_undo_3 ?_
  refine V_getI hC (f_s1_1) fw_X8_294 dX8_undo_6 ?_
  refine V_if_le hC 16 dX8_undo_9 (by decide) (fun c1 => ?_) (fun c1 => ?_)
  · have h := ite_t c1 h
    refine V_iconst hC (0 : Int32) dX8_undo_16 (by decide) ?_
    exact b_X8_undo_17 hC hr hlk hX hlt hnt h
  · have h := ite_f c1 h
    refine V_iconst hC (1 : Int32) dX8_undo_12 (by decide) ?_
    refine V_goto hC 17 dX8_undo_13 (by decide) ?_
    exact b_X8_undo_17 hC hr hlk hX hlt hnt h
theorem c_L_addSection {l : Launch} {G : Geo} {x1 : Int32} {rv : Int32} {Mf : Mem} {M : Mem} (hlt : l.stackTraces = false) (hG : gD G) (h : f_L_addSection x1 M = some (rv, Mf)) : Met l yL_addSection (.codeWith yL_addSection cL_addSection 4 (some .int) [(0, 6, 9, 15), (0, 6, 13, 17)] :: GL) (rmx 10) (gPx G [.ref (adr G 6 0), .int x1] M) (gQ G (some (.int rv)) Mf) 1 6 (gA G) := by
  refine WMet_of (own := RL) (L := [(0, .ref (adr G 6 0)), (1, .int x1)]) hG (by decide +kernel) rfl (Nat.le_of_ble_eq_true rfl) rfl ?_
  intro p e s m args below meth c hC hX htab hr hlk
  refine V_aload_n hC dL_addSection_0 rfl 0 rfl ?_
  refine V_iload_n hC dL_addSection_1 rfl 1 rfl ?_
  obtain ⟨q1, e1, h⟩ := bind_some h
  refine V_xV hC hX [.int x1] (c_X8_addSection (l := l) (k0 := q1.1) (rv := q1.2.1) (Mf := q1.2.2) hlt hC.2.2.2.2.2.2.2 e1) kd_X8_addSection kv_X8_addSection gw_240 (r_s0_0).o rfl ⟨Nat.le_of_ble_eq_true rfl, Nat.le_of_ble_eq_true rfl⟩ rfl (Nat.le_of_ble_eq_true rfl) dL_addSection_2 ⟨by decide, by decide⟩ rfl (fun z1 => ?_) (fun z1 => ?_)
  · have h := ite_t z1 h
    refine V_istore_n hC ([(2, .int q1.2.1), (0, .ref (adr G 6 0)), (1, .int x1)]) dL_addSection_5 rfl (by decide) rfl ?_
    refine V_goto hC 17 dL_addSection_6 (by decide) ?_
    refine V_iload_n hC dL_addSection_17 rfl 0 rfl ?_
    obtain ⟨rfl, rfl⟩ := Prod.mk.inj (Option.some.inj h)
    exact V_wiret hC hr hlk (by decide) (by decide) dL_addSection_18
  · have h := ite_f (Nat.ne_of_gt z1) h
    by_cases c2 : q1.1 = 1
    · have h := ite_t c2 h
      refine V_catch hC hX htab (pre := []) (suf := [(0, 6, 13, 17)]) rfl (by decide) (fun z hz => nomatch hz) (by decide) (by rw [c2]; exact gw_238) (by rw [c2]; decide +kernel) (fun w2 => ?_)
      refine V_astore_n hC ([(3, .ref w2), (0, .ref (adr G 6 0)), (1, .int x1)]) dL_addSection_9 rfl (by decide) rfl ?_
      refine V_bipush hC ((-53) : Int32) dL_addSection_10 (by decide) ?_
      obtain ⟨rfl, rfl⟩ := Prod.mk.inj (Option.some.inj h)
      exact V_wiret hC hr hlk (by decide) (by decide) dL_addSection_12
    have h := ite_f c2 h
    by_cases c3 : q1.1 = 3
    · have h := ite_t c3 h
      have hpre1 : ∀ z ∈ [((0, 6, 9, 15) : Nat × Nat × Nat × Nat)], z.2.2.2 ≠ 0 ∧ ∃ nm : String, Cond.classLink RL z.2.2.2 nm ∈ GL ∧ (xcls q1.1, nm) ∈ XN := by
        rw [c3]
        intro z hz
        rcases List.mem_cons.mp hz with rfl | hz
        · exact ⟨by decide, _, gw_238, by decide +kernel⟩
        exact nomatch hz
      refine V_catch hC hX htab (pre := [(0, 6, 9, 15)]) (suf := []) rfl (by decide) (hpre1) (by decide) (by rw [c3]; exact gw_239) (by rw [c3]; decide +kernel) (fun w3 => ?_)
      refine V_astore_n hC ([(3, .ref w3), (0, .ref (adr G 6 0)), (1, .int x1)]) dL_addSection_13 rfl (by decide) rfl ?_
      refine V_bipush hC ((-52) : Int32) dL_addSection_14 (by decide) ?_
      obtain ⟨rfl, rfl⟩ := Prod.mk.inj (Option.some.inj h)
      exact V_wiret hC hr hlk (by decide) (by decide) dL_addSection_16
    have h := ite_f c3 h
    cases h
theorem c_L_removeSection {l : Launch} {G : Geo} {x1 : Int32} {rv : Int32} {Mf : Mem} {M : Mem} (hlt : l.stackTraces = false) (hG : gD G) (h : f_L_removeSection x1 M = some (rv, Mf)) : Met l yL_removeSection (.codeWith yL_removeSection cL_removeSection 4 (some .int) [(0, 6, 9, 15), (0, 6, 13, 22), (0, 6, 17, 17)] :: GL) (rmx 10) (gPx G [.ref (adr G 6 0), .int x1] M) (gQ G (some (.int rv)) Mf) 1 6 (gA G) := by
  refine WMet_of (own := RL) (L := [(0, .ref (adr G 6 0)), (1, .int x1)]) hG (by decide +kernel) rfl (Nat.le_of_ble_eq_true rfl) rfl ?_
  intro p e s m args below meth c hC hX htab hr hlk
  refine V_aload_n hC dL_removeSection_0 rfl 0 rfl ?_
  refine V_iload_n hC dL_removeSection_1 rfl 1 rfl ?_
  obtain ⟨q1, e1, h⟩ := bind_some h
  refine V_xV hC hX [.int x1] (c_X8_removeSection (l := l) (k0 := q1.1) (rv := q1.2.1) (Mf := q1.2.2) hlt hC.2.2.2.2.2.2.2 e1) kd_X8_removeSection kv_X8_removeSection gw_466 (r_s0_0).o rfl ⟨Nat.le_of_ble_eq_true rfl, Nat.le_of_ble_eq_true rfl⟩ rfl (Nat.le_of_ble_eq_true rfl) dL_removeSection_2 ⟨by decide, by decide⟩ rfl (fun z1 => ?_) (fun z1 => ?_)
  · have h := ite_t z1 h
    refine V_istore_n hC ([(2, .int q1.2.1), (0, .ref (adr G 6 0)), (1, .int x1)]) dL_removeSection_5 rfl (by decide) rfl ?_
    refine V_goto hC 21 dL_removeSection_6 (by decide) ?_
    refine V_iload_n hC dL_removeSection_21 rfl 0 rfl ?_
    obtain ⟨rfl, rfl⟩ := Prod.mk.inj (Option.some.inj h)
    exact V_wiret hC hr hlk (by decide) (by decide) dL_removeSection_22
  · have h := ite_f (Nat.ne_of_gt z1) h
    by_cases c2 : q1.1 = 1
    · have h := ite_t c2 h
      refine V_catch hC hX htab (pre := []) (suf := [(0, 6, 13, 22), (0, 6, 17, 17)]) rfl (by decide) (fun z hz => nomatch hz) (by decide) (by rw [c2]; exact gw_238) (by rw [c2]; decide +kernel) (fun w2 => ?_)
      refine V_astore_n hC ([(3, .ref w2), (0, .ref (adr G 6 0)), (1, .int x1)]) dL_removeSection_9 rfl (by decide) rfl ?_
      refine V_bipush hC ((-53) : Int32) dL_removeSection_10 (by decide) ?_
      obtain ⟨rfl, rfl⟩ := Prod.mk.inj (Option.some.inj h)
      exact V_wiret hC hr hlk (by decide) (by decide) dL_removeSection_12
    have h := ite_f c2 h
    by_cases c3 : q1.1 = 2
    · have h := ite_t c3 h
      have hpre1 : ∀ z ∈ [((0, 6, 9, 15) : Nat × Nat × Nat × Nat)], z.2.2.2 ≠ 0 ∧ ∃ nm : String, Cond.classLink RL z.2.2.2 nm ∈ GL ∧ (xcls q1.1, nm) ∈ XN := by
        rw [c3]
        intro z hz
        rcases List.mem_cons.mp hz with rfl | hz
        · exact ⟨by decide, _, gw_238, by decide +kernel⟩
        exact nomatch hz
      refine V_catch hC hX htab (pre := [(0, 6, 9, 15)]) (suf := [(0, 6, 17, 17)]) rfl (by decide) (hpre1) (by decide) (by rw [c3]; exact gw_465) (by rw [c3]; decide +kernel) (fun w3 => ?_)
      refine V_astore_n hC ([(3, .ref w3), (0, .ref (adr G 6 0)), (1, .int x1)]) dL_removeSection_13 rfl (by decide) rfl ?_
      refine V_bipush hC ((-51) : Int32) dL_removeSection_14 (by decide) ?_
      obtain ⟨rfl, rfl⟩ := Prod.mk.inj (Option.some.inj h)
      exact V_wiret hC hr hlk (by decide) (by decide) dL_removeSection_16
    have h := ite_f c3 h
    by_cases c4 : q1.1 = 3
    · have h := ite_t c4 h
      have hpre2 : ∀ z ∈ [((0, 6, 9, 15) : Nat × Nat × Nat × Nat), ((0, 6, 13, 22) : Nat × Nat × Nat × Nat)], z.2.2.2 ≠ 0 ∧ ∃ nm : String, Cond.classLink RL z.2.2.2 nm ∈ GL ∧ (xcls q1.1, nm) ∈ XN := by
        rw [c4]
        intro z hz
        rcases List.mem_cons.mp hz with rfl | hz
        · exact ⟨by decide, _, gw_238, by decide +kernel⟩
        rcases List.mem_cons.mp hz with rfl | hz
        · exact ⟨by decide, _, gw_465, by decide +kernel⟩
        exact nomatch hz
      refine V_catch hC hX htab (pre := [(0, 6, 9, 15), (0, 6, 13, 22)]) (suf := []) rfl (by decide) (hpre2) (by decide) (by rw [c4]; exact gw_239) (by rw [c4]; decide +kernel) (fun w4 => ?_)
      refine V_astore_n hC ([(3, .ref w4), (0, .ref (adr G 6 0)), (1, .int x1)]) dL_removeSection_17 rfl (by decide) rfl ?_
      refine V_bipush hC ((-52) : Int32) dL_removeSection_18 (by decide) ?_
      obtain ⟨rfl, rfl⟩ := Prod.mk.inj (Option.some.inj h)
      exact V_wiret hC hr hlk (by decide) (by decide) dL_removeSection_20
    have h := ite_f c4 h
    cases h
theorem c_L_moveSection {l : Launch} {G : Geo} {x1 : Int32} {x2 : Int32} {rv : Int32} {Mf : Mem} {M : Mem} (hlt : l.stackTraces = false) (hG : gD G) (h : f_L_moveSection x1 x2 M = some (rv, Mf)) : Met l yL_moveSection (.codeWith yL_moveSection cL_moveSection 5 (some .int) [(0, 7, 10, 15), (0, 7, 15, 22), (0, 7, 20, 17)] :: GL) (rmx 10) (gPx G [.ref (adr G 6 0), .int x1, .int x2] M) (gQ G (some (.int rv)) Mf) 1 6 (gA G) := by
  refine WMet_of (own := RL) (L := [(0, .ref (adr G 6 0)), (1, .int x1), (2, .int x2)]) hG (by decide +kernel) rfl (Nat.le_of_ble_eq_true rfl) rfl ?_
  intro p e s m args below meth c hC hX htab hr hlk
  refine V_aload_n hC dL_moveSection_0 rfl 0 rfl ?_
  refine V_iload_n hC dL_moveSection_1 rfl 1 rfl ?_
  refine V_iload_n hC dL_moveSection_2 rfl 2 rfl ?_
  obtain ⟨q1, e1, h⟩ := bind_some h
  refine V_xV hC hX [.int x1, .int x2] (c_X8_moveSection (l := l) (k0 := q1.1) (rv := q1.2.1) (Mf := q1.2.2) hlt hC.2.2.2.2.2.2.2 e1) kd_X8_moveSection kv_X8_moveSection gw_525 (r_s0_0).o rfl ⟨Nat.le_of_ble_eq_true rfl, Nat.le_of_ble_eq_true rfl⟩ rfl (Nat.le_of_ble_eq_true rfl) dL_moveSection_3 ⟨by decide, by decide⟩ rfl (fun z1 => ?_) (fun z1 => ?_)
  · have h := ite_t z1 h
    refine V_istore_n hC ([(3, .int q1.2.1), (0, .ref (adr G 6 0)), (1, .int x1), (2, .int x2)]) dL_moveSection_6 rfl (by decide) rfl ?_
    refine V_goto hC 25 dL_moveSection_7 (by decide) ?_
    refine V_iload_n hC dL_moveSection_25 rfl 0 rfl ?_
    obtain ⟨rfl, rfl⟩ := Prod.mk.inj (Option.some.inj h)
    exact V_wiret hC hr hlk (by decide) (by decide) dL_moveSection_26
  · have h := ite_f (Nat.ne_of_gt z1) h
    by_cases c2 : q1.1 = 1
    · have h := ite_t c2 h
      refine V_catch hC hX htab (pre := []) (suf := [(0, 7, 15, 22), (0, 7, 20, 17)]) rfl (by decide) (fun z hz => nomatch hz) (by decide) (by rw [c2]; exact gw_238) (by rw [c2]; decide +kernel) (fun w2 => ?_)
      refine V_astore hC ([(4, .ref w2), (0, .ref (adr G 6 0)), (1, .int x1), (2, .int x2)]) dL_moveSection_10 (by decide) rfl ?_
      refine V_bipush hC ((-53) : Int32) dL_moveSection_12 (by decide) ?_
      obtain ⟨rfl, rfl⟩ := Prod.mk.inj (Option.some.inj h)
      exact V_wiret hC hr hlk (by decide) (by decide) dL_moveSection_14
    have h := ite_f c2 h
    by_cases c3 : q1.1 = 2
    · have h := ite_t c3 h
      have hpre1 : ∀ z ∈ [((0, 7, 10, 15) : Nat × Nat × Nat × Nat)], z.2.2.2 ≠ 0 ∧ ∃ nm : String, Cond.classLink RL z.2.2.2 nm ∈ GL ∧ (xcls q1.1, nm) ∈ XN := by
        rw [c3]
        intro z hz
        rcases List.mem_cons.mp hz with rfl | hz
        · exact ⟨by decide, _, gw_238, by decide +kernel⟩
        exact nomatch hz
      refine V_catch hC hX htab (pre := [(0, 7, 10, 15)]) (suf := [(0, 7, 20, 17)]) rfl (by decide) (hpre1) (by decide) (by rw [c3]; exact gw_465) (by rw [c3]; decide +kernel) (fun w3 => ?_)
      refine V_astore hC ([(4, .ref w3), (0, .ref (adr G 6 0)), (1, .int x1), (2, .int x2)]) dL_moveSection_15 (by decide) rfl ?_
      refine V_bipush hC ((-51) : Int32) dL_moveSection_17 (by decide) ?_
      obtain ⟨rfl, rfl⟩ := Prod.mk.inj (Option.some.inj h)
      exact V_wiret hC hr hlk (by decide) (by decide) dL_moveSection_19
    have h := ite_f c3 h
    by_cases c4 : q1.1 = 3
    · have h := ite_t c4 h
      have hpre2 : ∀ z ∈ [((0, 7, 10, 15) : Nat × Nat × Nat × Nat), ((0, 7, 15, 22) : Nat × Nat × Nat × Nat)], z.2.2.2 ≠ 0 ∧ ∃ nm : String, Cond.classLink RL z.2.2.2 nm ∈ GL ∧ (xcls q1.1, nm) ∈ XN := by
        rw [c4]
        intro z hz
        rcases List.mem_cons.mp hz with rfl | hz
        · exact ⟨by decide, _, gw_238, by decide +kernel⟩
        rcases List.mem_cons.mp hz with rfl | hz
        · exact ⟨by decide, _, gw_465, by decide +kernel⟩
        exact nomatch hz
      refine V_catch hC hX htab (pre := [(0, 7, 10, 15), (0, 7, 15, 22)]) (suf := []) rfl (by decide) (hpre2) (by decide) (by rw [c4]; exact gw_239) (by rw [c4]; decide +kernel) (fun w4 => ?_)
      refine V_astore hC ([(4, .ref w4), (0, .ref (adr G 6 0)), (1, .int x1), (2, .int x2)]) dL_moveSection_20 (by decide) rfl ?_
      refine V_bipush hC ((-52) : Int32) dL_moveSection_22 (by decide) ?_
      obtain ⟨rfl, rfl⟩ := Prod.mk.inj (Option.some.inj h)
      exact V_wiret hC hr hlk (by decide) (by decide) dL_moveSection_24
    have h := ite_f c4 h
    cases h
theorem c_L_section {l : Launch} {G : Geo} {x1 : Int32} {x2 : Int32} {rv : Int32} {Mf : Mem} {M : Mem} (hlt : l.stackTraces = false) (hG : gD G) (h : f_L_section x1 x2 M = some (rv, Mf)) : Met l yL_section (.codeWith yL_section cL_section 5 (some .int) [(0, 7, 10, 15), (0, 7, 15, 22)] :: GL) (rmx 10) (gPx G [.ref (adr G 6 0), .int x1, .int x2] M) (gQ G (some (.int rv)) Mf) 1 6 (gA G) := by
  refine WMet_of (own := RL) (L := [(0, .ref (adr G 6 0)), (1, .int x1), (2, .int x2)]) hG (by decide +kernel) rfl (Nat.le_of_ble_eq_true rfl) rfl ?_
  intro p e s m args below meth c hC hX htab hr hlk
  refine V_aload_n hC dL_section_0 rfl 0 rfl ?_
  refine V_iload_n hC dL_section_1 rfl 1 rfl ?_
  refine V_iload_n hC dL_section_2 rfl 2 rfl ?_
  obtain ⟨q1, e1, h⟩ := bind_some h
  refine V_xV hC hX [.int x1, .int x2] (c_X8_section (l := l) (k0 := q1.1) (rv := q1.2.1) (Mf := q1.2.2) hlt hC.2.2.2.2.2.2.2 e1) kd_X8_section kv_X8_section gw_979 (r_s0_0).o rfl ⟨Nat.le_of_ble_eq_true rfl, Nat.le_of_ble_eq_true rfl⟩ rfl (Nat.le_of_ble_eq_true rfl) dL_section_3 ⟨by decide, by decide⟩ rfl (fun z1 => ?_) (fun z1 => ?_)
  · have h := ite_t z1 h
    refine V_istore_n hC ([(3, .int q1.2.1), (0, .ref (adr G 6 0)), (1, .int x1), (2, .int x2)]) dL_section_6 rfl (by decide) rfl ?_
    refine V_goto hC 20 dL_section_7 (by decide) ?_
    refine V_iload_n hC dL_section_20 rfl 0 rfl ?_
    obtain ⟨rfl, rfl⟩ := Prod.mk.inj (Option.some.inj h)
    exact V_wiret hC hr hlk (by decide) (by decide) dL_section_21
  · have h := ite_f (Nat.ne_of_gt z1) h
    by_cases c2 : q1.1 = 1
    · have h := ite_t c2 h
      refine V_catch hC hX htab (pre := []) (suf := [(0, 7, 15, 22)]) rfl (by decide) (fun z hz => nomatch hz) (by decide) (by rw [c2]; exact gw_238) (by rw [c2]; decide +kernel) (fun w2 => ?_)
      refine V_astore hC ([(4, .ref w2), (0, .ref (adr G 6 0)), (1, .int x1), (2, .int x2)]) dL_section_10 (by decide) rfl ?_
      refine V_bipush hC ((-53) : Int32) dL_section_12 (by decide) ?_
      obtain ⟨rfl, rfl⟩ := Prod.mk.inj (Option.some.inj h)
      exact V_wiret hC hr hlk (by decide) (by decide) dL_section_14
    have h := ite_f c2 h
    by_cases c3 : q1.1 = 2
    · have h := ite_t c3 h
      have hpre1 : ∀ z ∈ [((0, 7, 10, 15) : Nat × Nat × Nat × Nat)], z.2.2.2 ≠ 0 ∧ ∃ nm : String, Cond.classLink RL z.2.2.2 nm ∈ GL ∧ (xcls q1.1, nm) ∈ XN := by
        rw [c3]
        intro z hz
        rcases List.mem_cons.mp hz with rfl | hz
        · exact ⟨by decide, _, gw_238, by decide +kernel⟩
        exact nomatch hz
      refine V_catch hC hX htab (pre := [(0, 7, 10, 15)]) (suf := []) rfl (by decide) (hpre1) (by decide) (by rw [c3]; exact gw_465) (by rw [c3]; decide +kernel) (fun w3 => ?_)
      refine V_astore hC ([(4, .ref w3), (0, .ref (adr G 6 0)), (1, .int x1), (2, .int x2)]) dL_section_15 (by decide) rfl ?_
      refine V_bipush hC ((-51) : Int32) dL_section_17 (by decide) ?_
      obtain ⟨rfl, rfl⟩ := Prod.mk.inj (Option.some.inj h)
      exact V_wiret hC hr hlk (by decide) (by decide) dL_section_19
    have h := ite_f c3 h
    cases h
theorem c_L_child {l : Launch} {G : Geo} {x1 : Int32} {x2 : Int32} {rv : Int32} {Mf : Mem} {M : Mem} (hlt : l.stackTraces = false) (hG : gD G) (h : f_L_child x1 x2 M = some (rv, Mf)) : Met l yL_child (.codeWith yL_child cL_child 5 (some .int) [(0, 7, 10, 15)] :: GL) (rmx 10) (gPx G [.ref (adr G 6 0), .int x1, .int x2] M) (gQ G (some (.int rv)) Mf) 1 6 (gA G) := by
  refine WMet_of (own := RL) (L := [(0, .ref (adr G 6 0)), (1, .int x1), (2, .int x2)]) hG (by decide +kernel) rfl (Nat.le_of_ble_eq_true rfl) rfl ?_
  intro p e s m args below meth c hC hX htab hr hlk
  refine V_aload_n hC dL_child_0 rfl 0 rfl ?_
  refine V_iload_n hC dL_child_1 rfl 1 rfl ?_
  refine V_iload_n hC dL_child_2 rfl 2 rfl ?_
  obtain ⟨q1, e1, h⟩ := bind_some h
  refine V_xV hC hX [.int x1, .int x2] (c_X8_child (l := l) (k0 := q1.1) (rv := q1.2.1) (Mf := q1.2.2) hlt hC.2.2.2.2.2.2.2 e1) kd_X8_child kv_X8_child gw_1064 (r_s0_0).o rfl ⟨Nat.le_of_ble_eq_true rfl, Nat.le_of_ble_eq_true rfl⟩ rfl (Nat.le_of_ble_eq_true rfl) dL_child_3 ⟨by decide, by decide⟩ rfl (fun z1 => ?_) (fun z1 => ?_)
  · have h := ite_t z1 h
    refine V_istore_n hC ([(3, .int q1.2.1), (0, .ref (adr G 6 0)), (1, .int x1), (2, .int x2)]) dL_child_6 rfl (by decide) rfl ?_
    refine V_goto hC 15 dL_child_7 (by decide) ?_
    refine V_iload_n hC dL_child_15 rfl 0 rfl ?_
    obtain ⟨rfl, rfl⟩ := Prod.mk.inj (Option.some.inj h)
    exact V_wiret hC hr hlk (by decide) (by decide) dL_child_16
  · have h := ite_f (Nat.ne_of_gt z1) h
    by_cases c2 : q1.1 = 1
    · have h := ite_t c2 h
      refine V_catch hC hX htab (pre := []) (suf := []) rfl (by decide) (fun z hz => nomatch hz) (by decide) (by rw [c2]; exact gw_238) (by rw [c2]; decide +kernel) (fun w2 => ?_)
      refine V_astore hC ([(4, .ref w2), (0, .ref (adr G 6 0)), (1, .int x1), (2, .int x2)]) dL_child_10 (by decide) rfl ?_
      refine V_bipush hC ((-53) : Int32) dL_child_12 (by decide) ?_
      obtain ⟨rfl, rfl⟩ := Prod.mk.inj (Option.some.inj h)
      exact V_wiret hC hr hlk (by decide) (by decide) dL_child_14
    have h := ite_f c2 h
    cases h
theorem c_L_line {l : Launch} {G : Geo} {x1 : Int32} {x2 : Int32} {rv : Int32} {Mf : Mem} {M : Mem} (hlt : l.stackTraces = false) (hG : gD G) (h : f_L_line x1 x2 M = some (rv, Mf)) : Met l yL_line (.codeWith yL_line cL_line 5 (some .int) [(0, 7, 10, 15)] :: GL) (rmx 10) (gPx G [.ref (adr G 6 0), .int x1, .int x2] M) (gQ G (some (.int rv)) Mf) 1 6 (gA G) := by
  refine WMet_of (own := RL) (L := [(0, .ref (adr G 6 0)), (1, .int x1), (2, .int x2)]) hG (by decide +kernel) rfl (Nat.le_of_ble_eq_true rfl) rfl ?_
  intro p e s m args below meth c hC hX htab hr hlk
  refine V_aload_n hC dL_line_0 rfl 0 rfl ?_
  refine V_iload_n hC dL_line_1 rfl 1 rfl ?_
  refine V_iload_n hC dL_line_2 rfl 2 rfl ?_
  obtain ⟨q1, e1, h⟩ := bind_some h
  refine V_xV hC hX [.int x1, .int x2] (c_X8_line (l := l) (k0 := q1.1) (rv := q1.2.1) (Mf := q1.2.2) hlt hC.2.2.2.2.2.2.2 e1) kd_X8_line kv_X8_line gw_995 (r_s0_0).o rfl ⟨Nat.le_of_ble_eq_true rfl, Nat.le_of_ble_eq_true rfl⟩ rfl (Nat.le_of_ble_eq_true rfl) dL_line_3 ⟨by decide, by decide⟩ rfl (fun z1 => ?_) (fun z1 => ?_)
  · have h := ite_t z1 h
    refine V_istore_n hC ([(3, .int q1.2.1), (0, .ref (adr G 6 0)), (1, .int x1), (2, .int x2)]) dL_line_6 rfl (by decide) rfl ?_
    refine V_goto hC 15 dL_line_7 (by decide) ?_
    refine V_iload_n hC dL_line_15 rfl 0 rfl ?_
    obtain ⟨rfl, rfl⟩ := Prod.mk.inj (Option.some.inj h)
    exact V_wiret hC hr hlk (by decide) (by decide) dL_line_16
  · have h := ite_f (Nat.ne_of_gt z1) h
    by_cases c2 : q1.1 = 1
    · have h := ite_t c2 h
      refine V_catch hC hX htab (pre := []) (suf := []) rfl (by decide) (fun z hz => nomatch hz) (by decide) (by rw [c2]; exact gw_238) (by rw [c2]; decide +kernel) (fun w2 => ?_)
      refine V_astore hC ([(4, .ref w2), (0, .ref (adr G 6 0)), (1, .int x1), (2, .int x2)]) dL_line_10 (by decide) rfl ?_
      refine V_bipush hC ((-53) : Int32) dL_line_12 (by decide) ?_
      obtain ⟨rfl, rfl⟩ := Prod.mk.inj (Option.some.inj h)
      exact V_wiret hC hr hlk (by decide) (by decide) dL_line_14
    have h := ite_f c2 h
    cases h
theorem c_L_write {l : Launch} {G : Geo} {x1 : Int32} {x2 : Int32} {x3 : Int32} {rv : Int32} {Mf : Mem} {M : Mem} (hlt : l.stackTraces = false) (hG : gD G) (h : f_L_write x1 x2 x3 M = some (rv, Mf)) : Met l yL_write (.codeWith yL_write cL_write 6 (some .int) [(0, 9, 12, 15), (0, 9, 17, 22), (0, 9, 22, 17)] :: GL) (rmx 10) (gPx G [.ref (adr G 6 0), .int x1, .int x2, .int x3] M) (gQ G (some (.int rv)) Mf) 1 6 (gA G) := by
  refine WMet_of (own := RL) (L := [(0, .ref (adr G 6 0)), (1, .int x1), (2, .int x2), (3, .int x3)]) hG (by decide +kernel) rfl (Nat.le_of_ble_eq_true rfl) rfl ?_
  intro p e s m args below meth c hC hX htab hr hlk
  refine V_aload_n hC dL_write_0 rfl 0 rfl ?_
  refine V_iload_n hC dL_write_1 rfl 1 rfl ?_
  refine V_iload_n hC dL_write_2 rfl 2 rfl ?_
  refine V_iload_n hC dL_write_3 rfl 3 rfl ?_
  obtain ⟨q1, e1, h⟩ := bind_some h
  refine V_xV hC hX [.int x1, .int x2, .int x3] (c_X8_write (l := l) (k0 := q1.1) (rv := q1.2.1) (Mf := q1.2.2) hlt hC.2.2.2.2.2.2.2 e1) kd_X8_write kv_X8_write gw_549 (r_s0_0).o rfl ⟨Nat.le_of_ble_eq_true rfl, Nat.le_of_ble_eq_true rfl⟩ rfl (Nat.le_of_ble_eq_true rfl) dL_write_4 ⟨by decide, by decide⟩ rfl (fun z1 => ?_) (fun z1 => ?_)
  · have h := ite_t z1 h
    refine V_istore hC ([(4, .int q1.2.1), (0, .ref (adr G 6 0)), (1, .int x1), (2, .int x2), (3, .int x3)]) dL_write_7 (by decide) rfl ?_
    refine V_goto hC 27 dL_write_9 (by decide) ?_
    refine V_iload hC dL_write_27 0 rfl ?_
    obtain ⟨rfl, rfl⟩ := Prod.mk.inj (Option.some.inj h)
    exact V_wiret hC hr hlk (by decide) (by decide) dL_write_29
  · have h := ite_f (Nat.ne_of_gt z1) h
    by_cases c2 : q1.1 = 1
    · have h := ite_t c2 h
      refine V_catch hC hX htab (pre := []) (suf := [(0, 9, 17, 22), (0, 9, 22, 17)]) rfl (by decide) (fun z hz => nomatch hz) (by decide) (by rw [c2]; exact gw_238) (by rw [c2]; decide +kernel) (fun w2 => ?_)
      refine V_astore hC ([(5, .ref w2), (0, .ref (adr G 6 0)), (1, .int x1), (2, .int x2), (3, .int x3)]) dL_write_12 (by decide) rfl ?_
      refine V_bipush hC ((-53) : Int32) dL_write_14 (by decide) ?_
      obtain ⟨rfl, rfl⟩ := Prod.mk.inj (Option.some.inj h)
      exact V_wiret hC hr hlk (by decide) (by decide) dL_write_16
    have h := ite_f c2 h
    by_cases c3 : q1.1 = 2
    · have h := ite_t c3 h
      have hpre1 : ∀ z ∈ [((0, 9, 12, 15) : Nat × Nat × Nat × Nat)], z.2.2.2 ≠ 0 ∧ ∃ nm : String, Cond.classLink RL z.2.2.2 nm ∈ GL ∧ (xcls q1.1, nm) ∈ XN := by
        rw [c3]
        intro z hz
        rcases List.mem_cons.mp hz with rfl | hz
        · exact ⟨by decide, _, gw_238, by decide +kernel⟩
        exact nomatch hz
      refine V_catch hC hX htab (pre := [(0, 9, 12, 15)]) (suf := [(0, 9, 22, 17)]) rfl (by decide) (hpre1) (by decide) (by rw [c3]; exact gw_465) (by rw [c3]; decide +kernel) (fun w3 => ?_)
      refine V_astore hC ([(5, .ref w3), (0, .ref (adr G 6 0)), (1, .int x1), (2, .int x2), (3, .int x3)]) dL_write_17 (by decide) rfl ?_
      refine V_bipush hC ((-51) : Int32) dL_write_19 (by decide) ?_
      obtain ⟨rfl, rfl⟩ := Prod.mk.inj (Option.some.inj h)
      exact V_wiret hC hr hlk (by decide) (by decide) dL_write_21
    have h := ite_f c3 h
    by_cases c4 : q1.1 = 3
    · have h := ite_t c4 h
      have hpre2 : ∀ z ∈ [((0, 9, 12, 15) : Nat × Nat × Nat × Nat), ((0, 9, 17, 22) : Nat × Nat × Nat × Nat)], z.2.2.2 ≠ 0 ∧ ∃ nm : String, Cond.classLink RL z.2.2.2 nm ∈ GL ∧ (xcls q1.1, nm) ∈ XN := by
        rw [c4]
        intro z hz
        rcases List.mem_cons.mp hz with rfl | hz
        · exact ⟨by decide, _, gw_238, by decide +kernel⟩
        rcases List.mem_cons.mp hz with rfl | hz
        · exact ⟨by decide, _, gw_465, by decide +kernel⟩
        exact nomatch hz
      refine V_catch hC hX htab (pre := [(0, 9, 12, 15), (0, 9, 17, 22)]) (suf := []) rfl (by decide) (hpre2) (by decide) (by rw [c4]; exact gw_239) (by rw [c4]; decide +kernel) (fun w4 => ?_)
      refine V_astore hC ([(5, .ref w4), (0, .ref (adr G 6 0)), (1, .int x1), (2, .int x2), (3, .int x3)]) dL_write_22 (by decide) rfl ?_
      refine V_bipush hC ((-52) : Int32) dL_write_24 (by decide) ?_
      obtain ⟨rfl, rfl⟩ := Prod.mk.inj (Option.some.inj h)
      exact V_wiret hC hr hlk (by decide) (by decide) dL_write_26
    have h := ite_f c4 h
    cases h
theorem c_L_request {l : Launch} {G : Geo} {x1 : Int32} {x2 : Int32} {x3 : Int32} {x4 : Int32} {rv : Int32} {Mf : Mem} {M : Mem} (hlt : l.stackTraces = false) (hG : gD G) (h : f_L_request x1 x2 x3 x4 M = some (rv, Mf)) : Met l yL_request (.codeWith yL_request cL_request 7 (some .int) [(0, 11, 14, 15), (0, 11, 19, 22), (0, 11, 24, 17)] :: GL) (rmx 10) (gPx G [.ref (adr G 6 0), .int x1, .int x2, .int x3, .int x4] M) (gQ G (some (.int rv)) Mf) 1 6 (gA G) := by
  refine WMet_of (own := RL) (L := [(0, .ref (adr G 6 0)), (1, .int x1), (2, .int x2), (3, .int x3), (4, .int x4)]) hG (by decide +kernel) rfl (Nat.le_of_ble_eq_true rfl) rfl ?_
  intro p e s m args below meth c hC hX htab hr hlk
  refine V_aload_n hC dL_request_0 rfl 0 rfl ?_
  refine V_iload_n hC dL_request_1 rfl 1 rfl ?_
  refine V_iload_n hC dL_request_2 rfl 2 rfl ?_
  refine V_iload_n hC dL_request_3 rfl 3 rfl ?_
  refine V_iload hC dL_request_4 4 rfl ?_
  obtain ⟨q1, e1, h⟩ := bind_some h
  refine V_xV hC hX [.int x1, .int x2, .int x3, .int x4] (c_X8_request (l := l) (k0 := q1.1) (rv := q1.2.1) (Mf := q1.2.2) hlt hC.2.2.2.2.2.2.2 e1) kd_X8_request kv_X8_request gw_603 (r_s0_0).o rfl ⟨Nat.le_of_ble_eq_true rfl, Nat.le_of_ble_eq_true rfl⟩ rfl (Nat.le_of_ble_eq_true rfl) dL_request_6 ⟨by decide, by decide⟩ rfl (fun z1 => ?_) (fun z1 => ?_)
  · have h := ite_t z1 h
    refine V_istore hC ([(5, .int q1.2.1), (0, .ref (adr G 6 0)), (1, .int x1), (2, .int x2), (3, .int x3), (4, .int x4)]) dL_request_9 (by decide) rfl ?_
    refine V_goto hC 29 dL_request_11 (by decide) ?_
    refine V_iload hC dL_request_29 0 rfl ?_
    obtain ⟨rfl, rfl⟩ := Prod.mk.inj (Option.some.inj h)
    exact V_wiret hC hr hlk (by decide) (by decide) dL_request_31
  · have h := ite_f (Nat.ne_of_gt z1) h
    by_cases c2 : q1.1 = 1
    · have h := ite_t c2 h
      refine V_catch hC hX htab (pre := []) (suf := [(0, 11, 19, 22), (0, 11, 24, 17)]) rfl (by decide) (fun z hz => nomatch hz) (by decide) (by rw [c2]; exact gw_238) (by rw [c2]; decide +kernel) (fun w2 => ?_)
      refine V_astore hC ([(6, .ref w2), (0, .ref (adr G 6 0)), (1, .int x1), (2, .int x2), (3, .int x3), (4, .int x4)]) dL_request_14 (by decide) rfl ?_
      refine V_bipush hC ((-53) : Int32) dL_request_16 (by decide) ?_
      obtain ⟨rfl, rfl⟩ := Prod.mk.inj (Option.some.inj h)
      exact V_wiret hC hr hlk (by decide) (by decide) dL_request_18
    have h := ite_f c2 h
    by_cases c3 : q1.1 = 2
    · have h := ite_t c3 h
      have hpre1 : ∀ z ∈ [((0, 11, 14, 15) : Nat × Nat × Nat × Nat)], z.2.2.2 ≠ 0 ∧ ∃ nm : String, Cond.classLink RL z.2.2.2 nm ∈ GL ∧ (xcls q1.1, nm) ∈ XN := by
        rw [c3]
        intro z hz
        rcases List.mem_cons.mp hz with rfl | hz
        · exact ⟨by decide, _, gw_238, by decide +kernel⟩
        exact nomatch hz
      refine V_catch hC hX htab (pre := [(0, 11, 14, 15)]) (suf := [(0, 11, 24, 17)]) rfl (by decide) (hpre1) (by decide) (by rw [c3]; exact gw_465) (by rw [c3]; decide +kernel) (fun w3 => ?_)
      refine V_astore hC ([(6, .ref w3), (0, .ref (adr G 6 0)), (1, .int x1), (2, .int x2), (3, .int x3), (4, .int x4)]) dL_request_19 (by decide) rfl ?_
      refine V_bipush hC ((-51) : Int32) dL_request_21 (by decide) ?_
      obtain ⟨rfl, rfl⟩ := Prod.mk.inj (Option.some.inj h)
      exact V_wiret hC hr hlk (by decide) (by decide) dL_request_23
    have h := ite_f c3 h
    by_cases c4 : q1.1 = 3
    · have h := ite_t c4 h
      have hpre2 : ∀ z ∈ [((0, 11, 14, 15) : Nat × Nat × Nat × Nat), ((0, 11, 19, 22) : Nat × Nat × Nat × Nat)], z.2.2.2 ≠ 0 ∧ ∃ nm : String, Cond.classLink RL z.2.2.2 nm ∈ GL ∧ (xcls q1.1, nm) ∈ XN := by
        rw [c4]
        intro z hz
        rcases List.mem_cons.mp hz with rfl | hz
        · exact ⟨by decide, _, gw_238, by decide +kernel⟩
        rcases List.mem_cons.mp hz with rfl | hz
        · exact ⟨by decide, _, gw_465, by decide +kernel⟩
        exact nomatch hz
      refine V_catch hC hX htab (pre := [(0, 11, 14, 15), (0, 11, 19, 22)]) (suf := []) rfl (by decide) (hpre2) (by decide) (by rw [c4]; exact gw_239) (by rw [c4]; decide +kernel) (fun w4 => ?_)
      refine V_astore hC ([(6, .ref w4), (0, .ref (adr G 6 0)), (1, .int x1), (2, .int x2), (3, .int x3), (4, .int x4)]) dL_request_24 (by decide) rfl ?_
      refine V_bipush hC ((-52) : Int32) dL_request_26 (by decide) ?_
      obtain ⟨rfl, rfl⟩ := Prod.mk.inj (Option.some.inj h)
      exact V_wiret hC hr hlk (by decide) (by decide) dL_request_28
    have h := ite_f c4 h
    cases h
end
