section
variable {p : Program} {l : Launch} {e : Env} {s : State} {m : MethodId} {args : Array Value} {below : List Frame} {meth : Method} {c : Code} {G : Geo}
theorem b_X6_push_12 {g2 : Nat} {Mf : Mem} {M : Mem} (hC : Cx p s m args c cX6_push RX6 2 G) (hr : meth.sig.returnType = none) (hlk : meth.locks = false) (hg2 : g2 < 6) (h : B_X6_push_12 g2 M = some Mf) : V p l e (rmk 5) s m args below meth c 2 G 0 0 (MQ below (gQ G none Mf) args s 0 0 (gA G)) 12 [(0, .ref (adr G 6 1)), (1, .ref (adr G g2 0))] [] M := by
  refine V_aload_n hC dX6_push_12 rfl 0 rfl ?_
  refine V_getI hC (f_s1_1) fw_X6_18 dX6_push_13 ?_
  refine V_if_lt hC 39 dX6_push_16 (by decide) (fun c2 => ?_) (fun c2 => ?_)
  · have h := ite_t c2 h
    obtain rfl := Option.some.inj h
    exact V_vret hC hr hlk dX6_push_39
  · have h := ite_f c2 h
    refine V_aload_n hC dX6_push_19 rfl 0 rfl ?_
    refine V_getI hC (f_s1_1) fw_X6_18 dX6_push_20 ?_
    refine V_iconst hC (4 : Int32) dX6_push_23 (by decide) ?_
    refine V_icmp_ge hC 39 dX6_push_24 (by decide) (fun c3 => ?_) (fun c3 => ?_)
    · have h := ite_t c3 h
      obtain rfl := Option.some.inj h
      exact V_vret hC hr hlk dX6_push_39
    · have h := ite_f c3 h
      refine V_aload_n hC dX6_push_27 rfl 0 rfl ?_
      refine V_getR hC (r_s1_0) fw_X6_11 dX6_push_28 ?_
      refine V_aload_n hC dX6_push_31 rfl 0 rfl ?_
      refine V_getI hC (f_s1_1) fw_X6_18 dX6_push_32 ?_
      obtain ⟨c4, h⟩ := ite_some h
      refine V_dald hC c4 dX6_push_35 ?_
      obtain ⟨c5, h⟩ := ite_some h
      refine V_ifnonnull hC 40 dX6_push_36 (by decide) ?_
      refine V_aload_n hC dX6_push_40 rfl 0 rfl ?_
      refine V_getR hC (r_s1_0) fw_X6_11 dX6_push_41 ?_
      refine V_aload_n hC dX6_push_44 rfl 0 rfl ?_
      refine V_getI hC (f_s1_1) fw_X6_18 dX6_push_45 ?_
      obtain ⟨c6, h⟩ := ite_some h
      refine V_dald hC c6 dX6_push_48 ?_
      obtain ⟨c7, h⟩ := ite_some h
      refine V_aload_n hC dX6_push_49 rfl 1 rfl ?_
      obtain ⟨q8, e8, h⟩ := bind_some h
      refine V_cVv hC [.ref (adr G g2 0)] (c_X1_copyFrom (l := l) hC.2.2.2.2.2.2.2 (of_gok c7) hg2 e8) kd_X1_copyFrom kv_X1_copyFrom gw_667 (r_d0_0 (of_gok c7)).o rfl ⟨Nat.le_of_ble_eq_true rfl, Nat.le_of_ble_eq_true rfl⟩ rfl (Nat.le_of_ble_eq_true rfl) dX6_push_50 ⟨Nat.zero_le _, Nat.zero_le _⟩ rfl ?_
      refine V_aload_n hC dX6_push_53 rfl 0 rfl ?_
      refine V_dup hC dX6_push_54 rfl ?_
      refine V_getI hC (f_s1_1) fw_X6_18 dX6_push_55 ?_
      refine V_iconst hC (1 : Int32) dX6_push_58 (by decide) ?_
      refine V_iadd hC dX6_push_59 ?_
      refine V_putI hC (f_s1_1) fw_X6_18 flp_6_1 dX6_push_60 ?_
      obtain rfl := Option.some.inj h
      exact V_vret hC hr hlk dX6_push_63
theorem c_X6_push {l : Launch} {G : Geo} {g2 : Nat} {Mf : Mem} {M : Mem} (hG : gD G) (hg2 : g2 < 6) (h : f_X6_push g2 M = some Mf) : Met l yX6_push (.code yX6_push cX6_push 2 none :: GL) (rmk 5) (gP G [.ref (adr G 6 1), .ref (adr G g2 0)] M) (gQ G none Mf) 0 0 (gA G) := by
  refine Met_of (own := RX6) (L := [(0, .ref (adr G 6 1)), (1, .ref (adr G g2 0))]) hG (by decide +kernel) rfl (Nat.le_of_ble_eq_true rfl) rfl ?_
  intro p e s m args below meth c hC hr hlk
  refine V_aload_n hC dX6_push_0 rfl 0 rfl ?_
  refine V_getI hC (f_s1_1) fw_X6_18 dX6_push_1 ?_
  refine V_iconst hC (4 : Int32) dX6_push_4 (by decide) ?_
  refine V_icmp_lt hC 12 dX6_push_5 (by decide) (fun c1 => ?_) (fun c1 => ?_)
  · have h := ite_t c1 h
    exact b_X6_push_12 hC hr hlk hg2 h
  · have h := ite_f c1 h
    refine V_aload_n hC dX6_push_8 rfl 0 rfl ?_
    obtain ⟨q9, e9, h⟩ := bind_some h
    refine V_cVv hC [] (c_X6_dropOldest (l := l) hC.2.2.2.2.2.2.2 e9) kd_X6_dropOldest kv_X6_dropOldest gw_663 (r_s1_0).o rfl ⟨Nat.le_of_ble_eq_true rfl, Nat.le_of_ble_eq_true rfl⟩ rfl (Nat.le_of_ble_eq_true rfl) dX6_push_9 ⟨Nat.zero_le _, Nat.zero_le _⟩ rfl ?_
    exact b_X6_push_12 hC hr hlk hg2 h
theorem c_X6_pop {l : Launch} {G : Geo} {g2 : Nat} {Mf : Mem} {M : Mem} (hG : gD G) (hg2 : g2 < 6) (h : f_X6_pop g2 M = some Mf) : Met l yX6_pop (.code yX6_pop cX6_pop 2 none :: GL) (rmk 5) (gP G [.ref (adr G 6 1), .ref (adr G g2 0)] M) (gQ G none Mf) 0 0 (gA G) := by
  refine Met_of (own := RX6) (L := [(0, .ref (adr G 6 1)), (1, .ref (adr G g2 0))]) hG (by decide +kernel) rfl (Nat.le_of_ble_eq_true rfl) rfl ?_
  intro p e s m args below meth c hC hr hlk
  refine V_aload_n hC dX6_pop_0 rfl 0 rfl ?_
  refine V_getI hC (f_s1_1) fw_X6_18 dX6_pop_1 ?_
  refine V_if_le hC 29 dX6_pop_4 (by decide) (fun c1 => ?_) (fun c1 => ?_)
  · have h := ite_t c1 h
    obtain rfl := Option.some.inj h
    exact V_vret hC hr hlk dX6_pop_29
  · have h := ite_f c1 h
    refine V_aload_n hC dX6_pop_7 rfl 0 rfl ?_
    refine V_getI hC (f_s1_1) fw_X6_18 dX6_pop_8 ?_
    refine V_iconst hC (4 : Int32) dX6_pop_11 (by decide) ?_
    refine V_icmp_gt hC 29 dX6_pop_12 (by decide) (fun c2 => ?_) (fun c2 => ?_)
    · have h := ite_t c2 h
      obtain rfl := Option.some.inj h
      exact V_vret hC hr hlk dX6_pop_29
    · have h := ite_f c2 h
      refine V_aload_n hC dX6_pop_15 rfl 0 rfl ?_
      refine V_getR hC (r_s1_0) fw_X6_11 dX6_pop_16 ?_
      refine V_aload_n hC dX6_pop_19 rfl 0 rfl ?_
      refine V_getI hC (f_s1_1) fw_X6_18 dX6_pop_20 ?_
      refine V_iconst hC (1 : Int32) dX6_pop_23 (by decide) ?_
      refine V_isub hC dX6_pop_24 ?_
      obtain ⟨c3, h⟩ := ite_some h
      refine V_dald hC c3 dX6_pop_25 ?_
      obtain ⟨c4, h⟩ := ite_some h
      refine V_ifnonnull hC 30 dX6_pop_26 (by decide) ?_
      refine V_aload_n hC dX6_pop_30 rfl 0 rfl ?_
      refine V_dup hC dX6_pop_31 rfl ?_
      refine V_getI hC (f_s1_1) fw_X6_18 dX6_pop_32 ?_
      refine V_iconst hC (1 : Int32) dX6_pop_35 (by decide) ?_
      refine V_isub hC dX6_pop_36 ?_
      refine V_putI hC (f_s1_1) fw_X6_18 flp_6_1 dX6_pop_37 ?_
      refine V_aload_n hC dX6_pop_40 rfl 1 rfl ?_
      refine V_aload_n hC dX6_pop_41 rfl 0 rfl ?_
      refine V_getR hC (r_s1_0) fw_X6_11 dX6_pop_42 ?_
      refine V_aload_n hC dX6_pop_45 rfl 0 rfl ?_
      refine V_getI hC (f_s1_1) fw_X6_18 dX6_pop_46 ?_
      obtain ⟨c5, h⟩ := ite_some h
      refine V_dald hC c5 dX6_pop_49 ?_
      obtain ⟨c6, h⟩ := ite_some h
      obtain ⟨q7, e7, h⟩ := bind_some h
      refine V_cVv hC [.ref (adr G (cl ((wr M 6 1 1 ((M.1 6 1 1) - (1 : Int32))).1 6 2 (cl ((wr M 6 1 1 ((M.1 6 1 1) - (1 : Int32))).1 6 1 1)))) 0)] (c_X1_copyFrom (l := l) hC.2.2.2.2.2.2.2 hg2 (of_gok c6) e7) kd_X1_copyFrom kv_X1_copyFrom gw_667 (r_d0_0 hg2).o rfl ⟨Nat.le_of_ble_eq_true rfl, Nat.le_of_ble_eq_true rfl⟩ rfl (Nat.le_of_ble_eq_true rfl) dX6_pop_50 ⟨Nat.zero_le _, Nat.zero_le _⟩ rfl ?_
      obtain rfl := Option.some.inj h
      exact V_vret hC hr hlk dX6_pop_53
theorem c_X7_depthOf {l : Launch} {G : Geo} {g : Nat} {x1 : Int32} {rv : Int32} {M : Mem} (hG : gD G) (hg : g < 6) (h : f_X7_depthOf g x1 M = some rv) : Met l yX7_depthOf (.code yX7_depthOf cX7_depthOf 2 (some .int) :: GL) (rmk 1) (gP G [.ref (adr G g 1), .int x1] M) (gQ G (some (.int rv)) M) 0 0 (gA G) := by
  refine Met_of (own := RX7) (L := [(0, .ref (adr G g 1)), (1, .int x1)]) hG (by decide +kernel) rfl (Nat.le_of_ble_eq_true rfl) rfl ?_
  intro p e s m args below meth c hC hr hlk
  refine V_aload_n hC dX7_depthOf_0 rfl 0 rfl ?_
  refine V_iload_n hC dX7_depthOf_1 rfl 1 rfl ?_
  obtain ⟨q1, e1, h⟩ := bind_some h
  refine V_cVr hC [.int x1] (c_X7_lineageOf (l := l) hC.2.2.2.2.2.2.2 hg e1) kd_X7_lineageOf kv_X7_lineageOf gw_352 (r_d1_0 hg).o rfl ⟨Nat.le_of_ble_eq_true rfl, Nat.le_of_ble_eq_true rfl⟩ rfl (Nat.le_of_ble_eq_true rfl) dX7_depthOf_2 ⟨Nat.zero_le _, Nat.zero_le _⟩ rfl ?_
  refine V_cSr hC [.int q1] (c_J6_bitCount_0f7a4 (l := l) hC.2.2.2.2.2.2.2 rfl) kd_J6_bitCount_0f7a4 gw_493 gw_929 ⟨Nat.le_of_ble_eq_true rfl, Nat.le_of_ble_eq_true rfl⟩ rfl (Nat.le_of_ble_eq_true rfl) dX7_depthOf_5 ⟨Nat.zero_le _, Nat.zero_le _⟩ rfl ?_
  refine V_iconst hC (1 : Int32) dX7_depthOf_8 (by decide) ?_
  refine V_isub hC dX7_depthOf_9 ?_
  obtain rfl := Option.some.inj h
  exact V_iret hC hr hlk dX7_depthOf_10
theorem l_X7_lowestFree_2 {g : Nat} {rv : Int32} {M : Mem} (hC : Cx p s m args c cX7_lowestFree RX7 2 G) (hr : meth.sig.returnType = some .int) (hlk : meth.locks = false) (hg : g < 6) : ∀ (n : Nat) {x1 : Int32} (h : L_X7_lowestFree_2 g M n x1 = some rv), V p l e (rmk 0) s m args below meth c 2 G 0 0 (MQ below (gQ G (some (.int rv)) M) args s 0 0 (gA G)) 2 [(0, .ref (adr G g 1)), (1, .int x1)] [] M := by
  intro n
  induction n with
  | zero => intro x1 h; cases h
  | succ n ih =>
    intro x1 h
    have hk2 : ∀ (x1 : Int32), L_X7_lowestFree_2 g M n x1 = some rv → V p l e (rmk 0) s m args below meth c 2 G 0 0 (MQ below (gQ G (some (.int rv)) M) args s 0 0 (gA G)) 2 [(0, .ref (adr G g 1)), (1, .int x1)] [] M := fun _ z => ih z
    refine V_iload_n hC dX7_lowestFree_2 rfl 1 rfl ?_
    refine V_bipush hC (20 : Int32) dX7_lowestFree_3 (by decide) ?_
    refine V_icmp_ge hC 27 dX7_lowestFree_5 (by decide) (fun c1 => ?_) (fun c1 => ?_)
    · have h := ite_t c1 h
      refine V_iconst hC ((-1) : Int32) dX7_lowestFree_27 (by decide) ?_
      obtain rfl := Option.some.inj h
      exact V_iret hC hr hlk dX7_lowestFree_28
    · have h := ite_f c1 h
      refine V_aload_n hC dX7_lowestFree_8 rfl 0 rfl ?_
      refine V_getR hC (r_d1_0 hg) fw_X7_9 dX7_lowestFree_9 ?_
      refine V_iload_n hC dX7_lowestFree_12 rfl 1 rfl ?_
      obtain ⟨c2, h⟩ := ite_some h
      refine V_iald hC (a_d2 hg) c2 dX7_lowestFree_13 ?_
      refine V_bipush hC ((-2) : Int32) dX7_lowestFree_14 (by decide) ?_
      refine V_icmp_ne hC 21 dX7_lowestFree_16 (by decide) (fun c3 => ?_) (fun c3 => ?_)
      · have h := ite_f c3 h
        refine V_iinc hC (x1 + 1) ([(1, .int (x1 + 1)), (0, .ref (adr G g 1))]) dX7_lowestFree_21 1 rfl rfl (by decide) rfl ?_
        refine V_goto hC 2 dX7_lowestFree_24 (by decide) ?_
        refine V_sub [1, 0] rfl ?_
        exact hk2 _ h
      · have h := ite_t c3 h
        refine V_iload_n hC dX7_lowestFree_19 rfl 1 rfl ?_
        obtain rfl := Option.some.inj h
        exact V_iret hC hr hlk dX7_lowestFree_20
theorem c_X7_lowestFree {l : Launch} {G : Geo} {g : Nat} {rv : Int32} {M : Mem} (hG : gD G) (hg : g < 6) (h : f_X7_lowestFree g M = some rv) : Met l yX7_lowestFree (.code yX7_lowestFree cX7_lowestFree 2 (some .int) :: GL) (rmk 0) (gP G [.ref (adr G g 1)] M) (gQ G (some (.int rv)) M) 0 0 (gA G) := by
  refine Met_of (own := RX7) (L := [(0, .ref (adr G g 1))]) hG (by decide +kernel) rfl (Nat.le_of_ble_eq_true rfl) rfl ?_
  intro p e s m args below meth c hC hr hlk
  refine V_iconst hC (0 : Int32) dX7_lowestFree_0 (by decide) ?_
  refine V_istore_n hC ([(1, .int (0 : Int32)), (0, .ref (adr G g 1))]) dX7_lowestFree_1 rfl (by decide) rfl ?_
  refine V_sub [1, 0] rfl ?_
  exact l_X7_lowestFree_2 hC hr hlk hg FU h
theorem l_X7_add_46 {g : Nat} {rv : Int32} {Mf : Mem} {x2 : Int32} (hC : Cx p s m args c cX7_add RX7 4 G) (hr : meth.sig.returnType = some .int) (hlk : meth.locks = false) (hg : g < 6) : ∀ (n : Nat) {x3 : Int32} {M : Mem} (h : L_X7_add_46 g x2 n x3 M = some (rv, Mf)), V p l e (rmk 3) s m args below meth c 4 G 0 0 (MQ below (gQ G (some (.int rv)) Mf) args s 0 0 (gA G)) 46 [(0, .ref (adr G g 1)), (2, .int x2), (3, .int x3)] [] M := by
  intro n
  induction n with
  | zero => intro x3 M h; cases h
  | succ n ih =>
    intro x3 M h
    have hk46 : ∀ (x3 : Int32) (M : Mem), L_X7_add_46 g x2 n x3 M = some (rv, Mf) → V p l e (rmk 3) s m args below meth c 4 G 0 0 (MQ below (gQ G (some (.int rv)) Mf) args s 0 0 (gA G)) 46 [(0, .ref (adr G g 1)), (2, .int x2), (3, .int x3)] [] M := fun _ _ z => ih z
    refine V_iload_n hC dX7_add_46 rfl 2 rfl ?_
    refine V_bipush hC (6 : Int32) dX7_add_47 (by decide) ?_
    refine V_icmp_ge hC 68 dX7_add_49 (by decide) (fun c8 => ?_) (fun c8 => ?_)
    · have h := ite_t c8 h
      refine V_aload_n hC dX7_add_68 rfl 0 rfl ?_
      refine V_getR hC (r_d1_1 hg) fw_X7_15 dX7_add_69 ?_
      refine V_aload_n hC dX7_add_72 rfl 0 rfl ?_
      refine V_getI hC (f_d1_6 hg) fw_X7_36 dX7_add_73 ?_
      refine V_iload_n hC dX7_add_76 rfl 1 rfl ?_
      obtain ⟨c9, h⟩ := ite_some h
      refine V_iast hC (a_d3 hg) c9 dX7_add_77 ?_
      refine V_aload_n hC dX7_add_78 rfl 0 rfl ?_
      refine V_dup hC dX7_add_79 rfl ?_
      refine V_getI hC (f_d1_6 hg) fw_X7_36 dX7_add_80 ?_
      refine V_iconst hC (1 : Int32) dX7_add_83 (by decide) ?_
      refine V_iadd hC dX7_add_84 ?_
      refine V_putI hC (f_d1_6 hg) fw_X7_36 flp_7_6 dX7_add_85 ?_
      refine V_aload_n hC dX7_add_88 rfl 0 rfl ?_
      obtain ⟨q10, e10, h⟩ := bind_some h
      refine V_cVv hC [] (c_X7_findOverlaps (l := l) hC.2.2.2.2.2.2.2 hg e10) kd_X7_findOverlaps kv_X7_findOverlaps gw_871 (r_d1_0 hg).o rfl ⟨Nat.le_of_ble_eq_true rfl, Nat.le_of_ble_eq_true rfl⟩ rfl (Nat.le_of_ble_eq_true rfl) dX7_add_89 ⟨Nat.zero_le _, Nat.zero_le _⟩ rfl ?_
      refine V_iload_n hC dX7_add_92 rfl 1 rfl ?_
      obtain ⟨rfl, rfl⟩ := Prod.mk.inj (Option.some.inj h)
      exact V_iret hC hr hlk dX7_add_93
    · have h := ite_f c8 h
      refine V_aload_n hC dX7_add_52 rfl 0 rfl ?_
      refine V_iload_n hC dX7_add_53 rfl 1 rfl ?_
      refine V_iload_n hC dX7_add_54 rfl 2 rfl ?_
      refine V_cSNr hC [.int x2, .int x3] (c_X8_cellOf (l := l) hC.2.2.2.2.2.2.2 rfl) kd_X8_cellOf gw_557 nw_41 ⟨Nat.le_of_ble_eq_true rfl, Nat.le_of_ble_eq_true rfl⟩ rfl (Nat.le_of_ble_eq_true rfl) dX7_add_55 ⟨Nat.zero_le _, Nat.zero_le _⟩ rfl ?_
      refine V_iconst hC (0 : Int32) dX7_add_58 (by decide) ?_
      obtain ⟨q12, e12, h⟩ := bind_some h
      refine V_cVv hC [.int (f_X8_cellOf x2 x3), .int (0 : Int32)] (c_X7_setValue (l := l) hC.2.2.2.2.2.2.2 hg e12) kd_X7_setValue kv_X7_setValue gw_870 (r_d1_0 hg).o rfl ⟨Nat.le_of_ble_eq_true rfl, Nat.le_of_ble_eq_true rfl⟩ rfl (Nat.le_of_ble_eq_true rfl) dX7_add_59 ⟨Nat.zero_le _, Nat.zero_le _⟩ rfl ?_
      refine V_iinc hC (x3 + 1) ([(3, .int (x3 + 1)), (0, .ref (adr G g 1)), (2, .int x2)]) dX7_add_62 2 rfl rfl (by decide) rfl ?_
      refine V_goto hC 46 dX7_add_65 (by decide) ?_
      refine V_sub [1, 2, 0] rfl ?_
      exact hk46 _ _ h
theorem c_X7_add {l : Launch} {G : Geo} {g : Nat} {x1 : Int32} {rv : Int32} {Mf : Mem} {M : Mem} (hG : gD G) (hg : g < 6) (h : f_X7_add g x1 M = some (rv, Mf)) : Met l yX7_add (.code yX7_add cX7_add 4 (some .int) :: GL) (rmk 3) (gP G [.ref (adr G g 1), .int x1] M) (gQ G (some (.int rv)) Mf) 0 0 (gA G) := by
  refine Met_of (own := RX7) (L := [(0, .ref (adr G g 1)), (1, .int x1)]) hG (by decide +kernel) rfl (Nat.le_of_ble_eq_true rfl) rfl ?_
  intro p e s m args below meth c hC hr hlk
  refine V_aload_n hC dX7_add_0 rfl 0 rfl ?_
  obtain ⟨q1, e1, h⟩ := bind_some h
  refine V_cVr hC [] (c_X7_lowestFree (l := l) hC.2.2.2.2.2.2.2 hg e1) kd_X7_lowestFree kv_X7_lowestFree gw_865 (r_d1_0 hg).o rfl ⟨Nat.le_of_ble_eq_true rfl, Nat.le_of_ble_eq_true rfl⟩ rfl (Nat.le_of_ble_eq_true rfl) dX7_add_1 ⟨Nat.zero_le _, Nat.zero_le _⟩ rfl ?_
  refine V_istore_n hC ([(2, .int q1), (0, .ref (adr G g 1)), (1, .int x1)]) dX7_add_4 rfl (by decide) rfl ?_
  refine V_iload_n hC dX7_add_5 rfl 0 rfl ?_
  refine V_iconst hC (0 : Int32) dX7_add_6 (by decide) ?_
  refine V_bipush hC (19 : Int32) dX7_add_7 (by decide) ?_
  refine V_cSNr hC [.int q1, .int (0 : Int32), .int (19 : Int32)] (c_X8_isWithin (l := l) hC.2.2.2.2.2.2.2 rfl) kd_X8_isWithin gw_266 nw_45 ⟨Nat.le_of_ble_eq_true rfl, Nat.le_of_ble_eq_true rfl⟩ rfl (Nat.le_of_ble_eq_true rfl) dX7_add_9 ⟨Nat.zero_le _, Nat.zero_le _⟩ rfl ?_
  refine V_if_eq hC 28 dX7_add_12 (by decide) (fun c3 => ?_) (fun c3 => ?_)
  · have h := ite_t c3 h
    refine V_iconst hC ((-1) : Int32) dX7_add_28 (by decide) ?_
    obtain ⟨rfl, rfl⟩ := Prod.mk.inj (Option.some.inj h)
    exact V_iret hC hr hlk dX7_add_29
  · have h := ite_f c3 h
    refine V_aload_n hC dX7_add_15 rfl 1 rfl ?_
    refine V_getI hC (f_d1_6 hg) fw_X7_36 dX7_add_16 ?_
    refine V_iconst hC (0 : Int32) dX7_add_19 (by decide) ?_
    refine V_bipush hC (19 : Int32) dX7_add_20 (by decide) ?_
    refine V_cSNr hC [.int (M.1 g 1 6), .int (0 : Int32), .int (19 : Int32)] (c_X8_isWithin (l := l) hC.2.2.2.2.2.2.2 rfl) kd_X8_isWithin gw_266 nw_45 ⟨Nat.le_of_ble_eq_true rfl, Nat.le_of_ble_eq_true rfl⟩ rfl (Nat.le_of_ble_eq_true rfl) dX7_add_22 ⟨Nat.zero_le _, Nat.zero_le _⟩ rfl ?_
    refine V_if_ne hC 30 dX7_add_25 (by decide) (fun c5 => ?_) (fun c5 => ?_)
    · have h := ite_f c5 h
      refine V_aload_n hC dX7_add_30 rfl 1 rfl ?_
      refine V_getR hC (r_d1_0 hg) fw_X7_9 dX7_add_31 ?_
      refine V_iload_n hC dX7_add_34 rfl 0 rfl ?_
      refine V_iload_n hC dX7_add_35 rfl 2 rfl ?_
      obtain ⟨c6, h⟩ := ite_some h
      refine V_iast hC (a_d2 hg) c6 dX7_add_36 ?_
      refine V_aload_n hC dX7_add_37 rfl 1 rfl ?_
      refine V_getR hC (r_d1_2 hg) fw_X7_18 dX7_add_38 ?_
      refine V_iload_n hC dX7_add_41 rfl 0 rfl ?_
      refine V_iconst hC (0 : Int32) dX7_add_42 (by decide) ?_
      obtain ⟨c7, h⟩ := ite_some h
      refine V_iast hC (a_d4 hg) c7 dX7_add_43 ?_
      refine V_iconst hC (0 : Int32) dX7_add_44 (by decide) ?_
      refine V_istore_n hC ([(3, .int (0 : Int32)), (2, .int q1), (0, .ref (adr G g 1)), (1, .int x1)]) dX7_add_45 rfl (by decide) rfl ?_
      refine V_sub [2, 1, 0] rfl ?_
      exact l_X7_add_46 hC hr hlk hg FU h
    · have h := ite_t c5 h
      refine V_iconst hC ((-1) : Int32) dX7_add_28 (by decide) ?_
      obtain ⟨rfl, rfl⟩ := Prod.mk.inj (Option.some.inj h)
      exact V_iret hC hr hlk dX7_add_29
theorem b_X7_move_82 {g : Nat} {Mf : Mem} {x1 : Int32} {x2 : Int32} {M : Mem} (hC : Cx p s m args c cX7_move RX7 5 G) (hr : meth.sig.returnType = none) (hlk : meth.locks = false) (hg : g < 6) (h : B_X7_move_82 g x1 x2 M = some Mf) : V p l e (rmk 2) s m args below meth c 5 G 0 0 (MQ below (gQ G none Mf) args s 0 0 (gA G)) 82 [(0, .ref (adr G g 1)), (1, .int x1), (2, .int x2)] [] M := by
  refine V_aload_n hC dX7_move_82 rfl 0 rfl ?_
  refine V_getR hC (r_d1_0 hg) fw_X7_9 dX7_move_83 ?_
  refine V_iload_n hC dX7_move_86 rfl 1 rfl ?_
  refine V_iload_n hC dX7_move_87 rfl 2 rfl ?_
  obtain ⟨c5, h⟩ := ite_some h
  refine V_iast hC (a_d2 hg) c5 dX7_move_88 ?_
  refine V_aload_n hC dX7_move_89 rfl 0 rfl ?_
  obtain ⟨q6, e6, h⟩ := bind_some h
  refine V_cVv hC [] (c_X7_findOverlaps (l := l) hC.2.2.2.2.2.2.2 hg e6) kd_X7_findOverlaps kv_X7_findOverlaps gw_871 (r_d1_0 hg).o rfl ⟨Nat.le_of_ble_eq_true rfl, Nat.le_of_ble_eq_true rfl⟩ rfl (Nat.le_of_ble_eq_true rfl) dX7_move_90 ⟨Nat.zero_le _, Nat.zero_le _⟩ rfl ?_
  obtain rfl := Option.some.inj h
  exact V_vret hC hr hlk dX7_move_93
theorem b_X7_move_69 {g : Nat} {Mf : Mem} {x1 : Int32} {x2 : Int32} {x3 : Int32} {M : Mem} (hC : Cx p s m args c cX7_move RX7 5 G) (hr : meth.sig.returnType = none) (hlk : meth.locks = false) (hg : g < 6) (h : B_X7_move_69 g x1 x2 x3 M = some Mf) : V p l e (rmk 2) s m args below meth c 5 G 0 0 (MQ below (gQ G none Mf) args s 0 0 (gA G)) 69 [(0, .ref (adr G g 1)), (1, .int x1), (2, .int x2), (3, .int x3)] [] M := by
  refine V_iload_n hC dX7_move_69 rfl 3 rfl ?_
  refine V_bipush hC (20 : Int32) dX7_move_70 (by decide) ?_
  refine V_icmp_ge hC 82 dX7_move_72 (by decide) (fun c4 => ?_) (fun c4 => ?_)
  · have h := ite_t c4 h
    refine V_sub [0, 1, 2] rfl ?_
    exact b_X7_move_82 hC hr hlk hg h
  · have h := ite_f c4 h
    refine V_aload_n hC dX7_move_75 rfl 0 rfl ?_
    refine V_getR hC (r_d1_1 hg) fw_X7_15 dX7_move_76 ?_
    refine V_iload_n hC dX7_move_79 rfl 3 rfl ?_
    refine V_iload_n hC dX7_move_80 rfl 1 rfl ?_
    obtain ⟨c7, h⟩ := ite_some h
    refine V_iast hC (a_d3 hg) c7 dX7_move_81 ?_
    refine V_sub [0, 1, 2] rfl ?_
    exact b_X7_move_82 hC hr hlk hg h
theorem b_X7_move_63 {g : Nat} {Mf : Mem} {k14 : Int32 → Int32 → Mem → Option Mem} {x1 : Int32} {x2 : Int32} {x3 : Int32} {x4 : Int32} {M : Mem} (hC : Cx p s m args c cX7_move RX7 5 G) (hr : meth.sig.returnType = none) (hlk : meth.locks = false) (hg : g < 6) (hk14 : ∀ (x3 : Int32) (x4 : Int32) (M : Mem), k14 x3 x4 M = some Mf → V p l e (rmk 2) s m args below meth c 5 G 0 0 (MQ below (gQ G none Mf) args s 0 0 (gA G)) 14 [(0, .ref (adr G g 1)), (1, .int x1), (2, .int x2), (3, .int x3), (4, .int x4)] [] M) (h : B_X7_move_63 g k14 x1 x2 x3 x4 M = some Mf) : V p l e (rmk 2) s m args below meth c 5 G 0 0 (MQ below (gQ G none Mf) args s 0 0 (gA G)) 63 [(0, .ref (adr G g 1)), (1, .int x1), (2, .int x2), (3, .int x3), (4, .int x4)] [] M := by
  refine V_iinc hC (x4 + 1) ([(4, .int (x4 + 1)), (0, .ref (adr G g 1)), (1, .int x1), (2, .int x2), (3, .int x3)]) dX7_move_63 4 rfl rfl (by decide) rfl ?_
  refine V_goto hC 14 dX7_move_66 (by decide) ?_
  refine V_sub [1, 2, 3, 4, 0] rfl ?_
  exact hk14 _ _ _ h
theorem l_X7_move_14 {g : Nat} {Mf : Mem} {x1 : Int32} {x2 : Int32} (hC : Cx p s m args c cX7_move RX7 5 G) (hr : meth.sig.returnType = none) (hlk : meth.locks = false) (hg : g < 6) : ∀ (n : Nat) {x3 : Int32} {x4 : Int32} {M : Mem} (h : L_X7_move_14 g x1 x2 n x3 x4 M = some Mf), V p l e (rmk 2) s m args below meth c 5 G 0 0 (MQ below (gQ G none Mf) args s 0 0 (gA G)) 14 [(0, .ref (adr G g 1)), (1, .int x1), (2, .int x2), (3, .int x3), (4, .int x4)] [] M := by
  intro n
  induction n with
  | zero => intro x3 x4 M h; cases h
  | succ n ih =>
    intro x3 x4 M h
    have hk14 : ∀ (x3 : Int32) (x4 : Int32) (M : Mem), L_X7_move_14 g x1 x2 n x3 x4 M = some Mf → V p l e (rmk 2) s m args below meth c 5 G 0 0 (MQ below (gQ G none Mf) args s 0 0 (gA G)) 14 [(0, .ref (adr G g 1)), (1, .int x1), (2, .int x2), (3, .int x3), (4, .int x4)] [] M := fun _ _ _ z => ih z
    refine V_iload hC dX7_move_14 4 rfl ?_
    refine V_aload_n hC dX7_move_16 rfl 0 rfl ?_
    refine V_getI hC (f_d1_6 hg) fw_X7_36 dX7_move_17 ?_
    refine V_icmp_ge hC 69 dX7_move_20 (by decide) (fun c3 => ?_) (fun c3 => ?_)
    · have h := ite_t c3 h
      refine V_sub [0, 1, 2, 3] rfl ?_
      exact b_X7_move_69 hC hr hlk hg h
    · have h := ite_f c3 h
      refine V_iload hC dX7_move_23 4 rfl ?_
      refine V_bipush hC (20 : Int32) dX7_move_25 (by decide) ?_
      refine V_icmp_ge hC 69 dX7_move_27 (by decide) (fun c8 => ?_) (fun c8 => ?_)
      · have h := ite_t c8 h
        refine V_sub [0, 1, 2, 3] rfl ?_
        exact b_X7_move_69 hC hr hlk hg h
      · have h := ite_f c8 h
        refine V_iload_n hC dX7_move_30 rfl 3 rfl ?_
        refine V_bipush hC (20 : Int32) dX7_move_31 (by decide) ?_
        refine V_icmp_ge hC 69 dX7_move_33 (by decide) (fun c9 => ?_) (fun c9 => ?_)
        · have h := ite_t c9 h
          refine V_sub [0, 1, 2, 3] rfl ?_
          exact b_X7_move_69 hC hr hlk hg h
        · have h := ite_f c9 h
          refine V_aload_n hC dX7_move_36 rfl 0 rfl ?_
          refine V_getR hC (r_d1_1 hg) fw_X7_15 dX7_move_37 ?_
          refine V_iload hC dX7_move_40 4 rfl ?_
          obtain ⟨c10, h⟩ := ite_some h
          refine V_iald hC (a_d3 hg) c10 dX7_move_42 ?_
          refine V_iload_n hC dX7_move_43 rfl 1 rfl ?_
          refine V_icmp_eq hC 63 dX7_move_44 (by decide) (fun c11 => ?_) (fun c11 => ?_)
          · have h := ite_t c11 h
            exact b_X7_move_63 hC hr hlk hg hk14 h
          · have h := ite_f c11 h
            refine V_aload_n hC dX7_move_47 rfl 0 rfl ?_
            refine V_getR hC (r_d1_1 hg) fw_X7_15 dX7_move_48 ?_
            refine V_iload_n hC dX7_move_51 rfl 3 rfl ?_
            refine V_aload_n hC dX7_move_52 rfl 0 rfl ?_
            refine V_getR hC (r_d1_1 hg) fw_X7_15 dX7_move_53 ?_
            refine V_iload hC dX7_move_56 4 rfl ?_
            obtain ⟨c12, h⟩ := ite_some h
            refine V_iald hC (a_d3 hg) c12 dX7_move_58 ?_
            obtain ⟨c13, h⟩ := ite_some h
            refine V_iast hC (a_d3 hg) c13 dX7_move_59 ?_
            refine V_iinc hC (x3 + 1) ([(3, .int (x3 + 1)), (0, .ref (adr G g 1)), (1, .int x1), (2, .int x2), (4, .int x4)]) dX7_move_60 3 rfl rfl (by decide) rfl ?_
            refine V_sub [1, 2, 3, 0, 4] rfl ?_
            exact b_X7_move_63 hC hr hlk hg hk14 h
theorem c_X7_move {l : Launch} {G : Geo} {g : Nat} {x1 : Int32} {x2 : Int32} {Mf : Mem} {M : Mem} (hG : gD G) (hg : g < 6) (h : f_X7_move g x1 x2 M = some Mf) : Met l yX7_move (.code yX7_move cX7_move 5 none :: GL) (rmk 2) (gP G [.ref (adr G g 1), .int x1, .int x2] M) (gQ G none Mf) 0 0 (gA G) := by
  refine Met_of (own := RX7) (L := [(0, .ref (adr G g 1)), (1, .int x1), (2, .int x2)]) hG (by decide +kernel) rfl (Nat.le_of_ble_eq_true rfl) rfl ?_
  intro p e s m args below meth c hC hr hlk
  refine V_aload_n hC dX7_move_0 rfl 0 rfl ?_
  refine V_iload_n hC dX7_move_1 rfl 1 rfl ?_
  obtain ⟨q1, e1, h⟩ := bind_some h
  refine V_cVr hC [.int x1] (c_X7_has (l := l) hC.2.2.2.2.2.2.2 hg e1) kd_X7_has kv_X7_has gw_612 (r_d1_0 hg).o rfl ⟨Nat.le_of_ble_eq_true rfl, Nat.le_of_ble_eq_true rfl⟩ rfl (Nat.le_of_ble_eq_true rfl) dX7_move_2 ⟨Nat.zero_le _, Nat.zero_le _⟩ rfl ?_
  refine V_if_ne hC 9 dX7_move_5 (by decide) (fun c2 => ?_) (fun c2 => ?_)
  · have h := ite_f c2 h
    refine V_iconst hC (0 : Int32) dX7_move_9 (by decide) ?_
    refine V_istore_n hC ([(3, .int (0 : Int32)), (0, .ref (adr G g 1)), (1, .int x1), (2, .int x2)]) dX7_move_10 rfl (by decide) rfl ?_
    refine V_iconst hC (0 : Int32) dX7_move_11 (by decide) ?_
    refine V_istore hC ([(4, .int (0 : Int32)), (3, .int (0 : Int32)), (0, .ref (adr G g 1)), (1, .int x1), (2, .int x2)]) dX7_move_12 (by decide) rfl ?_
    refine V_sub [2, 3, 4, 1, 0] rfl ?_
    exact l_X7_move_14 hC hr hlk hg FU h
  · have h := ite_t c2 h
    obtain rfl := Option.some.inj h
    exact V_vret hC hr hlk dX7_move_8
theorem c_X8_sections {l : Launch} {G : Geo} {rv : Int32} {M : Mem} (hG : gD G) (h : f_X8_sections M = rv) : Met l yX8_sections (.code yX8_sections cX8_sections 1 (some .int) :: GL) (rmk 0) (gP G [.ref (adr G 6 0)] M) (gQ G (some (.int rv)) M) 0 0 (gA G) := by
  refine Met_of (own := RX8) (L := [(0, .ref (adr G 6 0))]) hG (by decide +kernel) rfl (Nat.le_of_ble_eq_true rfl) rfl ?_
  intro p e s m args below meth c hC hr hlk
  refine V_aload_n hC dX8_sections_0 rfl 0 rfl ?_
  refine V_getR hC (r_s0_0) fw_X8_12 dX8_sections_1 ?_
  refine V_getR hC (r_d0_0 (by decide)) fw_X8_52 dX8_sections_4 ?_
  refine V_getI hC (f_d1_6 (by decide)) fw_X8_78 dX8_sections_7 ?_
  obtain rfl := id h
  exact V_iret hC hr hlk dX8_sections_10
theorem c_X8_entries {l : Launch} {G : Geo} {rv : Int32} {M : Mem} (hG : gD G) (h : f_X8_entries M = rv) : Met l yX8_entries (.code yX8_entries cX8_entries 1 (some .int) :: GL) (rmk 0) (gP G [.ref (adr G 6 0)] M) (gQ G (some (.int rv)) M) 0 0 (gA G) := by
  refine Met_of (own := RX8) (L := [(0, .ref (adr G 6 0))]) hG (by decide +kernel) rfl (Nat.le_of_ble_eq_true rfl) rfl ?_
  intro p e s m args below meth c hC hr hlk
  refine V_aload_n hC dX8_entries_0 rfl 0 rfl ?_
  refine V_getR hC (r_s0_0) fw_X8_12 dX8_entries_1 ?_
  refine V_getR hC (r_d0_3 (by decide)) fw_X8_234 dX8_entries_4 ?_
  refine V_getI hC (f_d14_2 (by decide)) fw_X8_238 dX8_entries_7 ?_
  obtain rfl := id h
  exact V_iret hC hr hlk dX8_entries_10
theorem c_X8_waiting {l : Launch} {G : Geo} {rv : Int32} {M : Mem} (hG : gD G) (h : f_X8_waiting M = rv) : Met l yX8_waiting (.code yX8_waiting cX8_waiting 1 (some .int) :: GL) (rmk 0) (gP G [.ref (adr G 6 0)] M) (gQ G (some (.int rv)) M) 0 0 (gA G) := by
  refine Met_of (own := RX8) (L := [(0, .ref (adr G 6 0))]) hG (by decide +kernel) rfl (Nat.le_of_ble_eq_true rfl) rfl ?_
  intro p e s m args below meth c hC hr hlk
  refine V_aload_n hC dX8_waiting_0 rfl 0 rfl ?_
  refine V_getR hC (r_s0_0) fw_X8_12 dX8_waiting_1 ?_
  refine V_getR hC (r_d0_2 (by decide)) fw_X8_219 dX8_waiting_4 ?_
  refine V_getI hC (f_d12_1 (by decide)) fw_X8_256 dX8_waiting_7 ?_
  obtain rfl := id h
  exact V_iret hC hr hlk dX8_waiting_10
theorem c_X8_clearText {l : Launch} {G : Geo} {rv : Int32} {Mf : Mem} {M : Mem} (hG : gD G) (h : f_X8_clearText M = some (rv, Mf)) : Met l yX8_clearText (.code yX8_clearText cX8_clearText 2 (some .int) :: GL) (rmk 0) (gP G [.ref (adr G 6 0)] M) (gQ G (some (.int rv)) Mf) 0 0 (gA G) := by
  refine Met_of (own := RX8) (L := [(0, .ref (adr G 6 0))]) hG (by decide +kernel) rfl (Nat.le_of_ble_eq_true rfl) rfl ?_
  intro p e s m args below meth c hC hr hlk
  refine V_aload_n hC dX8_clearText_0 rfl 0 rfl ?_
  refine V_getR hC (r_s0_3) fw_X8_29 dX8_clearText_1 ?_
  refine V_getI hC (f_s3_1) fw_X8_271 dX8_clearText_4 ?_
  refine V_istore_n hC ([(1, .int (M.1 6 3 1)), (0, .ref (adr G 6 0))]) dX8_clearText_7 rfl (by decide) rfl ?_
  refine V_aload_n hC dX8_clearText_8 rfl 1 rfl ?_
  refine V_getR hC (r_s0_3) fw_X8_29 dX8_clearText_9 ?_
  refine V_iconst hC (0 : Int32) dX8_clearText_12 (by decide) ?_
  refine V_putI hC (f_s3_1) fw_X8_271 flp_3_1 dX8_clearText_13 ?_
  refine V_iload_n hC dX8_clearText_16 rfl 0 rfl ?_
  obtain ⟨rfl, rfl⟩ := Prod.mk.inj (Option.some.inj h)
  exact V_iret hC hr hlk dX8_clearText_17
theorem b_X8_orderFault_81 {rv : Int32} {z0 : Int32} {z1 : Int32} {z2 : Int32} {z3 : Int32} {M : Mem} (hC : Cx p s m args c cX8_orderFault RX8 6 G) (hr : meth.sig.returnType = some .int) (hlk : meth.locks = false) (h : B_X8_orderFault_81 z0 z1 z2 z3 M = some rv) : V p l e (rmk 5) s m args below meth c 6 G 0 0 (MQ below (gQ G (some (.int rv)) M) args s 0 0 (gA G)) 81 [] [.int z0, .int z1, .int z2, .int z3, .ref (adr G 1 0)] M := by
  obtain ⟨q13, e13, h⟩ := bind_some h
  refine V_cVr hC [.int z3, .int z2, .int z1, .int z0] (c_X1_requestFault (l := l) hC.2.2.2.2.2.2.2 (by decide) e13) kd_X1_requestFault kv_X1_requestFault gw_336 (r_d0_0 (by decide)).o rfl ⟨Nat.le_of_ble_eq_true rfl, Nat.le_of_ble_eq_true rfl⟩ rfl (Nat.le_of_ble_eq_true rfl) dX8_orderFault_81 ⟨Nat.zero_le _, Nat.zero_le _⟩ rfl ?_
  refine V_goto hC 88 dX8_orderFault_84 (by decide) ?_
  obtain rfl := Option.some.inj h
  exact V_iret hC hr hlk dX8_orderFault_88
theorem c_X8_orderFault {l : Launch} {G : Geo} {x1 : Int32} {x2 : Int32} {x3 : Int32} {x4 : Int32} {x5 : Int32} {rv : Int32} {M : Mem} (hG : gD G) (h : f_X8_orderFault x1 x2 x3 x4 x5 M = some rv) : Met l yX8_orderFault (.code yX8_orderFault cX8_orderFault 6 (some .int) :: GL) (rmk 5) (gP G [.ref (adr G 6 0), .int x1, .int x2, .int x3, .int x4, .int x5] M) (gQ G (some (.int rv)) M) 0 0 (gA G) := by
  refine Met_of (own := RX8) (L := [(0, .ref (adr G 6 0)), (1, .int x1), (2, .int x2), (3, .int x3), (4, .int x4), (5, .int x5)]) hG (by decide +kernel) rfl (Nat.le_of_ble_eq_true rfl) rfl ?_
  intro p e s m args below meth c hC hr hlk
  refine V_iload_n hC dX8_orderFault_0 rfl 1 rfl ?_
  by_cases c1 : x1 = (98 : Int32)
  · have h := ite_t c1 h
    refine V_lookup hC 122 dX8_orderFault_1 (by decide) (by rw [c1]) (by decide) ?_
    refine V_aload_n hC dX8_orderFault_122 rfl 0 rfl ?_
    refine V_getR hC (r_s0_1) fw_X8_16 dX8_orderFault_123 ?_
    refine V_iload_n hC dX8_orderFault_126 rfl 2 rfl ?_
    obtain ⟨q2, e2, h⟩ := bind_some h
    refine V_cVr hC [.int x2] (c_X1_breakFault (l := l) hC.2.2.2.2.2.2.2 (by decide) e2) kd_X1_breakFault kv_X1_breakFault gw_458 (r_d0_0 (by decide)).o rfl ⟨Nat.le_of_ble_eq_true rfl, Nat.le_of_ble_eq_true rfl⟩ rfl (Nat.le_of_ble_eq_true rfl) dX8_orderFault_127 ⟨Nat.zero_le _, Nat.zero_le _⟩ rfl ?_
    obtain rfl := Option.some.inj h
    exact V_iret hC hr hlk dX8_orderFault_130
  have h := ite_f c1 h
  by_cases c3 : x1 = (100 : Int32)
  · have h := ite_t c3 h
    refine V_lookup hC 113 dX8_orderFault_1 (by decide) (by rw [c3]) (by decide) ?_
    refine V_aload_n hC dX8_orderFault_113 rfl 0 rfl ?_
    refine V_getR hC (r_s0_1) fw_X8_16 dX8_orderFault_114 ?_
    refine V_iload_n hC dX8_orderFault_117 rfl 2 rfl ?_
    refine V_cVr hC [.int x2] (c_X1_checkOutFault (l := l) hC.2.2.2.2.2.2.2 (by decide) rfl) kd_X1_checkOutFault kv_X1_checkOutFault gw_454 (r_d0_0 (by decide)).o rfl ⟨Nat.le_of_ble_eq_true rfl, Nat.le_of_ble_eq_true rfl⟩ rfl (Nat.le_of_ble_eq_true rfl) dX8_orderFault_118 ⟨Nat.zero_le _, Nat.zero_le _⟩ rfl ?_
    obtain rfl := Option.some.inj h
    exact V_iret hC hr hlk dX8_orderFault_121
  have h := ite_f c3 h
  by_cases c5 : x1 = (101 : Int32)
  · have h := ite_t c5 h
    refine V_lookup hC 89 dX8_orderFault_1 (by decide) (by rw [c5]) (by decide) ?_
    refine V_aload_n hC dX8_orderFault_89 rfl 0 rfl ?_
    refine V_getR hC (r_s0_1) fw_X8_16 dX8_orderFault_90 ?_
    refine V_iload_n hC dX8_orderFault_93 rfl 2 rfl ?_
    refine V_iload_n hC dX8_orderFault_94 rfl 3 rfl ?_
    refine V_iload hC dX8_orderFault_95 4 rfl ?_
    refine V_iload hC dX8_orderFault_97 5 rfl ?_
    obtain ⟨q6, e6, h⟩ := bind_some h
    refine V_cVr hC [.int x2, .int x3, .int x4, .int x5] (c_X1_editFault (l := l) hC.2.2.2.2.2.2.2 (by decide) e6) kd_X1_editFault kv_X1_editFault gw_392 (r_d0_0 (by decide)).o rfl ⟨Nat.le_of_ble_eq_true rfl, Nat.le_of_ble_eq_true rfl⟩ rfl (Nat.le_of_ble_eq_true rfl) dX8_orderFault_99 ⟨Nat.zero_le _, Nat.zero_le _⟩ rfl ?_
    obtain rfl := Option.some.inj h
    exact V_iret hC hr hlk dX8_orderFault_102
  have h := ite_f c5 h
  by_cases c7 : x1 = (103 : Int32)
  · have h := ite_t c7 h
    refine V_lookup hC 103 dX8_orderFault_1 (by decide) (by rw [c7]) (by decide) ?_
    refine V_aload_n hC dX8_orderFault_103 rfl 0 rfl ?_
    refine V_getR hC (r_s0_1) fw_X8_16 dX8_orderFault_104 ?_
    refine V_iload_n hC dX8_orderFault_107 rfl 2 rfl ?_
    refine V_iload_n hC dX8_orderFault_108 rfl 3 rfl ?_
    obtain ⟨q8, e8, h⟩ := bind_some h
    refine V_cVr hC [.int x2, .int x3] (c_X1_giveBackFault (l := l) hC.2.2.2.2.2.2.2 (by decide) e8) kd_X1_giveBackFault kv_X1_giveBackFault gw_420 (r_d0_0 (by decide)).o rfl ⟨Nat.le_of_ble_eq_true rfl, Nat.le_of_ble_eq_true rfl⟩ rfl (Nat.le_of_ble_eq_true rfl) dX8_orderFault_109 ⟨Nat.zero_le _, Nat.zero_le _⟩ rfl ?_
    obtain rfl := Option.some.inj h
    exact V_iret hC hr hlk dX8_orderFault_112
  have h := ite_f c7 h
  by_cases c9 : x1 = (113 : Int32)
  · have h := ite_t c9 h
    refine V_lookup hC 52 dX8_orderFault_1 (by decide) (by rw [c9]) (by decide) ?_
    refine V_iload hC dX8_orderFault_52 5 rfl ?_
    refine V_iconst hC (0 : Int32) dX8_orderFault_54 (by decide) ?_
    refine V_iconst hC (1 : Int32) dX8_orderFault_55 (by decide) ?_
    refine V_cSr hC [.int x5, .int (0 : Int32), .int (1 : Int32)] (c_X8_isWithin (l := l) hC.2.2.2.2.2.2.2 rfl) kd_X8_isWithin gw_266 gw_335 ⟨Nat.le_of_ble_eq_true rfl, Nat.le_of_ble_eq_true rfl⟩ rfl (Nat.le_of_ble_eq_true rfl) dX8_orderFault_56 ⟨Nat.zero_le _, Nat.zero_le _⟩ rfl ?_
    refine V_if_eq hC 87 dX8_orderFault_59 (by decide) (fun c11 => ?_) (fun c11 => ?_)
    · have h := ite_t c11 h
      refine V_iconst hC (2 : Int32) dX8_orderFault_87 (by decide) ?_
      obtain rfl := Option.some.inj h
      exact V_iret hC hr hlk dX8_orderFault_88
    · have h := ite_f c11 h
      refine V_aload_n hC dX8_orderFault_62 rfl 0 rfl ?_
      refine V_getR hC (r_s0_1) fw_X8_16 dX8_orderFault_63 ?_
      refine V_iload_n hC dX8_orderFault_66 rfl 2 rfl ?_
      refine V_iload_n hC dX8_orderFault_67 rfl 3 rfl ?_
      refine V_iload hC dX8_orderFault_68 4 rfl ?_
      refine V_iload hC dX8_orderFault_70 5 rfl ?_
      refine V_iconst hC (1 : Int32) dX8_orderFault_72 (by decide) ?_
      refine V_icmp_ne hC 80 dX8_orderFault_73 (by decide) (fun c12 => ?_) (fun c12 => ?_)
      · have h := ite_f c12 h
        refine V_iconst hC (0 : Int32) dX8_orderFault_80 (by decide) ?_
        refine V_sub [] rfl ?_
        exact b_X8_orderFault_81 hC hr hlk h
      · have h := ite_t c12 h
        refine V_iconst hC (1 : Int32) dX8_orderFault_76 (by decide) ?_
        refine V_goto hC 81 dX8_orderFault_77 (by decide) ?_
        refine V_sub [] rfl ?_
        exact b_X8_orderFault_81 hC hr hlk h
  have h := ite_f c9 h
  refine V_lookup hC (off := 130) 131 dX8_orderFault_1 (by decide) (by rw [lv_osw c1 (by decide), lv_osw c3 (by decide), lv_osw c5 (by decide), lv_osw c7 (by decide), lv_osw c9 (by decide)] <;> rfl) (by decide) ?_
  refine V_aload_n hC dX8_orderFault_131 rfl 0 rfl ?_
  refine V_getR hC (r_s0_1) fw_X8_16 dX8_orderFault_132 ?_
  refine V_iload_n hC dX8_orderFault_135 rfl 2 rfl ?_
  refine V_cVr hC [.int x2] (c_X1_passFault (l := l) hC.2.2.2.2.2.2.2 (by decide) rfl) kd_X1_passFault kv_X1_passFault gw_462 (r_d0_0 (by decide)).o rfl ⟨Nat.le_of_ble_eq_true rfl, Nat.le_of_ble_eq_true rfl⟩ rfl (Nat.le_of_ble_eq_true rfl) dX8_orderFault_136 ⟨Nat.zero_le _, Nat.zero_le _⟩ rfl ?_
  obtain rfl := Option.some.inj h
  exact V_iret hC hr hlk dX8_orderFault_139
theorem b_X8_runOrder_147 {rv : Int32} {Mf : Mem} {z0 : Int32} {z1 : Int32} {z2 : Int32} {z3 : Int32} {M : Mem} (hC : Cx p s m args c cX8_runOrder RX8 7 G) (hr : meth.sig.returnType = some .boolean) (hlk : meth.locks = false) (h : B_X8_runOrder_147 z0 z1 z2 z3 M = some (rv, Mf)) : V p l e (rmk 6) s m args below meth c 7 G 0 0 (MQ below (gQ G (some (.int rv)) Mf) args s 0 0 (gA G)) 147 [] [.int z0, .int z1, .int z2, .int z3, .ref (adr G 1 0)] M := by
  obtain ⟨q19, e19, h⟩ := bind_some h
  refine V_cVr hC [.int z3, .int z2, .int z1, .int z0] (c_X1_requestNow (l := l) (rv := q19.1) (Mf := q19.2) hC.2.2.2.2.2.2.2 (by decide) e19) kd_X1_requestNow kv_X1_requestNow gw_466 (r_d0_0 (by decide)).o rfl ⟨Nat.le_of_ble_eq_true rfl, Nat.le_of_ble_eq_true rfl⟩ rfl (Nat.le_of_ble_eq_true rfl) dX8_runOrder_147 ⟨Nat.zero_le _, Nat.zero_le _⟩ rfl ?_
  refine V_pop hC dX8_runOrder_150 rfl ?_
  refine V_goto hC 217 dX8_runOrder_151 (by decide) ?_
  refine V_iconst hC (1 : Int32) dX8_runOrder_217 (by decide) ?_
  obtain ⟨rfl, rfl⟩ := Prod.mk.inj (Option.some.inj h)
  exact V_zret hC hr hlk (Or.inr rfl) dX8_runOrder_218
theorem c_X8_runOrder {l : Launch} {G : Geo} {x1 : Int32} {rv : Int32} {Mf : Mem} {M : Mem} (hG : gD G) (h : f_X8_runOrder x1 M = some (rv, Mf)) : Met l yX8_runOrder (.code yX8_runOrder cX8_runOrder 7 (some .boolean) :: GL) (rmk 6) (gP G [.ref (adr G 6 0), .int x1] M) (gQ G (some (.int rv)) Mf) 0 0 (gA G) := by
  refine Met_of (own := RX8) (L := [(0, .ref (adr G 6 0)), (1, .int x1)]) hG (by decide +kernel) rfl (Nat.le_of_ble_eq_true rfl) rfl ?_
  intro p e s m args below meth c hC hr hlk
  refine V_aload_n hC dX8_runOrder_0 rfl 0 rfl ?_
  refine V_getR hC (r_s0_3) fw_X8_29 dX8_runOrder_1 ?_
  refine V_iload_n hC dX8_runOrder_4 rfl 1 rfl ?_
  refine V_iconst hC (0 : Int32) dX8_runOrder_5 (by decide) ?_
  obtain ⟨q1, e1, h⟩ := bind_some h
  refine V_cVr hC [.int x1, .int (0 : Int32)] (c_X3_numberOf (l := l) hC.2.2.2.2.2.2.2 e1) kd_X3_numberOf kv_X3_numberOf gw_329 (r_s3_0).o rfl ⟨Nat.le_of_ble_eq_true rfl, Nat.le_of_ble_eq_true rfl⟩ rfl (Nat.le_of_ble_eq_true rfl) dX8_runOrder_6 ⟨Nat.zero_le _, Nat.zero_le _⟩ rfl ?_
  refine V_istore_n hC ([(2, .int q1), (0, .ref (adr G 6 0)), (1, .int x1)]) dX8_runOrder_9 rfl (by decide) rfl ?_
  refine V_aload_n hC dX8_runOrder_10 rfl 1 rfl ?_
  refine V_getR hC (r_s0_3) fw_X8_29 dX8_runOrder_11 ?_
  refine V_iload_n hC dX8_runOrder_14 rfl 2 rfl ?_
  refine V_iconst hC (1 : Int32) dX8_runOrder_15 (by decide) ?_
  obtain ⟨q2, e2, h⟩ := bind_some h
  refine V_cVr hC [.int x1, .int (1 : Int32)] (c_X3_numberOf (l := l) hC.2.2.2.2.2.2.2 e2) kd_X3_numberOf kv_X3_numberOf gw_329 (r_s3_0).o rfl ⟨Nat.le_of_ble_eq_true rfl, Nat.le_of_ble_eq_true rfl⟩ rfl (Nat.le_of_ble_eq_true rfl) dX8_runOrder_16 ⟨Nat.zero_le _, Nat.zero_le _⟩ rfl ?_
  refine V_istore_n hC ([(3, .int q2), (2, .int q1), (0, .ref (adr G 6 0)), (1, .int x1)]) dX8_runOrder_19 rfl (by decide) rfl ?_
  refine V_aload_n hC dX8_runOrder_20 rfl 2 rfl ?_
  refine V_getR hC (r_s0_3) fw_X8_29 dX8_runOrder_21 ?_
  refine V_iload_n hC dX8_runOrder_24 rfl 3 rfl ?_
  refine V_iconst hC (2 : Int32) dX8_runOrder_25 (by decide) ?_
  obtain ⟨q3, e3, h⟩ := bind_some h
  refine V_cVr hC [.int x1, .int (2 : Int32)] (c_X3_numberOf (l := l) hC.2.2.2.2.2.2.2 e3) kd_X3_numberOf kv_X3_numberOf gw_329 (r_s3_0).o rfl ⟨Nat.le_of_ble_eq_true rfl, Nat.le_of_ble_eq_true rfl⟩ rfl (Nat.le_of_ble_eq_true rfl) dX8_runOrder_26 ⟨Nat.zero_le _, Nat.zero_le _⟩ rfl ?_
  refine V_istore hC ([(4, .int q3), (3, .int q2), (2, .int q1), (0, .ref (adr G 6 0)), (1, .int x1)]) dX8_runOrder_29 (by decide) rfl ?_
  refine V_aload_n hC dX8_runOrder_31 rfl 3 rfl ?_
  refine V_getR hC (r_s0_3) fw_X8_29 dX8_runOrder_32 ?_
  refine V_iload_n hC dX8_runOrder_35 rfl 4 rfl ?_
  refine V_iconst hC (3 : Int32) dX8_runOrder_36 (by decide) ?_
  obtain ⟨q4, e4, h⟩ := bind_some h
  refine V_cVr hC [.int x1, .int (3 : Int32)] (c_X3_numberOf (l := l) hC.2.2.2.2.2.2.2 e4) kd_X3_numberOf kv_X3_numberOf gw_329 (r_s3_0).o rfl ⟨Nat.le_of_ble_eq_true rfl, Nat.le_of_ble_eq_true rfl⟩ rfl (Nat.le_of_ble_eq_true rfl) dX8_runOrder_37 ⟨Nat.zero_le _, Nat.zero_le _⟩ rfl ?_
  refine V_istore hC ([(5, .int q4), (4, .int q3), (3, .int q2), (2, .int q1), (0, .ref (adr G 6 0)), (1, .int x1)]) dX8_runOrder_40 (by decide) rfl ?_
  refine V_aload_n hC dX8_runOrder_42 rfl 4 rfl ?_
  refine V_aload_n hC dX8_runOrder_43 rfl 4 rfl ?_
  refine V_getR hC (r_s0_3) fw_X8_29 dX8_runOrder_44 ?_
  refine V_iload_n hC dX8_runOrder_47 rfl 5 rfl ?_
  obtain ⟨q5, e5, h⟩ := bind_some h
  refine V_cVr hC [.int x1] (c_X3_letterOf (l := l) hC.2.2.2.2.2.2.2 e5) kd_X3_letterOf kv_X3_letterOf gw_330 (r_s3_0).o rfl ⟨Nat.le_of_ble_eq_true rfl, Nat.le_of_ble_eq_true rfl⟩ rfl (Nat.le_of_ble_eq_true rfl) dX8_runOrder_48 ⟨Nat.zero_le _, Nat.zero_le _⟩ rfl ?_
  refine V_iload_n hC dX8_runOrder_51 rfl 3 rfl ?_
  refine V_iload_n hC dX8_runOrder_52 rfl 2 rfl ?_
  refine V_iload hC dX8_runOrder_53 1 rfl ?_
  refine V_iload hC dX8_runOrder_55 0 rfl ?_
  obtain ⟨q6, e6, h⟩ := bind_some h
  refine V_cVr hC [.int q5, .int q1, .int q2, .int q3, .int q4] (c_X8_orderFault (l := l) hC.2.2.2.2.2.2.2 e6) kd_X8_orderFault kv_X8_orderFault gw_331 (r_s0_0).o rfl ⟨Nat.le_of_ble_eq_true rfl, Nat.le_of_ble_eq_true rfl⟩ rfl (Nat.le_of_ble_eq_true rfl) dX8_runOrder_57 ⟨Nat.zero_le _, Nat.zero_le _⟩ rfl ?_
  refine V_istore hC ([(6, .int q6), (5, .int q4), (4, .int q3), (3, .int q2), (2, .int q1), (0, .ref (adr G 6 0)), (1, .int x1)]) dX8_runOrder_60 (by decide) rfl ?_
  refine V_iload hC dX8_runOrder_62 0 rfl ?_
  refine V_if_eq hC 69 dX8_runOrder_64 (by decide) (fun c7 => ?_) (fun c7 => ?_)
  · have h := ite_t c7 h
    refine V_aload_n hC dX8_runOrder_69 rfl 5 rfl ?_
    refine V_getR hC (r_s0_3) fw_X8_29 dX8_runOrder_70 ?_
    refine V_iload_n hC dX8_runOrder_73 rfl 6 rfl ?_
    obtain ⟨q8, e8, h⟩ := bind_some h
    refine V_cVr hC [.int x1] (c_X3_letterOf (l := l) hC.2.2.2.2.2.2.2 e8) kd_X3_letterOf kv_X3_letterOf gw_330 (r_s3_0).o rfl ⟨Nat.le_of_ble_eq_true rfl, Nat.le_of_ble_eq_true rfl⟩ rfl (Nat.le_of_ble_eq_true rfl) dX8_runOrder_74 ⟨Nat.zero_le _, Nat.zero_le _⟩ rfl ?_
    by_cases c9 : q8 = (98 : Int32)
    · have h := ite_t c9 h
      refine V_lookup hC 196 dX8_runOrder_77 (by decide) (by rw [c9]) (by decide) ?_
      refine V_aload_n hC dX8_runOrder_196 rfl 5 rfl ?_
      refine V_getR hC (r_s0_1) fw_X8_16 dX8_runOrder_197 ?_
      refine V_iload_n hC dX8_runOrder_200 rfl 4 rfl ?_
      obtain ⟨q10, e10, h⟩ := bind_some h
      refine V_cVr hC [.int q1] (c_X1_breakNow (l := l) (rv := q10.1) (Mf := q10.2) hC.2.2.2.2.2.2.2 (by decide) e10) kd_X1_breakNow kv_X1_breakNow gw_629 (r_d0_0 (by decide)).o rfl ⟨Nat.le_of_ble_eq_true rfl, Nat.le_of_ble_eq_true rfl⟩ rfl (Nat.le_of_ble_eq_true rfl) dX8_runOrder_201 ⟨Nat.zero_le _, Nat.zero_le _⟩ rfl ?_
      refine V_pop hC dX8_runOrder_204 rfl ?_
      refine V_goto hC 217 dX8_runOrder_205 (by decide) ?_
      refine V_iconst hC (1 : Int32) dX8_runOrder_217 (by decide) ?_
      obtain ⟨rfl, rfl⟩ := Prod.mk.inj (Option.some.inj h)
      exact V_zret hC hr hlk (Or.inr rfl) dX8_runOrder_218
    have h := ite_f c9 h
    by_cases c11 : q8 = (100 : Int32)
    · have h := ite_t c11 h
      refine V_lookup hC 184 dX8_runOrder_77 (by decide) (by rw [c11]) (by decide) ?_
      refine V_aload_n hC dX8_runOrder_184 rfl 5 rfl ?_
      refine V_getR hC (r_s0_1) fw_X8_16 dX8_runOrder_185 ?_
      refine V_iload_n hC dX8_runOrder_188 rfl 4 rfl ?_
      obtain ⟨q12, e12, h⟩ := bind_some h
      refine V_cVr hC [.int q1] (c_X1_discardNow (l := l) (rv := q12.1) (Mf := q12.2) hC.2.2.2.2.2.2.2 (by decide) e12) kd_X1_discardNow kv_X1_discardNow gw_621 (r_d0_0 (by decide)).o rfl ⟨Nat.le_of_ble_eq_true rfl, Nat.le_of_ble_eq_true rfl⟩ rfl (Nat.le_of_ble_eq_true rfl) dX8_runOrder_189 ⟨Nat.zero_le _, Nat.zero_le _⟩ rfl ?_
      refine V_pop hC dX8_runOrder_192 rfl ?_
      refine V_goto hC 217 dX8_runOrder_193 (by decide) ?_
      refine V_iconst hC (1 : Int32) dX8_runOrder_217 (by decide) ?_
      obtain ⟨rfl, rfl⟩ := Prod.mk.inj (Option.some.inj h)
      exact V_zret hC hr hlk (Or.inr rfl) dX8_runOrder_218
    have h := ite_f c11 h
    by_cases c13 : q8 = (101 : Int32)
    · have h := ite_t c13 h
      refine V_lookup hC 154 dX8_runOrder_77 (by decide) (by rw [c13]) (by decide) ?_
      refine V_aload_n hC dX8_runOrder_154 rfl 5 rfl ?_
      refine V_getR hC (r_s0_1) fw_X8_16 dX8_runOrder_155 ?_
      refine V_iload_n hC dX8_runOrder_158 rfl 4 rfl ?_
      refine V_iload_n hC dX8_runOrder_159 rfl 3 rfl ?_
      refine V_iload hC dX8_runOrder_160 2 rfl ?_
      refine V_iload hC dX8_runOrder_162 1 rfl ?_
      obtain ⟨q14, e14, h⟩ := bind_some h
      refine V_cVr hC [.int q1, .int q2, .int q3, .int q4] (c_X1_editNow (l := l) (rv := q14.1) (Mf := q14.2) hC.2.2.2.2.2.2.2 (by decide) e14) kd_X1_editNow kv_X1_editNow gw_552 (r_d0_0 (by decide)).o rfl ⟨Nat.le_of_ble_eq_true rfl, Nat.le_of_ble_eq_true rfl⟩ rfl (Nat.le_of_ble_eq_true rfl) dX8_runOrder_164 ⟨Nat.zero_le _, Nat.zero_le _⟩ rfl ?_
      refine V_pop hC dX8_runOrder_167 rfl ?_
      refine V_goto hC 217 dX8_runOrder_168 (by decide) ?_
      refine V_iconst hC (1 : Int32) dX8_runOrder_217 (by decide) ?_
      obtain ⟨rfl, rfl⟩ := Prod.mk.inj (Option.some.inj h)
      exact V_zret hC hr hlk (Or.inr rfl) dX8_runOrder_218
    have h := ite_f c13 h
    by_cases c15 : q8 = (103 : Int32)
    · have h := ite_t c15 h
      refine V_lookup hC 171 dX8_runOrder_77 (by decide) (by rw [c15]) (by decide) ?_
      refine V_aload_n hC dX8_runOrder_171 rfl 5 rfl ?_
      refine V_getR hC (r_s0_1) fw_X8_16 dX8_runOrder_172 ?_
      refine V_iload_n hC dX8_runOrder_175 rfl 4 rfl ?_
      refine V_iload_n hC dX8_runOrder_176 rfl 3 rfl ?_
      obtain ⟨q16, e16, h⟩ := bind_some h
      refine V_cVr hC [.int q1, .int q2] (c_X1_giveBackNow (l := l) (rv := q16.1) (Mf := q16.2) hC.2.2.2.2.2.2.2 (by decide) e16) kd_X1_giveBackNow kv_X1_giveBackNow gw_560 (r_d0_0 (by decide)).o rfl ⟨Nat.le_of_ble_eq_true rfl, Nat.le_of_ble_eq_true rfl⟩ rfl (Nat.le_of_ble_eq_true rfl) dX8_runOrder_177 ⟨Nat.zero_le _, Nat.zero_le _⟩ rfl ?_
      refine V_pop hC dX8_runOrder_180 rfl ?_
      refine V_goto hC 217 dX8_runOrder_181 (by decide) ?_
      refine V_iconst hC (1 : Int32) dX8_runOrder_217 (by decide) ?_
      obtain ⟨rfl, rfl⟩ := Prod.mk.inj (Option.some.inj h)
      exact V_zret hC hr hlk (Or.inr rfl) dX8_runOrder_218
    have h := ite_f c15 h
    by_cases c17 : q8 = (113 : Int32)
    · have h := ite_t c17 h
      refine V_lookup hC 128 dX8_runOrder_77 (by decide) (by rw [c17]) (by decide) ?_
      refine V_aload_n hC dX8_runOrder_128 rfl 5 rfl ?_
      refine V_getR hC (r_s0_1) fw_X8_16 dX8_runOrder_129 ?_
      refine V_iload_n hC dX8_runOrder_132 rfl 4 rfl ?_
      refine V_iload_n hC dX8_runOrder_133 rfl 3 rfl ?_
      refine V_iload hC dX8_runOrder_134 2 rfl ?_
      refine V_iload hC dX8_runOrder_136 1 rfl ?_
      refine V_iconst hC (1 : Int32) dX8_runOrder_138 (by decide) ?_
      refine V_icmp_ne hC 146 dX8_runOrder_139 (by decide) (fun c18 => ?_) (fun c18 => ?_)
      · have h := ite_f c18 h
        refine V_iconst hC (0 : Int32) dX8_runOrder_146 (by decide) ?_
        refine V_sub [] rfl ?_
        exact b_X8_runOrder_147 hC hr hlk h
      · have h := ite_t c18 h
        refine V_iconst hC (1 : Int32) dX8_runOrder_142 (by decide) ?_
        refine V_goto hC 147 dX8_runOrder_143 (by decide) ?_
        refine V_sub [] rfl ?_
        exact b_X8_runOrder_147 hC hr hlk h
    have h := ite_f c17 h
    refine V_lookup hC (off := 131) 208 dX8_runOrder_77 (by decide) (by rw [lv_osw c9 (by decide), lv_osw c11 (by decide), lv_osw c13 (by decide), lv_osw c15 (by decide), lv_osw c17 (by decide)] <;> rfl) (by decide) ?_
    refine V_aload_n hC dX8_runOrder_208 rfl 5 rfl ?_
    refine V_getR hC (r_s0_1) fw_X8_16 dX8_runOrder_209 ?_
    refine V_iload_n hC dX8_runOrder_212 rfl 4 rfl ?_
    refine V_iconst hC ((-1) : Int32) dX8_runOrder_213 (by decide) ?_
    obtain ⟨q20, e20, h⟩ := bind_some h
    refine V_cVv hC [.int q1, .int ((-1) : Int32)] (c_X1_passTicks (l := l) hC.2.2.2.2.2.2.2 (by decide) e20) kd_X1_passTicks kv_X1_passTicks gw_639 (r_d0_0 (by decide)).o rfl ⟨Nat.le_of_ble_eq_true rfl, Nat.le_of_ble_eq_true rfl⟩ rfl (Nat.le_of_ble_eq_true rfl) dX8_runOrder_214 ⟨Nat.zero_le _, Nat.zero_le _⟩ rfl ?_
    refine V_iconst hC (1 : Int32) dX8_runOrder_217 (by decide) ?_
    obtain ⟨rfl, rfl⟩ := Prod.mk.inj (Option.some.inj h)
    exact V_zret hC hr hlk (Or.inr rfl) dX8_runOrder_218
  · have h := ite_f c7 h
    refine V_iconst hC (0 : Int32) dX8_runOrder_67 (by decide) ?_
    obtain ⟨rfl, rfl⟩ := Prod.mk.inj (Option.some.inj h)
    exact V_zret hC hr hlk (Or.inl rfl) dX8_runOrder_68
theorem l_X8_carryOut_31 {rv : Int32} {Mf : Mem} (hC : Cx p s m args c cX8_carryOut RX8 3 G) (hr : meth.sig.returnType = some .int) (hlk : meth.locks = false) : ∀ (n : Nat) {x2 : Int32} {M : Mem} (h : L_X8_carryOut_31 n x2 M = some (rv, Mf)), V p l e (rmk 7) s m args below meth c 3 G 0 0 (MQ below (gQ G (some (.int rv)) Mf) args s 0 0 (gA G)) 31 [(0, .ref (adr G 6 0)), (2, .int x2)] [] M := by
  intro n
  induction n with
  | zero => intro x2 M h; cases h
  | succ n ih =>
    intro x2 M h
    have hk31 : ∀ (x2 : Int32) (M : Mem), L_X8_carryOut_31 n x2 M = some (rv, Mf) → V p l e (rmk 7) s m args below meth c 3 G 0 0 (MQ below (gQ G (some (.int rv)) Mf) args s 0 0 (gA G)) 31 [(0, .ref (adr G 6 0)), (2, .int x2)] [] M := fun _ _ z => ih z
    refine V_iload_n hC dX8_carryOut_31 rfl 1 rfl ?_
    refine V_aload_n hC dX8_carryOut_32 rfl 0 rfl ?_
    refine V_getR hC (r_s0_3) fw_X8_29 dX8_carryOut_33 ?_
    refine V_getI hC (f_s3_4) fw_X8_280 dX8_carryOut_36 ?_
    refine V_icmp_ge hC 62 dX8_carryOut_39 (by decide) (fun c4 => ?_) (fun c4 => ?_)
    · have h := ite_t c4 h
      refine V_aload_n hC dX8_carryOut_62 rfl 0 rfl ?_
      refine V_getR hC (r_s0_2) fw_X8_22 dX8_carryOut_63 ?_
      refine V_aload_n hC dX8_carryOut_66 rfl 0 rfl ?_
      refine V_getR hC (r_s0_0) fw_X8_12 dX8_carryOut_67 ?_
      obtain ⟨q5, e5, h⟩ := bind_some h
      refine V_cVv hC [.ref (adr G 0 0)] (c_X6_push (l := l) hC.2.2.2.2.2.2.2 (by decide) e5) kd_X6_push kv_X6_push gw_659 (r_s1_0).o rfl ⟨Nat.le_of_ble_eq_true rfl, Nat.le_of_ble_eq_true rfl⟩ rfl (Nat.le_of_ble_eq_true rfl) dX8_carryOut_70 ⟨Nat.zero_le _, Nat.zero_le _⟩ rfl ?_
      refine V_aload_n hC dX8_carryOut_73 rfl 0 rfl ?_
      refine V_getR hC (r_s0_0) fw_X8_12 dX8_carryOut_74 ?_
      refine V_aload_n hC dX8_carryOut_77 rfl 0 rfl ?_
      refine V_getR hC (r_s0_1) fw_X8_16 dX8_carryOut_78 ?_
      obtain ⟨q6, e6, h⟩ := bind_some h
      refine V_cVv hC [.ref (adr G 1 0)] (c_X1_copyFrom (l := l) hC.2.2.2.2.2.2.2 (by decide) (by decide) e6) kd_X1_copyFrom kv_X1_copyFrom gw_292 (r_d0_0 (by decide)).o rfl ⟨Nat.le_of_ble_eq_true rfl, Nat.le_of_ble_eq_true rfl⟩ rfl (Nat.le_of_ble_eq_true rfl) dX8_carryOut_81 ⟨Nat.zero_le _, Nat.zero_le _⟩ rfl ?_
      refine V_aload_n hC dX8_carryOut_84 rfl 0 rfl ?_
      refine V_getR hC (r_s0_3) fw_X8_29 dX8_carryOut_85 ?_
      refine V_getI hC (f_s3_4) fw_X8_280 dX8_carryOut_88 ?_
      obtain ⟨rfl, rfl⟩ := Prod.mk.inj (Option.some.inj h)
      exact V_iret hC hr hlk dX8_carryOut_91
    · have h := ite_f c4 h
      refine V_aload_n hC dX8_carryOut_42 rfl 0 rfl ?_
      refine V_iload_n hC dX8_carryOut_43 rfl 1 rfl ?_
      obtain ⟨q7, e7, h⟩ := bind_some h
      refine V_cVr hC [.int x2] (c_X8_runOrder (l := l) (rv := q7.1) (Mf := q7.2) hC.2.2.2.2.2.2.2 e7) kd_X8_runOrder kv_X8_runOrder gw_325 (r_s0_0).o rfl ⟨Nat.le_of_ble_eq_true rfl, Nat.le_of_ble_eq_true rfl⟩ rfl (Nat.le_of_ble_eq_true rfl) dX8_carryOut_44 ⟨Nat.zero_le _, Nat.zero_le _⟩ rfl ?_
      refine V_if_ne hC 56 dX8_carryOut_47 (by decide) (fun c8 => ?_) (fun c8 => ?_)
      · have h := ite_f c8 h
        refine V_iinc hC (x2 + 1) ([(2, .int (x2 + 1)), (0, .ref (adr G 6 0))]) dX8_carryOut_56 1 rfl rfl (by decide) rfl ?_
        refine V_goto hC 31 dX8_carryOut_59 (by decide) ?_
        refine V_sub [1, 0] rfl ?_
        exact hk31 _ _ h
      · have h := ite_t c8 h
        refine V_sipush hC ((-1000) : Int32) dX8_carryOut_50 (by decide) ?_
        refine V_iload_n hC dX8_carryOut_53 rfl 1 rfl ?_
        refine V_isub hC dX8_carryOut_54 ?_
        obtain ⟨rfl, rfl⟩ := Prod.mk.inj (Option.some.inj h)
        exact V_iret hC hr hlk dX8_carryOut_55
theorem c_X8_carryOut {l : Launch} {G : Geo} {rv : Int32} {Mf : Mem} {M : Mem} (hG : gD G) (h : f_X8_carryOut M = some (rv, Mf)) : Met l yX8_carryOut (.code yX8_carryOut cX8_carryOut 3 (some .int) :: GL) (rmk 7) (gP G [.ref (adr G 6 0)] M) (gQ G (some (.int rv)) Mf) 0 0 (gA G) := by
  refine Met_of (own := RX8) (L := [(0, .ref (adr G 6 0))]) hG (by decide +kernel) rfl (Nat.le_of_ble_eq_true rfl) rfl ?_
  intro p e s m args below meth c hC hr hlk
  refine V_aload_n hC dX8_carryOut_0 rfl 0 rfl ?_
  refine V_getR hC (r_s0_3) fw_X8_29 dX8_carryOut_1 ?_
  obtain ⟨q1, e1, h⟩ := bind_some h
  refine V_cVr hC [] (c_X3_parse (l := l) (rv := q1.1) (Mf := q1.2) hC.2.2.2.2.2.2.2 e1) kd_X3_parse kv_X3_parse gw_250 (r_s3_0).o rfl ⟨Nat.le_of_ble_eq_true rfl, Nat.le_of_ble_eq_true rfl⟩ rfl (Nat.le_of_ble_eq_true rfl) dX8_carryOut_4 ⟨Nat.zero_le _, Nat.zero_le _⟩ rfl ?_
  refine V_istore_n hC ([(1, .int q1.1), (0, .ref (adr G 6 0))]) dX8_carryOut_7 rfl (by decide) rfl ?_
  refine V_iload_n hC dX8_carryOut_8 rfl 0 rfl ?_
  refine V_iconst hC ((-1) : Int32) dX8_carryOut_9 (by decide) ?_
  refine V_icmp_eq hC 18 dX8_carryOut_10 (by decide) (fun c2 => ?_) (fun c2 => ?_)
  · have h := ite_t c2 h
    refine V_aload_n hC dX8_carryOut_18 rfl 1 rfl ?_
    refine V_getR hC (r_s0_1) fw_X8_16 dX8_carryOut_19 ?_
    refine V_aload_n hC dX8_carryOut_22 rfl 1 rfl ?_
    refine V_getR hC (r_s0_0) fw_X8_12 dX8_carryOut_23 ?_
    obtain ⟨q3, e3, h⟩ := bind_some h
    refine V_cVv hC [.ref (adr G 0 0)] (c_X1_copyFrom (l := l) hC.2.2.2.2.2.2.2 (by decide) (by decide) e3) kd_X1_copyFrom kv_X1_copyFrom gw_292 (r_d0_0 (by decide)).o rfl ⟨Nat.le_of_ble_eq_true rfl, Nat.le_of_ble_eq_true rfl⟩ rfl (Nat.le_of_ble_eq_true rfl) dX8_carryOut_26 ⟨Nat.zero_le _, Nat.zero_le _⟩ rfl ?_
    refine V_iconst hC (0 : Int32) dX8_carryOut_29 (by decide) ?_
    refine V_istore_n hC ([(2, .int (0 : Int32)), (1, .int q1.1), (0, .ref (adr G 6 0))]) dX8_carryOut_30 rfl (by decide) rfl ?_
    refine V_sub [2, 0] rfl ?_
    exact l_X8_carryOut_31 hC hr hlk FU h
  · have h := ite_f c2 h
    refine V_bipush hC ((-10) : Int32) dX8_carryOut_13 (by decide) ?_
    refine V_iload_n hC dX8_carryOut_15 rfl 0 rfl ?_
    refine V_isub hC dX8_carryOut_16 ?_
    obtain ⟨rfl, rfl⟩ := Prod.mk.inj (Option.some.inj h)
    exact V_iret hC hr hlk dX8_carryOut_17
theorem c_X8_digest {l : Launch} {G : Geo} {rv : Int64} {M : Mem} (hG : gD G) (h : f_X8_digest M = some rv) : Met l yX8_digest (.code yX8_digest cX8_digest 3 (some .long) :: GL) (rmk 6) (gP G [.ref (adr G 6 0)] M) (gQ G (some (.long rv)) M) 0 0 (gA G) := by
  refine Met_of (own := RX8) (L := [(0, .ref (adr G 6 0))]) hG (by decide +kernel) rfl (Nat.le_of_ble_eq_true rfl) rfl ?_
  intro p e s m args below meth c hC hr hlk
  refine V_aload_n hC dX8_digest_0 rfl 0 rfl ?_
  refine V_getR hC (r_s0_0) fw_X8_12 dX8_digest_1 ?_
  refine V_ldc2 hC (2857 : Int64) dX8_digest_4 gw_672 ?_
  obtain ⟨q1, e1, h⟩ := bind_some h
  refine V_cVr hC [.long (2857 : Int64)] (c_X1_hashOnto (l := l) hC.2.2.2.2.2.2.2 (by decide) e1) kd_X1_hashOnto kv_X1_hashOnto gw_673 (r_d0_0 (by decide)).o rfl ⟨Nat.le_of_ble_eq_true rfl, Nat.le_of_ble_eq_true rfl⟩ rfl (Nat.le_of_ble_eq_true rfl) dX8_digest_7 ⟨Nat.zero_le _, Nat.zero_le _⟩ rfl ?_
  refine V_lstore_n hC ([(1, .long q1), (0, .ref (adr G 6 0))]) dX8_digest_10 rfl (by decide) rfl ?_
  refine V_lload_n hC dX8_digest_11 rfl 0 rfl ?_
  refine V_aload_n hC dX8_digest_12 rfl 1 rfl ?_
  refine V_getR hC (r_s0_3) fw_X8_29 dX8_digest_13 ?_
  refine V_getI hC (f_s3_1) fw_X8_271 dX8_digest_16 ?_
  refine V_cSr hC [.long q1, .int (M.1 6 3 1)] (c_X8_hashed (l := l) hC.2.2.2.2.2.2.2 rfl) kd_X8_hashed gw_678 gw_732 ⟨Nat.le_of_ble_eq_true rfl, Nat.le_of_ble_eq_true rfl⟩ rfl (Nat.le_of_ble_eq_true rfl) dX8_digest_19 ⟨Nat.zero_le _, Nat.zero_le _⟩ rfl ?_
  refine V_lstore_n hC ([(1, .long (f_X8_hashed q1 (M.1 6 3 1))), (0, .ref (adr G 6 0))]) dX8_digest_22 rfl (by decide) rfl ?_
  refine V_lload_n hC dX8_digest_23 rfl 0 rfl ?_
  refine V_aload_n hC dX8_digest_24 rfl 1 rfl ?_
  refine V_getR hC (r_s0_2) fw_X8_22 dX8_digest_25 ?_
  refine V_getI hC (f_s1_1) fw_X8_294 dX8_digest_28 ?_
  refine V_cSr hC [.long (f_X8_hashed q1 (M.1 6 3 1)), .int (M.1 6 1 1)] (c_X8_hashed (l := l) hC.2.2.2.2.2.2.2 rfl) kd_X8_hashed gw_678 gw_732 ⟨Nat.le_of_ble_eq_true rfl, Nat.le_of_ble_eq_true rfl⟩ rfl (Nat.le_of_ble_eq_true rfl) dX8_digest_31 ⟨Nat.zero_le _, Nat.zero_le _⟩ rfl ?_
  obtain rfl := Option.some.inj h
  exact V_lret hC hr hlk dX8_digest_34
theorem b_X8_floatBits_69 {rv : Int32} {x1 : UInt32} {x2 : Int32} {M : Mem} (hC : Cx p s m args c cX8_floatBits RX8 4 G) (hr : meth.sig.returnType = some .int) (hlk : meth.locks = false) (h : B_X8_floatBits_69 x1 x2 = some rv) : V p l e (rmk 0) s m args below meth c 4 G 0 0 (MQ below (gQ G (some (.int rv)) M) args s 0 0 (gA G)) 69 [(1, .float x1), (2, .int x2)] [] M := by
  refine V_fload_n hC dX8_floatBits_69 rfl 0 rfl ?_
  refine V_fconst1 hC dX8_floatBits_70 ?_
  obtain ⟨c4, h⟩ := ite_some h
  refine V_fsub hC dX8_floatBits_71 (of_nn c4) ?_
  refine V_ldcwf hC (1258291200 : UInt32) dX8_floatBits_72 gw_1196 ?_
  obtain ⟨c5, h⟩ := ite_some h
  refine V_fmul hC dX8_floatBits_75 (of_nn c5) ?_
  refine V_f2i hC dX8_floatBits_76 ?_
  refine V_istore_n hC ([(3, .int (FP.f2i (FP.fmul (FP.fsub x1 FP.fconst1) (1258291200 : UInt32)))), (1, .float x1), (2, .int x2)]) dX8_floatBits_77 rfl (by decide) rfl ?_
  refine V_iload_n hC dX8_floatBits_78 rfl 2 rfl ?_
  refine V_bipush hC (23 : Int32) dX8_floatBits_79 (by decide) ?_
  refine V_ishl hC dX8_floatBits_81 ?_
  refine V_iload_n hC dX8_floatBits_82 rfl 0 rfl ?_
  refine V_ior hC dX8_floatBits_83 ?_
  obtain rfl := Option.some.inj h
  exact V_iret hC hr hlk dX8_floatBits_84
theorem l_X8_floatBits_44 {rv : Int32} {M : Mem} (hC : Cx p s m args c cX8_floatBits RX8 4 G) (hr : meth.sig.returnType = some .int) (hlk : meth.locks = false) : ∀ (n : Nat) {x1 : UInt32} {x2 : Int32} {x3 : Int32} (h : L_X8_floatBits_44 n x1 x2 x3 = some rv), V p l e (rmk 0) s m args below meth c 4 G 0 0 (MQ below (gQ G (some (.int rv)) M) args s 0 0 (gA G)) 44 [(1, .float x1), (2, .int x2), (3, .int x3)] [] M := by
  intro n
  induction n with
  | zero => intro x1 x2 x3 h; cases h
  | succ n ih =>
    intro x1 x2 x3 h
    have hk44 : ∀ (x1 : UInt32) (x2 : Int32) (x3 : Int32), L_X8_floatBits_44 n x1 x2 x3 = some rv → V p l e (rmk 0) s m args below meth c 4 G 0 0 (MQ below (gQ G (some (.int rv)) M) args s 0 0 (gA G)) 44 [(1, .float x1), (2, .int x2), (3, .int x3)] [] M := fun _ _ _ z => ih z
    refine V_iload_n hC dX8_floatBits_44 rfl 2 rfl ?_
    refine V_bipush hC (64 : Int32) dX8_floatBits_45 (by decide) ?_
    refine V_icmp_ge hC 69 dX8_floatBits_47 (by decide) (fun c3 => ?_) (fun c3 => ?_)
    · have h := ite_t c3 h
      refine V_sub [0, 1] rfl ?_
      exact b_X8_floatBits_69 hC hr hlk h
    · have h := ite_f c3 h
      refine V_fload_n hC dX8_floatBits_50 rfl 0 rfl ?_
      refine V_fconst1 hC dX8_floatBits_51 ?_
      refine V_fcmp hC dX8_floatBits_52 ?_
      refine V_if_ge hC 69 dX8_floatBits_53 (by decide) (fun c6 => ?_) (fun c6 => ?_)
      · have h := ite_t c6 h
        refine V_sub [0, 1] rfl ?_
        exact b_X8_floatBits_69 hC hr hlk h
      · have h := ite_f c6 h
        refine V_fload_n hC dX8_floatBits_56 rfl 0 rfl ?_
        refine V_fconst2 hC dX8_floatBits_57 ?_
        obtain ⟨c7, h⟩ := ite_some h
        refine V_fmul hC dX8_floatBits_58 (of_nn c7) ?_
        refine V_fstore_n hC ([(1, .float (FP.fmul x1 FP.fconst2)), (2, .int x2), (3, .int x3)]) dX8_floatBits_59 rfl (by decide) rfl ?_
        refine V_iinc hC (x2 + ((-1) : Int32)) ([(2, .int (x2 + ((-1) : Int32))), (1, .float (FP.fmul x1 FP.fconst2)), (3, .int x3)]) dX8_floatBits_60 1 rfl rfl (by decide) rfl ?_
        refine V_iinc hC (x3 + 1) ([(3, .int (x3 + 1)), (2, .int (x2 + ((-1) : Int32))), (1, .float (FP.fmul x1 FP.fconst2))]) dX8_floatBits_63 2 rfl rfl (by decide) rfl ?_
        refine V_goto hC 44 dX8_floatBits_66 (by decide) ?_
        refine V_sub [2, 1, 0] rfl ?_
        exact hk44 _ _ _ h
theorem b_X8_floatBits_42 {rv : Int32} {x1 : UInt32} {x2 : Int32} {M : Mem} (hC : Cx p s m args c cX8_floatBits RX8 4 G) (hr : meth.sig.returnType = some .int) (hlk : meth.locks = false) (h : B_X8_floatBits_42 x1 x2 = some rv) : V p l e (rmk 0) s m args below meth c 4 G 0 0 (MQ below (gQ G (some (.int rv)) M) args s 0 0 (gA G)) 42 [(1, .float x1), (2, .int x2)] [] M := by
  refine V_iconst hC (0 : Int32) dX8_floatBits_42 (by decide) ?_
  refine V_istore_n hC ([(3, .int (0 : Int32)), (1, .float x1), (2, .int x2)]) dX8_floatBits_43 rfl (by decide) rfl ?_
  refine V_sub [1, 2, 0] rfl ?_
  exact l_X8_floatBits_44 hC hr hlk FU h
theorem l_X8_floatBits_15 {rv : Int32} {M : Mem} (hC : Cx p s m args c cX8_floatBits RX8 4 G) (hr : meth.sig.returnType = some .int) (hlk : meth.locks = false) : ∀ (n : Nat) {x1 : UInt32} {x2 : Int32} {x3 : Int32} (h : L_X8_floatBits_15 n x1 x2 x3 = some rv), V p l e (rmk 0) s m args below meth c 4 G 0 0 (MQ below (gQ G (some (.int rv)) M) args s 0 0 (gA G)) 15 [(1, .float x1), (2, .int x2), (3, .int x3)] [] M := by
  intro n
  induction n with
  | zero => intro x1 x2 x3 h; cases h
  | succ n ih =>
    intro x1 x2 x3 h
    have hk15 : ∀ (x1 : UInt32) (x2 : Int32) (x3 : Int32), L_X8_floatBits_15 n x1 x2 x3 = some rv → V p l e (rmk 0) s m args below meth c 4 G 0 0 (MQ below (gQ G (some (.int rv)) M) args s 0 0 (gA G)) 15 [(1, .float x1), (2, .int x2), (3, .int x3)] [] M := fun _ _ _ z => ih z
    refine V_iload_n hC dX8_floatBits_15 rfl 2 rfl ?_
    refine V_bipush hC (64 : Int32) dX8_floatBits_16 (by decide) ?_
    refine V_icmp_ge hC 42 dX8_floatBits_18 (by decide) (fun c2 => ?_) (fun c2 => ?_)
    · have h := ite_t c2 h
      refine V_sub [0, 1] rfl ?_
      exact b_X8_floatBits_42 hC hr hlk h
    · have h := ite_f c2 h
      refine V_fload_n hC dX8_floatBits_21 rfl 0 rfl ?_
      refine V_fconst2 hC dX8_floatBits_22 ?_
      refine V_fcmp hC dX8_floatBits_23 ?_
      refine V_if_lt hC 42 dX8_floatBits_24 (by decide) (fun c8 => ?_) (fun c8 => ?_)
      · have h := ite_t c8 h
        refine V_sub [0, 1] rfl ?_
        exact b_X8_floatBits_42 hC hr hlk h
      · have h := ite_f c8 h
        refine V_fload_n hC dX8_floatBits_27 rfl 0 rfl ?_
        refine V_ldcwf hC (1056964608 : UInt32) dX8_floatBits_28 gw_1195 ?_
        obtain ⟨c9, h⟩ := ite_some h
        refine V_fmul hC dX8_floatBits_31 (of_nn c9) ?_
        refine V_fstore_n hC ([(1, .float (FP.fmul x1 (1056964608 : UInt32))), (2, .int x2), (3, .int x3)]) dX8_floatBits_32 rfl (by decide) rfl ?_
        refine V_iinc hC (x2 + 1) ([(2, .int (x2 + 1)), (1, .float (FP.fmul x1 (1056964608 : UInt32))), (3, .int x3)]) dX8_floatBits_33 1 rfl rfl (by decide) rfl ?_
        refine V_iinc hC (x3 + 1) ([(3, .int (x3 + 1)), (2, .int (x2 + 1)), (1, .float (FP.fmul x1 (1056964608 : UInt32)))]) dX8_floatBits_36 2 rfl rfl (by decide) rfl ?_
        refine V_goto hC 15 dX8_floatBits_39 (by decide) ?_
        refine V_sub [2, 1, 0] rfl ?_
        exact hk15 _ _ _ h
theorem c_X8_floatBits {l : Launch} {G : Geo} {x0 : UInt32} {rv : Int32} {M : Mem} (hG : gD G) (h : f_X8_floatBits x0 = some rv) : Met l yX8_floatBits (.code yX8_floatBits cX8_floatBits 4 (some .int) :: GL) (rmk 0) (gP G [.float x0] M) (gQ G (some (.int rv)) M) 0 0 (gA G) := by
  refine Met_of (own := RX8) (L := [(0, .float x0)]) hG (by decide +kernel) rfl (Nat.le_of_ble_eq_true rfl) rfl ?_
  intro p e s m args below meth c hC hr hlk
  refine V_fload_n hC dX8_floatBits_0 rfl 0 rfl ?_
  refine V_fconst0 hC dX8_floatBits_1 ?_
  refine V_fcmp hC dX8_floatBits_2 ?_
  refine V_if_gt hC 8 dX8_floatBits_3 (by decide) (fun c1 => ?_) (fun c1 => ?_)
  · have h := ite_t c1 h
    refine V_fload_n hC dX8_floatBits_8 rfl 0 rfl ?_
    refine V_fstore_n hC ([(1, .float x0), (0, .float x0)]) dX8_floatBits_9 rfl (by decide) rfl ?_
    refine V_bipush hC (127 : Int32) dX8_floatBits_10 (by decide) ?_
    refine V_istore_n hC ([(2, .int (127 : Int32)), (1, .float x0), (0, .float x0)]) dX8_floatBits_12 rfl (by decide) rfl ?_
    refine V_iconst hC (0 : Int32) dX8_floatBits_13 (by decide) ?_
    refine V_istore_n hC ([(3, .int (0 : Int32)), (2, .int (127 : Int32)), (1, .float x0), (0, .float x0)]) dX8_floatBits_14 rfl (by decide) rfl ?_
    refine V_sub [2, 1, 0] rfl ?_
    exact l_X8_floatBits_15 hC hr hlk FU h
  · have h := ite_f c1 h
    refine V_iconst hC (0 : Int32) dX8_floatBits_6 (by decide) ?_
    obtain rfl := Option.some.inj h
    exact V_iret hC hr hlk dX8_floatBits_7
theorem c_X9_thrown {l : Launch} {G : Geo} {rv : Int32} {M : Mem} (hG : gD G) (h : f_X9_thrown M = rv) : Met l yX9_thrown (.code yX9_thrown cX9_thrown 1 (some .int) :: GL) (rmk 0) (gP G [.ref (adr G 7 0)] M) (gQ G (some (.int rv)) M) 0 0 (gA G) := by
  refine Met_of (own := RX9) (L := [(0, .ref (adr G 7 0))]) hG (by decide +kernel) rfl (Nat.le_of_ble_eq_true rfl) rfl ?_
  intro p e s m args below meth c hC hr hlk
  refine V_aload_n hC dX9_thrown_0 rfl 0 rfl ?_
  refine V_getI hC (f_m0_4) fw_X9_47 dX9_thrown_1 ?_
  obtain rfl := id h
  exact V_iret hC hr hlk dX9_thrown_4
theorem c_X9_refused {l : Launch} {G : Geo} {x1 : Int32} {rv : Int32} {Mf : Mem} {M : Mem} (hG : gD G) (h : f_X9_refused x1 M = some (rv, Mf)) : Met l yX9_refused (.code yX9_refused cX9_refused 2 (some .boolean) :: GL) (rmk 0) (gP G [.ref (adr G 7 0), .int x1] M) (gQ G (some (.int rv)) Mf) 0 0 (gA G) := by
  refine Met_of (own := RX9) (L := [(0, .ref (adr G 7 0)), (1, .int x1)]) hG (by decide +kernel) rfl (Nat.le_of_ble_eq_true rfl) rfl ?_
  intro p e s m args below meth c hC hr hlk
  refine V_aload_n hC dX9_refused_0 rfl 0 rfl ?_
  refine V_iload_n hC dX9_refused_1 rfl 1 rfl ?_
  refine V_putI hC (f_m0_4) fw_X9_47 flp_9_4 dX9_refused_2 ?_
  refine V_iload_n hC dX9_refused_5 rfl 1 rfl ?_
  refine V_if_le hC 13 dX9_refused_6 (by decide) (fun c1 => ?_) (fun c1 => ?_)
  · have h := ite_t c1 h
    refine V_iconst hC (0 : Int32) dX9_refused_13 (by decide) ?_
    obtain ⟨rfl, rfl⟩ := Prod.mk.inj (Option.some.inj h)
    exact V_zret hC hr hlk (Or.inl rfl) dX9_refused_14
  · have h := ite_f c1 h
    refine V_iconst hC (1 : Int32) dX9_refused_9 (by decide) ?_
    refine V_goto hC 14 dX9_refused_10 (by decide) ?_
    obtain ⟨rfl, rfl⟩ := Prod.mk.inj (Option.some.inj h)
    exact V_zret hC hr hlk (Or.inr rfl) dX9_refused_14
theorem c_X9_within {l : Launch} {G : Geo} {x0 : Int32} {x1 : Int32} {x2 : Int32} {rv : Int32} {M : Mem} (hG : gD G) (h : f_X9_within x0 x1 x2 = rv) : Met l yX9_within (.code yX9_within cX9_within 3 (some .boolean) :: GL) (rmk 0) (gP G [.int x0, .int x1, .int x2] M) (gQ G (some (.int rv)) M) 0 0 (gA G) := by
  refine Met_of (own := RX9) (L := [(0, .int x0), (1, .int x1), (2, .int x2)]) hG (by decide +kernel) rfl (Nat.le_of_ble_eq_true rfl) rfl ?_
  intro p e s m args below meth c hC hr hlk
  refine V_iload_n hC dX9_within_0 rfl 0 rfl ?_
  refine V_iload_n hC dX9_within_1 rfl 1 rfl ?_
  refine V_icmp_lt hC 14 dX9_within_2 (by decide) (fun c1 => ?_) (fun c1 => ?_)
  · have h := ite_t c1 h
    refine V_iconst hC (0 : Int32) dX9_within_14 (by decide) ?_
    obtain rfl := id h
    exact V_zret hC hr hlk (Or.inl rfl) dX9_within_15
  · have h := ite_f c1 h
    refine V_iload_n hC dX9_within_5 rfl 0 rfl ?_
    refine V_iload_n hC dX9_within_6 rfl 2 rfl ?_
    refine V_icmp_gt hC 14 dX9_within_7 (by decide) (fun c2 => ?_) (fun c2 => ?_)
    · have h := ite_t c2 h
      refine V_iconst hC (0 : Int32) dX9_within_14 (by decide) ?_
      obtain rfl := id h
      exact V_zret hC hr hlk (Or.inl rfl) dX9_within_15
    · have h := ite_f c2 h
      refine V_iconst hC (1 : Int32) dX9_within_10 (by decide) ?_
      refine V_goto hC 15 dX9_within_11 (by decide) ?_
      obtain rfl := id h
      exact V_zret hC hr hlk (Or.inr rfl) dX9_within_15
theorem z_X9_within (x0 : Int32) (x1 : Int32) (x2 : Int32) : f_X9_within x0 x1 x2 = 0 ∨ f_X9_within x0 x1 x2 = 1 := by
  unfold f_X9_within
  (repeat' split) <;> first | exact Or.inl rfl | exact Or.inr rfl
theorem l_X9_saves_51 {Mf : Mem} (hC : Cx p s m args c cX9_saves RX9 2 G) (hr : meth.sig.returnType = none) (hlk : meth.locks = false) : ∀ (n : Nat) {x1 : Int32} {M : Mem} (h : L_X9_saves_51 n x1 M = some Mf), V p l e (rmk 0) s m args below meth c 2 G 0 0 (MQ below (gQ G none Mf) args s 0 0 (gA G)) 51 [(0, .ref (adr G 7 0)), (1, .int x1)] [] M := by
  intro n
  induction n with
  | zero => intro x1 M h; cases h
  | succ n ih =>
    intro x1 M h
    have hk51 : ∀ (x1 : Int32) (M : Mem), L_X9_saves_51 n x1 M = some Mf → V p l e (rmk 0) s m args below meth c 2 G 0 0 (MQ below (gQ G none Mf) args s 0 0 (gA G)) 51 [(0, .ref (adr G 7 0)), (1, .int x1)] [] M := fun _ _ z => ih z
    refine V_iload_n hC dX9_saves_51 rfl 1 rfl ?_
    refine V_sipush hC (3602 : Int32) dX9_saves_52 (by decide) ?_
    refine V_icmp_ge hC 85 dX9_saves_55 (by decide) (fun c2 => ?_) (fun c2 => ?_)
    · have h := ite_t c2 h
      refine V_aload_n hC dX9_saves_85 rfl 0 rfl ?_
      refine V_dup hC dX9_saves_86 rfl ?_
      refine V_getI hC (f_m0_3) fw_X9_51 dX9_saves_87 ?_
      refine V_iconst hC (1 : Int32) dX9_saves_90 (by decide) ?_
      refine V_iadd hC dX9_saves_91 ?_
      refine V_putI hC (f_m0_3) fw_X9_51 flp_9_3 dX9_saves_92 ?_
      obtain rfl := Option.some.inj h
      exact V_vret hC hr hlk dX9_saves_95
    · have h := ite_f c2 h
      refine V_aload_n hC dX9_saves_58 rfl 0 rfl ?_
      refine V_getR hC (r_m0_1) fw_X9_13 dX9_saves_59 ?_
      refine V_sipush hC (3602 : Int32) dX9_saves_62 (by decide) ?_
      refine V_aload_n hC dX9_saves_65 rfl 0 rfl ?_
      refine V_getI hC (f_m0_3) fw_X9_51 dX9_saves_66 ?_
      refine V_imul hC dX9_saves_69 ?_
      refine V_iload_n hC dX9_saves_70 rfl 1 rfl ?_
      refine V_iadd hC dX9_saves_71 ?_
      refine V_aload_n hC dX9_saves_72 rfl 0 rfl ?_
      refine V_getR hC (r_m0_0) fw_X9_7 dX9_saves_73 ?_
      refine V_iload_n hC dX9_saves_76 rfl 1 rfl ?_
      obtain ⟨c3, h⟩ := ite_some h
      refine V_iald hC (a_m1) c3 dX9_saves_77 ?_
      obtain ⟨c4, h⟩ := ite_some h
      refine V_iast hC (a_m2) c4 dX9_saves_78 ?_
      refine V_iinc hC (x1 + 1) ([(1, .int (x1 + 1)), (0, .ref (adr G 7 0))]) dX9_saves_79 1 rfl rfl (by decide) rfl ?_
      refine V_goto hC 51 dX9_saves_82 (by decide) ?_
      refine V_sub [1, 0] rfl ?_
      exact hk51 _ _ h
theorem b_X9_saves_49 {Mf : Mem} {M : Mem} (hC : Cx p s m args c cX9_saves RX9 2 G) (hr : meth.sig.returnType = none) (hlk : meth.locks = false) (h : B_X9_saves_49 M = some Mf) : V p l e (rmk 0) s m args below meth c 2 G 0 0 (MQ below (gQ G none Mf) args s 0 0 (gA G)) 49 [(0, .ref (adr G 7 0))] [] M := by
  refine V_iconst hC (0 : Int32) dX9_saves_49 (by decide) ?_
  refine V_istore_n hC ([(1, .int (0 : Int32)), (0, .ref (adr G 7 0))]) dX9_saves_50 rfl (by decide) rfl ?_
  refine V_sub [1, 0] rfl ?_
  exact l_X9_saves_51 hC hr hlk FU h
theorem l_X9_saves_10 {Mf : Mem} (hC : Cx p s m args c cX9_saves RX9 2 G) (hr : meth.sig.returnType = none) (hlk : meth.locks = false) : ∀ (n : Nat) {x1 : Int32} {M : Mem} (h : L_X9_saves_10 n x1 M = some Mf), V p l e (rmk 0) s m args below meth c 2 G 0 0 (MQ below (gQ G none Mf) args s 0 0 (gA G)) 10 [(0, .ref (adr G 7 0)), (1, .int x1)] [] M := by
  intro n
  induction n with
  | zero => intro x1 M h; cases h
  | succ n ih =>
    intro x1 M h
    have hk10 : ∀ (x1 : Int32) (M : Mem), L_X9_saves_10 n x1 M = some Mf → V p l e (rmk 0) s m args below meth c 2 G 0 0 (MQ below (gQ G none Mf) args s 0 0 (gA G)) 10 [(0, .ref (adr G 7 0)), (1, .int x1)] [] M := fun _ _ z => ih z
    refine V_iload_n hC dX9_saves_10 rfl 1 rfl ?_
    refine V_sipush hC (10806 : Int32) dX9_saves_11 (by decide) ?_
    refine V_icmp_ge hC 39 dX9_saves_14 (by decide) (fun c5 => ?_) (fun c5 => ?_)
    · have h := ite_t c5 h
      refine V_aload_n hC dX9_saves_39 rfl 0 rfl ?_
      refine V_dup hC dX9_saves_40 rfl ?_
      refine V_getI hC (f_m0_3) fw_X9_51 dX9_saves_41 ?_
      refine V_iconst hC (1 : Int32) dX9_saves_44 (by decide) ?_
      refine V_isub hC dX9_saves_45 ?_
      refine V_putI hC (f_m0_3) fw_X9_51 flp_9_3 dX9_saves_46 ?_
      refine V_sub [0] rfl ?_
      exact b_X9_saves_49 hC hr hlk h
    · have h := ite_f c5 h
      refine V_aload_n hC dX9_saves_17 rfl 0 rfl ?_
      refine V_getR hC (r_m0_1) fw_X9_13 dX9_saves_18 ?_
      refine V_iload_n hC dX9_saves_21 rfl 1 rfl ?_
      refine V_aload_n hC dX9_saves_22 rfl 0 rfl ?_
      refine V_getR hC (r_m0_1) fw_X9_13 dX9_saves_23 ?_
      refine V_iload_n hC dX9_saves_26 rfl 1 rfl ?_
      refine V_sipush hC (3602 : Int32) dX9_saves_27 (by decide) ?_
      refine V_iadd hC dX9_saves_30 ?_
      obtain ⟨c6, h⟩ := ite_some h
      refine V_iald hC (a_m2) c6 dX9_saves_31 ?_
      obtain ⟨c7, h⟩ := ite_some h
      refine V_iast hC (a_m2) c7 dX9_saves_32 ?_
      refine V_iinc hC (x1 + 1) ([(1, .int (x1 + 1)), (0, .ref (adr G 7 0))]) dX9_saves_33 1 rfl rfl (by decide) rfl ?_
      refine V_goto hC 10 dX9_saves_36 (by decide) ?_
      refine V_sub [1, 0] rfl ?_
      exact hk10 _ _ h
theorem c_X9_saves {l : Launch} {G : Geo} {Mf : Mem} {M : Mem} (hG : gD G) (h : f_X9_saves M = some Mf) : Met l yX9_saves (.code yX9_saves cX9_saves 2 none :: GL) (rmk 0) (gP G [.ref (adr G 7 0)] M) (gQ G none Mf) 0 0 (gA G) := by
  refine Met_of (own := RX9) (L := [(0, .ref (adr G 7 0))]) hG (by decide +kernel) rfl (Nat.le_of_ble_eq_true rfl) rfl ?_
  intro p e s m args below meth c hC hr hlk
  refine V_aload_n hC dX9_saves_0 rfl 0 rfl ?_
  refine V_getI hC (f_m0_3) fw_X9_51 dX9_saves_1 ?_
  refine V_iconst hC (4 : Int32) dX9_saves_4 (by decide) ?_
  refine V_icmp_ne hC 49 dX9_saves_5 (by decide) (fun c1 => ?_) (fun c1 => ?_)
  · have h := ite_f c1 h
    exact b_X9_saves_49 hC hr hlk h
  · have h := ite_t c1 h
    refine V_iconst hC (0 : Int32) dX9_saves_8 (by decide) ?_
    refine V_istore_n hC ([(1, .int (0 : Int32)), (0, .ref (adr G 7 0))]) dX9_saves_9 rfl (by decide) rfl ?_
    refine V_sub [1, 0] rfl ?_
    exact l_X9_saves_10 hC hr hlk FU h
theorem l_X9_undo_33 {rv : Int32} {Mf : Mem} (hC : Cx p s m args c cX9_undo RX9 2 G) (hr : meth.sig.returnType = some .int) (hlk : meth.locks = false) : ∀ (n : Nat) {x1 : Int32} {M : Mem} (h : L_X9_undo_33 n x1 M = some (rv, Mf)), V p l e (rmk 1) s m args below meth c 2 G 0 0 (MQ below (gQ G (some (.int rv)) Mf) args s 0 0 (gA G)) 33 [(0, .ref (adr G 7 0)), (1, .int x1)] [] M := by
  intro n
  induction n with
  | zero => intro x1 M h; cases h
  | succ n ih =>
    intro x1 M h
    have hk33 : ∀ (x1 : Int32) (M : Mem), L_X9_undo_33 n x1 M = some (rv, Mf) → V p l e (rmk 1) s m args below meth c 2 G 0 0 (MQ below (gQ G (some (.int rv)) Mf) args s 0 0 (gA G)) 33 [(0, .ref (adr G 7 0)), (1, .int x1)] [] M := fun _ _ z => ih z
    refine V_iload_n hC dX9_undo_33 rfl 1 rfl ?_
    refine V_sipush hC (3602 : Int32) dX9_undo_34 (by decide) ?_
    refine V_icmp_ge hC 67 dX9_undo_37 (by decide) (fun c4 => ?_) (fun c4 => ?_)
    · have h := ite_t c4 h
      refine V_aload_n hC dX9_undo_67 rfl 0 rfl ?_
      refine V_getI hC (f_m0_3) fw_X9_51 dX9_undo_68 ?_
      obtain ⟨rfl, rfl⟩ := Prod.mk.inj (Option.some.inj h)
      exact V_iret hC hr hlk dX9_undo_71
    · have h := ite_f c4 h
      refine V_aload_n hC dX9_undo_40 rfl 0 rfl ?_
      refine V_getR hC (r_m0_0) fw_X9_7 dX9_undo_41 ?_
      refine V_iload_n hC dX9_undo_44 rfl 1 rfl ?_
      refine V_aload_n hC dX9_undo_45 rfl 0 rfl ?_
      refine V_getR hC (r_m0_1) fw_X9_13 dX9_undo_46 ?_
      refine V_sipush hC (3602 : Int32) dX9_undo_49 (by decide) ?_
      refine V_aload_n hC dX9_undo_52 rfl 0 rfl ?_
      refine V_getI hC (f_m0_3) fw_X9_51 dX9_undo_53 ?_
      refine V_imul hC dX9_undo_56 ?_
      refine V_iload_n hC dX9_undo_57 rfl 1 rfl ?_
      refine V_iadd hC dX9_undo_58 ?_
      obtain ⟨c5, h⟩ := ite_some h
      refine V_iald hC (a_m2) c5 dX9_undo_59 ?_
      obtain ⟨c6, h⟩ := ite_some h
      refine V_iast hC (a_m1) c6 dX9_undo_60 ?_
      refine V_iinc hC (x1 + 1) ([(1, .int (x1 + 1)), (0, .ref (adr G 7 0))]) dX9_undo_61 1 rfl rfl (by decide) rfl ?_
      refine V_goto hC 33 dX9_undo_64 (by decide) ?_
      refine V_sub [1, 0] rfl ?_
      exact hk33 _ _ h
theorem b_X9_undo_13 {rv : Int32} {Mf : Mem} {z0 : Int32} {M : Mem} (hC : Cx p s m args c cX9_undo RX9 2 G) (hr : meth.sig.returnType = some .int) (hlk : meth.locks = false) (h : B_X9_undo_13 z0 M = some (rv, Mf)) : V p l e (rmk 1) s m args below meth c 2 G 0 0 (MQ below (gQ G (some (.int rv)) Mf) args s 0 0 (gA G)) 13 [(0, .ref (adr G 7 0))] [.int z0, .ref (adr G 7 0)] M := by
  obtain ⟨q2, e2, h⟩ := bind_some h
  refine V_cVr hC [.int z0] (c_X9_refused (l := l) (rv := q2.1) (Mf := q2.2) hC.2.2.2.2.2.2.2 e2) kd_X9_refused kv_X9_refused gw_1318 (r_m0_0).o rfl ⟨Nat.le_of_ble_eq_true rfl, Nat.le_of_ble_eq_true rfl⟩ rfl (Nat.le_of_ble_eq_true rfl) dX9_undo_13 ⟨Nat.zero_le _, Nat.zero_le _⟩ rfl ?_
  refine V_if_eq hC 21 dX9_undo_16 (by decide) (fun c3 => ?_) (fun c3 => ?_)
  · have h := ite_t c3 h
    refine V_aload_n hC dX9_undo_21 rfl 0 rfl ?_
    refine V_dup hC dX9_undo_22 rfl ?_
    refine V_getI hC (f_m0_3) fw_X9_51 dX9_undo_23 ?_
    refine V_iconst hC (1 : Int32) dX9_undo_26 (by decide) ?_
    refine V_isub hC dX9_undo_27 ?_
    refine V_putI hC (f_m0_3) fw_X9_51 flp_9_3 dX9_undo_28 ?_
    refine V_iconst hC (0 : Int32) dX9_undo_31 (by decide) ?_
    refine V_istore_n hC ([(1, .int (0 : Int32)), (0, .ref (adr G 7 0))]) dX9_undo_32 rfl (by decide) rfl ?_
    refine V_sub [1, 0] rfl ?_
    exact l_X9_undo_33 hC hr hlk FU h
  · have h := ite_f c3 h
    refine V_iconst hC (0 : Int32) dX9_undo_19 (by decide) ?_
    obtain ⟨rfl, rfl⟩ := Prod.mk.inj (Option.some.inj h)
    exact V_iret hC hr hlk dX9_undo_20
theorem c_X9_undo {l : Launch} {G : Geo} {rv : Int32} {Mf : Mem} {M : Mem} (hG : gD G) (h : f_X9_undo M = some (rv, Mf)) : Met l yX9_undo (.code yX9_undo cX9_undo 2 (some .int) :: GL) (rmk 1) (gP G [.ref (adr G 7 0)] M) (gQ G (some (.int rv)) Mf) 0 0 (gA G) := by
  refine Met_of (own := RX9) (L := [(0, .ref (adr G 7 0))]) hG (by decide +kernel) rfl (Nat.le_of_ble_eq_true rfl) rfl ?_
  intro p e s m args below meth c hC hr hlk
  refine V_aload_n hC dX9_undo_0 rfl 0 rfl ?_
  refine V_aload_n hC dX9_undo_1 rfl 0 rfl ?_
  refine V_getI hC (f_m0_3) fw_X9_51 dX9_undo_2 ?_
  refine V_if_ne hC 12 dX9_undo_5 (by decide) (fun c1 => ?_) (fun c1 => ?_)
  · have h := ite_f c1 h
    refine V_iconst hC (0 : Int32) dX9_undo_12 (by decide) ?_
    exact b_X9_undo_13 hC hr hlk h
  · have h := ite_t c1 h
    refine V_iconst hC (1 : Int32) dX9_undo_8 (by decide) ?_
    refine V_goto hC 13 dX9_undo_9 (by decide) ?_
    exact b_X9_undo_13 hC hr hlk h
theorem l_X9_laysAside_2 {Mf : Mem} (hC : Cx p s m args c cX9_laysAside RX9 2 G) (hr : meth.sig.returnType = none) (hlk : meth.locks = false) : ∀ (n : Nat) {x1 : Int32} {M : Mem} (h : L_X9_laysAside_2 n x1 M = some Mf), V p l e (rmk 0) s m args below meth c 2 G 0 0 (MQ below (gQ G none Mf) args s 0 0 (gA G)) 2 [(0, .ref (adr G 7 0)), (1, .int x1)] [] M := by
  intro n
  induction n with
  | zero => intro x1 M h; cases h
  | succ n ih =>
    intro x1 M h
    have hk2 : ∀ (x1 : Int32) (M : Mem), L_X9_laysAside_2 n x1 M = some Mf → V p l e (rmk 0) s m args below meth c 2 G 0 0 (MQ below (gQ G none Mf) args s 0 0 (gA G)) 2 [(0, .ref (adr G 7 0)), (1, .int x1)] [] M := fun _ _ z => ih z
    refine V_iload_n hC dX9_laysAside_2 rfl 1 rfl ?_
    refine V_sipush hC (3602 : Int32) dX9_laysAside_3 (by decide) ?_
    refine V_icmp_ge hC 27 dX9_laysAside_6 (by decide) (fun c1 => ?_) (fun c1 => ?_)
    · have h := ite_t c1 h
      obtain rfl := Option.some.inj h
      exact V_vret hC hr hlk dX9_laysAside_27
    · have h := ite_f c1 h
      refine V_aload_n hC dX9_laysAside_9 rfl 0 rfl ?_
      refine V_getR hC (r_m0_2) fw_X9_16 dX9_laysAside_10 ?_
      refine V_iload_n hC dX9_laysAside_13 rfl 1 rfl ?_
      refine V_aload_n hC dX9_laysAside_14 rfl 0 rfl ?_
      refine V_getR hC (r_m0_0) fw_X9_7 dX9_laysAside_15 ?_
      refine V_iload_n hC dX9_laysAside_18 rfl 1 rfl ?_
      obtain ⟨c2, h⟩ := ite_some h
      refine V_iald hC (a_m1) c2 dX9_laysAside_19 ?_
      obtain ⟨c3, h⟩ := ite_some h
      refine V_iast hC (a_m3) c3 dX9_laysAside_20 ?_
      refine V_iinc hC (x1 + 1) ([(1, .int (x1 + 1)), (0, .ref (adr G 7 0))]) dX9_laysAside_21 1 rfl rfl (by decide) rfl ?_
      refine V_goto hC 2 dX9_laysAside_24 (by decide) ?_
      refine V_sub [1, 0] rfl ?_
      exact hk2 _ _ h
theorem c_X9_laysAside {l : Launch} {G : Geo} {Mf : Mem} {M : Mem} (hG : gD G) (h : f_X9_laysAside M = some Mf) : Met l yX9_laysAside (.code yX9_laysAside cX9_laysAside 2 none :: GL) (rmk 0) (gP G [.ref (adr G 7 0)] M) (gQ G none Mf) 0 0 (gA G) := by
  refine Met_of (own := RX9) (L := [(0, .ref (adr G 7 0))]) hG (by decide +kernel) rfl (Nat.le_of_ble_eq_true rfl) rfl ?_
  intro p e s m args below meth c hC hr hlk
  refine V_iconst hC (0 : Int32) dX9_laysAside_0 (by decide) ?_
  refine V_istore_n hC ([(1, .int (0 : Int32)), (0, .ref (adr G 7 0))]) dX9_laysAside_1 rfl (by decide) rfl ?_
  refine V_sub [1, 0] rfl ?_
  exact l_X9_laysAside_2 hC hr hlk FU h
theorem l_X9_takesBack_2 {Mf : Mem} (hC : Cx p s m args c cX9_takesBack RX9 2 G) (hr : meth.sig.returnType = none) (hlk : meth.locks = false) : ∀ (n : Nat) {x1 : Int32} {M : Mem} (h : L_X9_takesBack_2 n x1 M = some Mf), V p l e (rmk 0) s m args below meth c 2 G 0 0 (MQ below (gQ G none Mf) args s 0 0 (gA G)) 2 [(0, .ref (adr G 7 0)), (1, .int x1)] [] M := by
  intro n
  induction n with
  | zero => intro x1 M h; cases h
  | succ n ih =>
    intro x1 M h
    have hk2 : ∀ (x1 : Int32) (M : Mem), L_X9_takesBack_2 n x1 M = some Mf → V p l e (rmk 0) s m args below meth c 2 G 0 0 (MQ below (gQ G none Mf) args s 0 0 (gA G)) 2 [(0, .ref (adr G 7 0)), (1, .int x1)] [] M := fun _ _ z => ih z
    refine V_iload_n hC dX9_takesBack_2 rfl 1 rfl ?_
    refine V_sipush hC (3602 : Int32) dX9_takesBack_3 (by decide) ?_
    refine V_icmp_ge hC 27 dX9_takesBack_6 (by decide) (fun c1 => ?_) (fun c1 => ?_)
    · have h := ite_t c1 h
      obtain rfl := Option.some.inj h
      exact V_vret hC hr hlk dX9_takesBack_27
    · have h := ite_f c1 h
      refine V_aload_n hC dX9_takesBack_9 rfl 0 rfl ?_
      refine V_getR hC (r_m0_0) fw_X9_7 dX9_takesBack_10 ?_
      refine V_iload_n hC dX9_takesBack_13 rfl 1 rfl ?_
      refine V_aload_n hC dX9_takesBack_14 rfl 0 rfl ?_
      refine V_getR hC (r_m0_2) fw_X9_16 dX9_takesBack_15 ?_
      refine V_iload_n hC dX9_takesBack_18 rfl 1 rfl ?_
      obtain ⟨c2, h⟩ := ite_some h
      refine V_iald hC (a_m3) c2 dX9_takesBack_19 ?_
      obtain ⟨c3, h⟩ := ite_some h
      refine V_iast hC (a_m1) c3 dX9_takesBack_20 ?_
      refine V_iinc hC (x1 + 1) ([(1, .int (x1 + 1)), (0, .ref (adr G 7 0))]) dX9_takesBack_21 1 rfl rfl (by decide) rfl ?_
      refine V_goto hC 2 dX9_takesBack_24 (by decide) ?_
      refine V_sub [1, 0] rfl ?_
      exact hk2 _ _ h
theorem c_X9_takesBack {l : Launch} {G : Geo} {Mf : Mem} {M : Mem} (hG : gD G) (h : f_X9_takesBack M = some Mf) : Met l yX9_takesBack (.code yX9_takesBack cX9_takesBack 2 none :: GL) (rmk 0) (gP G [.ref (adr G 7 0)] M) (gQ G none Mf) 0 0 (gA G) := by
  refine Met_of (own := RX9) (L := [(0, .ref (adr G 7 0))]) hG (by decide +kernel) rfl (Nat.le_of_ble_eq_true rfl) rfl ?_
  intro p e s m args below meth c hC hr hlk
  refine V_iconst hC (0 : Int32) dX9_takesBack_0 (by decide) ?_
  refine V_istore_n hC ([(1, .int (0 : Int32)), (0, .ref (adr G 7 0))]) dX9_takesBack_1 rfl (by decide) rfl ?_
  refine V_sub [1, 0] rfl ?_
  exact l_X9_takesBack_2 hC hr hlk FU h
theorem c_X9_isSection {l : Launch} {G : Geo} {x1 : Int32} {rv : Int32} {M : Mem} (hG : gD G) (h : f_X9_isSection x1 M = some rv) : Met l yX9_isSection (.code yX9_isSection cX9_isSection 2 (some .boolean) :: GL) (rmk 1) (gP G [.ref (adr G 7 0), .int x1] M) (gQ G (some (.int rv)) M) 0 0 (gA G) := by
  refine Met_of (own := RX9) (L := [(0, .ref (adr G 7 0)), (1, .int x1)]) hG (by decide +kernel) rfl (Nat.le_of_ble_eq_true rfl) rfl ?_
  intro p e s m args below meth c hC hr hlk
  refine V_iload_n hC dX9_isSection_0 rfl 1 rfl ?_
  refine V_iconst hC (0 : Int32) dX9_isSection_1 (by decide) ?_
  refine V_bipush hC (19 : Int32) dX9_isSection_2 (by decide) ?_
  refine V_cSr hC [.int x1, .int (0 : Int32), .int (19 : Int32)] (c_X9_within (l := l) hC.2.2.2.2.2.2.2 rfl) kd_X9_within gw_1331 gw_1330 ⟨Nat.le_of_ble_eq_true rfl, Nat.le_of_ble_eq_true rfl⟩ rfl (Nat.le_of_ble_eq_true rfl) dX9_isSection_4 ⟨Nat.zero_le _, Nat.zero_le _⟩ rfl ?_
  refine V_if_eq hC 26 dX9_isSection_7 (by decide) (fun c2 => ?_) (fun c2 => ?_)
  · have h := ite_t c2 h
    refine V_iconst hC (0 : Int32) dX9_isSection_26 (by decide) ?_
    obtain rfl := Option.some.inj h
    exact V_zret hC hr hlk (Or.inl rfl) dX9_isSection_27
  · have h := ite_f c2 h
    refine V_aload_n hC dX9_isSection_10 rfl 0 rfl ?_
    refine V_getR hC (r_m0_0) fw_X9_7 dX9_isSection_11 ?_
    refine V_iconst hC (2 : Int32) dX9_isSection_14 (by decide) ?_
    refine V_iload_n hC dX9_isSection_15 rfl 1 rfl ?_
    refine V_iadd hC dX9_isSection_16 ?_
    obtain ⟨c3, h⟩ := ite_some h
    refine V_iald hC (a_m1) c3 dX9_isSection_17 ?_
    refine V_iconst hC (1 : Int32) dX9_isSection_18 (by decide) ?_
    refine V_icmp_ne hC 26 dX9_isSection_19 (by decide) (fun c4 => ?_) (fun c4 => ?_)
    · have h := ite_f c4 h
      refine V_iconst hC (0 : Int32) dX9_isSection_26 (by decide) ?_
      obtain rfl := Option.some.inj h
      exact V_zret hC hr hlk (Or.inl rfl) dX9_isSection_27
    · have h := ite_t c4 h
      refine V_iconst hC (1 : Int32) dX9_isSection_22 (by decide) ?_
      refine V_goto hC 27 dX9_isSection_23 (by decide) ?_
      obtain rfl := Option.some.inj h
      exact V_zret hC hr hlk (Or.inr rfl) dX9_isSection_27
theorem b_X9_isIn_25 {rv : Int32} {x3 : Int32} {M : Mem} (hC : Cx p s m args c cX9_isIn RX9 4 G) (hr : meth.sig.returnType = some .boolean) (hlk : meth.locks = false) (h : B_X9_isIn_25 x3 M = some rv) : V p l e (rmk 0) s m args below meth c 4 G 0 0 (MQ below (gQ G (some (.int rv)) M) args s 0 0 (gA G)) 25 [(3, .int x3)] [] M := by
  refine V_iload_n hC dX9_isIn_25 rfl 0 rfl ?_
  refine V_iconst hC ((-1) : Int32) dX9_isIn_26 (by decide) ?_
  refine V_icmp_eq hC 34 dX9_isIn_27 (by decide) (fun c2 => ?_) (fun c2 => ?_)
  · have h := ite_t c2 h
    refine V_iconst hC (0 : Int32) dX9_isIn_34 (by decide) ?_
    obtain rfl := Option.some.inj h
    exact V_zret hC hr hlk (Or.inl rfl) dX9_isIn_35
  · have h := ite_f c2 h
    refine V_iconst hC (1 : Int32) dX9_isIn_30 (by decide) ?_
    refine V_goto hC 35 dX9_isIn_31 (by decide) ?_
    obtain rfl := Option.some.inj h
    exact V_zret hC hr hlk (Or.inr rfl) dX9_isIn_35
theorem l_X9_isIn_2 {rv : Int32} {x2 : Int32} {M : Mem} (hC : Cx p s m args c cX9_isIn RX9 4 G) (hr : meth.sig.returnType = some .boolean) (hlk : meth.locks = false) : ∀ (n : Nat) {x3 : Int32} (h : L_X9_isIn_2 x2 M n x3 = some rv), V p l e (rmk 0) s m args below meth c 4 G 0 0 (MQ below (gQ G (some (.int rv)) M) args s 0 0 (gA G)) 2 [(0, .ref (adr G 7 0)), (2, .int x2), (3, .int x3)] [] M := by
  intro n
  induction n with
  | zero => intro x3 h; cases h
  | succ n ih =>
    intro x3 h
    have hk2 : ∀ (x3 : Int32), L_X9_isIn_2 x2 M n x3 = some rv → V p l e (rmk 0) s m args below meth c 4 G 0 0 (MQ below (gQ G (some (.int rv)) M) args s 0 0 (gA G)) 2 [(0, .ref (adr G 7 0)), (2, .int x2), (3, .int x3)] [] M := fun _ z => ih z
    refine V_iload_n hC dX9_isIn_2 rfl 2 rfl ?_
    refine V_iconst hC ((-1) : Int32) dX9_isIn_3 (by decide) ?_
    refine V_icmp_eq hC 25 dX9_isIn_4 (by decide) (fun c1 => ?_) (fun c1 => ?_)
    · have h := ite_t c1 h
      refine V_sub [2] rfl ?_
      exact b_X9_isIn_25 hC hr hlk h
    · have h := ite_f c1 h
      refine V_iload_n hC dX9_isIn_7 rfl 2 rfl ?_
      refine V_iload_n hC dX9_isIn_8 rfl 1 rfl ?_
      refine V_icmp_eq hC 25 dX9_isIn_9 (by decide) (fun c3 => ?_) (fun c3 => ?_)
      · have h := ite_t c3 h
        refine V_sub [2] rfl ?_
        exact b_X9_isIn_25 hC hr hlk h
      · have h := ite_f c3 h
        refine V_aload_n hC dX9_isIn_12 rfl 0 rfl ?_
        refine V_getR hC (r_m0_0) fw_X9_7 dX9_isIn_13 ?_
        refine V_bipush hC (22 : Int32) dX9_isIn_16 (by decide) ?_
        refine V_iload_n hC dX9_isIn_18 rfl 2 rfl ?_
        refine V_iadd hC dX9_isIn_19 ?_
        obtain ⟨c4, h⟩ := ite_some h
        refine V_iald hC (a_m1) c4 dX9_isIn_20 ?_
        refine V_istore_n hC ([(3, .int (M.1 7 1 (cl ((22 : Int32) + x3)))), (0, .ref (adr G 7 0)), (2, .int x2)]) dX9_isIn_21 rfl (by decide) rfl ?_
        refine V_goto hC 2 dX9_isIn_22 (by decide) ?_
        refine V_sub [1, 2, 0] rfl ?_
        exact hk2 _ h
theorem c_X9_isIn {l : Launch} {G : Geo} {x1 : Int32} {x2 : Int32} {rv : Int32} {M : Mem} (hG : gD G) (h : f_X9_isIn x1 x2 M = some rv) : Met l yX9_isIn (.code yX9_isIn cX9_isIn 4 (some .boolean) :: GL) (rmk 0) (gP G [.ref (adr G 7 0), .int x1, .int x2] M) (gQ G (some (.int rv)) M) 0 0 (gA G) := by
  refine Met_of (own := RX9) (L := [(0, .ref (adr G 7 0)), (1, .int x1), (2, .int x2)]) hG (by decide +kernel) rfl (Nat.le_of_ble_eq_true rfl) rfl ?_
  intro p e s m args below meth c hC hr hlk
  refine V_iload_n hC dX9_isIn_0 rfl 1 rfl ?_
  refine V_istore_n hC ([(3, .int x1), (0, .ref (adr G 7 0)), (1, .int x1), (2, .int x2)]) dX9_isIn_1 rfl (by decide) rfl ?_
  refine V_sub [1, 3, 0] rfl ?_
  exact l_X9_isIn_2 hC hr hlk FU h
theorem b_X9_overlap_18 {rv : Int32} {M : Mem} (hC : Cx p s m args c cX9_overlap RX9 3 G) (hr : meth.sig.returnType = some .boolean) (hlk : meth.locks = false) (h : B_X9_overlap_18 M = some rv) : V p l e (rmk 1) s m args below meth c 3 G 0 0 (MQ below (gQ G (some (.int rv)) M) args s 0 0 (gA G)) 18 [] [] M := by
  refine V_iconst hC (1 : Int32) dX9_overlap_18 (by decide) ?_
  refine V_goto hC 23 dX9_overlap_19 (by decide) ?_
  obtain rfl := Option.some.inj h
  exact V_zret hC hr hlk (Or.inr rfl) dX9_overlap_23
theorem c_X9_overlap {l : Launch} {G : Geo} {x1 : Int32} {x2 : Int32} {rv : Int32} {M : Mem} (hG : gD G) (h : f_X9_overlap x1 x2 M = some rv) : Met l yX9_overlap (.code yX9_overlap cX9_overlap 3 (some .boolean) :: GL) (rmk 1) (gP G [.ref (adr G 7 0), .int x1, .int x2] M) (gQ G (some (.int rv)) M) 0 0 (gA G) := by
  refine Met_of (own := RX9) (L := [(0, .ref (adr G 7 0)), (1, .int x1), (2, .int x2)]) hG (by decide +kernel) rfl (Nat.le_of_ble_eq_true rfl) rfl ?_
  intro p e s m args below meth c hC hr hlk
  refine V_aload_n hC dX9_overlap_0 rfl 0 rfl ?_
  refine V_iload_n hC dX9_overlap_1 rfl 1 rfl ?_
  refine V_iload_n hC dX9_overlap_2 rfl 2 rfl ?_
  obtain ⟨q1, e1, h⟩ := bind_some h
  refine V_cVr hC [.int x1, .int x2] (c_X9_isIn (l := l) hC.2.2.2.2.2.2.2 e1) kd_X9_isIn kv_X9_isIn gw_1352 (r_m0_0).o rfl ⟨Nat.le_of_ble_eq_true rfl, Nat.le_of_ble_eq_true rfl⟩ rfl (Nat.le_of_ble_eq_true rfl) dX9_overlap_3 ⟨Nat.zero_le _, Nat.zero_le _⟩ rfl ?_
  refine V_if_ne hC 18 dX9_overlap_6 (by decide) (fun c2 => ?_) (fun c2 => ?_)
  · have h := ite_f c2 h
    refine V_sub [] rfl ?_
    exact b_X9_overlap_18 hC hr hlk h
  · have h := ite_t c2 h
    refine V_aload_n hC dX9_overlap_9 rfl 0 rfl ?_
    refine V_iload_n hC dX9_overlap_10 rfl 2 rfl ?_
    refine V_iload_n hC dX9_overlap_11 rfl 1 rfl ?_
    obtain ⟨q3, e3, h⟩ := bind_some h
    refine V_cVr hC [.int x2, .int x1] (c_X9_isIn (l := l) hC.2.2.2.2.2.2.2 e3) kd_X9_isIn kv_X9_isIn gw_1352 (r_m0_0).o rfl ⟨Nat.le_of_ble_eq_true rfl, Nat.le_of_ble_eq_true rfl⟩ rfl (Nat.le_of_ble_eq_true rfl) dX9_overlap_12 ⟨Nat.zero_le _, Nat.zero_le _⟩ rfl ?_
    refine V_if_eq hC 22 dX9_overlap_15 (by decide) (fun c4 => ?_) (fun c4 => ?_)
    · have h := ite_t c4 h
      refine V_iconst hC (0 : Int32) dX9_overlap_22 (by decide) ?_
      obtain rfl := Option.some.inj h
      exact V_zret hC hr hlk (Or.inl rfl) dX9_overlap_23
    · have h := ite_f c4 h
      refine V_sub [] rfl ?_
      exact b_X9_overlap_18 hC hr hlk h
theorem l_X9_many_4 {rv : Int32} {M : Mem} (hC : Cx p s m args c cX9_many RX9 3 G) (hr : meth.sig.returnType = some .int) (hlk : meth.locks = false) : ∀ (n : Nat) {x1 : Int32} {x2 : Int32} (h : L_X9_many_4 M n x1 x2 = some rv), V p l e (rmk 0) s m args below meth c 3 G 0 0 (MQ below (gQ G (some (.int rv)) M) args s 0 0 (gA G)) 4 [(0, .ref (adr G 7 0)), (1, .int x1), (2, .int x2)] [] M := by
  intro n
  induction n with
  | zero => intro x1 x2 h; cases h
  | succ n ih =>
    intro x1 x2 h
    have hk4 : ∀ (x1 : Int32) (x2 : Int32), L_X9_many_4 M n x1 x2 = some rv → V p l e (rmk 0) s m args below meth c 3 G 0 0 (MQ below (gQ G (some (.int rv)) M) args s 0 0 (gA G)) 4 [(0, .ref (adr G 7 0)), (1, .int x1), (2, .int x2)] [] M := fun _ _ z => ih z
    refine V_iload_n hC dX9_many_4 rfl 2 rfl ?_
    refine V_bipush hC (20 : Int32) dX9_many_5 (by decide) ?_
    refine V_icmp_ge hC 27 dX9_many_7 (by decide) (fun c1 => ?_) (fun c1 => ?_)
    · have h := ite_t c1 h
      refine V_iload_n hC dX9_many_27 rfl 1 rfl ?_
      obtain rfl := Option.some.inj h
      exact V_iret hC hr hlk dX9_many_28
    · have h := ite_f c1 h
      refine V_iload_n hC dX9_many_10 rfl 1 rfl ?_
      refine V_aload_n hC dX9_many_11 rfl 0 rfl ?_
      refine V_getR hC (r_m0_0) fw_X9_7 dX9_many_12 ?_
      refine V_iconst hC (2 : Int32) dX9_many_15 (by decide) ?_
      refine V_iload_n hC dX9_many_16 rfl 2 rfl ?_
      refine V_iadd hC dX9_many_17 ?_
      obtain ⟨c2, h⟩ := ite_some h
      refine V_iald hC (a_m1) c2 dX9_many_18 ?_
      refine V_iadd hC dX9_many_19 ?_
      refine V_istore_n hC ([(1, .int (x1 + (M.1 7 1 (cl ((2 : Int32) + x2))))), (0, .ref (adr G 7 0)), (2, .int x2)]) dX9_many_20 rfl (by decide) rfl ?_
      refine V_iinc hC (x2 + 1) ([(2, .int (x2 + 1)), (1, .int (x1 + (M.1 7 1 (cl ((2 : Int32) + x2))))), (0, .ref (adr G 7 0))]) dX9_many_21 2 rfl rfl (by decide) rfl ?_
      refine V_goto hC 4 dX9_many_24 (by decide) ?_
      refine V_sub [2, 1, 0] rfl ?_
      exact hk4 _ _ h
theorem c_X9_many {l : Launch} {G : Geo} {rv : Int32} {M : Mem} (hG : gD G) (h : f_X9_many M = some rv) : Met l yX9_many (.code yX9_many cX9_many 3 (some .int) :: GL) (rmk 0) (gP G [.ref (adr G 7 0)] M) (gQ G (some (.int rv)) M) 0 0 (gA G) := by
  refine Met_of (own := RX9) (L := [(0, .ref (adr G 7 0))]) hG (by decide +kernel) rfl (Nat.le_of_ble_eq_true rfl) rfl ?_
  intro p e s m args below meth c hC hr hlk
  refine V_iconst hC (0 : Int32) dX9_many_0 (by decide) ?_
  refine V_istore_n hC ([(1, .int (0 : Int32)), (0, .ref (adr G 7 0))]) dX9_many_1 rfl (by decide) rfl ?_
  refine V_iconst hC (0 : Int32) dX9_many_2 (by decide) ?_
  refine V_istore_n hC ([(2, .int (0 : Int32)), (1, .int (0 : Int32)), (0, .ref (adr G 7 0))]) dX9_many_3 rfl (by decide) rfl ?_
  refine V_sub [2, 1, 0] rfl ?_
  exact l_X9_many_4 hC hr hlk FU h
theorem c_X9_isChild {l : Launch} {G : Geo} {x1 : Int32} {x2 : Int32} {rv : Int32} {M : Mem} (hG : gD G) (h : f_X9_isChild x1 x2 M = some rv) : Met l yX9_isChild (.code yX9_isChild cX9_isChild 3 (some .boolean) :: GL) (rmk 0) (gP G [.ref (adr G 7 0), .int x1, .int x2] M) (gQ G (some (.int rv)) M) 0 0 (gA G) := by
  refine Met_of (own := RX9) (L := [(0, .ref (adr G 7 0)), (1, .int x1), (2, .int x2)]) hG (by decide +kernel) rfl (Nat.le_of_ble_eq_true rfl) rfl ?_
  intro p e s m args below meth c hC hr hlk
  refine V_iload_n hC dX9_isChild_0 rfl 1 rfl ?_
  refine V_if_le hC 33 dX9_isChild_1 (by decide) (fun c1 => ?_) (fun c1 => ?_)
  · have h := ite_t c1 h
    refine V_iconst hC (0 : Int32) dX9_isChild_33 (by decide) ?_
    obtain rfl := Option.some.inj h
    exact V_zret hC hr hlk (Or.inl rfl) dX9_isChild_34
  · have h := ite_f c1 h
    refine V_aload_n hC dX9_isChild_4 rfl 0 rfl ?_
    refine V_getR hC (r_m0_0) fw_X9_7 dX9_isChild_5 ?_
    refine V_iconst hC (2 : Int32) dX9_isChild_8 (by decide) ?_
    refine V_iload_n hC dX9_isChild_9 rfl 1 rfl ?_
    refine V_iadd hC dX9_isChild_10 ?_
    obtain ⟨c2, h⟩ := ite_some h
    refine V_iald hC (a_m1) c2 dX9_isChild_11 ?_
    refine V_iconst hC (1 : Int32) dX9_isChild_12 (by decide) ?_
    refine V_icmp_ne hC 33 dX9_isChild_13 (by decide) (fun c3 => ?_) (fun c3 => ?_)
    · have h := ite_f c3 h
      refine V_iconst hC (0 : Int32) dX9_isChild_33 (by decide) ?_
      obtain rfl := Option.some.inj h
      exact V_zret hC hr hlk (Or.inl rfl) dX9_isChild_34
    · have h := ite_t c3 h
      refine V_aload_n hC dX9_isChild_16 rfl 0 rfl ?_
      refine V_getR hC (r_m0_0) fw_X9_7 dX9_isChild_17 ?_
      refine V_bipush hC (22 : Int32) dX9_isChild_20 (by decide) ?_
      refine V_iload_n hC dX9_isChild_22 rfl 1 rfl ?_
      refine V_iadd hC dX9_isChild_23 ?_
      obtain ⟨c4, h⟩ := ite_some h
      refine V_iald hC (a_m1) c4 dX9_isChild_24 ?_
      refine V_iload_n hC dX9_isChild_25 rfl 2 rfl ?_
      refine V_icmp_ne hC 33 dX9_isChild_26 (by decide) (fun c5 => ?_) (fun c5 => ?_)
      · have h := ite_f c5 h
        refine V_iconst hC (0 : Int32) dX9_isChild_33 (by decide) ?_
        obtain rfl := Option.some.inj h
        exact V_zret hC hr hlk (Or.inl rfl) dX9_isChild_34
      · have h := ite_t c5 h
        refine V_iconst hC (1 : Int32) dX9_isChild_29 (by decide) ?_
        refine V_goto hC 34 dX9_isChild_30 (by decide) ?_
        obtain rfl := Option.some.inj h
        exact V_zret hC hr hlk (Or.inr rfl) dX9_isChild_34
theorem b_X9_childMany_25 {rv : Int32} {k4 : Int32 → Int32 → Option Int32} {x1 : Int32} {x3 : Int32} {z0 : Int32} {z1 : Int32} {M : Mem} (hC : Cx p s m args c cX9_childMany RX9 4 G) (hr : meth.sig.returnType = some .int) (hlk : meth.locks = false) (hk4 : ∀ (x2 : Int32) (x3 : Int32), k4 x2 x3 = some rv → V p l e (rmk 1) s m args below meth c 4 G 0 0 (MQ below (gQ G (some (.int rv)) M) args s 0 0 (gA G)) 4 [(0, .ref (adr G 7 0)), (1, .int x1), (2, .int x2), (3, .int x3)] [] M) (h : B_X9_childMany_25 k4 x1 x3 z0 z1 M = some rv) : V p l e (rmk 1) s m args below meth c 4 G 0 0 (MQ below (gQ G (some (.int rv)) M) args s 0 0 (gA G)) 25 [(0, .ref (adr G 7 0)), (1, .int x1), (3, .int x3)] [.int z0, .int z1] M := by
  refine V_iadd hC dX9_childMany_25 ?_
  refine V_istore_n hC ([(2, .int (z1 + z0)), (0, .ref (adr G 7 0)), (1, .int x1), (3, .int x3)]) dX9_childMany_26 rfl (by decide) rfl ?_
  refine V_iinc hC (x3 + 1) ([(3, .int (x3 + 1)), (2, .int (z1 + z0)), (0, .ref (adr G 7 0)), (1, .int x1)]) dX9_childMany_27 3 rfl rfl (by decide) rfl ?_
  refine V_goto hC 4 dX9_childMany_30 (by decide) ?_
  refine V_sub [2, 3, 1, 0] rfl ?_
  exact hk4 _ _ h
theorem l_X9_childMany_4 {rv : Int32} {x1 : Int32} {M : Mem} (hC : Cx p s m args c cX9_childMany RX9 4 G) (hr : meth.sig.returnType = some .int) (hlk : meth.locks = false) : ∀ (n : Nat) {x2 : Int32} {x3 : Int32} (h : L_X9_childMany_4 x1 M n x2 x3 = some rv), V p l e (rmk 1) s m args below meth c 4 G 0 0 (MQ below (gQ G (some (.int rv)) M) args s 0 0 (gA G)) 4 [(0, .ref (adr G 7 0)), (1, .int x1), (2, .int x2), (3, .int x3)] [] M := by
  intro n
  induction n with
  | zero => intro x2 x3 h; cases h
  | succ n ih =>
    intro x2 x3 h
    have hk4 : ∀ (x2 : Int32) (x3 : Int32), L_X9_childMany_4 x1 M n x2 x3 = some rv → V p l e (rmk 1) s m args below meth c 4 G 0 0 (MQ below (gQ G (some (.int rv)) M) args s 0 0 (gA G)) 4 [(0, .ref (adr G 7 0)), (1, .int x1), (2, .int x2), (3, .int x3)] [] M := fun _ _ z => ih z
    refine V_iload_n hC dX9_childMany_4 rfl 3 rfl ?_
    refine V_bipush hC (20 : Int32) dX9_childMany_5 (by decide) ?_
    refine V_icmp_ge hC 33 dX9_childMany_7 (by decide) (fun c1 => ?_) (fun c1 => ?_)
    · have h := ite_t c1 h
      refine V_iload_n hC dX9_childMany_33 rfl 2 rfl ?_
      obtain rfl := Option.some.inj h
      exact V_iret hC hr hlk dX9_childMany_34
    · have h := ite_f c1 h
      refine V_iload_n hC dX9_childMany_10 rfl 2 rfl ?_
      refine V_aload_n hC dX9_childMany_11 rfl 0 rfl ?_
      refine V_iload_n hC dX9_childMany_12 rfl 3 rfl ?_
      refine V_iload_n hC dX9_childMany_13 rfl 1 rfl ?_
      obtain ⟨q2, e2, h⟩ := bind_some h
      refine V_cVr hC [.int x3, .int x1] (c_X9_isChild (l := l) hC.2.2.2.2.2.2.2 e2) kd_X9_isChild kv_X9_isChild gw_1411 (r_m0_0).o rfl ⟨Nat.le_of_ble_eq_true rfl, Nat.le_of_ble_eq_true rfl⟩ rfl (Nat.le_of_ble_eq_true rfl) dX9_childMany_14 ⟨Nat.zero_le _, Nat.zero_le _⟩ rfl ?_
      refine V_if_eq hC 24 dX9_childMany_17 (by decide) (fun c3 => ?_) (fun c3 => ?_)
      · have h := ite_t c3 h
        refine V_iconst hC (0 : Int32) dX9_childMany_24 (by decide) ?_
        refine V_sub [0, 1, 3] rfl ?_
        exact b_X9_childMany_25 hC hr hlk hk4 h
      · have h := ite_f c3 h
        refine V_iconst hC (1 : Int32) dX9_childMany_20 (by decide) ?_
        refine V_goto hC 25 dX9_childMany_21 (by decide) ?_
        refine V_sub [0, 1, 3] rfl ?_
        exact b_X9_childMany_25 hC hr hlk hk4 h
theorem c_X9_childMany {l : Launch} {G : Geo} {x1 : Int32} {rv : Int32} {M : Mem} (hG : gD G) (h : f_X9_childMany x1 M = some rv) : Met l yX9_childMany (.code yX9_childMany cX9_childMany 4 (some .int) :: GL) (rmk 1) (gP G [.ref (adr G 7 0), .int x1] M) (gQ G (some (.int rv)) M) 0 0 (gA G) := by
  refine Met_of (own := RX9) (L := [(0, .ref (adr G 7 0)), (1, .int x1)]) hG (by decide +kernel) rfl (Nat.le_of_ble_eq_true rfl) rfl ?_
  intro p e s m args below meth c hC hr hlk
  refine V_iconst hC (0 : Int32) dX9_childMany_0 (by decide) ?_
  refine V_istore_n hC ([(2, .int (0 : Int32)), (0, .ref (adr G 7 0)), (1, .int x1)]) dX9_childMany_1 rfl (by decide) rfl ?_
  refine V_iconst hC (1 : Int32) dX9_childMany_2 (by decide) ?_
  refine V_istore_n hC ([(3, .int (1 : Int32)), (2, .int (0 : Int32)), (0, .ref (adr G 7 0)), (1, .int x1)]) dX9_childMany_3 rfl (by decide) rfl ?_
  refine V_sub [2, 3, 1, 0] rfl ?_
  exact l_X9_childMany_4 hC hr hlk FU h
theorem b_X9_childAt_96 {rv : Int32} {k5 : Int32 → Int32 → Option Int32} {x1 : Int32} {x2 : Int32} {x4 : Int32} {z0 : Int32} {M : Mem} (hC : Cx p s m args c cX9_childAt RX9 7 G) (hr : meth.sig.returnType = some .int) (hlk : meth.locks = false) (hk5 : ∀ (x3 : Int32) (x4 : Int32), k5 x3 x4 = some rv → V p l e (rmk 1) s m args below meth c 7 G 0 0 (MQ below (gQ G (some (.int rv)) M) args s 0 0 (gA G)) 5 [(0, .ref (adr G 7 0)), (1, .int x1), (2, .int x2), (3, .int x3), (4, .int x4)] [] M) (h : B_X9_childAt_96 k5 x1 x2 x4 z0 M = some rv) : V p l e (rmk 1) s m args below meth c 7 G 0 0 (MQ below (gQ G (some (.int rv)) M) args s 0 0 (gA G)) 96 [(0, .ref (adr G 7 0)), (1, .int x1), (2, .int x2), (4, .int x4)] [.int z0] M := by
  refine V_istore_n hC ([(3, .int z0), (0, .ref (adr G 7 0)), (1, .int x1), (2, .int x2), (4, .int x4)]) dX9_childAt_96 rfl (by decide) rfl ?_
  refine V_iinc hC (x4 + 1) ([(4, .int (x4 + 1)), (3, .int z0), (0, .ref (adr G 7 0)), (1, .int x1), (2, .int x2)]) dX9_childAt_97 4 rfl rfl (by decide) rfl ?_
  refine V_goto hC 5 dX9_childAt_100 (by decide) ?_
  refine V_sub [2, 3, 4, 1, 0] rfl ?_
  exact hk5 _ _ h
theorem b_X9_childAt_95 {rv : Int32} {k5 : Int32 → Int32 → Option Int32} {x1 : Int32} {x2 : Int32} {x3 : Int32} {x4 : Int32} {M : Mem} (hC : Cx p s m args c cX9_childAt RX9 7 G) (hr : meth.sig.returnType = some .int) (hlk : meth.locks = false) (hk5 : ∀ (x3 : Int32) (x4 : Int32), k5 x3 x4 = some rv → V p l e (rmk 1) s m args below meth c 7 G 0 0 (MQ below (gQ G (some (.int rv)) M) args s 0 0 (gA G)) 5 [(0, .ref (adr G 7 0)), (1, .int x1), (2, .int x2), (3, .int x3), (4, .int x4)] [] M) (h : B_X9_childAt_95 k5 x1 x2 x3 x4 M = some rv) : V p l e (rmk 1) s m args below meth c 7 G 0 0 (MQ below (gQ G (some (.int rv)) M) args s 0 0 (gA G)) 95 [(0, .ref (adr G 7 0)), (1, .int x1), (2, .int x2), (3, .int x3), (4, .int x4)] [] M := by
  refine V_iload_n hC dX9_childAt_95 rfl 3 rfl ?_
  refine V_sub [0, 1, 2, 4] rfl ?_
  exact b_X9_childAt_96 hC hr hlk hk5 h
theorem b_X9_childAt_65 {rv : Int32} {k5 : Int32 → Int32 → Option Int32} {k18 : Int32 → Int32 → Option Int32} {x1 : Int32} {x2 : Int32} {x3 : Int32} {x4 : Int32} {x6 : Int32} {z0 : Int32} {z1 : Int32} {M : Mem} (hC : Cx p s m args c cX9_childAt RX9 7 G) (hr : meth.sig.returnType = some .int) (hlk : meth.locks = false) (hk5 : ∀ (x3 : Int32) (x4 : Int32), k5 x3 x4 = some rv → V p l e (rmk 1) s m args below meth c 7 G 0 0 (MQ below (gQ G (some (.int rv)) M) args s 0 0 (gA G)) 5 [(0, .ref (adr G 7 0)), (1, .int x1), (2, .int x2), (3, .int x3), (4, .int x4)] [] M) (hk18 : ∀ (x5 : Int32) (x6 : Int32), k18 x5 x6 = some rv → V p l e (rmk 1) s m args below meth c 7 G 0 0 (MQ below (gQ G (some (.int rv)) M) args s 0 0 (gA G)) 18 [(0, .ref (adr G 7 0)), (1, .int x1), (2, .int x2), (3, .int x3), (4, .int x4), (5, .int x5), (6, .int x6)] [] M) (h : B_X9_childAt_65 k5 k18 x1 x2 x3 x4 x6 z0 z1 M = some rv) : V p l e (rmk 1) s m args below meth c 7 G 0 0 (MQ below (gQ G (some (.int rv)) M) args s 0 0 (gA G)) 65 [(0, .ref (adr G 7 0)), (1, .int x1), (2, .int x2), (3, .int x3), (4, .int x4), (6, .int x6)] [.int z0, .int z1] M := by
  refine V_iadd hC dX9_childAt_65 ?_
  refine V_istore hC ([(5, .int (z1 + z0)), (0, .ref (adr G 7 0)), (1, .int x1), (2, .int x2), (3, .int x3), (4, .int x4), (6, .int x6)]) dX9_childAt_66 (by decide) rfl ?_
  refine V_iinc hC (x6 + 1) ([(6, .int (x6 + 1)), (5, .int (z1 + z0)), (0, .ref (adr G 7 0)), (1, .int x1), (2, .int x2), (3, .int x3), (4, .int x4)]) dX9_childAt_68 6 rfl rfl (by decide) rfl ?_
  refine V_goto hC 18 dX9_childAt_71 (by decide) ?_
  refine V_sub [2, 3, 4, 5, 6, 1, 0] rfl ?_
  exact hk18 _ _ h
theorem b_X9_childAt_64 {rv : Int32} {k5 : Int32 → Int32 → Option Int32} {k18 : Int32 → Int32 → Option Int32} {x1 : Int32} {x2 : Int32} {x3 : Int32} {x4 : Int32} {x6 : Int32} {z0 : Int32} {M : Mem} (hC : Cx p s m args c cX9_childAt RX9 7 G) (hr : meth.sig.returnType = some .int) (hlk : meth.locks = false) (hk5 : ∀ (x3 : Int32) (x4 : Int32), k5 x3 x4 = some rv → V p l e (rmk 1) s m args below meth c 7 G 0 0 (MQ below (gQ G (some (.int rv)) M) args s 0 0 (gA G)) 5 [(0, .ref (adr G 7 0)), (1, .int x1), (2, .int x2), (3, .int x3), (4, .int x4)] [] M) (hk18 : ∀ (x5 : Int32) (x6 : Int32), k18 x5 x6 = some rv → V p l e (rmk 1) s m args below meth c 7 G 0 0 (MQ below (gQ G (some (.int rv)) M) args s 0 0 (gA G)) 18 [(0, .ref (adr G 7 0)), (1, .int x1), (2, .int x2), (3, .int x3), (4, .int x4), (5, .int x5), (6, .int x6)] [] M) (h : B_X9_childAt_64 k5 k18 x1 x2 x3 x4 x6 z0 M = some rv) : V p l e (rmk 1) s m args below meth c 7 G 0 0 (MQ below (gQ G (some (.int rv)) M) args s 0 0 (gA G)) 64 [(0, .ref (adr G 7 0)), (1, .int x1), (2, .int x2), (3, .int x3), (4, .int x4), (6, .int x6)] [.int z0] M := by
  refine V_iconst hC (0 : Int32) dX9_childAt_64 (by decide) ?_
  exact b_X9_childAt_65 hC hr hlk hk5 hk18 h
theorem l_X9_childAt_18 {k5 : Int32 → Int32 → Option Int32} {rv : Int32} {x1 : Int32} {x2 : Int32} {x3 : Int32} {x4 : Int32} {M : Mem} (hC : Cx p s m args c cX9_childAt RX9 7 G) (hr : meth.sig.returnType = some .int) (hlk : meth.locks = false) (hk5 : ∀ (x3 : Int32) (x4 : Int32), k5 x3 x4 = some rv → V p l e (rmk 1) s m args below meth c 7 G 0 0 (MQ below (gQ G (some (.int rv)) M) args s 0 0 (gA G)) 5 [(0, .ref (adr G 7 0)), (1, .int x1), (2, .int x2), (3, .int x3), (4, .int x4)] [] M) : ∀ (n : Nat) {x5 : Int32} {x6 : Int32} (h : L_X9_childAt_18 k5 x1 x2 x3 x4 M n x5 x6 = some rv), V p l e (rmk 1) s m args below meth c 7 G 0 0 (MQ below (gQ G (some (.int rv)) M) args s 0 0 (gA G)) 18 [(0, .ref (adr G 7 0)), (1, .int x1), (2, .int x2), (3, .int x3), (4, .int x4), (5, .int x5), (6, .int x6)] [] M := by
  intro n
  induction n with
  | zero => intro x5 x6 h; cases h
  | succ n ih =>
    intro x5 x6 h
    have hk18 : ∀ (x5 : Int32) (x6 : Int32), L_X9_childAt_18 k5 x1 x2 x3 x4 M n x5 x6 = some rv → V p l e (rmk 1) s m args below meth c 7 G 0 0 (MQ below (gQ G (some (.int rv)) M) args s 0 0 (gA G)) 18 [(0, .ref (adr G 7 0)), (1, .int x1), (2, .int x2), (3, .int x3), (4, .int x4), (5, .int x5), (6, .int x6)] [] M := fun _ _ z => ih z
    refine V_iload hC dX9_childAt_18 6 rfl ?_
    refine V_bipush hC (20 : Int32) dX9_childAt_20 (by decide) ?_
    refine V_icmp_ge hC 74 dX9_childAt_22 (by decide) (fun c2 => ?_) (fun c2 => ?_)
    · have h := ite_t c2 h
      refine V_aload_n hC dX9_childAt_74 rfl 0 rfl ?_
      refine V_iload hC dX9_childAt_75 4 rfl ?_
      refine V_iload_n hC dX9_childAt_77 rfl 1 rfl ?_
      obtain ⟨q3, e3, h⟩ := bind_some h
      refine V_cVr hC [.int x4, .int x1] (c_X9_isChild (l := l) hC.2.2.2.2.2.2.2 e3) kd_X9_isChild kv_X9_isChild gw_1411 (r_m0_0).o rfl ⟨Nat.le_of_ble_eq_true rfl, Nat.le_of_ble_eq_true rfl⟩ rfl (Nat.le_of_ble_eq_true rfl) dX9_childAt_78 ⟨Nat.zero_le _, Nat.zero_le _⟩ rfl ?_
      refine V_if_eq hC 95 dX9_childAt_81 (by decide) (fun c4 => ?_) (fun c4 => ?_)
      · have h := ite_t c4 h
        refine V_sub [0, 1, 2, 3, 4] rfl ?_
        exact b_X9_childAt_95 hC hr hlk hk5 h
      · have h := ite_f c4 h
        refine V_iload hC dX9_childAt_84 5 rfl ?_
        refine V_iload_n hC dX9_childAt_86 rfl 2 rfl ?_
        refine V_icmp_ne hC 95 dX9_childAt_87 (by decide) (fun c5 => ?_) (fun c5 => ?_)
        · have h := ite_f c5 h
          refine V_sub [0, 1, 2, 3, 4] rfl ?_
          exact b_X9_childAt_95 hC hr hlk hk5 h
        · have h := ite_t c5 h
          refine V_iload hC dX9_childAt_90 4 rfl ?_
          refine V_goto hC 96 dX9_childAt_92 (by decide) ?_
          refine V_sub [0, 1, 2, 4] rfl ?_
          exact b_X9_childAt_96 hC hr hlk hk5 h
    · have h := ite_f c2 h
      refine V_iload hC dX9_childAt_25 5 rfl ?_
      refine V_aload_n hC dX9_childAt_27 rfl 0 rfl ?_
      refine V_iload hC dX9_childAt_28 6 rfl ?_
      refine V_iload_n hC dX9_childAt_30 rfl 1 rfl ?_
      obtain ⟨q6, e6, h⟩ := bind_some h
      refine V_cVr hC [.int x6, .int x1] (c_X9_isChild (l := l) hC.2.2.2.2.2.2.2 e6) kd_X9_isChild kv_X9_isChild gw_1411 (r_m0_0).o rfl ⟨Nat.le_of_ble_eq_true rfl, Nat.le_of_ble_eq_true rfl⟩ rfl (Nat.le_of_ble_eq_true rfl) dX9_childAt_31 ⟨Nat.zero_le _, Nat.zero_le _⟩ rfl ?_
      refine V_if_eq hC 64 dX9_childAt_34 (by decide) (fun c7 => ?_) (fun c7 => ?_)
      · have h := ite_t c7 h
        refine V_sub [0, 1, 2, 3, 4, 6] rfl ?_
        exact b_X9_childAt_64 hC hr hlk hk5 hk18 h
      · have h := ite_f c7 h
        refine V_aload_n hC dX9_childAt_37 rfl 0 rfl ?_
        refine V_getR hC (r_m0_0) fw_X9_7 dX9_childAt_38 ?_
        refine V_bipush hC (42 : Int32) dX9_childAt_41 (by decide) ?_
        refine V_iload hC dX9_childAt_43 6 rfl ?_
        refine V_iadd hC dX9_childAt_45 ?_
        obtain ⟨c8, h⟩ := ite_some h
        refine V_iald hC (a_m1) c8 dX9_childAt_46 ?_
        refine V_aload_n hC dX9_childAt_47 rfl 0 rfl ?_
        refine V_getR hC (r_m0_0) fw_X9_7 dX9_childAt_48 ?_
        refine V_bipush hC (42 : Int32) dX9_childAt_51 (by decide) ?_
        refine V_iload hC dX9_childAt_53 4 rfl ?_
        refine V_iadd hC dX9_childAt_55 ?_
        obtain ⟨c9, h⟩ := ite_some h
        refine V_iald hC (a_m1) c9 dX9_childAt_56 ?_
        refine V_icmp_ge hC 64 dX9_childAt_57 (by decide) (fun c10 => ?_) (fun c10 => ?_)
        · have h := ite_t c10 h
          refine V_sub [0, 1, 2, 3, 4, 6] rfl ?_
          exact b_X9_childAt_64 hC hr hlk hk5 hk18 h
        · have h := ite_f c10 h
          refine V_iconst hC (1 : Int32) dX9_childAt_60 (by decide) ?_
          refine V_goto hC 65 dX9_childAt_61 (by decide) ?_
          refine V_sub [0, 1, 2, 3, 4, 6] rfl ?_
          exact b_X9_childAt_65 hC hr hlk hk5 hk18 h
theorem l_X9_childAt_5 {rv : Int32} {x1 : Int32} {x2 : Int32} {M : Mem} (hC : Cx p s m args c cX9_childAt RX9 7 G) (hr : meth.sig.returnType = some .int) (hlk : meth.locks = false) : ∀ (n : Nat) {x3 : Int32} {x4 : Int32} (h : L_X9_childAt_5 x1 x2 M n x3 x4 = some rv), V p l e (rmk 1) s m args below meth c 7 G 0 0 (MQ below (gQ G (some (.int rv)) M) args s 0 0 (gA G)) 5 [(0, .ref (adr G 7 0)), (1, .int x1), (2, .int x2), (3, .int x3), (4, .int x4)] [] M := by
  intro n
  induction n with
  | zero => intro x3 x4 h; cases h
  | succ n ih =>
    intro x3 x4 h
    have hk5 : ∀ (x3 : Int32) (x4 : Int32), L_X9_childAt_5 x1 x2 M n x3 x4 = some rv → V p l e (rmk 1) s m args below meth c 7 G 0 0 (MQ below (gQ G (some (.int rv)) M) args s 0 0 (gA G)) 5 [(0, .ref (adr G 7 0)), (1, .int x1), (2, .int x2), (3, .int x3), (4, .int x4)] [] M := fun _ _ z => ih z
    refine V_iload hC dX9_childAt_5 4 rfl ?_
    refine V_bipush hC (20 : Int32) dX9_childAt_7 (by decide) ?_
    refine V_icmp_ge hC 103 dX9_childAt_9 (by decide) (fun c1 => ?_) (fun c1 => ?_)
    · have h := ite_t c1 h
      refine V_iload_n hC dX9_childAt_103 rfl 3 rfl ?_
      obtain rfl := Option.some.inj h
      exact V_iret hC hr hlk dX9_childAt_104
    · have h := ite_f c1 h
      refine V_iconst hC (0 : Int32) dX9_childAt_12 (by decide) ?_
      refine V_istore hC ([(5, .int (0 : Int32)), (0, .ref (adr G 7 0)), (1, .int x1), (2, .int x2), (3, .int x3), (4, .int x4)]) dX9_childAt_13 (by decide) rfl ?_
      refine V_iconst hC (1 : Int32) dX9_childAt_15 (by decide) ?_
      refine V_istore hC ([(6, .int (1 : Int32)), (5, .int (0 : Int32)), (0, .ref (adr G 7 0)), (1, .int x1), (2, .int x2), (3, .int x3), (4, .int x4)]) dX9_childAt_16 (by decide) rfl ?_
      refine V_sub [2, 3, 4, 5, 6, 1, 0] rfl ?_
      exact l_X9_childAt_18 hC hr hlk hk5 FU h
theorem c_X9_childAt {l : Launch} {G : Geo} {x1 : Int32} {x2 : Int32} {rv : Int32} {M : Mem} (hG : gD G) (h : f_X9_childAt x1 x2 M = some rv) : Met l yX9_childAt (.code yX9_childAt cX9_childAt 7 (some .int) :: GL) (rmk 1) (gP G [.ref (adr G 7 0), .int x1, .int x2] M) (gQ G (some (.int rv)) M) 0 0 (gA G) := by
  refine Met_of (own := RX9) (L := [(0, .ref (adr G 7 0)), (1, .int x1), (2, .int x2)]) hG (by decide +kernel) rfl (Nat.le_of_ble_eq_true rfl) rfl ?_
  intro p e s m args below meth c hC hr hlk
  refine V_iconst hC ((-1) : Int32) dX9_childAt_0 (by decide) ?_
  refine V_istore_n hC ([(3, .int ((-1) : Int32)), (0, .ref (adr G 7 0)), (1, .int x1), (2, .int x2)]) dX9_childAt_1 rfl (by decide) rfl ?_
  refine V_iconst hC (1 : Int32) dX9_childAt_2 (by decide) ?_
  refine V_istore hC ([(4, .int (1 : Int32)), (3, .int ((-1) : Int32)), (0, .ref (adr G 7 0)), (1, .int x1), (2, .int x2)]) dX9_childAt_3 (by decide) rfl ?_
  refine V_sub [2, 3, 4, 1, 0] rfl ?_
  exact l_X9_childAt_5 hC hr hlk FU h
theorem l_X9_depth_4 {rv : Int32} {M : Mem} (hC : Cx p s m args c cX9_depth RX9 4 G) (hr : meth.sig.returnType = some .int) (hlk : meth.locks = false) : ∀ (n : Nat) {x2 : Int32} {x3 : Int32} (h : L_X9_depth_4 M n x2 x3 = some rv), V p l e (rmk 0) s m args below meth c 4 G 0 0 (MQ below (gQ G (some (.int rv)) M) args s 0 0 (gA G)) 4 [(0, .ref (adr G 7 0)), (2, .int x2), (3, .int x3)] [] M := by
  intro n
  induction n with
  | zero => intro x2 x3 h; cases h
  | succ n ih =>
    intro x2 x3 h
    have hk4 : ∀ (x2 : Int32) (x3 : Int32), L_X9_depth_4 M n x2 x3 = some rv → V p l e (rmk 0) s m args below meth c 4 G 0 0 (MQ below (gQ G (some (.int rv)) M) args s 0 0 (gA G)) 4 [(0, .ref (adr G 7 0)), (2, .int x2), (3, .int x3)] [] M := fun _ _ z => ih z
    refine V_aload_n hC dX9_depth_4 rfl 0 rfl ?_
    refine V_getR hC (r_m0_0) fw_X9_7 dX9_depth_5 ?_
    refine V_bipush hC (22 : Int32) dX9_depth_8 (by decide) ?_
    refine V_iload_n hC dX9_depth_10 rfl 2 rfl ?_
    refine V_iadd hC dX9_depth_11 ?_
    obtain ⟨c1, h⟩ := ite_some h
    refine V_iald hC (a_m1) c1 dX9_depth_12 ?_
    refine V_iconst hC ((-1) : Int32) dX9_depth_13 (by decide) ?_
    refine V_icmp_eq hC 33 dX9_depth_14 (by decide) (fun c2 => ?_) (fun c2 => ?_)
    · have h := ite_t c2 h
      refine V_iload_n hC dX9_depth_33 rfl 1 rfl ?_
      obtain rfl := Option.some.inj h
      exact V_iret hC hr hlk dX9_depth_34
    · have h := ite_f c2 h
      refine V_iinc hC (x2 + 1) ([(2, .int (x2 + 1)), (0, .ref (adr G 7 0)), (3, .int x3)]) dX9_depth_17 1 rfl rfl (by decide) rfl ?_
      refine V_aload_n hC dX9_depth_20 rfl 1 rfl ?_
      refine V_getR hC (r_m0_0) fw_X9_7 dX9_depth_21 ?_
      refine V_bipush hC (22 : Int32) dX9_depth_24 (by decide) ?_
      refine V_iload_n hC dX9_depth_26 rfl 2 rfl ?_
      refine V_iadd hC dX9_depth_27 ?_
      obtain ⟨c3, h⟩ := ite_some h
      refine V_iald hC (a_m1) c3 dX9_depth_28 ?_
      refine V_istore_n hC ([(3, .int (M.1 7 1 (cl ((22 : Int32) + x3)))), (2, .int (x2 + 1)), (0, .ref (adr G 7 0))]) dX9_depth_29 rfl (by decide) rfl ?_
      refine V_goto hC 4 dX9_depth_30 (by decide) ?_
      refine V_sub [2, 1, 0] rfl ?_
      exact hk4 _ _ h
theorem c_X9_depth {l : Launch} {G : Geo} {x1 : Int32} {rv : Int32} {M : Mem} (hG : gD G) (h : f_X9_depth x1 M = some rv) : Met l yX9_depth (.code yX9_depth cX9_depth 4 (some .int) :: GL) (rmk 0) (gP G [.ref (adr G 7 0), .int x1] M) (gQ G (some (.int rv)) M) 0 0 (gA G) := by
  refine Met_of (own := RX9) (L := [(0, .ref (adr G 7 0)), (1, .int x1)]) hG (by decide +kernel) rfl (Nat.le_of_ble_eq_true rfl) rfl ?_
  intro p e s m args below meth c hC hr hlk
  refine V_iconst hC (0 : Int32) dX9_depth_0 (by decide) ?_
  refine V_istore_n hC ([(2, .int (0 : Int32)), (0, .ref (adr G 7 0)), (1, .int x1)]) dX9_depth_1 rfl (by decide) rfl ?_
  refine V_iload_n hC dX9_depth_2 rfl 2 rfl ?_
  refine V_istore_n hC ([(3, .int x1), (2, .int (0 : Int32)), (0, .ref (adr G 7 0)), (1, .int x1)]) dX9_depth_3 rfl (by decide) rfl ?_
  refine V_sub [2, 1, 0] rfl ?_
  exact l_X9_depth_4 hC hr hlk FU h
end
