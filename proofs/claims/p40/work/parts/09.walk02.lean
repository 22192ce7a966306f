section
variable {p : Program} {l : Launch} {e : Env} {s : State} {m : MethodId} {args : Array Value} {below : List Frame} {meth : Method} {c : Code} {G : Geo}
theorem l_J7_fill_53178_5 {g1 j1 n1 q1 : Nat} {Mf : Mem} {x1 : Int32} {x3 : Int32} (hC : Cx p s m args c cJ7_fill_53178 RJ7 4 G) (hr : meth.sig.returnType = none) (hlk : meth.locks = false) (hI1 : isI G g1 j1 n1 q1) : ∀ (n : Nat) {x2 : Int32} {M : Mem} (h : L_J7_fill_53178_5 g1 j1 n1 x1 x3 n x2 M = some Mf), V p l e (rmk 0) s m args below meth c 4 G 0 0 (MQ below (gQ G none Mf) args s 0 0 (gA G)) 5 [(0, .ref (adr G g1 j1)), (1, .int x1), (2, .int x2), (3, .int x3)] [] M := by
  intro n
  induction n with
  | zero => intro x2 M h; cases h
  | succ n ih =>
    intro x2 M h
    have hk5 : ∀ (x2 : Int32) (M : Mem), L_J7_fill_53178_5 g1 j1 n1 x1 x3 n x2 M = some Mf → V p l e (rmk 0) s m args below meth c 4 G 0 0 (MQ below (gQ G none Mf) args s 0 0 (gA G)) 5 [(0, .ref (adr G g1 j1)), (1, .int x1), (2, .int x2), (3, .int x3)] [] M := fun _ _ z => ih z
    refine V_iload_n hC dJ7_fill_53178_5 rfl 2 rfl ?_
    refine V_iload_n hC dJ7_fill_53178_6 rfl 3 rfl ?_
    refine V_icmp_ge hC 20 dJ7_fill_53178_7 (by decide) (fun c1 => ?_) (fun c1 => ?_)
    · have h := ite_t c1 h
      obtain rfl := Option.some.inj h
      exact V_vret hC hr hlk dJ7_fill_53178_20
    · have h := ite_f c1 h
      refine V_aload_n hC dJ7_fill_53178_10 rfl 0 rfl ?_
      refine V_iload_n hC dJ7_fill_53178_11 rfl 2 rfl ?_
      refine V_iload_n hC dJ7_fill_53178_12 rfl 1 rfl ?_
      obtain ⟨c2, h⟩ := ite_some h
      refine V_iast hC hI1 c2 dJ7_fill_53178_13 ?_
      refine V_iinc hC (x2 + 1) ([(2, .int (x2 + 1)), (0, .ref (adr G g1 j1)), (1, .int x1), (3, .int x3)]) dJ7_fill_53178_14 2 rfl rfl (by decide) rfl ?_
      refine V_goto hC 5 dJ7_fill_53178_17 (by decide) ?_
      refine V_sub [1, 2, 0, 3] rfl ?_
      exact hk5 _ _ h
theorem c_J7_fill_53178 {l : Launch} {G : Geo} {g1 j1 n1 q1 : Nat} {x1 : Int32} {Mf : Mem} {M : Mem} (hG : gD G) (hI1 : isI G g1 j1 n1 q1) (h : f_J7_fill_53178 g1 j1 n1 x1 M = some Mf) : Met l yJ7_fill_53178 (.code yJ7_fill_53178 cJ7_fill_53178 4 none :: GL) (rmk 0) (gP G [.ref (adr G g1 j1), .int x1] M) (gQ G none Mf) 0 0 (gA G) := by
  refine Met_of (own := RJ7) (L := [(0, .ref (adr G g1 j1)), (1, .int x1)]) hG (by decide +kernel) rfl (Nat.le_of_ble_eq_true rfl) rfl ?_
  intro p e s m args below meth c hC hr hlk
  refine V_iconst hC (0 : Int32) dJ7_fill_53178_0 (by decide) ?_
  refine V_istore_n hC ([(2, .int (0 : Int32)), (0, .ref (adr G g1 j1)), (1, .int x1)]) dJ7_fill_53178_1 rfl (by decide) rfl ?_
  refine V_aload_n hC dJ7_fill_53178_2 rfl 1 rfl ?_
  refine V_alen hC hI1 dJ7_fill_53178_3 ?_
  refine V_istore_n hC ([(3, .int (Int32.ofNat n1)), (2, .int (0 : Int32)), (0, .ref (adr G g1 j1)), (1, .int x1)]) dJ7_fill_53178_4 rfl (by decide) rfl ?_
  refine V_sub [2, 3, 1, 0] rfl ?_
  exact l_J7_fill_53178_5 hC hr hlk hI1 FU h
theorem b_X7_findOverlaps_79 {g : Nat} {Mf : Mem} {k18 : Int32 → Mem → Option Mem} {x1 : Int32} {M : Mem} (hC : Cx p s m args c cX7_findOverlaps RX7 4 G) (hr : meth.sig.returnType = none) (hlk : meth.locks = false) (hg : g < 6) (hk18 : ∀ (x1 : Int32) (M : Mem), k18 x1 M = some Mf → V p l e (rmk 1) s m args below meth c 4 G 0 0 (MQ below (gQ G none Mf) args s 0 0 (gA G)) 18 [(0, .ref (adr G g 1)), (1, .int x1)] [] M) (h : B_X7_findOverlaps_79 g k18 x1 M = some Mf) : V p l e (rmk 1) s m args below meth c 4 G 0 0 (MQ below (gQ G none Mf) args s 0 0 (gA G)) 79 [(0, .ref (adr G g 1)), (1, .int x1)] [] M := by
  refine V_iinc hC (x1 + 1) ([(1, .int (x1 + 1)), (0, .ref (adr G g 1))]) dX7_findOverlaps_79 1 rfl rfl (by decide) rfl ?_
  refine V_goto hC 18 dX7_findOverlaps_82 (by decide) ?_
  refine V_sub [1, 0] rfl ?_
  exact hk18 _ _ h
theorem l_X7_findOverlaps_28 {g : Nat} {k18 : Int32 → Mem → Option Mem} {Mf : Mem} {x1 : Int32} (hC : Cx p s m args c cX7_findOverlaps RX7 4 G) (hr : meth.sig.returnType = none) (hlk : meth.locks = false) (hg : g < 6) (hk18 : ∀ (x1 : Int32) (M : Mem), k18 x1 M = some Mf → V p l e (rmk 1) s m args below meth c 4 G 0 0 (MQ below (gQ G none Mf) args s 0 0 (gA G)) 18 [(0, .ref (adr G g 1)), (1, .int x1)] [] M) : ∀ (n : Nat) {x2 : Int32} {x3 : Int32} {M : Mem} (h : L_X7_findOverlaps_28 g k18 x1 n x2 x3 M = some Mf), V p l e (rmk 1) s m args below meth c 4 G 0 0 (MQ below (gQ G none Mf) args s 0 0 (gA G)) 28 [(0, .ref (adr G g 1)), (1, .int x1), (2, .int x2), (3, .int x3)] [] M := by
  intro n
  induction n with
  | zero => intro x2 x3 M h; cases h
  | succ n ih =>
    intro x2 x3 M h
    have hk28 : ∀ (x2 : Int32) (x3 : Int32) (M : Mem), L_X7_findOverlaps_28 g k18 x1 n x2 x3 M = some Mf → V p l e (rmk 1) s m args below meth c 4 G 0 0 (MQ below (gQ G none Mf) args s 0 0 (gA G)) 28 [(0, .ref (adr G g 1)), (1, .int x1), (2, .int x2), (3, .int x3)] [] M := fun _ _ _ z => ih z
    refine V_iload_n hC dX7_findOverlaps_28 rfl 3 rfl ?_
    refine V_bipush hC (20 : Int32) dX7_findOverlaps_29 (by decide) ?_
    refine V_icmp_ge hC 79 dX7_findOverlaps_31 (by decide) (fun c4 => ?_) (fun c4 => ?_)
    · have h := ite_t c4 h
      refine V_sub [0, 1] rfl ?_
      exact b_X7_findOverlaps_79 hC hr hlk hg hk18 h
    · have h := ite_f c4 h
      refine V_aload_n hC dX7_findOverlaps_34 rfl 0 rfl ?_
      refine V_iload_n hC dX7_findOverlaps_35 rfl 2 rfl ?_
      obtain ⟨q5, e5, h⟩ := bind_some h
      refine V_cVr hC [.int x2] (c_X7_has (l := l) hC.2.2.2.2.2.2.2 hg e5) kd_X7_has kv_X7_has gw_461 (r_d1_0 hg).o rfl ⟨Nat.le_of_ble_eq_true rfl, Nat.le_of_ble_eq_true rfl⟩ rfl (Nat.le_of_ble_eq_true rfl) dX7_findOverlaps_36 ⟨Nat.zero_le _, Nat.zero_le _⟩ rfl ?_
      refine V_if_eq hC 79 dX7_findOverlaps_39 (by decide) (fun c6 => ?_) (fun c6 => ?_)
      · have h := ite_t c6 h
        refine V_sub [0, 1] rfl ?_
        exact b_X7_findOverlaps_79 hC hr hlk hg hk18 h
      · have h := ite_f c6 h
        refine V_aload_n hC dX7_findOverlaps_42 rfl 0 rfl ?_
        refine V_getR hC (r_d1_4 hg) fw_X7_24 dX7_findOverlaps_43 ?_
        refine V_iload_n hC dX7_findOverlaps_46 rfl 2 rfl ?_
        refine V_dup2 hC dX7_findOverlaps_47 rfl rfl ?_
        obtain ⟨c7, h⟩ := ite_some h
        refine V_iald hC (a_d6 hg) c7 dX7_findOverlaps_48 ?_
        refine V_iconst hC (1 : Int32) dX7_findOverlaps_49 (by decide) ?_
        refine V_iload_n hC dX7_findOverlaps_50 rfl 1 rfl ?_
        refine V_ishl hC dX7_findOverlaps_51 ?_
        refine V_ior hC dX7_findOverlaps_52 ?_
        obtain ⟨c8, h⟩ := ite_some h
        refine V_iast hC (a_d6 hg) c8 dX7_findOverlaps_53 ?_
        refine V_aload_n hC dX7_findOverlaps_54 rfl 0 rfl ?_
        refine V_getR hC (r_d1_5 hg) fw_X7_27 dX7_findOverlaps_55 ?_
        refine V_iload_n hC dX7_findOverlaps_58 rfl 1 rfl ?_
        refine V_dup2 hC dX7_findOverlaps_59 rfl rfl ?_
        obtain ⟨c9, h⟩ := ite_some h
        refine V_iald hC (a_d7 hg) c9 dX7_findOverlaps_60 ?_
        refine V_iconst hC (1 : Int32) dX7_findOverlaps_61 (by decide) ?_
        refine V_iload_n hC dX7_findOverlaps_62 rfl 2 rfl ?_
        refine V_ishl hC dX7_findOverlaps_63 ?_
        refine V_ior hC dX7_findOverlaps_64 ?_
        obtain ⟨c10, h⟩ := ite_some h
        refine V_iast hC (a_d7 hg) c10 dX7_findOverlaps_65 ?_
        refine V_aload_n hC dX7_findOverlaps_66 rfl 0 rfl ?_
        refine V_getR hC (r_d1_0 hg) fw_X7_9 dX7_findOverlaps_67 ?_
        refine V_iload_n hC dX7_findOverlaps_70 rfl 2 rfl ?_
        obtain ⟨c11, h⟩ := ite_some h
        refine V_iald hC (a_d2 hg) c11 dX7_findOverlaps_71 ?_
        refine V_istore_n hC ([(2, .int ((wr (wr M g 6 (cl x2) ((M.1 g 6 (cl x2)) ||| ((1 : Int32) <<< (x1 &&& 31)))) g 7 (cl x1) (((wr M g 6 (cl x2) ((M.1 g 6 (cl x2)) ||| ((1 : Int32) <<< (x1 &&& 31)))).1 g 7 (cl x1)) ||| ((1 : Int32) <<< (x2 &&& 31)))).1 g 2 (cl x2))), (0, .ref (adr G g 1)), (1, .int x1), (3, .int x3)]) dX7_findOverlaps_72 rfl (by decide) rfl ?_
        refine V_iinc hC (x3 + 1) ([(3, .int (x3 + 1)), (2, .int ((wr (wr M g 6 (cl x2) ((M.1 g 6 (cl x2)) ||| ((1 : Int32) <<< (x1 &&& 31)))) g 7 (cl x1) (((wr M g 6 (cl x2) ((M.1 g 6 (cl x2)) ||| ((1 : Int32) <<< (x1 &&& 31)))).1 g 7 (cl x1)) ||| ((1 : Int32) <<< (x2 &&& 31)))).1 g 2 (cl x2))), (0, .ref (adr G g 1)), (1, .int x1)]) dX7_findOverlaps_73 3 rfl rfl (by decide) rfl ?_
        refine V_goto hC 28 dX7_findOverlaps_76 (by decide) ?_
        refine V_sub [2, 3, 1, 0] rfl ?_
        exact hk28 _ _ _ h
theorem l_X7_findOverlaps_18 {g : Nat} {Mf : Mem} (hC : Cx p s m args c cX7_findOverlaps RX7 4 G) (hr : meth.sig.returnType = none) (hlk : meth.locks = false) (hg : g < 6) : ∀ (n : Nat) {x1 : Int32} {M : Mem} (h : L_X7_findOverlaps_18 g n x1 M = some Mf), V p l e (rmk 1) s m args below meth c 4 G 0 0 (MQ below (gQ G none Mf) args s 0 0 (gA G)) 18 [(0, .ref (adr G g 1)), (1, .int x1)] [] M := by
  intro n
  induction n with
  | zero => intro x1 M h; cases h
  | succ n ih =>
    intro x1 M h
    have hk18 : ∀ (x1 : Int32) (M : Mem), L_X7_findOverlaps_18 g n x1 M = some Mf → V p l e (rmk 1) s m args below meth c 4 G 0 0 (MQ below (gQ G none Mf) args s 0 0 (gA G)) 18 [(0, .ref (adr G g 1)), (1, .int x1)] [] M := fun _ _ z => ih z
    refine V_iload_n hC dX7_findOverlaps_18 rfl 1 rfl ?_
    refine V_bipush hC (20 : Int32) dX7_findOverlaps_19 (by decide) ?_
    refine V_icmp_ge hC 85 dX7_findOverlaps_21 (by decide) (fun c3 => ?_) (fun c3 => ?_)
    · have h := ite_t c3 h
      obtain rfl := Option.some.inj h
      exact V_vret hC hr hlk dX7_findOverlaps_85
    · have h := ite_f c3 h
      refine V_iload_n hC dX7_findOverlaps_24 rfl 1 rfl ?_
      refine V_istore_n hC ([(2, .int x1), (0, .ref (adr G g 1)), (1, .int x1)]) dX7_findOverlaps_25 rfl (by decide) rfl ?_
      refine V_iconst hC (0 : Int32) dX7_findOverlaps_26 (by decide) ?_
      refine V_istore_n hC ([(3, .int (0 : Int32)), (2, .int x1), (0, .ref (adr G g 1)), (1, .int x1)]) dX7_findOverlaps_27 rfl (by decide) rfl ?_
      refine V_sub [2, 3, 1, 0] rfl ?_
      exact l_X7_findOverlaps_28 hC hr hlk hg hk18 FU h
theorem c_X7_findOverlaps {l : Launch} {G : Geo} {g : Nat} {Mf : Mem} {M : Mem} (hG : gD G) (hg : g < 6) (h : f_X7_findOverlaps g M = some Mf) : Met l yX7_findOverlaps (.code yX7_findOverlaps cX7_findOverlaps 4 none :: GL) (rmk 1) (gP G [.ref (adr G g 1)] M) (gQ G none Mf) 0 0 (gA G) := by
  refine Met_of (own := RX7) (L := [(0, .ref (adr G g 1))]) hG (by decide +kernel) rfl (Nat.le_of_ble_eq_true rfl) rfl ?_
  intro p e s m args below meth c hC hr hlk
  refine V_aload_n hC dX7_findOverlaps_0 rfl 0 rfl ?_
  refine V_getR hC (r_d1_4 hg) fw_X7_24 dX7_findOverlaps_1 ?_
  refine V_iconst hC (0 : Int32) dX7_findOverlaps_4 (by decide) ?_
  obtain ⟨q1, e1, h⟩ := bind_some h
  refine V_cSv hC [.ref (adr G g 6), .int (0 : Int32)] (c_J7_fill_53178 (l := l) hC.2.2.2.2.2.2.2 (a_d6 hg) e1) kd_J7_fill_53178 gw_41 gw_40 ⟨Nat.le_of_ble_eq_true rfl, Nat.le_of_ble_eq_true rfl⟩ rfl (Nat.le_of_ble_eq_true rfl) dX7_findOverlaps_5 ⟨Nat.zero_le _, Nat.zero_le _⟩ rfl ?_
  refine V_aload_n hC dX7_findOverlaps_8 rfl 0 rfl ?_
  refine V_getR hC (r_d1_5 hg) fw_X7_27 dX7_findOverlaps_9 ?_
  refine V_iconst hC (0 : Int32) dX7_findOverlaps_12 (by decide) ?_
  obtain ⟨q2, e2, h⟩ := bind_some h
  refine V_cSv hC [.ref (adr G g 7), .int (0 : Int32)] (c_J7_fill_53178 (l := l) hC.2.2.2.2.2.2.2 (a_d7 hg) e2) kd_J7_fill_53178 gw_41 gw_40 ⟨Nat.le_of_ble_eq_true rfl, Nat.le_of_ble_eq_true rfl⟩ rfl (Nat.le_of_ble_eq_true rfl) dX7_findOverlaps_13 ⟨Nat.zero_le _, Nat.zero_le _⟩ rfl ?_
  refine V_iconst hC (0 : Int32) dX7_findOverlaps_16 (by decide) ?_
  refine V_istore_n hC ([(1, .int (0 : Int32)), (0, .ref (adr G g 1))]) dX7_findOverlaps_17 rfl (by decide) rfl ?_
  refine V_sub [1, 0] rfl ?_
  exact l_X7_findOverlaps_18 hC hr hlk hg FU h
theorem b_X7_remove_85 {g : Nat} {Mf : Mem} {x2 : Int32} {M : Mem} (hC : Cx p s m args c cX7_remove RX7 6 G) (hr : meth.sig.returnType = none) (hlk : meth.locks = false) (hg : g < 6) (h : B_X7_remove_85 g x2 M = some Mf) : V p l e (rmk 2) s m args below meth c 6 G 0 0 (MQ below (gQ G none Mf) args s 0 0 (gA G)) 85 [(0, .ref (adr G g 1)), (2, .int x2)] [] M := by
  refine V_aload_n hC dX7_remove_85 rfl 0 rfl ?_
  refine V_iload_n hC dX7_remove_86 rfl 1 rfl ?_
  refine V_putI hC (f_d1_6 hg) fw_X7_36 flp_7_6 dX7_remove_87 ?_
  refine V_aload_n hC dX7_remove_90 rfl 0 rfl ?_
  obtain ⟨q2, e2, h⟩ := bind_some h
  refine V_cVv hC [] (c_X7_findOverlaps (l := l) hC.2.2.2.2.2.2.2 hg e2) kd_X7_findOverlaps kv_X7_findOverlaps gw_457 (r_d1_0 hg).o rfl ⟨Nat.le_of_ble_eq_true rfl, Nat.le_of_ble_eq_true rfl⟩ rfl (Nat.le_of_ble_eq_true rfl) dX7_remove_91 ⟨Nat.zero_le _, Nat.zero_le _⟩ rfl ?_
  obtain rfl := Option.some.inj h
  exact V_vret hC hr hlk dX7_remove_94
theorem b_X7_remove_79 {g : Nat} {Mf : Mem} {k10 : Int32 → Int32 → Mem → Option Mem} {x1 : Int32} {x2 : Int32} {x3 : Int32} {x4 : Int32} {M : Mem} (hC : Cx p s m args c cX7_remove RX7 6 G) (hr : meth.sig.returnType = none) (hlk : meth.locks = false) (hg : g < 6) (hk10 : ∀ (x2 : Int32) (x4 : Int32) (M : Mem), k10 x2 x4 M = some Mf → V p l e (rmk 2) s m args below meth c 6 G 0 0 (MQ below (gQ G none Mf) args s 0 0 (gA G)) 10 [(0, .ref (adr G g 1)), (1, .int x1), (2, .int x2), (3, .int x3), (4, .int x4)] [] M) (h : B_X7_remove_79 g k10 x1 x2 x3 x4 M = some Mf) : V p l e (rmk 2) s m args below meth c 6 G 0 0 (MQ below (gQ G none Mf) args s 0 0 (gA G)) 79 [(0, .ref (adr G g 1)), (1, .int x1), (2, .int x2), (3, .int x3), (4, .int x4)] [] M := by
  refine V_iinc hC (x4 + 1) ([(4, .int (x4 + 1)), (0, .ref (adr G g 1)), (1, .int x1), (2, .int x2), (3, .int x3)]) dX7_remove_79 4 rfl rfl (by decide) rfl ?_
  refine V_goto hC 10 dX7_remove_82 (by decide) ?_
  refine V_sub [1, 2, 3, 4, 0] rfl ?_
  exact hk10 _ _ _ h
theorem l_X7_remove_10 {g : Nat} {Mf : Mem} {x1 : Int32} {x3 : Int32} (hC : Cx p s m args c cX7_remove RX7 6 G) (hr : meth.sig.returnType = none) (hlk : meth.locks = false) (hg : g < 6) : ∀ (n : Nat) {x2 : Int32} {x4 : Int32} {M : Mem} (h : L_X7_remove_10 g x1 x3 n x2 x4 M = some Mf), V p l e (rmk 2) s m args below meth c 6 G 0 0 (MQ below (gQ G none Mf) args s 0 0 (gA G)) 10 [(0, .ref (adr G g 1)), (1, .int x1), (2, .int x2), (3, .int x3), (4, .int x4)] [] M := by
  intro n
  induction n with
  | zero => intro x2 x4 M h; cases h
  | succ n ih =>
    intro x2 x4 M h
    have hk10 : ∀ (x2 : Int32) (x4 : Int32) (M : Mem), L_X7_remove_10 g x1 x3 n x2 x4 M = some Mf → V p l e (rmk 2) s m args below meth c 6 G 0 0 (MQ below (gQ G none Mf) args s 0 0 (gA G)) 10 [(0, .ref (adr G g 1)), (1, .int x1), (2, .int x2), (3, .int x3), (4, .int x4)] [] M := fun _ _ _ z => ih z
    refine V_iload hC dX7_remove_10 4 rfl ?_
    refine V_iload_n hC dX7_remove_12 rfl 3 rfl ?_
    refine V_icmp_ge hC 85 dX7_remove_13 (by decide) (fun c1 => ?_) (fun c1 => ?_)
    · have h := ite_t c1 h
      refine V_sub [0, 2] rfl ?_
      exact b_X7_remove_85 hC hr hlk hg h
    · have h := ite_f c1 h
      refine V_iload hC dX7_remove_16 4 rfl ?_
      refine V_bipush hC (20 : Int32) dX7_remove_18 (by decide) ?_
      refine V_icmp_ge hC 85 dX7_remove_20 (by decide) (fun c3 => ?_) (fun c3 => ?_)
      · have h := ite_t c3 h
        refine V_sub [0, 2] rfl ?_
        exact b_X7_remove_85 hC hr hlk hg h
      · have h := ite_f c3 h
        refine V_iload_n hC dX7_remove_23 rfl 2 rfl ?_
        refine V_bipush hC (20 : Int32) dX7_remove_24 (by decide) ?_
        refine V_icmp_ge hC 85 dX7_remove_26 (by decide) (fun c4 => ?_) (fun c4 => ?_)
        · have h := ite_t c4 h
          refine V_sub [0, 2] rfl ?_
          exact b_X7_remove_85 hC hr hlk hg h
        · have h := ite_f c4 h
          refine V_aload_n hC dX7_remove_29 rfl 0 rfl ?_
          refine V_getR hC (r_d1_1 hg) fw_X7_15 dX7_remove_30 ?_
          refine V_iload hC dX7_remove_33 4 rfl ?_
          obtain ⟨c5, h⟩ := ite_some h
          refine V_iald hC (a_d3 hg) c5 dX7_remove_35 ?_
          refine V_istore hC ([(5, .int (M.1 g 3 (cl x4))), (0, .ref (adr G g 1)), (1, .int x1), (2, .int x2), (3, .int x3), (4, .int x4)]) dX7_remove_36 (by decide) rfl ?_
          refine V_iload_n hC dX7_remove_38 rfl 2 rfl ?_
          refine V_iload hC dX7_remove_39 0 rfl ?_
          refine V_cSNr hC [.int x1, .int (M.1 g 3 (cl x4))] (c_X8_hasBit (l := l) hC.2.2.2.2.2.2.2 rfl) kd_X8_hasBit gw_505 nw_32 ⟨Nat.le_of_ble_eq_true rfl, Nat.le_of_ble_eq_true rfl⟩ rfl (Nat.le_of_ble_eq_true rfl) dX7_remove_41 ⟨Nat.zero_le _, Nat.zero_le _⟩ rfl ?_
          refine V_if_ne hC 61 dX7_remove_44 (by decide) (fun c7 => ?_) (fun c7 => ?_)
          · have h := ite_f c7 h
            refine V_aload_n hC dX7_remove_61 rfl 1 rfl ?_
            refine V_iload hC dX7_remove_62 0 rfl ?_
            obtain ⟨q8, e8, h⟩ := bind_some h
            refine V_cVr hC [.int (M.1 g 3 (cl x4))] (c_X7_has (l := l) hC.2.2.2.2.2.2.2 hg e8) kd_X7_has kv_X7_has gw_461 (r_d1_0 hg).o rfl ⟨Nat.le_of_ble_eq_true rfl, Nat.le_of_ble_eq_true rfl⟩ rfl (Nat.le_of_ble_eq_true rfl) dX7_remove_64 ⟨Nat.zero_le _, Nat.zero_le _⟩ rfl ?_
            refine V_if_eq hC 79 dX7_remove_67 (by decide) (fun c9 => ?_) (fun c9 => ?_)
            · have h := ite_t c9 h
              refine V_sub [1, 2, 3, 4, 5] rfl ?_
              exact b_X7_remove_79 hC hr hlk hg hk10 h
            · have h := ite_f c9 h
              refine V_aload_n hC dX7_remove_70 rfl 1 rfl ?_
              refine V_getR hC (r_d1_0 hg) fw_X7_9 dX7_remove_71 ?_
              refine V_iload hC dX7_remove_74 0 rfl ?_
              refine V_bipush hC ((-2) : Int32) dX7_remove_76 (by decide) ?_
              obtain ⟨c10, h⟩ := ite_some h
              refine V_iast hC (a_d2 hg) c10 dX7_remove_78 ?_
              refine V_sub [1, 2, 3, 4, 5] rfl ?_
              exact b_X7_remove_79 hC hr hlk hg hk10 h
          · have h := ite_t c7 h
            refine V_aload_n hC dX7_remove_47 rfl 1 rfl ?_
            refine V_getR hC (r_d1_1 hg) fw_X7_15 dX7_remove_48 ?_
            refine V_iload_n hC dX7_remove_51 rfl 3 rfl ?_
            refine V_iload hC dX7_remove_52 0 rfl ?_
            obtain ⟨c11, h⟩ := ite_some h
            refine V_iast hC (a_d3 hg) c11 dX7_remove_54 ?_
            refine V_iinc hC (x2 + 1) ([(2, .int (x2 + 1)), (5, .int (M.1 g 3 (cl x4))), (0, .ref (adr G g 1)), (1, .int x1), (3, .int x3), (4, .int x4)]) dX7_remove_55 3 rfl rfl (by decide) rfl ?_
            refine V_goto hC 79 dX7_remove_58 (by decide) ?_
            refine V_sub [2, 3, 0, 4, 5] rfl ?_
            exact b_X7_remove_79 hC hr hlk hg hk10 h
theorem c_X7_remove {l : Launch} {G : Geo} {g : Nat} {x1 : Int32} {Mf : Mem} {M : Mem} (hG : gD G) (hg : g < 6) (h : f_X7_remove g x1 M = some Mf) : Met l yX7_remove (.code yX7_remove cX7_remove 6 none :: GL) (rmk 2) (gP G [.ref (adr G g 1), .int x1] M) (gQ G none Mf) 0 0 (gA G) := by
  refine Met_of (own := RX7) (L := [(0, .ref (adr G g 1)), (1, .int x1)]) hG (by decide +kernel) rfl (Nat.le_of_ble_eq_true rfl) rfl ?_
  intro p e s m args below meth c hC hr hlk
  refine V_iconst hC (0 : Int32) dX7_remove_0 (by decide) ?_
  refine V_istore_n hC ([(2, .int (0 : Int32)), (0, .ref (adr G g 1)), (1, .int x1)]) dX7_remove_1 rfl (by decide) rfl ?_
  refine V_aload_n hC dX7_remove_2 rfl 1 rfl ?_
  refine V_getI hC (f_d1_6 hg) fw_X7_36 dX7_remove_3 ?_
  refine V_istore_n hC ([(3, .int (M.1 g 1 6)), (2, .int (0 : Int32)), (0, .ref (adr G g 1)), (1, .int x1)]) dX7_remove_6 rfl (by decide) rfl ?_
  refine V_iconst hC (0 : Int32) dX7_remove_7 (by decide) ?_
  refine V_istore hC ([(4, .int (0 : Int32)), (3, .int (M.1 g 1 6)), (2, .int (0 : Int32)), (0, .ref (adr G g 1)), (1, .int x1)]) dX7_remove_8 (by decide) rfl ?_
  refine V_sub [3, 4, 2, 1, 0] rfl ?_
  exact l_X7_remove_10 hC hr hlk hg FU h
theorem c_X1_removeNow {l : Launch} {G : Geo} {g : Nat} {x1 : Int32} {rv : Int32} {Mf : Mem} {M : Mem} (hG : gD G) (hg : g < 6) (h : f_X1_removeNow g x1 M = some (rv, Mf)) : Met l yX1_removeNow (.code yX1_removeNow cX1_removeNow 3 (some .int) :: GL) (rmk 3) (gP G [.ref (adr G g 0), .int x1] M) (gQ G (some (.int rv)) Mf) 0 0 (gA G) := by
  refine Met_of (own := RX1) (L := [(0, .ref (adr G g 0)), (1, .int x1)]) hG (by decide +kernel) rfl (Nat.le_of_ble_eq_true rfl) rfl ?_
  intro p e s m args below meth c hC hr hlk
  refine V_aload_n hC dX1_removeNow_0 rfl 0 rfl ?_
  refine V_getR hC (r_d0_0 hg) fw_X1_12 dX1_removeNow_1 ?_
  refine V_iload_n hC dX1_removeNow_4 rfl 1 rfl ?_
  obtain ⟨q1, e1, h⟩ := bind_some h
  refine V_cVr hC [.int x1] (c_X7_subtreeOf (l := l) hC.2.2.2.2.2.2.2 hg e1) kd_X7_subtreeOf kv_X7_subtreeOf gw_491 (r_d1_0 hg).o rfl ⟨Nat.le_of_ble_eq_true rfl, Nat.le_of_ble_eq_true rfl⟩ rfl (Nat.le_of_ble_eq_true rfl) dX1_removeNow_5 ⟨Nat.zero_le _, Nat.zero_le _⟩ rfl ?_
  refine V_istore_n hC ([(2, .int q1), (0, .ref (adr G g 0)), (1, .int x1)]) dX1_removeNow_8 rfl (by decide) rfl ?_
  refine V_aload_n hC dX1_removeNow_9 rfl 1 rfl ?_
  refine V_getR hC (r_d0_3 hg) fw_X1_35 dX1_removeNow_10 ?_
  refine V_iload_n hC dX1_removeNow_13 rfl 0 rfl ?_
  obtain ⟨q2, e2, h⟩ := bind_some h
  refine V_cVv hC [.int q1] (c_X2_removeOf (l := l) hC.2.2.2.2.2.2.2 hg e2) kd_X2_removeOf kv_X2_removeOf gw_492 (r_d14_0 hg).o rfl ⟨Nat.le_of_ble_eq_true rfl, Nat.le_of_ble_eq_true rfl⟩ rfl (Nat.le_of_ble_eq_true rfl) dX1_removeNow_14 ⟨Nat.zero_le _, Nat.zero_le _⟩ rfl ?_
  refine V_aload_n hC dX1_removeNow_17 rfl 1 rfl ?_
  refine V_getR hC (r_d0_0 hg) fw_X1_12 dX1_removeNow_18 ?_
  refine V_iload_n hC dX1_removeNow_21 rfl 0 rfl ?_
  obtain ⟨q3, e3, h⟩ := bind_some h
  refine V_cVv hC [.int q1] (c_X7_remove (l := l) hC.2.2.2.2.2.2.2 hg e3) kd_X7_remove kv_X7_remove gw_511 (r_d1_0 hg).o rfl ⟨Nat.le_of_ble_eq_true rfl, Nat.le_of_ble_eq_true rfl⟩ rfl (Nat.le_of_ble_eq_true rfl) dX1_removeNow_22 ⟨Nat.zero_le _, Nat.zero_le _⟩ rfl ?_
  refine V_iload_n hC dX1_removeNow_25 rfl 0 rfl ?_
  refine V_cSr hC [.int q1] (c_J6_bitCount_0f7a4 (l := l) hC.2.2.2.2.2.2.2 rfl) kd_J6_bitCount_0f7a4 gw_517 gw_516 ⟨Nat.le_of_ble_eq_true rfl, Nat.le_of_ble_eq_true rfl⟩ rfl (Nat.le_of_ble_eq_true rfl) dX1_removeNow_26 ⟨Nat.zero_le _, Nat.zero_le _⟩ rfl ?_
  obtain ⟨rfl, rfl⟩ := Prod.mk.inj (Option.some.inj h)
  exact V_iret hC hr hlk dX1_removeNow_29
theorem c_X7_covers {l : Launch} {G : Geo} {g : Nat} {x1 : Int32} {x2 : Int32} {rv : Int32} {M : Mem} (hG : gD G) (hg : g < 6) (h : f_X7_covers g x1 x2 M = some rv) : Met l yX7_covers (.code yX7_covers cX7_covers 3 (some .boolean) :: GL) (rmk 1) (gP G [.ref (adr G g 1), .int x1, .int x2] M) (gQ G (some (.int rv)) M) 0 0 (gA G) := by
  refine Met_of (own := RX7) (L := [(0, .ref (adr G g 1)), (1, .int x1), (2, .int x2)]) hG (by decide +kernel) rfl (Nat.le_of_ble_eq_true rfl) rfl ?_
  intro p e s m args below meth c hC hr hlk
  refine V_iload_n hC dX7_covers_0 rfl 2 rfl ?_
  refine V_iconst hC (0 : Int32) dX7_covers_1 (by decide) ?_
  refine V_bipush hC (19 : Int32) dX7_covers_2 (by decide) ?_
  refine V_cSNr hC [.int x2, .int (0 : Int32), .int (19 : Int32)] (c_X8_isWithin (l := l) hC.2.2.2.2.2.2.2 rfl) kd_X8_isWithin gw_444 nw_28 ⟨Nat.le_of_ble_eq_true rfl, Nat.le_of_ble_eq_true rfl⟩ rfl (Nat.le_of_ble_eq_true rfl) dX7_covers_4 ⟨Nat.zero_le _, Nat.zero_le _⟩ rfl ?_
  refine V_if_eq hC 26 dX7_covers_7 (by decide) (fun c2 => ?_) (fun c2 => ?_)
  · have h := ite_t c2 h
    refine V_iconst hC (0 : Int32) dX7_covers_26 (by decide) ?_
    obtain rfl := Option.some.inj h
    exact V_zret hC hr hlk (Or.inl rfl) dX7_covers_27
  · have h := ite_f c2 h
    refine V_aload_n hC dX7_covers_10 rfl 0 rfl ?_
    refine V_iload_n hC dX7_covers_11 rfl 1 rfl ?_
    obtain ⟨q3, e3, h⟩ := bind_some h
    refine V_cVr hC [.int x1] (c_X7_subtreeOf (l := l) hC.2.2.2.2.2.2.2 hg e3) kd_X7_subtreeOf kv_X7_subtreeOf gw_482 (r_d1_0 hg).o rfl ⟨Nat.le_of_ble_eq_true rfl, Nat.le_of_ble_eq_true rfl⟩ rfl (Nat.le_of_ble_eq_true rfl) dX7_covers_12 ⟨Nat.zero_le _, Nat.zero_le _⟩ rfl ?_
    refine V_iload_n hC dX7_covers_15 rfl 2 rfl ?_
    refine V_cSNr hC [.int q3, .int x2] (c_X8_hasBit (l := l) hC.2.2.2.2.2.2.2 rfl) kd_X8_hasBit gw_505 nw_32 ⟨Nat.le_of_ble_eq_true rfl, Nat.le_of_ble_eq_true rfl⟩ rfl (Nat.le_of_ble_eq_true rfl) dX7_covers_16 ⟨Nat.zero_le _, Nat.zero_le _⟩ rfl ?_
    refine V_if_eq hC 26 dX7_covers_19 (by decide) (fun c5 => ?_) (fun c5 => ?_)
    · have h := ite_t c5 h
      refine V_iconst hC (0 : Int32) dX7_covers_26 (by decide) ?_
      obtain rfl := Option.some.inj h
      exact V_zret hC hr hlk (Or.inl rfl) dX7_covers_27
    · have h := ite_f c5 h
      refine V_iconst hC (1 : Int32) dX7_covers_22 (by decide) ?_
      refine V_goto hC 27 dX7_covers_23 (by decide) ?_
      obtain rfl := Option.some.inj h
      exact V_zret hC hr hlk (Or.inr rfl) dX7_covers_27
theorem b_X1_moveFault_75 {g : Nat} {rv : Int32} {z0 : Int32} {z1 : Int32} {z2 : Int32} {M : Mem} (hC : Cx p s m args c cX1_moveFault RX1 5 G) (hr : meth.sig.returnType = some .int) (hlk : meth.locks = false) (hg : g < 6) (h : B_X1_moveFault_75 g z0 z1 z2 M = some rv) : V p l e (rmk 5) s m args below meth c 5 G 0 0 (MQ below (gQ G (some (.int rv)) M) args s 0 0 (gA G)) 75 [] [.int z0, .int z1, .int z2] M := by
  refine V_cSNr hC [.int z2, .int z1, .int z0] (c_X8_faultOf (l := l) hC.2.2.2.2.2.2.2 rfl) kd_X8_faultOf gw_289 nw_22 ⟨Nat.le_of_ble_eq_true rfl, Nat.le_of_ble_eq_true rfl⟩ rfl (Nat.le_of_ble_eq_true rfl) dX1_moveFault_75 ⟨Nat.zero_le _, Nat.zero_le _⟩ rfl ?_
  obtain rfl := Option.some.inj h
  exact V_iret hC hr hlk dX1_moveFault_78
theorem b_X1_moveFault_74 {g : Nat} {rv : Int32} {z0 : Int32} {z1 : Int32} {M : Mem} (hC : Cx p s m args c cX1_moveFault RX1 5 G) (hr : meth.sig.returnType = some .int) (hlk : meth.locks = false) (hg : g < 6) (h : B_X1_moveFault_74 g z0 z1 M = some rv) : V p l e (rmk 5) s m args below meth c 5 G 0 0 (MQ below (gQ G (some (.int rv)) M) args s 0 0 (gA G)) 74 [] [.int z0, .int z1] M := by
  refine V_iconst hC (0 : Int32) dX1_moveFault_74 (by decide) ?_
  exact b_X1_moveFault_75 hC hr hlk hg h
theorem b_X1_moveFault_49 {g : Nat} {rv : Int32} {x1 : Int32} {x2 : Int32} {x3 : Int32} {z0 : Int32} {M : Mem} (hC : Cx p s m args c cX1_moveFault RX1 5 G) (hr : meth.sig.returnType = some .int) (hlk : meth.locks = false) (hg : g < 6) (h : B_X1_moveFault_49 g x1 x2 x3 z0 M = some rv) : V p l e (rmk 5) s m args below meth c 5 G 0 0 (MQ below (gQ G (some (.int rv)) M) args s 0 0 (gA G)) 49 [(0, .ref (adr G g 0)), (1, .int x1), (2, .int x2), (3, .int x3)] [.int z0] M := by
  refine V_istore hC ([(4, .int z0), (0, .ref (adr G g 0)), (1, .int x1), (2, .int x2), (3, .int x3)]) dX1_moveFault_49 (by decide) rfl ?_
  refine V_iload_n hC dX1_moveFault_51 rfl 4 rfl ?_
  refine V_iload hC dX1_moveFault_52 0 rfl ?_
  refine V_aload_n hC dX1_moveFault_54 rfl 1 rfl ?_
  refine V_iload_n hC dX1_moveFault_55 rfl 2 rfl ?_
  obtain ⟨q4, e4, h⟩ := bind_some h
  refine V_cVr hC [.int x1] (c_X1_isTouched (l := l) hC.2.2.2.2.2.2.2 hg e4) kd_X1_isTouched kv_X1_isTouched gw_474 (r_d0_0 hg).o rfl ⟨Nat.le_of_ble_eq_true rfl, Nat.le_of_ble_eq_true rfl⟩ rfl (Nat.le_of_ble_eq_true rfl) dX1_moveFault_56 ⟨Nat.zero_le _, Nat.zero_le _⟩ rfl ?_
  refine V_if_ne hC 74 dX1_moveFault_59 (by decide) (fun c5 => ?_) (fun c5 => ?_)
  · have h := ite_f c5 h
    refine V_sub [] rfl ?_
    exact b_X1_moveFault_74 hC hr hlk hg h
  · have h := ite_t c5 h
    refine V_aload_n hC dX1_moveFault_62 rfl 1 rfl ?_
    refine V_iload_n hC dX1_moveFault_63 rfl 3 rfl ?_
    obtain ⟨q7, e7, h⟩ := bind_some h
    refine V_cVr hC [.int x2] (c_X1_isCovered (l := l) hC.2.2.2.2.2.2.2 hg e7) kd_X1_isCovered kv_X1_isCovered gw_252 (r_d0_0 hg).o rfl ⟨Nat.le_of_ble_eq_true rfl, Nat.le_of_ble_eq_true rfl⟩ rfl (Nat.le_of_ble_eq_true rfl) dX1_moveFault_64 ⟨Nat.zero_le _, Nat.zero_le _⟩ rfl ?_
    refine V_if_ne hC 74 dX1_moveFault_67 (by decide) (fun c8 => ?_) (fun c8 => ?_)
    · have h := ite_f c8 h
      refine V_sub [] rfl ?_
      exact b_X1_moveFault_74 hC hr hlk hg h
    · have h := ite_t c8 h
      refine V_iconst hC (1 : Int32) dX1_moveFault_70 (by decide) ?_
      refine V_goto hC 75 dX1_moveFault_71 (by decide) ?_
      refine V_sub [] rfl ?_
      exact b_X1_moveFault_75 hC hr hlk hg h
theorem b_X1_moveFault_48 {g : Nat} {rv : Int32} {x1 : Int32} {x2 : Int32} {x3 : Int32} {M : Mem} (hC : Cx p s m args c cX1_moveFault RX1 5 G) (hr : meth.sig.returnType = some .int) (hlk : meth.locks = false) (hg : g < 6) (h : B_X1_moveFault_48 g x1 x2 x3 M = some rv) : V p l e (rmk 5) s m args below meth c 5 G 0 0 (MQ below (gQ G (some (.int rv)) M) args s 0 0 (gA G)) 48 [(0, .ref (adr G g 0)), (1, .int x1), (2, .int x2), (3, .int x3)] [] M := by
  refine V_iconst hC (0 : Int32) dX1_moveFault_48 (by decide) ?_
  exact b_X1_moveFault_49 hC hr hlk hg h
theorem b_X1_moveFault_27 {g : Nat} {rv : Int32} {x1 : Int32} {x2 : Int32} {z0 : Int32} {M : Mem} (hC : Cx p s m args c cX1_moveFault RX1 5 G) (hr : meth.sig.returnType = some .int) (hlk : meth.locks = false) (hg : g < 6) (h : B_X1_moveFault_27 g x1 x2 z0 M = some rv) : V p l e (rmk 5) s m args below meth c 5 G 0 0 (MQ below (gQ G (some (.int rv)) M) args s 0 0 (gA G)) 27 [(0, .ref (adr G g 0)), (1, .int x1), (2, .int x2)] [.int z0] M := by
  refine V_istore_n hC ([(3, .int z0), (0, .ref (adr G g 0)), (1, .int x1), (2, .int x2)]) dX1_moveFault_27 rfl (by decide) rfl ?_
  refine V_iload_n hC dX1_moveFault_28 rfl 2 rfl ?_
  refine V_if_eq hC 48 dX1_moveFault_29 (by decide) (fun c3 => ?_) (fun c3 => ?_)
  · have h := ite_t c3 h
    refine V_sub [1, 2, 3, 0] rfl ?_
    exact b_X1_moveFault_48 hC hr hlk hg h
  · have h := ite_f c3 h
    refine V_aload_n hC dX1_moveFault_32 rfl 1 rfl ?_
    refine V_getR hC (r_d0_0 hg) fw_X1_12 dX1_moveFault_33 ?_
    refine V_iload_n hC dX1_moveFault_36 rfl 2 rfl ?_
    refine V_iload_n hC dX1_moveFault_37 rfl 3 rfl ?_
    obtain ⟨q9, e9, h⟩ := bind_some h
    refine V_cVr hC [.int x1, .int x2] (c_X7_covers (l := l) hC.2.2.2.2.2.2.2 hg e9) kd_X7_covers kv_X7_covers gw_533 (r_d1_0 hg).o rfl ⟨Nat.le_of_ble_eq_true rfl, Nat.le_of_ble_eq_true rfl⟩ rfl (Nat.le_of_ble_eq_true rfl) dX1_moveFault_38 ⟨Nat.zero_le _, Nat.zero_le _⟩ rfl ?_
    refine V_if_ne hC 48 dX1_moveFault_41 (by decide) (fun c10 => ?_) (fun c10 => ?_)
    · have h := ite_f c10 h
      refine V_sub [1, 2, 3, 0] rfl ?_
      exact b_X1_moveFault_48 hC hr hlk hg h
    · have h := ite_t c10 h
      refine V_iconst hC (1 : Int32) dX1_moveFault_44 (by decide) ?_
      refine V_goto hC 49 dX1_moveFault_45 (by decide) ?_
      refine V_sub [1, 2, 3, 0] rfl ?_
      exact b_X1_moveFault_49 hC hr hlk hg h
theorem b_X1_moveFault_26 {g : Nat} {rv : Int32} {x1 : Int32} {x2 : Int32} {M : Mem} (hC : Cx p s m args c cX1_moveFault RX1 5 G) (hr : meth.sig.returnType = some .int) (hlk : meth.locks = false) (hg : g < 6) (h : B_X1_moveFault_26 g x1 x2 M = some rv) : V p l e (rmk 5) s m args below meth c 5 G 0 0 (MQ below (gQ G (some (.int rv)) M) args s 0 0 (gA G)) 26 [(0, .ref (adr G g 0)), (1, .int x1), (2, .int x2)] [] M := by
  refine V_iconst hC (0 : Int32) dX1_moveFault_26 (by decide) ?_
  exact b_X1_moveFault_27 hC hr hlk hg h
theorem c_X1_moveFault {l : Launch} {G : Geo} {g : Nat} {x1 : Int32} {x2 : Int32} {rv : Int32} {M : Mem} (hG : gD G) (hg : g < 6) (h : f_X1_moveFault g x1 x2 M = some rv) : Met l yX1_moveFault (.code yX1_moveFault cX1_moveFault 5 (some .int) :: GL) (rmk 5) (gP G [.ref (adr G g 0), .int x1, .int x2] M) (gQ G (some (.int rv)) M) 0 0 (gA G) := by
  refine Met_of (own := RX1) (L := [(0, .ref (adr G g 0)), (1, .int x1), (2, .int x2)]) hG (by decide +kernel) rfl (Nat.le_of_ble_eq_true rfl) rfl ?_
  intro p e s m args below meth c hC hr hlk
  refine V_aload_n hC dX1_moveFault_0 rfl 0 rfl ?_
  refine V_getR hC (r_d0_0 hg) fw_X1_12 dX1_moveFault_1 ?_
  refine V_iload_n hC dX1_moveFault_4 rfl 1 rfl ?_
  obtain ⟨q1, e1, h⟩ := bind_some h
  refine V_cVr hC [.int x1] (c_X7_has (l := l) hC.2.2.2.2.2.2.2 hg e1) kd_X7_has kv_X7_has gw_248 (r_d1_0 hg).o rfl ⟨Nat.le_of_ble_eq_true rfl, Nat.le_of_ble_eq_true rfl⟩ rfl (Nat.le_of_ble_eq_true rfl) dX1_moveFault_5 ⟨Nat.zero_le _, Nat.zero_le _⟩ rfl ?_
  refine V_if_eq hC 26 dX1_moveFault_8 (by decide) (fun c2 => ?_) (fun c2 => ?_)
  · have h := ite_t c2 h
    exact b_X1_moveFault_26 hC hr hlk hg h
  · have h := ite_f c2 h
    refine V_aload_n hC dX1_moveFault_11 rfl 0 rfl ?_
    refine V_getR hC (r_d0_0 hg) fw_X1_12 dX1_moveFault_12 ?_
    refine V_iload_n hC dX1_moveFault_15 rfl 2 rfl ?_
    obtain ⟨q11, e11, h⟩ := bind_some h
    refine V_cVr hC [.int x2] (c_X7_has (l := l) hC.2.2.2.2.2.2.2 hg e11) kd_X7_has kv_X7_has gw_248 (r_d1_0 hg).o rfl ⟨Nat.le_of_ble_eq_true rfl, Nat.le_of_ble_eq_true rfl⟩ rfl (Nat.le_of_ble_eq_true rfl) dX1_moveFault_16 ⟨Nat.zero_le _, Nat.zero_le _⟩ rfl ?_
    refine V_if_eq hC 26 dX1_moveFault_19 (by decide) (fun c12 => ?_) (fun c12 => ?_)
    · have h := ite_t c12 h
      exact b_X1_moveFault_26 hC hr hlk hg h
    · have h := ite_f c12 h
      refine V_iconst hC (1 : Int32) dX1_moveFault_22 (by decide) ?_
      refine V_goto hC 27 dX1_moveFault_23 (by decide) ?_
      exact b_X1_moveFault_27 hC hr hlk hg h
theorem c_X8_isLine {l : Launch} {G : Geo} {x0 : Int32} {rv : Int32} {M : Mem} (hG : gD G) (h : f_X8_isLine x0 = rv) : Met l yX8_isLine (.code yX8_isLine cX8_isLine 1 (some .boolean) :: GL) (rmk 1) (gP G [.int x0] M) (gQ G (some (.int rv)) M) 0 0 (gA G) := by
  refine Met_of (own := RX8) (L := [(0, .int x0)]) hG (by decide +kernel) rfl (Nat.le_of_ble_eq_true rfl) rfl ?_
  intro p e s m args below meth c hC hr hlk
  refine V_iload_n hC dX8_isLine_0 rfl 0 rfl ?_
  refine V_iconst hC (0 : Int32) dX8_isLine_1 (by decide) ?_
  refine V_iconst hC (5 : Int32) dX8_isLine_2 (by decide) ?_
  refine V_cSr hC [.int x0, .int (0 : Int32), .int (5 : Int32)] (c_X8_isWithin (l := l) hC.2.2.2.2.2.2.2 rfl) kd_X8_isWithin gw_444 gw_456 ⟨Nat.le_of_ble_eq_true rfl, Nat.le_of_ble_eq_true rfl⟩ rfl (Nat.le_of_ble_eq_true rfl) dX8_isLine_3 ⟨Nat.zero_le _, Nat.zero_le _⟩ rfl ?_
  obtain rfl := id h
  exact V_zret hC hr hlk (z_X8_isWithin _ _ _) dX8_isLine_6
theorem z_X8_isLine (x0 : Int32) : f_X8_isLine x0 = 0 ∨ f_X8_isLine x0 = 1 := by
  unfold f_X8_isLine
  (repeat' split) <;> first | exact Or.inl rfl | exact Or.inr rfl | exact z_X8_isWithin _ _ _
theorem c_X1_hasLine {l : Launch} {G : Geo} {g : Nat} {x1 : Int32} {x2 : Int32} {rv : Int32} {M : Mem} (hG : gD G) (hg : g < 6) (h : f_X1_hasLine g x1 x2 M = some rv) : Met l yX1_hasLine (.code yX1_hasLine cX1_hasLine 3 (some .boolean) :: GL) (rmk 2) (gP G [.ref (adr G g 0), .int x1, .int x2] M) (gQ G (some (.int rv)) M) 0 0 (gA G) := by
  refine Met_of (own := RX1) (L := [(0, .ref (adr G g 0)), (1, .int x1), (2, .int x2)]) hG (by decide +kernel) rfl (Nat.le_of_ble_eq_true rfl) rfl ?_
  intro p e s m args below meth c hC hr hlk
  refine V_aload_n hC dX1_hasLine_0 rfl 0 rfl ?_
  refine V_getR hC (r_d0_0 hg) fw_X1_12 dX1_hasLine_1 ?_
  refine V_iload_n hC dX1_hasLine_4 rfl 1 rfl ?_
  obtain ⟨q1, e1, h⟩ := bind_some h
  refine V_cVr hC [.int x1] (c_X7_has (l := l) hC.2.2.2.2.2.2.2 hg e1) kd_X7_has kv_X7_has gw_248 (r_d1_0 hg).o rfl ⟨Nat.le_of_ble_eq_true rfl, Nat.le_of_ble_eq_true rfl⟩ rfl (Nat.le_of_ble_eq_true rfl) dX1_hasLine_5 ⟨Nat.zero_le _, Nat.zero_le _⟩ rfl ?_
  refine V_if_eq hC 22 dX1_hasLine_8 (by decide) (fun c2 => ?_) (fun c2 => ?_)
  · have h := ite_t c2 h
    refine V_iconst hC (0 : Int32) dX1_hasLine_22 (by decide) ?_
    obtain rfl := Option.some.inj h
    exact V_zret hC hr hlk (Or.inl rfl) dX1_hasLine_23
  · have h := ite_f c2 h
    refine V_iload_n hC dX1_hasLine_11 rfl 2 rfl ?_
    refine V_cSNr hC [.int x2] (c_X8_isLine (l := l) hC.2.2.2.2.2.2.2 rfl) kd_X8_isLine gw_562 nw_33 ⟨Nat.le_of_ble_eq_true rfl, Nat.le_of_ble_eq_true rfl⟩ rfl (Nat.le_of_ble_eq_true rfl) dX1_hasLine_12 ⟨Nat.zero_le _, Nat.zero_le _⟩ rfl ?_
    refine V_if_eq hC 22 dX1_hasLine_15 (by decide) (fun c4 => ?_) (fun c4 => ?_)
    · have h := ite_t c4 h
      refine V_iconst hC (0 : Int32) dX1_hasLine_22 (by decide) ?_
      obtain rfl := Option.some.inj h
      exact V_zret hC hr hlk (Or.inl rfl) dX1_hasLine_23
    · have h := ite_f c4 h
      refine V_iconst hC (1 : Int32) dX1_hasLine_18 (by decide) ?_
      refine V_goto hC 23 dX1_hasLine_19 (by decide) ?_
      obtain rfl := Option.some.inj h
      exact V_zret hC hr hlk (Or.inr rfl) dX1_hasLine_23
theorem b_X1_writeFault_51 {g : Nat} {rv : Int32} {z0 : Int32} {z1 : Int32} {z2 : Int32} {M : Mem} (hC : Cx p s m args c cX1_writeFault RX1 5 G) (hr : meth.sig.returnType = some .int) (hlk : meth.locks = false) (hg : g < 6) (h : B_X1_writeFault_51 g z0 z1 z2 M = some rv) : V p l e (rmk 3) s m args below meth c 5 G 0 0 (MQ below (gQ G (some (.int rv)) M) args s 0 0 (gA G)) 51 [] [.int z0, .int z1, .int z2] M := by
  refine V_cSNr hC [.int z2, .int z1, .int z0] (c_X8_faultOf (l := l) hC.2.2.2.2.2.2.2 rfl) kd_X8_faultOf gw_289 nw_22 ⟨Nat.le_of_ble_eq_true rfl, Nat.le_of_ble_eq_true rfl⟩ rfl (Nat.le_of_ble_eq_true rfl) dX1_writeFault_51 ⟨Nat.zero_le _, Nat.zero_le _⟩ rfl ?_
  obtain rfl := Option.some.inj h
  exact V_iret hC hr hlk dX1_writeFault_54
theorem b_X1_writeFault_25 {g : Nat} {rv : Int32} {x1 : Int32} {x2 : Int32} {x3 : Int32} {z0 : Int32} {M : Mem} (hC : Cx p s m args c cX1_writeFault RX1 5 G) (hr : meth.sig.returnType = some .int) (hlk : meth.locks = false) (hg : g < 6) (h : B_X1_writeFault_25 g x1 x2 x3 z0 M = some rv) : V p l e (rmk 3) s m args below meth c 5 G 0 0 (MQ below (gQ G (some (.int rv)) M) args s 0 0 (gA G)) 25 [(0, .ref (adr G g 0)), (1, .int x1), (2, .int x2), (3, .int x3)] [.int z0] M := by
  refine V_istore hC ([(4, .int z0), (0, .ref (adr G g 0)), (1, .int x1), (2, .int x2), (3, .int x3)]) dX1_writeFault_25 (by decide) rfl ?_
  refine V_aload_n hC dX1_writeFault_27 rfl 1 rfl ?_
  refine V_iload_n hC dX1_writeFault_28 rfl 2 rfl ?_
  refine V_iload_n hC dX1_writeFault_29 rfl 3 rfl ?_
  obtain ⟨q4, e4, h⟩ := bind_some h
  refine V_cVr hC [.int x1, .int x2] (c_X1_hasLine (l := l) hC.2.2.2.2.2.2.2 hg e4) kd_X1_hasLine kv_X1_hasLine gw_557 (r_d0_0 hg).o rfl ⟨Nat.le_of_ble_eq_true rfl, Nat.le_of_ble_eq_true rfl⟩ rfl (Nat.le_of_ble_eq_true rfl) dX1_writeFault_30 ⟨Nat.zero_le _, Nat.zero_le _⟩ rfl ?_
  refine V_iload_n hC dX1_writeFault_33 rfl 4 rfl ?_
  refine V_iconst hC (0 : Int32) dX1_writeFault_34 (by decide) ?_
  refine V_sipush hC (999 : Int32) dX1_writeFault_35 (by decide) ?_
  refine V_cSNr hC [.int x3, .int (0 : Int32), .int (999 : Int32)] (c_X8_isWithin (l := l) hC.2.2.2.2.2.2.2 rfl) kd_X8_isWithin gw_444 nw_34 ⟨Nat.le_of_ble_eq_true rfl, Nat.le_of_ble_eq_true rfl⟩ rfl (Nat.le_of_ble_eq_true rfl) dX1_writeFault_38 ⟨Nat.zero_le _, Nat.zero_le _⟩ rfl ?_
  refine V_iload hC dX1_writeFault_41 0 rfl ?_
  refine V_if_ne hC 50 dX1_writeFault_43 (by decide) (fun c6 => ?_) (fun c6 => ?_)
  · have h := ite_f c6 h
    refine V_iconst hC (0 : Int32) dX1_writeFault_50 (by decide) ?_
    refine V_sub [] rfl ?_
    exact b_X1_writeFault_51 hC hr hlk hg h
  · have h := ite_t c6 h
    refine V_iconst hC (1 : Int32) dX1_writeFault_46 (by decide) ?_
    refine V_goto hC 51 dX1_writeFault_47 (by decide) ?_
    refine V_sub [] rfl ?_
    exact b_X1_writeFault_51 hC hr hlk hg h
theorem c_X1_writeFault {l : Launch} {G : Geo} {g : Nat} {x1 : Int32} {x2 : Int32} {x3 : Int32} {rv : Int32} {M : Mem} (hG : gD G) (hg : g < 6) (h : f_X1_writeFault g x1 x2 x3 M = some rv) : Met l yX1_writeFault (.code yX1_writeFault cX1_writeFault 5 (some .int) :: GL) (rmk 3) (gP G [.ref (adr G g 0), .int x1, .int x2, .int x3] M) (gQ G (some (.int rv)) M) 0 0 (gA G) := by
  refine Met_of (own := RX1) (L := [(0, .ref (adr G g 0)), (1, .int x1), (2, .int x2), (3, .int x3)]) hG (by decide +kernel) rfl (Nat.le_of_ble_eq_true rfl) rfl ?_
  intro p e s m args below meth c hC hr hlk
  refine V_aload_n hC dX1_writeFault_0 rfl 0 rfl ?_
  refine V_getR hC (r_d0_1 hg) fw_X1_21 dX1_writeFault_1 ?_
  refine V_iconst hC (1 : Int32) dX1_writeFault_4 (by decide) ?_
  obtain ⟨q1, e1, h⟩ := bind_some h
  refine V_cVr hC [.int (1 : Int32)] (c_X0_tops (l := l) hC.2.2.2.2.2.2.2 hg e1) kd_X0_tops kv_X0_tops gw_260 (r_d8_0 hg).o rfl ⟨Nat.le_of_ble_eq_true rfl, Nat.le_of_ble_eq_true rfl⟩ rfl (Nat.le_of_ble_eq_true rfl) dX1_writeFault_5 ⟨Nat.zero_le _, Nat.zero_le _⟩ rfl ?_
  refine V_aload_n hC dX1_writeFault_8 rfl 0 rfl ?_
  refine V_getR hC (r_d0_0 hg) fw_X1_12 dX1_writeFault_9 ?_
  refine V_iload_n hC dX1_writeFault_12 rfl 1 rfl ?_
  obtain ⟨q2, e2, h⟩ := bind_some h
  refine V_cVr hC [.int x1] (c_X7_lineageOf (l := l) hC.2.2.2.2.2.2.2 hg e2) kd_X7_lineageOf kv_X7_lineageOf gw_284 (r_d1_0 hg).o rfl ⟨Nat.le_of_ble_eq_true rfl, Nat.le_of_ble_eq_true rfl⟩ rfl (Nat.le_of_ble_eq_true rfl) dX1_writeFault_13 ⟨Nat.zero_le _, Nat.zero_le _⟩ rfl ?_
  refine V_iand hC dX1_writeFault_16 ?_
  refine V_if_eq hC 24 dX1_writeFault_17 (by decide) (fun c3 => ?_) (fun c3 => ?_)
  · have h := ite_t c3 h
    refine V_iconst hC (0 : Int32) dX1_writeFault_24 (by decide) ?_
    exact b_X1_writeFault_25 hC hr hlk hg h
  · have h := ite_f c3 h
    refine V_iconst hC (1 : Int32) dX1_writeFault_20 (by decide) ?_
    refine V_goto hC 25 dX1_writeFault_21 (by decide) ?_
    exact b_X1_writeFault_25 hC hr hlk hg h
theorem c_X8_cellOf {l : Launch} {G : Geo} {x0 : Int32} {x1 : Int32} {rv : Int32} {M : Mem} (hG : gD G) (h : f_X8_cellOf x0 x1 = rv) : Met l yX8_cellOf (.code yX8_cellOf cX8_cellOf 2 (some .int) :: GL) (rmk 0) (gP G [.int x0, .int x1] M) (gQ G (some (.int rv)) M) 0 0 (gA G) := by
  refine Met_of (own := RX8) (L := [(0, .int x0), (1, .int x1)]) hG (by decide +kernel) rfl (Nat.le_of_ble_eq_true rfl) rfl ?_
  intro p e s m args below meth c hC hr hlk
  refine V_iload_n hC dX8_cellOf_0 rfl 0 rfl ?_
  refine V_bipush hC (6 : Int32) dX8_cellOf_1 (by decide) ?_
  refine V_imul hC dX8_cellOf_3 ?_
  refine V_iload_n hC dX8_cellOf_4 rfl 1 rfl ?_
  refine V_iadd hC dX8_cellOf_5 ?_
  obtain rfl := id h
  exact V_iret hC hr hlk dX8_cellOf_6
theorem c_X1_wantPresent {l : Launch} {G : Geo} {g : Nat} {Mf : Mem} {M : Mem} (hG : gD G) (hg : g < 6) (h : f_X1_wantPresent g M = some Mf) : Met l yX1_wantPresent (.code yX1_wantPresent cX1_wantPresent 1 none :: GL) (rmk 3) (gP G [.ref (adr G g 0)] M) (gQ G none Mf) 0 0 (gA G) := by
  refine Met_of (own := RX1) (L := [(0, .ref (adr G g 0))]) hG (by decide +kernel) rfl (Nat.le_of_ble_eq_true rfl) rfl ?_
  intro p e s m args below meth c hC hr hlk
  refine V_aload_n hC dX1_wantPresent_0 rfl 0 rfl ?_
  refine V_getR hC (r_d0_0 hg) fw_X1_12 dX1_wantPresent_1 ?_
  refine V_getR hC (r_d1_3 hg) fw_X1_147 dX1_wantPresent_4 ?_
  refine V_aload_n hC dX1_wantPresent_7 rfl 0 rfl ?_
  refine V_getR hC (r_d0_5 hg) fw_X1_43 dX1_wantPresent_8 ?_
  obtain ⟨q1, e1, h⟩ := bind_some h
  refine V_cSNv hC [.ref (adr G g 5), .ref (adr G g 17)] (c_X8_copyRow (l := l) hC.2.2.2.2.2.2.2 (a_d5 hg) (a_d17 hg) e1) kd_X8_copyRow gw_411 nw_27 ⟨Nat.le_of_ble_eq_true rfl, Nat.le_of_ble_eq_true rfl⟩ rfl (Nat.le_of_ble_eq_true rfl) dX1_wantPresent_11 ⟨Nat.zero_le _, Nat.zero_le _⟩ rfl ?_
  obtain rfl := Option.some.inj h
  exact V_vret hC hr hlk dX1_wantPresent_14
theorem c_X8_isCell {l : Launch} {G : Geo} {x0 : Int32} {rv : Int32} {M : Mem} (hG : gD G) (h : f_X8_isCell x0 = rv) : Met l yX8_isCell (.code yX8_isCell cX8_isCell 1 (some .boolean) :: GL) (rmk 1) (gP G [.int x0] M) (gQ G (some (.int rv)) M) 0 0 (gA G) := by
  refine Met_of (own := RX8) (L := [(0, .int x0)]) hG (by decide +kernel) rfl (Nat.le_of_ble_eq_true rfl) rfl ?_
  intro p e s m args below meth c hC hr hlk
  refine V_iload_n hC dX8_isCell_0 rfl 0 rfl ?_
  refine V_iconst hC (0 : Int32) dX8_isCell_1 (by decide) ?_
  refine V_bipush hC (119 : Int32) dX8_isCell_2 (by decide) ?_
  refine V_cSr hC [.int x0, .int (0 : Int32), .int (119 : Int32)] (c_X8_isWithin (l := l) hC.2.2.2.2.2.2.2 rfl) kd_X8_isWithin gw_444 gw_456 ⟨Nat.le_of_ble_eq_true rfl, Nat.le_of_ble_eq_true rfl⟩ rfl (Nat.le_of_ble_eq_true rfl) dX8_isCell_4 ⟨Nat.zero_le _, Nat.zero_le _⟩ rfl ?_
  obtain rfl := id h
  exact V_zret hC hr hlk (z_X8_isWithin _ _ _) dX8_isCell_7
theorem z_X8_isCell (x0 : Int32) : f_X8_isCell x0 = 0 ∨ f_X8_isCell x0 = 1 := by
  unfold f_X8_isCell
  (repeat' split) <;> first | exact Or.inl rfl | exact Or.inr rfl | exact z_X8_isWithin _ _ _
theorem c_X1_want {l : Launch} {G : Geo} {g : Nat} {x1 : Int32} {x2 : Int32} {Mf : Mem} {M : Mem} (hG : gD G) (hg : g < 6) (h : f_X1_want g x1 x2 M = some Mf) : Met l yX1_want (.code yX1_want cX1_want 3 none :: GL) (rmk 2) (gP G [.ref (adr G g 0), .int x1, .int x2] M) (gQ G none Mf) 0 0 (gA G) := by
  refine Met_of (own := RX1) (L := [(0, .ref (adr G g 0)), (1, .int x1), (2, .int x2)]) hG (by decide +kernel) rfl (Nat.le_of_ble_eq_true rfl) rfl ?_
  intro p e s m args below meth c hC hr hlk
  refine V_iload_n hC dX1_want_0 rfl 1 rfl ?_
  refine V_cSNr hC [.int x1] (c_X8_isCell (l := l) hC.2.2.2.2.2.2.2 rfl) kd_X8_isCell gw_454 nw_36 ⟨Nat.le_of_ble_eq_true rfl, Nat.le_of_ble_eq_true rfl⟩ rfl (Nat.le_of_ble_eq_true rfl) dX1_want_1 ⟨Nat.zero_le _, Nat.zero_le _⟩ rfl ?_
  refine V_if_eq hC 14 dX1_want_4 (by decide) (fun c2 => ?_) (fun c2 => ?_)
  · have h := ite_t c2 h
    obtain rfl := Option.some.inj h
    exact V_vret hC hr hlk dX1_want_14
  · have h := ite_f c2 h
    refine V_aload_n hC dX1_want_7 rfl 0 rfl ?_
    refine V_getR hC (r_d0_5 hg) fw_X1_43 dX1_want_8 ?_
    refine V_iload_n hC dX1_want_11 rfl 1 rfl ?_
    refine V_iload_n hC dX1_want_12 rfl 2 rfl ?_
    obtain ⟨c3, h⟩ := ite_some h
    refine V_iast hC (a_d17 hg) c3 dX1_want_13 ?_
    obtain rfl := Option.some.inj h
    exact V_vret hC hr hlk dX1_want_14
theorem b_X2_add_31 {g : Nat} {Mf : Mem} {x1 : Int32} {x2 : Int32} {x3 : Int32} {x4 : Int32} {x5 : Int32} {M : Mem} (hC : Cx p s m args c cX2_add RX2 6 G) (hr : meth.sig.returnType = none) (hlk : meth.locks = false) (hg : g < 6) (h : B_X2_add_31 g x1 x2 x3 x4 x5 M = some Mf) : V p l e (rmk 2) s m args below meth c 6 G 0 0 (MQ below (gQ G none Mf) args s 0 0 (gA G)) 31 [(0, .ref (adr G g 14)), (1, .int x1), (2, .int x2), (3, .int x3), (4, .int x4), (5, .int x5)] [] M := by
  refine V_aload_n hC dX2_add_31 rfl 0 rfl ?_
  refine V_aload_n hC dX2_add_32 rfl 0 rfl ?_
  refine V_getI hC (f_d14_2 hg) fw_X2_23 dX2_add_33 ?_
  refine V_iconst hC (0 : Int32) dX2_add_36 (by decide) ?_
  refine V_iload_n hC dX2_add_37 rfl 1 rfl ?_
  obtain ⟨q2, e2, h⟩ := bind_some h
  refine V_cVv hC [.int (M.1 g 14 2), .int (0 : Int32), .int x1] (c_X2_setFact (l := l) hC.2.2.2.2.2.2.2 hg e2) kd_X2_setFact kv_X2_setFact gw_507 (r_d14_0 hg).o rfl ⟨Nat.le_of_ble_eq_true rfl, Nat.le_of_ble_eq_true rfl⟩ rfl (Nat.le_of_ble_eq_true rfl) dX2_add_38 ⟨Nat.zero_le _, Nat.zero_le _⟩ rfl ?_
  refine V_aload_n hC dX2_add_41 rfl 0 rfl ?_
  refine V_aload_n hC dX2_add_42 rfl 0 rfl ?_
  refine V_getI hC (f_d14_2 hg) fw_X2_23 dX2_add_43 ?_
  refine V_iconst hC (1 : Int32) dX2_add_46 (by decide) ?_
  refine V_iload_n hC dX2_add_47 rfl 2 rfl ?_
  refine V_bipush hC (6 : Int32) dX2_add_48 (by decide) ?_
  refine V_idiv hC dX2_add_50 (by decide) ?_
  obtain ⟨q3, e3, h⟩ := bind_some h
  refine V_cVv hC [.int (q2.1 g 14 2), .int (1 : Int32), .int (x2 / (6 : Int32))] (c_X2_setFact (l := l) hC.2.2.2.2.2.2.2 hg e3) kd_X2_setFact kv_X2_setFact gw_507 (r_d14_0 hg).o rfl ⟨Nat.le_of_ble_eq_true rfl, Nat.le_of_ble_eq_true rfl⟩ rfl (Nat.le_of_ble_eq_true rfl) dX2_add_51 ⟨Nat.zero_le _, Nat.zero_le _⟩ rfl ?_
  refine V_aload_n hC dX2_add_54 rfl 0 rfl ?_
  refine V_aload_n hC dX2_add_55 rfl 0 rfl ?_
  refine V_getI hC (f_d14_2 hg) fw_X2_23 dX2_add_56 ?_
  refine V_iconst hC (2 : Int32) dX2_add_59 (by decide) ?_
  refine V_iload_n hC dX2_add_60 rfl 2 rfl ?_
  refine V_bipush hC (6 : Int32) dX2_add_61 (by decide) ?_
  refine V_irem hC dX2_add_63 (by decide) ?_
  obtain ⟨q4, e4, h⟩ := bind_some h
  refine V_cVv hC [.int (q3.1 g 14 2), .int (2 : Int32), .int (ireM x2 (6 : Int32))] (c_X2_setFact (l := l) hC.2.2.2.2.2.2.2 hg e4) kd_X2_setFact kv_X2_setFact gw_507 (r_d14_0 hg).o rfl ⟨Nat.le_of_ble_eq_true rfl, Nat.le_of_ble_eq_true rfl⟩ rfl (Nat.le_of_ble_eq_true rfl) dX2_add_64 ⟨Nat.zero_le _, Nat.zero_le _⟩ rfl ?_
  refine V_aload_n hC dX2_add_67 rfl 0 rfl ?_
  refine V_aload_n hC dX2_add_68 rfl 0 rfl ?_
  refine V_getI hC (f_d14_2 hg) fw_X2_23 dX2_add_69 ?_
  refine V_iconst hC (3 : Int32) dX2_add_72 (by decide) ?_
  refine V_iload_n hC dX2_add_73 rfl 3 rfl ?_
  obtain ⟨q5, e5, h⟩ := bind_some h
  refine V_cVv hC [.int (q4.1 g 14 2), .int (3 : Int32), .int x3] (c_X2_setFact (l := l) hC.2.2.2.2.2.2.2 hg e5) kd_X2_setFact kv_X2_setFact gw_507 (r_d14_0 hg).o rfl ⟨Nat.le_of_ble_eq_true rfl, Nat.le_of_ble_eq_true rfl⟩ rfl (Nat.le_of_ble_eq_true rfl) dX2_add_74 ⟨Nat.zero_le _, Nat.zero_le _⟩ rfl ?_
  refine V_aload_n hC dX2_add_77 rfl 0 rfl ?_
  refine V_aload_n hC dX2_add_78 rfl 0 rfl ?_
  refine V_getI hC (f_d14_2 hg) fw_X2_23 dX2_add_79 ?_
  refine V_iconst hC (4 : Int32) dX2_add_82 (by decide) ?_
  refine V_iload hC dX2_add_83 4 rfl ?_
  obtain ⟨q6, e6, h⟩ := bind_some h
  refine V_cVv hC [.int (q5.1 g 14 2), .int (4 : Int32), .int x4] (c_X2_setFact (l := l) hC.2.2.2.2.2.2.2 hg e6) kd_X2_setFact kv_X2_setFact gw_507 (r_d14_0 hg).o rfl ⟨Nat.le_of_ble_eq_true rfl, Nat.le_of_ble_eq_true rfl⟩ rfl (Nat.le_of_ble_eq_true rfl) dX2_add_85 ⟨Nat.zero_le _, Nat.zero_le _⟩ rfl ?_
  refine V_aload_n hC dX2_add_88 rfl 0 rfl ?_
  refine V_aload_n hC dX2_add_89 rfl 0 rfl ?_
  refine V_getI hC (f_d14_2 hg) fw_X2_23 dX2_add_90 ?_
  refine V_iconst hC (5 : Int32) dX2_add_93 (by decide) ?_
  refine V_iload hC dX2_add_94 5 rfl ?_
  obtain ⟨q7, e7, h⟩ := bind_some h
  refine V_cVv hC [.int (q6.1 g 14 2), .int (5 : Int32), .int x5] (c_X2_setFact (l := l) hC.2.2.2.2.2.2.2 hg e7) kd_X2_setFact kv_X2_setFact gw_507 (r_d14_0 hg).o rfl ⟨Nat.le_of_ble_eq_true rfl, Nat.le_of_ble_eq_true rfl⟩ rfl (Nat.le_of_ble_eq_true rfl) dX2_add_96 ⟨Nat.zero_le _, Nat.zero_le _⟩ rfl ?_
  refine V_aload_n hC dX2_add_99 rfl 0 rfl ?_
  refine V_dup hC dX2_add_100 rfl ?_
  refine V_getI hC (f_d14_2 hg) fw_X2_23 dX2_add_101 ?_
  refine V_iconst hC (1 : Int32) dX2_add_104 (by decide) ?_
  refine V_iadd hC dX2_add_105 ?_
  refine V_putI hC (f_d14_2 hg) fw_X2_23 flp_2_2 dX2_add_106 ?_
  obtain rfl := Option.some.inj h
  exact V_vret hC hr hlk dX2_add_109
theorem c_X2_add {l : Launch} {G : Geo} {g : Nat} {x1 : Int32} {x2 : Int32} {x3 : Int32} {x4 : Int32} {x5 : Int32} {Mf : Mem} {M : Mem} (hG : gD G) (hg : g < 6) (h : f_X2_add g x1 x2 x3 x4 x5 M = some Mf) : Met l yX2_add (.code yX2_add cX2_add 6 none :: GL) (rmk 2) (gP G [.ref (adr G g 14), .int x1, .int x2, .int x3, .int x4, .int x5] M) (gQ G none Mf) 0 0 (gA G) := by
  refine Met_of (own := RX2) (L := [(0, .ref (adr G g 14)), (1, .int x1), (2, .int x2), (3, .int x3), (4, .int x4), (5, .int x5)]) hG (by decide +kernel) rfl (Nat.le_of_ble_eq_true rfl) rfl ?_
  intro p e s m args below meth c hC hr hlk
  refine V_aload_n hC dX2_add_0 rfl 0 rfl ?_
  refine V_getI hC (f_d14_2 hg) fw_X2_23 dX2_add_1 ?_
  refine V_sipush hC (150 : Int32) dX2_add_4 (by decide) ?_
  refine V_icmp_lt hC 31 dX2_add_7 (by decide) (fun c1 => ?_) (fun c1 => ?_)
  · have h := ite_t c1 h
    exact b_X2_add_31 hC hr hlk hg h
  · have h := ite_f c1 h
    refine V_aload_n hC dX2_add_10 rfl 0 rfl ?_
    refine V_aload_n hC dX2_add_11 rfl 0 rfl ?_
    refine V_getI hC (f_d14_1 hg) fw_X2_19 dX2_add_12 ?_
    refine V_iconst hC (1 : Int32) dX2_add_15 (by decide) ?_
    refine V_iadd hC dX2_add_16 ?_
    refine V_sipush hC (150 : Int32) dX2_add_17 (by decide) ?_
    refine V_irem hC dX2_add_20 (by decide) ?_
    refine V_putI hC (f_d14_1 hg) fw_X2_19 flp_2_1 dX2_add_21 ?_
    refine V_aload_n hC dX2_add_24 rfl 0 rfl ?_
    refine V_sipush hC (149 : Int32) dX2_add_25 (by decide) ?_
    refine V_putI hC (f_d14_2 hg) fw_X2_23 flp_2_2 dX2_add_28 ?_
    exact b_X2_add_31 hC hr hlk hg h
theorem c_X7_setValue {l : Launch} {G : Geo} {g : Nat} {x1 : Int32} {x2 : Int32} {Mf : Mem} {M : Mem} (hG : gD G) (hg : g < 6) (h : f_X7_setValue g x1 x2 M = some Mf) : Met l yX7_setValue (.code yX7_setValue cX7_setValue 3 none :: GL) (rmk 2) (gP G [.ref (adr G g 1), .int x1, .int x2] M) (gQ G none Mf) 0 0 (gA G) := by
  refine Met_of (own := RX7) (L := [(0, .ref (adr G g 1)), (1, .int x1), (2, .int x2)]) hG (by decide +kernel) rfl (Nat.le_of_ble_eq_true rfl) rfl ?_
  intro p e s m args below meth c hC hr hlk
  refine V_iload_n hC dX7_setValue_0 rfl 1 rfl ?_
  refine V_cSNr hC [.int x1] (c_X8_isCell (l := l) hC.2.2.2.2.2.2.2 rfl) kd_X8_isCell gw_454 nw_30 ⟨Nat.le_of_ble_eq_true rfl, Nat.le_of_ble_eq_true rfl⟩ rfl (Nat.le_of_ble_eq_true rfl) dX7_setValue_1 ⟨Nat.zero_le _, Nat.zero_le _⟩ rfl ?_
  refine V_if_eq hC 14 dX7_setValue_4 (by decide) (fun c2 => ?_) (fun c2 => ?_)
  · have h := ite_t c2 h
    obtain rfl := Option.some.inj h
    exact V_vret hC hr hlk dX7_setValue_14
  · have h := ite_f c2 h
    refine V_aload_n hC dX7_setValue_7 rfl 0 rfl ?_
    refine V_getR hC (r_d1_3 hg) fw_X7_21 dX7_setValue_8 ?_
    refine V_iload_n hC dX7_setValue_11 rfl 1 rfl ?_
    refine V_iload_n hC dX7_setValue_12 rfl 2 rfl ?_
    obtain ⟨c3, h⟩ := ite_some h
    refine V_iast hC (a_d5 hg) c3 dX7_setValue_13 ?_
    obtain rfl := Option.some.inj h
    exact V_vret hC hr hlk dX7_setValue_14
theorem c_X1_changeCell {l : Launch} {G : Geo} {g : Nat} {x1 : Int32} {x2 : Int32} {rv : Int32} {Mf : Mem} {M : Mem} (hG : gD G) (hg : g < 6) (h : f_X1_changeCell g x1 x2 M = some (rv, Mf)) : Met l yX1_changeCell (.code yX1_changeCell cX1_changeCell 3 (some .int) :: GL) (rmk 3) (gP G [.ref (adr G g 0), .int x1, .int x2] M) (gQ G (some (.int rv)) Mf) 0 0 (gA G) := by
  refine Met_of (own := RX1) (L := [(0, .ref (adr G g 0)), (1, .int x1), (2, .int x2)]) hG (by decide +kernel) rfl (Nat.le_of_ble_eq_true rfl) rfl ?_
  intro p e s m args below meth c hC hr hlk
  refine V_iload_n hC dX1_changeCell_0 rfl 1 rfl ?_
  refine V_cSNr hC [.int x1] (c_X8_isCell (l := l) hC.2.2.2.2.2.2.2 rfl) kd_X8_isCell gw_454 nw_36 ⟨Nat.le_of_ble_eq_true rfl, Nat.le_of_ble_eq_true rfl⟩ rfl (Nat.le_of_ble_eq_true rfl) dX1_changeCell_1 ⟨Nat.zero_le _, Nat.zero_le _⟩ rfl ?_
  refine V_if_eq hC 24 dX1_changeCell_4 (by decide) (fun c2 => ?_) (fun c2 => ?_)
  · have h := ite_t c2 h
    refine V_iconst hC (0 : Int32) dX1_changeCell_24 (by decide) ?_
    obtain ⟨rfl, rfl⟩ := Prod.mk.inj (Option.some.inj h)
    exact V_iret hC hr hlk dX1_changeCell_25
  · have h := ite_f c2 h
    refine V_aload_n hC dX1_changeCell_7 rfl 0 rfl ?_
    refine V_getR hC (r_d0_5 hg) fw_X1_43 dX1_changeCell_8 ?_
    refine V_iload_n hC dX1_changeCell_11 rfl 1 rfl ?_
    obtain ⟨c3, h⟩ := ite_some h
    refine V_iald hC (a_d17 hg) c3 dX1_changeCell_12 ?_
    refine V_aload_n hC dX1_changeCell_13 rfl 0 rfl ?_
    refine V_getR hC (r_d0_0 hg) fw_X1_12 dX1_changeCell_14 ?_
    refine V_iload_n hC dX1_changeCell_17 rfl 1 rfl ?_
    obtain ⟨q4, e4, h⟩ := bind_some h
    refine V_cVr hC [.int x1] (c_X7_valueAt (l := l) hC.2.2.2.2.2.2.2 hg e4) kd_X7_valueAt kv_X7_valueAt gw_570 (r_d1_0 hg).o rfl ⟨Nat.le_of_ble_eq_true rfl, Nat.le_of_ble_eq_true rfl⟩ rfl (Nat.le_of_ble_eq_true rfl) dX1_changeCell_18 ⟨Nat.zero_le _, Nat.zero_le _⟩ rfl ?_
    refine V_icmp_ne hC 26 dX1_changeCell_21 (by decide) (fun c5 => ?_) (fun c5 => ?_)
    · have h := ite_f c5 h
      refine V_aload_n hC dX1_changeCell_26 rfl 0 rfl ?_
      refine V_getR hC (r_d0_3 hg) fw_X1_35 dX1_changeCell_27 ?_
      refine V_aload_n hC dX1_changeCell_30 rfl 0 rfl ?_
      refine V_getI hC (f_d0_6 hg) fw_X1_63 dX1_changeCell_31 ?_
      refine V_iload_n hC dX1_changeCell_34 rfl 1 rfl ?_
      refine V_aload_n hC dX1_changeCell_35 rfl 0 rfl ?_
      refine V_getR hC (r_d0_0 hg) fw_X1_12 dX1_changeCell_36 ?_
      refine V_iload_n hC dX1_changeCell_39 rfl 1 rfl ?_
      obtain ⟨q6, e6, h⟩ := bind_some h
      refine V_cVr hC [.int x1] (c_X7_valueAt (l := l) hC.2.2.2.2.2.2.2 hg e6) kd_X7_valueAt kv_X7_valueAt gw_570 (r_d1_0 hg).o rfl ⟨Nat.le_of_ble_eq_true rfl, Nat.le_of_ble_eq_true rfl⟩ rfl (Nat.le_of_ble_eq_true rfl) dX1_changeCell_40 ⟨Nat.zero_le _, Nat.zero_le _⟩ rfl ?_
      refine V_aload_n hC dX1_changeCell_43 rfl 0 rfl ?_
      refine V_getR hC (r_d0_5 hg) fw_X1_43 dX1_changeCell_44 ?_
      refine V_iload_n hC dX1_changeCell_47 rfl 1 rfl ?_
      obtain ⟨c7, h⟩ := ite_some h
      refine V_iald hC (a_d17 hg) c7 dX1_changeCell_48 ?_
      refine V_iload_n hC dX1_changeCell_49 rfl 2 rfl ?_
      obtain ⟨q8, e8, h⟩ := bind_some h
      refine V_cVv hC [.int (M.1 g 0 6), .int x1, .int q6, .int (M.1 g 17 (cl x1)), .int x2] (c_X2_add (l := l) hC.2.2.2.2.2.2.2 hg e8) kd_X2_add kv_X2_add gw_591 (r_d14_0 hg).o rfl ⟨Nat.le_of_ble_eq_true rfl, Nat.le_of_ble_eq_true rfl⟩ rfl (Nat.le_of_ble_eq_true rfl) dX1_changeCell_50 ⟨Nat.zero_le _, Nat.zero_le _⟩ rfl ?_
      refine V_aload_n hC dX1_changeCell_53 rfl 0 rfl ?_
      refine V_getR hC (r_d0_0 hg) fw_X1_12 dX1_changeCell_54 ?_
      refine V_iload_n hC dX1_changeCell_57 rfl 1 rfl ?_
      refine V_aload_n hC dX1_changeCell_58 rfl 0 rfl ?_
      refine V_getR hC (r_d0_5 hg) fw_X1_43 dX1_changeCell_59 ?_
      refine V_iload_n hC dX1_changeCell_62 rfl 1 rfl ?_
      obtain ⟨c9, h⟩ := ite_some h
      refine V_iald hC (a_d17 hg) c9 dX1_changeCell_63 ?_
      obtain ⟨q10, e10, h⟩ := bind_some h
      refine V_cVv hC [.int x1, .int (q8.1 g 17 (cl x1))] (c_X7_setValue (l := l) hC.2.2.2.2.2.2.2 hg e10) kd_X7_setValue kv_X7_setValue gw_595 (r_d1_0 hg).o rfl ⟨Nat.le_of_ble_eq_true rfl, Nat.le_of_ble_eq_true rfl⟩ rfl (Nat.le_of_ble_eq_true rfl) dX1_changeCell_64 ⟨Nat.zero_le _, Nat.zero_le _⟩ rfl ?_
      refine V_iconst hC (1 : Int32) dX1_changeCell_67 (by decide) ?_
      obtain ⟨rfl, rfl⟩ := Prod.mk.inj (Option.some.inj h)
      exact V_iret hC hr hlk dX1_changeCell_68
    · have h := ite_t c5 h
      refine V_iconst hC (0 : Int32) dX1_changeCell_24 (by decide) ?_
      obtain ⟨rfl, rfl⟩ := Prod.mk.inj (Option.some.inj h)
      exact V_iret hC hr hlk dX1_changeCell_25
theorem c_X7_raiseVersion {l : Launch} {G : Geo} {g : Nat} {x1 : Int32} {Mf : Mem} {M : Mem} (hG : gD G) (hg : g < 6) (h : f_X7_raiseVersion g x1 M = some Mf) : Met l yX7_raiseVersion (.code yX7_raiseVersion cX7_raiseVersion 2 none :: GL) (rmk 1) (gP G [.ref (adr G g 1), .int x1] M) (gQ G none Mf) 0 0 (gA G) := by
  refine Met_of (own := RX7) (L := [(0, .ref (adr G g 1)), (1, .int x1)]) hG (by decide +kernel) rfl (Nat.le_of_ble_eq_true rfl) rfl ?_
  intro p e s m args below meth c hC hr hlk
  refine V_aload_n hC dX7_raiseVersion_0 rfl 0 rfl ?_
  refine V_iload_n hC dX7_raiseVersion_1 rfl 1 rfl ?_
  obtain ⟨q1, e1, h⟩ := bind_some h
  refine V_cVr hC [.int x1] (c_X7_has (l := l) hC.2.2.2.2.2.2.2 hg e1) kd_X7_has kv_X7_has gw_461 (r_d1_0 hg).o rfl ⟨Nat.le_of_ble_eq_true rfl, Nat.le_of_ble_eq_true rfl⟩ rfl (Nat.le_of_ble_eq_true rfl) dX7_raiseVersion_2 ⟨Nat.zero_le _, Nat.zero_le _⟩ rfl ?_
  refine V_if_eq hC 18 dX7_raiseVersion_5 (by decide) (fun c2 => ?_) (fun c2 => ?_)
  · have h := ite_t c2 h
    obtain rfl := Option.some.inj h
    exact V_vret hC hr hlk dX7_raiseVersion_18
  · have h := ite_f c2 h
    refine V_aload_n hC dX7_raiseVersion_8 rfl 0 rfl ?_
    refine V_getR hC (r_d1_2 hg) fw_X7_18 dX7_raiseVersion_9 ?_
    refine V_iload_n hC dX7_raiseVersion_12 rfl 1 rfl ?_
    refine V_dup2 hC dX7_raiseVersion_13 rfl rfl ?_
    obtain ⟨c3, h⟩ := ite_some h
    refine V_iald hC (a_d4 hg) c3 dX7_raiseVersion_14 ?_
    refine V_iconst hC (1 : Int32) dX7_raiseVersion_15 (by decide) ?_
    refine V_iadd hC dX7_raiseVersion_16 ?_
    obtain ⟨c4, h⟩ := ite_some h
    refine V_iast hC (a_d4 hg) c4 dX7_raiseVersion_17 ?_
    obtain rfl := Option.some.inj h
    exact V_vret hC hr hlk dX7_raiseVersion_18
theorem b_X1_changeToWanted_57 {g : Nat} {rv : Int32} {Mf : Mem} {k4 : Int32 → Int32 → Mem → Option (Int32 × Mem)} {x1 : Int32} {x2 : Int32} {x3 : Int32} {M : Mem} (hC : Cx p s m args c cX1_changeToWanted RX1 6 G) (hr : meth.sig.returnType = some .int) (hlk : meth.locks = false) (hg : g < 6) (hk4 : ∀ (x2 : Int32) (x3 : Int32) (M : Mem), k4 x2 x3 M = some (rv, Mf) → V p l e (rmk 4) s m args below meth c 6 G 0 0 (MQ below (gQ G (some (.int rv)) Mf) args s 0 0 (gA G)) 4 [(0, .ref (adr G g 0)), (1, .int x1), (2, .int x2), (3, .int x3)] [] M) (h : B_X1_changeToWanted_57 g k4 x1 x2 x3 M = some (rv, Mf)) : V p l e (rmk 4) s m args below meth c 6 G 0 0 (MQ below (gQ G (some (.int rv)) Mf) args s 0 0 (gA G)) 57 [(0, .ref (adr G g 0)), (1, .int x1), (2, .int x2), (3, .int x3)] [] M := by
  refine V_iinc hC (x3 + 1) ([(3, .int (x3 + 1)), (0, .ref (adr G g 0)), (1, .int x1), (2, .int x2)]) dX1_changeToWanted_57 3 rfl rfl (by decide) rfl ?_
  refine V_goto hC 4 dX1_changeToWanted_60 (by decide) ?_
  refine V_sub [1, 2, 3, 0] rfl ?_
  exact hk4 _ _ _ h
theorem l_X1_changeToWanted_16 {g : Nat} {k4 : Int32 → Int32 → Mem → Option (Int32 × Mem)} {rv : Int32} {Mf : Mem} {x1 : Int32} {x3 : Int32} {x4 : Int32} (hC : Cx p s m args c cX1_changeToWanted RX1 6 G) (hr : meth.sig.returnType = some .int) (hlk : meth.locks = false) (hg : g < 6) (hk4 : ∀ (x2 : Int32) (x3 : Int32) (M : Mem), k4 x2 x3 M = some (rv, Mf) → V p l e (rmk 4) s m args below meth c 6 G 0 0 (MQ below (gQ G (some (.int rv)) Mf) args s 0 0 (gA G)) 4 [(0, .ref (adr G g 0)), (1, .int x1), (2, .int x2), (3, .int x3)] [] M) : ∀ (n : Nat) {x2 : Int32} {x5 : Int32} {M : Mem} (h : L_X1_changeToWanted_16 g k4 x1 x3 x4 n x2 x5 M = some (rv, Mf)), V p l e (rmk 4) s m args below meth c 6 G 0 0 (MQ below (gQ G (some (.int rv)) Mf) args s 0 0 (gA G)) 16 [(0, .ref (adr G g 0)), (1, .int x1), (2, .int x2), (3, .int x3), (4, .int x4), (5, .int x5)] [] M := by
  intro n
  induction n with
  | zero => intro x2 x5 M h; cases h
  | succ n ih =>
    intro x2 x5 M h
    have hk16 : ∀ (x2 : Int32) (x5 : Int32) (M : Mem), L_X1_changeToWanted_16 g k4 x1 x3 x4 n x2 x5 M = some (rv, Mf) → V p l e (rmk 4) s m args below meth c 6 G 0 0 (MQ below (gQ G (some (.int rv)) Mf) args s 0 0 (gA G)) 16 [(0, .ref (adr G g 0)), (1, .int x1), (2, .int x2), (3, .int x3), (4, .int x4), (5, .int x5)] [] M := fun _ _ _ z => ih z
    refine V_iload hC dX1_changeToWanted_16 5 rfl ?_
    refine V_bipush hC (6 : Int32) dX1_changeToWanted_18 (by decide) ?_
    refine V_icmp_ge hC 43 dX1_changeToWanted_20 (by decide) (fun c2 => ?_) (fun c2 => ?_)
    · have h := ite_t c2 h
      refine V_iload_n hC dX1_changeToWanted_43 rfl 2 rfl ?_
      refine V_iload hC dX1_changeToWanted_44 4 rfl ?_
      refine V_icmp_le hC 57 dX1_changeToWanted_46 (by decide) (fun c3 => ?_) (fun c3 => ?_)
      · have h := ite_t c3 h
        refine V_sub [0, 1, 2, 3] rfl ?_
        exact b_X1_changeToWanted_57 hC hr hlk hg hk4 h
      · have h := ite_f c3 h
        refine V_aload_n hC dX1_changeToWanted_49 rfl 0 rfl ?_
        refine V_getR hC (r_d0_0 hg) fw_X1_12 dX1_changeToWanted_50 ?_
        refine V_iload_n hC dX1_changeToWanted_53 rfl 3 rfl ?_
        obtain ⟨q4, e4, h⟩ := bind_some h
        refine V_cVv hC [.int x3] (c_X7_raiseVersion (l := l) hC.2.2.2.2.2.2.2 hg e4) kd_X7_raiseVersion kv_X7_raiseVersion gw_596 (r_d1_0 hg).o rfl ⟨Nat.le_of_ble_eq_true rfl, Nat.le_of_ble_eq_true rfl⟩ rfl (Nat.le_of_ble_eq_true rfl) dX1_changeToWanted_54 ⟨Nat.zero_le _, Nat.zero_le _⟩ rfl ?_
        refine V_sub [0, 1, 2, 3] rfl ?_
        exact b_X1_changeToWanted_57 hC hr hlk hg hk4 h
    · have h := ite_f c2 h
      refine V_iload_n hC dX1_changeToWanted_23 rfl 2 rfl ?_
      refine V_aload_n hC dX1_changeToWanted_24 rfl 0 rfl ?_
      refine V_iload_n hC dX1_changeToWanted_25 rfl 3 rfl ?_
      refine V_iload hC dX1_changeToWanted_26 5 rfl ?_
      refine V_cSNr hC [.int x3, .int x5] (c_X8_cellOf (l := l) hC.2.2.2.2.2.2.2 rfl) kd_X8_cellOf gw_447 nw_35 ⟨Nat.le_of_ble_eq_true rfl, Nat.le_of_ble_eq_true rfl⟩ rfl (Nat.le_of_ble_eq_true rfl) dX1_changeToWanted_28 ⟨Nat.zero_le _, Nat.zero_le _⟩ rfl ?_
      refine V_iload_n hC dX1_changeToWanted_31 rfl 1 rfl ?_
      obtain ⟨q6, e6, h⟩ := bind_some h
      refine V_cVr hC [.int (f_X8_cellOf x3 x5), .int x1] (c_X1_changeCell (l := l) (rv := q6.1) (Mf := q6.2) hC.2.2.2.2.2.2.2 hg e6) kd_X1_changeCell kv_X1_changeCell gw_587 (r_d0_0 hg).o rfl ⟨Nat.le_of_ble_eq_true rfl, Nat.le_of_ble_eq_true rfl⟩ rfl (Nat.le_of_ble_eq_true rfl) dX1_changeToWanted_32 ⟨Nat.zero_le _, Nat.zero_le _⟩ rfl ?_
      refine V_iadd hC dX1_changeToWanted_35 ?_
      refine V_istore_n hC ([(2, .int (x2 + q6.1)), (0, .ref (adr G g 0)), (1, .int x1), (3, .int x3), (4, .int x4), (5, .int x5)]) dX1_changeToWanted_36 rfl (by decide) rfl ?_
      refine V_iinc hC (x5 + 1) ([(5, .int (x5 + 1)), (2, .int (x2 + q6.1)), (0, .ref (adr G g 0)), (1, .int x1), (3, .int x3), (4, .int x4)]) dX1_changeToWanted_37 5 rfl rfl (by decide) rfl ?_
      refine V_goto hC 16 dX1_changeToWanted_40 (by decide) ?_
      refine V_sub [2, 3, 1, 4, 5, 0] rfl ?_
      exact hk16 _ _ _ h
theorem l_X1_changeToWanted_4 {g : Nat} {rv : Int32} {Mf : Mem} {x1 : Int32} (hC : Cx p s m args c cX1_changeToWanted RX1 6 G) (hr : meth.sig.returnType = some .int) (hlk : meth.locks = false) (hg : g < 6) : ∀ (n : Nat) {x2 : Int32} {x3 : Int32} {M : Mem} (h : L_X1_changeToWanted_4 g x1 n x2 x3 M = some (rv, Mf)), V p l e (rmk 4) s m args below meth c 6 G 0 0 (MQ below (gQ G (some (.int rv)) Mf) args s 0 0 (gA G)) 4 [(0, .ref (adr G g 0)), (1, .int x1), (2, .int x2), (3, .int x3)] [] M := by
  intro n
  induction n with
  | zero => intro x2 x3 M h; cases h
  | succ n ih =>
    intro x2 x3 M h
    have hk4 : ∀ (x2 : Int32) (x3 : Int32) (M : Mem), L_X1_changeToWanted_4 g x1 n x2 x3 M = some (rv, Mf) → V p l e (rmk 4) s m args below meth c 6 G 0 0 (MQ below (gQ G (some (.int rv)) Mf) args s 0 0 (gA G)) 4 [(0, .ref (adr G g 0)), (1, .int x1), (2, .int x2), (3, .int x3)] [] M := fun _ _ _ z => ih z
    refine V_iload_n hC dX1_changeToWanted_4 rfl 3 rfl ?_
    refine V_bipush hC (20 : Int32) dX1_changeToWanted_5 (by decide) ?_
    refine V_icmp_ge hC 63 dX1_changeToWanted_7 (by decide) (fun c1 => ?_) (fun c1 => ?_)
    · have h := ite_t c1 h
      refine V_iload_n hC dX1_changeToWanted_63 rfl 2 rfl ?_
      obtain ⟨rfl, rfl⟩ := Prod.mk.inj (Option.some.inj h)
      exact V_iret hC hr hlk dX1_changeToWanted_64
    · have h := ite_f c1 h
      refine V_iload_n hC dX1_changeToWanted_10 rfl 2 rfl ?_
      refine V_istore hC ([(4, .int x2), (0, .ref (adr G g 0)), (1, .int x1), (2, .int x2), (3, .int x3)]) dX1_changeToWanted_11 (by decide) rfl ?_
      refine V_iconst hC (0 : Int32) dX1_changeToWanted_13 (by decide) ?_
      refine V_istore hC ([(5, .int (0 : Int32)), (4, .int x2), (0, .ref (adr G g 0)), (1, .int x1), (2, .int x2), (3, .int x3)]) dX1_changeToWanted_14 (by decide) rfl ?_
      refine V_sub [2, 3, 4, 5, 1, 0] rfl ?_
      exact l_X1_changeToWanted_16 hC hr hlk hg hk4 FU h
theorem c_X1_changeToWanted {l : Launch} {G : Geo} {g : Nat} {x1 : Int32} {rv : Int32} {Mf : Mem} {M : Mem} (hG : gD G) (hg : g < 6) (h : f_X1_changeToWanted g x1 M = some (rv, Mf)) : Met l yX1_changeToWanted (.code yX1_changeToWanted cX1_changeToWanted 6 (some .int) :: GL) (rmk 4) (gP G [.ref (adr G g 0), .int x1] M) (gQ G (some (.int rv)) Mf) 0 0 (gA G) := by
  refine Met_of (own := RX1) (L := [(0, .ref (adr G g 0)), (1, .int x1)]) hG (by decide +kernel) rfl (Nat.le_of_ble_eq_true rfl) rfl ?_
  intro p e s m args below meth c hC hr hlk
  refine V_iconst hC (0 : Int32) dX1_changeToWanted_0 (by decide) ?_
  refine V_istore_n hC ([(2, .int (0 : Int32)), (0, .ref (adr G g 0)), (1, .int x1)]) dX1_changeToWanted_1 rfl (by decide) rfl ?_
  refine V_iconst hC (0 : Int32) dX1_changeToWanted_2 (by decide) ?_
  refine V_istore_n hC ([(3, .int (0 : Int32)), (2, .int (0 : Int32)), (0, .ref (adr G g 0)), (1, .int x1)]) dX1_changeToWanted_3 rfl (by decide) rfl ?_
  refine V_sub [2, 3, 1, 0] rfl ?_
  exact l_X1_changeToWanted_4 hC hr hlk hg FU h
theorem c_X1_writeNow {l : Launch} {G : Geo} {g : Nat} {x1 : Int32} {x2 : Int32} {x3 : Int32} {rv : Int32} {Mf : Mem} {M : Mem} (hG : gD G) (hg : g < 6) (h : f_X1_writeNow g x1 x2 x3 M = some (rv, Mf)) : Met l yX1_writeNow (.code yX1_writeNow cX1_writeNow 6 (some .int) :: GL) (rmk 5) (gP G [.ref (adr G g 0), .int x1, .int x2, .int x3] M) (gQ G (some (.int rv)) Mf) 0 0 (gA G) := by
  refine Met_of (own := RX1) (L := [(0, .ref (adr G g 0)), (1, .int x1), (2, .int x2), (3, .int x3)]) hG (by decide +kernel) rfl (Nat.le_of_ble_eq_true rfl) rfl ?_
  intro p e s m args below meth c hC hr hlk
  refine V_iload_n hC dX1_writeNow_0 rfl 1 rfl ?_
  refine V_iload_n hC dX1_writeNow_1 rfl 2 rfl ?_
  refine V_cSNr hC [.int x1, .int x2] (c_X8_cellOf (l := l) hC.2.2.2.2.2.2.2 rfl) kd_X8_cellOf gw_447 nw_35 ⟨Nat.le_of_ble_eq_true rfl, Nat.le_of_ble_eq_true rfl⟩ rfl (Nat.le_of_ble_eq_true rfl) dX1_writeNow_2 ⟨Nat.zero_le _, Nat.zero_le _⟩ rfl ?_
  refine V_istore hC ([(4, .int (f_X8_cellOf x1 x2)), (0, .ref (adr G g 0)), (1, .int x1), (2, .int x2), (3, .int x3)]) dX1_writeNow_5 (by decide) rfl ?_
  refine V_aload_n hC dX1_writeNow_7 rfl 1 rfl ?_
  refine V_getR hC (r_d0_0 hg) fw_X1_12 dX1_writeNow_8 ?_
  refine V_iload hC dX1_writeNow_11 0 rfl ?_
  obtain ⟨q2, e2, h⟩ := bind_some h
  refine V_cVr hC [.int (f_X8_cellOf x1 x2)] (c_X7_valueAt (l := l) hC.2.2.2.2.2.2.2 hg e2) kd_X7_valueAt kv_X7_valueAt gw_570 (r_d1_0 hg).o rfl ⟨Nat.le_of_ble_eq_true rfl, Nat.le_of_ble_eq_true rfl⟩ rfl (Nat.le_of_ble_eq_true rfl) dX1_writeNow_13 ⟨Nat.zero_le _, Nat.zero_le _⟩ rfl ?_
  refine V_istore hC ([(5, .int q2), (4, .int (f_X8_cellOf x1 x2)), (0, .ref (adr G g 0)), (1, .int x1), (2, .int x2), (3, .int x3)]) dX1_writeNow_16 (by decide) rfl ?_
  refine V_aload_n hC dX1_writeNow_18 rfl 2 rfl ?_
  obtain ⟨q3, e3, h⟩ := bind_some h
  refine V_cVv hC [] (c_X1_wantPresent (l := l) hC.2.2.2.2.2.2.2 hg e3) kd_X1_wantPresent kv_X1_wantPresent gw_574 (r_d0_0 hg).o rfl ⟨Nat.le_of_ble_eq_true rfl, Nat.le_of_ble_eq_true rfl⟩ rfl (Nat.le_of_ble_eq_true rfl) dX1_writeNow_19 ⟨Nat.zero_le _, Nat.zero_le _⟩ rfl ?_
  refine V_aload_n hC dX1_writeNow_22 rfl 2 rfl ?_
  refine V_iload hC dX1_writeNow_23 1 rfl ?_
  refine V_iload_n hC dX1_writeNow_25 rfl 5 rfl ?_
  obtain ⟨q4, e4, h⟩ := bind_some h
  refine V_cVv hC [.int (f_X8_cellOf x1 x2), .int x3] (c_X1_want (l := l) hC.2.2.2.2.2.2.2 hg e4) kd_X1_want kv_X1_want gw_578 (r_d0_0 hg).o rfl ⟨Nat.le_of_ble_eq_true rfl, Nat.le_of_ble_eq_true rfl⟩ rfl (Nat.le_of_ble_eq_true rfl) dX1_writeNow_26 ⟨Nat.zero_le _, Nat.zero_le _⟩ rfl ?_
  refine V_aload_n hC dX1_writeNow_29 rfl 2 rfl ?_
  refine V_iconst hC ((-1) : Int32) dX1_writeNow_30 (by decide) ?_
  obtain ⟨q5, e5, h⟩ := bind_some h
  refine V_cVr hC [.int ((-1) : Int32)] (c_X1_changeToWanted (l := l) (rv := q5.1) (Mf := q5.2) hC.2.2.2.2.2.2.2 hg e5) kd_X1_changeToWanted kv_X1_changeToWanted gw_583 (r_d0_0 hg).o rfl ⟨Nat.le_of_ble_eq_true rfl, Nat.le_of_ble_eq_true rfl⟩ rfl (Nat.le_of_ble_eq_true rfl) dX1_writeNow_31 ⟨Nat.zero_le _, Nat.zero_le _⟩ rfl ?_
  refine V_pop hC dX1_writeNow_34 rfl ?_
  refine V_iload hC dX1_writeNow_35 0 rfl ?_
  obtain ⟨rfl, rfl⟩ := Prod.mk.inj (Option.some.inj h)
  exact V_iret hC hr hlk dX1_writeNow_37
theorem b_X2_turnBack_61 {g : Nat} {Mf : Mem} {k7 : Int32 → Mem → Option Mem} {x1 : Int32} {x3 : Int32} {M : Mem} (hC : Cx p s m args c cX2_turnBack RX2 5 G) (hr : meth.sig.returnType = none) (hlk : meth.locks = false) (hg : g < 6) (hk7 : ∀ (x3 : Int32) (M : Mem), k7 x3 M = some Mf → V p l e (rmk 2) s m args below meth c 5 G 0 0 (MQ below (gQ G none Mf) args s 0 0 (gA G)) 7 [(0, .ref (adr G g 14)), (1, .int x1), (2, .ref (adr G g 17)), (3, .int x3)] [] M) (h : B_X2_turnBack_61 g k7 x1 x3 M = some Mf) : V p l e (rmk 2) s m args below meth c 5 G 0 0 (MQ below (gQ G none Mf) args s 0 0 (gA G)) 61 [(0, .ref (adr G g 14)), (1, .int x1), (2, .ref (adr G g 17)), (3, .int x3)] [] M := by
  refine V_iinc hC (x3 + ((-1) : Int32)) ([(3, .int (x3 + ((-1) : Int32))), (0, .ref (adr G g 14)), (1, .int x1), (2, .ref (adr G g 17))]) dX2_turnBack_61 3 rfl rfl (by decide) rfl ?_
  refine V_goto hC 7 dX2_turnBack_64 (by decide) ?_
  refine V_sub [1, 2, 3, 0] rfl ?_
  exact hk7 _ _ h
theorem l_X2_turnBack_7 {g : Nat} {Mf : Mem} {x1 : Int32} (hC : Cx p s m args c cX2_turnBack RX2 5 G) (hr : meth.sig.returnType = none) (hlk : meth.locks = false) (hg : g < 6) : ∀ (n : Nat) {x3 : Int32} {M : Mem} (h : L_X2_turnBack_7 g x1 n x3 M = some Mf), V p l e (rmk 2) s m args below meth c 5 G 0 0 (MQ below (gQ G none Mf) args s 0 0 (gA G)) 7 [(0, .ref (adr G g 14)), (1, .int x1), (2, .ref (adr G g 17)), (3, .int x3)] [] M := by
  intro n
  induction n with
  | zero => intro x3 M h; cases h
  | succ n ih =>
    intro x3 M h
    have hk7 : ∀ (x3 : Int32) (M : Mem), L_X2_turnBack_7 g x1 n x3 M = some Mf → V p l e (rmk 2) s m args below meth c 5 G 0 0 (MQ below (gQ G none Mf) args s 0 0 (gA G)) 7 [(0, .ref (adr G g 14)), (1, .int x1), (2, .ref (adr G g 17)), (3, .int x3)] [] M := fun _ _ z => ih z
    refine V_iload_n hC dX2_turnBack_7 rfl 3 rfl ?_
    refine V_if_lt hC 67 dX2_turnBack_8 (by decide) (fun c1 => ?_) (fun c1 => ?_)
    · have h := ite_t c1 h
      obtain rfl := Option.some.inj h
      exact V_vret hC hr hlk dX2_turnBack_67
    · have h := ite_f c1 h
      refine V_aload_n hC dX2_turnBack_11 rfl 0 rfl ?_
      refine V_iload_n hC dX2_turnBack_12 rfl 3 rfl ?_
      refine V_iconst hC (1 : Int32) dX2_turnBack_13 (by decide) ?_
      obtain ⟨q2, e2, h⟩ := bind_some h
      refine V_cVr hC [.int x3, .int (1 : Int32)] (c_X2_fact (l := l) hC.2.2.2.2.2.2.2 hg e2) kd_X2_fact kv_X2_fact gw_496 (r_d14_0 hg).o rfl ⟨Nat.le_of_ble_eq_true rfl, Nat.le_of_ble_eq_true rfl⟩ rfl (Nat.le_of_ble_eq_true rfl) dX2_turnBack_14 ⟨Nat.zero_le _, Nat.zero_le _⟩ rfl ?_
      refine V_aload_n hC dX2_turnBack_17 rfl 0 rfl ?_
      refine V_iload_n hC dX2_turnBack_18 rfl 3 rfl ?_
      refine V_iconst hC (2 : Int32) dX2_turnBack_19 (by decide) ?_
      obtain ⟨q3, e3, h⟩ := bind_some h
      refine V_cVr hC [.int x3, .int (2 : Int32)] (c_X2_fact (l := l) hC.2.2.2.2.2.2.2 hg e3) kd_X2_fact kv_X2_fact gw_496 (r_d14_0 hg).o rfl ⟨Nat.le_of_ble_eq_true rfl, Nat.le_of_ble_eq_true rfl⟩ rfl (Nat.le_of_ble_eq_true rfl) dX2_turnBack_20 ⟨Nat.zero_le _, Nat.zero_le _⟩ rfl ?_
      refine V_cSNr hC [.int q2, .int q3] (c_X8_cellOf (l := l) hC.2.2.2.2.2.2.2 rfl) kd_X8_cellOf gw_447 nw_42 ⟨Nat.le_of_ble_eq_true rfl, Nat.le_of_ble_eq_true rfl⟩ rfl (Nat.le_of_ble_eq_true rfl) dX2_turnBack_23 ⟨Nat.zero_le _, Nat.zero_le _⟩ rfl ?_
      refine V_istore hC ([(4, .int (f_X8_cellOf q2 q3)), (0, .ref (adr G g 14)), (1, .int x1), (2, .ref (adr G g 17)), (3, .int x3)]) dX2_turnBack_26 (by decide) rfl ?_
      refine V_aload_n hC dX2_turnBack_28 rfl 1 rfl ?_
      refine V_iload_n hC dX2_turnBack_29 rfl 4 rfl ?_
      refine V_iconst hC (0 : Int32) dX2_turnBack_30 (by decide) ?_
      obtain ⟨q5, e5, h⟩ := bind_some h
      refine V_cVr hC [.int x3, .int (0 : Int32)] (c_X2_fact (l := l) hC.2.2.2.2.2.2.2 hg e5) kd_X2_fact kv_X2_fact gw_496 (r_d14_0 hg).o rfl ⟨Nat.le_of_ble_eq_true rfl, Nat.le_of_ble_eq_true rfl⟩ rfl (Nat.le_of_ble_eq_true rfl) dX2_turnBack_31 ⟨Nat.zero_le _, Nat.zero_le _⟩ rfl ?_
      refine V_iload_n hC dX2_turnBack_34 rfl 2 rfl ?_
      refine V_icmp_le hC 61 dX2_turnBack_35 (by decide) (fun c6 => ?_) (fun c6 => ?_)
      · have h := ite_t c6 h
        refine V_sub [1, 2, 3, 4] rfl ?_
        exact b_X2_turnBack_61 hC hr hlk hg hk7 h
      · have h := ite_f c6 h
        refine V_iload hC dX2_turnBack_38 0 rfl ?_
        refine V_iconst hC (0 : Int32) dX2_turnBack_40 (by decide) ?_
        refine V_aload_n hC dX2_turnBack_41 rfl 3 rfl ?_
        refine V_alen hC (a_d17 hg) dX2_turnBack_42 ?_
        refine V_iconst hC (1 : Int32) dX2_turnBack_43 (by decide) ?_
        refine V_isub hC dX2_turnBack_44 ?_
        refine V_cSNr hC [.int (f_X8_cellOf q2 q3), .int (0 : Int32), .int ((Int32.ofNat 120) - (1 : Int32))] (c_X8_isWithin (l := l) hC.2.2.2.2.2.2.2 rfl) kd_X8_isWithin gw_444 nw_43 ⟨Nat.le_of_ble_eq_true rfl, Nat.le_of_ble_eq_true rfl⟩ rfl (Nat.le_of_ble_eq_true rfl) dX2_turnBack_45 ⟨Nat.zero_le _, Nat.zero_le _⟩ rfl ?_
        refine V_if_eq hC 61 dX2_turnBack_48 (by decide) (fun c8 => ?_) (fun c8 => ?_)
        · have h := ite_t c8 h
          refine V_sub [1, 2, 3, 4] rfl ?_
          exact b_X2_turnBack_61 hC hr hlk hg hk7 h
        · have h := ite_f c8 h
          refine V_aload_n hC dX2_turnBack_51 rfl 3 rfl ?_
          refine V_iload hC dX2_turnBack_52 0 rfl ?_
          refine V_aload_n hC dX2_turnBack_54 rfl 1 rfl ?_
          refine V_iload_n hC dX2_turnBack_55 rfl 4 rfl ?_
          refine V_iconst hC (3 : Int32) dX2_turnBack_56 (by decide) ?_
          obtain ⟨q9, e9, h⟩ := bind_some h
          refine V_cVr hC [.int x3, .int (3 : Int32)] (c_X2_fact (l := l) hC.2.2.2.2.2.2.2 hg e9) kd_X2_fact kv_X2_fact gw_496 (r_d14_0 hg).o rfl ⟨Nat.le_of_ble_eq_true rfl, Nat.le_of_ble_eq_true rfl⟩ rfl (Nat.le_of_ble_eq_true rfl) dX2_turnBack_57 ⟨Nat.zero_le _, Nat.zero_le _⟩ rfl ?_
          obtain ⟨c10, h⟩ := ite_some h
          refine V_iast hC (a_d17 hg) c10 dX2_turnBack_60 ?_
          refine V_sub [1, 2, 3, 4] rfl ?_
          exact b_X2_turnBack_61 hC hr hlk hg hk7 h
theorem c_X2_turnBack {l : Launch} {G : Geo} {g : Nat} {x1 : Int32} {Mf : Mem} {M : Mem} (hG : gD G) (hg : g < 6) (h : f_X2_turnBack g x1 M = some Mf) : Met l yX2_turnBack (.code yX2_turnBack cX2_turnBack 5 none :: GL) (rmk 2) (gP G [.ref (adr G g 14), .int x1, .ref (adr G g 17)] M) (gQ G none Mf) 0 0 (gA G) := by
  refine Met_of (own := RX2) (L := [(0, .ref (adr G g 14)), (1, .int x1), (2, .ref (adr G g 17))]) hG (by decide +kernel) rfl (Nat.le_of_ble_eq_true rfl) rfl ?_
  intro p e s m args below meth c hC hr hlk
  refine V_aload_n hC dX2_turnBack_0 rfl 0 rfl ?_
  refine V_getI hC (f_d14_2 hg) fw_X2_23 dX2_turnBack_1 ?_
  refine V_iconst hC (1 : Int32) dX2_turnBack_4 (by decide) ?_
  refine V_isub hC dX2_turnBack_5 ?_
  refine V_istore_n hC ([(3, .int ((M.1 g 14 2) - (1 : Int32))), (0, .ref (adr G g 14)), (1, .int x1), (2, .ref (adr G g 17))]) dX2_turnBack_6 rfl (by decide) rfl ?_
  refine V_sub [1, 2, 3, 0] rfl ?_
  exact l_X2_turnBack_7 hC hr hlk hg FU h
theorem c_X1_valueAtEndOf {l : Launch} {G : Geo} {g : Nat} {x1 : Int32} {x2 : Int32} {rv : Int32} {Mf : Mem} {M : Mem} (hG : gD G) (hg : g < 6) (h : f_X1_valueAtEndOf g x1 x2 M = some (rv, Mf)) : Met l yX1_valueAtEndOf (.code yX1_valueAtEndOf cX1_valueAtEndOf 3 (some .int) :: GL) (rmk 4) (gP G [.ref (adr G g 0), .int x1, .int x2] M) (gQ G (some (.int rv)) Mf) 0 0 (gA G) := by
  refine Met_of (own := RX1) (L := [(0, .ref (adr G g 0)), (1, .int x1), (2, .int x2)]) hG (by decide +kernel) rfl (Nat.le_of_ble_eq_true rfl) rfl ?_
  intro p e s m args below meth c hC hr hlk
  refine V_aload_n hC dX1_valueAtEndOf_0 rfl 0 rfl ?_
  obtain ⟨q1, e1, h⟩ := bind_some h
  refine V_cVv hC [] (c_X1_wantPresent (l := l) hC.2.2.2.2.2.2.2 hg e1) kd_X1_wantPresent kv_X1_wantPresent gw_574 (r_d0_0 hg).o rfl ⟨Nat.le_of_ble_eq_true rfl, Nat.le_of_ble_eq_true rfl⟩ rfl (Nat.le_of_ble_eq_true rfl) dX1_valueAtEndOf_1 ⟨Nat.zero_le _, Nat.zero_le _⟩ rfl ?_
  refine V_aload_n hC dX1_valueAtEndOf_4 rfl 0 rfl ?_
  refine V_getR hC (r_d0_3 hg) fw_X1_35 dX1_valueAtEndOf_5 ?_
  refine V_iload_n hC dX1_valueAtEndOf_8 rfl 1 rfl ?_
  refine V_aload_n hC dX1_valueAtEndOf_9 rfl 0 rfl ?_
  refine V_getR hC (r_d0_5 hg) fw_X1_43 dX1_valueAtEndOf_10 ?_
  obtain ⟨q2, e2, h⟩ := bind_some h
  refine V_cVv hC [.int x1, .ref (adr G g 17)] (c_X2_turnBack (l := l) hC.2.2.2.2.2.2.2 hg e2) kd_X2_turnBack kv_X2_turnBack gw_872 (r_d14_0 hg).o rfl ⟨Nat.le_of_ble_eq_true rfl, Nat.le_of_ble_eq_true rfl⟩ rfl (Nat.le_of_ble_eq_true rfl) dX1_valueAtEndOf_13 ⟨Nat.zero_le _, Nat.zero_le _⟩ rfl ?_
  refine V_iload_n hC dX1_valueAtEndOf_16 rfl 2 rfl ?_
  refine V_cSNr hC [.int x2] (c_X8_isCell (l := l) hC.2.2.2.2.2.2.2 rfl) kd_X8_isCell gw_454 nw_36 ⟨Nat.le_of_ble_eq_true rfl, Nat.le_of_ble_eq_true rfl⟩ rfl (Nat.le_of_ble_eq_true rfl) dX1_valueAtEndOf_17 ⟨Nat.zero_le _, Nat.zero_le _⟩ rfl ?_
  refine V_if_eq hC 32 dX1_valueAtEndOf_20 (by decide) (fun c4 => ?_) (fun c4 => ?_)
  · have h := ite_t c4 h
    refine V_iconst hC (0 : Int32) dX1_valueAtEndOf_32 (by decide) ?_
    obtain ⟨rfl, rfl⟩ := Prod.mk.inj (Option.some.inj h)
    exact V_iret hC hr hlk dX1_valueAtEndOf_33
  · have h := ite_f c4 h
    refine V_aload_n hC dX1_valueAtEndOf_23 rfl 0 rfl ?_
    refine V_getR hC (r_d0_5 hg) fw_X1_43 dX1_valueAtEndOf_24 ?_
    refine V_iload_n hC dX1_valueAtEndOf_27 rfl 2 rfl ?_
    obtain ⟨c5, h⟩ := ite_some h
    refine V_iald hC (a_d17 hg) c5 dX1_valueAtEndOf_28 ?_
    refine V_goto hC 33 dX1_valueAtEndOf_29 (by decide) ?_
    obtain ⟨rfl, rfl⟩ := Prod.mk.inj (Option.some.inj h)
    exact V_iret hC hr hlk dX1_valueAtEndOf_33
theorem b_X1_revertFault_30 {g : Nat} {rv : Int32} {z0 : Int32} {z1 : Int32} {z2 : Int32} {M : Mem} (hC : Cx p s m args c cX1_revertFault RX1 3 G) (hr : meth.sig.returnType = some .int) (hlk : meth.locks = false) (hg : g < 6) (h : B_X1_revertFault_30 g z0 z1 z2 M = some rv) : V p l e (rmk 4) s m args below meth c 3 G 0 0 (MQ below (gQ G (some (.int rv)) M) args s 0 0 (gA G)) 30 [] [.int z0, .int z1, .int z2] M := by
  refine V_cSNr hC [.int z2, .int z1, .int z0] (c_X8_faultOf (l := l) hC.2.2.2.2.2.2.2 rfl) kd_X8_faultOf gw_289 nw_22 ⟨Nat.le_of_ble_eq_true rfl, Nat.le_of_ble_eq_true rfl⟩ rfl (Nat.le_of_ble_eq_true rfl) dX1_revertFault_30 ⟨Nat.zero_le _, Nat.zero_le _⟩ rfl ?_
  obtain rfl := Option.some.inj h
  exact V_iret hC hr hlk dX1_revertFault_33
theorem c_X1_revertFault {l : Launch} {G : Geo} {g : Nat} {x1 : Int32} {x2 : Int32} {rv : Int32} {M : Mem} (hG : gD G) (hg : g < 6) (h : f_X1_revertFault g x1 x2 M = some rv) : Met l yX1_revertFault (.code yX1_revertFault cX1_revertFault 3 (some .int) :: GL) (rmk 4) (gP G [.ref (adr G g 0), .int x1, .int x2] M) (gQ G (some (.int rv)) M) 0 0 (gA G) := by
  refine Met_of (own := RX1) (L := [(0, .ref (adr G g 0)), (1, .int x1), (2, .int x2)]) hG (by decide +kernel) rfl (Nat.le_of_ble_eq_true rfl) rfl ?_
  intro p e s m args below meth c hC hr hlk
  refine V_aload_n hC dX1_revertFault_0 rfl 0 rfl ?_
  refine V_getR hC (r_d0_0 hg) fw_X1_12 dX1_revertFault_1 ?_
  refine V_iload_n hC dX1_revertFault_4 rfl 1 rfl ?_
  obtain ⟨q1, e1, h⟩ := bind_some h
  refine V_cVr hC [.int x1] (c_X7_has (l := l) hC.2.2.2.2.2.2.2 hg e1) kd_X7_has kv_X7_has gw_248 (r_d1_0 hg).o rfl ⟨Nat.le_of_ble_eq_true rfl, Nat.le_of_ble_eq_true rfl⟩ rfl (Nat.le_of_ble_eq_true rfl) dX1_revertFault_5 ⟨Nat.zero_le _, Nat.zero_le _⟩ rfl ?_
  refine V_iload_n hC dX1_revertFault_8 rfl 2 rfl ?_
  refine V_iconst hC (0 : Int32) dX1_revertFault_9 (by decide) ?_
  refine V_aload_n hC dX1_revertFault_10 rfl 0 rfl ?_
  refine V_getI hC (f_d0_6 hg) fw_X1_63 dX1_revertFault_11 ?_
  refine V_cSNr hC [.int x2, .int (0 : Int32), .int (M.1 g 0 6)] (c_X8_isWithin (l := l) hC.2.2.2.2.2.2.2 rfl) kd_X8_isWithin gw_444 nw_34 ⟨Nat.le_of_ble_eq_true rfl, Nat.le_of_ble_eq_true rfl⟩ rfl (Nat.le_of_ble_eq_true rfl) dX1_revertFault_14 ⟨Nat.zero_le _, Nat.zero_le _⟩ rfl ?_
  refine V_aload_n hC dX1_revertFault_17 rfl 0 rfl ?_
  refine V_iload_n hC dX1_revertFault_18 rfl 1 rfl ?_
  obtain ⟨q3, e3, h⟩ := bind_some h
  refine V_cVr hC [.int x1] (c_X1_isHeldAround (l := l) hC.2.2.2.2.2.2.2 hg e3) kd_X1_isHeldAround kv_X1_isHeldAround gw_819 (r_d0_0 hg).o rfl ⟨Nat.le_of_ble_eq_true rfl, Nat.le_of_ble_eq_true rfl⟩ rfl (Nat.le_of_ble_eq_true rfl) dX1_revertFault_19 ⟨Nat.zero_le _, Nat.zero_le _⟩ rfl ?_
  refine V_if_ne hC 29 dX1_revertFault_22 (by decide) (fun c4 => ?_) (fun c4 => ?_)
  · have h := ite_f c4 h
    refine V_iconst hC (0 : Int32) dX1_revertFault_29 (by decide) ?_
    refine V_sub [] rfl ?_
    exact b_X1_revertFault_30 hC hr hlk hg h
  · have h := ite_t c4 h
    refine V_iconst hC (1 : Int32) dX1_revertFault_25 (by decide) ?_
    refine V_goto hC 30 dX1_revertFault_26 (by decide) ?_
    refine V_sub [] rfl ?_
    exact b_X1_revertFault_30 hC hr hlk hg h
theorem b_X1_revertNow_62 {g : Nat} {rv : Int32} {Mf : Mem} {k28 : Int32 → Mem → Option (Int32 × Mem)} {x3 : Int32} {x4 : Int32} {M : Mem} (hC : Cx p s m args c cX1_revertNow RX1 5 G) (hr : meth.sig.returnType = some .int) (hlk : meth.locks = false) (hg : g < 6) (hk28 : ∀ (x4 : Int32) (M : Mem), k28 x4 M = some (rv, Mf) → V p l e (rmk 5) s m args below meth c 5 G 0 0 (MQ below (gQ G (some (.int rv)) Mf) args s 0 0 (gA G)) 28 [(0, .ref (adr G g 0)), (3, .int x3), (4, .int x4)] [] M) (h : B_X1_revertNow_62 g k28 x3 x4 M = some (rv, Mf)) : V p l e (rmk 5) s m args below meth c 5 G 0 0 (MQ below (gQ G (some (.int rv)) Mf) args s 0 0 (gA G)) 62 [(0, .ref (adr G g 0)), (3, .int x3), (4, .int x4)] [] M := by
  refine V_iinc hC (x4 + 1) ([(4, .int (x4 + 1)), (0, .ref (adr G g 0)), (3, .int x3)]) dX1_revertNow_62 2 rfl rfl (by decide) rfl ?_
  refine V_goto hC 28 dX1_revertNow_65 (by decide) ?_
  refine V_sub [1, 2, 0] rfl ?_
  exact hk28 _ _ h
theorem l_X1_revertNow_28 {g : Nat} {rv : Int32} {Mf : Mem} {x3 : Int32} (hC : Cx p s m args c cX1_revertNow RX1 5 G) (hr : meth.sig.returnType = some .int) (hlk : meth.locks = false) (hg : g < 6) : ∀ (n : Nat) {x4 : Int32} {M : Mem} (h : L_X1_revertNow_28 g x3 n x4 M = some (rv, Mf)), V p l e (rmk 5) s m args below meth c 5 G 0 0 (MQ below (gQ G (some (.int rv)) Mf) args s 0 0 (gA G)) 28 [(0, .ref (adr G g 0)), (3, .int x3), (4, .int x4)] [] M := by
  intro n
  induction n with
  | zero => intro x4 M h; cases h
  | succ n ih =>
    intro x4 M h
    have hk28 : ∀ (x4 : Int32) (M : Mem), L_X1_revertNow_28 g x3 n x4 M = some (rv, Mf) → V p l e (rmk 5) s m args below meth c 5 G 0 0 (MQ below (gQ G (some (.int rv)) Mf) args s 0 0 (gA G)) 28 [(0, .ref (adr G g 0)), (3, .int x3), (4, .int x4)] [] M := fun _ _ z => ih z
    refine V_iload hC dX1_revertNow_28 2 rfl ?_
    refine V_bipush hC (120 : Int32) dX1_revertNow_30 (by decide) ?_
    refine V_icmp_ge hC 68 dX1_revertNow_32 (by decide) (fun c4 => ?_) (fun c4 => ?_)
    · have h := ite_t c4 h
      refine V_aload_n hC dX1_revertNow_68 rfl 0 rfl ?_
      refine V_iconst hC ((-1) : Int32) dX1_revertNow_69 (by decide) ?_
      obtain ⟨q5, e5, h⟩ := bind_some h
      refine V_cVr hC [.int ((-1) : Int32)] (c_X1_changeToWanted (l := l) (rv := q5.1) (Mf := q5.2) hC.2.2.2.2.2.2.2 hg e5) kd_X1_changeToWanted kv_X1_changeToWanted gw_583 (r_d0_0 hg).o rfl ⟨Nat.le_of_ble_eq_true rfl, Nat.le_of_ble_eq_true rfl⟩ rfl (Nat.le_of_ble_eq_true rfl) dX1_revertNow_70 ⟨Nat.zero_le _, Nat.zero_le _⟩ rfl ?_
      obtain ⟨rfl, rfl⟩ := Prod.mk.inj (Option.some.inj h)
      exact V_iret hC hr hlk dX1_revertNow_73
    · have h := ite_f c4 h
      refine V_iload_n hC dX1_revertNow_35 rfl 1 rfl ?_
      refine V_iload hC dX1_revertNow_36 2 rfl ?_
      refine V_bipush hC (6 : Int32) dX1_revertNow_38 (by decide) ?_
      refine V_idiv hC dX1_revertNow_40 (by decide) ?_
      refine V_cSNr hC [.int x3, .int (x4 / (6 : Int32))] (c_X8_hasBit (l := l) hC.2.2.2.2.2.2.2 rfl) kd_X8_hasBit gw_505 nw_37 ⟨Nat.le_of_ble_eq_true rfl, Nat.le_of_ble_eq_true rfl⟩ rfl (Nat.le_of_ble_eq_true rfl) dX1_revertNow_41 ⟨Nat.zero_le _, Nat.zero_le _⟩ rfl ?_
      refine V_if_ne hC 62 dX1_revertNow_44 (by decide) (fun c7 => ?_) (fun c7 => ?_)
      · have h := ite_f c7 h
        exact b_X1_revertNow_62 hC hr hlk hg hk28 h
      · have h := ite_t c7 h
        refine V_aload_n hC dX1_revertNow_47 rfl 0 rfl ?_
        refine V_iload hC dX1_revertNow_48 2 rfl ?_
        refine V_aload_n hC dX1_revertNow_50 rfl 0 rfl ?_
        refine V_getR hC (r_d0_0 hg) fw_X1_12 dX1_revertNow_51 ?_
        refine V_iload hC dX1_revertNow_54 2 rfl ?_
        obtain ⟨q8, e8, h⟩ := bind_some h
        refine V_cVr hC [.int x4] (c_X7_valueAt (l := l) hC.2.2.2.2.2.2.2 hg e8) kd_X7_valueAt kv_X7_valueAt gw_570 (r_d1_0 hg).o rfl ⟨Nat.le_of_ble_eq_true rfl, Nat.le_of_ble_eq_true rfl⟩ rfl (Nat.le_of_ble_eq_true rfl) dX1_revertNow_56 ⟨Nat.zero_le _, Nat.zero_le _⟩ rfl ?_
        obtain ⟨q9, e9, h⟩ := bind_some h
        refine V_cVv hC [.int x4, .int q8] (c_X1_want (l := l) hC.2.2.2.2.2.2.2 hg e9) kd_X1_want kv_X1_want gw_578 (r_d0_0 hg).o rfl ⟨Nat.le_of_ble_eq_true rfl, Nat.le_of_ble_eq_true rfl⟩ rfl (Nat.le_of_ble_eq_true rfl) dX1_revertNow_59 ⟨Nat.zero_le _, Nat.zero_le _⟩ rfl ?_
        exact b_X1_revertNow_62 hC hr hlk hg hk28 h
theorem c_X1_revertNow {l : Launch} {G : Geo} {g : Nat} {x1 : Int32} {x2 : Int32} {rv : Int32} {Mf : Mem} {M : Mem} (hG : gD G) (hg : g < 6) (h : f_X1_revertNow g x1 x2 M = some (rv, Mf)) : Met l yX1_revertNow (.code yX1_revertNow cX1_revertNow 5 (some .int) :: GL) (rmk 5) (gP G [.ref (adr G g 0), .int x1, .int x2] M) (gQ G (some (.int rv)) Mf) 0 0 (gA G) := by
  refine Met_of (own := RX1) (L := [(0, .ref (adr G g 0)), (1, .int x1), (2, .int x2)]) hG (by decide +kernel) rfl (Nat.le_of_ble_eq_true rfl) rfl ?_
  intro p e s m args below meth c hC hr hlk
  refine V_aload_n hC dX1_revertNow_0 rfl 0 rfl ?_
  obtain ⟨q1, e1, h⟩ := bind_some h
  refine V_cVv hC [] (c_X1_wantPresent (l := l) hC.2.2.2.2.2.2.2 hg e1) kd_X1_wantPresent kv_X1_wantPresent gw_574 (r_d0_0 hg).o rfl ⟨Nat.le_of_ble_eq_true rfl, Nat.le_of_ble_eq_true rfl⟩ rfl (Nat.le_of_ble_eq_true rfl) dX1_revertNow_1 ⟨Nat.zero_le _, Nat.zero_le _⟩ rfl ?_
  refine V_aload_n hC dX1_revertNow_4 rfl 0 rfl ?_
  refine V_getR hC (r_d0_3 hg) fw_X1_35 dX1_revertNow_5 ?_
  refine V_iload_n hC dX1_revertNow_8 rfl 2 rfl ?_
  refine V_aload_n hC dX1_revertNow_9 rfl 0 rfl ?_
  refine V_getR hC (r_d0_5 hg) fw_X1_43 dX1_revertNow_10 ?_
  obtain ⟨q2, e2, h⟩ := bind_some h
  refine V_cVv hC [.int x2, .ref (adr G g 17)] (c_X2_turnBack (l := l) hC.2.2.2.2.2.2.2 hg e2) kd_X2_turnBack kv_X2_turnBack gw_872 (r_d14_0 hg).o rfl ⟨Nat.le_of_ble_eq_true rfl, Nat.le_of_ble_eq_true rfl⟩ rfl (Nat.le_of_ble_eq_true rfl) dX1_revertNow_13 ⟨Nat.zero_le _, Nat.zero_le _⟩ rfl ?_
  refine V_aload_n hC dX1_revertNow_16 rfl 0 rfl ?_
  refine V_getR hC (r_d0_0 hg) fw_X1_12 dX1_revertNow_17 ?_
  refine V_iload_n hC dX1_revertNow_20 rfl 1 rfl ?_
  obtain ⟨q3, e3, h⟩ := bind_some h
  refine V_cVr hC [.int x1] (c_X7_subtreeOf (l := l) hC.2.2.2.2.2.2.2 hg e3) kd_X7_subtreeOf kv_X7_subtreeOf gw_491 (r_d1_0 hg).o rfl ⟨Nat.le_of_ble_eq_true rfl, Nat.le_of_ble_eq_true rfl⟩ rfl (Nat.le_of_ble_eq_true rfl) dX1_revertNow_21 ⟨Nat.zero_le _, Nat.zero_le _⟩ rfl ?_
  refine V_istore_n hC ([(3, .int q3), (0, .ref (adr G g 0)), (1, .int x1), (2, .int x2)]) dX1_revertNow_24 rfl (by decide) rfl ?_
  refine V_iconst hC (0 : Int32) dX1_revertNow_25 (by decide) ?_
  refine V_istore hC ([(4, .int (0 : Int32)), (3, .int q3), (0, .ref (adr G g 0)), (1, .int x1), (2, .int x2)]) dX1_revertNow_26 (by decide) rfl ?_
  refine V_sub [2, 1, 0] rfl ?_
  exact l_X1_revertNow_28 hC hr hlk hg FU h
theorem b_X1_holdsAround_81 {g : Nat} {rv : Int32} {k28 : Int32 → Option Int32} {x1 : Int32} {x4 : Int32} {x5 : Int32} {M : Mem} (hC : Cx p s m args c cX1_holdsAround RX1 6 G) (hr : meth.sig.returnType = some .boolean) (hlk : meth.locks = false) (hg : g < 6) (hk28 : ∀ (x5 : Int32), k28 x5 = some rv → V p l e (rmk 2) s m args below meth c 6 G 0 0 (MQ below (gQ G (some (.int rv)) M) args s 0 0 (gA G)) 28 [(0, .ref (adr G g 0)), (1, .int x1), (4, .int x4), (5, .int x5)] [] M) (h : B_X1_holdsAround_81 g k28 x1 x4 x5 M = some rv) : V p l e (rmk 2) s m args below meth c 6 G 0 0 (MQ below (gQ G (some (.int rv)) M) args s 0 0 (gA G)) 81 [(0, .ref (adr G g 0)), (1, .int x1), (4, .int x4), (5, .int x5)] [] M := by
  refine V_iinc hC (x5 + 1) ([(5, .int (x5 + 1)), (0, .ref (adr G g 0)), (1, .int x1), (4, .int x4)]) dX1_holdsAround_81 3 rfl rfl (by decide) rfl ?_
  refine V_goto hC 28 dX1_holdsAround_84 (by decide) ?_
  refine V_sub [1, 2, 3, 0] rfl ?_
  exact hk28 _ h
theorem l_X1_holdsAround_28 {g : Nat} {rv : Int32} {x1 : Int32} {x4 : Int32} {M : Mem} (hC : Cx p s m args c cX1_holdsAround RX1 6 G) (hr : meth.sig.returnType = some .boolean) (hlk : meth.locks = false) (hg : g < 6) : ∀ (n : Nat) {x5 : Int32} (h : L_X1_holdsAround_28 g x1 x4 M n x5 = some rv), V p l e (rmk 2) s m args below meth c 6 G 0 0 (MQ below (gQ G (some (.int rv)) M) args s 0 0 (gA G)) 28 [(0, .ref (adr G g 0)), (1, .int x1), (4, .int x4), (5, .int x5)] [] M := by
  intro n
  induction n with
  | zero => intro x5 h; cases h
  | succ n ih =>
    intro x5 h
    have hk28 : ∀ (x5 : Int32), L_X1_holdsAround_28 g x1 x4 M n x5 = some rv → V p l e (rmk 2) s m args below meth c 6 G 0 0 (MQ below (gQ G (some (.int rv)) M) args s 0 0 (gA G)) 28 [(0, .ref (adr G g 0)), (1, .int x1), (4, .int x4), (5, .int x5)] [] M := fun _ z => ih z
    refine V_iload hC dX1_holdsAround_28 3 rfl ?_
    refine V_bipush hC (10 : Int32) dX1_holdsAround_30 (by decide) ?_
    refine V_icmp_ge hC 87 dX1_holdsAround_32 (by decide) (fun c3 => ?_) (fun c3 => ?_)
    · have h := ite_t c3 h
      refine V_iconst hC (0 : Int32) dX1_holdsAround_87 (by decide) ?_
      obtain rfl := Option.some.inj h
      exact V_zret hC hr hlk (Or.inl rfl) dX1_holdsAround_88
    · have h := ite_f c3 h
      refine V_aload_n hC dX1_holdsAround_35 rfl 0 rfl ?_
      refine V_getR hC (r_d0_1 hg) fw_X1_21 dX1_holdsAround_36 ?_
      refine V_iload hC dX1_holdsAround_39 3 rfl ?_
      obtain ⟨q4, e4, h⟩ := bind_some h
      refine V_cVr hC [.int x5] (c_X0_isHeld (l := l) hC.2.2.2.2.2.2.2 hg e4) kd_X0_isHeld kv_X0_isHeld gw_615 (r_d8_0 hg).o rfl ⟨Nat.le_of_ble_eq_true rfl, Nat.le_of_ble_eq_true rfl⟩ rfl (Nat.le_of_ble_eq_true rfl) dX1_holdsAround_41 ⟨Nat.zero_le _, Nat.zero_le _⟩ rfl ?_
      refine V_if_eq hC 81 dX1_holdsAround_44 (by decide) (fun c5 => ?_) (fun c5 => ?_)
      · have h := ite_t c5 h
        exact b_X1_holdsAround_81 hC hr hlk hg hk28 h
      · have h := ite_f c5 h
        refine V_aload_n hC dX1_holdsAround_47 rfl 0 rfl ?_
        refine V_getR hC (r_d0_1 hg) fw_X1_21 dX1_holdsAround_48 ?_
        refine V_iload hC dX1_holdsAround_51 3 rfl ?_
        refine V_iconst hC (0 : Int32) dX1_holdsAround_53 (by decide) ?_
        obtain ⟨q6, e6, h⟩ := bind_some h
        refine V_cVr hC [.int x5, .int (0 : Int32)] (c_X0_fact (l := l) hC.2.2.2.2.2.2.2 hg e6) kd_X0_fact kv_X0_fact gw_616 (r_d8_0 hg).o rfl ⟨Nat.le_of_ble_eq_true rfl, Nat.le_of_ble_eq_true rfl⟩ rfl (Nat.le_of_ble_eq_true rfl) dX1_holdsAround_54 ⟨Nat.zero_le _, Nat.zero_le _⟩ rfl ?_
        refine V_iload_n hC dX1_holdsAround_57 rfl 1 rfl ?_
        refine V_icmp_ne hC 81 dX1_holdsAround_58 (by decide) (fun c7 => ?_) (fun c7 => ?_)
        · have h := ite_f c7 h
          exact b_X1_holdsAround_81 hC hr hlk hg hk28 h
        · have h := ite_t c7 h
          refine V_iload hC dX1_holdsAround_61 2 rfl ?_
          refine V_aload_n hC dX1_holdsAround_63 rfl 0 rfl ?_
          refine V_getR hC (r_d0_1 hg) fw_X1_21 dX1_holdsAround_64 ?_
          refine V_iload hC dX1_holdsAround_67 3 rfl ?_
          refine V_iconst hC (1 : Int32) dX1_holdsAround_69 (by decide) ?_
          obtain ⟨q8, e8, h⟩ := bind_some h
          refine V_cVr hC [.int x5, .int (1 : Int32)] (c_X0_fact (l := l) hC.2.2.2.2.2.2.2 hg e8) kd_X0_fact kv_X0_fact gw_616 (r_d8_0 hg).o rfl ⟨Nat.le_of_ble_eq_true rfl, Nat.le_of_ble_eq_true rfl⟩ rfl (Nat.le_of_ble_eq_true rfl) dX1_holdsAround_70 ⟨Nat.zero_le _, Nat.zero_le _⟩ rfl ?_
          refine V_cSNr hC [.int x4, .int q8] (c_X8_hasBit (l := l) hC.2.2.2.2.2.2.2 rfl) kd_X8_hasBit gw_505 nw_37 ⟨Nat.le_of_ble_eq_true rfl, Nat.le_of_ble_eq_true rfl⟩ rfl (Nat.le_of_ble_eq_true rfl) dX1_holdsAround_73 ⟨Nat.zero_le _, Nat.zero_le _⟩ rfl ?_
          refine V_if_eq hC 81 dX1_holdsAround_76 (by decide) (fun c10 => ?_) (fun c10 => ?_)
          · have h := ite_t c10 h
            exact b_X1_holdsAround_81 hC hr hlk hg hk28 h
          · have h := ite_f c10 h
            refine V_iconst hC (1 : Int32) dX1_holdsAround_79 (by decide) ?_
            obtain rfl := Option.some.inj h
            exact V_zret hC hr hlk (Or.inr rfl) dX1_holdsAround_80
theorem b_X1_holdsAround_23 {g : Nat} {rv : Int32} {x1 : Int32} {z0 : Int32} {M : Mem} (hC : Cx p s m args c cX1_holdsAround RX1 6 G) (hr : meth.sig.returnType = some .boolean) (hlk : meth.locks = false) (hg : g < 6) (h : B_X1_holdsAround_23 g x1 z0 M = some rv) : V p l e (rmk 2) s m args below meth c 6 G 0 0 (MQ below (gQ G (some (.int rv)) M) args s 0 0 (gA G)) 23 [(0, .ref (adr G g 0)), (1, .int x1)] [.int z0] M := by
  refine V_istore hC ([(4, .int z0), (0, .ref (adr G g 0)), (1, .int x1)]) dX1_holdsAround_23 (by decide) rfl ?_
  refine V_iconst hC (0 : Int32) dX1_holdsAround_25 (by decide) ?_
  refine V_istore hC ([(5, .int (0 : Int32)), (4, .int z0), (0, .ref (adr G g 0)), (1, .int x1)]) dX1_holdsAround_26 (by decide) rfl ?_
  refine V_sub [2, 3, 1, 0] rfl ?_
  exact l_X1_holdsAround_28 hC hr hlk hg FU h
theorem c_X1_holdsAround {l : Launch} {G : Geo} {g : Nat} {x1 : Int32} {x2 : Int32} {x3 : Int32} {rv : Int32} {M : Mem} (hG : gD G) (hg : g < 6) (h : f_X1_holdsAround g x1 x2 x3 M = some rv) : Met l yX1_holdsAround (.code yX1_holdsAround cX1_holdsAround 6 (some .boolean) :: GL) (rmk 2) (gP G [.ref (adr G g 0), .int x1, .int x2, .int x3] M) (gQ G (some (.int rv)) M) 0 0 (gA G) := by
  refine Met_of (own := RX1) (L := [(0, .ref (adr G g 0)), (1, .int x1), (2, .int x2), (3, .int x3)]) hG (by decide +kernel) rfl (Nat.le_of_ble_eq_true rfl) rfl ?_
  intro p e s m args below meth c hC hr hlk
  refine V_iload_n hC dX1_holdsAround_0 rfl 3 rfl ?_
  refine V_if_eq hC 15 dX1_holdsAround_1 (by decide) (fun c1 => ?_) (fun c1 => ?_)
  · have h := ite_t c1 h
    refine V_aload_n hC dX1_holdsAround_15 rfl 0 rfl ?_
    refine V_getR hC (r_d0_0 hg) fw_X1_12 dX1_holdsAround_16 ?_
    refine V_iload_n hC dX1_holdsAround_19 rfl 2 rfl ?_
    obtain ⟨q2, e2, h⟩ := bind_some h
    refine V_cVr hC [.int x2] (c_X7_lineageOf (l := l) hC.2.2.2.2.2.2.2 hg e2) kd_X7_lineageOf kv_X7_lineageOf gw_284 (r_d1_0 hg).o rfl ⟨Nat.le_of_ble_eq_true rfl, Nat.le_of_ble_eq_true rfl⟩ rfl (Nat.le_of_ble_eq_true rfl) dX1_holdsAround_20 ⟨Nat.zero_le _, Nat.zero_le _⟩ rfl ?_
    refine V_sub [0, 1] rfl ?_
    exact b_X1_holdsAround_23 hC hr hlk hg h
  · have h := ite_f c1 h
    refine V_aload_n hC dX1_holdsAround_4 rfl 0 rfl ?_
    refine V_getR hC (r_d0_0 hg) fw_X1_12 dX1_holdsAround_5 ?_
    refine V_iload_n hC dX1_holdsAround_8 rfl 2 rfl ?_
    obtain ⟨q11, e11, h⟩ := bind_some h
    refine V_cVr hC [.int x2] (c_X7_overlapOf (l := l) hC.2.2.2.2.2.2.2 hg e11) kd_X7_overlapOf kv_X7_overlapOf gw_478 (r_d1_0 hg).o rfl ⟨Nat.le_of_ble_eq_true rfl, Nat.le_of_ble_eq_true rfl⟩ rfl (Nat.le_of_ble_eq_true rfl) dX1_holdsAround_9 ⟨Nat.zero_le _, Nat.zero_le _⟩ rfl ?_
    refine V_goto hC 23 dX1_holdsAround_12 (by decide) ?_
    refine V_sub [0, 1] rfl ?_
    exact b_X1_holdsAround_23 hC hr hlk hg h
theorem l_X5_placeOf_2 {g : Nat} {rv : Int32} {x1 : Int32} {M : Mem} (hC : Cx p s m args c cX5_placeOf RX5 3 G) (hr : meth.sig.returnType = some .int) (hlk : meth.locks = false) (hg : g < 6) : ∀ (n : Nat) {x2 : Int32} (h : L_X5_placeOf_2 g x1 M n x2 = some rv), V p l e (rmk 1) s m args below meth c 3 G 0 0 (MQ below (gQ G (some (.int rv)) M) args s 0 0 (gA G)) 2 [(0, .ref (adr G g 12)), (1, .int x1), (2, .int x2)] [] M := by
  intro n
  induction n with
  | zero => intro x2 h; cases h
  | succ n ih =>
    intro x2 h
    have hk2 : ∀ (x2 : Int32), L_X5_placeOf_2 g x1 M n x2 = some rv → V p l e (rmk 1) s m args below meth c 3 G 0 0 (MQ below (gQ G (some (.int rv)) M) args s 0 0 (gA G)) 2 [(0, .ref (adr G g 12)), (1, .int x1), (2, .int x2)] [] M := fun _ z => ih z
    refine V_iload_n hC dX5_placeOf_2 rfl 2 rfl ?_
    refine V_aload_n hC dX5_placeOf_3 rfl 0 rfl ?_
    refine V_getI hC (f_d12_1 hg) fw_X5_19 dX5_placeOf_4 ?_
    refine V_icmp_ge hC 28 dX5_placeOf_7 (by decide) (fun c1 => ?_) (fun c1 => ?_)
    · have h := ite_t c1 h
      refine V_iconst hC ((-1) : Int32) dX5_placeOf_28 (by decide) ?_
      obtain rfl := Option.some.inj h
      exact V_iret hC hr hlk dX5_placeOf_29
    · have h := ite_f c1 h
      refine V_aload_n hC dX5_placeOf_10 rfl 0 rfl ?_
      refine V_iload_n hC dX5_placeOf_11 rfl 2 rfl ?_
      refine V_iconst hC (0 : Int32) dX5_placeOf_12 (by decide) ?_
      obtain ⟨q2, e2, h⟩ := bind_some h
      refine V_cVr hC [.int x2, .int (0 : Int32)] (c_X5_fact (l := l) hC.2.2.2.2.2.2.2 hg e2) kd_X5_fact kv_X5_fact gw_280 (r_d12_0 hg).o rfl ⟨Nat.le_of_ble_eq_true rfl, Nat.le_of_ble_eq_true rfl⟩ rfl (Nat.le_of_ble_eq_true rfl) dX5_placeOf_13 ⟨Nat.zero_le _, Nat.zero_le _⟩ rfl ?_
      refine V_iload_n hC dX5_placeOf_16 rfl 1 rfl ?_
      refine V_icmp_ne hC 22 dX5_placeOf_17 (by decide) (fun c3 => ?_) (fun c3 => ?_)
      · have h := ite_f c3 h
        refine V_iinc hC (x2 + 1) ([(2, .int (x2 + 1)), (0, .ref (adr G g 12)), (1, .int x1)]) dX5_placeOf_22 2 rfl rfl (by decide) rfl ?_
        refine V_goto hC 2 dX5_placeOf_25 (by decide) ?_
        refine V_sub [1, 2, 0] rfl ?_
        exact hk2 _ h
      · have h := ite_t c3 h
        refine V_iload_n hC dX5_placeOf_20 rfl 2 rfl ?_
        obtain rfl := Option.some.inj h
        exact V_iret hC hr hlk dX5_placeOf_21
theorem c_X5_placeOf {l : Launch} {G : Geo} {g : Nat} {x1 : Int32} {rv : Int32} {M : Mem} (hG : gD G) (hg : g < 6) (h : f_X5_placeOf g x1 M = some rv) : Met l yX5_placeOf (.code yX5_placeOf cX5_placeOf 3 (some .int) :: GL) (rmk 1) (gP G [.ref (adr G g 12), .int x1] M) (gQ G (some (.int rv)) M) 0 0 (gA G) := by
  refine Met_of (own := RX5) (L := [(0, .ref (adr G g 12)), (1, .int x1)]) hG (by decide +kernel) rfl (Nat.le_of_ble_eq_true rfl) rfl ?_
  intro p e s m args below meth c hC hr hlk
  refine V_iconst hC (0 : Int32) dX5_placeOf_0 (by decide) ?_
  refine V_istore_n hC ([(2, .int (0 : Int32)), (0, .ref (adr G g 12)), (1, .int x1)]) dX5_placeOf_1 rfl (by decide) rfl ?_
  refine V_sub [1, 2, 0] rfl ?_
  exact l_X5_placeOf_2 hC hr hlk hg FU h
theorem c_X5_isFull {l : Launch} {G : Geo} {g : Nat} {rv : Int32} {M : Mem} (hG : gD G) (hg : g < 6) (h : f_X5_isFull g M = rv) : Met l yX5_isFull (.code yX5_isFull cX5_isFull 1 (some .boolean) :: GL) (rmk 0) (gP G [.ref (adr G g 12)] M) (gQ G (some (.int rv)) M) 0 0 (gA G) := by
  refine Met_of (own := RX5) (L := [(0, .ref (adr G g 12))]) hG (by decide +kernel) rfl (Nat.le_of_ble_eq_true rfl) rfl ?_
  intro p e s m args below meth c hC hr hlk
  refine V_aload_n hC dX5_isFull_0 rfl 0 rfl ?_
  refine V_getI hC (f_d12_1 hg) fw_X5_19 dX5_isFull_1 ?_
  refine V_bipush hC (8 : Int32) dX5_isFull_4 (by decide) ?_
  refine V_icmp_lt hC 13 dX5_isFull_6 (by decide) (fun c1 => ?_) (fun c1 => ?_)
  · have h := ite_t c1 h
    refine V_iconst hC (0 : Int32) dX5_isFull_13 (by decide) ?_
    obtain rfl := id h
    exact V_zret hC hr hlk (Or.inl rfl) dX5_isFull_14
  · have h := ite_f c1 h
    refine V_iconst hC (1 : Int32) dX5_isFull_9 (by decide) ?_
    refine V_goto hC 14 dX5_isFull_10 (by decide) ?_
    obtain rfl := id h
    exact V_zret hC hr hlk (Or.inr rfl) dX5_isFull_14
theorem z_X5_isFull (g : Nat) (M : Mem) : f_X5_isFull g M = 0 ∨ f_X5_isFull g M = 1 := by
  unfold f_X5_isFull
  (repeat' split) <;> first | exact Or.inl rfl | exact Or.inr rfl
theorem c_X8_isUser {l : Launch} {G : Geo} {x0 : Int32} {rv : Int32} {M : Mem} (hG : gD G) (h : f_X8_isUser x0 = rv) : Met l yX8_isUser (.code yX8_isUser cX8_isUser 1 (some .boolean) :: GL) (rmk 1) (gP G [.int x0] M) (gQ G (some (.int rv)) M) 0 0 (gA G) := by
  refine Met_of (own := RX8) (L := [(0, .int x0)]) hG (by decide +kernel) rfl (Nat.le_of_ble_eq_true rfl) rfl ?_
  intro p e s m args below meth c hC hr hlk
  refine V_iload_n hC dX8_isUser_0 rfl 0 rfl ?_
  refine V_iconst hC (0 : Int32) dX8_isUser_1 (by decide) ?_
  refine V_iconst hC (5 : Int32) dX8_isUser_2 (by decide) ?_
  refine V_cSr hC [.int x0, .int (0 : Int32), .int (5 : Int32)] (c_X8_isWithin (l := l) hC.2.2.2.2.2.2.2 rfl) kd_X8_isWithin gw_444 gw_456 ⟨Nat.le_of_ble_eq_true rfl, Nat.le_of_ble_eq_true rfl⟩ rfl (Nat.le_of_ble_eq_true rfl) dX8_isUser_3 ⟨Nat.zero_le _, Nat.zero_le _⟩ rfl ?_
  obtain rfl := id h
  exact V_zret hC hr hlk (z_X8_isWithin _ _ _) dX8_isUser_6
theorem z_X8_isUser (x0 : Int32) : f_X8_isUser x0 = 0 ∨ f_X8_isUser x0 = 1 := by
  unfold f_X8_isUser
  (repeat' split) <;> first | exact Or.inl rfl | exact Or.inr rfl | exact z_X8_isWithin _ _ _
theorem b_X1_requestFault_63 {g : Nat} {rv : Int32} {x3 : Int32} {x5 : Int32} {z0 : Int32} {M : Mem} (hC : Cx p s m args c cX1_requestFault RX1 6 G) (hr : meth.sig.returnType = some .int) (hlk : meth.locks = false) (hg : g < 6) (h : B_X1_requestFault_63 g x3 x5 z0 M = some rv) : V p l e (rmk 3) s m args below meth c 6 G 0 0 (MQ below (gQ G (some (.int rv)) M) args s 0 0 (gA G)) 63 [(3, .int x3), (5, .int x5)] [.int z0] M := by
  refine V_iload_n hC dX1_requestFault_63 rfl 0 rfl ?_
  refine V_iconst hC (1 : Int32) dX1_requestFault_64 (by decide) ?_
  refine V_sipush hC (1000 : Int32) dX1_requestFault_65 (by decide) ?_
  refine V_cSNr hC [.int x3, .int (1 : Int32), .int (1000 : Int32)] (c_X8_isWithin (l := l) hC.2.2.2.2.2.2.2 rfl) kd_X8_isWithin gw_444 nw_34 ⟨Nat.le_of_ble_eq_true rfl, Nat.le_of_ble_eq_true rfl⟩ rfl (Nat.le_of_ble_eq_true rfl) dX1_requestFault_68 ⟨Nat.zero_le _, Nat.zero_le _⟩ rfl ?_
  refine V_iload hC dX1_requestFault_71 1 rfl ?_
  refine V_cSNr hC [.int z0, .int (f_X8_isWithin x3 (1 : Int32) (1000 : Int32)), .int x5] (c_X8_faultOf (l := l) hC.2.2.2.2.2.2.2 rfl) kd_X8_faultOf gw_289 nw_22 ⟨Nat.le_of_ble_eq_true rfl, Nat.le_of_ble_eq_true rfl⟩ rfl (Nat.le_of_ble_eq_true rfl) dX1_requestFault_73 ⟨Nat.zero_le _, Nat.zero_le _⟩ rfl ?_
  obtain rfl := Option.some.inj h
  exact V_iret hC hr hlk dX1_requestFault_76
theorem b_X1_requestFault_62 {g : Nat} {rv : Int32} {x3 : Int32} {x5 : Int32} {M : Mem} (hC : Cx p s m args c cX1_requestFault RX1 6 G) (hr : meth.sig.returnType = some .int) (hlk : meth.locks = false) (hg : g < 6) (h : B_X1_requestFault_62 g x3 x5 M = some rv) : V p l e (rmk 3) s m args below meth c 6 G 0 0 (MQ below (gQ G (some (.int rv)) M) args s 0 0 (gA G)) 62 [(3, .int x3), (5, .int x5)] [] M := by
  refine V_iconst hC (0 : Int32) dX1_requestFault_62 (by decide) ?_
  exact b_X1_requestFault_63 hC hr hlk hg h
theorem b_X1_requestFault_38 {g : Nat} {rv : Int32} {x1 : Int32} {x2 : Int32} {x3 : Int32} {z0 : Int32} {M : Mem} (hC : Cx p s m args c cX1_requestFault RX1 6 G) (hr : meth.sig.returnType = some .int) (hlk : meth.locks = false) (hg : g < 6) (h : B_X1_requestFault_38 g x1 x2 x3 z0 M = some rv) : V p l e (rmk 3) s m args below meth c 6 G 0 0 (MQ below (gQ G (some (.int rv)) M) args s 0 0 (gA G)) 38 [(0, .ref (adr G g 0)), (1, .int x1), (2, .int x2), (3, .int x3)] [.int z0] M := by
  refine V_istore hC ([(5, .int z0), (0, .ref (adr G g 0)), (1, .int x1), (2, .int x2), (3, .int x3)]) dX1_requestFault_38 (by decide) rfl ?_
  refine V_iload_n hC dX1_requestFault_40 rfl 2 rfl ?_
  refine V_cSNr hC [.int x1] (c_X8_isUser (l := l) hC.2.2.2.2.2.2.2 rfl) kd_X8_isUser gw_627 nw_38 ⟨Nat.le_of_ble_eq_true rfl, Nat.le_of_ble_eq_true rfl⟩ rfl (Nat.le_of_ble_eq_true rfl) dX1_requestFault_41 ⟨Nat.zero_le _, Nat.zero_le _⟩ rfl ?_
  refine V_if_eq hC 62 dX1_requestFault_44 (by decide) (fun c4 => ?_) (fun c4 => ?_)
  · have h := ite_t c4 h
    refine V_sub [4, 0] rfl ?_
    exact b_X1_requestFault_62 hC hr hlk hg h
  · have h := ite_f c4 h
    refine V_aload_n hC dX1_requestFault_47 rfl 1 rfl ?_
    refine V_getR hC (r_d0_0 hg) fw_X1_12 dX1_requestFault_48 ?_
    refine V_iload_n hC dX1_requestFault_51 rfl 3 rfl ?_
    obtain ⟨q7, e7, h⟩ := bind_some h
    refine V_cVr hC [.int x2] (c_X7_has (l := l) hC.2.2.2.2.2.2.2 hg e7) kd_X7_has kv_X7_has gw_248 (r_d1_0 hg).o rfl ⟨Nat.le_of_ble_eq_true rfl, Nat.le_of_ble_eq_true rfl⟩ rfl (Nat.le_of_ble_eq_true rfl) dX1_requestFault_52 ⟨Nat.zero_le _, Nat.zero_le _⟩ rfl ?_
    refine V_if_eq hC 62 dX1_requestFault_55 (by decide) (fun c8 => ?_) (fun c8 => ?_)
    · have h := ite_t c8 h
      refine V_sub [4, 0] rfl ?_
      exact b_X1_requestFault_62 hC hr hlk hg h
    · have h := ite_f c8 h
      refine V_iconst hC (1 : Int32) dX1_requestFault_58 (by decide) ?_
      refine V_goto hC 63 dX1_requestFault_59 (by decide) ?_
      refine V_sub [4, 0] rfl ?_
      exact b_X1_requestFault_63 hC hr hlk hg h
theorem b_X1_requestFault_37 {g : Nat} {rv : Int32} {x1 : Int32} {x2 : Int32} {x3 : Int32} {M : Mem} (hC : Cx p s m args c cX1_requestFault RX1 6 G) (hr : meth.sig.returnType = some .int) (hlk : meth.locks = false) (hg : g < 6) (h : B_X1_requestFault_37 g x1 x2 x3 M = some rv) : V p l e (rmk 3) s m args below meth c 6 G 0 0 (MQ below (gQ G (some (.int rv)) M) args s 0 0 (gA G)) 37 [(0, .ref (adr G g 0)), (1, .int x1), (2, .int x2), (3, .int x3)] [] M := by
  refine V_iconst hC (0 : Int32) dX1_requestFault_37 (by decide) ?_
  exact b_X1_requestFault_38 hC hr hlk hg h
theorem c_X1_requestFault {l : Launch} {G : Geo} {g : Nat} {x1 : Int32} {x2 : Int32} {x3 : Int32} {x4 : Int32} {rv : Int32} {M : Mem} (hG : gD G) (hg : g < 6) (h : f_X1_requestFault g x1 x2 x3 x4 M = some rv) : Met l yX1_requestFault (.code yX1_requestFault cX1_requestFault 6 (some .int) :: GL) (rmk 3) (gP G [.ref (adr G g 0), .int x1, .int x2, .int x3, .int x4] M) (gQ G (some (.int rv)) M) 0 0 (gA G) := by
  refine Met_of (own := RX1) (L := [(0, .ref (adr G g 0)), (1, .int x1), (2, .int x2), (3, .int x3), (4, .int x4)]) hG (by decide +kernel) rfl (Nat.le_of_ble_eq_true rfl) rfl ?_
  intro p e s m args below meth c hC hr hlk
  refine V_aload_n hC dX1_requestFault_0 rfl 0 rfl ?_
  refine V_iload_n hC dX1_requestFault_1 rfl 1 rfl ?_
  refine V_iload_n hC dX1_requestFault_2 rfl 2 rfl ?_
  refine V_iload hC dX1_requestFault_3 4 rfl ?_
  obtain ⟨q1, e1, h⟩ := bind_some h
  refine V_cVr hC [.int x1, .int x2, .int x4] (c_X1_holdsAround (l := l) hC.2.2.2.2.2.2.2 hg e1) kd_X1_holdsAround kv_X1_holdsAround gw_611 (r_d0_0 hg).o rfl ⟨Nat.le_of_ble_eq_true rfl, Nat.le_of_ble_eq_true rfl⟩ rfl (Nat.le_of_ble_eq_true rfl) dX1_requestFault_5 ⟨Nat.zero_le _, Nat.zero_le _⟩ rfl ?_
  refine V_if_ne hC 37 dX1_requestFault_8 (by decide) (fun c2 => ?_) (fun c2 => ?_)
  · have h := ite_f c2 h
    refine V_sub [0, 1, 2, 3] rfl ?_
    exact b_X1_requestFault_37 hC hr hlk hg h
  · have h := ite_t c2 h
    refine V_aload_n hC dX1_requestFault_11 rfl 0 rfl ?_
    refine V_getR hC (r_d0_2 hg) fw_X1_28 dX1_requestFault_12 ?_
    refine V_iload_n hC dX1_requestFault_15 rfl 1 rfl ?_
    obtain ⟨q9, e9, h⟩ := bind_some h
    refine V_cVr hC [.int x1] (c_X5_placeOf (l := l) hC.2.2.2.2.2.2.2 hg e9) kd_X5_placeOf kv_X5_placeOf gw_618 (r_d12_0 hg).o rfl ⟨Nat.le_of_ble_eq_true rfl, Nat.le_of_ble_eq_true rfl⟩ rfl (Nat.le_of_ble_eq_true rfl) dX1_requestFault_16 ⟨Nat.zero_le _, Nat.zero_le _⟩ rfl ?_
    refine V_iconst hC ((-1) : Int32) dX1_requestFault_19 (by decide) ?_
    refine V_icmp_ne hC 37 dX1_requestFault_20 (by decide) (fun c10 => ?_) (fun c10 => ?_)
    · have h := ite_f c10 h
      refine V_sub [0, 1, 2, 3] rfl ?_
      exact b_X1_requestFault_37 hC hr hlk hg h
    · have h := ite_t c10 h
      refine V_aload_n hC dX1_requestFault_23 rfl 0 rfl ?_
      refine V_getR hC (r_d0_2 hg) fw_X1_28 dX1_requestFault_24 ?_
      refine V_cVr hC [] (c_X5_isFull (l := l) hC.2.2.2.2.2.2.2 hg rfl) kd_X5_isFull kv_X5_isFull gw_622 (r_d12_0 hg).o rfl ⟨Nat.le_of_ble_eq_true rfl, Nat.le_of_ble_eq_true rfl⟩ rfl (Nat.le_of_ble_eq_true rfl) dX1_requestFault_27 ⟨Nat.zero_le _, Nat.zero_le _⟩ rfl ?_
      refine V_if_ne hC 37 dX1_requestFault_30 (by decide) (fun c12 => ?_) (fun c12 => ?_)
      · have h := ite_f c12 h
        refine V_sub [0, 1, 2, 3] rfl ?_
        exact b_X1_requestFault_37 hC hr hlk hg h
      · have h := ite_t c12 h
        refine V_iconst hC (1 : Int32) dX1_requestFault_33 (by decide) ?_
        refine V_goto hC 38 dX1_requestFault_34 (by decide) ?_
        refine V_sub [0, 1, 2, 3] rfl ?_
        exact b_X1_requestFault_38 hC hr hlk hg h
theorem c_X5_setFact {l : Launch} {G : Geo} {g : Nat} {x1 : Int32} {x2 : Int32} {x3 : Int32} {Mf : Mem} {M : Mem} (hG : gD G) (hg : g < 6) (h : f_X5_setFact g x1 x2 x3 M = some Mf) : Met l yX5_setFact (.code yX5_setFact cX5_setFact 4 none :: GL) (rmk 0) (gP G [.ref (adr G g 12), .int x1, .int x2, .int x3] M) (gQ G none Mf) 0 0 (gA G) := by
  refine Met_of (own := RX5) (L := [(0, .ref (adr G g 12)), (1, .int x1), (2, .int x2), (3, .int x3)]) hG (by decide +kernel) rfl (Nat.le_of_ble_eq_true rfl) rfl ?_
  intro p e s m args below meth c hC hr hlk
  refine V_iload_n hC dX5_setFact_0 rfl 1 rfl ?_
  refine V_if_lt hC 30 dX5_setFact_1 (by decide) (fun c1 => ?_) (fun c1 => ?_)
  · have h := ite_t c1 h
    obtain rfl := Option.some.inj h
    exact V_vret hC hr hlk dX5_setFact_30
  · have h := ite_f c1 h
    refine V_iload_n hC dX5_setFact_4 rfl 1 rfl ?_
    refine V_bipush hC (8 : Int32) dX5_setFact_5 (by decide) ?_
    refine V_icmp_ge hC 30 dX5_setFact_7 (by decide) (fun c2 => ?_) (fun c2 => ?_)
    · have h := ite_t c2 h
      obtain rfl := Option.some.inj h
      exact V_vret hC hr hlk dX5_setFact_30
    · have h := ite_f c2 h
      refine V_iload_n hC dX5_setFact_10 rfl 2 rfl ?_
      refine V_if_lt hC 30 dX5_setFact_11 (by decide) (fun c3 => ?_) (fun c3 => ?_)
      · have h := ite_t c3 h
        obtain rfl := Option.some.inj h
        exact V_vret hC hr hlk dX5_setFact_30
      · have h := ite_f c3 h
        refine V_iload_n hC dX5_setFact_14 rfl 2 rfl ?_
        refine V_iconst hC (4 : Int32) dX5_setFact_15 (by decide) ?_
        refine V_icmp_ge hC 30 dX5_setFact_16 (by decide) (fun c4 => ?_) (fun c4 => ?_)
        · have h := ite_t c4 h
          obtain rfl := Option.some.inj h
          exact V_vret hC hr hlk dX5_setFact_30
        · have h := ite_f c4 h
          refine V_aload_n hC dX5_setFact_19 rfl 0 rfl ?_
          refine V_getR hC (r_d12_0 hg) fw_X5_11 dX5_setFact_20 ?_
          refine V_iload_n hC dX5_setFact_23 rfl 1 rfl ?_
          refine V_iconst hC (4 : Int32) dX5_setFact_24 (by decide) ?_
          refine V_imul hC dX5_setFact_25 ?_
          refine V_iload_n hC dX5_setFact_26 rfl 2 rfl ?_
          refine V_iadd hC dX5_setFact_27 ?_
          refine V_iload_n hC dX5_setFact_28 rfl 3 rfl ?_
          obtain ⟨c5, h⟩ := ite_some h
          refine V_iast hC (a_d13 hg) c5 dX5_setFact_29 ?_
          obtain rfl := Option.some.inj h
          exact V_vret hC hr hlk dX5_setFact_30
theorem b_X5_join_55 {g : Nat} {rv : Int32} {Mf : Mem} {z0 : Int32} {z1 : Int32} {z2 : Int32} {M : Mem} (hC : Cx p s m args c cX5_join RX5 5 G) (hr : meth.sig.returnType = some .int) (hlk : meth.locks = false) (hg : g < 6) (h : B_X5_join_55 g z0 z1 z2 M = some (rv, Mf)) : V p l e (rmk 1) s m args below meth c 5 G 0 0 (MQ below (gQ G (some (.int rv)) Mf) args s 0 0 (gA G)) 55 [(0, .ref (adr G g 12))] [.int z0, .int z1, .int z2, .ref (adr G g 12)] M := by
  obtain ⟨q7, e7, h⟩ := bind_some h
  refine V_cVv hC [.int z2, .int z1, .int z0] (c_X5_setFact (l := l) hC.2.2.2.2.2.2.2 hg e7) kd_X5_setFact kv_X5_setFact gw_638 (r_d12_0 hg).o rfl ⟨Nat.le_of_ble_eq_true rfl, Nat.le_of_ble_eq_true rfl⟩ rfl (Nat.le_of_ble_eq_true rfl) dX5_join_55 ⟨Nat.zero_le _, Nat.zero_le _⟩ rfl ?_
  refine V_aload_n hC dX5_join_58 rfl 0 rfl ?_
  refine V_dup hC dX5_join_59 rfl ?_
  refine V_getI hC (f_d12_1 hg) fw_X5_19 dX5_join_60 ?_
  refine V_iconst hC (1 : Int32) dX5_join_63 (by decide) ?_
  refine V_iadd hC dX5_join_64 ?_
  refine V_putI hC (f_d12_1 hg) fw_X5_19 flp_5_1 dX5_join_65 ?_
  refine V_aload_n hC dX5_join_68 rfl 0 rfl ?_
  refine V_getI hC (f_d12_1 hg) fw_X5_19 dX5_join_69 ?_
  refine V_iconst hC (1 : Int32) dX5_join_72 (by decide) ?_
  refine V_isub hC dX5_join_73 ?_
  obtain ⟨rfl, rfl⟩ := Prod.mk.inj (Option.some.inj h)
  exact V_iret hC hr hlk dX5_join_74
theorem c_X5_join {l : Launch} {G : Geo} {g : Nat} {x1 : Int32} {x2 : Int32} {x3 : Int32} {x4 : Int32} {rv : Int32} {Mf : Mem} {M : Mem} (hG : gD G) (hg : g < 6) (h : f_X5_join g x1 x2 x3 x4 M = some (rv, Mf)) : Met l yX5_join (.code yX5_join cX5_join 5 (some .int) :: GL) (rmk 1) (gP G [.ref (adr G g 12), .int x1, .int x2, .int x3, .int x4] M) (gQ G (some (.int rv)) Mf) 0 0 (gA G) := by
  refine Met_of (own := RX5) (L := [(0, .ref (adr G g 12)), (1, .int x1), (2, .int x2), (3, .int x3), (4, .int x4)]) hG (by decide +kernel) rfl (Nat.le_of_ble_eq_true rfl) rfl ?_
  intro p e s m args below meth c hC hr hlk
  refine V_aload_n hC dX5_join_0 rfl 0 rfl ?_
  refine V_cVr hC [] (c_X5_isFull (l := l) hC.2.2.2.2.2.2.2 hg rfl) kd_X5_isFull kv_X5_isFull gw_637 (r_d12_0 hg).o rfl ⟨Nat.le_of_ble_eq_true rfl, Nat.le_of_ble_eq_true rfl⟩ rfl (Nat.le_of_ble_eq_true rfl) dX5_join_1 ⟨Nat.zero_le _, Nat.zero_le _⟩ rfl ?_
  refine V_if_eq hC 9 dX5_join_4 (by decide) (fun c2 => ?_) (fun c2 => ?_)
  · have h := ite_t c2 h
    refine V_aload_n hC dX5_join_9 rfl 0 rfl ?_
    refine V_aload_n hC dX5_join_10 rfl 0 rfl ?_
    refine V_getI hC (f_d12_1 hg) fw_X5_19 dX5_join_11 ?_
    refine V_iconst hC (0 : Int32) dX5_join_14 (by decide) ?_
    refine V_iload_n hC dX5_join_15 rfl 1 rfl ?_
    obtain ⟨q3, e3, h⟩ := bind_some h
    refine V_cVv hC [.int (M.1 g 12 1), .int (0 : Int32), .int x1] (c_X5_setFact (l := l) hC.2.2.2.2.2.2.2 hg e3) kd_X5_setFact kv_X5_setFact gw_638 (r_d12_0 hg).o rfl ⟨Nat.le_of_ble_eq_true rfl, Nat.le_of_ble_eq_true rfl⟩ rfl (Nat.le_of_ble_eq_true rfl) dX5_join_16 ⟨Nat.zero_le _, Nat.zero_le _⟩ rfl ?_
    refine V_aload_n hC dX5_join_19 rfl 0 rfl ?_
    refine V_aload_n hC dX5_join_20 rfl 0 rfl ?_
    refine V_getI hC (f_d12_1 hg) fw_X5_19 dX5_join_21 ?_
    refine V_iconst hC (1 : Int32) dX5_join_24 (by decide) ?_
    refine V_iload_n hC dX5_join_25 rfl 2 rfl ?_
    obtain ⟨q4, e4, h⟩ := bind_some h
    refine V_cVv hC [.int (q3.1 g 12 1), .int (1 : Int32), .int x2] (c_X5_setFact (l := l) hC.2.2.2.2.2.2.2 hg e4) kd_X5_setFact kv_X5_setFact gw_638 (r_d12_0 hg).o rfl ⟨Nat.le_of_ble_eq_true rfl, Nat.le_of_ble_eq_true rfl⟩ rfl (Nat.le_of_ble_eq_true rfl) dX5_join_26 ⟨Nat.zero_le _, Nat.zero_le _⟩ rfl ?_
    refine V_aload_n hC dX5_join_29 rfl 0 rfl ?_
    refine V_aload_n hC dX5_join_30 rfl 0 rfl ?_
    refine V_getI hC (f_d12_1 hg) fw_X5_19 dX5_join_31 ?_
    refine V_iconst hC (2 : Int32) dX5_join_34 (by decide) ?_
    refine V_iload_n hC dX5_join_35 rfl 3 rfl ?_
    obtain ⟨q5, e5, h⟩ := bind_some h
    refine V_cVv hC [.int (q4.1 g 12 1), .int (2 : Int32), .int x3] (c_X5_setFact (l := l) hC.2.2.2.2.2.2.2 hg e5) kd_X5_setFact kv_X5_setFact gw_638 (r_d12_0 hg).o rfl ⟨Nat.le_of_ble_eq_true rfl, Nat.le_of_ble_eq_true rfl⟩ rfl (Nat.le_of_ble_eq_true rfl) dX5_join_36 ⟨Nat.zero_le _, Nat.zero_le _⟩ rfl ?_
    refine V_aload_n hC dX5_join_39 rfl 0 rfl ?_
    refine V_aload_n hC dX5_join_40 rfl 0 rfl ?_
    refine V_getI hC (f_d12_1 hg) fw_X5_19 dX5_join_41 ?_
    refine V_iconst hC (3 : Int32) dX5_join_44 (by decide) ?_
    refine V_iload hC dX5_join_45 4 rfl ?_
    refine V_if_eq hC 54 dX5_join_47 (by decide) (fun c6 => ?_) (fun c6 => ?_)
    · have h := ite_t c6 h
      refine V_iconst hC (0 : Int32) dX5_join_54 (by decide) ?_
      refine V_sub [0] rfl ?_
      exact b_X5_join_55 hC hr hlk hg h
    · have h := ite_f c6 h
      refine V_iconst hC (1 : Int32) dX5_join_50 (by decide) ?_
      refine V_goto hC 55 dX5_join_51 (by decide) ?_
      refine V_sub [0] rfl ?_
      exact b_X5_join_55 hC hr hlk hg h
  · have h := ite_f c2 h
    refine V_iconst hC ((-1) : Int32) dX5_join_7 (by decide) ?_
    obtain ⟨rfl, rfl⟩ := Prod.mk.inj (Option.some.inj h)
    exact V_iret hC hr hlk dX5_join_8
theorem b_X1_absorbedBy_113 {g : Nat} {rv : Int32} {k46 : Int32 → Int32 → Option Int32} {x1 : Int32} {x3 : Int32} {x4 : Int32} {x5 : Int32} {M : Mem} (hC : Cx p s m args c cX1_absorbedBy RX1 6 G) (hr : meth.sig.returnType = some .int) (hlk : meth.locks = false) (hg : g < 6) (hk46 : ∀ (x4 : Int32) (x5 : Int32), k46 x4 x5 = some rv → V p l e (rmk 2) s m args below meth c 6 G 0 0 (MQ below (gQ G (some (.int rv)) M) args s 0 0 (gA G)) 46 [(0, .ref (adr G g 0)), (1, .int x1), (3, .int x3), (4, .int x4), (5, .int x5)] [] M) (h : B_X1_absorbedBy_113 g k46 x1 x3 x4 x5 M = some rv) : V p l e (rmk 2) s m args below meth c 6 G 0 0 (MQ below (gQ G (some (.int rv)) M) args s 0 0 (gA G)) 113 [(0, .ref (adr G g 0)), (1, .int x1), (3, .int x3), (4, .int x4), (5, .int x5)] [] M := by
  refine V_iinc hC (x5 + 1) ([(5, .int (x5 + 1)), (0, .ref (adr G g 0)), (1, .int x1), (3, .int x3), (4, .int x4)]) dX1_absorbedBy_113 4 rfl rfl (by decide) rfl ?_
  refine V_goto hC 46 dX1_absorbedBy_116 (by decide) ?_
  refine V_sub [1, 2, 3, 4, 0] rfl ?_
  exact hk46 _ _ h
theorem l_X1_absorbedBy_46 {g : Nat} {rv : Int32} {x1 : Int32} {x3 : Int32} {M : Mem} (hC : Cx p s m args c cX1_absorbedBy RX1 6 G) (hr : meth.sig.returnType = some .int) (hlk : meth.locks = false) (hg : g < 6) : ∀ (n : Nat) {x4 : Int32} {x5 : Int32} (h : L_X1_absorbedBy_46 g x1 x3 M n x4 x5 = some rv), V p l e (rmk 2) s m args below meth c 6 G 0 0 (MQ below (gQ G (some (.int rv)) M) args s 0 0 (gA G)) 46 [(0, .ref (adr G g 0)), (1, .int x1), (3, .int x3), (4, .int x4), (5, .int x5)] [] M := by
  intro n
  induction n with
  | zero => intro x4 x5 h; cases h
  | succ n ih =>
    intro x4 x5 h
    have hk46 : ∀ (x4 : Int32) (x5 : Int32), L_X1_absorbedBy_46 g x1 x3 M n x4 x5 = some rv → V p l e (rmk 2) s m args below meth c 6 G 0 0 (MQ below (gQ G (some (.int rv)) M) args s 0 0 (gA G)) 46 [(0, .ref (adr G g 0)), (1, .int x1), (3, .int x3), (4, .int x4), (5, .int x5)] [] M := fun _ _ z => ih z
    refine V_iload hC dX1_absorbedBy_46 4 rfl ?_
    refine V_bipush hC (10 : Int32) dX1_absorbedBy_48 (by decide) ?_
    refine V_icmp_ge hC 119 dX1_absorbedBy_50 (by decide) (fun c5 => ?_) (fun c5 => ?_)
    · have h := ite_t c5 h
      refine V_iload hC dX1_absorbedBy_119 3 rfl ?_
      obtain rfl := Option.some.inj h
      exact V_iret hC hr hlk dX1_absorbedBy_121
    · have h := ite_f c5 h
      refine V_aload_n hC dX1_absorbedBy_53 rfl 0 rfl ?_
      refine V_getR hC (r_d0_1 hg) fw_X1_21 dX1_absorbedBy_54 ?_
      refine V_iload hC dX1_absorbedBy_57 4 rfl ?_
      obtain ⟨q6, e6, h⟩ := bind_some h
      refine V_cVr hC [.int x5] (c_X0_isHeld (l := l) hC.2.2.2.2.2.2.2 hg e6) kd_X0_isHeld kv_X0_isHeld gw_615 (r_d8_0 hg).o rfl ⟨Nat.le_of_ble_eq_true rfl, Nat.le_of_ble_eq_true rfl⟩ rfl (Nat.le_of_ble_eq_true rfl) dX1_absorbedBy_59 ⟨Nat.zero_le _, Nat.zero_le _⟩ rfl ?_
      refine V_if_eq hC 113 dX1_absorbedBy_62 (by decide) (fun c7 => ?_) (fun c7 => ?_)
      · have h := ite_t c7 h
        exact b_X1_absorbedBy_113 hC hr hlk hg hk46 h
      · have h := ite_f c7 h
        refine V_aload_n hC dX1_absorbedBy_65 rfl 0 rfl ?_
        refine V_getR hC (r_d0_1 hg) fw_X1_21 dX1_absorbedBy_66 ?_
        refine V_iload hC dX1_absorbedBy_69 4 rfl ?_
        refine V_iconst hC (0 : Int32) dX1_absorbedBy_71 (by decide) ?_
        obtain ⟨q8, e8, h⟩ := bind_some h
        refine V_cVr hC [.int x5, .int (0 : Int32)] (c_X0_fact (l := l) hC.2.2.2.2.2.2.2 hg e8) kd_X0_fact kv_X0_fact gw_616 (r_d8_0 hg).o rfl ⟨Nat.le_of_ble_eq_true rfl, Nat.le_of_ble_eq_true rfl⟩ rfl (Nat.le_of_ble_eq_true rfl) dX1_absorbedBy_72 ⟨Nat.zero_le _, Nat.zero_le _⟩ rfl ?_
        refine V_aload_n hC dX1_absorbedBy_75 rfl 0 rfl ?_
        refine V_getR hC (r_d0_2 hg) fw_X1_28 dX1_absorbedBy_76 ?_
        refine V_iload_n hC dX1_absorbedBy_79 rfl 1 rfl ?_
        refine V_iconst hC (0 : Int32) dX1_absorbedBy_80 (by decide) ?_
        obtain ⟨q9, e9, h⟩ := bind_some h
        refine V_cVr hC [.int x1, .int (0 : Int32)] (c_X5_fact (l := l) hC.2.2.2.2.2.2.2 hg e9) kd_X5_fact kv_X5_fact gw_650 (r_d12_0 hg).o rfl ⟨Nat.le_of_ble_eq_true rfl, Nat.le_of_ble_eq_true rfl⟩ rfl (Nat.le_of_ble_eq_true rfl) dX1_absorbedBy_81 ⟨Nat.zero_le _, Nat.zero_le _⟩ rfl ?_
        refine V_icmp_ne hC 113 dX1_absorbedBy_84 (by decide) (fun c10 => ?_) (fun c10 => ?_)
        · have h := ite_f c10 h
          exact b_X1_absorbedBy_113 hC hr hlk hg hk46 h
        · have h := ite_t c10 h
          refine V_iload_n hC dX1_absorbedBy_87 rfl 2 rfl ?_
          refine V_aload_n hC dX1_absorbedBy_88 rfl 0 rfl ?_
          refine V_getR hC (r_d0_1 hg) fw_X1_21 dX1_absorbedBy_89 ?_
          refine V_iload hC dX1_absorbedBy_92 4 rfl ?_
          refine V_iconst hC (1 : Int32) dX1_absorbedBy_94 (by decide) ?_
          obtain ⟨q11, e11, h⟩ := bind_some h
          refine V_cVr hC [.int x5, .int (1 : Int32)] (c_X0_fact (l := l) hC.2.2.2.2.2.2.2 hg e11) kd_X0_fact kv_X0_fact gw_616 (r_d8_0 hg).o rfl ⟨Nat.le_of_ble_eq_true rfl, Nat.le_of_ble_eq_true rfl⟩ rfl (Nat.le_of_ble_eq_true rfl) dX1_absorbedBy_95 ⟨Nat.zero_le _, Nat.zero_le _⟩ rfl ?_
          refine V_cSNr hC [.int x3, .int q11] (c_X8_hasBit (l := l) hC.2.2.2.2.2.2.2 rfl) kd_X8_hasBit gw_505 nw_37 ⟨Nat.le_of_ble_eq_true rfl, Nat.le_of_ble_eq_true rfl⟩ rfl (Nat.le_of_ble_eq_true rfl) dX1_absorbedBy_98 ⟨Nat.zero_le _, Nat.zero_le _⟩ rfl ?_
          refine V_if_eq hC 113 dX1_absorbedBy_101 (by decide) (fun c13 => ?_) (fun c13 => ?_)
          · have h := ite_t c13 h
            exact b_X1_absorbedBy_113 hC hr hlk hg hk46 h
          · have h := ite_f c13 h
            refine V_iload hC dX1_absorbedBy_104 3 rfl ?_
            refine V_iconst hC (1 : Int32) dX1_absorbedBy_106 (by decide) ?_
            refine V_iload hC dX1_absorbedBy_107 4 rfl ?_
            refine V_ishl hC dX1_absorbedBy_109 ?_
            refine V_ior hC dX1_absorbedBy_110 ?_
            refine V_istore hC ([(4, .int (x4 ||| ((1 : Int32) <<< (x5 &&& 31)))), (0, .ref (adr G g 0)), (1, .int x1), (3, .int x3), (5, .int x5)]) dX1_absorbedBy_111 (by decide) rfl ?_
            refine V_sub [1, 2, 3, 0, 4] rfl ?_
            exact b_X1_absorbedBy_113 hC hr hlk hg hk46 h
theorem c_X1_absorbedBy {l : Launch} {G : Geo} {g : Nat} {x1 : Int32} {rv : Int32} {M : Mem} (hG : gD G) (hg : g < 6) (h : f_X1_absorbedBy g x1 M = some rv) : Met l yX1_absorbedBy (.code yX1_absorbedBy cX1_absorbedBy 6 (some .int) :: GL) (rmk 2) (gP G [.ref (adr G g 0), .int x1] M) (gQ G (some (.int rv)) M) 0 0 (gA G) := by
  refine Met_of (own := RX1) (L := [(0, .ref (adr G g 0)), (1, .int x1)]) hG (by decide +kernel) rfl (Nat.le_of_ble_eq_true rfl) rfl ?_
  intro p e s m args below meth c hC hr hlk
  refine V_aload_n hC dX1_absorbedBy_0 rfl 0 rfl ?_
  refine V_getR hC (r_d0_2 hg) fw_X1_28 dX1_absorbedBy_1 ?_
  refine V_iload_n hC dX1_absorbedBy_4 rfl 1 rfl ?_
  refine V_iconst hC (3 : Int32) dX1_absorbedBy_5 (by decide) ?_
  obtain ⟨q1, e1, h⟩ := bind_some h
  refine V_cVr hC [.int x1, .int (3 : Int32)] (c_X5_fact (l := l) hC.2.2.2.2.2.2.2 hg e1) kd_X5_fact kv_X5_fact gw_650 (r_d12_0 hg).o rfl ⟨Nat.le_of_ble_eq_true rfl, Nat.le_of_ble_eq_true rfl⟩ rfl (Nat.le_of_ble_eq_true rfl) dX1_absorbedBy_6 ⟨Nat.zero_le _, Nat.zero_le _⟩ rfl ?_
  refine V_iconst hC (1 : Int32) dX1_absorbedBy_9 (by decide) ?_
  refine V_icmp_ne hC 15 dX1_absorbedBy_10 (by decide) (fun c2 => ?_) (fun c2 => ?_)
  · have h := ite_f c2 h
    refine V_aload_n hC dX1_absorbedBy_15 rfl 0 rfl ?_
    refine V_getR hC (r_d0_2 hg) fw_X1_28 dX1_absorbedBy_16 ?_
    refine V_iload_n hC dX1_absorbedBy_19 rfl 1 rfl ?_
    refine V_iconst hC (1 : Int32) dX1_absorbedBy_20 (by decide) ?_
    obtain ⟨q3, e3, h⟩ := bind_some h
    refine V_cVr hC [.int x1, .int (1 : Int32)] (c_X5_fact (l := l) hC.2.2.2.2.2.2.2 hg e3) kd_X5_fact kv_X5_fact gw_650 (r_d12_0 hg).o rfl ⟨Nat.le_of_ble_eq_true rfl, Nat.le_of_ble_eq_true rfl⟩ rfl (Nat.le_of_ble_eq_true rfl) dX1_absorbedBy_21 ⟨Nat.zero_le _, Nat.zero_le _⟩ rfl ?_
    refine V_istore_n hC ([(2, .int q3), (0, .ref (adr G g 0)), (1, .int x1)]) dX1_absorbedBy_24 rfl (by decide) rfl ?_
    refine V_aload_n hC dX1_absorbedBy_25 rfl 1 rfl ?_
    refine V_getR hC (r_d0_0 hg) fw_X1_12 dX1_absorbedBy_26 ?_
    refine V_iload_n hC dX1_absorbedBy_29 rfl 0 rfl ?_
    obtain ⟨q4, e4, h⟩ := bind_some h
    refine V_cVr hC [.int q3] (c_X7_subtreeOf (l := l) hC.2.2.2.2.2.2.2 hg e4) kd_X7_subtreeOf kv_X7_subtreeOf gw_491 (r_d1_0 hg).o rfl ⟨Nat.le_of_ble_eq_true rfl, Nat.le_of_ble_eq_true rfl⟩ rfl (Nat.le_of_ble_eq_true rfl) dX1_absorbedBy_30 ⟨Nat.zero_le _, Nat.zero_le _⟩ rfl ?_
    refine V_iconst hC (1 : Int32) dX1_absorbedBy_33 (by decide) ?_
    refine V_iload_n hC dX1_absorbedBy_34 rfl 0 rfl ?_
    refine V_ishl hC dX1_absorbedBy_35 ?_
    refine V_iconst hC ((-1) : Int32) dX1_absorbedBy_36 (by decide) ?_
    refine V_ixor hC dX1_absorbedBy_37 ?_
    refine V_iand hC dX1_absorbedBy_38 ?_
    refine V_istore_n hC ([(3, .int (q4 &&& (((1 : Int32) <<< (q3 &&& 31)) ^^^ ((-1) : Int32)))), (2, .int q3), (0, .ref (adr G g 0)), (1, .int x1)]) dX1_absorbedBy_39 rfl (by decide) rfl ?_
    refine V_iconst hC (0 : Int32) dX1_absorbedBy_40 (by decide) ?_
    refine V_istore hC ([(4, .int (0 : Int32)), (3, .int (q4 &&& (((1 : Int32) <<< (q3 &&& 31)) ^^^ ((-1) : Int32)))), (2, .int q3), (0, .ref (adr G g 0)), (1, .int x1)]) dX1_absorbedBy_41 (by decide) rfl ?_
    refine V_iconst hC (0 : Int32) dX1_absorbedBy_43 (by decide) ?_
    refine V_istore hC ([(5, .int (0 : Int32)), (4, .int (0 : Int32)), (3, .int (q4 &&& (((1 : Int32) <<< (q3 &&& 31)) ^^^ ((-1) : Int32)))), (2, .int q3), (0, .ref (adr G g 0)), (1, .int x1)]) dX1_absorbedBy_44 (by decide) rfl ?_
    refine V_sub [4, 5, 2, 1, 0] rfl ?_
    exact l_X1_absorbedBy_46 hC hr hlk hg FU h
  · have h := ite_t c2 h
    refine V_iconst hC (0 : Int32) dX1_absorbedBy_13 (by decide) ?_
    obtain rfl := Option.some.inj h
    exact V_iret hC hr hlk dX1_absorbedBy_14
theorem b_X1_hinderersOf_122 {g : Nat} {rv : Int32} {k43 : Int32 → Int32 → Option Int32} {x2 : Int32} {x3 : Int32} {x4 : Int32} {x5 : Int32} {x6 : Int32} {M : Mem} (hC : Cx p s m args c cX1_hinderersOf RX1 7 G) (hr : meth.sig.returnType = some .int) (hlk : meth.locks = false) (hg : g < 6) (hk43 : ∀ (x5 : Int32) (x6 : Int32), k43 x5 x6 = some rv → V p l e (rmk 2) s m args below meth c 7 G 0 0 (MQ below (gQ G (some (.int rv)) M) args s 0 0 (gA G)) 43 [(0, .ref (adr G g 0)), (2, .int x2), (3, .int x3), (4, .int x4), (5, .int x5), (6, .int x6)] [] M) (h : B_X1_hinderersOf_122 g k43 x2 x3 x4 x5 x6 M = some rv) : V p l e (rmk 2) s m args below meth c 7 G 0 0 (MQ below (gQ G (some (.int rv)) M) args s 0 0 (gA G)) 122 [(0, .ref (adr G g 0)), (2, .int x2), (3, .int x3), (4, .int x4), (5, .int x5), (6, .int x6)] [] M := by
  refine V_iinc hC (x6 + 1) ([(6, .int (x6 + 1)), (0, .ref (adr G g 0)), (2, .int x2), (3, .int x3), (4, .int x4), (5, .int x5)]) dX1_hinderersOf_122 5 rfl rfl (by decide) rfl ?_
  refine V_goto hC 43 dX1_hinderersOf_125 (by decide) ?_
  refine V_sub [1, 2, 3, 4, 5, 0] rfl ?_
  exact hk43 _ _ h
theorem b_X1_hinderersOf_88 {g : Nat} {rv : Int32} {k43 : Int32 → Int32 → Option Int32} {x2 : Int32} {x3 : Int32} {x4 : Int32} {x5 : Int32} {x6 : Int32} {M : Mem} (hC : Cx p s m args c cX1_hinderersOf RX1 7 G) (hr : meth.sig.returnType = some .int) (hlk : meth.locks = false) (hg : g < 6) (hk43 : ∀ (x5 : Int32) (x6 : Int32), k43 x5 x6 = some rv → V p l e (rmk 2) s m args below meth c 7 G 0 0 (MQ below (gQ G (some (.int rv)) M) args s 0 0 (gA G)) 43 [(0, .ref (adr G g 0)), (2, .int x2), (3, .int x3), (4, .int x4), (5, .int x5), (6, .int x6)] [] M) (h : B_X1_hinderersOf_88 g k43 x2 x3 x4 x5 x6 M = some rv) : V p l e (rmk 2) s m args below meth c 7 G 0 0 (MQ below (gQ G (some (.int rv)) M) args s 0 0 (gA G)) 88 [(0, .ref (adr G g 0)), (2, .int x2), (3, .int x3), (4, .int x4), (5, .int x5), (6, .int x6)] [] M := by
  refine V_iload_n hC dX1_hinderersOf_88 rfl 2 rfl ?_
  refine V_aload_n hC dX1_hinderersOf_89 rfl 0 rfl ?_
  refine V_getR hC (r_d0_1 hg) fw_X1_21 dX1_hinderersOf_90 ?_
  refine V_iload hC dX1_hinderersOf_93 5 rfl ?_
  refine V_iconst hC (1 : Int32) dX1_hinderersOf_95 (by decide) ?_
  obtain ⟨q11, e11, h⟩ := bind_some h
  refine V_cVr hC [.int x6, .int (1 : Int32)] (c_X0_fact (l := l) hC.2.2.2.2.2.2.2 hg e11) kd_X0_fact kv_X0_fact gw_616 (r_d8_0 hg).o rfl ⟨Nat.le_of_ble_eq_true rfl, Nat.le_of_ble_eq_true rfl⟩ rfl (Nat.le_of_ble_eq_true rfl) dX1_hinderersOf_96 ⟨Nat.zero_le _, Nat.zero_le _⟩ rfl ?_
  refine V_cSNr hC [.int x3, .int q11] (c_X8_hasBit (l := l) hC.2.2.2.2.2.2.2 rfl) kd_X8_hasBit gw_505 nw_37 ⟨Nat.le_of_ble_eq_true rfl, Nat.le_of_ble_eq_true rfl⟩ rfl (Nat.le_of_ble_eq_true rfl) dX1_hinderersOf_99 ⟨Nat.zero_le _, Nat.zero_le _⟩ rfl ?_
  refine V_if_eq hC 122 dX1_hinderersOf_102 (by decide) (fun c13 => ?_) (fun c13 => ?_)
  · have h := ite_t c13 h
    exact b_X1_hinderersOf_122 hC hr hlk hg hk43 h
  · have h := ite_f c13 h
    refine V_iload hC dX1_hinderersOf_105 4 rfl ?_
    refine V_iconst hC (1 : Int32) dX1_hinderersOf_107 (by decide) ?_
    refine V_aload_n hC dX1_hinderersOf_108 rfl 0 rfl ?_
    refine V_getR hC (r_d0_1 hg) fw_X1_21 dX1_hinderersOf_109 ?_
    refine V_iload hC dX1_hinderersOf_112 5 rfl ?_
    refine V_iconst hC (0 : Int32) dX1_hinderersOf_114 (by decide) ?_
    obtain ⟨q14, e14, h⟩ := bind_some h
    refine V_cVr hC [.int x6, .int (0 : Int32)] (c_X0_fact (l := l) hC.2.2.2.2.2.2.2 hg e14) kd_X0_fact kv_X0_fact gw_616 (r_d8_0 hg).o rfl ⟨Nat.le_of_ble_eq_true rfl, Nat.le_of_ble_eq_true rfl⟩ rfl (Nat.le_of_ble_eq_true rfl) dX1_hinderersOf_115 ⟨Nat.zero_le _, Nat.zero_le _⟩ rfl ?_
    refine V_ishl hC dX1_hinderersOf_118 ?_
    refine V_ior hC dX1_hinderersOf_119 ?_
    refine V_istore hC ([(5, .int (x5 ||| ((1 : Int32) <<< (q14 &&& 31)))), (0, .ref (adr G g 0)), (2, .int x2), (3, .int x3), (4, .int x4), (6, .int x6)]) dX1_hinderersOf_120 (by decide) rfl ?_
    refine V_sub [1, 2, 3, 4, 0, 5] rfl ?_
    exact b_X1_hinderersOf_122 hC hr hlk hg hk43 h
theorem l_X1_hinderersOf_43 {g : Nat} {rv : Int32} {x2 : Int32} {x3 : Int32} {x4 : Int32} {M : Mem} (hC : Cx p s m args c cX1_hinderersOf RX1 7 G) (hr : meth.sig.returnType = some .int) (hlk : meth.locks = false) (hg : g < 6) : ∀ (n : Nat) {x5 : Int32} {x6 : Int32} (h : L_X1_hinderersOf_43 g x2 x3 x4 M n x5 x6 = some rv), V p l e (rmk 2) s m args below meth c 7 G 0 0 (MQ below (gQ G (some (.int rv)) M) args s 0 0 (gA G)) 43 [(0, .ref (adr G g 0)), (2, .int x2), (3, .int x3), (4, .int x4), (5, .int x5), (6, .int x6)] [] M := by
  intro n
  induction n with
  | zero => intro x5 x6 h; cases h
  | succ n ih =>
    intro x5 x6 h
    have hk43 : ∀ (x5 : Int32) (x6 : Int32), L_X1_hinderersOf_43 g x2 x3 x4 M n x5 x6 = some rv → V p l e (rmk 2) s m args below meth c 7 G 0 0 (MQ below (gQ G (some (.int rv)) M) args s 0 0 (gA G)) 43 [(0, .ref (adr G g 0)), (2, .int x2), (3, .int x3), (4, .int x4), (5, .int x5), (6, .int x6)] [] M := fun _ _ z => ih z
    refine V_iload hC dX1_hinderersOf_43 5 rfl ?_
    refine V_bipush hC (10 : Int32) dX1_hinderersOf_45 (by decide) ?_
    refine V_icmp_ge hC 128 dX1_hinderersOf_47 (by decide) (fun c5 => ?_) (fun c5 => ?_)
    · have h := ite_t c5 h
      refine V_iload hC dX1_hinderersOf_128 4 rfl ?_
      obtain rfl := Option.some.inj h
      exact V_iret hC hr hlk dX1_hinderersOf_130
    · have h := ite_f c5 h
      refine V_aload_n hC dX1_hinderersOf_50 rfl 0 rfl ?_
      refine V_getR hC (r_d0_1 hg) fw_X1_21 dX1_hinderersOf_51 ?_
      refine V_iload hC dX1_hinderersOf_54 5 rfl ?_
      obtain ⟨q6, e6, h⟩ := bind_some h
      refine V_cVr hC [.int x6] (c_X0_isHeld (l := l) hC.2.2.2.2.2.2.2 hg e6) kd_X0_isHeld kv_X0_isHeld gw_615 (r_d8_0 hg).o rfl ⟨Nat.le_of_ble_eq_true rfl, Nat.le_of_ble_eq_true rfl⟩ rfl (Nat.le_of_ble_eq_true rfl) dX1_hinderersOf_56 ⟨Nat.zero_le _, Nat.zero_le _⟩ rfl ?_
      refine V_if_eq hC 122 dX1_hinderersOf_59 (by decide) (fun c7 => ?_) (fun c7 => ?_)
      · have h := ite_t c7 h
        exact b_X1_hinderersOf_122 hC hr hlk hg hk43 h
      · have h := ite_f c7 h
        refine V_iload_n hC dX1_hinderersOf_62 rfl 1 rfl ?_
        refine V_iload hC dX1_hinderersOf_63 5 rfl ?_
        refine V_cSNr hC [.int x2, .int x6] (c_X8_hasBit (l := l) hC.2.2.2.2.2.2.2 rfl) kd_X8_hasBit gw_505 nw_37 ⟨Nat.le_of_ble_eq_true rfl, Nat.le_of_ble_eq_true rfl⟩ rfl (Nat.le_of_ble_eq_true rfl) dX1_hinderersOf_65 ⟨Nat.zero_le _, Nat.zero_le _⟩ rfl ?_
        refine V_if_ne hC 122 dX1_hinderersOf_68 (by decide) (fun c9 => ?_) (fun c9 => ?_)
        · have h := ite_f c9 h
          exact b_X1_hinderersOf_122 hC hr hlk hg hk43 h
        · have h := ite_t c9 h
          refine V_iload hC dX1_hinderersOf_71 3 rfl ?_
          refine V_if_eq hC 88 dX1_hinderersOf_73 (by decide) (fun c10 => ?_) (fun c10 => ?_)
          · have h := ite_t c10 h
            exact b_X1_hinderersOf_88 hC hr hlk hg hk43 h
          · have h := ite_f c10 h
            refine V_aload_n hC dX1_hinderersOf_76 rfl 0 rfl ?_
            refine V_getR hC (r_d0_1 hg) fw_X1_21 dX1_hinderersOf_77 ?_
            refine V_iload hC dX1_hinderersOf_80 5 rfl ?_
            obtain ⟨q15, e15, h⟩ := bind_some h
            refine V_cVr hC [.int x6] (c_X0_isShared (l := l) hC.2.2.2.2.2.2.2 hg e15) kd_X0_isShared kv_X0_isShared gw_660 (r_d8_0 hg).o rfl ⟨Nat.le_of_ble_eq_true rfl, Nat.le_of_ble_eq_true rfl⟩ rfl (Nat.le_of_ble_eq_true rfl) dX1_hinderersOf_82 ⟨Nat.zero_le _, Nat.zero_le _⟩ rfl ?_
            refine V_if_ne hC 122 dX1_hinderersOf_85 (by decide) (fun c16 => ?_) (fun c16 => ?_)
            · have h := ite_f c16 h
              exact b_X1_hinderersOf_122 hC hr hlk hg hk43 h
            · have h := ite_t c16 h
              exact b_X1_hinderersOf_88 hC hr hlk hg hk43 h
theorem b_X1_hinderersOf_35 {g : Nat} {rv : Int32} {x2 : Int32} {x3 : Int32} {z0 : Int32} {M : Mem} (hC : Cx p s m args c cX1_hinderersOf RX1 7 G) (hr : meth.sig.returnType = some .int) (hlk : meth.locks = false) (hg : g < 6) (h : B_X1_hinderersOf_35 g x2 x3 z0 M = some rv) : V p l e (rmk 2) s m args below meth c 7 G 0 0 (MQ below (gQ G (some (.int rv)) M) args s 0 0 (gA G)) 35 [(0, .ref (adr G g 0)), (2, .int x2), (3, .int x3)] [.int z0] M := by
  refine V_istore hC ([(4, .int z0), (0, .ref (adr G g 0)), (2, .int x2), (3, .int x3)]) dX1_hinderersOf_35 (by decide) rfl ?_
  refine V_iconst hC (0 : Int32) dX1_hinderersOf_37 (by decide) ?_
  refine V_istore hC ([(5, .int (0 : Int32)), (4, .int z0), (0, .ref (adr G g 0)), (2, .int x2), (3, .int x3)]) dX1_hinderersOf_38 (by decide) rfl ?_
  refine V_iconst hC (0 : Int32) dX1_hinderersOf_40 (by decide) ?_
  refine V_istore hC ([(6, .int (0 : Int32)), (5, .int (0 : Int32)), (4, .int z0), (0, .ref (adr G g 0)), (2, .int x2), (3, .int x3)]) dX1_hinderersOf_41 (by decide) rfl ?_
  refine V_sub [3, 4, 5, 2, 1, 0] rfl ?_
  exact l_X1_hinderersOf_43 hC hr hlk hg FU h
theorem c_X1_hinderersOf {l : Launch} {G : Geo} {g : Nat} {x1 : Int32} {x2 : Int32} {rv : Int32} {M : Mem} (hG : gD G) (hg : g < 6) (h : f_X1_hinderersOf g x1 x2 M = some rv) : Met l yX1_hinderersOf (.code yX1_hinderersOf cX1_hinderersOf 7 (some .int) :: GL) (rmk 2) (gP G [.ref (adr G g 0), .int x1, .int x2] M) (gQ G (some (.int rv)) M) 0 0 (gA G) := by
  refine Met_of (own := RX1) (L := [(0, .ref (adr G g 0)), (1, .int x1), (2, .int x2)]) hG (by decide +kernel) rfl (Nat.le_of_ble_eq_true rfl) rfl ?_
  intro p e s m args below meth c hC hr hlk
  refine V_aload_n hC dX1_hinderersOf_0 rfl 0 rfl ?_
  refine V_getR hC (r_d0_0 hg) fw_X1_12 dX1_hinderersOf_1 ?_
  refine V_aload_n hC dX1_hinderersOf_4 rfl 0 rfl ?_
  refine V_getR hC (r_d0_2 hg) fw_X1_28 dX1_hinderersOf_5 ?_
  refine V_iload_n hC dX1_hinderersOf_8 rfl 1 rfl ?_
  refine V_iconst hC (1 : Int32) dX1_hinderersOf_9 (by decide) ?_
  obtain ⟨q1, e1, h⟩ := bind_some h
  refine V_cVr hC [.int x1, .int (1 : Int32)] (c_X5_fact (l := l) hC.2.2.2.2.2.2.2 hg e1) kd_X5_fact kv_X5_fact gw_650 (r_d12_0 hg).o rfl ⟨Nat.le_of_ble_eq_true rfl, Nat.le_of_ble_eq_true rfl⟩ rfl (Nat.le_of_ble_eq_true rfl) dX1_hinderersOf_10 ⟨Nat.zero_le _, Nat.zero_le _⟩ rfl ?_
  obtain ⟨q2, e2, h⟩ := bind_some h
  refine V_cVr hC [.int q1] (c_X7_overlapOf (l := l) hC.2.2.2.2.2.2.2 hg e2) kd_X7_overlapOf kv_X7_overlapOf gw_478 (r_d1_0 hg).o rfl ⟨Nat.le_of_ble_eq_true rfl, Nat.le_of_ble_eq_true rfl⟩ rfl (Nat.le_of_ble_eq_true rfl) dX1_hinderersOf_13 ⟨Nat.zero_le _, Nat.zero_le _⟩ rfl ?_
  refine V_istore_n hC ([(3, .int q2), (0, .ref (adr G g 0)), (1, .int x1), (2, .int x2)]) dX1_hinderersOf_16 rfl (by decide) rfl ?_
  refine V_aload_n hC dX1_hinderersOf_17 rfl 1 rfl ?_
  refine V_getR hC (r_d0_2 hg) fw_X1_28 dX1_hinderersOf_18 ?_
  refine V_iload_n hC dX1_hinderersOf_21 rfl 2 rfl ?_
  refine V_iconst hC (3 : Int32) dX1_hinderersOf_22 (by decide) ?_
  obtain ⟨q3, e3, h⟩ := bind_some h
  refine V_cVr hC [.int x1, .int (3 : Int32)] (c_X5_fact (l := l) hC.2.2.2.2.2.2.2 hg e3) kd_X5_fact kv_X5_fact gw_650 (r_d12_0 hg).o rfl ⟨Nat.le_of_ble_eq_true rfl, Nat.le_of_ble_eq_true rfl⟩ rfl (Nat.le_of_ble_eq_true rfl) dX1_hinderersOf_23 ⟨Nat.zero_le _, Nat.zero_le _⟩ rfl ?_
  refine V_iconst hC (1 : Int32) dX1_hinderersOf_26 (by decide) ?_
  refine V_icmp_ne hC 34 dX1_hinderersOf_27 (by decide) (fun c4 => ?_) (fun c4 => ?_)
  · have h := ite_f c4 h
    refine V_iconst hC (0 : Int32) dX1_hinderersOf_34 (by decide) ?_
    refine V_sub [1, 3, 0] rfl ?_
    exact b_X1_hinderersOf_35 hC hr hlk hg h
  · have h := ite_t c4 h
    refine V_iconst hC (1 : Int32) dX1_hinderersOf_30 (by decide) ?_
    refine V_goto hC 35 dX1_hinderersOf_31 (by decide) ?_
    refine V_sub [1, 3, 0] rfl ?_
    exact b_X1_hinderersOf_35 hC hr hlk hg h
end
