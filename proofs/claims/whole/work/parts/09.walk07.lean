section
variable {p : Program} {l : Launch} {e : Env} {s : State} {m : MethodId} {args : Array Value} {below : List Frame} {meth : Method} {c : Code} {G : Geo}
theorem b_X9_enters_68 {Mf : Mem} {x1 : Int32} {x2 : Int32} {x3 : Int32} {x4 : Int32} {x5 : Int32} {M : Mem} (hC : Cx p s m args c cX9_enters RX9 7 G) (hr : meth.sig.returnType = none) (hlk : meth.locks = false) (h : B_X9_enters_68 x1 x2 x3 x4 x5 M = some Mf) : V p l e (rmk 0) s m args below meth c 7 G 0 0 (MQ below (gQ G none Mf) args s 0 0 (gA G)) 68 [(0, .ref (adr G 7 0)), (1, .int x1), (2, .int x2), (3, .int x3), (4, .int x4), (5, .int x5)] [] M := by
  refine V_sipush hC (2702 : Int32) dX9_enters_68 (by decide) ?_
  refine V_bipush hC (6 : Int32) dX9_enters_71 (by decide) ?_
  refine V_aload_n hC dX9_enters_73 rfl 0 rfl ?_
  refine V_getR hC (r_m0_0) fw_X9_7 dX9_enters_74 ?_
  refine V_sipush hC (2701 : Int32) dX9_enters_77 (by decide) ?_
  refine V_iald hC (a_m1) (by decide) dX9_enters_80 ?_
  refine V_imul hC dX9_enters_81 ?_
  refine V_iadd hC dX9_enters_82 ?_
  refine V_istore hC ([(6, .int ((2702 : Int32) + ((6 : Int32) * (M.1 7 1 (cl (2701 : Int32)))))), (0, .ref (adr G 7 0)), (1, .int x1), (2, .int x2), (3, .int x3), (4, .int x4), (5, .int x5)]) dX9_enters_83 (by decide) rfl ?_
  refine V_aload_n hC dX9_enters_85 rfl 1 rfl ?_
  refine V_getR hC (r_m0_0) fw_X9_7 dX9_enters_86 ?_
  refine V_iload hC dX9_enters_89 0 rfl ?_
  refine V_aload_n hC dX9_enters_91 rfl 1 rfl ?_
  refine V_getR hC (r_m0_0) fw_X9_7 dX9_enters_92 ?_
  refine V_iconst hC (0 : Int32) dX9_enters_95 (by decide) ?_
  refine V_iald hC (a_m1) (by decide) dX9_enters_96 ?_
  obtain ⟨c2, h⟩ := ite_some h
  refine V_iast hC (a_m1) c2 dX9_enters_97 ?_
  refine V_aload_n hC dX9_enters_98 rfl 1 rfl ?_
  refine V_getR hC (r_m0_0) fw_X9_7 dX9_enters_99 ?_
  refine V_iload hC dX9_enters_102 0 rfl ?_
  refine V_iconst hC (1 : Int32) dX9_enters_104 (by decide) ?_
  refine V_iadd hC dX9_enters_105 ?_
  refine V_iload_n hC dX9_enters_106 rfl 2 rfl ?_
  obtain ⟨c3, h⟩ := ite_some h
  refine V_iast hC (a_m1) c3 dX9_enters_107 ?_
  refine V_aload_n hC dX9_enters_108 rfl 1 rfl ?_
  refine V_getR hC (r_m0_0) fw_X9_7 dX9_enters_109 ?_
  refine V_iload hC dX9_enters_112 0 rfl ?_
  refine V_iconst hC (2 : Int32) dX9_enters_114 (by decide) ?_
  refine V_iadd hC dX9_enters_115 ?_
  refine V_iload_n hC dX9_enters_116 rfl 3 rfl ?_
  obtain ⟨c4, h⟩ := ite_some h
  refine V_iast hC (a_m1) c4 dX9_enters_117 ?_
  refine V_aload_n hC dX9_enters_118 rfl 1 rfl ?_
  refine V_getR hC (r_m0_0) fw_X9_7 dX9_enters_119 ?_
  refine V_iload hC dX9_enters_122 0 rfl ?_
  refine V_iconst hC (3 : Int32) dX9_enters_124 (by decide) ?_
  refine V_iadd hC dX9_enters_125 ?_
  refine V_iload_n hC dX9_enters_126 rfl 4 rfl ?_
  obtain ⟨c5, h⟩ := ite_some h
  refine V_iast hC (a_m1) c5 dX9_enters_127 ?_
  refine V_aload_n hC dX9_enters_128 rfl 1 rfl ?_
  refine V_getR hC (r_m0_0) fw_X9_7 dX9_enters_129 ?_
  refine V_iload hC dX9_enters_132 0 rfl ?_
  refine V_iconst hC (4 : Int32) dX9_enters_134 (by decide) ?_
  refine V_iadd hC dX9_enters_135 ?_
  refine V_iload hC dX9_enters_136 5 rfl ?_
  obtain ⟨c6, h⟩ := ite_some h
  refine V_iast hC (a_m1) c6 dX9_enters_138 ?_
  refine V_aload_n hC dX9_enters_139 rfl 1 rfl ?_
  refine V_getR hC (r_m0_0) fw_X9_7 dX9_enters_140 ?_
  refine V_iload hC dX9_enters_143 0 rfl ?_
  refine V_iconst hC (5 : Int32) dX9_enters_145 (by decide) ?_
  refine V_iadd hC dX9_enters_146 ?_
  refine V_iload hC dX9_enters_147 6 rfl ?_
  obtain ⟨c7, h⟩ := ite_some h
  refine V_iast hC (a_m1) c7 dX9_enters_149 ?_
  refine V_aload_n hC dX9_enters_150 rfl 1 rfl ?_
  refine V_getR hC (r_m0_0) fw_X9_7 dX9_enters_151 ?_
  refine V_sipush hC (2701 : Int32) dX9_enters_154 (by decide) ?_
  refine V_dup2 hC dX9_enters_157 rfl rfl ?_
  refine V_iald hC (a_m1) (by decide) dX9_enters_158 ?_
  refine V_iconst hC (1 : Int32) dX9_enters_159 (by decide) ?_
  refine V_iadd hC dX9_enters_160 ?_
  refine V_iast hC (a_m1) (by decide) dX9_enters_161 ?_
  obtain rfl := Option.some.inj h
  exact V_vret hC hr hlk dX9_enters_162
theorem l_X9_enters_17 {Mf : Mem} {x1 : Int32} {x2 : Int32} {x3 : Int32} {x4 : Int32} {x5 : Int32} (hC : Cx p s m args c cX9_enters RX9 7 G) (hr : meth.sig.returnType = none) (hlk : meth.locks = false) : ∀ (n : Nat) {x6 : Int32} {M : Mem} (h : L_X9_enters_17 x1 x2 x3 x4 x5 n x6 M = some Mf), V p l e (rmk 0) s m args below meth c 7 G 0 0 (MQ below (gQ G none Mf) args s 0 0 (gA G)) 17 [(0, .ref (adr G 7 0)), (1, .int x1), (2, .int x2), (3, .int x3), (4, .int x4), (5, .int x5), (6, .int x6)] [] M := by
  intro n
  induction n with
  | zero => intro x6 M h; cases h
  | succ n ih =>
    intro x6 M h
    have hk17 : ∀ (x6 : Int32) (M : Mem), L_X9_enters_17 x1 x2 x3 x4 x5 n x6 M = some Mf → V p l e (rmk 0) s m args below meth c 7 G 0 0 (MQ below (gQ G none Mf) args s 0 0 (gA G)) 17 [(0, .ref (adr G 7 0)), (1, .int x1), (2, .int x2), (3, .int x3), (4, .int x4), (5, .int x5), (6, .int x6)] [] M := fun _ _ z => ih z
    refine V_iload hC dX9_enters_17 6 rfl ?_
    refine V_sipush hC (894 : Int32) dX9_enters_19 (by decide) ?_
    refine V_icmp_ge hC 56 dX9_enters_22 (by decide) (fun c8 => ?_) (fun c8 => ?_)
    · have h := ite_t c8 h
      refine V_aload_n hC dX9_enters_56 rfl 0 rfl ?_
      refine V_getR hC (r_m0_0) fw_X9_7 dX9_enters_57 ?_
      refine V_sipush hC (2701 : Int32) dX9_enters_60 (by decide) ?_
      refine V_dup2 hC dX9_enters_63 rfl rfl ?_
      refine V_iald hC (a_m1) (by decide) dX9_enters_64 ?_
      refine V_iconst hC (1 : Int32) dX9_enters_65 (by decide) ?_
      refine V_isub hC dX9_enters_66 ?_
      refine V_iast hC (a_m1) (by decide) dX9_enters_67 ?_
      refine V_sub [0, 1, 2, 3, 4, 5] rfl ?_
      exact b_X9_enters_68 hC hr hlk h
    · have h := ite_f c8 h
      refine V_aload_n hC dX9_enters_25 rfl 0 rfl ?_
      refine V_getR hC (r_m0_0) fw_X9_7 dX9_enters_26 ?_
      refine V_sipush hC (2702 : Int32) dX9_enters_29 (by decide) ?_
      refine V_iload hC dX9_enters_32 6 rfl ?_
      refine V_iadd hC dX9_enters_34 ?_
      refine V_aload_n hC dX9_enters_35 rfl 0 rfl ?_
      refine V_getR hC (r_m0_0) fw_X9_7 dX9_enters_36 ?_
      refine V_sipush hC (2702 : Int32) dX9_enters_39 (by decide) ?_
      refine V_iload hC dX9_enters_42 6 rfl ?_
      refine V_iadd hC dX9_enters_44 ?_
      refine V_bipush hC (6 : Int32) dX9_enters_45 (by decide) ?_
      refine V_iadd hC dX9_enters_47 ?_
      obtain ⟨c9, h⟩ := ite_some h
      refine V_iald hC (a_m1) c9 dX9_enters_48 ?_
      obtain ⟨c10, h⟩ := ite_some h
      refine V_iast hC (a_m1) c10 dX9_enters_49 ?_
      refine V_iinc hC (x6 + 1) ([(6, .int (x6 + 1)), (0, .ref (adr G 7 0)), (1, .int x1), (2, .int x2), (3, .int x3), (4, .int x4), (5, .int x5)]) dX9_enters_50 6 rfl rfl (by decide) rfl ?_
      refine V_goto hC 17 dX9_enters_53 (by decide) ?_
      refine V_sub [1, 2, 3, 4, 5, 6, 0] rfl ?_
      exact hk17 _ _ h
theorem c_X9_enters {l : Launch} {G : Geo} {x1 : Int32} {x2 : Int32} {x3 : Int32} {x4 : Int32} {x5 : Int32} {Mf : Mem} {M : Mem} (hG : gD G) (h : f_X9_enters x1 x2 x3 x4 x5 M = some Mf) : Met l yX9_enters (.code yX9_enters cX9_enters 7 none :: GL) (rmk 0) (gP G [.ref (adr G 7 0), .int x1, .int x2, .int x3, .int x4, .int x5] M) (gQ G none Mf) 0 0 (gA G) := by
  refine Met_of (own := RX9) (L := [(0, .ref (adr G 7 0)), (1, .int x1), (2, .int x2), (3, .int x3), (4, .int x4), (5, .int x5)]) hG (by decide +kernel) rfl (Nat.le_of_ble_eq_true rfl) rfl ?_
  intro p e s m args below meth c hC hr hlk
  refine V_aload_n hC dX9_enters_0 rfl 0 rfl ?_
  refine V_getR hC (r_m0_0) fw_X9_7 dX9_enters_1 ?_
  refine V_sipush hC (2701 : Int32) dX9_enters_4 (by decide) ?_
  refine V_iald hC (a_m1) (by decide) dX9_enters_7 ?_
  refine V_sipush hC (150 : Int32) dX9_enters_8 (by decide) ?_
  refine V_icmp_ne hC 68 dX9_enters_11 (by decide) (fun c1 => ?_) (fun c1 => ?_)
  · have h := ite_f c1 h
    exact b_X9_enters_68 hC hr hlk h
  · have h := ite_t c1 h
    refine V_iconst hC (0 : Int32) dX9_enters_14 (by decide) ?_
    refine V_istore hC ([(6, .int (0 : Int32)), (0, .ref (adr G 7 0)), (1, .int x1), (2, .int x2), (3, .int x3), (4, .int x4), (5, .int x5)]) dX9_enters_15 (by decide) rfl ?_
    refine V_sub [1, 2, 3, 4, 5, 6, 0] rfl ?_
    exact l_X9_enters_17 hC hr hlk FU h
theorem l_X9_laysThen_2 {Mf : Mem} (hC : Cx p s m args c cX9_laysThen RX9 2 G) (hr : meth.sig.returnType = none) (hlk : meth.locks = false) : ∀ (n : Nat) {x1 : Int32} {M : Mem} (h : L_X9_laysThen_2 n x1 M = some Mf), V p l e (rmk 0) s m args below meth c 2 G 0 0 (MQ below (gQ G none Mf) args s 0 0 (gA G)) 2 [(0, .ref (adr G 7 0)), (1, .int x1)] [] M := by
  intro n
  induction n with
  | zero => intro x1 M h; cases h
  | succ n ih =>
    intro x1 M h
    have hk2 : ∀ (x1 : Int32) (M : Mem), L_X9_laysThen_2 n x1 M = some Mf → V p l e (rmk 0) s m args below meth c 2 G 0 0 (MQ below (gQ G none Mf) args s 0 0 (gA G)) 2 [(0, .ref (adr G 7 0)), (1, .int x1)] [] M := fun _ _ z => ih z
    refine V_iload_n hC dX9_laysThen_2 rfl 1 rfl ?_
    refine V_bipush hC (120 : Int32) dX9_laysThen_3 (by decide) ?_
    refine V_icmp_ge hC 29 dX9_laysThen_5 (by decide) (fun c1 => ?_) (fun c1 => ?_)
    · have h := ite_t c1 h
      obtain rfl := Option.some.inj h
      exact V_vret hC hr hlk dX9_laysThen_29
    · have h := ite_f c1 h
      refine V_aload_n hC dX9_laysThen_8 rfl 0 rfl ?_
      refine V_getR hC (r_m0_8) fw_X9_25 dX9_laysThen_9 ?_
      refine V_iload_n hC dX9_laysThen_12 rfl 1 rfl ?_
      refine V_aload_n hC dX9_laysThen_13 rfl 0 rfl ?_
      refine V_getR hC (r_m0_0) fw_X9_7 dX9_laysThen_14 ?_
      refine V_bipush hC (82 : Int32) dX9_laysThen_17 (by decide) ?_
      refine V_iload_n hC dX9_laysThen_19 rfl 1 rfl ?_
      refine V_iadd hC dX9_laysThen_20 ?_
      obtain ⟨c2, h⟩ := ite_some h
      refine V_iald hC (a_m1) c2 dX9_laysThen_21 ?_
      obtain ⟨c3, h⟩ := ite_some h
      refine V_iast hC (a_m6) c3 dX9_laysThen_22 ?_
      refine V_iinc hC (x1 + 1) ([(1, .int (x1 + 1)), (0, .ref (adr G 7 0))]) dX9_laysThen_23 1 rfl rfl (by decide) rfl ?_
      refine V_goto hC 2 dX9_laysThen_26 (by decide) ?_
      refine V_sub [1, 0] rfl ?_
      exact hk2 _ _ h
theorem c_X9_laysThen {l : Launch} {G : Geo} {Mf : Mem} {M : Mem} (hG : gD G) (h : f_X9_laysThen M = some Mf) : Met l yX9_laysThen (.code yX9_laysThen cX9_laysThen 2 none :: GL) (rmk 0) (gP G [.ref (adr G 7 0)] M) (gQ G none Mf) 0 0 (gA G) := by
  refine Met_of (own := RX9) (L := [(0, .ref (adr G 7 0))]) hG (by decide +kernel) rfl (Nat.le_of_ble_eq_true rfl) rfl ?_
  intro p e s m args below meth c hC hr hlk
  refine V_iconst hC (0 : Int32) dX9_laysThen_0 (by decide) ?_
  refine V_istore_n hC ([(1, .int (0 : Int32)), (0, .ref (adr G 7 0))]) dX9_laysThen_1 rfl (by decide) rfl ?_
  refine V_sub [1, 0] rfl ?_
  exact l_X9_laysThen_2 hC hr hlk FU h
theorem b_X9_becomes_133 {rv : Int32} {Mf : Mem} {k4 : Int32 → Int32 → Mem → Option (Int32 × Mem)} {x1 : Int32} {x2 : Int32} {x3 : Int32} {z0 : Int32} {z1 : Int32} {z2 : Int32} {M : Mem} (hC : Cx p s m args c cX9_becomes RX9 7 G) (hr : meth.sig.returnType = some .int) (hlk : meth.locks = false) (hk4 : ∀ (x2 : Int32) (x3 : Int32) (M : Mem), k4 x2 x3 M = some (rv, Mf) → V p l e (rmk 1) s m args below meth c 7 G 0 0 (MQ below (gQ G (some (.int rv)) Mf) args s 0 0 (gA G)) 4 [(0, .ref (adr G 7 0)), (1, .int x1), (2, .int x2), (3, .int x3)] [] M) (h : B_X9_becomes_133 k4 x1 x2 x3 z0 z1 z2 M = some (rv, Mf)) : V p l e (rmk 1) s m args below meth c 7 G 0 0 (MQ below (gQ G (some (.int rv)) Mf) args s 0 0 (gA G)) 133 [(0, .ref (adr G 7 0)), (1, .int x1), (2, .int x2), (3, .int x3)] [.int z0, .int z1, .int z2, .ref (adr G 7 1)] M := by
  refine V_iadd hC dX9_becomes_133 ?_
  obtain ⟨c5, h⟩ := ite_some h
  refine V_iast hC (a_m1) c5 dX9_becomes_134 ?_
  refine V_iinc hC (x3 + 1) ([(3, .int (x3 + 1)), (0, .ref (adr G 7 0)), (1, .int x1), (2, .int x2)]) dX9_becomes_135 3 rfl rfl (by decide) rfl ?_
  refine V_goto hC 4 dX9_becomes_138 (by decide) ?_
  refine V_sub [1, 2, 3, 0] rfl ?_
  exact hk4 _ _ _ h
theorem b_X9_becomes_106 {rv : Int32} {Mf : Mem} {k4 : Int32 → Int32 → Mem → Option (Int32 × Mem)} {k16 : Int32 → Int32 → Mem → Option (Int32 × Mem)} {x1 : Int32} {x2 : Int32} {x3 : Int32} {x4 : Int32} {x5 : Int32} {M : Mem} (hC : Cx p s m args c cX9_becomes RX9 7 G) (hr : meth.sig.returnType = some .int) (hlk : meth.locks = false) (hk4 : ∀ (x2 : Int32) (x3 : Int32) (M : Mem), k4 x2 x3 M = some (rv, Mf) → V p l e (rmk 1) s m args below meth c 7 G 0 0 (MQ below (gQ G (some (.int rv)) Mf) args s 0 0 (gA G)) 4 [(0, .ref (adr G 7 0)), (1, .int x1), (2, .int x2), (3, .int x3)] [] M) (hk16 : ∀ (x2 : Int32) (x5 : Int32) (M : Mem), k16 x2 x5 M = some (rv, Mf) → V p l e (rmk 1) s m args below meth c 7 G 0 0 (MQ below (gQ G (some (.int rv)) Mf) args s 0 0 (gA G)) 16 [(0, .ref (adr G 7 0)), (1, .int x1), (2, .int x2), (3, .int x3), (4, .int x4), (5, .int x5)] [] M) (h : B_X9_becomes_106 k4 k16 x1 x2 x3 x4 x5 M = some (rv, Mf)) : V p l e (rmk 1) s m args below meth c 7 G 0 0 (MQ below (gQ G (some (.int rv)) Mf) args s 0 0 (gA G)) 106 [(0, .ref (adr G 7 0)), (1, .int x1), (2, .int x2), (3, .int x3), (4, .int x4), (5, .int x5)] [] M := by
  refine V_iinc hC (x5 + 1) ([(5, .int (x5 + 1)), (0, .ref (adr G 7 0)), (1, .int x1), (2, .int x2), (3, .int x3), (4, .int x4)]) dX9_becomes_106 5 rfl rfl (by decide) rfl ?_
  refine V_goto hC 16 dX9_becomes_109 (by decide) ?_
  refine V_sub [1, 2, 3, 4, 5, 0] rfl ?_
  exact hk16 _ _ _ h
theorem l_X9_becomes_16 {k4 : Int32 → Int32 → Mem → Option (Int32 × Mem)} {rv : Int32} {Mf : Mem} {x1 : Int32} {x3 : Int32} {x4 : Int32} (hC : Cx p s m args c cX9_becomes RX9 7 G) (hr : meth.sig.returnType = some .int) (hlk : meth.locks = false) (hk4 : ∀ (x2 : Int32) (x3 : Int32) (M : Mem), k4 x2 x3 M = some (rv, Mf) → V p l e (rmk 1) s m args below meth c 7 G 0 0 (MQ below (gQ G (some (.int rv)) Mf) args s 0 0 (gA G)) 4 [(0, .ref (adr G 7 0)), (1, .int x1), (2, .int x2), (3, .int x3)] [] M) : ∀ (n : Nat) {x2 : Int32} {x5 : Int32} {M : Mem} (h : L_X9_becomes_16 k4 x1 x3 x4 n x2 x5 M = some (rv, Mf)), V p l e (rmk 1) s m args below meth c 7 G 0 0 (MQ below (gQ G (some (.int rv)) Mf) args s 0 0 (gA G)) 16 [(0, .ref (adr G 7 0)), (1, .int x1), (2, .int x2), (3, .int x3), (4, .int x4), (5, .int x5)] [] M := by
  intro n
  induction n with
  | zero => intro x2 x5 M h; cases h
  | succ n ih =>
    intro x2 x5 M h
    have hk16 : ∀ (x2 : Int32) (x5 : Int32) (M : Mem), L_X9_becomes_16 k4 x1 x3 x4 n x2 x5 M = some (rv, Mf) → V p l e (rmk 1) s m args below meth c 7 G 0 0 (MQ below (gQ G (some (.int rv)) Mf) args s 0 0 (gA G)) 16 [(0, .ref (adr G 7 0)), (1, .int x1), (2, .int x2), (3, .int x3), (4, .int x4), (5, .int x5)] [] M := fun _ _ _ z => ih z
    refine V_iload hC dX9_becomes_16 5 rfl ?_
    refine V_bipush hC (6 : Int32) dX9_becomes_18 (by decide) ?_
    refine V_icmp_ge hC 112 dX9_becomes_20 (by decide) (fun c2 => ?_) (fun c2 => ?_)
    · have h := ite_t c2 h
      refine V_aload_n hC dX9_becomes_112 rfl 0 rfl ?_
      refine V_getR hC (r_m0_0) fw_X9_7 dX9_becomes_113 ?_
      refine V_bipush hC (62 : Int32) dX9_becomes_116 (by decide) ?_
      refine V_iload_n hC dX9_becomes_118 rfl 3 rfl ?_
      refine V_iadd hC dX9_becomes_119 ?_
      refine V_dup2 hC dX9_becomes_120 rfl rfl ?_
      obtain ⟨c3, h⟩ := ite_some h
      refine V_iald hC (a_m1) c3 dX9_becomes_121 ?_
      refine V_iload_n hC dX9_becomes_122 rfl 2 rfl ?_
      refine V_iload hC dX9_becomes_123 4 rfl ?_
      refine V_icmp_le hC 132 dX9_becomes_125 (by decide) (fun c4 => ?_) (fun c4 => ?_)
      · have h := ite_t c4 h
        refine V_iconst hC (0 : Int32) dX9_becomes_132 (by decide) ?_
        refine V_sub [0, 1, 2, 3] rfl ?_
        exact b_X9_becomes_133 hC hr hlk hk4 h
      · have h := ite_f c4 h
        refine V_iconst hC (1 : Int32) dX9_becomes_128 (by decide) ?_
        refine V_goto hC 133 dX9_becomes_129 (by decide) ?_
        refine V_sub [0, 1, 2, 3] rfl ?_
        exact b_X9_becomes_133 hC hr hlk hk4 h
    · have h := ite_f c2 h
      refine V_bipush hC (82 : Int32) dX9_becomes_23 (by decide) ?_
      refine V_bipush hC (6 : Int32) dX9_becomes_25 (by decide) ?_
      refine V_iload_n hC dX9_becomes_27 rfl 3 rfl ?_
      refine V_imul hC dX9_becomes_28 ?_
      refine V_iadd hC dX9_becomes_29 ?_
      refine V_iload hC dX9_becomes_30 5 rfl ?_
      refine V_iadd hC dX9_becomes_32 ?_
      refine V_istore hC ([(6, .int (((82 : Int32) + ((6 : Int32) * x3)) + x5)), (0, .ref (adr G 7 0)), (1, .int x1), (2, .int x2), (3, .int x3), (4, .int x4), (5, .int x5)]) dX9_becomes_33 (by decide) rfl ?_
      refine V_aload_n hC dX9_becomes_35 rfl 1 rfl ?_
      refine V_getR hC (r_m0_0) fw_X9_7 dX9_becomes_36 ?_
      refine V_iload hC dX9_becomes_39 0 rfl ?_
      obtain ⟨c6, h⟩ := ite_some h
      refine V_iald hC (a_m1) c6 dX9_becomes_41 ?_
      refine V_aload_n hC dX9_becomes_42 rfl 1 rfl ?_
      refine V_getR hC (r_m0_8) fw_X9_25 dX9_becomes_43 ?_
      refine V_bipush hC (6 : Int32) dX9_becomes_46 (by decide) ?_
      refine V_iload_n hC dX9_becomes_48 rfl 4 rfl ?_
      refine V_imul hC dX9_becomes_49 ?_
      refine V_iload hC dX9_becomes_50 6 rfl ?_
      refine V_iadd hC dX9_becomes_52 ?_
      obtain ⟨c7, h⟩ := ite_some h
      refine V_iald hC (a_m6) c7 dX9_becomes_53 ?_
      refine V_icmp_eq hC 106 dX9_becomes_54 (by decide) (fun c8 => ?_) (fun c8 => ?_)
      · have h := ite_t c8 h
        refine V_sub [1, 2, 3, 4, 5, 6] rfl ?_
        exact b_X9_becomes_106 hC hr hlk hk4 hk16 h
      · have h := ite_f c8 h
        refine V_aload_n hC dX9_becomes_57 rfl 1 rfl ?_
        refine V_iload_n hC dX9_becomes_58 rfl 4 rfl ?_
        refine V_iload hC dX9_becomes_59 6 rfl ?_
        refine V_aload_n hC dX9_becomes_61 rfl 1 rfl ?_
        refine V_getR hC (r_m0_0) fw_X9_7 dX9_becomes_62 ?_
        refine V_iload hC dX9_becomes_65 0 rfl ?_
        obtain ⟨c9, h⟩ := ite_some h
        refine V_iald hC (a_m1) c9 dX9_becomes_67 ?_
        refine V_aload_n hC dX9_becomes_68 rfl 1 rfl ?_
        refine V_getR hC (r_m0_8) fw_X9_25 dX9_becomes_69 ?_
        refine V_bipush hC (6 : Int32) dX9_becomes_72 (by decide) ?_
        refine V_iload_n hC dX9_becomes_74 rfl 4 rfl ?_
        refine V_imul hC dX9_becomes_75 ?_
        refine V_iload hC dX9_becomes_76 6 rfl ?_
        refine V_iadd hC dX9_becomes_78 ?_
        obtain ⟨c10, h⟩ := ite_some h
        refine V_iald hC (a_m6) c10 dX9_becomes_79 ?_
        refine V_iload_n hC dX9_becomes_80 rfl 2 rfl ?_
        obtain ⟨q11, e11, h⟩ := bind_some h
        refine V_cVv hC [.int x3, .int x5, .int (M.1 7 1 (cl (((82 : Int32) + ((6 : Int32) * x3)) + x5))), .int (M.1 7 6 (cl (((6 : Int32) * x3) + x5))), .int x1] (c_X9_enters (l := l) hC.2.2.2.2.2.2.2 e11) kd_X9_enters kv_X9_enters gw_1451 (r_m0_0).o rfl ⟨Nat.le_of_ble_eq_true rfl, Nat.le_of_ble_eq_true rfl⟩ rfl (Nat.le_of_ble_eq_true rfl) dX9_becomes_81 ⟨Nat.zero_le _, Nat.zero_le _⟩ rfl ?_
        refine V_aload_n hC dX9_becomes_84 rfl 1 rfl ?_
        refine V_getR hC (r_m0_0) fw_X9_7 dX9_becomes_85 ?_
        refine V_iload hC dX9_becomes_88 0 rfl ?_
        refine V_aload_n hC dX9_becomes_90 rfl 1 rfl ?_
        refine V_getR hC (r_m0_8) fw_X9_25 dX9_becomes_91 ?_
        refine V_bipush hC (6 : Int32) dX9_becomes_94 (by decide) ?_
        refine V_iload_n hC dX9_becomes_96 rfl 4 rfl ?_
        refine V_imul hC dX9_becomes_97 ?_
        refine V_iload hC dX9_becomes_98 6 rfl ?_
        refine V_iadd hC dX9_becomes_100 ?_
        obtain ⟨c12, h⟩ := ite_some h
        refine V_iald hC (a_m6) c12 dX9_becomes_101 ?_
        obtain ⟨c13, h⟩ := ite_some h
        refine V_iast hC (a_m1) c13 dX9_becomes_102 ?_
        refine V_iinc hC (x2 + 1) ([(2, .int (x2 + 1)), (6, .int (((82 : Int32) + ((6 : Int32) * x3)) + x5)), (0, .ref (adr G 7 0)), (1, .int x1), (3, .int x3), (4, .int x4), (5, .int x5)]) dX9_becomes_103 3 rfl rfl (by decide) rfl ?_
        refine V_sub [2, 3, 0, 4, 5, 6] rfl ?_
        exact b_X9_becomes_106 hC hr hlk hk4 hk16 h
theorem l_X9_becomes_4 {rv : Int32} {Mf : Mem} {x1 : Int32} (hC : Cx p s m args c cX9_becomes RX9 7 G) (hr : meth.sig.returnType = some .int) (hlk : meth.locks = false) : ∀ (n : Nat) {x2 : Int32} {x3 : Int32} {M : Mem} (h : L_X9_becomes_4 x1 n x2 x3 M = some (rv, Mf)), V p l e (rmk 1) s m args below meth c 7 G 0 0 (MQ below (gQ G (some (.int rv)) Mf) args s 0 0 (gA G)) 4 [(0, .ref (adr G 7 0)), (1, .int x1), (2, .int x2), (3, .int x3)] [] M := by
  intro n
  induction n with
  | zero => intro x2 x3 M h; cases h
  | succ n ih =>
    intro x2 x3 M h
    have hk4 : ∀ (x2 : Int32) (x3 : Int32) (M : Mem), L_X9_becomes_4 x1 n x2 x3 M = some (rv, Mf) → V p l e (rmk 1) s m args below meth c 7 G 0 0 (MQ below (gQ G (some (.int rv)) Mf) args s 0 0 (gA G)) 4 [(0, .ref (adr G 7 0)), (1, .int x1), (2, .int x2), (3, .int x3)] [] M := fun _ _ _ z => ih z
    refine V_iload_n hC dX9_becomes_4 rfl 3 rfl ?_
    refine V_bipush hC (20 : Int32) dX9_becomes_5 (by decide) ?_
    refine V_icmp_ge hC 141 dX9_becomes_7 (by decide) (fun c1 => ?_) (fun c1 => ?_)
    · have h := ite_t c1 h
      refine V_iload_n hC dX9_becomes_141 rfl 2 rfl ?_
      obtain ⟨rfl, rfl⟩ := Prod.mk.inj (Option.some.inj h)
      exact V_iret hC hr hlk dX9_becomes_142
    · have h := ite_f c1 h
      refine V_iload_n hC dX9_becomes_10 rfl 2 rfl ?_
      refine V_istore hC ([(4, .int x2), (0, .ref (adr G 7 0)), (1, .int x1), (2, .int x2), (3, .int x3)]) dX9_becomes_11 (by decide) rfl ?_
      refine V_iconst hC (0 : Int32) dX9_becomes_13 (by decide) ?_
      refine V_istore hC ([(5, .int (0 : Int32)), (4, .int x2), (0, .ref (adr G 7 0)), (1, .int x1), (2, .int x2), (3, .int x3)]) dX9_becomes_14 (by decide) rfl ?_
      refine V_sub [2, 3, 4, 5, 1, 0] rfl ?_
      exact l_X9_becomes_16 hC hr hlk hk4 FU h
theorem c_X9_becomes {l : Launch} {G : Geo} {x1 : Int32} {rv : Int32} {Mf : Mem} {M : Mem} (hG : gD G) (h : f_X9_becomes x1 M = some (rv, Mf)) : Met l yX9_becomes (.code yX9_becomes cX9_becomes 7 (some .int) :: GL) (rmk 1) (gP G [.ref (adr G 7 0), .int x1] M) (gQ G (some (.int rv)) Mf) 0 0 (gA G) := by
  refine Met_of (own := RX9) (L := [(0, .ref (adr G 7 0)), (1, .int x1)]) hG (by decide +kernel) rfl (Nat.le_of_ble_eq_true rfl) rfl ?_
  intro p e s m args below meth c hC hr hlk
  refine V_iconst hC (0 : Int32) dX9_becomes_0 (by decide) ?_
  refine V_istore_n hC ([(2, .int (0 : Int32)), (0, .ref (adr G 7 0)), (1, .int x1)]) dX9_becomes_1 rfl (by decide) rfl ?_
  refine V_iconst hC (0 : Int32) dX9_becomes_2 (by decide) ?_
  refine V_istore_n hC ([(3, .int (0 : Int32)), (2, .int (0 : Int32)), (0, .ref (adr G 7 0)), (1, .int x1)]) dX9_becomes_3 rfl (by decide) rfl ?_
  refine V_sub [2, 3, 1, 0] rfl ?_
  exact l_X9_becomes_4 hC hr hlk FU h
theorem b_X9_was_74 {rv : Int32} {k3 : Int32 → Option Int32} {x1 : Int32} {x2 : Int32} {x3 : Int32} {x4 : Int32} {M : Mem} (hC : Cx p s m args c cX9_was RX9 6 G) (hr : meth.sig.returnType = some .int) (hlk : meth.locks = false) (hk3 : ∀ (x4 : Int32), k3 x4 = some rv → V p l e (rmk 0) s m args below meth c 6 G 0 0 (MQ below (gQ G (some (.int rv)) M) args s 0 0 (gA G)) 3 [(0, .ref (adr G 7 0)), (1, .int x1), (2, .int x2), (3, .int x3), (4, .int x4)] [] M) (h : B_X9_was_74 k3 x1 x2 x3 x4 M = some rv) : V p l e (rmk 0) s m args below meth c 6 G 0 0 (MQ below (gQ G (some (.int rv)) M) args s 0 0 (gA G)) 74 [(0, .ref (adr G 7 0)), (1, .int x1), (2, .int x2), (3, .int x3), (4, .int x4)] [] M := by
  refine V_iinc hC (x4 + 1) ([(4, .int (x4 + 1)), (0, .ref (adr G 7 0)), (1, .int x1), (2, .int x2), (3, .int x3)]) dX9_was_74 4 rfl rfl (by decide) rfl ?_
  refine V_goto hC 3 dX9_was_77 (by decide) ?_
  refine V_sub [1, 2, 3, 4, 0] rfl ?_
  exact hk3 _ h
theorem l_X9_was_3 {rv : Int32} {x1 : Int32} {x2 : Int32} {x3 : Int32} {M : Mem} (hC : Cx p s m args c cX9_was RX9 6 G) (hr : meth.sig.returnType = some .int) (hlk : meth.locks = false) : ∀ (n : Nat) {x4 : Int32} (h : L_X9_was_3 x1 x2 x3 M n x4 = some rv), V p l e (rmk 0) s m args below meth c 6 G 0 0 (MQ below (gQ G (some (.int rv)) M) args s 0 0 (gA G)) 3 [(0, .ref (adr G 7 0)), (1, .int x1), (2, .int x2), (3, .int x3), (4, .int x4)] [] M := by
  intro n
  induction n with
  | zero => intro x4 h; cases h
  | succ n ih =>
    intro x4 h
    have hk3 : ∀ (x4 : Int32), L_X9_was_3 x1 x2 x3 M n x4 = some rv → V p l e (rmk 0) s m args below meth c 6 G 0 0 (MQ below (gQ G (some (.int rv)) M) args s 0 0 (gA G)) 3 [(0, .ref (adr G 7 0)), (1, .int x1), (2, .int x2), (3, .int x3), (4, .int x4)] [] M := fun _ z => ih z
    refine V_iload hC dX9_was_3 4 rfl ?_
    refine V_aload_n hC dX9_was_5 rfl 0 rfl ?_
    refine V_getR hC (r_m0_0) fw_X9_7 dX9_was_6 ?_
    refine V_sipush hC (2701 : Int32) dX9_was_9 (by decide) ?_
    refine V_iald hC (a_m1) (by decide) dX9_was_12 ?_
    refine V_icmp_ge hC 80 dX9_was_13 (by decide) (fun c1 => ?_) (fun c1 => ?_)
    · have h := ite_t c1 h
      refine V_aload_n hC dX9_was_80 rfl 0 rfl ?_
      refine V_getR hC (r_m0_0) fw_X9_7 dX9_was_81 ?_
      refine V_bipush hC (82 : Int32) dX9_was_84 (by decide) ?_
      refine V_bipush hC (6 : Int32) dX9_was_86 (by decide) ?_
      refine V_iload_n hC dX9_was_88 rfl 1 rfl ?_
      refine V_imul hC dX9_was_89 ?_
      refine V_iadd hC dX9_was_90 ?_
      refine V_iload_n hC dX9_was_91 rfl 2 rfl ?_
      refine V_iadd hC dX9_was_92 ?_
      obtain ⟨c2, h⟩ := ite_some h
      refine V_iald hC (a_m1) c2 dX9_was_93 ?_
      obtain rfl := Option.some.inj h
      exact V_iret hC hr hlk dX9_was_94
    · have h := ite_f c1 h
      refine V_sipush hC (2702 : Int32) dX9_was_16 (by decide) ?_
      refine V_bipush hC (6 : Int32) dX9_was_19 (by decide) ?_
      refine V_iload hC dX9_was_21 4 rfl ?_
      refine V_imul hC dX9_was_23 ?_
      refine V_iadd hC dX9_was_24 ?_
      refine V_istore hC ([(5, .int ((2702 : Int32) + ((6 : Int32) * x4))), (0, .ref (adr G 7 0)), (1, .int x1), (2, .int x2), (3, .int x3), (4, .int x4)]) dX9_was_25 (by decide) rfl ?_
      refine V_aload_n hC dX9_was_27 rfl 1 rfl ?_
      refine V_getR hC (r_m0_0) fw_X9_7 dX9_was_28 ?_
      refine V_iload hC dX9_was_31 0 rfl ?_
      obtain ⟨c3, h⟩ := ite_some h
      refine V_iald hC (a_m1) c3 dX9_was_33 ?_
      refine V_iload_n hC dX9_was_34 rfl 4 rfl ?_
      refine V_icmp_le hC 74 dX9_was_35 (by decide) (fun c4 => ?_) (fun c4 => ?_)
      · have h := ite_t c4 h
        refine V_sub [1, 2, 3, 4, 5] rfl ?_
        exact b_X9_was_74 hC hr hlk hk3 h
      · have h := ite_f c4 h
        refine V_aload_n hC dX9_was_38 rfl 1 rfl ?_
        refine V_getR hC (r_m0_0) fw_X9_7 dX9_was_39 ?_
        refine V_iload hC dX9_was_42 0 rfl ?_
        refine V_iconst hC (1 : Int32) dX9_was_44 (by decide) ?_
        refine V_iadd hC dX9_was_45 ?_
        obtain ⟨c5, h⟩ := ite_some h
        refine V_iald hC (a_m1) c5 dX9_was_46 ?_
        refine V_iload_n hC dX9_was_47 rfl 2 rfl ?_
        refine V_icmp_ne hC 74 dX9_was_48 (by decide) (fun c6 => ?_) (fun c6 => ?_)
        · have h := ite_f c6 h
          refine V_sub [1, 2, 3, 4, 5] rfl ?_
          exact b_X9_was_74 hC hr hlk hk3 h
        · have h := ite_t c6 h
          refine V_aload_n hC dX9_was_51 rfl 1 rfl ?_
          refine V_getR hC (r_m0_0) fw_X9_7 dX9_was_52 ?_
          refine V_iload hC dX9_was_55 0 rfl ?_
          refine V_iconst hC (2 : Int32) dX9_was_57 (by decide) ?_
          refine V_iadd hC dX9_was_58 ?_
          obtain ⟨c7, h⟩ := ite_some h
          refine V_iald hC (a_m1) c7 dX9_was_59 ?_
          refine V_iload_n hC dX9_was_60 rfl 3 rfl ?_
          refine V_icmp_ne hC 74 dX9_was_61 (by decide) (fun c8 => ?_) (fun c8 => ?_)
          · have h := ite_f c8 h
            refine V_sub [1, 2, 3, 4, 5] rfl ?_
            exact b_X9_was_74 hC hr hlk hk3 h
          · have h := ite_t c8 h
            refine V_aload_n hC dX9_was_64 rfl 1 rfl ?_
            refine V_getR hC (r_m0_0) fw_X9_7 dX9_was_65 ?_
            refine V_iload hC dX9_was_68 0 rfl ?_
            refine V_iconst hC (3 : Int32) dX9_was_70 (by decide) ?_
            refine V_iadd hC dX9_was_71 ?_
            obtain ⟨c9, h⟩ := ite_some h
            refine V_iald hC (a_m1) c9 dX9_was_72 ?_
            obtain rfl := Option.some.inj h
            exact V_iret hC hr hlk dX9_was_73
theorem c_X9_was {l : Launch} {G : Geo} {x1 : Int32} {x2 : Int32} {x3 : Int32} {rv : Int32} {M : Mem} (hG : gD G) (h : f_X9_was x1 x2 x3 M = some rv) : Met l yX9_was (.code yX9_was cX9_was 6 (some .int) :: GL) (rmk 0) (gP G [.ref (adr G 7 0), .int x1, .int x2, .int x3] M) (gQ G (some (.int rv)) M) 0 0 (gA G) := by
  refine Met_of (own := RX9) (L := [(0, .ref (adr G 7 0)), (1, .int x1), (2, .int x2), (3, .int x3)]) hG (by decide +kernel) rfl (Nat.le_of_ble_eq_true rfl) rfl ?_
  intro p e s m args below meth c hC hr hlk
  refine V_iconst hC (0 : Int32) dX9_was_0 (by decide) ?_
  refine V_istore hC ([(4, .int (0 : Int32)), (0, .ref (adr G 7 0)), (1, .int x1), (2, .int x2), (3, .int x3)]) dX9_was_1 (by decide) rfl ?_
  refine V_sub [1, 2, 3, 4, 0] rfl ?_
  exact l_X9_was_3 hC hr hlk FU h
theorem l_X9_addSection_123 {rv : Int32} {Mf : Mem} {x2 : Int32} (hC : Cx p s m args c cX9_addSection RX9 4 G) (hr : meth.sig.returnType = some .int) (hlk : meth.locks = false) : ∀ (n : Nat) {x3 : Int32} {M : Mem} (h : L_X9_addSection_123 x2 n x3 M = some (rv, Mf)), V p l e (rmk 4) s m args below meth c 4 G 0 0 (MQ below (gQ G (some (.int rv)) Mf) args s 0 0 (gA G)) 123 [(0, .ref (adr G 7 0)), (2, .int x2), (3, .int x3)] [] M := by
  intro n
  induction n with
  | zero => intro x3 M h; cases h
  | succ n ih =>
    intro x3 M h
    have hk123 : ∀ (x3 : Int32) (M : Mem), L_X9_addSection_123 x2 n x3 M = some (rv, Mf) → V p l e (rmk 4) s m args below meth c 4 G 0 0 (MQ below (gQ G (some (.int rv)) Mf) args s 0 0 (gA G)) 123 [(0, .ref (adr G 7 0)), (2, .int x2), (3, .int x3)] [] M := fun _ _ z => ih z
    refine V_iload_n hC dX9_addSection_123 rfl 2 rfl ?_
    refine V_bipush hC (6 : Int32) dX9_addSection_124 (by decide) ?_
    refine V_icmp_ge hC 150 dX9_addSection_126 (by decide) (fun c14 => ?_) (fun c14 => ?_)
    · have h := ite_t c14 h
      refine V_iload_n hC dX9_addSection_150 rfl 1 rfl ?_
      obtain ⟨rfl, rfl⟩ := Prod.mk.inj (Option.some.inj h)
      exact V_iret hC hr hlk dX9_addSection_151
    · have h := ite_f c14 h
      refine V_aload_n hC dX9_addSection_129 rfl 0 rfl ?_
      refine V_getR hC (r_m0_0) fw_X9_7 dX9_addSection_130 ?_
      refine V_bipush hC (82 : Int32) dX9_addSection_133 (by decide) ?_
      refine V_bipush hC (6 : Int32) dX9_addSection_135 (by decide) ?_
      refine V_iload_n hC dX9_addSection_137 rfl 1 rfl ?_
      refine V_imul hC dX9_addSection_138 ?_
      refine V_iadd hC dX9_addSection_139 ?_
      refine V_iload_n hC dX9_addSection_140 rfl 2 rfl ?_
      refine V_iadd hC dX9_addSection_141 ?_
      refine V_iconst hC (0 : Int32) dX9_addSection_142 (by decide) ?_
      obtain ⟨c15, h⟩ := ite_some h
      refine V_iast hC (a_m1) c15 dX9_addSection_143 ?_
      refine V_iinc hC (x3 + 1) ([(3, .int (x3 + 1)), (0, .ref (adr G 7 0)), (2, .int x2)]) dX9_addSection_144 2 rfl rfl (by decide) rfl ?_
      refine V_goto hC 123 dX9_addSection_147 (by decide) ?_
      refine V_sub [1, 2, 0] rfl ?_
      exact hk123 _ _ h
theorem l_X9_addSection_49 {rv : Int32} {Mf : Mem} {x1 : Int32} {M : Mem} (hC : Cx p s m args c cX9_addSection RX9 4 G) (hr : meth.sig.returnType = some .int) (hlk : meth.locks = false) : ∀ (n : Nat) {x2 : Int32} (h : L_X9_addSection_49 x1 M n x2 = some (rv, Mf)), V p l e (rmk 4) s m args below meth c 4 G 0 0 (MQ below (gQ G (some (.int rv)) Mf) args s 0 0 (gA G)) 49 [(0, .ref (adr G 7 0)), (1, .int x1), (2, .int x2)] [] M := by
  intro n
  induction n with
  | zero => intro x2 h; cases h
  | succ n ih =>
    intro x2 h
    have hk49 : ∀ (x2 : Int32), L_X9_addSection_49 x1 M n x2 = some (rv, Mf) → V p l e (rmk 4) s m args below meth c 4 G 0 0 (MQ below (gQ G (some (.int rv)) Mf) args s 0 0 (gA G)) 49 [(0, .ref (adr G 7 0)), (1, .int x1), (2, .int x2)] [] M := fun _ z => ih z
    refine V_aload_n hC dX9_addSection_49 rfl 0 rfl ?_
    refine V_getR hC (r_m0_0) fw_X9_7 dX9_addSection_50 ?_
    refine V_iconst hC (2 : Int32) dX9_addSection_53 (by decide) ?_
    refine V_iload_n hC dX9_addSection_54 rfl 2 rfl ?_
    refine V_iadd hC dX9_addSection_55 ?_
    obtain ⟨c8, h⟩ := ite_some h
    refine V_iald hC (a_m1) c8 dX9_addSection_56 ?_
    refine V_iconst hC (1 : Int32) dX9_addSection_57 (by decide) ?_
    refine V_icmp_ne hC 67 dX9_addSection_58 (by decide) (fun c9 => ?_) (fun c9 => ?_)
    · have h := ite_f c9 h
      refine V_aload_n hC dX9_addSection_67 rfl 0 rfl ?_
      refine V_getR hC (r_m0_0) fw_X9_7 dX9_addSection_68 ?_
      refine V_iconst hC (2 : Int32) dX9_addSection_71 (by decide) ?_
      refine V_iload_n hC dX9_addSection_72 rfl 2 rfl ?_
      refine V_iadd hC dX9_addSection_73 ?_
      refine V_iconst hC (1 : Int32) dX9_addSection_74 (by decide) ?_
      obtain ⟨c10, h⟩ := ite_some h
      refine V_iast hC (a_m1) c10 dX9_addSection_75 ?_
      refine V_aload_n hC dX9_addSection_76 rfl 0 rfl ?_
      refine V_getR hC (r_m0_0) fw_X9_7 dX9_addSection_77 ?_
      refine V_bipush hC (22 : Int32) dX9_addSection_80 (by decide) ?_
      refine V_iload_n hC dX9_addSection_82 rfl 2 rfl ?_
      refine V_iadd hC dX9_addSection_83 ?_
      refine V_iload_n hC dX9_addSection_84 rfl 1 rfl ?_
      obtain ⟨c11, h⟩ := ite_some h
      refine V_iast hC (a_m1) c11 dX9_addSection_85 ?_
      refine V_aload_n hC dX9_addSection_86 rfl 0 rfl ?_
      refine V_getR hC (r_m0_0) fw_X9_7 dX9_addSection_87 ?_
      refine V_bipush hC (42 : Int32) dX9_addSection_90 (by decide) ?_
      refine V_iload_n hC dX9_addSection_92 rfl 2 rfl ?_
      refine V_iadd hC dX9_addSection_93 ?_
      refine V_aload_n hC dX9_addSection_94 rfl 0 rfl ?_
      refine V_getR hC (r_m0_0) fw_X9_7 dX9_addSection_95 ?_
      refine V_iconst hC (1 : Int32) dX9_addSection_98 (by decide) ?_
      refine V_iald hC (a_m1) (by decide) dX9_addSection_99 ?_
      obtain ⟨c12, h⟩ := ite_some h
      refine V_iast hC (a_m1) c12 dX9_addSection_100 ?_
      refine V_aload_n hC dX9_addSection_101 rfl 0 rfl ?_
      refine V_getR hC (r_m0_0) fw_X9_7 dX9_addSection_102 ?_
      refine V_iconst hC (1 : Int32) dX9_addSection_105 (by decide) ?_
      refine V_dup2 hC dX9_addSection_106 rfl rfl ?_
      refine V_iald hC (a_m1) (by decide) dX9_addSection_107 ?_
      refine V_iconst hC (1 : Int32) dX9_addSection_108 (by decide) ?_
      refine V_iadd hC dX9_addSection_109 ?_
      refine V_iast hC (a_m1) (by decide) dX9_addSection_110 ?_
      refine V_aload_n hC dX9_addSection_111 rfl 0 rfl ?_
      refine V_getR hC (r_m0_0) fw_X9_7 dX9_addSection_112 ?_
      refine V_bipush hC (62 : Int32) dX9_addSection_115 (by decide) ?_
      refine V_iload_n hC dX9_addSection_117 rfl 2 rfl ?_
      refine V_iadd hC dX9_addSection_118 ?_
      refine V_iconst hC (0 : Int32) dX9_addSection_119 (by decide) ?_
      obtain ⟨c13, h⟩ := ite_some h
      refine V_iast hC (a_m1) c13 dX9_addSection_120 ?_
      refine V_iconst hC (0 : Int32) dX9_addSection_121 (by decide) ?_
      refine V_istore_n hC ([(3, .int (0 : Int32)), (0, .ref (adr G 7 0)), (1, .int x1), (2, .int x2)]) dX9_addSection_122 rfl (by decide) rfl ?_
      refine V_sub [1, 3, 0] rfl ?_
      exact l_X9_addSection_123 hC hr hlk FU h
    · have h := ite_t c9 h
      refine V_iinc hC (x2 + 1) ([(2, .int (x2 + 1)), (0, .ref (adr G 7 0)), (1, .int x1)]) dX9_addSection_61 2 rfl rfl (by decide) rfl ?_
      refine V_goto hC 49 dX9_addSection_64 (by decide) ?_
      refine V_sub [1, 2, 0] rfl ?_
      exact hk49 _ h
theorem b_X9_addSection_35 {rv : Int32} {Mf : Mem} {x1 : Int32} {z0 : Int32} {M : Mem} (hC : Cx p s m args c cX9_addSection RX9 4 G) (hr : meth.sig.returnType = some .int) (hlk : meth.locks = false) (h : B_X9_addSection_35 x1 z0 M = some (rv, Mf)) : V p l e (rmk 4) s m args below meth c 4 G 0 0 (MQ below (gQ G (some (.int rv)) Mf) args s 0 0 (gA G)) 35 [(0, .ref (adr G 7 0)), (1, .int x1)] [.int z0, .ref (adr G 7 0)] M := by
  obtain ⟨q5, e5, h⟩ := bind_some h
  refine V_cVr hC [.int z0] (c_X9_refused (l := l) (rv := q5.1) (Mf := q5.2) hC.2.2.2.2.2.2.2 e5) kd_X9_refused kv_X9_refused gw_1318 (r_m0_0).o rfl ⟨Nat.le_of_ble_eq_true rfl, Nat.le_of_ble_eq_true rfl⟩ rfl (Nat.le_of_ble_eq_true rfl) dX9_addSection_35 ⟨Nat.zero_le _, Nat.zero_le _⟩ rfl ?_
  refine V_if_eq hC 43 dX9_addSection_38 (by decide) (fun c6 => ?_) (fun c6 => ?_)
  · have h := ite_t c6 h
    refine V_aload_n hC dX9_addSection_43 rfl 0 rfl ?_
    obtain ⟨q7, e7, h⟩ := bind_some h
    refine V_cVv hC [] (c_X9_saves (l := l) hC.2.2.2.2.2.2.2 e7) kd_X9_saves kv_X9_saves gw_1363 (r_m0_0).o rfl ⟨Nat.le_of_ble_eq_true rfl, Nat.le_of_ble_eq_true rfl⟩ rfl (Nat.le_of_ble_eq_true rfl) dX9_addSection_44 ⟨Nat.zero_le _, Nat.zero_le _⟩ rfl ?_
    refine V_iconst hC (0 : Int32) dX9_addSection_47 (by decide) ?_
    refine V_istore_n hC ([(2, .int (0 : Int32)), (0, .ref (adr G 7 0)), (1, .int x1)]) dX9_addSection_48 rfl (by decide) rfl ?_
    refine V_sub [1, 2, 0] rfl ?_
    exact l_X9_addSection_49 hC hr hlk FU h
  · have h := ite_f c6 h
    refine V_iconst hC (0 : Int32) dX9_addSection_41 (by decide) ?_
    obtain ⟨rfl, rfl⟩ := Prod.mk.inj (Option.some.inj h)
    exact V_iret hC hr hlk dX9_addSection_42
theorem b_X9_addSection_30 {rv : Int32} {Mf : Mem} {x1 : Int32} {M : Mem} (hC : Cx p s m args c cX9_addSection RX9 4 G) (hr : meth.sig.returnType = some .int) (hlk : meth.locks = false) (h : B_X9_addSection_30 x1 M = some (rv, Mf)) : V p l e (rmk 4) s m args below meth c 4 G 0 0 (MQ below (gQ G (some (.int rv)) Mf) args s 0 0 (gA G)) 30 [(0, .ref (adr G 7 0)), (1, .int x1)] [.ref (adr G 7 0)] M := by
  refine V_iconst hC (2 : Int32) dX9_addSection_30 (by decide) ?_
  refine V_goto hC 35 dX9_addSection_31 (by decide) ?_
  exact b_X9_addSection_35 hC hr hlk h
theorem c_X9_addSection {l : Launch} {G : Geo} {x1 : Int32} {rv : Int32} {Mf : Mem} {M : Mem} (hG : gD G) (h : f_X9_addSection x1 M = some (rv, Mf)) : Met l yX9_addSection (.code yX9_addSection cX9_addSection 4 (some .int) :: GL) (rmk 4) (gP G [.ref (adr G 7 0), .int x1] M) (gQ G (some (.int rv)) Mf) 0 0 (gA G) := by
  refine Met_of (own := RX9) (L := [(0, .ref (adr G 7 0)), (1, .int x1)]) hG (by decide +kernel) rfl (Nat.le_of_ble_eq_true rfl) rfl ?_
  intro p e s m args below meth c hC hr hlk
  refine V_aload_n hC dX9_addSection_0 rfl 0 rfl ?_
  refine V_aload_n hC dX9_addSection_1 rfl 0 rfl ?_
  refine V_iload_n hC dX9_addSection_2 rfl 1 rfl ?_
  obtain ⟨q1, e1, h⟩ := bind_some h
  refine V_cVr hC [.int x1] (c_X9_isSection (l := l) hC.2.2.2.2.2.2.2 e1) kd_X9_isSection kv_X9_isSection gw_1326 (r_m0_0).o rfl ⟨Nat.le_of_ble_eq_true rfl, Nat.le_of_ble_eq_true rfl⟩ rfl (Nat.le_of_ble_eq_true rfl) dX9_addSection_3 ⟨Nat.zero_le _, Nat.zero_le _⟩ rfl ?_
  refine V_if_ne hC 13 dX9_addSection_6 (by decide) (fun c2 => ?_) (fun c2 => ?_)
  · have h := ite_f c2 h
    refine V_aload_n hC dX9_addSection_13 rfl 0 rfl ?_
    obtain ⟨q3, e3, h⟩ := bind_some h
    refine V_cVr hC [] (c_X9_many (l := l) hC.2.2.2.2.2.2.2 e3) kd_X9_many kv_X9_many gw_1333 (r_m0_0).o rfl ⟨Nat.le_of_ble_eq_true rfl, Nat.le_of_ble_eq_true rfl⟩ rfl (Nat.le_of_ble_eq_true rfl) dX9_addSection_14 ⟨Nat.zero_le _, Nat.zero_le _⟩ rfl ?_
    refine V_bipush hC (20 : Int32) dX9_addSection_17 (by decide) ?_
    refine V_icmp_eq hC 30 dX9_addSection_19 (by decide) (fun c4 => ?_) (fun c4 => ?_)
    · have h := ite_t c4 h
      exact b_X9_addSection_30 hC hr hlk h
    · have h := ite_f c4 h
      refine V_aload_n hC dX9_addSection_22 rfl 0 rfl ?_
      refine V_iload_n hC dX9_addSection_23 rfl 1 rfl ?_
      obtain ⟨q16, e16, h⟩ := bind_some h
      refine V_cVr hC [.int x1] (c_X9_isCovered (l := l) hC.2.2.2.2.2.2.2 e16) kd_X9_isCovered kv_X9_isCovered gw_1337 (r_m0_0).o rfl ⟨Nat.le_of_ble_eq_true rfl, Nat.le_of_ble_eq_true rfl⟩ rfl (Nat.le_of_ble_eq_true rfl) dX9_addSection_24 ⟨Nat.zero_le _, Nat.zero_le _⟩ rfl ?_
      refine V_if_eq hC 34 dX9_addSection_27 (by decide) (fun c17 => ?_) (fun c17 => ?_)
      · have h := ite_t c17 h
        refine V_iconst hC (0 : Int32) dX9_addSection_34 (by decide) ?_
        exact b_X9_addSection_35 hC hr hlk h
      · have h := ite_f c17 h
        exact b_X9_addSection_30 hC hr hlk h
  · have h := ite_t c2 h
    refine V_iconst hC (1 : Int32) dX9_addSection_9 (by decide) ?_
    refine V_goto hC 35 dX9_addSection_10 (by decide) ?_
    exact b_X9_addSection_35 hC hr hlk h
theorem b_X9_removeSection_246 {rv : Int32} {Mf : Mem} {k208 : Int32 → Mem → Option (Int32 × Mem)} {x2 : Int32} {x4 : Int32} {z0 : Int32} {z1 : Int32} {M : Mem} (hC : Cx p s m args c cX9_removeSection RX9 6 G) (hr : meth.sig.returnType = some .int) (hlk : meth.locks = false) (hk208 : ∀ (x4 : Int32) (M : Mem), k208 x4 M = some (rv, Mf) → V p l e (rmk 4) s m args below meth c 6 G 0 0 (MQ below (gQ G (some (.int rv)) Mf) args s 0 0 (gA G)) 208 [(0, .ref (adr G 7 0)), (2, .int x2), (4, .int x4)] [] M) (h : B_X9_removeSection_246 k208 x2 x4 z0 z1 M = some (rv, Mf)) : V p l e (rmk 4) s m args below meth c 6 G 0 0 (MQ below (gQ G (some (.int rv)) Mf) args s 0 0 (gA G)) 246 [(0, .ref (adr G 7 0)), (2, .int x2), (4, .int x4)] [.int z0, .int z1, .ref (adr G 7 1)] M := by
  obtain ⟨c16, h⟩ := ite_some h
  refine V_iast hC (a_m1) c16 dX9_removeSection_246 ?_
  refine V_iinc hC (x4 + 1) ([(4, .int (x4 + 1)), (0, .ref (adr G 7 0)), (2, .int x2)]) dX9_removeSection_247 2 rfl rfl (by decide) rfl ?_
  refine V_goto hC 208 dX9_removeSection_250 (by decide) ?_
  refine V_sub [1, 2, 0] rfl ?_
  exact hk208 _ _ h
theorem l_X9_removeSection_208 {rv : Int32} {Mf : Mem} {x2 : Int32} (hC : Cx p s m args c cX9_removeSection RX9 6 G) (hr : meth.sig.returnType = some .int) (hlk : meth.locks = false) : ∀ (n : Nat) {x4 : Int32} {M : Mem} (h : L_X9_removeSection_208 x2 n x4 M = some (rv, Mf)), V p l e (rmk 4) s m args below meth c 6 G 0 0 (MQ below (gQ G (some (.int rv)) Mf) args s 0 0 (gA G)) 208 [(0, .ref (adr G 7 0)), (2, .int x2), (4, .int x4)] [] M := by
  intro n
  induction n with
  | zero => intro x4 M h; cases h
  | succ n ih =>
    intro x4 M h
    have hk208 : ∀ (x4 : Int32) (M : Mem), L_X9_removeSection_208 x2 n x4 M = some (rv, Mf) → V p l e (rmk 4) s m args below meth c 6 G 0 0 (MQ below (gQ G (some (.int rv)) Mf) args s 0 0 (gA G)) 208 [(0, .ref (adr G 7 0)), (2, .int x2), (4, .int x4)] [] M := fun _ _ z => ih z
    refine V_iload hC dX9_removeSection_208 2 rfl ?_
    refine V_bipush hC (20 : Int32) dX9_removeSection_210 (by decide) ?_
    refine V_icmp_ge hC 253 dX9_removeSection_212 (by decide) (fun c12 => ?_) (fun c12 => ?_)
    · have h := ite_t c12 h
      refine V_iload_n hC dX9_removeSection_253 rfl 1 rfl ?_
      obtain ⟨rfl, rfl⟩ := Prod.mk.inj (Option.some.inj h)
      exact V_iret hC hr hlk dX9_removeSection_254
    · have h := ite_f c12 h
      refine V_aload_n hC dX9_removeSection_215 rfl 0 rfl ?_
      refine V_getR hC (r_m0_0) fw_X9_7 dX9_removeSection_216 ?_
      refine V_iconst hC (2 : Int32) dX9_removeSection_219 (by decide) ?_
      refine V_iload hC dX9_removeSection_220 2 rfl ?_
      refine V_iadd hC dX9_removeSection_222 ?_
      refine V_aload_n hC dX9_removeSection_223 rfl 0 rfl ?_
      refine V_getR hC (r_m0_9) fw_X9_28 dX9_removeSection_224 ?_
      refine V_iload hC dX9_removeSection_227 2 rfl ?_
      obtain ⟨c13, h⟩ := ite_some h
      refine V_zald hC (a_m7) c13 dX9_removeSection_229 ?_
      refine V_if_eq hC 237 dX9_removeSection_230 (by decide) (fun c14 => ?_) (fun c14 => ?_)
      · have h := ite_t c14 h
        refine V_aload_n hC dX9_removeSection_237 rfl 0 rfl ?_
        refine V_getR hC (r_m0_0) fw_X9_7 dX9_removeSection_238 ?_
        refine V_iconst hC (2 : Int32) dX9_removeSection_241 (by decide) ?_
        refine V_iload hC dX9_removeSection_242 2 rfl ?_
        refine V_iadd hC dX9_removeSection_244 ?_
        obtain ⟨c15, h⟩ := ite_some h
        refine V_iald hC (a_m1) c15 dX9_removeSection_245 ?_
        exact b_X9_removeSection_246 hC hr hlk hk208 h
      · have h := ite_f c14 h
        refine V_iconst hC (0 : Int32) dX9_removeSection_233 (by decide) ?_
        refine V_goto hC 246 dX9_removeSection_234 (by decide) ?_
        exact b_X9_removeSection_246 hC hr hlk hk208 h
theorem b_X9_removeSection_190 {rv : Int32} {Mf : Mem} {k101 : Int32 → Int32 → Mem → Option (Int32 × Mem)} {x2 : Int32} {x3 : Int32} {x4 : Int32} {M : Mem} (hC : Cx p s m args c cX9_removeSection RX9 6 G) (hr : meth.sig.returnType = some .int) (hlk : meth.locks = false) (hk101 : ∀ (x3 : Int32) (x4 : Int32) (M : Mem), k101 x3 x4 M = some (rv, Mf) → V p l e (rmk 4) s m args below meth c 6 G 0 0 (MQ below (gQ G (some (.int rv)) Mf) args s 0 0 (gA G)) 101 [(0, .ref (adr G 7 0)), (2, .int x2), (3, .int x3), (4, .int x4)] [] M) (h : B_X9_removeSection_190 k101 x2 x3 x4 M = some (rv, Mf)) : V p l e (rmk 4) s m args below meth c 6 G 0 0 (MQ below (gQ G (some (.int rv)) Mf) args s 0 0 (gA G)) 190 [(0, .ref (adr G 7 0)), (2, .int x2), (3, .int x3), (4, .int x4)] [] M := by
  refine V_iinc hC (x4 + 1) ([(4, .int (x4 + 1)), (0, .ref (adr G 7 0)), (2, .int x2), (3, .int x3)]) dX9_removeSection_190 3 rfl rfl (by decide) rfl ?_
  refine V_goto hC 101 dX9_removeSection_193 (by decide) ?_
  refine V_sub [1, 2, 3, 0] rfl ?_
  exact hk101 _ _ _ h
theorem l_X9_removeSection_141 {k101 : Int32 → Int32 → Mem → Option (Int32 × Mem)} {rv : Int32} {Mf : Mem} {x2 : Int32} {x3 : Int32} {x4 : Int32} (hC : Cx p s m args c cX9_removeSection RX9 6 G) (hr : meth.sig.returnType = some .int) (hlk : meth.locks = false) (hk101 : ∀ (x3 : Int32) (x4 : Int32) (M : Mem), k101 x3 x4 M = some (rv, Mf) → V p l e (rmk 4) s m args below meth c 6 G 0 0 (MQ below (gQ G (some (.int rv)) Mf) args s 0 0 (gA G)) 101 [(0, .ref (adr G 7 0)), (2, .int x2), (3, .int x3), (4, .int x4)] [] M) : ∀ (n : Nat) {x5 : Int32} {M : Mem} (h : L_X9_removeSection_141 k101 x2 x3 x4 n x5 M = some (rv, Mf)), V p l e (rmk 4) s m args below meth c 6 G 0 0 (MQ below (gQ G (some (.int rv)) Mf) args s 0 0 (gA G)) 141 [(0, .ref (adr G 7 0)), (2, .int x2), (3, .int x3), (4, .int x4), (5, .int x5)] [] M := by
  intro n
  induction n with
  | zero => intro x5 M h; cases h
  | succ n ih =>
    intro x5 M h
    have hk141 : ∀ (x5 : Int32) (M : Mem), L_X9_removeSection_141 k101 x2 x3 x4 n x5 M = some (rv, Mf) → V p l e (rmk 4) s m args below meth c 6 G 0 0 (MQ below (gQ G (some (.int rv)) Mf) args s 0 0 (gA G)) 141 [(0, .ref (adr G 7 0)), (2, .int x2), (3, .int x3), (4, .int x4), (5, .int x5)] [] M := fun _ _ z => ih z
    refine V_iload hC dX9_removeSection_141 4 rfl ?_
    refine V_bipush hC (6 : Int32) dX9_removeSection_143 (by decide) ?_
    refine V_icmp_ge hC 187 dX9_removeSection_145 (by decide) (fun c20 => ?_) (fun c20 => ?_)
    · have h := ite_t c20 h
      refine V_iinc hC (x3 + 1) ([(3, .int (x3 + 1)), (0, .ref (adr G 7 0)), (2, .int x2), (4, .int x4), (5, .int x5)]) dX9_removeSection_187 2 rfl rfl (by decide) rfl ?_
      refine V_sub [1, 2, 0, 3] rfl ?_
      exact b_X9_removeSection_190 hC hr hlk hk101 h
    · have h := ite_f c20 h
      refine V_aload_n hC dX9_removeSection_148 rfl 0 rfl ?_
      refine V_getR hC (r_m0_0) fw_X9_7 dX9_removeSection_149 ?_
      refine V_sipush hC (2702 : Int32) dX9_removeSection_152 (by decide) ?_
      refine V_bipush hC (6 : Int32) dX9_removeSection_155 (by decide) ?_
      refine V_iload_n hC dX9_removeSection_157 rfl 2 rfl ?_
      refine V_imul hC dX9_removeSection_158 ?_
      refine V_iadd hC dX9_removeSection_159 ?_
      refine V_iload hC dX9_removeSection_160 4 rfl ?_
      refine V_iadd hC dX9_removeSection_162 ?_
      refine V_aload_n hC dX9_removeSection_163 rfl 0 rfl ?_
      refine V_getR hC (r_m0_0) fw_X9_7 dX9_removeSection_164 ?_
      refine V_sipush hC (2702 : Int32) dX9_removeSection_167 (by decide) ?_
      refine V_bipush hC (6 : Int32) dX9_removeSection_170 (by decide) ?_
      refine V_iload hC dX9_removeSection_172 3 rfl ?_
      refine V_imul hC dX9_removeSection_174 ?_
      refine V_iadd hC dX9_removeSection_175 ?_
      refine V_iload hC dX9_removeSection_176 4 rfl ?_
      refine V_iadd hC dX9_removeSection_178 ?_
      obtain ⟨c21, h⟩ := ite_some h
      refine V_iald hC (a_m1) c21 dX9_removeSection_179 ?_
      obtain ⟨c22, h⟩ := ite_some h
      refine V_iast hC (a_m1) c22 dX9_removeSection_180 ?_
      refine V_iinc hC (x5 + 1) ([(5, .int (x5 + 1)), (0, .ref (adr G 7 0)), (2, .int x2), (3, .int x3), (4, .int x4)]) dX9_removeSection_181 4 rfl rfl (by decide) rfl ?_
      refine V_goto hC 141 dX9_removeSection_184 (by decide) ?_
      refine V_sub [1, 2, 3, 4, 0] rfl ?_
      exact hk141 _ _ h
theorem l_X9_removeSection_101 {rv : Int32} {Mf : Mem} {x2 : Int32} (hC : Cx p s m args c cX9_removeSection RX9 6 G) (hr : meth.sig.returnType = some .int) (hlk : meth.locks = false) : ∀ (n : Nat) {x3 : Int32} {x4 : Int32} {M : Mem} (h : L_X9_removeSection_101 x2 n x3 x4 M = some (rv, Mf)), V p l e (rmk 4) s m args below meth c 6 G 0 0 (MQ below (gQ G (some (.int rv)) Mf) args s 0 0 (gA G)) 101 [(0, .ref (adr G 7 0)), (2, .int x2), (3, .int x3), (4, .int x4)] [] M := by
  intro n
  induction n with
  | zero => intro x3 x4 M h; cases h
  | succ n ih =>
    intro x3 x4 M h
    have hk101 : ∀ (x3 : Int32) (x4 : Int32) (M : Mem), L_X9_removeSection_101 x2 n x3 x4 M = some (rv, Mf) → V p l e (rmk 4) s m args below meth c 6 G 0 0 (MQ below (gQ G (some (.int rv)) Mf) args s 0 0 (gA G)) 101 [(0, .ref (adr G 7 0)), (2, .int x2), (3, .int x3), (4, .int x4)] [] M := fun _ _ _ z => ih z
    refine V_iload hC dX9_removeSection_101 3 rfl ?_
    refine V_aload_n hC dX9_removeSection_103 rfl 0 rfl ?_
    refine V_getR hC (r_m0_0) fw_X9_7 dX9_removeSection_104 ?_
    refine V_sipush hC (2701 : Int32) dX9_removeSection_107 (by decide) ?_
    refine V_iald hC (a_m1) (by decide) dX9_removeSection_110 ?_
    refine V_icmp_ge hC 196 dX9_removeSection_111 (by decide) (fun c11 => ?_) (fun c11 => ?_)
    · have h := ite_t c11 h
      refine V_aload_n hC dX9_removeSection_196 rfl 0 rfl ?_
      refine V_getR hC (r_m0_0) fw_X9_7 dX9_removeSection_197 ?_
      refine V_sipush hC (2701 : Int32) dX9_removeSection_200 (by decide) ?_
      refine V_iload_n hC dX9_removeSection_203 rfl 2 rfl ?_
      refine V_iast hC (a_m1) (by decide) dX9_removeSection_204 ?_
      refine V_iconst hC (0 : Int32) dX9_removeSection_205 (by decide) ?_
      refine V_istore hC ([(4, .int (0 : Int32)), (0, .ref (adr G 7 0)), (2, .int x2), (3, .int x3)]) dX9_removeSection_206 (by decide) rfl ?_
      refine V_sub [1, 2, 0] rfl ?_
      exact l_X9_removeSection_208 hC hr hlk FU h
    · have h := ite_f c11 h
      refine V_aload_n hC dX9_removeSection_114 rfl 0 rfl ?_
      refine V_getR hC (r_m0_9) fw_X9_28 dX9_removeSection_115 ?_
      refine V_aload_n hC dX9_removeSection_118 rfl 0 rfl ?_
      refine V_getR hC (r_m0_0) fw_X9_7 dX9_removeSection_119 ?_
      refine V_sipush hC (2702 : Int32) dX9_removeSection_122 (by decide) ?_
      refine V_bipush hC (6 : Int32) dX9_removeSection_125 (by decide) ?_
      refine V_iload hC dX9_removeSection_127 3 rfl ?_
      refine V_imul hC dX9_removeSection_129 ?_
      refine V_iadd hC dX9_removeSection_130 ?_
      refine V_iconst hC (1 : Int32) dX9_removeSection_131 (by decide) ?_
      refine V_iadd hC dX9_removeSection_132 ?_
      obtain ⟨c17, h⟩ := ite_some h
      refine V_iald hC (a_m1) c17 dX9_removeSection_133 ?_
      obtain ⟨c18, h⟩ := ite_some h
      refine V_zald hC (a_m7) c18 dX9_removeSection_134 ?_
      refine V_if_ne hC 190 dX9_removeSection_135 (by decide) (fun c19 => ?_) (fun c19 => ?_)
      · have h := ite_f c19 h
        exact b_X9_removeSection_190 hC hr hlk hk101 h
      · have h := ite_t c19 h
        refine V_iconst hC (0 : Int32) dX9_removeSection_138 (by decide) ?_
        refine V_istore hC ([(5, .int (0 : Int32)), (0, .ref (adr G 7 0)), (2, .int x2), (3, .int x3), (4, .int x4)]) dX9_removeSection_139 (by decide) rfl ?_
        refine V_sub [1, 2, 3, 4, 0] rfl ?_
        exact l_X9_removeSection_141 hC hr hlk hk101 FU h
theorem b_X9_removeSection_89 {rv : Int32} {Mf : Mem} {k56 : Int32 → Mem → Option (Int32 × Mem)} {x1 : Int32} {x2 : Int32} {x3 : Int32} {z0 : Int32} {z1 : Int32} {M : Mem} (hC : Cx p s m args c cX9_removeSection RX9 6 G) (hr : meth.sig.returnType = some .int) (hlk : meth.locks = false) (hk56 : ∀ (x3 : Int32) (M : Mem), k56 x3 M = some (rv, Mf) → V p l e (rmk 4) s m args below meth c 6 G 0 0 (MQ below (gQ G (some (.int rv)) Mf) args s 0 0 (gA G)) 56 [(0, .ref (adr G 7 0)), (1, .int x1), (2, .int x2), (3, .int x3)] [] M) (h : B_X9_removeSection_89 k56 x1 x2 x3 z0 z1 M = some (rv, Mf)) : V p l e (rmk 4) s m args below meth c 6 G 0 0 (MQ below (gQ G (some (.int rv)) Mf) args s 0 0 (gA G)) 89 [(0, .ref (adr G 7 0)), (1, .int x1), (2, .int x2), (3, .int x3)] [.int z0, .int z1, .ref (adr G 7 7)] M := by
  obtain ⟨c25, h⟩ := ite_some h
  refine V_zast hC (a_m7) c25 dX9_removeSection_89 ?_
  refine V_iinc hC (x3 + 1) ([(3, .int (x3 + 1)), (0, .ref (adr G 7 0)), (1, .int x1), (2, .int x2)]) dX9_removeSection_90 3 rfl rfl (by decide) rfl ?_
  refine V_goto hC 56 dX9_removeSection_93 (by decide) ?_
  refine V_sub [1, 2, 3, 0] rfl ?_
  exact hk56 _ _ h
theorem b_X9_removeSection_88 {rv : Int32} {Mf : Mem} {k56 : Int32 → Mem → Option (Int32 × Mem)} {x1 : Int32} {x2 : Int32} {x3 : Int32} {z0 : Int32} {M : Mem} (hC : Cx p s m args c cX9_removeSection RX9 6 G) (hr : meth.sig.returnType = some .int) (hlk : meth.locks = false) (hk56 : ∀ (x3 : Int32) (M : Mem), k56 x3 M = some (rv, Mf) → V p l e (rmk 4) s m args below meth c 6 G 0 0 (MQ below (gQ G (some (.int rv)) Mf) args s 0 0 (gA G)) 56 [(0, .ref (adr G 7 0)), (1, .int x1), (2, .int x2), (3, .int x3)] [] M) (h : B_X9_removeSection_88 k56 x1 x2 x3 z0 M = some (rv, Mf)) : V p l e (rmk 4) s m args below meth c 6 G 0 0 (MQ below (gQ G (some (.int rv)) Mf) args s 0 0 (gA G)) 88 [(0, .ref (adr G 7 0)), (1, .int x1), (2, .int x2), (3, .int x3)] [.int z0, .ref (adr G 7 7)] M := by
  refine V_iconst hC (0 : Int32) dX9_removeSection_88 (by decide) ?_
  exact b_X9_removeSection_89 hC hr hlk hk56 h
theorem l_X9_removeSection_56 {rv : Int32} {Mf : Mem} {x1 : Int32} {x2 : Int32} (hC : Cx p s m args c cX9_removeSection RX9 6 G) (hr : meth.sig.returnType = some .int) (hlk : meth.locks = false) : ∀ (n : Nat) {x3 : Int32} {M : Mem} (h : L_X9_removeSection_56 x1 x2 n x3 M = some (rv, Mf)), V p l e (rmk 4) s m args below meth c 6 G 0 0 (MQ below (gQ G (some (.int rv)) Mf) args s 0 0 (gA G)) 56 [(0, .ref (adr G 7 0)), (1, .int x1), (2, .int x2), (3, .int x3)] [] M := by
  intro n
  induction n with
  | zero => intro x3 M h; cases h
  | succ n ih =>
    intro x3 M h
    have hk56 : ∀ (x3 : Int32) (M : Mem), L_X9_removeSection_56 x1 x2 n x3 M = some (rv, Mf) → V p l e (rmk 4) s m args below meth c 6 G 0 0 (MQ below (gQ G (some (.int rv)) Mf) args s 0 0 (gA G)) 56 [(0, .ref (adr G 7 0)), (1, .int x1), (2, .int x2), (3, .int x3)] [] M := fun _ _ z => ih z
    refine V_iload_n hC dX9_removeSection_56 rfl 3 rfl ?_
    refine V_bipush hC (20 : Int32) dX9_removeSection_57 (by decide) ?_
    refine V_icmp_ge hC 96 dX9_removeSection_59 (by decide) (fun c10 => ?_) (fun c10 => ?_)
    · have h := ite_t c10 h
      refine V_iconst hC (0 : Int32) dX9_removeSection_96 (by decide) ?_
      refine V_istore_n hC ([(3, .int (0 : Int32)), (0, .ref (adr G 7 0)), (1, .int x1), (2, .int x2)]) dX9_removeSection_97 rfl (by decide) rfl ?_
      refine V_iconst hC (0 : Int32) dX9_removeSection_98 (by decide) ?_
      refine V_istore hC ([(4, .int (0 : Int32)), (3, .int (0 : Int32)), (0, .ref (adr G 7 0)), (1, .int x1), (2, .int x2)]) dX9_removeSection_99 (by decide) rfl ?_
      refine V_sub [2, 4, 1, 0] rfl ?_
      exact l_X9_removeSection_101 hC hr hlk FU h
    · have h := ite_f c10 h
      refine V_aload_n hC dX9_removeSection_62 rfl 0 rfl ?_
      refine V_getR hC (r_m0_9) fw_X9_28 dX9_removeSection_63 ?_
      refine V_iload_n hC dX9_removeSection_66 rfl 3 rfl ?_
      refine V_aload_n hC dX9_removeSection_67 rfl 0 rfl ?_
      refine V_iload_n hC dX9_removeSection_68 rfl 3 rfl ?_
      obtain ⟨q23, e23, h⟩ := bind_some h
      refine V_cVr hC [.int x3] (c_X9_isSection (l := l) hC.2.2.2.2.2.2.2 e23) kd_X9_isSection kv_X9_isSection gw_1326 (r_m0_0).o rfl ⟨Nat.le_of_ble_eq_true rfl, Nat.le_of_ble_eq_true rfl⟩ rfl (Nat.le_of_ble_eq_true rfl) dX9_removeSection_69 ⟨Nat.zero_le _, Nat.zero_le _⟩ rfl ?_
      refine V_if_eq hC 88 dX9_removeSection_72 (by decide) (fun c24 => ?_) (fun c24 => ?_)
      · have h := ite_t c24 h
        exact b_X9_removeSection_88 hC hr hlk hk56 h
      · have h := ite_f c24 h
        refine V_aload_n hC dX9_removeSection_75 rfl 0 rfl ?_
        refine V_iload_n hC dX9_removeSection_76 rfl 3 rfl ?_
        refine V_iload_n hC dX9_removeSection_77 rfl 1 rfl ?_
        obtain ⟨q26, e26, h⟩ := bind_some h
        refine V_cVr hC [.int x3, .int x1] (c_X9_isIn (l := l) hC.2.2.2.2.2.2.2 e26) kd_X9_isIn kv_X9_isIn gw_1352 (r_m0_0).o rfl ⟨Nat.le_of_ble_eq_true rfl, Nat.le_of_ble_eq_true rfl⟩ rfl (Nat.le_of_ble_eq_true rfl) dX9_removeSection_78 ⟨Nat.zero_le _, Nat.zero_le _⟩ rfl ?_
        refine V_if_eq hC 88 dX9_removeSection_81 (by decide) (fun c27 => ?_) (fun c27 => ?_)
        · have h := ite_t c27 h
          exact b_X9_removeSection_88 hC hr hlk hk56 h
        · have h := ite_f c27 h
          refine V_iconst hC (1 : Int32) dX9_removeSection_84 (by decide) ?_
          refine V_goto hC 89 dX9_removeSection_85 (by decide) ?_
          exact b_X9_removeSection_89 hC hr hlk hk56 h
theorem b_X9_removeSection_34 {rv : Int32} {Mf : Mem} {x1 : Int32} {z0 : Int32} {M : Mem} (hC : Cx p s m args c cX9_removeSection RX9 6 G) (hr : meth.sig.returnType = some .int) (hlk : meth.locks = false) (h : B_X9_removeSection_34 x1 z0 M = some (rv, Mf)) : V p l e (rmk 4) s m args below meth c 6 G 0 0 (MQ below (gQ G (some (.int rv)) Mf) args s 0 0 (gA G)) 34 [(0, .ref (adr G 7 0)), (1, .int x1)] [.int z0, .ref (adr G 7 0)] M := by
  obtain ⟨q6, e6, h⟩ := bind_some h
  refine V_cVr hC [.int z0] (c_X9_refused (l := l) (rv := q6.1) (Mf := q6.2) hC.2.2.2.2.2.2.2 e6) kd_X9_refused kv_X9_refused gw_1318 (r_m0_0).o rfl ⟨Nat.le_of_ble_eq_true rfl, Nat.le_of_ble_eq_true rfl⟩ rfl (Nat.le_of_ble_eq_true rfl) dX9_removeSection_34 ⟨Nat.zero_le _, Nat.zero_le _⟩ rfl ?_
  refine V_if_eq hC 42 dX9_removeSection_37 (by decide) (fun c7 => ?_) (fun c7 => ?_)
  · have h := ite_t c7 h
    refine V_aload_n hC dX9_removeSection_42 rfl 0 rfl ?_
    obtain ⟨q8, e8, h⟩ := bind_some h
    refine V_cVv hC [] (c_X9_saves (l := l) hC.2.2.2.2.2.2.2 e8) kd_X9_saves kv_X9_saves gw_1363 (r_m0_0).o rfl ⟨Nat.le_of_ble_eq_true rfl, Nat.le_of_ble_eq_true rfl⟩ rfl (Nat.le_of_ble_eq_true rfl) dX9_removeSection_43 ⟨Nat.zero_le _, Nat.zero_le _⟩ rfl ?_
    refine V_iconst hC (1 : Int32) dX9_removeSection_46 (by decide) ?_
    refine V_aload_n hC dX9_removeSection_47 rfl 0 rfl ?_
    refine V_iload_n hC dX9_removeSection_48 rfl 1 rfl ?_
    obtain ⟨q9, e9, h⟩ := bind_some h
    refine V_cVr hC [.int x1] (c_X9_below (l := l) hC.2.2.2.2.2.2.2 e9) kd_X9_below kv_X9_below gw_1383 (r_m0_0).o rfl ⟨Nat.le_of_ble_eq_true rfl, Nat.le_of_ble_eq_true rfl⟩ rfl (Nat.le_of_ble_eq_true rfl) dX9_removeSection_49 ⟨Nat.zero_le _, Nat.zero_le _⟩ rfl ?_
    refine V_iadd hC dX9_removeSection_52 ?_
    refine V_istore_n hC ([(2, .int ((1 : Int32) + q9)), (0, .ref (adr G 7 0)), (1, .int x1)]) dX9_removeSection_53 rfl (by decide) rfl ?_
    refine V_iconst hC (0 : Int32) dX9_removeSection_54 (by decide) ?_
    refine V_istore_n hC ([(3, .int (0 : Int32)), (2, .int ((1 : Int32) + q9)), (0, .ref (adr G 7 0)), (1, .int x1)]) dX9_removeSection_55 rfl (by decide) rfl ?_
    refine V_sub [2, 3, 1, 0] rfl ?_
    exact l_X9_removeSection_56 hC hr hlk FU h
  · have h := ite_f c7 h
    refine V_iconst hC (0 : Int32) dX9_removeSection_40 (by decide) ?_
    obtain ⟨rfl, rfl⟩ := Prod.mk.inj (Option.some.inj h)
    exact V_iret hC hr hlk dX9_removeSection_41
theorem c_X9_removeSection {l : Launch} {G : Geo} {x1 : Int32} {rv : Int32} {Mf : Mem} {M : Mem} (hG : gD G) (h : f_X9_removeSection x1 M = some (rv, Mf)) : Met l yX9_removeSection (.code yX9_removeSection cX9_removeSection 6 (some .int) :: GL) (rmk 4) (gP G [.ref (adr G 7 0), .int x1] M) (gQ G (some (.int rv)) Mf) 0 0 (gA G) := by
  refine Met_of (own := RX9) (L := [(0, .ref (adr G 7 0)), (1, .int x1)]) hG (by decide +kernel) rfl (Nat.le_of_ble_eq_true rfl) rfl ?_
  intro p e s m args below meth c hC hr hlk
  refine V_aload_n hC dX9_removeSection_0 rfl 0 rfl ?_
  refine V_aload_n hC dX9_removeSection_1 rfl 0 rfl ?_
  refine V_iload_n hC dX9_removeSection_2 rfl 1 rfl ?_
  obtain ⟨q1, e1, h⟩ := bind_some h
  refine V_cVr hC [.int x1] (c_X9_isSection (l := l) hC.2.2.2.2.2.2.2 e1) kd_X9_isSection kv_X9_isSection gw_1326 (r_m0_0).o rfl ⟨Nat.le_of_ble_eq_true rfl, Nat.le_of_ble_eq_true rfl⟩ rfl (Nat.le_of_ble_eq_true rfl) dX9_removeSection_3 ⟨Nat.zero_le _, Nat.zero_le _⟩ rfl ?_
  refine V_if_ne hC 13 dX9_removeSection_6 (by decide) (fun c2 => ?_) (fun c2 => ?_)
  · have h := ite_f c2 h
    refine V_iload_n hC dX9_removeSection_13 rfl 1 rfl ?_
    refine V_if_ne hC 21 dX9_removeSection_14 (by decide) (fun c3 => ?_) (fun c3 => ?_)
    · have h := ite_f c3 h
      refine V_aload_n hC dX9_removeSection_21 rfl 0 rfl ?_
      refine V_iload_n hC dX9_removeSection_22 rfl 1 rfl ?_
      obtain ⟨q4, e4, h⟩ := bind_some h
      refine V_cVr hC [.int x1] (c_X9_isTouched (l := l) hC.2.2.2.2.2.2.2 e4) kd_X9_isTouched kv_X9_isTouched gw_1371 (r_m0_0).o rfl ⟨Nat.le_of_ble_eq_true rfl, Nat.le_of_ble_eq_true rfl⟩ rfl (Nat.le_of_ble_eq_true rfl) dX9_removeSection_23 ⟨Nat.zero_le _, Nat.zero_le _⟩ rfl ?_
      refine V_if_eq hC 33 dX9_removeSection_26 (by decide) (fun c5 => ?_) (fun c5 => ?_)
      · have h := ite_t c5 h
        refine V_iconst hC (0 : Int32) dX9_removeSection_33 (by decide) ?_
        exact b_X9_removeSection_34 hC hr hlk h
      · have h := ite_f c5 h
        refine V_iconst hC (3 : Int32) dX9_removeSection_29 (by decide) ?_
        refine V_goto hC 34 dX9_removeSection_30 (by decide) ?_
        exact b_X9_removeSection_34 hC hr hlk h
    · have h := ite_t c3 h
      refine V_iconst hC (2 : Int32) dX9_removeSection_17 (by decide) ?_
      refine V_goto hC 34 dX9_removeSection_18 (by decide) ?_
      exact b_X9_removeSection_34 hC hr hlk h
  · have h := ite_t c2 h
    refine V_iconst hC (1 : Int32) dX9_removeSection_9 (by decide) ?_
    refine V_goto hC 34 dX9_removeSection_10 (by decide) ?_
    exact b_X9_removeSection_34 hC hr hlk h
theorem b_X9_moveSection_59 {rv : Int32} {Mf : Mem} {x1 : Int32} {x2 : Int32} {z0 : Int32} {M : Mem} (hC : Cx p s m args c cX9_moveSection RX9 3 G) (hr : meth.sig.returnType = some .int) (hlk : meth.locks = false) (h : B_X9_moveSection_59 x1 x2 z0 M = some (rv, Mf)) : V p l e (rmk 4) s m args below meth c 3 G 0 0 (MQ below (gQ G (some (.int rv)) Mf) args s 0 0 (gA G)) 59 [(0, .ref (adr G 7 0)), (1, .int x1), (2, .int x2)] [.int z0, .ref (adr G 7 0)] M := by
  obtain ⟨q3, e3, h⟩ := bind_some h
  refine V_cVr hC [.int z0] (c_X9_refused (l := l) (rv := q3.1) (Mf := q3.2) hC.2.2.2.2.2.2.2 e3) kd_X9_refused kv_X9_refused gw_1318 (r_m0_0).o rfl ⟨Nat.le_of_ble_eq_true rfl, Nat.le_of_ble_eq_true rfl⟩ rfl (Nat.le_of_ble_eq_true rfl) dX9_moveSection_59 ⟨Nat.zero_le _, Nat.zero_le _⟩ rfl ?_
  refine V_if_eq hC 67 dX9_moveSection_62 (by decide) (fun c4 => ?_) (fun c4 => ?_)
  · have h := ite_t c4 h
    refine V_aload_n hC dX9_moveSection_67 rfl 0 rfl ?_
    obtain ⟨q5, e5, h⟩ := bind_some h
    refine V_cVv hC [] (c_X9_saves (l := l) hC.2.2.2.2.2.2.2 e5) kd_X9_saves kv_X9_saves gw_1363 (r_m0_0).o rfl ⟨Nat.le_of_ble_eq_true rfl, Nat.le_of_ble_eq_true rfl⟩ rfl (Nat.le_of_ble_eq_true rfl) dX9_moveSection_68 ⟨Nat.zero_le _, Nat.zero_le _⟩ rfl ?_
    refine V_aload_n hC dX9_moveSection_71 rfl 0 rfl ?_
    refine V_getR hC (r_m0_0) fw_X9_7 dX9_moveSection_72 ?_
    refine V_bipush hC (22 : Int32) dX9_moveSection_75 (by decide) ?_
    refine V_iload_n hC dX9_moveSection_77 rfl 1 rfl ?_
    refine V_iadd hC dX9_moveSection_78 ?_
    refine V_iload_n hC dX9_moveSection_79 rfl 2 rfl ?_
    obtain ⟨c6, h⟩ := ite_some h
    refine V_iast hC (a_m1) c6 dX9_moveSection_80 ?_
    refine V_aload_n hC dX9_moveSection_81 rfl 0 rfl ?_
    refine V_getR hC (r_m0_0) fw_X9_7 dX9_moveSection_82 ?_
    refine V_bipush hC (42 : Int32) dX9_moveSection_85 (by decide) ?_
    refine V_iload_n hC dX9_moveSection_87 rfl 1 rfl ?_
    refine V_iadd hC dX9_moveSection_88 ?_
    refine V_aload_n hC dX9_moveSection_89 rfl 0 rfl ?_
    refine V_getR hC (r_m0_0) fw_X9_7 dX9_moveSection_90 ?_
    refine V_iconst hC (1 : Int32) dX9_moveSection_93 (by decide) ?_
    refine V_iald hC (a_m1) (by decide) dX9_moveSection_94 ?_
    obtain ⟨c7, h⟩ := ite_some h
    refine V_iast hC (a_m1) c7 dX9_moveSection_95 ?_
    refine V_aload_n hC dX9_moveSection_96 rfl 0 rfl ?_
    refine V_getR hC (r_m0_0) fw_X9_7 dX9_moveSection_97 ?_
    refine V_iconst hC (1 : Int32) dX9_moveSection_100 (by decide) ?_
    refine V_dup2 hC dX9_moveSection_101 rfl rfl ?_
    refine V_iald hC (a_m1) (by decide) dX9_moveSection_102 ?_
    refine V_iconst hC (1 : Int32) dX9_moveSection_103 (by decide) ?_
    refine V_iadd hC dX9_moveSection_104 ?_
    refine V_iast hC (a_m1) (by decide) dX9_moveSection_105 ?_
    refine V_aload_n hC dX9_moveSection_106 rfl 0 rfl ?_
    refine V_iload_n hC dX9_moveSection_107 rfl 1 rfl ?_
    obtain ⟨q8, e8, h⟩ := bind_some h
    refine V_cVr hC [.int x1] (c_X9_depth (l := l) hC.2.2.2.2.2.2.2 e8) kd_X9_depth kv_X9_depth gw_1391 (r_m0_0).o rfl ⟨Nat.le_of_ble_eq_true rfl, Nat.le_of_ble_eq_true rfl⟩ rfl (Nat.le_of_ble_eq_true rfl) dX9_moveSection_108 ⟨Nat.zero_le _, Nat.zero_le _⟩ rfl ?_
    obtain ⟨rfl, rfl⟩ := Prod.mk.inj (Option.some.inj h)
    exact V_iret hC hr hlk dX9_moveSection_111
  · have h := ite_f c4 h
    refine V_iconst hC (0 : Int32) dX9_moveSection_65 (by decide) ?_
    obtain ⟨rfl, rfl⟩ := Prod.mk.inj (Option.some.inj h)
    exact V_iret hC hr hlk dX9_moveSection_66
theorem b_X9_moveSection_17 {rv : Int32} {Mf : Mem} {x1 : Int32} {x2 : Int32} {M : Mem} (hC : Cx p s m args c cX9_moveSection RX9 3 G) (hr : meth.sig.returnType = some .int) (hlk : meth.locks = false) (h : B_X9_moveSection_17 x1 x2 M = some (rv, Mf)) : V p l e (rmk 4) s m args below meth c 3 G 0 0 (MQ below (gQ G (some (.int rv)) Mf) args s 0 0 (gA G)) 17 [(0, .ref (adr G 7 0)), (1, .int x1), (2, .int x2)] [.ref (adr G 7 0)] M := by
  refine V_iconst hC (1 : Int32) dX9_moveSection_17 (by decide) ?_
  refine V_goto hC 59 dX9_moveSection_18 (by decide) ?_
  exact b_X9_moveSection_59 hC hr hlk h
theorem b_X9_moveSection_34 {rv : Int32} {Mf : Mem} {x1 : Int32} {x2 : Int32} {M : Mem} (hC : Cx p s m args c cX9_moveSection RX9 3 G) (hr : meth.sig.returnType = some .int) (hlk : meth.locks = false) (h : B_X9_moveSection_34 x1 x2 M = some (rv, Mf)) : V p l e (rmk 4) s m args below meth c 3 G 0 0 (MQ below (gQ G (some (.int rv)) Mf) args s 0 0 (gA G)) 34 [(0, .ref (adr G 7 0)), (1, .int x1), (2, .int x2)] [.ref (adr G 7 0)] M := by
  refine V_iconst hC (2 : Int32) dX9_moveSection_34 (by decide) ?_
  refine V_goto hC 59 dX9_moveSection_35 (by decide) ?_
  exact b_X9_moveSection_59 hC hr hlk h
theorem b_X9_moveSection_54 {rv : Int32} {Mf : Mem} {x1 : Int32} {x2 : Int32} {M : Mem} (hC : Cx p s m args c cX9_moveSection RX9 3 G) (hr : meth.sig.returnType = some .int) (hlk : meth.locks = false) (h : B_X9_moveSection_54 x1 x2 M = some (rv, Mf)) : V p l e (rmk 4) s m args below meth c 3 G 0 0 (MQ below (gQ G (some (.int rv)) Mf) args s 0 0 (gA G)) 54 [(0, .ref (adr G 7 0)), (1, .int x1), (2, .int x2)] [.ref (adr G 7 0)] M := by
  refine V_iconst hC (3 : Int32) dX9_moveSection_54 (by decide) ?_
  refine V_goto hC 59 dX9_moveSection_55 (by decide) ?_
  exact b_X9_moveSection_59 hC hr hlk h
theorem c_X9_moveSection {l : Launch} {G : Geo} {x1 : Int32} {x2 : Int32} {rv : Int32} {Mf : Mem} {M : Mem} (hG : gD G) (h : f_X9_moveSection x1 x2 M = some (rv, Mf)) : Met l yX9_moveSection (.code yX9_moveSection cX9_moveSection 3 (some .int) :: GL) (rmk 4) (gP G [.ref (adr G 7 0), .int x1, .int x2] M) (gQ G (some (.int rv)) Mf) 0 0 (gA G) := by
  refine Met_of (own := RX9) (L := [(0, .ref (adr G 7 0)), (1, .int x1), (2, .int x2)]) hG (by decide +kernel) rfl (Nat.le_of_ble_eq_true rfl) rfl ?_
  intro p e s m args below meth c hC hr hlk
  refine V_aload_n hC dX9_moveSection_0 rfl 0 rfl ?_
  refine V_aload_n hC dX9_moveSection_1 rfl 0 rfl ?_
  refine V_iload_n hC dX9_moveSection_2 rfl 1 rfl ?_
  obtain ⟨q1, e1, h⟩ := bind_some h
  refine V_cVr hC [.int x1] (c_X9_isSection (l := l) hC.2.2.2.2.2.2.2 e1) kd_X9_isSection kv_X9_isSection gw_1326 (r_m0_0).o rfl ⟨Nat.le_of_ble_eq_true rfl, Nat.le_of_ble_eq_true rfl⟩ rfl (Nat.le_of_ble_eq_true rfl) dX9_moveSection_3 ⟨Nat.zero_le _, Nat.zero_le _⟩ rfl ?_
  refine V_if_eq hC 17 dX9_moveSection_6 (by decide) (fun c2 => ?_) (fun c2 => ?_)
  · have h := ite_t c2 h
    exact b_X9_moveSection_17 hC hr hlk h
  · have h := ite_f c2 h
    refine V_aload_n hC dX9_moveSection_9 rfl 0 rfl ?_
    refine V_iload_n hC dX9_moveSection_10 rfl 2 rfl ?_
    obtain ⟨q9, e9, h⟩ := bind_some h
    refine V_cVr hC [.int x2] (c_X9_isSection (l := l) hC.2.2.2.2.2.2.2 e9) kd_X9_isSection kv_X9_isSection gw_1326 (r_m0_0).o rfl ⟨Nat.le_of_ble_eq_true rfl, Nat.le_of_ble_eq_true rfl⟩ rfl (Nat.le_of_ble_eq_true rfl) dX9_moveSection_11 ⟨Nat.zero_le _, Nat.zero_le _⟩ rfl ?_
    refine V_if_ne hC 21 dX9_moveSection_14 (by decide) (fun c10 => ?_) (fun c10 => ?_)
    · have h := ite_f c10 h
      refine V_iload_n hC dX9_moveSection_21 rfl 1 rfl ?_
      refine V_if_eq hC 34 dX9_moveSection_22 (by decide) (fun c11 => ?_) (fun c11 => ?_)
      · have h := ite_t c11 h
        exact b_X9_moveSection_34 hC hr hlk h
      · have h := ite_f c11 h
        refine V_aload_n hC dX9_moveSection_25 rfl 0 rfl ?_
        refine V_iload_n hC dX9_moveSection_26 rfl 2 rfl ?_
        refine V_iload_n hC dX9_moveSection_27 rfl 1 rfl ?_
        obtain ⟨q12, e12, h⟩ := bind_some h
        refine V_cVr hC [.int x2, .int x1] (c_X9_isIn (l := l) hC.2.2.2.2.2.2.2 e12) kd_X9_isIn kv_X9_isIn gw_1352 (r_m0_0).o rfl ⟨Nat.le_of_ble_eq_true rfl, Nat.le_of_ble_eq_true rfl⟩ rfl (Nat.le_of_ble_eq_true rfl) dX9_moveSection_28 ⟨Nat.zero_le _, Nat.zero_le _⟩ rfl ?_
        refine V_if_eq hC 38 dX9_moveSection_31 (by decide) (fun c13 => ?_) (fun c13 => ?_)
        · have h := ite_t c13 h
          refine V_aload_n hC dX9_moveSection_38 rfl 0 rfl ?_
          refine V_iload_n hC dX9_moveSection_39 rfl 1 rfl ?_
          obtain ⟨q14, e14, h⟩ := bind_some h
          refine V_cVr hC [.int x1] (c_X9_isTouched (l := l) hC.2.2.2.2.2.2.2 e14) kd_X9_isTouched kv_X9_isTouched gw_1371 (r_m0_0).o rfl ⟨Nat.le_of_ble_eq_true rfl, Nat.le_of_ble_eq_true rfl⟩ rfl (Nat.le_of_ble_eq_true rfl) dX9_moveSection_40 ⟨Nat.zero_le _, Nat.zero_le _⟩ rfl ?_
          refine V_if_ne hC 54 dX9_moveSection_43 (by decide) (fun c15 => ?_) (fun c15 => ?_)
          · have h := ite_f c15 h
            exact b_X9_moveSection_54 hC hr hlk h
          · have h := ite_t c15 h
            refine V_aload_n hC dX9_moveSection_46 rfl 0 rfl ?_
            refine V_iload_n hC dX9_moveSection_47 rfl 2 rfl ?_
            obtain ⟨q16, e16, h⟩ := bind_some h
            refine V_cVr hC [.int x2] (c_X9_isCovered (l := l) hC.2.2.2.2.2.2.2 e16) kd_X9_isCovered kv_X9_isCovered gw_1337 (r_m0_0).o rfl ⟨Nat.le_of_ble_eq_true rfl, Nat.le_of_ble_eq_true rfl⟩ rfl (Nat.le_of_ble_eq_true rfl) dX9_moveSection_48 ⟨Nat.zero_le _, Nat.zero_le _⟩ rfl ?_
            refine V_if_eq hC 58 dX9_moveSection_51 (by decide) (fun c17 => ?_) (fun c17 => ?_)
            · have h := ite_t c17 h
              refine V_iconst hC (0 : Int32) dX9_moveSection_58 (by decide) ?_
              exact b_X9_moveSection_59 hC hr hlk h
            · have h := ite_f c17 h
              exact b_X9_moveSection_54 hC hr hlk h
        · have h := ite_f c13 h
          exact b_X9_moveSection_34 hC hr hlk h
    · have h := ite_t c10 h
      exact b_X9_moveSection_17 hC hr hlk h
theorem c_X9_sections {l : Launch} {G : Geo} {rv : Int32} {Mf : Mem} {M : Mem} (hG : gD G) (h : f_X9_sections M = some (rv, Mf)) : Met l yX9_sections (.code yX9_sections cX9_sections 1 (some .int) :: GL) (rmk 1) (gP G [.ref (adr G 7 0)] M) (gQ G (some (.int rv)) Mf) 0 0 (gA G) := by
  refine Met_of (own := RX9) (L := [(0, .ref (adr G 7 0))]) hG (by decide +kernel) rfl (Nat.le_of_ble_eq_true rfl) rfl ?_
  intro p e s m args below meth c hC hr hlk
  refine V_aload_n hC dX9_sections_0 rfl 0 rfl ?_
  refine V_iconst hC (0 : Int32) dX9_sections_1 (by decide) ?_
  refine V_putI hC (f_m0_4) fw_X9_47 flp_9_4 dX9_sections_2 ?_
  refine V_aload_n hC dX9_sections_5 rfl 0 rfl ?_
  obtain ⟨q1, e1, h⟩ := bind_some h
  refine V_cVr hC [] (c_X9_many (l := l) hC.2.2.2.2.2.2.2 e1) kd_X9_many kv_X9_many gw_1333 (r_m0_0).o rfl ⟨Nat.le_of_ble_eq_true rfl, Nat.le_of_ble_eq_true rfl⟩ rfl (Nat.le_of_ble_eq_true rfl) dX9_sections_6 ⟨Nat.zero_le _, Nat.zero_le _⟩ rfl ?_
  obtain ⟨rfl, rfl⟩ := Prod.mk.inj (Option.some.inj h)
  exact V_iret hC hr hlk dX9_sections_9
theorem c_X9_tellSection {l : Launch} {G : Geo} {x1 : Int32} {x2 : Int32} {rv : Int32} {M : Mem} (hG : gD G) (h : f_X9_tellSection x1 x2 M = some rv) : Met l yX9_tellSection (.code yX9_tellSection cX9_tellSection 3 (some .int) :: GL) (rmk 2) (gP G [.ref (adr G 7 0), .int x1, .int x2] M) (gQ G (some (.int rv)) M) 0 0 (gA G) := by
  refine Met_of (own := RX9) (L := [(0, .ref (adr G 7 0)), (1, .int x1), (2, .int x2)]) hG (by decide +kernel) rfl (Nat.le_of_ble_eq_true rfl) rfl ?_
  intro p e s m args below meth c hC hr hlk
  refine V_iload_n hC dX9_tellSection_0 rfl 2 rfl ?_
  by_cases c1 : x2 = (0 : Int32)
  · have h := ite_t c1 h
    refine V_tableIn hC 0 32 dX9_tellSection_1 (by rw [c1]; decide) (by decide) rfl (by decide) ?_
    refine V_aload_n hC dX9_tellSection_32 rfl 0 rfl ?_
    refine V_getR hC (r_m0_0) fw_X9_7 dX9_tellSection_33 ?_
    refine V_bipush hC (22 : Int32) dX9_tellSection_36 (by decide) ?_
    refine V_iload_n hC dX9_tellSection_38 rfl 1 rfl ?_
    refine V_iadd hC dX9_tellSection_39 ?_
    obtain ⟨c2, h⟩ := ite_some h
    refine V_iald hC (a_m1) c2 dX9_tellSection_40 ?_
    obtain rfl := Option.some.inj h
    exact V_iret hC hr hlk dX9_tellSection_41
  have h := ite_f c1 h
  by_cases c3 : x2 = (1 : Int32)
  · have h := ite_t c3 h
    refine V_tableIn hC 1 42 dX9_tellSection_1 (by rw [c3]; decide) (by decide) rfl (by decide) ?_
    refine V_aload_n hC dX9_tellSection_42 rfl 0 rfl ?_
    refine V_iload_n hC dX9_tellSection_43 rfl 1 rfl ?_
    obtain ⟨q4, e4, h⟩ := bind_some h
    refine V_cVr hC [.int x1] (c_X9_childMany (l := l) hC.2.2.2.2.2.2.2 e4) kd_X9_childMany kv_X9_childMany gw_1407 (r_m0_0).o rfl ⟨Nat.le_of_ble_eq_true rfl, Nat.le_of_ble_eq_true rfl⟩ rfl (Nat.le_of_ble_eq_true rfl) dX9_tellSection_44 ⟨Nat.zero_le _, Nat.zero_le _⟩ rfl ?_
    obtain rfl := Option.some.inj h
    exact V_iret hC hr hlk dX9_tellSection_47
  have h := ite_f c3 h
  by_cases c5 : x2 = (2 : Int32)
  · have h := ite_t c5 h
    refine V_tableIn hC 2 48 dX9_tellSection_1 (by rw [c5]; decide) (by decide) rfl (by decide) ?_
    refine V_aload_n hC dX9_tellSection_48 rfl 0 rfl ?_
    refine V_iload_n hC dX9_tellSection_49 rfl 1 rfl ?_
    obtain ⟨q6, e6, h⟩ := bind_some h
    refine V_cVr hC [.int x1] (c_X9_depth (l := l) hC.2.2.2.2.2.2.2 e6) kd_X9_depth kv_X9_depth gw_1391 (r_m0_0).o rfl ⟨Nat.le_of_ble_eq_true rfl, Nat.le_of_ble_eq_true rfl⟩ rfl (Nat.le_of_ble_eq_true rfl) dX9_tellSection_50 ⟨Nat.zero_le _, Nat.zero_le _⟩ rfl ?_
    obtain rfl := Option.some.inj h
    exact V_iret hC hr hlk dX9_tellSection_53
  have h := ite_f c5 h
  by_cases c7 : x2 = (3 : Int32)
  · have h := ite_t c7 h
    refine V_tableIn hC 3 54 dX9_tellSection_1 (by rw [c7]; decide) (by decide) rfl (by decide) ?_
    refine V_aload_n hC dX9_tellSection_54 rfl 0 rfl ?_
    refine V_getR hC (r_m0_0) fw_X9_7 dX9_tellSection_55 ?_
    refine V_bipush hC (62 : Int32) dX9_tellSection_58 (by decide) ?_
    refine V_iload_n hC dX9_tellSection_60 rfl 1 rfl ?_
    refine V_iadd hC dX9_tellSection_61 ?_
    obtain ⟨c8, h⟩ := ite_some h
    refine V_iald hC (a_m1) c8 dX9_tellSection_62 ?_
    obtain rfl := Option.some.inj h
    exact V_iret hC hr hlk dX9_tellSection_63
  have h := ite_f c7 h
  refine V_tableOut hC 64 dX9_tellSection_1 (tsw_out (0) 4 x2 (tsw_cons c1 (by decide) (tsw_cons c3 (by decide) (tsw_cons c5 (by decide) (tsw_cons c7 (by decide) (tsw_nil))))) rfl) (by decide) ?_
  refine V_aload_n hC dX9_tellSection_64 rfl 0 rfl ?_
  refine V_iload_n hC dX9_tellSection_65 rfl 1 rfl ?_
  obtain ⟨q9, e9, h⟩ := bind_some h
  refine V_cVr hC [.int x1] (c_X9_below (l := l) hC.2.2.2.2.2.2.2 e9) kd_X9_below kv_X9_below gw_1383 (r_m0_0).o rfl ⟨Nat.le_of_ble_eq_true rfl, Nat.le_of_ble_eq_true rfl⟩ rfl (Nat.le_of_ble_eq_true rfl) dX9_tellSection_66 ⟨Nat.zero_le _, Nat.zero_le _⟩ rfl ?_
  obtain rfl := Option.some.inj h
  exact V_iret hC hr hlk dX9_tellSection_69
theorem b_X9_section_27 {rv : Int32} {Mf : Mem} {x1 : Int32} {x2 : Int32} {z0 : Int32} {M : Mem} (hC : Cx p s m args c cX9_section RX9 3 G) (hr : meth.sig.returnType = some .int) (hlk : meth.locks = false) (h : B_X9_section_27 x1 x2 z0 M = some (rv, Mf)) : V p l e (rmk 3) s m args below meth c 3 G 0 0 (MQ below (gQ G (some (.int rv)) Mf) args s 0 0 (gA G)) 27 [(0, .ref (adr G 7 0)), (1, .int x1), (2, .int x2)] [.int z0, .ref (adr G 7 0)] M := by
  obtain ⟨q5, e5, h⟩ := bind_some h
  refine V_cVr hC [.int z0] (c_X9_refused (l := l) (rv := q5.1) (Mf := q5.2) hC.2.2.2.2.2.2.2 e5) kd_X9_refused kv_X9_refused gw_1318 (r_m0_0).o rfl ⟨Nat.le_of_ble_eq_true rfl, Nat.le_of_ble_eq_true rfl⟩ rfl (Nat.le_of_ble_eq_true rfl) dX9_section_27 ⟨Nat.zero_le _, Nat.zero_le _⟩ rfl ?_
  refine V_if_eq hC 37 dX9_section_30 (by decide) (fun c6 => ?_) (fun c6 => ?_)
  · have h := ite_t c6 h
    refine V_aload_n hC dX9_section_37 rfl 0 rfl ?_
    refine V_iload_n hC dX9_section_38 rfl 1 rfl ?_
    refine V_iload_n hC dX9_section_39 rfl 2 rfl ?_
    obtain ⟨q7, e7, h⟩ := bind_some h
    refine V_cVr hC [.int x1, .int x2] (c_X9_tellSection (l := l) hC.2.2.2.2.2.2.2 e7) kd_X9_tellSection kv_X9_tellSection gw_1403 (r_m0_0).o rfl ⟨Nat.le_of_ble_eq_true rfl, Nat.le_of_ble_eq_true rfl⟩ rfl (Nat.le_of_ble_eq_true rfl) dX9_section_40 ⟨Nat.zero_le _, Nat.zero_le _⟩ rfl ?_
    obtain ⟨rfl, rfl⟩ := Prod.mk.inj (Option.some.inj h)
    exact V_iret hC hr hlk dX9_section_43
  · have h := ite_f c6 h
    refine V_iconst hC (0 : Int32) dX9_section_33 (by decide) ?_
    refine V_goto hC 43 dX9_section_34 (by decide) ?_
    obtain ⟨rfl, rfl⟩ := Prod.mk.inj (Option.some.inj h)
    exact V_iret hC hr hlk dX9_section_43
theorem c_X9_section {l : Launch} {G : Geo} {x1 : Int32} {x2 : Int32} {rv : Int32} {Mf : Mem} {M : Mem} (hG : gD G) (h : f_X9_section x1 x2 M = some (rv, Mf)) : Met l yX9_section (.code yX9_section cX9_section 3 (some .int) :: GL) (rmk 3) (gP G [.ref (adr G 7 0), .int x1, .int x2] M) (gQ G (some (.int rv)) Mf) 0 0 (gA G) := by
  refine Met_of (own := RX9) (L := [(0, .ref (adr G 7 0)), (1, .int x1), (2, .int x2)]) hG (by decide +kernel) rfl (Nat.le_of_ble_eq_true rfl) rfl ?_
  intro p e s m args below meth c hC hr hlk
  refine V_aload_n hC dX9_section_0 rfl 0 rfl ?_
  refine V_aload_n hC dX9_section_1 rfl 0 rfl ?_
  refine V_iload_n hC dX9_section_2 rfl 1 rfl ?_
  obtain ⟨q1, e1, h⟩ := bind_some h
  refine V_cVr hC [.int x1] (c_X9_isSection (l := l) hC.2.2.2.2.2.2.2 e1) kd_X9_isSection kv_X9_isSection gw_1326 (r_m0_0).o rfl ⟨Nat.le_of_ble_eq_true rfl, Nat.le_of_ble_eq_true rfl⟩ rfl (Nat.le_of_ble_eq_true rfl) dX9_section_3 ⟨Nat.zero_le _, Nat.zero_le _⟩ rfl ?_
  refine V_if_ne hC 13 dX9_section_6 (by decide) (fun c2 => ?_) (fun c2 => ?_)
  · have h := ite_f c2 h
    refine V_iload_n hC dX9_section_13 rfl 2 rfl ?_
    refine V_iconst hC (0 : Int32) dX9_section_14 (by decide) ?_
    refine V_iconst hC (4 : Int32) dX9_section_15 (by decide) ?_
    refine V_cSr hC [.int x2, .int (0 : Int32), .int (4 : Int32)] (c_X9_within (l := l) hC.2.2.2.2.2.2.2 rfl) kd_X9_within gw_1331 gw_1330 ⟨Nat.le_of_ble_eq_true rfl, Nat.le_of_ble_eq_true rfl⟩ rfl (Nat.le_of_ble_eq_true rfl) dX9_section_16 ⟨Nat.zero_le _, Nat.zero_le _⟩ rfl ?_
    refine V_if_eq hC 26 dX9_section_19 (by decide) (fun c4 => ?_) (fun c4 => ?_)
    · have h := ite_t c4 h
      refine V_iconst hC (2 : Int32) dX9_section_26 (by decide) ?_
      exact b_X9_section_27 hC hr hlk h
    · have h := ite_f c4 h
      refine V_iconst hC (0 : Int32) dX9_section_22 (by decide) ?_
      refine V_goto hC 27 dX9_section_23 (by decide) ?_
      exact b_X9_section_27 hC hr hlk h
  · have h := ite_t c2 h
    refine V_iconst hC (1 : Int32) dX9_section_9 (by decide) ?_
    refine V_goto hC 27 dX9_section_10 (by decide) ?_
    exact b_X9_section_27 hC hr hlk h
theorem b_X9_child_29 {rv : Int32} {Mf : Mem} {x1 : Int32} {x2 : Int32} {z0 : Int32} {M : Mem} (hC : Cx p s m args c cX9_child RX9 3 G) (hr : meth.sig.returnType = some .int) (hlk : meth.locks = false) (h : B_X9_child_29 x1 x2 z0 M = some (rv, Mf)) : V p l e (rmk 2) s m args below meth c 3 G 0 0 (MQ below (gQ G (some (.int rv)) Mf) args s 0 0 (gA G)) 29 [(0, .ref (adr G 7 0)), (1, .int x1), (2, .int x2)] [.int z0, .ref (adr G 7 0)] M := by
  obtain ⟨q3, e3, h⟩ := bind_some h
  refine V_cVr hC [.int z0] (c_X9_refused (l := l) (rv := q3.1) (Mf := q3.2) hC.2.2.2.2.2.2.2 e3) kd_X9_refused kv_X9_refused gw_1318 (r_m0_0).o rfl ⟨Nat.le_of_ble_eq_true rfl, Nat.le_of_ble_eq_true rfl⟩ rfl (Nat.le_of_ble_eq_true rfl) dX9_child_29 ⟨Nat.zero_le _, Nat.zero_le _⟩ rfl ?_
  refine V_if_eq hC 39 dX9_child_32 (by decide) (fun c4 => ?_) (fun c4 => ?_)
  · have h := ite_t c4 h
    refine V_aload_n hC dX9_child_39 rfl 0 rfl ?_
    refine V_iload_n hC dX9_child_40 rfl 1 rfl ?_
    refine V_iload_n hC dX9_child_41 rfl 2 rfl ?_
    obtain ⟨q5, e5, h⟩ := bind_some h
    refine V_cVr hC [.int x1, .int x2] (c_X9_childAt (l := l) hC.2.2.2.2.2.2.2 e5) kd_X9_childAt kv_X9_childAt gw_1419 (r_m0_0).o rfl ⟨Nat.le_of_ble_eq_true rfl, Nat.le_of_ble_eq_true rfl⟩ rfl (Nat.le_of_ble_eq_true rfl) dX9_child_42 ⟨Nat.zero_le _, Nat.zero_le _⟩ rfl ?_
    obtain ⟨rfl, rfl⟩ := Prod.mk.inj (Option.some.inj h)
    exact V_iret hC hr hlk dX9_child_45
  · have h := ite_f c4 h
    refine V_iconst hC (0 : Int32) dX9_child_35 (by decide) ?_
    refine V_goto hC 45 dX9_child_36 (by decide) ?_
    obtain ⟨rfl, rfl⟩ := Prod.mk.inj (Option.some.inj h)
    exact V_iret hC hr hlk dX9_child_45
theorem b_X9_child_28 {rv : Int32} {Mf : Mem} {x1 : Int32} {x2 : Int32} {M : Mem} (hC : Cx p s m args c cX9_child RX9 3 G) (hr : meth.sig.returnType = some .int) (hlk : meth.locks = false) (h : B_X9_child_28 x1 x2 M = some (rv, Mf)) : V p l e (rmk 2) s m args below meth c 3 G 0 0 (MQ below (gQ G (some (.int rv)) Mf) args s 0 0 (gA G)) 28 [(0, .ref (adr G 7 0)), (1, .int x1), (2, .int x2)] [.ref (adr G 7 0)] M := by
  refine V_iconst hC (1 : Int32) dX9_child_28 (by decide) ?_
  exact b_X9_child_29 hC hr hlk h
theorem c_X9_child {l : Launch} {G : Geo} {x1 : Int32} {x2 : Int32} {rv : Int32} {Mf : Mem} {M : Mem} (hG : gD G) (h : f_X9_child x1 x2 M = some (rv, Mf)) : Met l yX9_child (.code yX9_child cX9_child 3 (some .int) :: GL) (rmk 2) (gP G [.ref (adr G 7 0), .int x1, .int x2] M) (gQ G (some (.int rv)) Mf) 0 0 (gA G) := by
  refine Met_of (own := RX9) (L := [(0, .ref (adr G 7 0)), (1, .int x1), (2, .int x2)]) hG (by decide +kernel) rfl (Nat.le_of_ble_eq_true rfl) rfl ?_
  intro p e s m args below meth c hC hr hlk
  refine V_aload_n hC dX9_child_0 rfl 0 rfl ?_
  refine V_aload_n hC dX9_child_1 rfl 0 rfl ?_
  refine V_iload_n hC dX9_child_2 rfl 1 rfl ?_
  obtain ⟨q1, e1, h⟩ := bind_some h
  refine V_cVr hC [.int x1] (c_X9_isSection (l := l) hC.2.2.2.2.2.2.2 e1) kd_X9_isSection kv_X9_isSection gw_1326 (r_m0_0).o rfl ⟨Nat.le_of_ble_eq_true rfl, Nat.le_of_ble_eq_true rfl⟩ rfl (Nat.le_of_ble_eq_true rfl) dX9_child_3 ⟨Nat.zero_le _, Nat.zero_le _⟩ rfl ?_
  refine V_if_eq hC 28 dX9_child_6 (by decide) (fun c2 => ?_) (fun c2 => ?_)
  · have h := ite_t c2 h
    exact b_X9_child_28 hC hr hlk h
  · have h := ite_f c2 h
    refine V_iload_n hC dX9_child_9 rfl 2 rfl ?_
    refine V_iconst hC (0 : Int32) dX9_child_10 (by decide) ?_
    refine V_aload_n hC dX9_child_11 rfl 0 rfl ?_
    refine V_iload_n hC dX9_child_12 rfl 1 rfl ?_
    obtain ⟨q6, e6, h⟩ := bind_some h
    refine V_cVr hC [.int x1] (c_X9_childMany (l := l) hC.2.2.2.2.2.2.2 e6) kd_X9_childMany kv_X9_childMany gw_1407 (r_m0_0).o rfl ⟨Nat.le_of_ble_eq_true rfl, Nat.le_of_ble_eq_true rfl⟩ rfl (Nat.le_of_ble_eq_true rfl) dX9_child_13 ⟨Nat.zero_le _, Nat.zero_le _⟩ rfl ?_
    refine V_iconst hC (1 : Int32) dX9_child_16 (by decide) ?_
    refine V_isub hC dX9_child_17 ?_
    refine V_cSr hC [.int x2, .int (0 : Int32), .int (q6 - (1 : Int32))] (c_X9_within (l := l) hC.2.2.2.2.2.2.2 rfl) kd_X9_within gw_1331 gw_1330 ⟨Nat.le_of_ble_eq_true rfl, Nat.le_of_ble_eq_true rfl⟩ rfl (Nat.le_of_ble_eq_true rfl) dX9_child_18 ⟨Nat.zero_le _, Nat.zero_le _⟩ rfl ?_
    refine V_if_eq hC 28 dX9_child_21 (by decide) (fun c8 => ?_) (fun c8 => ?_)
    · have h := ite_t c8 h
      exact b_X9_child_28 hC hr hlk h
    · have h := ite_f c8 h
      refine V_iconst hC (0 : Int32) dX9_child_24 (by decide) ?_
      refine V_goto hC 29 dX9_child_25 (by decide) ?_
      exact b_X9_child_29 hC hr hlk h
theorem c_X9_isLine {l : Launch} {G : Geo} {x1 : Int32} {x2 : Int32} {rv : Int32} {M : Mem} (hG : gD G) (h : f_X9_isLine x1 x2 M = some rv) : Met l yX9_isLine (.code yX9_isLine cX9_isLine 3 (some .boolean) :: GL) (rmk 2) (gP G [.ref (adr G 7 0), .int x1, .int x2] M) (gQ G (some (.int rv)) M) 0 0 (gA G) := by
  refine Met_of (own := RX9) (L := [(0, .ref (adr G 7 0)), (1, .int x1), (2, .int x2)]) hG (by decide +kernel) rfl (Nat.le_of_ble_eq_true rfl) rfl ?_
  intro p e s m args below meth c hC hr hlk
  refine V_aload_n hC dX9_isLine_0 rfl 0 rfl ?_
  refine V_iload_n hC dX9_isLine_1 rfl 1 rfl ?_
  obtain ⟨q1, e1, h⟩ := bind_some h
  refine V_cVr hC [.int x1] (c_X9_isSection (l := l) hC.2.2.2.2.2.2.2 e1) kd_X9_isSection kv_X9_isSection gw_1326 (r_m0_0).o rfl ⟨Nat.le_of_ble_eq_true rfl, Nat.le_of_ble_eq_true rfl⟩ rfl (Nat.le_of_ble_eq_true rfl) dX9_isLine_2 ⟨Nat.zero_le _, Nat.zero_le _⟩ rfl ?_
  refine V_if_eq hC 21 dX9_isLine_5 (by decide) (fun c2 => ?_) (fun c2 => ?_)
  · have h := ite_t c2 h
    refine V_iconst hC (0 : Int32) dX9_isLine_21 (by decide) ?_
    obtain rfl := Option.some.inj h
    exact V_zret hC hr hlk (Or.inl rfl) dX9_isLine_22
  · have h := ite_f c2 h
    refine V_iload_n hC dX9_isLine_8 rfl 2 rfl ?_
    refine V_iconst hC (0 : Int32) dX9_isLine_9 (by decide) ?_
    refine V_iconst hC (5 : Int32) dX9_isLine_10 (by decide) ?_
    refine V_cSr hC [.int x2, .int (0 : Int32), .int (5 : Int32)] (c_X9_within (l := l) hC.2.2.2.2.2.2.2 rfl) kd_X9_within gw_1331 gw_1330 ⟨Nat.le_of_ble_eq_true rfl, Nat.le_of_ble_eq_true rfl⟩ rfl (Nat.le_of_ble_eq_true rfl) dX9_isLine_11 ⟨Nat.zero_le _, Nat.zero_le _⟩ rfl ?_
    refine V_if_eq hC 21 dX9_isLine_14 (by decide) (fun c4 => ?_) (fun c4 => ?_)
    · have h := ite_t c4 h
      refine V_iconst hC (0 : Int32) dX9_isLine_21 (by decide) ?_
      obtain rfl := Option.some.inj h
      exact V_zret hC hr hlk (Or.inl rfl) dX9_isLine_22
    · have h := ite_f c4 h
      refine V_iconst hC (1 : Int32) dX9_isLine_17 (by decide) ?_
      refine V_goto hC 22 dX9_isLine_18 (by decide) ?_
      obtain rfl := Option.some.inj h
      exact V_zret hC hr hlk (Or.inr rfl) dX9_isLine_22
theorem b_X9_line_15 {rv : Int32} {Mf : Mem} {x1 : Int32} {x2 : Int32} {z0 : Int32} {M : Mem} (hC : Cx p s m args c cX9_line RX9 3 G) (hr : meth.sig.returnType = some .int) (hlk : meth.locks = false) (h : B_X9_line_15 x1 x2 z0 M = some (rv, Mf)) : V p l e (rmk 3) s m args below meth c 3 G 0 0 (MQ below (gQ G (some (.int rv)) Mf) args s 0 0 (gA G)) 15 [(0, .ref (adr G 7 0)), (1, .int x1), (2, .int x2)] [.int z0, .ref (adr G 7 0)] M := by
  obtain ⟨q3, e3, h⟩ := bind_some h
  refine V_cVr hC [.int z0] (c_X9_refused (l := l) (rv := q3.1) (Mf := q3.2) hC.2.2.2.2.2.2.2 e3) kd_X9_refused kv_X9_refused gw_1318 (r_m0_0).o rfl ⟨Nat.le_of_ble_eq_true rfl, Nat.le_of_ble_eq_true rfl⟩ rfl (Nat.le_of_ble_eq_true rfl) dX9_line_15 ⟨Nat.zero_le _, Nat.zero_le _⟩ rfl ?_
  refine V_if_eq hC 25 dX9_line_18 (by decide) (fun c4 => ?_) (fun c4 => ?_)
  · have h := ite_t c4 h
    refine V_aload_n hC dX9_line_25 rfl 0 rfl ?_
    refine V_getR hC (r_m0_0) fw_X9_7 dX9_line_26 ?_
    refine V_bipush hC (82 : Int32) dX9_line_29 (by decide) ?_
    refine V_bipush hC (6 : Int32) dX9_line_31 (by decide) ?_
    refine V_iload_n hC dX9_line_33 rfl 1 rfl ?_
    refine V_imul hC dX9_line_34 ?_
    refine V_iadd hC dX9_line_35 ?_
    refine V_iload_n hC dX9_line_36 rfl 2 rfl ?_
    refine V_iadd hC dX9_line_37 ?_
    obtain ⟨c5, h⟩ := ite_some h
    refine V_iald hC (a_m1) c5 dX9_line_38 ?_
    obtain ⟨rfl, rfl⟩ := Prod.mk.inj (Option.some.inj h)
    exact V_iret hC hr hlk dX9_line_39
  · have h := ite_f c4 h
    refine V_iconst hC (0 : Int32) dX9_line_21 (by decide) ?_
    refine V_goto hC 39 dX9_line_22 (by decide) ?_
    obtain ⟨rfl, rfl⟩ := Prod.mk.inj (Option.some.inj h)
    exact V_iret hC hr hlk dX9_line_39
theorem c_X9_line {l : Launch} {G : Geo} {x1 : Int32} {x2 : Int32} {rv : Int32} {Mf : Mem} {M : Mem} (hG : gD G) (h : f_X9_line x1 x2 M = some (rv, Mf)) : Met l yX9_line (.code yX9_line cX9_line 3 (some .int) :: GL) (rmk 3) (gP G [.ref (adr G 7 0), .int x1, .int x2] M) (gQ G (some (.int rv)) Mf) 0 0 (gA G) := by
  refine Met_of (own := RX9) (L := [(0, .ref (adr G 7 0)), (1, .int x1), (2, .int x2)]) hG (by decide +kernel) rfl (Nat.le_of_ble_eq_true rfl) rfl ?_
  intro p e s m args below meth c hC hr hlk
  refine V_aload_n hC dX9_line_0 rfl 0 rfl ?_
  refine V_aload_n hC dX9_line_1 rfl 0 rfl ?_
  refine V_iload_n hC dX9_line_2 rfl 1 rfl ?_
  refine V_iload_n hC dX9_line_3 rfl 2 rfl ?_
  obtain ⟨q1, e1, h⟩ := bind_some h
  refine V_cVr hC [.int x1, .int x2] (c_X9_isLine (l := l) hC.2.2.2.2.2.2.2 e1) kd_X9_isLine kv_X9_isLine gw_1427 (r_m0_0).o rfl ⟨Nat.le_of_ble_eq_true rfl, Nat.le_of_ble_eq_true rfl⟩ rfl (Nat.le_of_ble_eq_true rfl) dX9_line_4 ⟨Nat.zero_le _, Nat.zero_le _⟩ rfl ?_
  refine V_if_eq hC 14 dX9_line_7 (by decide) (fun c2 => ?_) (fun c2 => ?_)
  · have h := ite_t c2 h
    refine V_iconst hC (1 : Int32) dX9_line_14 (by decide) ?_
    exact b_X9_line_15 hC hr hlk h
  · have h := ite_f c2 h
    refine V_iconst hC (0 : Int32) dX9_line_10 (by decide) ?_
    refine V_goto hC 15 dX9_line_11 (by decide) ?_
    exact b_X9_line_15 hC hr hlk h
theorem b_X9_write_42 {rv : Int32} {Mf : Mem} {x1 : Int32} {x2 : Int32} {x3 : Int32} {z0 : Int32} {M : Mem} (hC : Cx p s m args c cX9_write RX9 5 G) (hr : meth.sig.returnType = some .int) (hlk : meth.locks = false) (h : B_X9_write_42 x1 x2 x3 z0 M = some (rv, Mf)) : V p l e (rmk 5) s m args below meth c 5 G 0 0 (MQ below (gQ G (some (.int rv)) Mf) args s 0 0 (gA G)) 42 [(0, .ref (adr G 7 0)), (1, .int x1), (2, .int x2), (3, .int x3)] [.int z0, .ref (adr G 7 0)] M := by
  obtain ⟨q7, e7, h⟩ := bind_some h
  refine V_cVr hC [.int z0] (c_X9_refused (l := l) (rv := q7.1) (Mf := q7.2) hC.2.2.2.2.2.2.2 e7) kd_X9_refused kv_X9_refused gw_1318 (r_m0_0).o rfl ⟨Nat.le_of_ble_eq_true rfl, Nat.le_of_ble_eq_true rfl⟩ rfl (Nat.le_of_ble_eq_true rfl) dX9_write_42 ⟨Nat.zero_le _, Nat.zero_le _⟩ rfl ?_
  refine V_if_eq hC 50 dX9_write_45 (by decide) (fun c8 => ?_) (fun c8 => ?_)
  · have h := ite_t c8 h
    refine V_aload_n hC dX9_write_50 rfl 0 rfl ?_
    obtain ⟨q9, e9, h⟩ := bind_some h
    refine V_cVv hC [] (c_X9_saves (l := l) hC.2.2.2.2.2.2.2 e9) kd_X9_saves kv_X9_saves gw_1363 (r_m0_0).o rfl ⟨Nat.le_of_ble_eq_true rfl, Nat.le_of_ble_eq_true rfl⟩ rfl (Nat.le_of_ble_eq_true rfl) dX9_write_51 ⟨Nat.zero_le _, Nat.zero_le _⟩ rfl ?_
    refine V_aload_n hC dX9_write_54 rfl 0 rfl ?_
    refine V_getR hC (r_m0_0) fw_X9_7 dX9_write_55 ?_
    refine V_bipush hC (82 : Int32) dX9_write_58 (by decide) ?_
    refine V_bipush hC (6 : Int32) dX9_write_60 (by decide) ?_
    refine V_iload_n hC dX9_write_62 rfl 1 rfl ?_
    refine V_imul hC dX9_write_63 ?_
    refine V_iadd hC dX9_write_64 ?_
    refine V_iload_n hC dX9_write_65 rfl 2 rfl ?_
    refine V_iadd hC dX9_write_66 ?_
    obtain ⟨c10, h⟩ := ite_some h
    refine V_iald hC (a_m1) c10 dX9_write_67 ?_
    refine V_istore hC ([(4, .int (q9.1 7 1 (cl (((82 : Int32) + ((6 : Int32) * x1)) + x2)))), (0, .ref (adr G 7 0)), (1, .int x1), (2, .int x2), (3, .int x3)]) dX9_write_68 (by decide) rfl ?_
    refine V_aload_n hC dX9_write_70 rfl 1 rfl ?_
    obtain ⟨q11, e11, h⟩ := bind_some h
    refine V_cVv hC [] (c_X9_laysThen (l := l) hC.2.2.2.2.2.2.2 e11) kd_X9_laysThen kv_X9_laysThen gw_1443 (r_m0_0).o rfl ⟨Nat.le_of_ble_eq_true rfl, Nat.le_of_ble_eq_true rfl⟩ rfl (Nat.le_of_ble_eq_true rfl) dX9_write_71 ⟨Nat.zero_le _, Nat.zero_le _⟩ rfl ?_
    refine V_aload_n hC dX9_write_74 rfl 1 rfl ?_
    refine V_getR hC (r_m0_8) fw_X9_25 dX9_write_75 ?_
    refine V_bipush hC (6 : Int32) dX9_write_78 (by decide) ?_
    refine V_iload_n hC dX9_write_80 rfl 2 rfl ?_
    refine V_imul hC dX9_write_81 ?_
    refine V_iload_n hC dX9_write_82 rfl 3 rfl ?_
    refine V_iadd hC dX9_write_83 ?_
    refine V_iload_n hC dX9_write_84 rfl 4 rfl ?_
    obtain ⟨c12, h⟩ := ite_some h
    refine V_iast hC (a_m6) c12 dX9_write_85 ?_
    refine V_aload_n hC dX9_write_86 rfl 1 rfl ?_
    refine V_iconst hC ((-1) : Int32) dX9_write_87 (by decide) ?_
    obtain ⟨q13, e13, h⟩ := bind_some h
    refine V_cVr hC [.int ((-1) : Int32)] (c_X9_becomes (l := l) (rv := q13.1) (Mf := q13.2) hC.2.2.2.2.2.2.2 e13) kd_X9_becomes kv_X9_becomes gw_1447 (r_m0_0).o rfl ⟨Nat.le_of_ble_eq_true rfl, Nat.le_of_ble_eq_true rfl⟩ rfl (Nat.le_of_ble_eq_true rfl) dX9_write_88 ⟨Nat.zero_le _, Nat.zero_le _⟩ rfl ?_
    refine V_pop hC dX9_write_91 rfl ?_
    refine V_iload hC dX9_write_92 0 rfl ?_
    obtain ⟨rfl, rfl⟩ := Prod.mk.inj (Option.some.inj h)
    exact V_iret hC hr hlk dX9_write_94
  · have h := ite_f c8 h
    refine V_iconst hC (0 : Int32) dX9_write_48 (by decide) ?_
    obtain ⟨rfl, rfl⟩ := Prod.mk.inj (Option.some.inj h)
    exact V_iret hC hr hlk dX9_write_49
theorem c_X9_write {l : Launch} {G : Geo} {x1 : Int32} {x2 : Int32} {x3 : Int32} {rv : Int32} {Mf : Mem} {M : Mem} (hG : gD G) (h : f_X9_write x1 x2 x3 M = some (rv, Mf)) : Met l yX9_write (.code yX9_write cX9_write 5 (some .int) :: GL) (rmk 5) (gP G [.ref (adr G 7 0), .int x1, .int x2, .int x3] M) (gQ G (some (.int rv)) Mf) 0 0 (gA G) := by
  refine Met_of (own := RX9) (L := [(0, .ref (adr G 7 0)), (1, .int x1), (2, .int x2), (3, .int x3)]) hG (by decide +kernel) rfl (Nat.le_of_ble_eq_true rfl) rfl ?_
  intro p e s m args below meth c hC hr hlk
  refine V_aload_n hC dX9_write_0 rfl 0 rfl ?_
  refine V_aload_n hC dX9_write_1 rfl 0 rfl ?_
  refine V_iload_n hC dX9_write_2 rfl 1 rfl ?_
  refine V_iload_n hC dX9_write_3 rfl 2 rfl ?_
  obtain ⟨q1, e1, h⟩ := bind_some h
  refine V_cVr hC [.int x1, .int x2] (c_X9_isLine (l := l) hC.2.2.2.2.2.2.2 e1) kd_X9_isLine kv_X9_isLine gw_1427 (r_m0_0).o rfl ⟨Nat.le_of_ble_eq_true rfl, Nat.le_of_ble_eq_true rfl⟩ rfl (Nat.le_of_ble_eq_true rfl) dX9_write_4 ⟨Nat.zero_le _, Nat.zero_le _⟩ rfl ?_
  refine V_if_ne hC 14 dX9_write_7 (by decide) (fun c2 => ?_) (fun c2 => ?_)
  · have h := ite_f c2 h
    refine V_iload_n hC dX9_write_14 rfl 3 rfl ?_
    refine V_iconst hC (0 : Int32) dX9_write_15 (by decide) ?_
    refine V_sipush hC (999 : Int32) dX9_write_16 (by decide) ?_
    refine V_cSr hC [.int x3, .int (0 : Int32), .int (999 : Int32)] (c_X9_within (l := l) hC.2.2.2.2.2.2.2 rfl) kd_X9_within gw_1331 gw_1330 ⟨Nat.le_of_ble_eq_true rfl, Nat.le_of_ble_eq_true rfl⟩ rfl (Nat.le_of_ble_eq_true rfl) dX9_write_19 ⟨Nat.zero_le _, Nat.zero_le _⟩ rfl ?_
    refine V_if_ne hC 29 dX9_write_22 (by decide) (fun c4 => ?_) (fun c4 => ?_)
    · have h := ite_f c4 h
      refine V_aload_n hC dX9_write_29 rfl 0 rfl ?_
      refine V_iload_n hC dX9_write_30 rfl 1 rfl ?_
      obtain ⟨q5, e5, h⟩ := bind_some h
      refine V_cVr hC [.int x1] (c_X9_holdersOf (l := l) hC.2.2.2.2.2.2.2 e5) kd_X9_holdersOf kv_X9_holdersOf gw_1435 (r_m0_0).o rfl ⟨Nat.le_of_ble_eq_true rfl, Nat.le_of_ble_eq_true rfl⟩ rfl (Nat.le_of_ble_eq_true rfl) dX9_write_31 ⟨Nat.zero_le _, Nat.zero_le _⟩ rfl ?_
      refine V_if_eq hC 41 dX9_write_34 (by decide) (fun c6 => ?_) (fun c6 => ?_)
      · have h := ite_t c6 h
        refine V_iconst hC (0 : Int32) dX9_write_41 (by decide) ?_
        exact b_X9_write_42 hC hr hlk h
      · have h := ite_f c6 h
        refine V_iconst hC (3 : Int32) dX9_write_37 (by decide) ?_
        refine V_goto hC 42 dX9_write_38 (by decide) ?_
        exact b_X9_write_42 hC hr hlk h
    · have h := ite_t c4 h
      refine V_iconst hC (2 : Int32) dX9_write_25 (by decide) ?_
      refine V_goto hC 42 dX9_write_26 (by decide) ?_
      exact b_X9_write_42 hC hr hlk h
  · have h := ite_t c2 h
    refine V_iconst hC (1 : Int32) dX9_write_10 (by decide) ?_
    refine V_goto hC 42 dX9_write_11 (by decide) ?_
    exact b_X9_write_42 hC hr hlk h
theorem c_X9_isUser {l : Launch} {G : Geo} {x0 : Int32} {rv : Int32} {M : Mem} (hG : gD G) (h : f_X9_isUser x0 = rv) : Met l yX9_isUser (.code yX9_isUser cX9_isUser 1 (some .boolean) :: GL) (rmk 1) (gP G [.int x0] M) (gQ G (some (.int rv)) M) 0 0 (gA G) := by
  refine Met_of (own := RX9) (L := [(0, .int x0)]) hG (by decide +kernel) rfl (Nat.le_of_ble_eq_true rfl) rfl ?_
  intro p e s m args below meth c hC hr hlk
  refine V_iload_n hC dX9_isUser_0 rfl 0 rfl ?_
  refine V_iconst hC (0 : Int32) dX9_isUser_1 (by decide) ?_
  refine V_iconst hC (5 : Int32) dX9_isUser_2 (by decide) ?_
  refine V_cSr hC [.int x0, .int (0 : Int32), .int (5 : Int32)] (c_X9_within (l := l) hC.2.2.2.2.2.2.2 rfl) kd_X9_within gw_1331 gw_1330 ⟨Nat.le_of_ble_eq_true rfl, Nat.le_of_ble_eq_true rfl⟩ rfl (Nat.le_of_ble_eq_true rfl) dX9_isUser_3 ⟨Nat.zero_le _, Nat.zero_le _⟩ rfl ?_
  obtain rfl := id h
  exact V_zret hC hr hlk (z_X9_within _ _ _) dX9_isUser_6
theorem z_X9_isUser (x0 : Int32) : f_X9_isUser x0 = 0 ∨ f_X9_isUser x0 = 1 := by
  unfold f_X9_isUser
  (repeat' split) <;> first | exact Or.inl rfl | exact Or.inr rfl | exact z_X9_within _ _ _
theorem b_X9_placeOf_31 {rv : Int32} {k4 : Int32 → Int32 → Option Int32} {x1 : Int32} {x3 : Int32} {z0 : Int32} {M : Mem} (hC : Cx p s m args c cX9_placeOf RX9 4 G) (hr : meth.sig.returnType = some .int) (hlk : meth.locks = false) (hk4 : ∀ (x2 : Int32) (x3 : Int32), k4 x2 x3 = some rv → V p l e (rmk 1) s m args below meth c 4 G 0 0 (MQ below (gQ G (some (.int rv)) M) args s 0 0 (gA G)) 4 [(0, .ref (adr G 7 0)), (1, .int x1), (2, .int x2), (3, .int x3)] [] M) (h : B_X9_placeOf_31 k4 x1 x3 z0 M = some rv) : V p l e (rmk 1) s m args below meth c 4 G 0 0 (MQ below (gQ G (some (.int rv)) M) args s 0 0 (gA G)) 31 [(0, .ref (adr G 7 0)), (1, .int x1), (3, .int x3)] [.int z0] M := by
  refine V_istore_n hC ([(2, .int z0), (0, .ref (adr G 7 0)), (1, .int x1), (3, .int x3)]) dX9_placeOf_31 rfl (by decide) rfl ?_
  refine V_iinc hC (x3 + 1) ([(3, .int (x3 + 1)), (2, .int z0), (0, .ref (adr G 7 0)), (1, .int x1)]) dX9_placeOf_32 3 rfl rfl (by decide) rfl ?_
  refine V_goto hC 4 dX9_placeOf_35 (by decide) ?_
  refine V_sub [2, 3, 1, 0] rfl ?_
  exact hk4 _ _ h
theorem l_X9_placeOf_4 {rv : Int32} {x1 : Int32} {M : Mem} (hC : Cx p s m args c cX9_placeOf RX9 4 G) (hr : meth.sig.returnType = some .int) (hlk : meth.locks = false) : ∀ (n : Nat) {x2 : Int32} {x3 : Int32} (h : L_X9_placeOf_4 x1 M n x2 x3 = some rv), V p l e (rmk 1) s m args below meth c 4 G 0 0 (MQ below (gQ G (some (.int rv)) M) args s 0 0 (gA G)) 4 [(0, .ref (adr G 7 0)), (1, .int x1), (2, .int x2), (3, .int x3)] [] M := by
  intro n
  induction n with
  | zero => intro x2 x3 h; cases h
  | succ n ih =>
    intro x2 x3 h
    have hk4 : ∀ (x2 : Int32) (x3 : Int32), L_X9_placeOf_4 x1 M n x2 x3 = some rv → V p l e (rmk 1) s m args below meth c 4 G 0 0 (MQ below (gQ G (some (.int rv)) M) args s 0 0 (gA G)) 4 [(0, .ref (adr G 7 0)), (1, .int x1), (2, .int x2), (3, .int x3)] [] M := fun _ _ z => ih z
    refine V_iload_n hC dX9_placeOf_4 rfl 3 rfl ?_
    refine V_aload_n hC dX9_placeOf_5 rfl 0 rfl ?_
    obtain ⟨q1, e1, h⟩ := bind_some h
    refine V_cVr hC [] (c_X9_waits (l := l) hC.2.2.2.2.2.2.2 e1) kd_X9_waits kv_X9_waits gw_1356 (r_m0_0).o rfl ⟨Nat.le_of_ble_eq_true rfl, Nat.le_of_ble_eq_true rfl⟩ rfl (Nat.le_of_ble_eq_true rfl) dX9_placeOf_6 ⟨Nat.zero_le _, Nat.zero_le _⟩ rfl ?_
    refine V_icmp_ge hC 38 dX9_placeOf_9 (by decide) (fun c2 => ?_) (fun c2 => ?_)
    · have h := ite_t c2 h
      refine V_iload_n hC dX9_placeOf_38 rfl 2 rfl ?_
      obtain rfl := Option.some.inj h
      exact V_iret hC hr hlk dX9_placeOf_39
    · have h := ite_f c2 h
      refine V_aload_n hC dX9_placeOf_12 rfl 0 rfl ?_
      refine V_getR hC (r_m0_0) fw_X9_7 dX9_placeOf_13 ?_
      refine V_iload_n hC dX9_placeOf_16 rfl 3 rfl ?_
      refine V_iconst hC (0 : Int32) dX9_placeOf_17 (by decide) ?_
      refine V_cSr hC [.int x3, .int (0 : Int32)] (c_X9_wait (l := l) hC.2.2.2.2.2.2.2 rfl) kd_X9_wait gw_1361 gw_1360 ⟨Nat.le_of_ble_eq_true rfl, Nat.le_of_ble_eq_true rfl⟩ rfl (Nat.le_of_ble_eq_true rfl) dX9_placeOf_18 ⟨Nat.zero_le _, Nat.zero_le _⟩ rfl ?_
      obtain ⟨c4, h⟩ := ite_some h
      refine V_iald hC (a_m1) c4 dX9_placeOf_21 ?_
      refine V_iload_n hC dX9_placeOf_22 rfl 1 rfl ?_
      refine V_icmp_ne hC 30 dX9_placeOf_23 (by decide) (fun c5 => ?_) (fun c5 => ?_)
      · have h := ite_f c5 h
        refine V_iload_n hC dX9_placeOf_30 rfl 2 rfl ?_
        refine V_sub [0, 1, 3] rfl ?_
        exact b_X9_placeOf_31 hC hr hlk hk4 h
      · have h := ite_t c5 h
        refine V_iload_n hC dX9_placeOf_26 rfl 3 rfl ?_
        refine V_goto hC 31 dX9_placeOf_27 (by decide) ?_
        refine V_sub [0, 1, 3] rfl ?_
        exact b_X9_placeOf_31 hC hr hlk hk4 h
theorem c_X9_placeOf {l : Launch} {G : Geo} {x1 : Int32} {rv : Int32} {M : Mem} (hG : gD G) (h : f_X9_placeOf x1 M = some rv) : Met l yX9_placeOf (.code yX9_placeOf cX9_placeOf 4 (some .int) :: GL) (rmk 1) (gP G [.ref (adr G 7 0), .int x1] M) (gQ G (some (.int rv)) M) 0 0 (gA G) := by
  refine Met_of (own := RX9) (L := [(0, .ref (adr G 7 0)), (1, .int x1)]) hG (by decide +kernel) rfl (Nat.le_of_ble_eq_true rfl) rfl ?_
  intro p e s m args below meth c hC hr hlk
  refine V_iconst hC ((-1) : Int32) dX9_placeOf_0 (by decide) ?_
  refine V_istore_n hC ([(2, .int ((-1) : Int32)), (0, .ref (adr G 7 0)), (1, .int x1)]) dX9_placeOf_1 rfl (by decide) rfl ?_
  refine V_iconst hC (0 : Int32) dX9_placeOf_2 (by decide) ?_
  refine V_istore_n hC ([(3, .int (0 : Int32)), (2, .int ((-1) : Int32)), (0, .ref (adr G 7 0)), (1, .int x1)]) dX9_placeOf_3 rfl (by decide) rfl ?_
  refine V_sub [2, 3, 1, 0] rfl ?_
  exact l_X9_placeOf_4 hC hr hlk FU h
theorem b_X9_barRequest_143 {rv : Int32} {k58 : Int32 → Int32 → Option Int32} {x1 : Int32} {x2 : Int32} {x4 : Int32} {x6 : Int32} {z0 : Int32} {M : Mem} (hC : Cx p s m args c cX9_barRequest RX9 8 G) (hr : meth.sig.returnType = some .int) (hlk : meth.locks = false) (hk58 : ∀ (x5 : Int32) (x6 : Int32), k58 x5 x6 = some rv → V p l e (rmk 4) s m args below meth c 8 G 0 0 (MQ below (gQ G (some (.int rv)) M) args s 0 0 (gA G)) 58 [(0, .ref (adr G 7 0)), (1, .int x1), (2, .int x2), (4, .int x4), (5, .int x5), (6, .int x6)] [] M) (h : B_X9_barRequest_143 k58 x1 x2 x4 x6 z0 M = some rv) : V p l e (rmk 4) s m args below meth c 8 G 0 0 (MQ below (gQ G (some (.int rv)) M) args s 0 0 (gA G)) 143 [(0, .ref (adr G 7 0)), (1, .int x1), (2, .int x2), (4, .int x4), (6, .int x6)] [.int z0] M := by
  refine V_istore hC ([(5, .int z0), (0, .ref (adr G 7 0)), (1, .int x1), (2, .int x2), (4, .int x4), (6, .int x6)]) dX9_barRequest_143 (by decide) rfl ?_
  refine V_iinc hC (x6 + 1) ([(6, .int (x6 + 1)), (5, .int z0), (0, .ref (adr G 7 0)), (1, .int x1), (2, .int x2), (4, .int x4)]) dX9_barRequest_145 5 rfl rfl (by decide) rfl ?_
  refine V_goto hC 58 dX9_barRequest_148 (by decide) ?_
  refine V_sub [2, 3, 4, 5, 1, 0] rfl ?_
  exact hk58 _ _ h
theorem b_X9_barRequest_138 {rv : Int32} {k58 : Int32 → Int32 → Option Int32} {x1 : Int32} {x2 : Int32} {x4 : Int32} {x6 : Int32} {M : Mem} (hC : Cx p s m args c cX9_barRequest RX9 8 G) (hr : meth.sig.returnType = some .int) (hlk : meth.locks = false) (hk58 : ∀ (x5 : Int32) (x6 : Int32), k58 x5 x6 = some rv → V p l e (rmk 4) s m args below meth c 8 G 0 0 (MQ below (gQ G (some (.int rv)) M) args s 0 0 (gA G)) 58 [(0, .ref (adr G 7 0)), (1, .int x1), (2, .int x2), (4, .int x4), (5, .int x5), (6, .int x6)] [] M) (h : B_X9_barRequest_138 k58 x1 x2 x4 x6 M = some rv) : V p l e (rmk 4) s m args below meth c 8 G 0 0 (MQ below (gQ G (some (.int rv)) M) args s 0 0 (gA G)) 138 [(0, .ref (adr G 7 0)), (1, .int x1), (2, .int x2), (4, .int x4), (6, .int x6)] [] M := by
  refine V_iconst hC (1 : Int32) dX9_barRequest_138 (by decide) ?_
  refine V_goto hC 143 dX9_barRequest_139 (by decide) ?_
  exact b_X9_barRequest_143 hC hr hlk hk58 h
theorem b_X9_barRequest_142 {rv : Int32} {k58 : Int32 → Int32 → Option Int32} {x1 : Int32} {x2 : Int32} {x4 : Int32} {x6 : Int32} {M : Mem} (hC : Cx p s m args c cX9_barRequest RX9 8 G) (hr : meth.sig.returnType = some .int) (hlk : meth.locks = false) (hk58 : ∀ (x5 : Int32) (x6 : Int32), k58 x5 x6 = some rv → V p l e (rmk 4) s m args below meth c 8 G 0 0 (MQ below (gQ G (some (.int rv)) M) args s 0 0 (gA G)) 58 [(0, .ref (adr G 7 0)), (1, .int x1), (2, .int x2), (4, .int x4), (5, .int x5), (6, .int x6)] [] M) (h : B_X9_barRequest_142 k58 x1 x2 x4 x6 M = some rv) : V p l e (rmk 4) s m args below meth c 8 G 0 0 (MQ below (gQ G (some (.int rv)) M) args s 0 0 (gA G)) 142 [(0, .ref (adr G 7 0)), (1, .int x1), (2, .int x2), (4, .int x4), (6, .int x6)] [] M := by
  refine V_iconst hC (0 : Int32) dX9_barRequest_142 (by decide) ?_
  exact b_X9_barRequest_143 hC hr hlk hk58 h
theorem b_X9_barRequest_90 {rv : Int32} {k58 : Int32 → Int32 → Option Int32} {x1 : Int32} {x2 : Int32} {x4 : Int32} {x5 : Int32} {x6 : Int32} {z0 : Int32} {M : Mem} (hC : Cx p s m args c cX9_barRequest RX9 8 G) (hr : meth.sig.returnType = some .int) (hlk : meth.locks = false) (hk58 : ∀ (x5 : Int32) (x6 : Int32), k58 x5 x6 = some rv → V p l e (rmk 4) s m args below meth c 8 G 0 0 (MQ below (gQ G (some (.int rv)) M) args s 0 0 (gA G)) 58 [(0, .ref (adr G 7 0)), (1, .int x1), (2, .int x2), (4, .int x4), (5, .int x5), (6, .int x6)] [] M) (h : B_X9_barRequest_90 k58 x1 x2 x4 x5 x6 z0 M = some rv) : V p l e (rmk 4) s m args below meth c 8 G 0 0 (MQ below (gQ G (some (.int rv)) M) args s 0 0 (gA G)) 90 [(0, .ref (adr G 7 0)), (1, .int x1), (2, .int x2), (4, .int x4), (5, .int x5), (6, .int x6)] [.int z0] M := by
  refine V_istore hC ([(7, .int z0), (0, .ref (adr G 7 0)), (1, .int x1), (2, .int x2), (4, .int x4), (5, .int x5), (6, .int x6)]) dX9_barRequest_90 (by decide) rfl ?_
  refine V_iload hC dX9_barRequest_92 5 rfl ?_
  refine V_if_ne hC 138 dX9_barRequest_94 (by decide) (fun c13 => ?_) (fun c13 => ?_)
  · have h := ite_f c13 h
    refine V_sub [1, 2, 3, 4, 6] rfl ?_
    exact b_X9_barRequest_138 hC hr hlk hk58 h
  · have h := ite_t c13 h
    refine V_iload hC dX9_barRequest_97 0 rfl ?_
    refine V_if_eq hC 142 dX9_barRequest_99 (by decide) (fun c14 => ?_) (fun c14 => ?_)
    · have h := ite_t c14 h
      refine V_sub [1, 2, 3, 4, 6] rfl ?_
      exact b_X9_barRequest_142 hC hr hlk hk58 h
    · have h := ite_f c14 h
      refine V_aload_n hC dX9_barRequest_102 rfl 1 rfl ?_
      refine V_iload_n hC dX9_barRequest_103 rfl 3 rfl ?_
      refine V_aload_n hC dX9_barRequest_104 rfl 1 rfl ?_
      refine V_iload hC dX9_barRequest_105 6 rfl ?_
      refine V_iconst hC (2 : Int32) dX9_barRequest_107 (by decide) ?_
      obtain ⟨q15, e15, h⟩ := bind_some h
      refine V_cVr hC [.int x6, .int (2 : Int32)] (c_X9_get (l := l) hC.2.2.2.2.2.2.2 e15) kd_X9_get kv_X9_get gw_1345 (r_m0_0).o rfl ⟨Nat.le_of_ble_eq_true rfl, Nat.le_of_ble_eq_true rfl⟩ rfl (Nat.le_of_ble_eq_true rfl) dX9_barRequest_108 ⟨Nat.zero_le _, Nat.zero_le _⟩ rfl ?_
      obtain ⟨q16, e16, h⟩ := bind_some h
      refine V_cVr hC [.int x2, .int q15] (c_X9_isIn (l := l) hC.2.2.2.2.2.2.2 e16) kd_X9_isIn kv_X9_isIn gw_1352 (r_m0_0).o rfl ⟨Nat.le_of_ble_eq_true rfl, Nat.le_of_ble_eq_true rfl⟩ rfl (Nat.le_of_ble_eq_true rfl) dX9_barRequest_111 ⟨Nat.zero_le _, Nat.zero_le _⟩ rfl ?_
      refine V_if_ne hC 138 dX9_barRequest_114 (by decide) (fun c17 => ?_) (fun c17 => ?_)
      · have h := ite_f c17 h
        refine V_sub [1, 2, 3, 4, 6] rfl ?_
        exact b_X9_barRequest_138 hC hr hlk hk58 h
      · have h := ite_t c17 h
        refine V_iload hC dX9_barRequest_117 4 rfl ?_
        refine V_iconst hC (1 : Int32) dX9_barRequest_119 (by decide) ?_
        refine V_icmp_ne hC 142 dX9_barRequest_120 (by decide) (fun c18 => ?_) (fun c18 => ?_)
        · have h := ite_f c18 h
          refine V_sub [1, 2, 3, 4, 6] rfl ?_
          exact b_X9_barRequest_142 hC hr hlk hk58 h
        · have h := ite_t c18 h
          refine V_aload_n hC dX9_barRequest_123 rfl 1 rfl ?_
          refine V_iload_n hC dX9_barRequest_124 rfl 3 rfl ?_
          refine V_aload_n hC dX9_barRequest_125 rfl 1 rfl ?_
          refine V_iload hC dX9_barRequest_126 6 rfl ?_
          refine V_iconst hC (2 : Int32) dX9_barRequest_128 (by decide) ?_
          obtain ⟨q19, e19, h⟩ := bind_some h
          refine V_cVr hC [.int x6, .int (2 : Int32)] (c_X9_get (l := l) hC.2.2.2.2.2.2.2 e19) kd_X9_get kv_X9_get gw_1345 (r_m0_0).o rfl ⟨Nat.le_of_ble_eq_true rfl, Nat.le_of_ble_eq_true rfl⟩ rfl (Nat.le_of_ble_eq_true rfl) dX9_barRequest_129 ⟨Nat.zero_le _, Nat.zero_le _⟩ rfl ?_
          obtain ⟨q20, e20, h⟩ := bind_some h
          refine V_cVr hC [.int x2, .int q19] (c_X9_overlap (l := l) hC.2.2.2.2.2.2.2 e20) kd_X9_overlap kv_X9_overlap gw_1379 (r_m0_0).o rfl ⟨Nat.le_of_ble_eq_true rfl, Nat.le_of_ble_eq_true rfl⟩ rfl (Nat.le_of_ble_eq_true rfl) dX9_barRequest_132 ⟨Nat.zero_le _, Nat.zero_le _⟩ rfl ?_
          refine V_if_eq hC 142 dX9_barRequest_135 (by decide) (fun c21 => ?_) (fun c21 => ?_)
          · have h := ite_t c21 h
            refine V_sub [1, 2, 3, 4, 6] rfl ?_
            exact b_X9_barRequest_142 hC hr hlk hk58 h
          · have h := ite_f c21 h
            refine V_sub [1, 2, 3, 4, 6] rfl ?_
            exact b_X9_barRequest_138 hC hr hlk hk58 h
theorem b_X9_barRequest_89 {rv : Int32} {k58 : Int32 → Int32 → Option Int32} {x1 : Int32} {x2 : Int32} {x4 : Int32} {x5 : Int32} {x6 : Int32} {M : Mem} (hC : Cx p s m args c cX9_barRequest RX9 8 G) (hr : meth.sig.returnType = some .int) (hlk : meth.locks = false) (hk58 : ∀ (x5 : Int32) (x6 : Int32), k58 x5 x6 = some rv → V p l e (rmk 4) s m args below meth c 8 G 0 0 (MQ below (gQ G (some (.int rv)) M) args s 0 0 (gA G)) 58 [(0, .ref (adr G 7 0)), (1, .int x1), (2, .int x2), (4, .int x4), (5, .int x5), (6, .int x6)] [] M) (h : B_X9_barRequest_89 k58 x1 x2 x4 x5 x6 M = some rv) : V p l e (rmk 4) s m args below meth c 8 G 0 0 (MQ below (gQ G (some (.int rv)) M) args s 0 0 (gA G)) 89 [(0, .ref (adr G 7 0)), (1, .int x1), (2, .int x2), (4, .int x4), (5, .int x5), (6, .int x6)] [] M := by
  refine V_iconst hC (0 : Int32) dX9_barRequest_89 (by decide) ?_
  exact b_X9_barRequest_90 hC hr hlk hk58 h
theorem l_X9_barRequest_58 {rv : Int32} {x1 : Int32} {x2 : Int32} {x4 : Int32} {M : Mem} (hC : Cx p s m args c cX9_barRequest RX9 8 G) (hr : meth.sig.returnType = some .int) (hlk : meth.locks = false) : ∀ (n : Nat) {x5 : Int32} {x6 : Int32} (h : L_X9_barRequest_58 x1 x2 x4 M n x5 x6 = some rv), V p l e (rmk 4) s m args below meth c 8 G 0 0 (MQ below (gQ G (some (.int rv)) M) args s 0 0 (gA G)) 58 [(0, .ref (adr G 7 0)), (1, .int x1), (2, .int x2), (4, .int x4), (5, .int x5), (6, .int x6)] [] M := by
  intro n
  induction n with
  | zero => intro x5 x6 h; cases h
  | succ n ih =>
    intro x5 x6 h
    have hk58 : ∀ (x5 : Int32) (x6 : Int32), L_X9_barRequest_58 x1 x2 x4 M n x5 x6 = some rv → V p l e (rmk 4) s m args below meth c 8 G 0 0 (MQ below (gQ G (some (.int rv)) M) args s 0 0 (gA G)) 58 [(0, .ref (adr G 7 0)), (1, .int x1), (2, .int x2), (4, .int x4), (5, .int x5), (6, .int x6)] [] M := fun _ _ z => ih z
    refine V_iload hC dX9_barRequest_58 5 rfl ?_
    refine V_bipush hC (10 : Int32) dX9_barRequest_60 (by decide) ?_
    refine V_icmp_ge hC 151 dX9_barRequest_62 (by decide) (fun c9 => ?_) (fun c9 => ?_)
    · have h := ite_t c9 h
      refine V_iload hC dX9_barRequest_151 4 rfl ?_
      refine V_if_eq hC 160 dX9_barRequest_153 (by decide) (fun c10 => ?_) (fun c10 => ?_)
      · have h := ite_t c10 h
        refine V_iconst hC (0 : Int32) dX9_barRequest_160 (by decide) ?_
        obtain rfl := Option.some.inj h
        exact V_iret hC hr hlk dX9_barRequest_161
      · have h := ite_f c10 h
        refine V_iconst hC (3 : Int32) dX9_barRequest_156 (by decide) ?_
        refine V_goto hC 161 dX9_barRequest_157 (by decide) ?_
        obtain rfl := Option.some.inj h
        exact V_iret hC hr hlk dX9_barRequest_161
    · have h := ite_f c9 h
      refine V_aload_n hC dX9_barRequest_65 rfl 0 rfl ?_
      refine V_iload hC dX9_barRequest_66 5 rfl ?_
      obtain ⟨q11, e11, h⟩ := bind_some h
      refine V_cVr hC [.int x6] (c_X9_isHeld (l := l) hC.2.2.2.2.2.2.2 e11) kd_X9_isHeld kv_X9_isHeld gw_1439 (r_m0_0).o rfl ⟨Nat.le_of_ble_eq_true rfl, Nat.le_of_ble_eq_true rfl⟩ rfl (Nat.le_of_ble_eq_true rfl) dX9_barRequest_68 ⟨Nat.zero_le _, Nat.zero_le _⟩ rfl ?_
      refine V_if_eq hC 89 dX9_barRequest_71 (by decide) (fun c12 => ?_) (fun c12 => ?_)
      · have h := ite_t c12 h
        exact b_X9_barRequest_89 hC hr hlk hk58 h
      · have h := ite_f c12 h
        refine V_aload_n hC dX9_barRequest_74 rfl 0 rfl ?_
        refine V_iload hC dX9_barRequest_75 5 rfl ?_
        refine V_iconst hC (1 : Int32) dX9_barRequest_77 (by decide) ?_
        obtain ⟨q22, e22, h⟩ := bind_some h
        refine V_cVr hC [.int x6, .int (1 : Int32)] (c_X9_get (l := l) hC.2.2.2.2.2.2.2 e22) kd_X9_get kv_X9_get gw_1345 (r_m0_0).o rfl ⟨Nat.le_of_ble_eq_true rfl, Nat.le_of_ble_eq_true rfl⟩ rfl (Nat.le_of_ble_eq_true rfl) dX9_barRequest_78 ⟨Nat.zero_le _, Nat.zero_le _⟩ rfl ?_
        refine V_iload_n hC dX9_barRequest_81 rfl 1 rfl ?_
        refine V_icmp_ne hC 89 dX9_barRequest_82 (by decide) (fun c23 => ?_) (fun c23 => ?_)
        · have h := ite_f c23 h
          exact b_X9_barRequest_89 hC hr hlk hk58 h
        · have h := ite_t c23 h
          refine V_iconst hC (1 : Int32) dX9_barRequest_85 (by decide) ?_
          refine V_goto hC 90 dX9_barRequest_86 (by decide) ?_
          exact b_X9_barRequest_90 hC hr hlk hk58 h
theorem b_X9_barRequest_53 {rv : Int32} {x1 : Int32} {x2 : Int32} {x4 : Int32} {z0 : Int32} {M : Mem} (hC : Cx p s m args c cX9_barRequest RX9 8 G) (hr : meth.sig.returnType = some .int) (hlk : meth.locks = false) (h : B_X9_barRequest_53 x1 x2 x4 z0 M = some rv) : V p l e (rmk 4) s m args below meth c 8 G 0 0 (MQ below (gQ G (some (.int rv)) M) args s 0 0 (gA G)) 53 [(0, .ref (adr G 7 0)), (1, .int x1), (2, .int x2), (4, .int x4)] [.int z0] M := by
  refine V_istore hC ([(5, .int z0), (0, .ref (adr G 7 0)), (1, .int x1), (2, .int x2), (4, .int x4)]) dX9_barRequest_53 (by decide) rfl ?_
  refine V_iconst hC (0 : Int32) dX9_barRequest_55 (by decide) ?_
  refine V_istore hC ([(6, .int (0 : Int32)), (5, .int z0), (0, .ref (adr G 7 0)), (1, .int x1), (2, .int x2), (4, .int x4)]) dX9_barRequest_56 (by decide) rfl ?_
  refine V_sub [2, 3, 4, 5, 1, 0] rfl ?_
  exact l_X9_barRequest_58 hC hr hlk FU h
theorem b_X9_barRequest_48 {rv : Int32} {x1 : Int32} {x2 : Int32} {x4 : Int32} {M : Mem} (hC : Cx p s m args c cX9_barRequest RX9 8 G) (hr : meth.sig.returnType = some .int) (hlk : meth.locks = false) (h : B_X9_barRequest_48 x1 x2 x4 M = some rv) : V p l e (rmk 4) s m args below meth c 8 G 0 0 (MQ below (gQ G (some (.int rv)) M) args s 0 0 (gA G)) 48 [(0, .ref (adr G 7 0)), (1, .int x1), (2, .int x2), (4, .int x4)] [] M := by
  refine V_iconst hC (1 : Int32) dX9_barRequest_48 (by decide) ?_
  refine V_goto hC 53 dX9_barRequest_49 (by decide) ?_
  exact b_X9_barRequest_53 hC hr hlk h
theorem c_X9_barRequest {l : Launch} {G : Geo} {x1 : Int32} {x2 : Int32} {x3 : Int32} {x4 : Int32} {rv : Int32} {M : Mem} (hG : gD G) (h : f_X9_barRequest x1 x2 x3 x4 M = some rv) : Met l yX9_barRequest (.code yX9_barRequest cX9_barRequest 8 (some .int) :: GL) (rmk 4) (gP G [.ref (adr G 7 0), .int x1, .int x2, .int x3, .int x4] M) (gQ G (some (.int rv)) M) 0 0 (gA G) := by
  refine Met_of (own := RX9) (L := [(0, .ref (adr G 7 0)), (1, .int x1), (2, .int x2), (3, .int x3), (4, .int x4)]) hG (by decide +kernel) rfl (Nat.le_of_ble_eq_true rfl) rfl ?_
  intro p e s m args below meth c hC hr hlk
  refine V_iload_n hC dX9_barRequest_0 rfl 1 rfl ?_
  refine V_cSr hC [.int x1] (c_X9_isUser (l := l) hC.2.2.2.2.2.2.2 rfl) kd_X9_isUser gw_1464 gw_1463 ⟨Nat.le_of_ble_eq_true rfl, Nat.le_of_ble_eq_true rfl⟩ rfl (Nat.le_of_ble_eq_true rfl) dX9_barRequest_1 ⟨Nat.zero_le _, Nat.zero_le _⟩ rfl ?_
  refine V_if_eq hC 15 dX9_barRequest_4 (by decide) (fun c2 => ?_) (fun c2 => ?_)
  · have h := ite_t c2 h
    refine V_iconst hC (1 : Int32) dX9_barRequest_15 (by decide) ?_
    obtain rfl := Option.some.inj h
    exact V_iret hC hr hlk dX9_barRequest_16
  · have h := ite_f c2 h
    refine V_aload_n hC dX9_barRequest_7 rfl 0 rfl ?_
    refine V_iload_n hC dX9_barRequest_8 rfl 2 rfl ?_
    obtain ⟨q3, e3, h⟩ := bind_some h
    refine V_cVr hC [.int x2] (c_X9_isSection (l := l) hC.2.2.2.2.2.2.2 e3) kd_X9_isSection kv_X9_isSection gw_1326 (r_m0_0).o rfl ⟨Nat.le_of_ble_eq_true rfl, Nat.le_of_ble_eq_true rfl⟩ rfl (Nat.le_of_ble_eq_true rfl) dX9_barRequest_9 ⟨Nat.zero_le _, Nat.zero_le _⟩ rfl ?_
    refine V_if_ne hC 17 dX9_barRequest_12 (by decide) (fun c4 => ?_) (fun c4 => ?_)
    · have h := ite_f c4 h
      refine V_iload_n hC dX9_barRequest_17 rfl 3 rfl ?_
      refine V_iconst hC (1 : Int32) dX9_barRequest_18 (by decide) ?_
      refine V_sipush hC (1000 : Int32) dX9_barRequest_19 (by decide) ?_
      refine V_cSr hC [.int x3, .int (1 : Int32), .int (1000 : Int32)] (c_X9_within (l := l) hC.2.2.2.2.2.2.2 rfl) kd_X9_within gw_1331 gw_1330 ⟨Nat.le_of_ble_eq_true rfl, Nat.le_of_ble_eq_true rfl⟩ rfl (Nat.le_of_ble_eq_true rfl) dX9_barRequest_22 ⟨Nat.zero_le _, Nat.zero_le _⟩ rfl ?_
      refine V_if_ne hC 30 dX9_barRequest_25 (by decide) (fun c6 => ?_) (fun c6 => ?_)
      · have h := ite_f c6 h
        refine V_aload_n hC dX9_barRequest_30 rfl 0 rfl ?_
        refine V_iload_n hC dX9_barRequest_31 rfl 1 rfl ?_
        obtain ⟨q7, e7, h⟩ := bind_some h
        refine V_cVr hC [.int x1] (c_X9_placeOf (l := l) hC.2.2.2.2.2.2.2 e7) kd_X9_placeOf kv_X9_placeOf gw_1466 (r_m0_0).o rfl ⟨Nat.le_of_ble_eq_true rfl, Nat.le_of_ble_eq_true rfl⟩ rfl (Nat.le_of_ble_eq_true rfl) dX9_barRequest_32 ⟨Nat.zero_le _, Nat.zero_le _⟩ rfl ?_
        refine V_iconst hC ((-1) : Int32) dX9_barRequest_35 (by decide) ?_
        refine V_icmp_ne hC 48 dX9_barRequest_36 (by decide) (fun c8 => ?_) (fun c8 => ?_)
        · have h := ite_f c8 h
          refine V_sub [0, 1, 2, 4] rfl ?_
          exact b_X9_barRequest_48 hC hr hlk h
        · have h := ite_t c8 h
          refine V_aload_n hC dX9_barRequest_39 rfl 0 rfl ?_
          obtain ⟨q24, e24, h⟩ := bind_some h
          refine V_cVr hC [] (c_X9_waits (l := l) hC.2.2.2.2.2.2.2 e24) kd_X9_waits kv_X9_waits gw_1356 (r_m0_0).o rfl ⟨Nat.le_of_ble_eq_true rfl, Nat.le_of_ble_eq_true rfl⟩ rfl (Nat.le_of_ble_eq_true rfl) dX9_barRequest_40 ⟨Nat.zero_le _, Nat.zero_le _⟩ rfl ?_
          refine V_bipush hC (8 : Int32) dX9_barRequest_43 (by decide) ?_
          refine V_icmp_ne hC 52 dX9_barRequest_45 (by decide) (fun c25 => ?_) (fun c25 => ?_)
          · have h := ite_f c25 h
            refine V_iconst hC (0 : Int32) dX9_barRequest_52 (by decide) ?_
            refine V_sub [0, 1, 2, 4] rfl ?_
            exact b_X9_barRequest_53 hC hr hlk h
          · have h := ite_t c25 h
            refine V_sub [0, 1, 2, 4] rfl ?_
            exact b_X9_barRequest_48 hC hr hlk h
      · have h := ite_t c6 h
        refine V_iconst hC (2 : Int32) dX9_barRequest_28 (by decide) ?_
        obtain rfl := Option.some.inj h
        exact V_iret hC hr hlk dX9_barRequest_29
    · have h := ite_t c4 h
      refine V_iconst hC (1 : Int32) dX9_barRequest_15 (by decide) ?_
      obtain rfl := Option.some.inj h
      exact V_iret hC hr hlk dX9_barRequest_16
theorem b_X9_requests_35 {rv : Int32} {Mf : Mem} {x1 : Int32} {x2 : Int32} {x3 : Int32} {x4 : Int32} {M : Mem} (hC : Cx p s m args c cX9_requests RX9 6 G) (hr : meth.sig.returnType = some .int) (hlk : meth.locks = false) (h : B_X9_requests_35 x1 x2 x3 x4 M = some (rv, Mf)) : V p l e (rmk 7) s m args below meth c 6 G 0 0 (MQ below (gQ G (some (.int rv)) Mf) args s 0 0 (gA G)) 35 [(0, .ref (adr G 7 0)), (1, .int x1), (2, .int x2), (3, .int x3), (4, .int x4)] [] M := by
  refine V_aload_n hC dX9_requests_35 rfl 0 rfl ?_
  obtain ⟨q3, e3, h⟩ := bind_some h
  refine V_cVr hC [] (c_X9_waits (l := l) hC.2.2.2.2.2.2.2 e3) kd_X9_waits kv_X9_waits gw_1356 (r_m0_0).o rfl ⟨Nat.le_of_ble_eq_true rfl, Nat.le_of_ble_eq_true rfl⟩ rfl (Nat.le_of_ble_eq_true rfl) dX9_requests_36 ⟨Nat.zero_le _, Nat.zero_le _⟩ rfl ?_
  refine V_istore hC ([(5, .int q3), (0, .ref (adr G 7 0)), (1, .int x1), (2, .int x2), (3, .int x3), (4, .int x4)]) dX9_requests_39 (by decide) rfl ?_
  refine V_aload_n hC dX9_requests_41 rfl 1 rfl ?_
  refine V_getR hC (r_m0_0) fw_X9_7 dX9_requests_42 ?_
  refine V_iload hC dX9_requests_45 0 rfl ?_
  refine V_iconst hC (0 : Int32) dX9_requests_47 (by decide) ?_
  refine V_cSr hC [.int q3, .int (0 : Int32)] (c_X9_wait (l := l) hC.2.2.2.2.2.2.2 rfl) kd_X9_wait gw_1361 gw_1360 ⟨Nat.le_of_ble_eq_true rfl, Nat.le_of_ble_eq_true rfl⟩ rfl (Nat.le_of_ble_eq_true rfl) dX9_requests_48 ⟨Nat.zero_le _, Nat.zero_le _⟩ rfl ?_
  refine V_iload_n hC dX9_requests_51 rfl 2 rfl ?_
  obtain ⟨c5, h⟩ := ite_some h
  refine V_iast hC (a_m1) c5 dX9_requests_52 ?_
  refine V_aload_n hC dX9_requests_53 rfl 1 rfl ?_
  refine V_getR hC (r_m0_0) fw_X9_7 dX9_requests_54 ?_
  refine V_iload hC dX9_requests_57 0 rfl ?_
  refine V_iconst hC (1 : Int32) dX9_requests_59 (by decide) ?_
  refine V_cSr hC [.int q3, .int (1 : Int32)] (c_X9_wait (l := l) hC.2.2.2.2.2.2.2 rfl) kd_X9_wait gw_1361 gw_1360 ⟨Nat.le_of_ble_eq_true rfl, Nat.le_of_ble_eq_true rfl⟩ rfl (Nat.le_of_ble_eq_true rfl) dX9_requests_60 ⟨Nat.zero_le _, Nat.zero_le _⟩ rfl ?_
  refine V_iload_n hC dX9_requests_63 rfl 3 rfl ?_
  obtain ⟨c7, h⟩ := ite_some h
  refine V_iast hC (a_m1) c7 dX9_requests_64 ?_
  refine V_aload_n hC dX9_requests_65 rfl 1 rfl ?_
  refine V_getR hC (r_m0_0) fw_X9_7 dX9_requests_66 ?_
  refine V_iload hC dX9_requests_69 0 rfl ?_
  refine V_iconst hC (2 : Int32) dX9_requests_71 (by decide) ?_
  refine V_cSr hC [.int q3, .int (2 : Int32)] (c_X9_wait (l := l) hC.2.2.2.2.2.2.2 rfl) kd_X9_wait gw_1361 gw_1360 ⟨Nat.le_of_ble_eq_true rfl, Nat.le_of_ble_eq_true rfl⟩ rfl (Nat.le_of_ble_eq_true rfl) dX9_requests_72 ⟨Nat.zero_le _, Nat.zero_le _⟩ rfl ?_
  refine V_iload_n hC dX9_requests_75 rfl 4 rfl ?_
  obtain ⟨c9, h⟩ := ite_some h
  refine V_iast hC (a_m1) c9 dX9_requests_76 ?_
  refine V_aload_n hC dX9_requests_77 rfl 1 rfl ?_
  refine V_getR hC (r_m0_0) fw_X9_7 dX9_requests_78 ?_
  refine V_iload hC dX9_requests_81 0 rfl ?_
  refine V_iconst hC (3 : Int32) dX9_requests_83 (by decide) ?_
  refine V_cSr hC [.int q3, .int (3 : Int32)] (c_X9_wait (l := l) hC.2.2.2.2.2.2.2 rfl) kd_X9_wait gw_1361 gw_1360 ⟨Nat.le_of_ble_eq_true rfl, Nat.le_of_ble_eq_true rfl⟩ rfl (Nat.le_of_ble_eq_true rfl) dX9_requests_84 ⟨Nat.zero_le _, Nat.zero_le _⟩ rfl ?_
  refine V_iload hC dX9_requests_87 5 rfl ?_
  obtain ⟨c11, h⟩ := ite_some h
  refine V_iast hC (a_m1) c11 dX9_requests_89 ?_
  refine V_aload_n hC dX9_requests_90 rfl 1 rfl ?_
  refine V_getR hC (r_m0_0) fw_X9_7 dX9_requests_91 ?_
  refine V_sipush hC (2662 : Int32) dX9_requests_94 (by decide) ?_
  refine V_dup2 hC dX9_requests_97 rfl rfl ?_
  refine V_iald hC (a_m1) (by decide) dX9_requests_98 ?_
  refine V_iconst hC (1 : Int32) dX9_requests_99 (by decide) ?_
  refine V_iadd hC dX9_requests_100 ?_
  refine V_iast hC (a_m1) (by decide) dX9_requests_101 ?_
  refine V_iconst hC ((-1) : Int32) dX9_requests_102 (by decide) ?_
  obtain ⟨rfl, rfl⟩ := Prod.mk.inj (Option.some.inj h)
  exact V_iret hC hr hlk dX9_requests_103
theorem c_X9_requests {l : Launch} {G : Geo} {x1 : Int32} {x2 : Int32} {x3 : Int32} {x4 : Int32} {rv : Int32} {Mf : Mem} {M : Mem} (hG : gD G) (h : f_X9_requests x1 x2 x3 x4 M = some (rv, Mf)) : Met l yX9_requests (.code yX9_requests cX9_requests 6 (some .int) :: GL) (rmk 7) (gP G [.ref (adr G 7 0), .int x1, .int x2, .int x3, .int x4] M) (gQ G (some (.int rv)) Mf) 0 0 (gA G) := by
  refine Met_of (own := RX9) (L := [(0, .ref (adr G 7 0)), (1, .int x1), (2, .int x2), (3, .int x3), (4, .int x4)]) hG (by decide +kernel) rfl (Nat.le_of_ble_eq_true rfl) rfl ?_
  intro p e s m args below meth c hC hr hlk
  refine V_aload_n hC dX9_requests_0 rfl 0 rfl ?_
  refine V_iload_n hC dX9_requests_1 rfl 1 rfl ?_
  refine V_iload_n hC dX9_requests_2 rfl 2 rfl ?_
  refine V_iload hC dX9_requests_3 4 rfl ?_
  obtain ⟨q1, e1, h⟩ := bind_some h
  refine V_cVr hC [.int x1, .int x2, .int x4] (c_X9_canGrant (l := l) hC.2.2.2.2.2.2.2 e1) kd_X9_canGrant kv_X9_canGrant gw_1474 (r_m0_0).o rfl ⟨Nat.le_of_ble_eq_true rfl, Nat.le_of_ble_eq_true rfl⟩ rfl (Nat.le_of_ble_eq_true rfl) dX9_requests_5 ⟨Nat.zero_le _, Nat.zero_le _⟩ rfl ?_
  refine V_if_eq hC 35 dX9_requests_8 (by decide) (fun c2 => ?_) (fun c2 => ?_)
  · have h := ite_t c2 h
    exact b_X9_requests_35 hC hr hlk h
  · have h := ite_f c2 h
    refine V_aload_n hC dX9_requests_11 rfl 0 rfl ?_
    refine V_aload_n hC dX9_requests_12 rfl 0 rfl ?_
    obtain ⟨q12, e12, h⟩ := bind_some h
    refine V_cVr hC [] (c_X9_waits (l := l) hC.2.2.2.2.2.2.2 e12) kd_X9_waits kv_X9_waits gw_1356 (r_m0_0).o rfl ⟨Nat.le_of_ble_eq_true rfl, Nat.le_of_ble_eq_true rfl⟩ rfl (Nat.le_of_ble_eq_true rfl) dX9_requests_13 ⟨Nat.zero_le _, Nat.zero_le _⟩ rfl ?_
    refine V_iload_n hC dX9_requests_16 rfl 2 rfl ?_
    refine V_iload hC dX9_requests_17 4 rfl ?_
    obtain ⟨q13, e13, h⟩ := bind_some h
    refine V_cVr hC [.int q12, .int x2, .int x4] (c_X9_isBlockedAhead (l := l) hC.2.2.2.2.2.2.2 e13) kd_X9_isBlockedAhead kv_X9_isBlockedAhead gw_1486 (r_m0_0).o rfl ⟨Nat.le_of_ble_eq_true rfl, Nat.le_of_ble_eq_true rfl⟩ rfl (Nat.le_of_ble_eq_true rfl) dX9_requests_19 ⟨Nat.zero_le _, Nat.zero_le _⟩ rfl ?_
    refine V_if_ne hC 35 dX9_requests_22 (by decide) (fun c14 => ?_) (fun c14 => ?_)
    · have h := ite_f c14 h
      exact b_X9_requests_35 hC hr hlk h
    · have h := ite_t c14 h
      refine V_aload_n hC dX9_requests_25 rfl 0 rfl ?_
      refine V_iload_n hC dX9_requests_26 rfl 1 rfl ?_
      refine V_iload_n hC dX9_requests_27 rfl 2 rfl ?_
      refine V_iload_n hC dX9_requests_28 rfl 3 rfl ?_
      refine V_iload hC dX9_requests_29 4 rfl ?_
      obtain ⟨q15, e15, h⟩ := bind_some h
      refine V_cVr hC [.int x1, .int x2, .int x3, .int x4] (c_X9_grants (l := l) (rv := q15.1) (Mf := q15.2) hC.2.2.2.2.2.2.2 e15) kd_X9_grants kv_X9_grants gw_1494 (r_m0_0).o rfl ⟨Nat.le_of_ble_eq_true rfl, Nat.le_of_ble_eq_true rfl⟩ rfl (Nat.le_of_ble_eq_true rfl) dX9_requests_31 ⟨Nat.zero_le _, Nat.zero_le _⟩ rfl ?_
      obtain ⟨rfl, rfl⟩ := Prod.mk.inj (Option.some.inj h)
      exact V_iret hC hr hlk dX9_requests_34
end
